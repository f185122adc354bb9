theorem sc_cI {t : Bool} {v : Int32} {h : am_H} {k : Int32 → am_H → Option am_O} : am_cI t (some (.inl (some (.int v), h))) k = k v h := rfl
set_option maxRecDepth 100000 in
set_option maxHeartbeats 4000000 in
theorem t315 (q : rkQ) (a : Int32) : fm_315 (.ref 0) a (hp0 q) = some (.inr (2, hpE q)) := sorry
set_option maxRecDepth 100000 in
set_option maxHeartbeats 4000000 in
theorem t586 (q : rkQ) (a : Int32) : fm_586 (.ref 174) a (hpE q) = some (.inl (some (.int 1), hpE q)) := sorry
set_option maxRecDepth 100000 in
set_option maxHeartbeats 4000000 in
theorem w_5 (q : rkQ) {X : am_X} (N : Nat) (a1 : Int32) (a2 : Int32) : fm_73 N (.ref 0) a1 a2 (.ref 268) (hp0 q) = some (.inl (some (.int 1), hpE q)) := sorry
set_option maxRecDepth 100000 in
set_option maxHeartbeats 4000000 in
theorem r_5 (q : rkQ) {X : am_X} (N : Nat) (a1 : Int32) (a2 : Int32) : fm_370 N (.ref 174) a1 a2 (hpE q) = some (.inl (some (.int 0), hpT q 1)) := sorry
set_option maxRecDepth 100000 in
set_option maxHeartbeats 4000000 in
theorem p_5 (q : rkQ) {X : am_X} (N : Nat) (a1 : Int32) (a2 : Int32) : ∃ h', opBI (fm_73 N (.ref 0) a1 a2 (.ref 268) (hp0 q)) (fun h1 => fm_370 N (.ref 174) a1 a2 h1) vfI h' ∧ fits h' := ⟨hpT q 1, ⟨1, hpE q, 0, 0, w_5 q (X := X) N a1 a2, rfl, r_5 q (X := X) N a1 a2, rfl, rfl, fun e => absurd e (by decide)⟩, hpT_fits q 1⟩
set_option maxRecDepth 100000 in
set_option maxHeartbeats 4000000 in
theorem w_6 (q : rkQ) {X : am_X} (N : Nat) (a1 : Int32) : fm_80 (.ref 0) a1 (.ref 268) (hp0 q) = some (.inl (some (.int 1), hpE q)) := sorry
set_option maxRecDepth 100000 in
set_option maxHeartbeats 4000000 in
theorem r_6 (q : rkQ) {X : am_X} (N : Nat) (a1 : Int32) : fm_372 (.ref 174) a1 (hpE q) = some (.inl (some (.long 0), hpT q 1)) := sorry
set_option maxRecDepth 100000 in
set_option maxHeartbeats 4000000 in
theorem p_6 (q : rkQ) {X : am_X} (N : Nat) (a1 : Int32) : ∃ h', opBL (fm_80 (.ref 0) a1 (.ref 268) (hp0 q)) (fun h1 => fm_372 (.ref 174) a1 h1) vfI h' ∧ fits h' := ⟨hpT q 1, ⟨1, hpE q, 0, 0, w_6 q (X := X) N a1, rfl, r_6 q (X := X) N a1, rfl, rfl, fun e => absurd e (by decide)⟩, hpT_fits q 1⟩
set_option maxRecDepth 100000 in
set_option maxHeartbeats 4000000 in
theorem w_7 (q : rkQ) {X : am_X} (N : Nat) (a1 : Int32) (a2 : Int32) (a3 : Int32) : fm_82 (.ref 0) a1 a2 a3 (.ref 268) (hp0 q) = some (.inl (some (.int 1), hpE q)) := sorry
set_option maxRecDepth 100000 in
set_option maxHeartbeats 4000000 in
theorem r_7 (q : rkQ) {X : am_X} (N : Nat) (a1 : Int32) (a2 : Int32) (a3 : Int32) : fm_373 (.ref 174) a1 a2 a3 (hpE q) = some (.inl (some (.int 0), hpT q 1)) := sorry
set_option maxRecDepth 100000 in
set_option maxHeartbeats 4000000 in
theorem p_7 (q : rkQ) {X : am_X} (N : Nat) (a1 : Int32) (a2 : Int32) (a3 : Int32) : ∃ h', opBI (fm_82 (.ref 0) a1 a2 a3 (.ref 268) (hp0 q)) (fun h1 => fm_373 (.ref 174) a1 a2 a3 h1) vfI h' ∧ fits h' := ⟨hpT q 1, ⟨1, hpE q, 0, 0, w_7 q (X := X) N a1 a2 a3, rfl, r_7 q (X := X) N a1 a2 a3, rfl, rfl, fun e => absurd e (by decide)⟩, hpT_fits q 1⟩
set_option maxRecDepth 100000 in
set_option maxHeartbeats 4000000 in
theorem w_8 (q : rkQ) {X : am_X} (N : Nat) (a1 : Int32) (a2 : Int32) : fm_84 N (.ref 0) a1 a2 (.ref 268) (hp0 q) = some (.inl (some (.int 1), hpE q)) := sorry
set_option maxRecDepth 100000 in
set_option maxHeartbeats 4000000 in
theorem r_8 (q : rkQ) {X : am_X} (N : Nat) (a1 : Int32) (a2 : Int32) : fm_374 N (.ref 174) a1 a2 (hpE q) = some (.inl (some (.int 0), hpT q 1)) := sorry
set_option maxRecDepth 100000 in
set_option maxHeartbeats 4000000 in
theorem p_8 (q : rkQ) {X : am_X} (N : Nat) (a1 : Int32) (a2 : Int32) : ∃ h', opBI (fm_84 N (.ref 0) a1 a2 (.ref 268) (hp0 q)) (fun h1 => fm_374 N (.ref 174) a1 a2 h1) vfZ h' ∧ fits h' := ⟨hpT q 1, ⟨1, hpE q, 0, 0, w_8 q (X := X) N a1 a2, rfl, r_8 q (X := X) N a1 a2, rfl, rfl, fun e => absurd e (by decide)⟩, hpT_fits q 1⟩
set_option maxRecDepth 100000 in
set_option maxHeartbeats 4000000 in
theorem w_11 (q : rkQ) {X : am_X} (N : Nat) (a1 : Int32) : fm_96 N (.ref 0) a1 (.ref 268) (hp0 q) = some (.inl (some (.int 1), hpE q)) := sorry
set_option maxRecDepth 100000 in
set_option maxHeartbeats 4000000 in
theorem r_11 (q : rkQ) {X : am_X} (N : Nat) (a1 : Int32) : fm_390 N (.ref 174) a1 (hpE q) = some (.inl (some (.long 0), hpT q 1)) := sorry
set_option maxRecDepth 100000 in
set_option maxHeartbeats 4000000 in
theorem p_11 (q : rkQ) {X : am_X} (N : Nat) (a1 : Int32) : ∃ h', opBL (fm_96 N (.ref 0) a1 (.ref 268) (hp0 q)) (fun h1 => fm_390 N (.ref 174) a1 h1) vfI h' ∧ fits h' := ⟨hpT q 1, ⟨1, hpE q, 0, 0, w_11 q (X := X) N a1, rfl, r_11 q (X := X) N a1, rfl, rfl, fun e => absurd e (by decide)⟩, hpT_fits q 1⟩
set_option maxRecDepth 100000 in
set_option maxHeartbeats 4000000 in
theorem w_17 (q : rkQ) {X : am_X} (N : Nat) (a1 : Int32) (a2 : Int32) : fm_113 N (.ref 0) a1 a2 (.ref 268) (hp0 q) = some (.inl (some (.int 1), hpE q)) := sorry
set_option maxRecDepth 100000 in
set_option maxHeartbeats 4000000 in
theorem r_17 (q : rkQ) {X : am_X} (N : Nat) (a1 : Int32) (a2 : Int32) : fm_401 N (.ref 174) a1 a2 (hpE q) = some (.inl (some (.int 0), hpT q 1)) := sorry
set_option maxRecDepth 100000 in
set_option maxHeartbeats 4000000 in
theorem p_17 (q : rkQ) {X : am_X} (N : Nat) (a1 : Int32) (a2 : Int32) : ∃ h', opBI (fm_113 N (.ref 0) a1 a2 (.ref 268) (hp0 q)) (fun h1 => fm_401 N (.ref 174) a1 a2 h1) vfI h' ∧ fits h' := ⟨hpT q 1, ⟨1, hpE q, 0, 0, w_17 q (X := X) N a1 a2, rfl, r_17 q (X := X) N a1 a2, rfl, rfl, fun e => absurd e (by decide)⟩, hpT_fits q 1⟩
set_option maxRecDepth 100000 in
set_option maxHeartbeats 4000000 in
theorem w_18 (q : rkQ) {X : am_X} (N : Nat) (a1 : Int32) (a2 : Int32) (a3 : Int32) (a4 : Int32) : fm_129 N (.ref 0) a1 a2 a3 a4 (.ref 268) (hp0 q) = some (.inl (some (.int 1), hpE q)) := sorry
set_option maxRecDepth 100000 in
set_option maxHeartbeats 4000000 in
theorem r_18 (q : rkQ) {X : am_X} (N : Nat) (a1 : Int32) (a2 : Int32) (a3 : Int32) (a4 : Int32) : fm_420 N (.ref 174) a1 a2 a3 a4 (hpE q) = some (.inl (some (.int 0), hpT q 1)) := sorry
set_option maxRecDepth 100000 in
set_option maxHeartbeats 4000000 in
theorem p_18 (q : rkQ) {X : am_X} (N : Nat) (a1 : Int32) (a2 : Int32) (a3 : Int32) (a4 : Int32) : ∃ h', opBI (fm_129 N (.ref 0) a1 a2 a3 a4 (.ref 268) (hp0 q)) (fun h1 => fm_420 N (.ref 174) a1 a2 a3 a4 h1) vfI h' ∧ fits h' := ⟨hpT q 1, ⟨1, hpE q, 0, 0, w_18 q (X := X) N a1 a2 a3 a4, rfl, r_18 q (X := X) N a1 a2 a3 a4, rfl, rfl, fun e => absurd e (by decide)⟩, hpT_fits q 1⟩
set_option maxRecDepth 100000 in
set_option maxHeartbeats 4000000 in
theorem w_21 (q : rkQ) {X : am_X} (N : Nat) (a1 : Int32) (a2 : Int32) : fm_131 N (.ref 0) a1 a2 (.ref 268) (hp0 q) = some (.inl (some (.int 1), hpE q)) := sorry
set_option maxRecDepth 100000 in
set_option maxHeartbeats 4000000 in
theorem r_21 (q : rkQ) {X : am_X} (N : Nat) (a1 : Int32) (a2 : Int32) : fm_424 N (.ref 174) a1 a2 (hpE q) = some (.inl (some (.int 0), hpT q 1)) := sorry
set_option maxRecDepth 100000 in
set_option maxHeartbeats 4000000 in
theorem p_21 (q : rkQ) {X : am_X} (N : Nat) (a1 : Int32) (a2 : Int32) : ∃ h', opBI (fm_131 N (.ref 0) a1 a2 (.ref 268) (hp0 q)) (fun h1 => fm_424 N (.ref 174) a1 a2 h1) vfI h' ∧ fits h' := ⟨hpT q 1, ⟨1, hpE q, 0, 0, w_21 q (X := X) N a1 a2, rfl, r_21 q (X := X) N a1 a2, rfl, rfl, fun e => absurd e (by decide)⟩, hpT_fits q 1⟩
set_option maxRecDepth 100000 in
set_option maxHeartbeats 4000000 in
theorem w_22 (q : rkQ) {X : am_X} (N : Nat) (a1 : Int32) (a2 : Int32) (a3 : Int32) : fm_137 N (.ref 0) a1 (if a2 = 0 then 0 else 1) a3 (.ref 268) (hp0 q) = some (.inl (some (.int 1), hpE q)) := sorry
set_option maxRecDepth 100000 in
set_option maxHeartbeats 4000000 in
theorem r_22 (q : rkQ) {X : am_X} (N : Nat) (a1 : Int32) (a2 : Int32) (a3 : Int32) : fm_427 N (.ref 174) a1 (if a2 = 0 then 0 else 1) a3 (hpE q) = some (.inl (some (.long 0), hpT q 1)) := sorry
set_option maxRecDepth 100000 in
set_option maxHeartbeats 4000000 in
theorem p_22 (q : rkQ) {X : am_X} (N : Nat) (a1 : Int32) (a2 : Int32) (a3 : Int32) : ∃ h', opBL (fm_137 N (.ref 0) a1 (if a2 = 0 then 0 else 1) a3 (.ref 268) (hp0 q)) (fun h1 => fm_427 N (.ref 174) a1 (if a2 = 0 then 0 else 1) a3 h1) vfI h' ∧ fits h' := ⟨hpT q 1, ⟨1, hpE q, 0, 0, w_22 q (X := X) N a1 a2 a3, rfl, r_22 q (X := X) N a1 a2 a3, rfl, rfl, fun e => absurd e (by decide)⟩, hpT_fits q 1⟩
set_option maxRecDepth 100000 in
set_option maxHeartbeats 4000000 in
theorem w_23 (q : rkQ) {X : am_X} (N : Nat) (a1 : Int32) (a2 : Int32) : fm_145 N (.ref 0) a1 a2 (.ref 268) (hp0 q) = some (.inl (some (.int 1), hpE q)) := sorry
set_option maxRecDepth 100000 in
set_option maxHeartbeats 4000000 in
theorem r_23 (q : rkQ) {X : am_X} (N : Nat) (a1 : Int32) (a2 : Int32) : fm_431 N (.ref 174) a1 a2 (hpE q) = some (.inl (some (.long 0), hpT q 1)) := sorry
set_option maxRecDepth 100000 in
set_option maxHeartbeats 4000000 in
theorem p_23 (q : rkQ) {X : am_X} (N : Nat) (a1 : Int32) (a2 : Int32) : ∃ h', opBL (fm_145 N (.ref 0) a1 a2 (.ref 268) (hp0 q)) (fun h1 => fm_431 N (.ref 174) a1 a2 h1) vfI h' ∧ fits h' := ⟨hpT q 1, ⟨1, hpE q, 0, 0, w_23 q (X := X) N a1 a2, rfl, r_23 q (X := X) N a1 a2, rfl, rfl, fun e => absurd e (by decide)⟩, hpT_fits q 1⟩
set_option maxRecDepth 100000 in
set_option maxHeartbeats 4000000 in
theorem w_24 (q : rkQ) {X : am_X} (N : Nat) (a1 : Int32) (a2 : Int32) : fm_147 N (.ref 0) a1 (if a2 = 0 then 0 else 1) (.ref 268) (hp0 q) = some (.inl (some (.int 1), hpE q)) := sorry
set_option maxRecDepth 100000 in
set_option maxHeartbeats 4000000 in
theorem r_24 (q : rkQ) {X : am_X} (N : Nat) (a1 : Int32) (a2 : Int32) : fm_433 N (.ref 174) a1 (if a2 = 0 then 0 else 1) (hpE q) = some (.inl (some (.int 0), hpT q 1)) := sorry
set_option maxRecDepth 100000 in
set_option maxHeartbeats 4000000 in
theorem p_24 (q : rkQ) {X : am_X} (N : Nat) (a1 : Int32) (a2 : Int32) : ∃ h', opBI (fm_147 N (.ref 0) a1 (if a2 = 0 then 0 else 1) (.ref 268) (hp0 q)) (fun h1 => fm_433 N (.ref 174) a1 (if a2 = 0 then 0 else 1) h1) vfI h' ∧ fits h' := ⟨hpT q 1, ⟨1, hpE q, 0, 0, w_24 q (X := X) N a1 a2, rfl, r_24 q (X := X) N a1 a2, rfl, rfl, fun e => absurd e (by decide)⟩, hpT_fits q 1⟩
set_option maxRecDepth 100000 in
set_option maxHeartbeats 4000000 in
theorem w_25 (q : rkQ) {X : am_X} (N : Nat) (a1 : Int32) (a2 : Int32) : fm_149 N (.ref 0) a1 a2 (.ref 268) (hp0 q) = some (.inl (some (.int 1), hpE q)) := sorry
set_option maxRecDepth 100000 in
set_option maxHeartbeats 4000000 in
theorem r_25 (q : rkQ) {X : am_X} (N : Nat) (a1 : Int32) (a2 : Int32) : fm_434 N (.ref 174) a1 a2 (hpE q) = some (.inl (some (.int 0), hpT q 1)) := sorry
set_option maxRecDepth 100000 in
set_option maxHeartbeats 4000000 in
theorem p_25 (q : rkQ) {X : am_X} (N : Nat) (a1 : Int32) (a2 : Int32) : ∃ h', opBI (fm_149 N (.ref 0) a1 a2 (.ref 268) (hp0 q)) (fun h1 => fm_434 N (.ref 174) a1 a2 h1) vfI h' ∧ fits h' := ⟨hpT q 1, ⟨1, hpE q, 0, 0, w_25 q (X := X) N a1 a2, rfl, r_25 q (X := X) N a1 a2, rfl, rfl, fun e => absurd e (by decide)⟩, hpT_fits q 1⟩
set_option maxRecDepth 100000 in
set_option maxHeartbeats 4000000 in
theorem w_27 (q : rkQ) {X : am_X} (N : Nat) (a1 : Int32) (a2 : Int32) : fm_156 N (.ref 0) a1 a2 (.ref 268) (hp0 q) = some (.inl (some (.int 1), hpE q)) := sorry
set_option maxRecDepth 100000 in
set_option maxHeartbeats 4000000 in
theorem r_27 (q : rkQ) {X : am_X} (N : Nat) (a1 : Int32) (a2 : Int32) : fm_438 N (.ref 174) a1 a2 (hpE q) = some (.inl (some (.int 0), hpT q 1)) := sorry
set_option maxRecDepth 100000 in
set_option maxHeartbeats 4000000 in
theorem p_27 (q : rkQ) {X : am_X} (N : Nat) (a1 : Int32) (a2 : Int32) : ∃ h', opBI (fm_156 N (.ref 0) a1 a2 (.ref 268) (hp0 q)) (fun h1 => fm_438 N (.ref 174) a1 a2 h1) vfI h' ∧ fits h' := ⟨hpT q 1, ⟨1, hpE q, 0, 0, w_27 q (X := X) N a1 a2, rfl, r_27 q (X := X) N a1 a2, rfl, rfl, fun e => absurd e (by decide)⟩, hpT_fits q 1⟩
set_option maxRecDepth 100000 in
set_option maxHeartbeats 4000000 in
theorem w_28 (q : rkQ) {X : am_X} (N : Nat) (a1 : Int32) (a2 : Int32) (a3 : Int32) : fm_185 N (.ref 0) a1 a2 a3 (.ref 268) (hp0 q) = some (.inl (some (.int 1), hpE q)) := sorry
set_option maxRecDepth 100000 in
set_option maxHeartbeats 4000000 in
theorem r_28 (q : rkQ) {X : am_X} (N : Nat) (a1 : Int32) (a2 : Int32) (a3 : Int32) : fm_469 N (.ref 174) a1 a2 a3 (hpE q) = some (.inl (some (.int 0), hpT q 1)) := sorry
set_option maxRecDepth 100000 in
set_option maxHeartbeats 4000000 in
theorem p_28 (q : rkQ) {X : am_X} (N : Nat) (a1 : Int32) (a2 : Int32) (a3 : Int32) : ∃ h', opBI (fm_185 N (.ref 0) a1 a2 a3 (.ref 268) (hp0 q)) (fun h1 => fm_469 N (.ref 174) a1 a2 a3 h1) vfI h' ∧ fits h' := ⟨hpT q 1, ⟨1, hpE q, 0, 0, w_28 q (X := X) N a1 a2 a3, rfl, r_28 q (X := X) N a1 a2 a3, rfl, rfl, fun e => absurd e (by decide)⟩, hpT_fits q 1⟩
set_option maxRecDepth 100000 in
set_option maxHeartbeats 4000000 in
theorem w_29 (q : rkQ) {X : am_X} (N : Nat) (a1 : Int32) (a2 : Int32) (a3 : Int32) (a4 : Int32) : fm_188 N (.ref 0) a1 a2 ((((Int32.toInt64 a3) <<< (Int32.toInt64 32 &&& 63)) ||| ((Int32.toInt64 a4) &&& 4294967295))) (.ref 268) (hp0 q) = some (.inl (some (.int 1), hpE q)) := sorry
set_option maxRecDepth 100000 in
set_option maxHeartbeats 4000000 in
theorem r_29 (q : rkQ) {X : am_X} (N : Nat) (a1 : Int32) (a2 : Int32) (a3 : Int32) (a4 : Int32) : fm_470 N (.ref 174) a1 a2 ((((Int32.toInt64 a3) <<< (Int32.toInt64 32 &&& 63)) ||| ((Int32.toInt64 a4) &&& 4294967295))) (hpE q) = some (.inl (some (.int 0), hpT q 1)) := sorry
set_option maxRecDepth 100000 in
set_option maxHeartbeats 4000000 in
theorem p_29 (q : rkQ) {X : am_X} (N : Nat) (a1 : Int32) (a2 : Int32) (a3 : Int32) (a4 : Int32) : ∃ h', opBI (fm_188 N (.ref 0) a1 a2 ((((Int32.toInt64 a3) <<< (Int32.toInt64 32 &&& 63)) ||| ((Int32.toInt64 a4) &&& 4294967295))) (.ref 268) (hp0 q)) (fun h1 => fm_470 N (.ref 174) a1 a2 ((((Int32.toInt64 a3) <<< (Int32.toInt64 32 &&& 63)) ||| ((Int32.toInt64 a4) &&& 4294967295))) h1) vfI h' ∧ fits h' := ⟨hpT q 1, ⟨1, hpE q, 0, 0, w_29 q (X := X) N a1 a2 a3 a4, rfl, r_29 q (X := X) N a1 a2 a3 a4, rfl, rfl, fun e => absurd e (by decide)⟩, hpT_fits q 1⟩
set_option maxRecDepth 100000 in
set_option maxHeartbeats 4000000 in
theorem w_30 (q : rkQ) {X : am_X} (N : Nat) (a1 : Int32) (a2 : Int32) : fm_195 N (.ref 0) a1 a2 (.ref 268) (hp0 q) = some (.inl (some (.int 1), hpE q)) := sorry
set_option maxRecDepth 100000 in
set_option maxHeartbeats 4000000 in
theorem r_30 (q : rkQ) {X : am_X} (N : Nat) (a1 : Int32) (a2 : Int32) : fm_478 N (.ref 174) a1 a2 (hpE q) = some (.inl (some (.int 0), hpT q 1)) := sorry
set_option maxRecDepth 100000 in
set_option maxHeartbeats 4000000 in
theorem p_30 (q : rkQ) {X : am_X} (N : Nat) (a1 : Int32) (a2 : Int32) : ∃ h', opBI (fm_195 N (.ref 0) a1 a2 (.ref 268) (hp0 q)) (fun h1 => fm_478 N (.ref 174) a1 a2 h1) vfI h' ∧ fits h' := ⟨hpT q 1, ⟨1, hpE q, 0, 0, w_30 q (X := X) N a1 a2, rfl, r_30 q (X := X) N a1 a2, rfl, rfl, fun e => absurd e (by decide)⟩, hpT_fits q 1⟩
set_option maxRecDepth 100000 in
set_option maxHeartbeats 4000000 in
theorem w_31 (q : rkQ) {X : am_X} (N : Nat) (a1 : Int32) (a2 : Int32) (a3 : Int32) (a4 : Int32) : fm_197 N (.ref 0) a1 a2 ((((Int32.toInt64 a3) <<< (Int32.toInt64 32 &&& 63)) ||| ((Int32.toInt64 a4) &&& 4294967295))) (.ref 268) (hp0 q) = some (.inl (some (.int 1), hpE q)) := sorry
set_option maxRecDepth 100000 in
set_option maxHeartbeats 4000000 in
theorem r_31 (q : rkQ) {X : am_X} (N : Nat) (a1 : Int32) (a2 : Int32) (a3 : Int32) (a4 : Int32) : fm_486 N (.ref 174) a1 a2 ((((Int32.toInt64 a3) <<< (Int32.toInt64 32 &&& 63)) ||| ((Int32.toInt64 a4) &&& 4294967295))) (hpE q) = some (.inl (some (.int 0), hpT q 1)) := sorry
set_option maxRecDepth 100000 in
set_option maxHeartbeats 4000000 in
theorem p_31 (q : rkQ) {X : am_X} (N : Nat) (a1 : Int32) (a2 : Int32) (a3 : Int32) (a4 : Int32) : ∃ h', opBI (fm_197 N (.ref 0) a1 a2 ((((Int32.toInt64 a3) <<< (Int32.toInt64 32 &&& 63)) ||| ((Int32.toInt64 a4) &&& 4294967295))) (.ref 268) (hp0 q)) (fun h1 => fm_486 N (.ref 174) a1 a2 ((((Int32.toInt64 a3) <<< (Int32.toInt64 32 &&& 63)) ||| ((Int32.toInt64 a4) &&& 4294967295))) h1) vfI h' ∧ fits h' := ⟨hpT q 1, ⟨1, hpE q, 0, 0, w_31 q (X := X) N a1 a2 a3 a4, rfl, r_31 q (X := X) N a1 a2 a3 a4, rfl, rfl, fun e => absurd e (by decide)⟩, hpT_fits q 1⟩
set_option maxRecDepth 100000 in
set_option maxHeartbeats 4000000 in
theorem w_40 (q : rkQ) {X : am_X} (N : Nat) (a1 : Int32) (a2 : Int32) : fm_244 N (.ref 0) a1 a2 (.ref 268) (hp0 q) = some (.inl (some (.int 1), hpE q)) := sorry
set_option maxRecDepth 100000 in
set_option maxHeartbeats 4000000 in
theorem r_40 (q : rkQ) {X : am_X} (N : Nat) (a1 : Int32) (a2 : Int32) : fm_524 N (.ref 174) a1 a2 (hpE q) = some (.inl (some (.long 0), hpT q 1)) := sorry
set_option maxRecDepth 100000 in
set_option maxHeartbeats 4000000 in
theorem p_40 (q : rkQ) {X : am_X} (N : Nat) (a1 : Int32) (a2 : Int32) : ∃ h', opBL (fm_244 N (.ref 0) a1 a2 (.ref 268) (hp0 q)) (fun h1 => fm_524 N (.ref 174) a1 a2 h1) vfI h' ∧ fits h' := ⟨hpT q 1, ⟨1, hpE q, 0, 0, w_40 q (X := X) N a1 a2, rfl, r_40 q (X := X) N a1 a2, rfl, rfl, fun e => absurd e (by decide)⟩, hpT_fits q 1⟩
set_option maxRecDepth 100000 in
set_option maxHeartbeats 4000000 in
theorem w_42 (q : rkQ) {X : am_X} (N : Nat) (a1 : Int32) : fm_250 N (.ref 0) a1 (.ref 268) (hp0 q) = some (.inl (some (.int 1), hpE q)) := sorry
set_option maxRecDepth 100000 in
set_option maxHeartbeats 4000000 in
theorem r_42 (q : rkQ) {X : am_X} (N : Nat) (a1 : Int32) : fm_527 N (.ref 174) a1 (hpE q) = some (.inl (some (.int 0), hpT q 1)) := sorry
set_option maxRecDepth 100000 in
set_option maxHeartbeats 4000000 in
theorem p_42 (q : rkQ) {X : am_X} (N : Nat) (a1 : Int32) : ∃ h', opBI (fm_250 N (.ref 0) a1 (.ref 268) (hp0 q)) (fun h1 => fm_527 N (.ref 174) a1 h1) vfI h' ∧ fits h' := ⟨hpT q 1, ⟨1, hpE q, 0, 0, w_42 q (X := X) N a1, rfl, r_42 q (X := X) N a1, rfl, rfl, fun e => absurd e (by decide)⟩, hpT_fits q 1⟩
set_option maxRecDepth 100000 in
set_option maxHeartbeats 4000000 in
theorem w_43 (q : rkQ) {X : am_X} (N : Nat) (a1 : Int32) (a2 : Int32) : fm_254 N (.ref 0) a1 a2 (.ref 268) (hp0 q) = some (.inl (some (.int 1), hpE q)) := sorry
set_option maxRecDepth 100000 in
set_option maxHeartbeats 4000000 in
theorem r_43 (q : rkQ) {X : am_X} (N : Nat) (a1 : Int32) (a2 : Int32) : fm_530 N (.ref 174) a1 a2 (hpE q) = some (.inl (some (.int 0), hpT q 1)) := sorry
set_option maxRecDepth 100000 in
set_option maxHeartbeats 4000000 in
theorem p_43 (q : rkQ) {X : am_X} (N : Nat) (a1 : Int32) (a2 : Int32) : ∃ h', opBI (fm_254 N (.ref 0) a1 a2 (.ref 268) (hp0 q)) (fun h1 => fm_530 N (.ref 174) a1 a2 h1) vfI h' ∧ fits h' := ⟨hpT q 1, ⟨1, hpE q, 0, 0, w_43 q (X := X) N a1 a2, rfl, r_43 q (X := X) N a1 a2, rfl, rfl, fun e => absurd e (by decide)⟩, hpT_fits q 1⟩
set_option maxRecDepth 100000 in
set_option maxHeartbeats 4000000 in
theorem w_44 (q : rkQ) {X : am_X} (N : Nat) (a1 : Int32) (a2 : Int32) : fm_256 N (.ref 0) a1 a2 (.ref 268) (hp0 q) = some (.inl (some (.int 1), hpE q)) := sorry
set_option maxRecDepth 100000 in
set_option maxHeartbeats 4000000 in
theorem r_44 (q : rkQ) {X : am_X} (N : Nat) (a1 : Int32) (a2 : Int32) : fm_531 N (.ref 174) a1 a2 (hpE q) = some (.inl (some (.long 0), hpT q 1)) := sorry
set_option maxRecDepth 100000 in
set_option maxHeartbeats 4000000 in
theorem p_44 (q : rkQ) {X : am_X} (N : Nat) (a1 : Int32) (a2 : Int32) : ∃ h', opBL (fm_256 N (.ref 0) a1 a2 (.ref 268) (hp0 q)) (fun h1 => fm_531 N (.ref 174) a1 a2 h1) vfI h' ∧ fits h' := ⟨hpT q 1, ⟨1, hpE q, 0, 0, w_44 q (X := X) N a1 a2, rfl, r_44 q (X := X) N a1 a2, rfl, rfl, fun e => absurd e (by decide)⟩, hpT_fits q 1⟩
set_option maxRecDepth 100000 in
set_option maxHeartbeats 4000000 in
theorem w_45 (q : rkQ) {X : am_X} (N : Nat) (a1 : Int32) : fm_258 N (.ref 0) a1 (.ref 268) (hp0 q) = some (.inl (some (.int 1), hpE q)) := sorry
set_option maxRecDepth 100000 in
set_option maxHeartbeats 4000000 in
theorem r_45 (q : rkQ) {X : am_X} (N : Nat) (a1 : Int32) : fm_532 N (.ref 174) a1 (hpE q) = some (.inl (some (.int 0), hpT q 1)) := sorry
set_option maxRecDepth 100000 in
set_option maxHeartbeats 4000000 in
theorem p_45 (q : rkQ) {X : am_X} (N : Nat) (a1 : Int32) : ∃ h', opBI (fm_258 N (.ref 0) a1 (.ref 268) (hp0 q)) (fun h1 => fm_532 N (.ref 174) a1 h1) vfZ h' ∧ fits h' := ⟨hpT q 1, ⟨1, hpE q, 0, 0, w_45 q (X := X) N a1, rfl, r_45 q (X := X) N a1, rfl, rfl, fun e => absurd e (by decide)⟩, hpT_fits q 1⟩
set_option maxRecDepth 100000 in
set_option maxHeartbeats 4000000 in
theorem w_47 (q : rkQ) {X : am_X} (N : Nat) (a1 : Int32) : fm_267 N (.ref 0) a1 (.ref 268) (hp0 q) = some (.inl (some (.int 1), hpE q)) := sorry
set_option maxRecDepth 100000 in
set_option maxHeartbeats 4000000 in
theorem r_47 (q : rkQ) {X : am_X} (N : Nat) (a1 : Int32) : fm_535 N (.ref 174) a1 (hpE q) = some (.inl (some (.int 0), hpT q 1)) := sorry
set_option maxRecDepth 100000 in
set_option maxHeartbeats 4000000 in
theorem p_47 (q : rkQ) {X : am_X} (N : Nat) (a1 : Int32) : ∃ h', opBI (fm_267 N (.ref 0) a1 (.ref 268) (hp0 q)) (fun h1 => fm_535 N (.ref 174) a1 h1) vfI h' ∧ fits h' := ⟨hpT q 1, ⟨1, hpE q, 0, 0, w_47 q (X := X) N a1, rfl, r_47 q (X := X) N a1, rfl, rfl, fun e => absurd e (by decide)⟩, hpT_fits q 1⟩
set_option maxRecDepth 100000 in
set_option maxHeartbeats 4000000 in
theorem w_50 (q : rkQ) {X : am_X} (N : Nat) (a1 : Int32) (a2 : Int32) : fm_283 N (.ref 0) a1 a2 (.ref 268) (hp0 q) = some (.inl (some (.int 1), hpE q)) := sorry
set_option maxRecDepth 100000 in
set_option maxHeartbeats 4000000 in
theorem r_50 (q : rkQ) {X : am_X} (N : Nat) (a1 : Int32) (a2 : Int32) : fm_555 N (.ref 174) a1 a2 (hpE q) = some (.inl (some (.int 0), hpT q 1)) := sorry
set_option maxRecDepth 100000 in
set_option maxHeartbeats 4000000 in
theorem p_50 (q : rkQ) {X : am_X} (N : Nat) (a1 : Int32) (a2 : Int32) : ∃ h', opBI (fm_283 N (.ref 0) a1 a2 (.ref 268) (hp0 q)) (fun h1 => fm_555 N (.ref 174) a1 a2 h1) vfZ h' ∧ fits h' := ⟨hpT q 1, ⟨1, hpE q, 0, 0, w_50 q (X := X) N a1 a2, rfl, r_50 q (X := X) N a1 a2, rfl, rfl, fun e => absurd e (by decide)⟩, hpT_fits q 1⟩
set_option maxRecDepth 100000 in
set_option maxHeartbeats 4000000 in
theorem w_51 (q : rkQ) {X : am_X} (N : Nat) (a1 : Int32) (a2 : Int32) : fm_286 N (.ref 0) a1 a2 (.ref 268) (hp0 q) = some (.inl (some (.int 1), hpE q)) := sorry
set_option maxRecDepth 100000 in
set_option maxHeartbeats 4000000 in
theorem r_51 (q : rkQ) {X : am_X} (N : Nat) (a1 : Int32) (a2 : Int32) : fm_566 N (.ref 174) a1 a2 (hpE q) = some (.inl (some (.int 0), hpT q 1)) := sorry
set_option maxRecDepth 100000 in
set_option maxHeartbeats 4000000 in
theorem p_51 (q : rkQ) {X : am_X} (N : Nat) (a1 : Int32) (a2 : Int32) : ∃ h', opBI (fm_286 N (.ref 0) a1 a2 (.ref 268) (hp0 q)) (fun h1 => fm_566 N (.ref 174) a1 a2 h1) vfI h' ∧ fits h' := ⟨hpT q 1, ⟨1, hpE q, 0, 0, w_51 q (X := X) N a1 a2, rfl, r_51 q (X := X) N a1 a2, rfl, rfl, fun e => absurd e (by decide)⟩, hpT_fits q 1⟩
set_option maxRecDepth 100000 in
set_option maxHeartbeats 4000000 in
theorem w_53 (q : rkQ) {X : am_X} (N : Nat) (a1 : Int32) : fm_301 N (.ref 0) a1 (.ref 268) (hp0 q) = some (.inl (some (.int 1), hpE q)) := sorry
set_option maxRecDepth 100000 in
set_option maxHeartbeats 4000000 in
theorem r_53 (q : rkQ) {X : am_X} (N : Nat) (a1 : Int32) : fm_577 N (.ref 174) a1 (hpE q) = some (.inl (some (.int 0), hpT q 1)) := sorry
set_option maxRecDepth 100000 in
set_option maxHeartbeats 4000000 in
theorem p_53 (q : rkQ) {X : am_X} (N : Nat) (a1 : Int32) : ∃ h', opBI (fm_301 N (.ref 0) a1 (.ref 268) (hp0 q)) (fun h1 => fm_577 N (.ref 174) a1 h1) vfI h' ∧ fits h' := ⟨hpT q 1, ⟨1, hpE q, 0, 0, w_53 q (X := X) N a1, rfl, r_53 q (X := X) N a1, rfl, rfl, fun e => absurd e (by decide)⟩, hpT_fits q 1⟩
set_option maxRecDepth 100000 in
set_option maxHeartbeats 4000000 in
theorem w_54 (q : rkQ) {X : am_X} (N : Nat) (a1 : Int32) (a2 : Int32) (a3 : Int32) : fm_304 N (.ref 0) a1 a2 a3 (.ref 268) (hp0 q) = some (.inl (some (.int 1), hpE q)) := sorry
set_option maxRecDepth 100000 in
set_option maxHeartbeats 4000000 in
theorem r_54 (q : rkQ) {X : am_X} (N : Nat) (a1 : Int32) (a2 : Int32) (a3 : Int32) : fm_581 N (.ref 174) a1 a2 a3 (hpE q) = some (.inl (some (.int 0), hpT q 1)) := sorry
set_option maxRecDepth 100000 in
set_option maxHeartbeats 4000000 in
theorem p_54 (q : rkQ) {X : am_X} (N : Nat) (a1 : Int32) (a2 : Int32) (a3 : Int32) : ∃ h', opBI (fm_304 N (.ref 0) a1 a2 a3 (.ref 268) (hp0 q)) (fun h1 => fm_581 N (.ref 174) a1 a2 a3 h1) vfI h' ∧ fits h' := ⟨hpT q 1, ⟨1, hpE q, 0, 0, w_54 q (X := X) N a1 a2 a3, rfl, r_54 q (X := X) N a1 a2 a3, rfl, rfl, fun e => absurd e (by decide)⟩, hpT_fits q 1⟩
set_option maxRecDepth 100000 in
set_option maxHeartbeats 4000000 in
theorem w_55 (q : rkQ) {X : am_X} (N : Nat) (a1 : Int32) (a2 : Int32) : fm_306 N (.ref 0) a1 a2 (.ref 268) (hp0 q) = some (.inl (some (.int 1), hpE q)) := sorry
set_option maxRecDepth 100000 in
set_option maxHeartbeats 4000000 in
theorem r_55 (q : rkQ) {X : am_X} (N : Nat) (a1 : Int32) (a2 : Int32) : fm_556 N (.ref 174) a1 a2 (hpE q) = some (.inl (some (.int 0), hpT q 1)) := sorry
set_option maxRecDepth 100000 in
set_option maxHeartbeats 4000000 in
theorem p_55 (q : rkQ) {X : am_X} (N : Nat) (a1 : Int32) (a2 : Int32) : ∃ h', opBI (fm_306 N (.ref 0) a1 a2 (.ref 268) (hp0 q)) (fun h1 => fm_556 N (.ref 174) a1 a2 h1) vfI h' ∧ fits h' := ⟨hpT q 1, ⟨1, hpE q, 0, 0, w_55 q (X := X) N a1 a2, rfl, r_55 q (X := X) N a1 a2, rfl, rfl, fun e => absurd e (by decide)⟩, hpT_fits q 1⟩
set_option maxRecDepth 100000 in
set_option maxHeartbeats 4000000 in
theorem w_56 (q : rkQ) {X : am_X} (N : Nat) (a1 : Int32) : fm_308 N (.ref 0) a1 (.ref 268) (hp0 q) = some (.inl (some (.int 1), hpE q)) := sorry
set_option maxRecDepth 100000 in
set_option maxHeartbeats 4000000 in
theorem r_56 (q : rkQ) {X : am_X} (N : Nat) (a1 : Int32) : fm_582 N (.ref 174) a1 (hpE q) = some (.inl (some (.int 0), hpT q 1)) := sorry
set_option maxRecDepth 100000 in
set_option maxHeartbeats 4000000 in
theorem p_56 (q : rkQ) {X : am_X} (N : Nat) (a1 : Int32) : ∃ h', opBI (fm_308 N (.ref 0) a1 (.ref 268) (hp0 q)) (fun h1 => fm_582 N (.ref 174) a1 h1) vfI h' ∧ fits h' := ⟨hpT q 1, ⟨1, hpE q, 0, 0, w_56 q (X := X) N a1, rfl, r_56 q (X := X) N a1, rfl, rfl, fun e => absurd e (by decide)⟩, hpT_fits q 1⟩
set_option maxRecDepth 100000 in
set_option maxHeartbeats 4000000 in
theorem w_57 (q : rkQ) {X : am_X} (N : Nat) (a1 : Int32) : fm_313 N (.ref 0) a1 (.ref 268) (hp0 q) = some (.inl (some (.int 1), hpE q)) := sorry
set_option maxRecDepth 100000 in
set_option maxHeartbeats 4000000 in
theorem r_57 (q : rkQ) {X : am_X} (N : Nat) (a1 : Int32) : fm_585 N (.ref 174) a1 (hpE q) = some (.inl (some (.int 0), hpT q 1)) := sorry
set_option maxRecDepth 100000 in
set_option maxHeartbeats 4000000 in
theorem p_57 (q : rkQ) {X : am_X} (N : Nat) (a1 : Int32) : ∃ h', opBI (fm_313 N (.ref 0) a1 (.ref 268) (hp0 q)) (fun h1 => fm_585 N (.ref 174) a1 h1) vfI h' ∧ fits h' := ⟨hpT q 1, ⟨1, hpE q, 0, 0, w_57 q (X := X) N a1, rfl, r_57 q (X := X) N a1, rfl, rfl, fun e => absurd e (by decide)⟩, hpT_fits q 1⟩
set_option maxRecDepth 100000 in
set_option maxHeartbeats 4000000 in
theorem w_58 (q : rkQ) {X : am_X} (N : Nat) (a1 : Int32) : fm_317 N (.ref 0) a1 (.ref 268) (hp0 q) = some (.inl (some (.int 1), hpE q)) := sorry
set_option maxRecDepth 100000 in
set_option maxHeartbeats 4000000 in
theorem r_58 (q : rkQ) {X : am_X} (N : Nat) (a1 : Int32) : fm_587 N (.ref 174) a1 (hpE q) = some (.inl (some (.int 0), hpT q 1)) := sorry
set_option maxRecDepth 100000 in
set_option maxHeartbeats 4000000 in
theorem p_58 (q : rkQ) {X : am_X} (N : Nat) (a1 : Int32) : ∃ h', opBI (fm_317 N (.ref 0) a1 (.ref 268) (hp0 q)) (fun h1 => fm_587 N (.ref 174) a1 h1) vfI h' ∧ fits h' := ⟨hpT q 1, ⟨1, hpE q, 0, 0, w_58 q (X := X) N a1, rfl, r_58 q (X := X) N a1, rfl, rfl, fun e => absurd e (by decide)⟩, hpT_fits q 1⟩
set_option maxRecDepth 100000 in
set_option maxHeartbeats 4000000 in
theorem w_59 (q : rkQ) {X : am_X} (N : Nat) (a1 : Int32) : fm_320 N (.ref 0) a1 (.ref 268) (hp0 q) = some (.inl (some (.int 1), hpE q)) := sorry
set_option maxRecDepth 100000 in
set_option maxHeartbeats 4000000 in
theorem r_59 (q : rkQ) {X : am_X} (N : Nat) (a1 : Int32) : fm_588 N (.ref 174) a1 (hpE q) = some (.inl (some (.int 0), hpT q 1)) := sorry
set_option maxRecDepth 100000 in
set_option maxHeartbeats 4000000 in
theorem p_59 (q : rkQ) {X : am_X} (N : Nat) (a1 : Int32) : ∃ h', opBI (fm_320 N (.ref 0) a1 (.ref 268) (hp0 q)) (fun h1 => fm_588 N (.ref 174) a1 h1) vfI h' ∧ fits h' := ⟨hpT q 1, ⟨1, hpE q, 0, 0, w_59 q (X := X) N a1, rfl, r_59 q (X := X) N a1, rfl, rfl, fun e => absurd e (by decide)⟩, hpT_fits q 1⟩
set_option maxRecDepth 100000 in
set_option maxHeartbeats 4000000 in
theorem w_14 (q : rkQ) {X : am_X} (N : Nat) (a1 : Int32) : fm_106 (.ref 0) a1 (.ref 268) (hp0 q) = some (.inl (some (.int 1), hpE q)) := sorry
set_option maxRecDepth 100000 in
set_option maxHeartbeats 4000000 in
theorem r_14 (q : rkQ) {X : am_X} (N : Nat) (a1 : Int32) : fm_397 N (.ref 174) a1 (hpE q) = some (.inl (some (.int 0), hpT q 1)) := sorry
set_option maxRecDepth 100000 in
set_option maxHeartbeats 4000000 in
theorem p_14 (q : rkQ) {X : am_X} (N : Nat) (a1 : Int32) : ∃ h', opBI (fm_106 (.ref 0) a1 (.ref 268) (hp0 q)) (fun h1 => fm_397 N (.ref 174) a1 h1) vfI h' ∧ fits h' := ⟨hpT q 1, ⟨1, hpE q, 0, 0, w_14 q (X := X) N a1, rfl, r_14 q (X := X) N a1, rfl, rfl, fun e => absurd e (by decide)⟩, hpT_fits q 1⟩
set_option maxRecDepth 100000 in
set_option maxHeartbeats 4000000 in
theorem w_16 (q : rkQ) {X : am_X} (N : Nat) (a1 : Int32) (a2 : Int32) : fm_110 (.ref 0) a1 a2 (.ref 268) (hp0 q) = some (.inl (some (.int 1), hpE q)) := sorry
set_option maxRecDepth 100000 in
set_option maxHeartbeats 4000000 in
theorem r_16 (q : rkQ) {X : am_X} (N : Nat) (a1 : Int32) (a2 : Int32) : fm_400 (.ref 174) a1 a2 (hpE q) = some (.inl (some (.int 0), hpT q 1)) := sorry
set_option maxRecDepth 100000 in
set_option maxHeartbeats 4000000 in
theorem p_16 (q : rkQ) {X : am_X} (N : Nat) (a1 : Int32) (a2 : Int32) : ∃ h', opBI (fm_110 (.ref 0) a1 a2 (.ref 268) (hp0 q)) (fun h1 => fm_400 (.ref 174) a1 a2 h1) vfI h' ∧ fits h' := ⟨hpT q 1, ⟨1, hpE q, 0, 0, w_16 q (X := X) N a1 a2, rfl, r_16 q (X := X) N a1 a2, rfl, rfl, fun e => absurd e (by decide)⟩, hpT_fits q 1⟩
