/-! ===== set ===== -/
theorem t5 (a : Int32) : (a = 0 ∨ a = 1 ∨ a = 2 ∨ a = 3 ∨ a = 4) ∨ (a < 0 ∨ 5 ≤ a) := sorry
set_option maxRecDepth 100000 in
set_option maxHeartbeats 4000000 in
theorem t437_0 {v : Int32} {h : am_H} : fm_437 0 v h = some (.inl (some (.int (pv_327 v.toInt64 10 2000)), h)) := sorry
set_option maxRecDepth 100000 in
set_option maxHeartbeats 4000000 in
theorem p_26_0 (q : rkQ) {X : am_X} (h16 : am_pX X 16 0 = some 10) (h17 : am_pX X 17 0 = some 2000) (a2 : Int32) : ∃ h', opBI (fm_153 X (.ref 0) 0 a2 (.ref 268) (hp0 q)) (fun h1 => fm_436 (.ref 174) 0 a2 h1) vfI h' ∧ fits h' := sorry
set_option maxRecDepth 100000 in
set_option maxHeartbeats 4000000 in
theorem t437_1 {v : Int32} {h : am_H} : fm_437 1 v h = some (.inl (some (.int (pv_327 v.toInt64 0 4)), h)) := sorry
set_option maxRecDepth 100000 in
set_option maxHeartbeats 4000000 in
theorem p_26_1 (q : rkQ) {X : am_X} (h16 : am_pX X 16 1 = some 0) (h17 : am_pX X 17 1 = some 4) (a2 : Int32) : ∃ h', opBI (fm_153 X (.ref 0) 1 a2 (.ref 268) (hp0 q)) (fun h1 => fm_436 (.ref 174) 1 a2 h1) vfI h' ∧ fits h' := sorry
set_option maxRecDepth 100000 in
set_option maxHeartbeats 4000000 in
theorem t437_2 {v : Int32} {h : am_H} : fm_437 2 v h = some (.inl (some (.int (pv_327 v.toInt64 1 5)), h)) := sorry
set_option maxRecDepth 100000 in
set_option maxHeartbeats 4000000 in
theorem p_26_2 (q : rkQ) {X : am_X} (h16 : am_pX X 16 2 = some 1) (h17 : am_pX X 17 2 = some 5) (a2 : Int32) : ∃ h', opBI (fm_153 X (.ref 0) 2 a2 (.ref 268) (hp0 q)) (fun h1 => fm_436 (.ref 174) 2 a2 h1) vfI h' ∧ fits h' := sorry
set_option maxRecDepth 100000 in
set_option maxHeartbeats 4000000 in
theorem t437_3 {v : Int32} {h : am_H} : fm_437 3 v h = some (.inl (some (.int (pv_327 v.toInt64 0 100)), h)) := sorry
set_option maxRecDepth 100000 in
set_option maxHeartbeats 4000000 in
theorem p_26_3 (q : rkQ) {X : am_X} (h16 : am_pX X 16 3 = some 0) (h17 : am_pX X 17 3 = some 100) (a2 : Int32) : ∃ h', opBI (fm_153 X (.ref 0) 3 a2 (.ref 268) (hp0 q)) (fun h1 => fm_436 (.ref 174) 3 a2 h1) vfI h' ∧ fits h' := sorry
set_option maxRecDepth 100000 in
set_option maxHeartbeats 4000000 in
theorem t437_4 {v : Int32} {h : am_H} : fm_437 4 v h = some (.inl (some (.int (pv_327 v.toInt64 0 2)), h)) := sorry
set_option maxRecDepth 100000 in
set_option maxHeartbeats 4000000 in
theorem p_26_4 (q : rkQ) {X : am_X} (h16 : am_pX X 16 4 = some 0) (h17 : am_pX X 17 4 = some 2) (a2 : Int32) : ∃ h', opBI (fm_153 X (.ref 0) 4 a2 (.ref 268) (hp0 q)) (fun h1 => fm_436 (.ref 174) 4 a2 h1) vfI h' ∧ fits h' := sorry
set_option maxRecDepth 100000 in
set_option maxHeartbeats 4000000 in
theorem p_26 (q : rkQ) (L : Nat) (xs : Nat → Int32) (a1 a2 : Int32) : ∃ h', opBI (fm_153 (am_X0 L xs) (.ref 0) a1 a2 (.ref 268) (hp0 q)) (fun h1 => fm_436 (.ref 174) a1 a2 h1) vfI h' ∧ fits h' := sorry