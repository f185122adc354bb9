/-! islands, the fresh objects -/
set_option maxRecDepth 100000 in
set_option maxHeartbeats 4000000 in
theorem p_37 (q : rkQ) (M : Nat) (a1 : Int32) : ∃ h', opBI (fm_234 (M + 300) (.ref 0) a1 (.ref 268) (hp0 q)) (fun h1 => fm_519 (M + 300) (.ref 174) a1 h1) vfI h' ∧ fits h' := sorry
set_option maxRecDepth 100000 in
set_option maxHeartbeats 4000000 in
theorem p_36 (q : rkQ) (M : Nat) (a1 a2 : Int32) : ∃ h', opBI (fm_231 (M + 300) (.ref 0) a1 a2 (.ref 268) (hp0 q)) (fun h1 => fm_518 (M + 300) (.ref 174) a1 a2 h1) vfZ h' ∧ fits h' := sorry
set_option maxRecDepth 100000 in
set_option maxHeartbeats 4000000 in
theorem t214 (q : rkQ) (i : Nat) (hi : i = 40 ∨ i = 49 ∨ i = 58 ∨ i = 67) (a : Int32) : fm_214 (.ref 0) (.ref i) a (hp0 q) = some (.inr (2, hpE q)) := sorry
set_option maxRecDepth 100000 in
set_option maxHeartbeats 4000000 in
theorem t501 (q : rkQ) (i : Int32) (hi : i = 0 ∨ i = 1 ∨ i = 2 ∨ i = 3) (a : Int32) : fm_501 (.ref 174) i a (hpE q) = some (.inl (some (.int 0), hpE q)) := sorry
set_option maxRecDepth 100000 in
set_option maxHeartbeats 4000000 in
theorem p_34 (q : rkQ) (M : Nat) (a1 a2 : Int32) : ∃ h', opBI (fm_212 (.ref 0) a1 a2 (.ref 268) (hp0 q)) (fun h1 => fm_500 (.ref 174) a1 a2 h1) vfI h' ∧ fits h' := sorry
set_option maxRecDepth 100000 in
set_option maxHeartbeats 4000000 in
theorem p_39 (q : rkQ) (M : Nat) (a1 a2 a3 : Int32) : ∃ h', opBI (fm_238 (M + 300) (.ref 0) a1 a2 a3 (.ref 268) (hp0 q)) (fun h1 => fm_521 (M + 300) (.ref 174) a1 a2 a3 h1) vfI h' ∧ fits h' := sorry
set_option maxRecDepth 100000 in
set_option maxHeartbeats 4000000 in
theorem p_41 (q : rkQ) (M : Nat) (a1 a2 : Int32) : ∃ h', opBL (fm_247 (M + 300) (.ref 0) a1 a2 (.ref 268) (hp0 q)) (fun h1 => fm_526 (M + 300) (.ref 174) a1 a2 h1) vfI h' ∧ fits h' := sorry
set_option maxRecDepth 100000 in
set_option maxHeartbeats 4000000 in
theorem p_35 (q : rkQ) (M : Nat) (a1 a2 : Int32) : ∃ h', opBI (fm_215 (M + 300) (.ref 0) a1 a2 (.ref 268) (hp0 q)) (fun h1 => fm_502 (M + 300) (.ref 174) a1 a2 h1) vfI h' ∧ fits h' := sorry