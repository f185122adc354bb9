set_option maxRecDepth 100000 in
set_option maxHeartbeats 4000000 in
theorem pu_0_1 {V : Nat → Nat → Value} {I : Nat → Nat → Int32} {L : Nat → Nat → Int64} {R : Nat → Nat → Option Nat} {tl : am_H} {x : Int32} (hx : am_fit (am_ty 11 1) (.int x) = true) : am_pP 2817 (.ref 0) (.int x) (fx V I L R ++ tl) = some (fx (vup V 0 1 (.int x)) I L R ++ tl) := ev_p rfl (show (true && am_fit (am_ty 11 1) (.int x)) = true from hx) rfl rfl
set_option maxRecDepth 100000 in
set_option maxHeartbeats 4000000 in
theorem pu_174_1 {V : Nat → Nat → Value} {I : Nat → Nat → Int32} {L : Nat → Nat → Int64} {R : Nat → Nat → Option Nat} {tl : am_H} {x : Int32} (hx : am_fit (am_ty 12 1) (.int x) = true) : am_pP 3073 (.ref 174) (.int x) (fx V I L R ++ tl) = some (fx (vup V 174 1 (.int x)) I L R ++ tl) := ev_p rfl (show (true && am_fit (am_ty 12 1) (.int x)) = true from hx) rfl rfl
set_option maxRecDepth 100000 in
set_option maxHeartbeats 4000000 in
theorem pu_174_13 {V : Nat → Nat → Value} {I : Nat → Nat → Int32} {L : Nat → Nat → Int64} {R : Nat → Nat → Option Nat} {tl : am_H} {x : Int32} (hx : am_fit (am_ty 12 13) (.int x) = true) : am_pP 3085 (.ref 174) (.int x) (fx V I L R ++ tl) = some (fx (vup V 174 13 (.int x)) I L R ++ tl) := ev_p rfl (show (true && am_fit (am_ty 12 13) (.int x)) = true from hx) rfl rfl
set_option maxRecDepth 100000 in
set_option maxHeartbeats 4000000 in
theorem pu_174_14 {V : Nat → Nat → Value} {I : Nat → Nat → Int32} {L : Nat → Nat → Int64} {R : Nat → Nat → Option Nat} {tl : am_H} {x : Int32} (hx : am_fit (am_ty 12 14) (.int x) = true) : am_pP 3086 (.ref 174) (.int x) (fx V I L R ++ tl) = some (fx (vup V 174 14 (.int x)) I L R ++ tl) := ev_p rfl (show (true && am_fit (am_ty 12 14) (.int x)) = true from hx) rfl rfl
set_option maxRecDepth 100000 in
set_option maxHeartbeats 4000000 in
theorem pu_174_0 {V : Nat → Nat → Value} {I : Nat → Nat → Int32} {L : Nat → Nat → Int64} {R : Nat → Nat → Option Nat} {tl : am_H} {x : Int32} (hx : am_fit (am_ty 12 0) (.int x) = true) : am_pP 3072 (.ref 174) (.int x) (fx V I L R ++ tl) = some (fx (vup V 174 0 (.int x)) I L R ++ tl) := ev_p rfl (show (true && am_fit (am_ty 12 0) (.int x)) = true from hx) rfl rfl
set_option maxRecDepth 100000 in
set_option maxHeartbeats 4000000 in
theorem pu_174_88 {V : Nat → Nat → Value} {I : Nat → Nat → Int32} {L : Nat → Nat → Int64} {R : Nat → Nat → Option Nat} {tl : am_H} {x : Int32} (hx : am_fit (am_ty 12 88) (.int x) = true) : am_pP 3160 (.ref 174) (.int x) (fx V I L R ++ tl) = some (fx (vup V 174 88 (.int x)) I L R ++ tl) := ev_p rfl (show (true && am_fit (am_ty 12 88) (.int x)) = true from hx) rfl rfl
