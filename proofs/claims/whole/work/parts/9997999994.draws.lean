/-! ===== draws of an island's stream; wide draws ===== -/
theorem w62 {v : Nat} (h : v < 2 ^ 62) : lN v - lN v / 4611686018427387904 * 4611686018427387904 = lN v := by
  have e : (lN v / 4611686018427387904).toInt = ((v : Int)).tdiv ((4611686018427387904 : Nat) : Int) := dvI (lN_t h) (by decide) (by decide) (by omega) (by omega)
  have z : (lN v / 4611686018427387904) = 0 := Int64.toInt_inj.mp (by rw [e, Int.tdiv_eq_zero_of_lt (by omega) (by omega)]; rfl)
  rw [z, Int64.zero_mul, Int64.sub_zero]
set_option maxRecDepth 100000 in
set_option maxHeartbeats 4000000 in
theorem y_193_42 {V : Nat → Nat → Value} {I : Nat → Nat → Int32} {L : Nat → Nat → Int64} {R : Nat → Nat → Option Nat} {tl : am_H} {st : Int64} (hs : V 42 0 = .long st) : fm_193 (.ref 42) (fx V I L R ++ tl) = some (.inl (some (.long (lN (hlf (nxt st)))), fx (vup V 42 0 (.long (nxt st))) I L R ++ tl)) := by
  unfold fm_193 fg_193_0
  refine ev_b (a := st) (by show am_vL (some (V 42 0)) = _; rw [hs]; rfl) ?_
  refine ev_b (a := fx (vup V 42 0 (.long (nxt st))) I L R ++ tl) (ev_p rfl rfl rfl rfl) ?_
  refine ev_b (a := nxt st) rfl ?_
  rw [hlf_u]
set_option maxRecDepth 100000 in
set_option maxHeartbeats 4000000 in
theorem y_193_51 {V : Nat → Nat → Value} {I : Nat → Nat → Int32} {L : Nat → Nat → Int64} {R : Nat → Nat → Option Nat} {tl : am_H} {st : Int64} (hs : V 51 0 = .long st) : fm_193 (.ref 51) (fx V I L R ++ tl) = some (.inl (some (.long (lN (hlf (nxt st)))), fx (vup V 51 0 (.long (nxt st))) I L R ++ tl)) := by
  unfold fm_193 fg_193_0
  refine ev_b (a := st) (by show am_vL (some (V 51 0)) = _; rw [hs]; rfl) ?_
  refine ev_b (a := fx (vup V 51 0 (.long (nxt st))) I L R ++ tl) (ev_p rfl rfl rfl rfl) ?_
  refine ev_b (a := nxt st) rfl ?_
  rw [hlf_u]
set_option maxRecDepth 100000 in
set_option maxHeartbeats 4000000 in
theorem y_193_60 {V : Nat → Nat → Value} {I : Nat → Nat → Int32} {L : Nat → Nat → Int64} {R : Nat → Nat → Option Nat} {tl : am_H} {st : Int64} (hs : V 60 0 = .long st) : fm_193 (.ref 60) (fx V I L R ++ tl) = some (.inl (some (.long (lN (hlf (nxt st)))), fx (vup V 60 0 (.long (nxt st))) I L R ++ tl)) := by
  unfold fm_193 fg_193_0
  refine ev_b (a := st) (by show am_vL (some (V 60 0)) = _; rw [hs]; rfl) ?_
  refine ev_b (a := fx (vup V 60 0 (.long (nxt st))) I L R ++ tl) (ev_p rfl rfl rfl rfl) ?_
  refine ev_b (a := nxt st) rfl ?_
  rw [hlf_u]
set_option maxRecDepth 100000 in
set_option maxHeartbeats 4000000 in
theorem y_193_69 {V : Nat → Nat → Value} {I : Nat → Nat → Int32} {L : Nat → Nat → Int64} {R : Nat → Nat → Option Nat} {tl : am_H} {st : Int64} (hs : V 69 0 = .long st) : fm_193 (.ref 69) (fx V I L R ++ tl) = some (.inl (some (.long (lN (hlf (nxt st)))), fx (vup V 69 0 (.long (nxt st))) I L R ++ tl)) := by
  unfold fm_193 fg_193_0
  refine ev_b (a := st) (by show am_vL (some (V 69 0)) = _; rw [hs]; rfl) ?_
  refine ev_b (a := fx (vup V 69 0 (.long (nxt st))) I L R ++ tl) (ev_p rfl rfl rfl rfl) ?_
  refine ev_b (a := nxt st) rfl ?_
  rw [hlf_u]
set_option maxRecDepth 100000 in
set_option maxHeartbeats 4000000 in
theorem y_193i {V : Nat → Nat → Value} {I : Nat → Nat → Int32} {L : Nat → Nat → Int64} {R : Nat → Nat → Option Nat} {tl : am_H} {i : Nat} {st : Int64} (hi : i < 4) (hs : V (42 + 9 * i) 0 = .long st) : fm_193 (.ref (42 + 9 * i)) (fx V I L R ++ tl) = some (.inl (some (.long (lN (hlf (nxt st)))), fx (vup V (42 + 9 * i) 0 (.long (nxt st))) I L R ++ tl)) := by
  rcases (by omega : i = 0 ∨ i = 1 ∨ i = 2 ∨ i = 3) with rfl | rfl | rfl | rfl
  · exact y_193_42 hs
  · exact y_193_51 hs
  · exact y_193_60 hs
  · exact y_193_69 hs
theorem yo_8 {V : Nat → Nat → Value} {I : Nat → Nat → Int32} {L : Nat → Nat → Int64} {R : Nat → Nat → Option Nat} {tl : am_H} {i : Nat} (hi : i < 4) : am_pOk 8 (.ref (42 + 9 * i)) (fx V I L R ++ tl) = true := by
  rcases (by omega : i = 0 ∨ i = 1 ∨ i = 2 ∨ i = 3) with rfl | rfl | rfl | rfl <;> rfl
set_option maxRecDepth 100000 in
set_option maxHeartbeats 4000000 in
theorem y_192i {V : Nat → Nat → Value} {I : Nat → Nat → Int32} {L : Nat → Nat → Int64} {R : Nat → Nat → Option Nat} {tl : am_H} {i : Nat} {st : Int64} {k : Nat} (hi : i < 4) (hs : V (42 + 9 * i) 0 = .long st) (hk : 1 ≤ k) (hk2 : k < 2 ^ 31) : fm_192 (.ref (42 + 9 * i)) (nI k) (fx V I L R ++ tl) = some (.inl (some (.int (nI (hlf (nxt st) % k))), fx (vup V (42 + 9 * i) 0 (.long (nxt st))) I L R ++ tl)) := by
  have hh := hlf_lt (nxt st)
  unfold fm_192 fg_192_0
  refine ev_i (yo_8 hi) ?_
  refine ev_cL (y_193i hi hs) ?_
  refine ev_f (nI_nle (by omega) hk2) ?_
  rw [nI_l hk2]
  refine ev_i (fun e9 => absurd ((lM_le (b := 0) (by omega) (by omega)).mp (Int64.le_of_eq e9)) (by omega)) ?_
  rw [lM_mod (by omega) (by omega), lN_i]
  rfl
set_option maxRecDepth 100000 in
set_option maxHeartbeats 4000000 in
theorem y_194i {V : Nat → Nat → Value} {I : Nat → Nat → Int32} {L : Nat → Nat → Int64} {R : Nat → Nat → Option Nat} {tl : am_H} {i : Nat} {st : Int64} {T : Nat} (hi : i < 4) (hs : V (42 + 9 * i) 0 = .long st) (hT : 1 ≤ T) (hT2 : T < 2 ^ 50) : fm_194 (.ref (42 + 9 * i)) (lN T) (fx V I L R ++ tl) = some (.inl (some (.long (lN ((2147483648 * hlf (nxt st) + hlf (nxt (nxt st))) % T))), fx (vup V (42 + 9 * i) 0 (.long (nxt (nxt st)))) I L R ++ tl)) := by
  have h1 := hlf_lt (nxt st)
  have h2 := hlf_lt (nxt (nxt st))
  unfold fm_194 fg_194_0
  refine ev_i (yo_8 hi) ?_
  refine ev_cL (y_193i hi hs) ?_
  refine ev_i (yo_8 hi) ?_
  refine ev_cL (y_193i hi vup_eq) ?_
  refine ev_f (fun e9 => absurd ((lM_le (b := 0) (by omega) (by omega)).mp ((lg_cmp_le _ _).mp e9)) (by omega)) ?_
  refine ev_i (fun e9 => absurd ((lM_le (b := 0) (by omega) (by omega)).mp (Int64.le_of_eq e9)) (by omega)) ?_
  rw [show (2147483648 : Int64) = lN 2147483648 from rfl, lN_mul, lN_add, lM_mod (by omega) (by omega), vup_2]
  rfl
set_option maxRecDepth 100000 in
set_option maxHeartbeats 4000000 in
theorem y_194w {V : Nat → Nat → Value} {I : Nat → Nat → Int32} {L : Nat → Nat → Int64} {R : Nat → Nat → Option Nat} {tl : am_H} {i : Nat} {st : Int64} (hi : i < 4) (hs : V (42 + 9 * i) 0 = .long st) : fm_194 (.ref (42 + 9 * i)) 4611686018427387904 (fx V I L R ++ tl) = some (.inl (some (.long (lN (2147483648 * hlf (nxt st) + hlf (nxt (nxt st))))), fx (vup V (42 + 9 * i) 0 (.long (nxt (nxt st)))) I L R ++ tl)) := by
  have h1 := hlf_lt (nxt st)
  have h2 := hlf_lt (nxt (nxt st))
  unfold fm_194 fg_194_0
  refine ev_i (yo_8 hi) ?_
  refine ev_cL (y_193i hi hs) ?_
  refine ev_i (yo_8 hi) ?_
  refine ev_cL (y_193i hi vup_eq) ?_
  refine ev_f (by decide) ?_
  refine ev_i (by decide) ?_
  rw [show (2147483648 : Int64) = lN 2147483648 from rfl, lN_mul, lN_add, w62 (by omega), vup_2]
  rfl
set_option maxRecDepth 100000 in
set_option maxHeartbeats 4000000 in
theorem x_477w {V : Nat → Nat → Value} {I : Nat → Nat → Int32} {L : Nat → Nat → Int64} {R : Nat → Nat → Option Nat} {tl : am_H} {st : Int64} (hs : V 174 96 = .long st) : fm_477 (.ref 174) 4611686018427387904 (fx V I L R ++ tl) = some (.inl (some (.long (lN (2147483648 * hlf (nxt st) + hlf (nxt (nxt st))))), fx (vup V 174 96 (.long (nxt (nxt st)))) I L R ++ tl)) := by
  have h1 := hlf_lt (nxt st)
  have h2 := hlf_lt (nxt (nxt st))
  unfold fm_477 fg_477_0
  refine ev_i rfl (ev_cL (x_475 hs) (ev_i rfl (ev_cL (x_475 (V := vup V 174 96 (.long (nxt st))) vup_eq) (ev_i (by decide) ?_))))
  rw [show (2147483648 : Int64) = lN 2147483648 from rfl, lN_mul, lN_add, w62 (by omega), vup_2]
