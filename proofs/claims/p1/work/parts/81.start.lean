/-! ===== the law up to its loop ===== -/
set_option maxRecDepth 100000 in
set_option maxHeartbeats 4000000 in
theorem hpR_eq : cl_323 174 = hpR := rfl
set_option maxRecDepth 100000 in
theorem hpC_len (q : rkQ) : (hpC q).length = 174 := rfl
set_option maxRecDepth 100000 in
theorem hpCR_len (q : rkQ) : (hpC q ++ hpR).length = 268 := rfl
set_option maxRecDepth 100000 in
set_option maxHeartbeats 4000000 in
theorem e_0 {X : am_X} {N : Nat} (hN : 200 < N) : fm_0 X N [] = fg_0_23 X N N (.ref 0) (.ref 174) (.ref 268) 0 (hp0 rkAll) := by
  unfold fm_0 fg_0_0
  refine ev_b (ev_o rfl rfl) ?_
  refine ev_i rfl ?_
  refine ev_cV (ce_1 hN) ?_
  refine ev_b (ev_o rfl rfl) ?_
  rw [hpC_len]
  refine ev_i (ev_ok (am_gg0 (hpC_len rkAll))) ?_
  refine ev_cV (ce_323 (hpC rkAll) 174 (hpC_len rkAll)) ?_
  rw [hpR_eq]
  refine ev_b (ev_n (by decide) (hp0_eq rkAll)) ?_
  rw [hpCR_len]
  rfl
