set_option maxRecDepth 100000 in
theorem am_tl_0_al : (am_tl_0.zip [1431, 1724, 1730, 1262, 1266, 1259, 275, 281, 1185, 1217, 1218, 1223, 1018, 1024, 883, 890, 893, 851, 957, 1948, 1946, 1947, 1922, 1934, 1931, 2049, 2061, 1141, 1325, 1328, 1618, 1733, 1753, 1756, 2498, 2559, 2523, 2509, 2577, 2580, 2650, 2520, 2538, 2570, 2595, 2640, 2647, 2699, 2707, 2710, 2889, 2905, 2932, 2982, 3005, 3152, 3510]).all (fun q => am_tix q.2 (.methodLink (am_on.getD q.1.1 "") q.1.2.1 (am_nm (am_m q.1.2.2))) && ((Nat.ble 1 q.1.2.2 && Nat.blt q.1.2.2 589) && (am_kd (am_m q.1.2.2) == 0 && (am_hh (am_m q.1.2.2)).isEmpty))) = true := by decide +kernel
set_option maxRecDepth 100000 in
theorem am_tl_al : ∀ q ∈ am_tl, am_mw (am_m q.2.2) ∧ am_kd (am_m q.2.2) = 0 ∧ am_hh (am_m q.2.2) = [] ∧ Cond.methodLink (am_on.getD q.1 "") q.2.1 (am_nm (am_m q.2.2)) ∈ am_tb := by
  have key : ∀ q ∈ am_tl, ∃ i, (am_tix i (.methodLink (am_on.getD q.1 "") q.2.1 (am_nm (am_m q.2.2))) && ((Nat.ble 1 q.2.2 && Nat.blt q.2.2 589) && (am_kd (am_m q.2.2) == 0 && (am_hh (am_m q.2.2)).isEmpty))) = true := by
    intro q hq
    simp only [am_tl, List.mem_append] at hq
    exact am_zip (α := Nat × Nat × Nat) (β := Nat) (l := am_tl_0) (f := fun q i => am_tix i (.methodLink (am_on.getD q.1 "") q.2.1 (am_nm (am_m q.2.2))) && ((Nat.ble 1 q.2.2 && Nat.blt q.2.2 589) && (am_kd (am_m q.2.2) == 0 && (am_hh (am_m q.2.2)).isEmpty))) (by decide) am_tl_0_al q hq
  intro q hq
  obtain ⟨i, h⟩ := key q hq
  simp only [Bool.and_eq_true (am_tix _ _), Bool.and_eq_true (Nat.ble _ _ && _), Bool.and_eq_true (am_kd _ == _), beq_iff_eq] at h
  exact ⟨am_mw_all _ (am_m_in h.2.1), h.2.2.1, (List.isEmpty_iff.mp h.2.2.2), am_tix_mem h.1⟩
