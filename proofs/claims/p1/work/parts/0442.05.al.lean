set_option maxRecDepth 100000 in
theorem am_tn_0_al : (am_tn_0.zip [1397, 1398, 1399, 284, 278, 287, 1019, 832, 837, 842, 1951]).all (fun q => am_tix q.2 (.methodLinkNest (am_on.getD q.1.1 "") q.1.2.1 (am_nm (am_m q.1.2.2)) "BreedingHouse") && ((Nat.ble 1 q.1.2.2 && Nat.blt q.1.2.2 589) && (am_kd (am_m q.1.2.2) == 0 && (am_hh (am_m q.1.2.2)).isEmpty))) = true := by decide +kernel
set_option maxRecDepth 100000 in
theorem am_tn_al : ∀ q ∈ am_tn, am_mw (am_m q.2.2) ∧ am_kd (am_m q.2.2) = 0 ∧ am_hh (am_m q.2.2) = [] ∧ ∃ host, Cond.methodLinkNest (am_on.getD q.1 "") q.2.1 (am_nm (am_m q.2.2)) host ∈ am_tb := by
  have key : ∀ q ∈ am_tn, ∃ i, (am_tix i (.methodLinkNest (am_on.getD q.1 "") q.2.1 (am_nm (am_m q.2.2)) "BreedingHouse") && ((Nat.ble 1 q.2.2 && Nat.blt q.2.2 589) && (am_kd (am_m q.2.2) == 0 && (am_hh (am_m q.2.2)).isEmpty))) = true := by
    intro q hq
    simp only [am_tn, List.mem_append] at hq
    exact am_zip (α := Nat × Nat × Nat) (β := Nat) (l := am_tn_0) (f := fun q i => am_tix i (.methodLinkNest (am_on.getD q.1 "") q.2.1 (am_nm (am_m q.2.2)) "BreedingHouse") && ((Nat.ble 1 q.2.2 && Nat.blt q.2.2 589) && (am_kd (am_m q.2.2) == 0 && (am_hh (am_m q.2.2)).isEmpty))) (by decide) am_tn_0_al q hq
  intro q hq
  obtain ⟨i, h⟩ := key q hq
  simp only [Bool.and_eq_true (am_tix _ _), Bool.and_eq_true (Nat.ble _ _ && _), Bool.and_eq_true (am_kd _ == _), beq_iff_eq] at h
  exact ⟨am_mw_all _ (am_m_in h.2.1), h.2.2.1, (List.isEmpty_iff.mp h.2.2.2), ⟨_, am_tix_mem h.1⟩⟩
