set_option maxRecDepth 100000 in
theorem am_in_0_al : (am_in_0.zip [401, 215, 123, 268, 450, 128, 48, 485, 42, 117, 209, 330, 445, 524]).all (fun q => am_tix q.2 (.methodLinkNest (am_on.getD q.1.1 "") q.1.2.1 (am_nm (am_m q.1.2.2)) "BreedingHouse") && ((Nat.ble 1 q.1.2.2 && Nat.blt q.1.2.2 589) && (am_kd (am_m q.1.2.2) == 2))) = true := by decide +kernel
set_option maxRecDepth 100000 in
theorem am_in_al : ∀ q ∈ am_in, am_mw (am_m q.2.2) ∧ am_kd (am_m q.2.2) = 2 ∧ ∃ host, Cond.methodLinkNest (am_on.getD q.1 "") q.2.1 (am_nm (am_m q.2.2)) host ∈ am_tb := by
  have key : ∀ q ∈ am_in, ∃ i, (am_tix i (.methodLinkNest (am_on.getD q.1 "") q.2.1 (am_nm (am_m q.2.2)) "BreedingHouse") && ((Nat.ble 1 q.2.2 && Nat.blt q.2.2 589) && (am_kd (am_m q.2.2) == 2))) = true := by
    intro q hq
    simp only [am_in, List.mem_append] at hq
    exact am_zip (α := Nat × Nat × Nat) (β := Nat) (l := am_in_0) (f := fun q i => am_tix i (.methodLinkNest (am_on.getD q.1 "") q.2.1 (am_nm (am_m q.2.2)) "BreedingHouse") && ((Nat.ble 1 q.2.2 && Nat.blt q.2.2 589) && (am_kd (am_m q.2.2) == 2))) (by decide) am_in_0_al q hq
  intro q hq
  obtain ⟨i, h⟩ := key q hq
  simp only [Bool.and_eq_true (am_tix _ _), Bool.and_eq_true (Nat.ble _ _ && _), beq_iff_eq] at h
  exact ⟨am_mw_all _ (am_m_in h.2.1), h.2.2, ⟨_, am_tix_mem h.1⟩⟩
