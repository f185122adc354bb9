set_option maxRecDepth 100000 in
theorem am_il_0_al : (am_il_0.zip [336, 452, 487, 263, 480, 522, 32, 2064]).all (fun q => am_tix q.2 (.methodLink (am_on.getD q.1.1 "") q.1.2.1 (am_nm (am_m q.1.2.2))) && ((Nat.ble 1 q.1.2.2 && Nat.blt q.1.2.2 589) && (am_kd (am_m q.1.2.2) == 2))) = true := by decide +kernel
set_option maxRecDepth 100000 in
theorem am_il_al : ∀ q ∈ am_il, am_mw (am_m q.2.2) ∧ am_kd (am_m q.2.2) = 2 ∧ Cond.methodLink (am_on.getD q.1 "") q.2.1 (am_nm (am_m q.2.2)) ∈ am_tb := by
  have key : ∀ q ∈ am_il, ∃ i, (am_tix i (.methodLink (am_on.getD q.1 "") q.2.1 (am_nm (am_m q.2.2))) && ((Nat.ble 1 q.2.2 && Nat.blt q.2.2 589) && (am_kd (am_m q.2.2) == 2))) = true := by
    intro q hq
    simp only [am_il, List.mem_append] at hq
    exact am_zip (α := Nat × Nat × Nat) (β := Nat) (l := am_il_0) (f := fun q i => am_tix i (.methodLink (am_on.getD q.1 "") q.2.1 (am_nm (am_m q.2.2))) && ((Nat.ble 1 q.2.2 && Nat.blt q.2.2 589) && (am_kd (am_m q.2.2) == 2))) (by decide) am_il_0_al q hq
  intro q hq
  obtain ⟨i, h⟩ := key q hq
  simp only [Bool.and_eq_true (am_tix _ _), Bool.and_eq_true (Nat.ble _ _ && _), beq_iff_eq] at h
  exact ⟨am_mw_all _ (am_m_in h.2.1), h.2.2, am_tix_mem h.1⟩
