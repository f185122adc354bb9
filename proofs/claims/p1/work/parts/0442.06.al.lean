set_option maxRecDepth 100000 in
theorem am_tw_0_al : (am_tw_0.zip [623, 917, 988, 999, 1030, 1037, 1046, 1057, 1066, 1096, 1127, 1142, 1158, 1169, 1238, 1245, 1269, 1303, 1310, 1318, 1331, 1347, 1474, 1486, 1519, 1526, 1534, 1590, 1597, 1609, 1682, 1693, 1700, 1708, 1734, 1745, 1757, 1772, 1779, 1787, 1795, 1828, 1900, 1911, 1967, 1974, 1986, 1994, 2002, 2022, 2038, 2050]).all (fun q => am_tix q.2 (.methodLink (am_on.getD q.1.1 "") q.1.2.1 (am_nm (am_m q.1.2.2))) && ((Nat.ble 1 q.1.2.2 && Nat.blt q.1.2.2 589) && (am_kd (am_m q.1.2.2) == 0 && !(am_hh (am_m q.1.2.2)).isEmpty))) = true := by decide +kernel
set_option maxRecDepth 100000 in
theorem am_tw_al : ∀ q ∈ am_tw, am_mw (am_m q.2.2) ∧ am_kd (am_m q.2.2) = 0 ∧ am_hh (am_m q.2.2) ≠ [] ∧ Cond.methodLink (am_on.getD q.1 "") q.2.1 (am_nm (am_m q.2.2)) ∈ am_tb := by
  have key : ∀ q ∈ am_tw, ∃ i, (am_tix i (.methodLink (am_on.getD q.1 "") q.2.1 (am_nm (am_m q.2.2))) && ((Nat.ble 1 q.2.2 && Nat.blt q.2.2 589) && (am_kd (am_m q.2.2) == 0 && !(am_hh (am_m q.2.2)).isEmpty))) = true := by
    intro q hq
    simp only [am_tw, List.mem_append] at hq
    exact am_zip (α := Nat × Nat × Nat) (β := Nat) (l := am_tw_0) (f := fun q i => am_tix i (.methodLink (am_on.getD q.1 "") q.2.1 (am_nm (am_m q.2.2))) && ((Nat.ble 1 q.2.2 && Nat.blt q.2.2 589) && (am_kd (am_m q.2.2) == 0 && !(am_hh (am_m q.2.2)).isEmpty))) (by decide) am_tw_0_al q hq
  intro q hq
  obtain ⟨i, h⟩ := key q hq
  simp only [Bool.and_eq_true (am_tix _ _), Bool.and_eq_true (Nat.ble _ _ && _), Bool.and_eq_true (am_kd _ == _), beq_iff_eq] at h
  exact ⟨am_mw_all _ (am_m_in h.2.1), h.2.2.1, (fun h9 => by have h8 := h.2.2.2; rw [h9] at h8; cases h8), am_tix_mem h.1⟩
