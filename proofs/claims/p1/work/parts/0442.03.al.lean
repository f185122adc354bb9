set_option maxRecDepth 100000 in
theorem am_in_0_al : (am_in_0.zip [401, 215, 123, 268, 450, 128, 48, 485, 42, 117, 209, 330, 445, 524]).all (fun q => am_tix q.2 (.methodLinkNest (am_on.getD q.1.1 "") q.1.2.1 (am_nm (am_m q.1.2.2)) "BreedingHouse") && ((Nat.ble 1 q.1.2.2 && Nat.blt q.1.2.2 589) && (am_kd (am_m q.1.2.2) == 2))) = true := sorry
set_option maxRecDepth 100000 in
theorem am_in_al : ∀ q ∈ am_in, am_mw (am_m q.2.2) ∧ am_kd (am_m q.2.2) = 2 ∧ ∃ host, Cond.methodLinkNest (am_on.getD q.1 "") q.2.1 (am_nm (am_m q.2.2)) host ∈ am_tb := sorry