set_option maxRecDepth 100000 in
theorem am_il_0_al : (am_il_0.zip [336, 452, 487, 263, 480, 522, 32, 2064]).all (fun q => am_tix q.2 (.methodLink (am_on.getD q.1.1 "") q.1.2.1 (am_nm (am_m q.1.2.2))) && ((Nat.ble 1 q.1.2.2 && Nat.blt q.1.2.2 589) && (am_kd (am_m q.1.2.2) == 2))) = true := sorry
set_option maxRecDepth 100000 in
theorem am_il_al : ∀ q ∈ am_il, am_mw (am_m q.2.2) ∧ am_kd (am_m q.2.2) = 2 ∧ Cond.methodLink (am_on.getD q.1 "") q.2.1 (am_nm (am_m q.2.2)) ∈ am_tb := sorry