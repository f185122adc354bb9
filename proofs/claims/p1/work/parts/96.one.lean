/-! ===== one call on fresh objects ===== -/
theorem hi7 (xs : Nat → Int32) : ¬ (Int32.ofNat (am_X0 7 xs 0).1) - 7 < 0 := by
  show ¬ (Int32.ofNat 7 - 7 < 0)
  decide
theorem and63 (a : Int32) : ∃ j : Nat, j < 64 ∧ a &&& 63 = nI j := by
  refine ⟨(a &&& 63).toBitVec.toNat, ?_, ?_⟩
  · rw [Int32.toBitVec_and, BitVec.toNat_and]
    exact Nat.lt_of_le_of_lt Nat.and_le_right (by decide)
  · apply Int32.toBitVec_inj.mp
    show _ = BitVec.ofNat 32 (a &&& 63).toBitVec.toNat
    apply BitVec.eq_of_toNat_eq
    rw [BitVec.toNat_ofNat, Nat.mod_eq_of_lt (BitVec.isLt _)]
set_option maxRecDepth 100000 in
set_option maxHeartbeats 4000000 in
theorem t1_0 (K : Nat) (xs : Nat → Int32) (hk : xs 0 &&& 63 = 0) : ∃ h', lw_turn (am_X0 7 xs) 1000 K 0 (hp0 (tW, tT)) h' ∧ fits h' := by
  obtain ⟨h', H, hf⟩ := p_0 (tW, tT) 1000 (by decide) ((((Int32.toInt64 (xs 1)) <<< (Int32.toInt64 32 &&& 63)) ||| ((Int32.toInt64 (xs 2)) &&& 4294967295)))
  exact ⟨h', lk_0 (a0 := xs 0) (a1 := xs 1) (a2 := xs 2) (hi7 xs) rfl hk rfl rfl rfl H, hf⟩
theorem p_1q (a1 : Int32) : ∃ h', opBI (fm_30 1000 (.ref 0) a1 (.ref 268) (hp0 (tW, tT))) (fun h1 => fm_326 1000 (.ref 174) a1 h1) vfI h' ∧ fits h' := by
  have k := p_1 a1
  rw [rk_all] at k
  exact k
set_option maxRecDepth 100000 in
set_option maxHeartbeats 4000000 in
theorem t1_1 (K : Nat) (xs : Nat → Int32) (hk : xs 0 &&& 63 = 1) : ∃ h', lw_turn (am_X0 7 xs) 1000 K 0 (hp0 (tW, tT)) h' ∧ fits h' := by
  obtain ⟨h', H, hf⟩ := p_1q (xs 1)
  exact ⟨h', lk_1 (a0 := xs 0) (a1 := xs 1) (hi7 xs) rfl hk rfl  H, hf⟩
set_option maxRecDepth 100000 in
set_option maxHeartbeats 4000000 in
theorem t1_2 (K : Nat) (xs : Nat → Int32) (hk : xs 0 &&& 63 = 2) : ∃ h', lw_turn (am_X0 7 xs) 1000 K 0 (hp0 (tW, tT)) h' ∧ fits h' := by
  obtain ⟨h', H, hf⟩ := p_2 (tW, tT) (X := am_X0 7 xs) 1000 (xs 1)
  exact ⟨h', lk_2 (a0 := xs 0) (a1 := xs 1) (hi7 xs) rfl hk rfl  H, hf⟩
set_option maxRecDepth 100000 in
set_option maxHeartbeats 4000000 in
theorem t1_3 (K : Nat) (xs : Nat → Int32) (hk : xs 0 &&& 63 = 3) : ∃ h', lw_turn (am_X0 7 xs) 1000 K 0 (hp0 (tW, tT)) h' ∧ fits h' := by
  obtain ⟨h', H, hf⟩ := p_3 (tW, tT) (X := am_X0 7 xs) 1000 (xs 1) (xs 2)
  exact ⟨h', lk_3 (a0 := xs 0) (a1 := xs 1) (a2 := xs 2) (hi7 xs) rfl hk rfl rfl  H, hf⟩
set_option maxRecDepth 100000 in
set_option maxHeartbeats 4000000 in
theorem t1_4 (K : Nat) (xs : Nat → Int32) (hk : xs 0 &&& 63 = 4) : ∃ h', lw_turn (am_X0 7 xs) 1000 K 0 (hp0 (tW, tT)) h' ∧ fits h' := by
  obtain ⟨h', H, hf⟩ := p_4 (tW, tT)
  exact ⟨h', lk_4 (a0 := xs 0) (hi7 xs) rfl hk  rfl H, hf⟩
set_option maxRecDepth 100000 in
set_option maxHeartbeats 4000000 in
theorem t1_5 (K : Nat) (xs : Nat → Int32) (hk : xs 0 &&& 63 = 5) : ∃ h', lw_turn (am_X0 7 xs) 1000 K 0 (hp0 (tW, tT)) h' ∧ fits h' := by
  obtain ⟨h', H, hf⟩ := p_5 (tW, tT) (X := am_X0 7 xs) 1000 (xs 1) (xs 2)
  exact ⟨h', lk_5 (a0 := xs 0) (a1 := xs 1) (a2 := xs 2) (hi7 xs) rfl hk rfl rfl  H, hf⟩
set_option maxRecDepth 100000 in
set_option maxHeartbeats 4000000 in
theorem t1_6 (K : Nat) (xs : Nat → Int32) (hk : xs 0 &&& 63 = 6) : ∃ h', lw_turn (am_X0 7 xs) 1000 K 0 (hp0 (tW, tT)) h' ∧ fits h' := by
  obtain ⟨h', H, hf⟩ := p_6 (tW, tT) (X := am_X0 7 xs) 1000 (xs 1)
  exact ⟨h', lk_6 (a0 := xs 0) (a1 := xs 1) (hi7 xs) rfl hk rfl  H, hf⟩
set_option maxRecDepth 100000 in
set_option maxHeartbeats 4000000 in
theorem t1_7 (K : Nat) (xs : Nat → Int32) (hk : xs 0 &&& 63 = 7) : ∃ h', lw_turn (am_X0 7 xs) 1000 K 0 (hp0 (tW, tT)) h' ∧ fits h' := by
  obtain ⟨h', H, hf⟩ := p_7 (tW, tT) (X := am_X0 7 xs) 1000 (xs 1) (xs 2) (xs 3)
  exact ⟨h', lk_7 (a0 := xs 0) (a1 := xs 1) (a2 := xs 2) (a3 := xs 3) (hi7 xs) rfl hk rfl rfl rfl  H, hf⟩
set_option maxRecDepth 100000 in
set_option maxHeartbeats 4000000 in
theorem t1_8 (K : Nat) (xs : Nat → Int32) (hk : xs 0 &&& 63 = 8) : ∃ h', lw_turn (am_X0 7 xs) 1000 K 0 (hp0 (tW, tT)) h' ∧ fits h' := by
  obtain ⟨h', H, hf⟩ := p_8 (tW, tT) (X := am_X0 7 xs) 1000 (xs 1) (xs 2)
  exact ⟨h', lk_8 (a0 := xs 0) (a1 := xs 1) (a2 := xs 2) (hi7 xs) rfl hk rfl rfl  H, hf⟩
set_option maxRecDepth 100000 in
set_option maxHeartbeats 4000000 in
theorem t1_9 (K : Nat) (xs : Nat → Int32) (hk : xs 0 &&& 63 = 9) : ∃ h', lw_turn (am_X0 7 xs) 1000 K 0 (hp0 (tW, tT)) h' ∧ fits h' := by
  obtain ⟨h', H, hf⟩ := p_9 1000 (by decide) (xs 1)
  exact ⟨h', lk_9 (a0 := xs 0) (a1 := xs 1) (hi7 xs) rfl hk rfl  H, hf⟩
set_option maxRecDepth 100000 in
set_option maxHeartbeats 4000000 in
theorem t1_10 (K : Nat) (xs : Nat → Int32) (hk : xs 0 &&& 63 = 10) : ∃ h', lw_turn (am_X0 7 xs) 1000 K 0 (hp0 (tW, tT)) h' ∧ fits h' := by
  obtain ⟨h', H, hf⟩ := p_10 1000 (by decide) (xs 1) ((((Int32.toInt64 (xs 2)) <<< (Int32.toInt64 32 &&& 63)) ||| ((Int32.toInt64 (xs 3)) &&& 4294967295)))
  exact ⟨h', lk_10 (a0 := xs 0) (a1 := xs 1) (a2 := xs 2) (a3 := xs 3) (hi7 xs) rfl hk rfl rfl rfl  H, hf⟩
set_option maxRecDepth 100000 in
set_option maxHeartbeats 4000000 in
theorem t1_11 (K : Nat) (xs : Nat → Int32) (hk : xs 0 &&& 63 = 11) : ∃ h', lw_turn (am_X0 7 xs) 1000 K 0 (hp0 (tW, tT)) h' ∧ fits h' := by
  obtain ⟨h', H, hf⟩ := p_11 (tW, tT) (X := am_X0 7 xs) 1000 (xs 1)
  exact ⟨h', lk_11 (a0 := xs 0) (a1 := xs 1) (hi7 xs) rfl hk rfl  H, hf⟩
set_option maxRecDepth 100000 in
set_option maxHeartbeats 4000000 in
theorem t1_12 (K : Nat) (xs : Nat → Int32) (hk : xs 0 &&& 63 = 12) : ∃ h', lw_turn (am_X0 7 xs) 1000 K 0 (hp0 (tW, tT)) h' ∧ fits h' := by
  obtain ⟨h', H, hf⟩ := p_12 (tW, tT) (xs 1)
  exact ⟨h', lk_12 (a0 := xs 0) (a1 := xs 1) (hi7 xs) rfl hk rfl rfl H, hf⟩
set_option maxRecDepth 100000 in
set_option maxHeartbeats 4000000 in
theorem t1_13 (K : Nat) (xs : Nat → Int32) (hk : xs 0 &&& 63 = 13) : ∃ h', lw_turn (am_X0 7 xs) 1000 K 0 (hp0 (tW, tT)) h' ∧ fits h' := by
  obtain ⟨h', H, hf⟩ := p_13 (tW, tT) 1000 (by decide) (xs 1) (xs 2) (xs 3) (xs 4) (xs 5) (xs 6)
  exact ⟨h', lk_13 (a0 := xs 0) (a1 := xs 1) (a2 := xs 2) (a3 := xs 3) (a4 := xs 4) (a5 := xs 5) (a6 := xs 6) (hi7 xs) rfl hk rfl rfl rfl rfl rfl rfl  H, hf⟩
set_option maxRecDepth 100000 in
set_option maxHeartbeats 4000000 in
theorem t1_14 (K : Nat) (xs : Nat → Int32) (hk : xs 0 &&& 63 = 14) : ∃ h', lw_turn (am_X0 7 xs) 1000 K 0 (hp0 (tW, tT)) h' ∧ fits h' := by
  obtain ⟨h', H, hf⟩ := p_14 (tW, tT) (X := am_X0 7 xs) 1000 (xs 1)
  exact ⟨h', lk_14 (a0 := xs 0) (a1 := xs 1) (hi7 xs) rfl hk rfl  H, hf⟩
set_option maxRecDepth 100000 in
set_option maxHeartbeats 4000000 in
theorem t1_15 (K : Nat) (xs : Nat → Int32) (hk : xs 0 &&& 63 = 15) : ∃ h', lw_turn (am_X0 7 xs) 1000 K 0 (hp0 (tW, tT)) h' ∧ fits h' := by
  obtain ⟨h', H, hf⟩ := p_15 (tW, tT)
  exact ⟨h', lk_15 (a0 := xs 0) (hi7 xs) rfl hk  rfl H, hf⟩
set_option maxRecDepth 100000 in
set_option maxHeartbeats 4000000 in
theorem t1_16 (K : Nat) (xs : Nat → Int32) (hk : xs 0 &&& 63 = 16) : ∃ h', lw_turn (am_X0 7 xs) 1000 K 0 (hp0 (tW, tT)) h' ∧ fits h' := by
  obtain ⟨h', H, hf⟩ := p_16 (tW, tT) (X := am_X0 7 xs) 1000 (xs 1) (xs 2)
  exact ⟨h', lk_16 (a0 := xs 0) (a1 := xs 1) (a2 := xs 2) (hi7 xs) rfl hk rfl rfl  H, hf⟩
set_option maxRecDepth 100000 in
set_option maxHeartbeats 4000000 in
theorem t1_17 (K : Nat) (xs : Nat → Int32) (hk : xs 0 &&& 63 = 17) : ∃ h', lw_turn (am_X0 7 xs) 1000 K 0 (hp0 (tW, tT)) h' ∧ fits h' := by
  obtain ⟨h', H, hf⟩ := p_17 (tW, tT) (X := am_X0 7 xs) 1000 (xs 1) (xs 2)
  exact ⟨h', lk_17 (a0 := xs 0) (a1 := xs 1) (a2 := xs 2) (hi7 xs) rfl hk rfl rfl  H, hf⟩
set_option maxRecDepth 100000 in
set_option maxHeartbeats 4000000 in
theorem t1_18 (K : Nat) (xs : Nat → Int32) (hk : xs 0 &&& 63 = 18) : ∃ h', lw_turn (am_X0 7 xs) 1000 K 0 (hp0 (tW, tT)) h' ∧ fits h' := by
  obtain ⟨h', H, hf⟩ := p_18 (tW, tT) (X := am_X0 7 xs) 1000 (xs 1) (xs 2) (xs 3) (xs 4)
  exact ⟨h', lk_18 (a0 := xs 0) (a1 := xs 1) (a2 := xs 2) (a3 := xs 3) (a4 := xs 4) (hi7 xs) rfl hk rfl rfl rfl rfl  H, hf⟩
set_option maxRecDepth 100000 in
set_option maxHeartbeats 4000000 in
theorem t1_19 (K : Nat) (xs : Nat → Int32) (hk : xs 0 &&& 63 = 19) : ∃ h', lw_turn (am_X0 7 xs) 1000 K 0 (hp0 (tW, tT)) h' ∧ fits h' := by
  obtain ⟨h', H, hf⟩ := p_19 (tW, tT)
  exact ⟨h', lk_19 (a0 := xs 0) (hi7 xs) rfl hk  rfl H, hf⟩
set_option maxRecDepth 100000 in
set_option maxHeartbeats 4000000 in
theorem t1_20 (K : Nat) (xs : Nat → Int32) (hk : xs 0 &&& 63 = 20) : ∃ h', lw_turn (am_X0 7 xs) 1000 K 0 (hp0 (tW, tT)) h' ∧ fits h' := by
  obtain ⟨h', H, hf⟩ := p_20 (tW, tT)
  exact ⟨h', lk_20 (a0 := xs 0) (hi7 xs) rfl hk  rfl H, hf⟩
set_option maxRecDepth 100000 in
set_option maxHeartbeats 4000000 in
theorem t1_21 (K : Nat) (xs : Nat → Int32) (hk : xs 0 &&& 63 = 21) : ∃ h', lw_turn (am_X0 7 xs) 1000 K 0 (hp0 (tW, tT)) h' ∧ fits h' := by
  obtain ⟨h', H, hf⟩ := p_21 (tW, tT) (X := am_X0 7 xs) 1000 (xs 1) (xs 2)
  exact ⟨h', lk_21 (a0 := xs 0) (a1 := xs 1) (a2 := xs 2) (hi7 xs) rfl hk rfl rfl  H, hf⟩
set_option maxRecDepth 100000 in
set_option maxHeartbeats 4000000 in
theorem t1_22 (K : Nat) (xs : Nat → Int32) (hk : xs 0 &&& 63 = 22) : ∃ h', lw_turn (am_X0 7 xs) 1000 K 0 (hp0 (tW, tT)) h' ∧ fits h' := by
  obtain ⟨h', H, hf⟩ := p_22 (tW, tT) (X := am_X0 7 xs) 1000 (xs 1) (xs 2) (xs 3)
  exact ⟨h', lk_22 (a0 := xs 0) (a1 := xs 1) (a2 := xs 2) (a3 := xs 3) (hi7 xs) rfl hk rfl rfl rfl  H, hf⟩
set_option maxRecDepth 100000 in
set_option maxHeartbeats 4000000 in
theorem t1_23 (K : Nat) (xs : Nat → Int32) (hk : xs 0 &&& 63 = 23) : ∃ h', lw_turn (am_X0 7 xs) 1000 K 0 (hp0 (tW, tT)) h' ∧ fits h' := by
  obtain ⟨h', H, hf⟩ := p_23 (tW, tT) (X := am_X0 7 xs) 1000 (xs 1) (xs 2)
  exact ⟨h', lk_23 (a0 := xs 0) (a1 := xs 1) (a2 := xs 2) (hi7 xs) rfl hk rfl rfl  H, hf⟩
set_option maxRecDepth 100000 in
set_option maxHeartbeats 4000000 in
theorem t1_24 (K : Nat) (xs : Nat → Int32) (hk : xs 0 &&& 63 = 24) : ∃ h', lw_turn (am_X0 7 xs) 1000 K 0 (hp0 (tW, tT)) h' ∧ fits h' := by
  obtain ⟨h', H, hf⟩ := p_24 (tW, tT) (X := am_X0 7 xs) 1000 (xs 1) (xs 2)
  exact ⟨h', lk_24 (a0 := xs 0) (a1 := xs 1) (a2 := xs 2) (hi7 xs) rfl hk rfl rfl  H, hf⟩
set_option maxRecDepth 100000 in
set_option maxHeartbeats 4000000 in
theorem t1_25 (K : Nat) (xs : Nat → Int32) (hk : xs 0 &&& 63 = 25) : ∃ h', lw_turn (am_X0 7 xs) 1000 K 0 (hp0 (tW, tT)) h' ∧ fits h' := by
  obtain ⟨h', H, hf⟩ := p_25 (tW, tT) (X := am_X0 7 xs) 1000 (xs 1) (xs 2)
  exact ⟨h', lk_25 (a0 := xs 0) (a1 := xs 1) (a2 := xs 2) (hi7 xs) rfl hk rfl rfl  H, hf⟩
set_option maxRecDepth 100000 in
set_option maxHeartbeats 4000000 in
theorem t1_26 (K : Nat) (xs : Nat → Int32) (hk : xs 0 &&& 63 = 26) : ∃ h', lw_turn (am_X0 7 xs) 1000 K 0 (hp0 (tW, tT)) h' ∧ fits h' := by
  obtain ⟨h', H, hf⟩ := p_26 (tW, tT) 7 xs (xs 1) (xs 2)
  exact ⟨h', lk_26 (a0 := xs 0) (a1 := xs 1) (a2 := xs 2) (hi7 xs) rfl hk rfl rfl  H, hf⟩
set_option maxRecDepth 100000 in
set_option maxHeartbeats 4000000 in
theorem t1_27 (K : Nat) (xs : Nat → Int32) (hk : xs 0 &&& 63 = 27) : ∃ h', lw_turn (am_X0 7 xs) 1000 K 0 (hp0 (tW, tT)) h' ∧ fits h' := by
  obtain ⟨h', H, hf⟩ := p_27 (tW, tT) (X := am_X0 7 xs) 1000 (xs 1) (xs 2)
  exact ⟨h', lk_27 (a0 := xs 0) (a1 := xs 1) (a2 := xs 2) (hi7 xs) rfl hk rfl rfl  H, hf⟩
set_option maxRecDepth 100000 in
set_option maxHeartbeats 4000000 in
theorem t1_28 (K : Nat) (xs : Nat → Int32) (hk : xs 0 &&& 63 = 28) : ∃ h', lw_turn (am_X0 7 xs) 1000 K 0 (hp0 (tW, tT)) h' ∧ fits h' := by
  obtain ⟨h', H, hf⟩ := p_28 (tW, tT) (X := am_X0 7 xs) 1000 (xs 1) (xs 2) (xs 3)
  exact ⟨h', lk_28 (a0 := xs 0) (a1 := xs 1) (a2 := xs 2) (a3 := xs 3) (hi7 xs) rfl hk rfl rfl rfl  H, hf⟩
set_option maxRecDepth 100000 in
set_option maxHeartbeats 4000000 in
theorem t1_29 (K : Nat) (xs : Nat → Int32) (hk : xs 0 &&& 63 = 29) : ∃ h', lw_turn (am_X0 7 xs) 1000 K 0 (hp0 (tW, tT)) h' ∧ fits h' := by
  obtain ⟨h', H, hf⟩ := p_29 (tW, tT) (X := am_X0 7 xs) 1000 (xs 1) (xs 2) (xs 3) (xs 4)
  exact ⟨h', lk_29 (a0 := xs 0) (a1 := xs 1) (a2 := xs 2) (a3 := xs 3) (a4 := xs 4) (hi7 xs) rfl hk rfl rfl rfl rfl  H, hf⟩
set_option maxRecDepth 100000 in
set_option maxHeartbeats 4000000 in
theorem t1_30 (K : Nat) (xs : Nat → Int32) (hk : xs 0 &&& 63 = 30) : ∃ h', lw_turn (am_X0 7 xs) 1000 K 0 (hp0 (tW, tT)) h' ∧ fits h' := by
  obtain ⟨h', H, hf⟩ := p_30 (tW, tT) (X := am_X0 7 xs) 1000 (xs 1) (xs 2)
  exact ⟨h', lk_30 (a0 := xs 0) (a1 := xs 1) (a2 := xs 2) (hi7 xs) rfl hk rfl rfl  H, hf⟩
set_option maxRecDepth 100000 in
set_option maxHeartbeats 4000000 in
theorem t1_31 (K : Nat) (xs : Nat → Int32) (hk : xs 0 &&& 63 = 31) : ∃ h', lw_turn (am_X0 7 xs) 1000 K 0 (hp0 (tW, tT)) h' ∧ fits h' := by
  obtain ⟨h', H, hf⟩ := p_31 (tW, tT) (X := am_X0 7 xs) 1000 (xs 1) (xs 2) (xs 3) (xs 4)
  exact ⟨h', lk_31 (a0 := xs 0) (a1 := xs 1) (a2 := xs 2) (a3 := xs 3) (a4 := xs 4) (hi7 xs) rfl hk rfl rfl rfl rfl  H, hf⟩
set_option maxRecDepth 100000 in
set_option maxHeartbeats 4000000 in
theorem t1_32 (H32 : ∀ (a1 a2 a3 a4 : Int32) (x : Int64), ∃ h', opBI (fm_199 1000 (.ref 0) a1 a2 a3 a4 x (.ref 268) (hp0 (tW, tT))) (fun h1 => fm_488 1000 (.ref 174) a1 a2 a3 a4 x h1) vfI h' ∧ fits h') (K : Nat) (xs : Nat → Int32) (hk : xs 0 &&& 63 = 32) : ∃ h', lw_turn (am_X0 7 xs) 1000 K 0 (hp0 (tW, tT)) h' ∧ fits h' := by
  obtain ⟨h', H, hf⟩ := H32 (xs 1) (xs 2) (xs 3) (xs 4) ((((Int32.toInt64 (xs 5)) <<< (Int32.toInt64 32 &&& 63)) ||| ((Int32.toInt64 (xs 6)) &&& 4294967295)))
  exact ⟨h', lk_32 (a0 := xs 0) (a1 := xs 1) (a2 := xs 2) (a3 := xs 3) (a4 := xs 4) (a5 := xs 5) (a6 := xs 6) (hi7 xs) rfl hk rfl rfl rfl rfl rfl rfl  H, hf⟩
set_option maxRecDepth 100000 in
set_option maxHeartbeats 4000000 in
theorem t1_33 (K : Nat) (xs : Nat → Int32) (hk : xs 0 &&& 63 = 33) : ∃ h', lw_turn (am_X0 7 xs) 1000 K 0 (hp0 (tW, tT)) h' ∧ fits h' := by
  obtain ⟨h', H, hf⟩ := p_33 (tW, tT) (xs 1)
  exact ⟨h', lk_33 (a0 := xs 0) (a1 := xs 1) (hi7 xs) rfl hk rfl  H, hf⟩
set_option maxRecDepth 100000 in
set_option maxHeartbeats 4000000 in
theorem t1_34 (K : Nat) (xs : Nat → Int32) (hk : xs 0 &&& 63 = 34) : ∃ h', lw_turn (am_X0 7 xs) 1000 K 0 (hp0 (tW, tT)) h' ∧ fits h' := by
  obtain ⟨h', H, hf⟩ := p_34 (tW, tT) 700 (xs 1) (xs 2)
  exact ⟨h', lk_34 (a0 := xs 0) (a1 := xs 1) (a2 := xs 2) (hi7 xs) rfl hk rfl rfl  H, hf⟩
set_option maxRecDepth 100000 in
set_option maxHeartbeats 4000000 in
theorem t1_35 (K : Nat) (xs : Nat → Int32) (hk : xs 0 &&& 63 = 35) : ∃ h', lw_turn (am_X0 7 xs) 1000 K 0 (hp0 (tW, tT)) h' ∧ fits h' := by
  obtain ⟨h', H, hf⟩ := p_35 (tW, tT) 700 (xs 1) (xs 2)
  exact ⟨h', lk_35 (a0 := xs 0) (a1 := xs 1) (a2 := xs 2) (hi7 xs) rfl hk rfl rfl  H, hf⟩
set_option maxRecDepth 100000 in
set_option maxHeartbeats 4000000 in
theorem t1_36 (K : Nat) (xs : Nat → Int32) (hk : xs 0 &&& 63 = 36) : ∃ h', lw_turn (am_X0 7 xs) 1000 K 0 (hp0 (tW, tT)) h' ∧ fits h' := by
  obtain ⟨h', H, hf⟩ := p_36 (tW, tT) 700 (xs 1) (xs 2)
  exact ⟨h', lk_36 (a0 := xs 0) (a1 := xs 1) (a2 := xs 2) (hi7 xs) rfl hk rfl rfl  H, hf⟩
set_option maxRecDepth 100000 in
set_option maxHeartbeats 4000000 in
theorem t1_37 (K : Nat) (xs : Nat → Int32) (hk : xs 0 &&& 63 = 37) : ∃ h', lw_turn (am_X0 7 xs) 1000 K 0 (hp0 (tW, tT)) h' ∧ fits h' := by
  obtain ⟨h', H, hf⟩ := p_37 (tW, tT) 700 (xs 1)
  exact ⟨h', lk_37 (a0 := xs 0) (a1 := xs 1) (hi7 xs) rfl hk rfl  H, hf⟩
set_option maxRecDepth 100000 in
set_option maxHeartbeats 4000000 in
theorem t1_38 (K : Nat) (xs : Nat → Int32) (hk : xs 0 &&& 63 = 38) : ∃ h', lw_turn (am_X0 7 xs) 1000 K 0 (hp0 (tW, tT)) h' ∧ fits h' := by
  obtain ⟨h', H, hf⟩ := p_38 (tW, tT) 700 (xs 1) (xs 2)
  exact ⟨h', lk_38 (a0 := xs 0) (a1 := xs 1) (a2 := xs 2) (hi7 xs) rfl hk rfl rfl  H, hf⟩
set_option maxRecDepth 100000 in
set_option maxHeartbeats 4000000 in
theorem t1_39 (K : Nat) (xs : Nat → Int32) (hk : xs 0 &&& 63 = 39) : ∃ h', lw_turn (am_X0 7 xs) 1000 K 0 (hp0 (tW, tT)) h' ∧ fits h' := by
  obtain ⟨h', H, hf⟩ := p_39 (tW, tT) 700 (xs 1) (xs 2) (xs 3)
  exact ⟨h', lk_39 (a0 := xs 0) (a1 := xs 1) (a2 := xs 2) (a3 := xs 3) (hi7 xs) rfl hk rfl rfl rfl  H, hf⟩
set_option maxRecDepth 100000 in
set_option maxHeartbeats 4000000 in
theorem t1_40 (K : Nat) (xs : Nat → Int32) (hk : xs 0 &&& 63 = 40) : ∃ h', lw_turn (am_X0 7 xs) 1000 K 0 (hp0 (tW, tT)) h' ∧ fits h' := by
  obtain ⟨h', H, hf⟩ := p_40 (tW, tT) (X := am_X0 7 xs) 1000 (xs 1) (xs 2)
  exact ⟨h', lk_40 (a0 := xs 0) (a1 := xs 1) (a2 := xs 2) (hi7 xs) rfl hk rfl rfl  H, hf⟩
set_option maxRecDepth 100000 in
set_option maxHeartbeats 4000000 in
theorem t1_41 (K : Nat) (xs : Nat → Int32) (hk : xs 0 &&& 63 = 41) : ∃ h', lw_turn (am_X0 7 xs) 1000 K 0 (hp0 (tW, tT)) h' ∧ fits h' := by
  obtain ⟨h', H, hf⟩ := p_41 (tW, tT) 700 (xs 1) (xs 2)
  exact ⟨h', lk_41 (a0 := xs 0) (a1 := xs 1) (a2 := xs 2) (hi7 xs) rfl hk rfl rfl  H, hf⟩
set_option maxRecDepth 100000 in
set_option maxHeartbeats 4000000 in
theorem t1_42 (K : Nat) (xs : Nat → Int32) (hk : xs 0 &&& 63 = 42) : ∃ h', lw_turn (am_X0 7 xs) 1000 K 0 (hp0 (tW, tT)) h' ∧ fits h' := by
  obtain ⟨h', H, hf⟩ := p_42 (tW, tT) (X := am_X0 7 xs) 1000 (xs 1)
  exact ⟨h', lk_42 (a0 := xs 0) (a1 := xs 1) (hi7 xs) rfl hk rfl  H, hf⟩
set_option maxRecDepth 100000 in
set_option maxHeartbeats 4000000 in
theorem t1_43 (K : Nat) (xs : Nat → Int32) (hk : xs 0 &&& 63 = 43) : ∃ h', lw_turn (am_X0 7 xs) 1000 K 0 (hp0 (tW, tT)) h' ∧ fits h' := by
  obtain ⟨h', H, hf⟩ := p_43 (tW, tT) (X := am_X0 7 xs) 1000 (xs 1) (xs 2)
  exact ⟨h', lk_43 (a0 := xs 0) (a1 := xs 1) (a2 := xs 2) (hi7 xs) rfl hk rfl rfl  H, hf⟩
set_option maxRecDepth 100000 in
set_option maxHeartbeats 4000000 in
theorem t1_44 (K : Nat) (xs : Nat → Int32) (hk : xs 0 &&& 63 = 44) : ∃ h', lw_turn (am_X0 7 xs) 1000 K 0 (hp0 (tW, tT)) h' ∧ fits h' := by
  obtain ⟨h', H, hf⟩ := p_44 (tW, tT) (X := am_X0 7 xs) 1000 (xs 1) (xs 2)
  exact ⟨h', lk_44 (a0 := xs 0) (a1 := xs 1) (a2 := xs 2) (hi7 xs) rfl hk rfl rfl  H, hf⟩
set_option maxRecDepth 100000 in
set_option maxHeartbeats 4000000 in
theorem t1_45 (K : Nat) (xs : Nat → Int32) (hk : xs 0 &&& 63 = 45) : ∃ h', lw_turn (am_X0 7 xs) 1000 K 0 (hp0 (tW, tT)) h' ∧ fits h' := by
  obtain ⟨h', H, hf⟩ := p_45 (tW, tT) (X := am_X0 7 xs) 1000 (xs 1)
  exact ⟨h', lk_45 (a0 := xs 0) (a1 := xs 1) (hi7 xs) rfl hk rfl  H, hf⟩
set_option maxRecDepth 100000 in
set_option maxHeartbeats 4000000 in
theorem t1_46 (K : Nat) (xs : Nat → Int32) (hk : xs 0 &&& 63 = 46) : ∃ h', lw_turn (am_X0 7 xs) 1000 K 0 (hp0 (tW, tT)) h' ∧ fits h' := by
  obtain ⟨h', H, hf⟩ := p_46 (X := am_X0 7 xs) 700 (xs 1)
  exact ⟨h', lk_46 (a0 := xs 0) (a1 := xs 1) (hi7 xs) rfl hk rfl  H, hf⟩
set_option maxRecDepth 100000 in
set_option maxHeartbeats 4000000 in
theorem t1_47 (K : Nat) (xs : Nat → Int32) (hk : xs 0 &&& 63 = 47) : ∃ h', lw_turn (am_X0 7 xs) 1000 K 0 (hp0 (tW, tT)) h' ∧ fits h' := by
  obtain ⟨h', H, hf⟩ := p_47 (tW, tT) (X := am_X0 7 xs) 1000 (xs 1)
  exact ⟨h', lk_47 (a0 := xs 0) (a1 := xs 1) (hi7 xs) rfl hk rfl  H, hf⟩
set_option maxRecDepth 100000 in
set_option maxHeartbeats 4000000 in
theorem t1_48 (K : Nat) (xs : Nat → Int32) (hk : xs 0 &&& 63 = 48) : ∃ h', lw_turn (am_X0 7 xs) 1000 K 0 (hp0 (tW, tT)) h' ∧ fits h' := by
  obtain ⟨h', H, hf⟩ := p_48 (tW, tT)
  exact ⟨h', lk_48 (a0 := xs 0) (hi7 xs) rfl hk  rfl H, hf⟩
set_option maxRecDepth 100000 in
set_option maxHeartbeats 4000000 in
theorem t1_49 (K : Nat) (xs : Nat → Int32) (hk : xs 0 &&& 63 = 49) : ∃ h', lw_turn (am_X0 7 xs) 1000 K 0 (hp0 (tW, tT)) h' ∧ fits h' := by
  obtain ⟨h', H, hf⟩ := p_49 (tW, tT) (xs 1) (xs 2)
  exact ⟨h', lk_49 (a0 := xs 0) (a1 := xs 1) (a2 := xs 2) (hi7 xs) rfl hk rfl rfl rfl H, hf⟩
set_option maxRecDepth 100000 in
set_option maxHeartbeats 4000000 in
theorem t1_50 (K : Nat) (xs : Nat → Int32) (hk : xs 0 &&& 63 = 50) : ∃ h', lw_turn (am_X0 7 xs) 1000 K 0 (hp0 (tW, tT)) h' ∧ fits h' := by
  obtain ⟨h', H, hf⟩ := p_50 (tW, tT) (X := am_X0 7 xs) 1000 (xs 1) (xs 2)
  exact ⟨h', lk_50 (a0 := xs 0) (a1 := xs 1) (a2 := xs 2) (hi7 xs) rfl hk rfl rfl  H, hf⟩
set_option maxRecDepth 100000 in
set_option maxHeartbeats 4000000 in
theorem t1_51 (K : Nat) (xs : Nat → Int32) (hk : xs 0 &&& 63 = 51) : ∃ h', lw_turn (am_X0 7 xs) 1000 K 0 (hp0 (tW, tT)) h' ∧ fits h' := by
  obtain ⟨h', H, hf⟩ := p_51 (tW, tT) (X := am_X0 7 xs) 1000 (xs 1) (xs 2)
  exact ⟨h', lk_51 (a0 := xs 0) (a1 := xs 1) (a2 := xs 2) (hi7 xs) rfl hk rfl rfl  H, hf⟩
set_option maxRecDepth 100000 in
set_option maxHeartbeats 4000000 in
theorem t1_52 (K : Nat) (xs : Nat → Int32) (hk : xs 0 &&& 63 = 52) : ∃ h', lw_turn (am_X0 7 xs) 1000 K 0 (hp0 (tW, tT)) h' ∧ fits h' := by
  obtain ⟨h', H, hf⟩ := p_52 (tW, tT) (xs 1)
  exact ⟨h', lk_52 (a0 := xs 0) (a1 := xs 1) (hi7 xs) rfl hk rfl  H, hf⟩
set_option maxRecDepth 100000 in
set_option maxHeartbeats 4000000 in
theorem t1_53 (K : Nat) (xs : Nat → Int32) (hk : xs 0 &&& 63 = 53) : ∃ h', lw_turn (am_X0 7 xs) 1000 K 0 (hp0 (tW, tT)) h' ∧ fits h' := by
  obtain ⟨h', H, hf⟩ := p_53 (tW, tT) (X := am_X0 7 xs) 1000 (xs 1)
  exact ⟨h', lk_53 (a0 := xs 0) (a1 := xs 1) (hi7 xs) rfl hk rfl  H, hf⟩
set_option maxRecDepth 100000 in
set_option maxHeartbeats 4000000 in
theorem t1_54 (K : Nat) (xs : Nat → Int32) (hk : xs 0 &&& 63 = 54) : ∃ h', lw_turn (am_X0 7 xs) 1000 K 0 (hp0 (tW, tT)) h' ∧ fits h' := by
  obtain ⟨h', H, hf⟩ := p_54 (tW, tT) (X := am_X0 7 xs) 1000 (xs 1) (xs 2) (xs 3)
  exact ⟨h', lk_54 (a0 := xs 0) (a1 := xs 1) (a2 := xs 2) (a3 := xs 3) (hi7 xs) rfl hk rfl rfl rfl  H, hf⟩
set_option maxRecDepth 100000 in
set_option maxHeartbeats 4000000 in
theorem t1_55 (K : Nat) (xs : Nat → Int32) (hk : xs 0 &&& 63 = 55) : ∃ h', lw_turn (am_X0 7 xs) 1000 K 0 (hp0 (tW, tT)) h' ∧ fits h' := by
  obtain ⟨h', H, hf⟩ := p_55 (tW, tT) (X := am_X0 7 xs) 1000 (xs 1) (xs 2)
  exact ⟨h', lk_55 (a0 := xs 0) (a1 := xs 1) (a2 := xs 2) (hi7 xs) rfl hk rfl rfl  H, hf⟩
set_option maxRecDepth 100000 in
set_option maxHeartbeats 4000000 in
theorem t1_56 (K : Nat) (xs : Nat → Int32) (hk : xs 0 &&& 63 = 56) : ∃ h', lw_turn (am_X0 7 xs) 1000 K 0 (hp0 (tW, tT)) h' ∧ fits h' := by
  obtain ⟨h', H, hf⟩ := p_56 (tW, tT) (X := am_X0 7 xs) 1000 (xs 1)
  exact ⟨h', lk_56 (a0 := xs 0) (a1 := xs 1) (hi7 xs) rfl hk rfl  H, hf⟩
set_option maxRecDepth 100000 in
set_option maxHeartbeats 4000000 in
theorem t1_57 (K : Nat) (xs : Nat → Int32) (hk : xs 0 &&& 63 = 57) : ∃ h', lw_turn (am_X0 7 xs) 1000 K 0 (hp0 (tW, tT)) h' ∧ fits h' := by
  obtain ⟨h', H, hf⟩ := p_57 (tW, tT) (X := am_X0 7 xs) 1000 (xs 1)
  exact ⟨h', lk_57 (a0 := xs 0) (a1 := xs 1) (hi7 xs) rfl hk rfl  H, hf⟩
set_option maxRecDepth 100000 in
set_option maxHeartbeats 4000000 in
theorem t1_58 (K : Nat) (xs : Nat → Int32) (hk : xs 0 &&& 63 = 58) : ∃ h', lw_turn (am_X0 7 xs) 1000 K 0 (hp0 (tW, tT)) h' ∧ fits h' := by
  obtain ⟨h', H, hf⟩ := p_58 (tW, tT) (X := am_X0 7 xs) 1000 (xs 1)
  exact ⟨h', lk_58 (a0 := xs 0) (a1 := xs 1) (hi7 xs) rfl hk rfl  H, hf⟩
set_option maxRecDepth 100000 in
set_option maxHeartbeats 4000000 in
theorem t1_59 (K : Nat) (xs : Nat → Int32) (hk : xs 0 &&& 63 = 59) : ∃ h', lw_turn (am_X0 7 xs) 1000 K 0 (hp0 (tW, tT)) h' ∧ fits h' := by
  obtain ⟨h', H, hf⟩ := p_59 (tW, tT) (X := am_X0 7 xs) 1000 (xs 1)
  exact ⟨h', lk_59 (a0 := xs 0) (a1 := xs 1) (hi7 xs) rfl hk rfl  H, hf⟩
set_option maxRecDepth 100000 in
set_option maxHeartbeats 4000000 in
theorem hp0_fits : fits (hp0 (tW, tT)) := fits_of szl rfl (by decide)
theorem t1_all (H32 : ∀ (a1 a2 a3 a4 : Int32) (x : Int64), ∃ h', opBI (fm_199 1000 (.ref 0) a1 a2 a3 a4 x (.ref 268) (hp0 (tW, tT))) (fun h1 => fm_488 1000 (.ref 174) a1 a2 a3 a4 x h1) vfI h' ∧ fits h') (K : Nat) (xs : Nat → Int32) : ∃ h', lw_turn (am_X0 7 xs) 1000 K 0 (hp0 (tW, tT)) h' ∧ fits h' := by
  obtain ⟨j, hj, hk⟩ := and63 (xs 0)
  by_cases c0 : j = 0
  · subst c0
    exact t1_0 K xs hk
  by_cases c1 : j = 1
  · subst c1
    exact t1_1 K xs hk
  by_cases c2 : j = 2
  · subst c2
    exact t1_2 K xs hk
  by_cases c3 : j = 3
  · subst c3
    exact t1_3 K xs hk
  by_cases c4 : j = 4
  · subst c4
    exact t1_4 K xs hk
  by_cases c5 : j = 5
  · subst c5
    exact t1_5 K xs hk
  by_cases c6 : j = 6
  · subst c6
    exact t1_6 K xs hk
  by_cases c7 : j = 7
  · subst c7
    exact t1_7 K xs hk
  by_cases c8 : j = 8
  · subst c8
    exact t1_8 K xs hk
  by_cases c9 : j = 9
  · subst c9
    exact t1_9 K xs hk
  by_cases c10 : j = 10
  · subst c10
    exact t1_10 K xs hk
  by_cases c11 : j = 11
  · subst c11
    exact t1_11 K xs hk
  by_cases c12 : j = 12
  · subst c12
    exact t1_12 K xs hk
  by_cases c13 : j = 13
  · subst c13
    exact t1_13 K xs hk
  by_cases c14 : j = 14
  · subst c14
    exact t1_14 K xs hk
  by_cases c15 : j = 15
  · subst c15
    exact t1_15 K xs hk
  by_cases c16 : j = 16
  · subst c16
    exact t1_16 K xs hk
  by_cases c17 : j = 17
  · subst c17
    exact t1_17 K xs hk
  by_cases c18 : j = 18
  · subst c18
    exact t1_18 K xs hk
  by_cases c19 : j = 19
  · subst c19
    exact t1_19 K xs hk
  by_cases c20 : j = 20
  · subst c20
    exact t1_20 K xs hk
  by_cases c21 : j = 21
  · subst c21
    exact t1_21 K xs hk
  by_cases c22 : j = 22
  · subst c22
    exact t1_22 K xs hk
  by_cases c23 : j = 23
  · subst c23
    exact t1_23 K xs hk
  by_cases c24 : j = 24
  · subst c24
    exact t1_24 K xs hk
  by_cases c25 : j = 25
  · subst c25
    exact t1_25 K xs hk
  by_cases c26 : j = 26
  · subst c26
    exact t1_26 K xs hk
  by_cases c27 : j = 27
  · subst c27
    exact t1_27 K xs hk
  by_cases c28 : j = 28
  · subst c28
    exact t1_28 K xs hk
  by_cases c29 : j = 29
  · subst c29
    exact t1_29 K xs hk
  by_cases c30 : j = 30
  · subst c30
    exact t1_30 K xs hk
  by_cases c31 : j = 31
  · subst c31
    exact t1_31 K xs hk
  by_cases c32 : j = 32
  · subst c32
    exact t1_32 H32 K xs hk
  by_cases c33 : j = 33
  · subst c33
    exact t1_33 K xs hk
  by_cases c34 : j = 34
  · subst c34
    exact t1_34 K xs hk
  by_cases c35 : j = 35
  · subst c35
    exact t1_35 K xs hk
  by_cases c36 : j = 36
  · subst c36
    exact t1_36 K xs hk
  by_cases c37 : j = 37
  · subst c37
    exact t1_37 K xs hk
  by_cases c38 : j = 38
  · subst c38
    exact t1_38 K xs hk
  by_cases c39 : j = 39
  · subst c39
    exact t1_39 K xs hk
  by_cases c40 : j = 40
  · subst c40
    exact t1_40 K xs hk
  by_cases c41 : j = 41
  · subst c41
    exact t1_41 K xs hk
  by_cases c42 : j = 42
  · subst c42
    exact t1_42 K xs hk
  by_cases c43 : j = 43
  · subst c43
    exact t1_43 K xs hk
  by_cases c44 : j = 44
  · subst c44
    exact t1_44 K xs hk
  by_cases c45 : j = 45
  · subst c45
    exact t1_45 K xs hk
  by_cases c46 : j = 46
  · subst c46
    exact t1_46 K xs hk
  by_cases c47 : j = 47
  · subst c47
    exact t1_47 K xs hk
  by_cases c48 : j = 48
  · subst c48
    exact t1_48 K xs hk
  by_cases c49 : j = 49
  · subst c49
    exact t1_49 K xs hk
  by_cases c50 : j = 50
  · subst c50
    exact t1_50 K xs hk
  by_cases c51 : j = 51
  · subst c51
    exact t1_51 K xs hk
  by_cases c52 : j = 52
  · subst c52
    exact t1_52 K xs hk
  by_cases c53 : j = 53
  · subst c53
    exact t1_53 K xs hk
  by_cases c54 : j = 54
  · subst c54
    exact t1_54 K xs hk
  by_cases c55 : j = 55
  · subst c55
    exact t1_55 K xs hk
  by_cases c56 : j = 56
  · subst c56
    exact t1_56 K xs hk
  by_cases c57 : j = 57
  · subst c57
    exact t1_57 K xs hk
  by_cases c58 : j = 58
  · subst c58
    exact t1_58 K xs hk
  by_cases c59 : j = 59
  · subst c59
    exact t1_59 K xs hk
  refine ⟨hp0 (tW, tT), lk_no (a0 := xs 0) (hi7 xs) rfl (fun k hk9 e => ?_), hp0_fits⟩
  have e2 : j = k := (nI_eq (by omega) (by omega)).mp (hk.symm.trans e)
  omega
set_option maxRecDepth 100000 in
set_option maxHeartbeats 4000000 in
theorem one_goal (H32 : ∀ (a1 a2 a3 a4 : Int32) (x : Int64), ∃ h', opBI (fm_199 1000 (.ref 0) a1 a2 a3 a4 x (.ref 268) (hp0 (tW, tT))) (fun h1 => fm_488 1000 (.ref 174) a1 a2 a3 a4 x h1) vfI h' ∧ fits h') (L : Nat) (xs : Nat → Int32) (hL : L ≤ 7) : ∃ (N : Nat) (h1 : am_H), fm_0 (am_X0 L xs) N [] = some (.inl (some (.int 1), h1)) ∧ h1.length ≤ 600002 ∧ am_sz h1 ≤ 7301098 := by
  have e0 := e_0 (X := am_X0 L xs) (N := 1000) (by decide)
  rw [rk_all] at e0
  by_cases c : L < 7
  · refine ⟨1000, hp0 (tW, tT), ?_, hp0_fits.1, hp0_fits.2⟩
    rw [e0, fg_0_23]
    refine ev_t ?_ rfl
    rcases (by omega : L = 0 ∨ L = 1 ∨ L = 2 ∨ L = 3 ∨ L = 4 ∨ L = 5 ∨ L = 6) with rfl | rfl | rfl | rfl | rfl | rfl | rfl
    · show Int32.ofNat 0 - 7 < 0
      decide
    · show Int32.ofNat 1 - 7 < 0
      decide
    · show Int32.ofNat 2 - 7 < 0
      decide
    · show Int32.ofNat 3 - 7 < 0
      decide
    · show Int32.ofNat 4 - 7 < 0
      decide
    · show Int32.ofNat 5 - 7 < 0
      decide
    · show Int32.ofNat 6 - 7 < 0
      decide
  · obtain rfl : L = 7 := by omega
    obtain ⟨h', ht, hf⟩ := t1_all H32 999 xs
    refine ⟨1000, h', ?_, hf.1, hf.2⟩
    rw [e0]
    refine ht.trans ?_
    rw [fg_0_23]
    refine ev_t ?_ rfl
    show Int32.ofNat 7 - 7 < 0 + 7
    decide
/-- one call on fresh objects, given that both sides draw code (populate's kind 1) -/
theorem one_goal2 (HC : ∀ z, 1 ≤ z → z ≤ 9 → dOk 1000 (L0 (tW, tT)) 1 z) (HR : ∀ z, 1 ≤ z → z ≤ 9 → rOk1 1000 1 z) (L : Nat) (xs : Nat → Int32) (hL : L ≤ 7) : ∃ (N : Nat) (h1 : am_H), fm_0 (am_X0 L xs) N [] = some (.inl (some (.int 1), h1)) ∧ h1.length ≤ 600002 ∧ am_sz h1 ≤ 7301098 := one_goal (p_32 HC HR) L xs hL
