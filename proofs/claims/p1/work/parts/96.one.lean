/-! ===== one call on fresh objects ===== -/
theorem hi7 (xs : Nat → Int32) : ¬ (Int32.ofNat (am_X0 7 xs 0).1) - 7 < 0 := sorry
theorem and63 (a : Int32) : ∃ j : Nat, j < 64 ∧ a &&& 63 = nI j := sorry
set_option maxRecDepth 100000 in
set_option maxHeartbeats 4000000 in
theorem t1_0 (K : Nat) (xs : Nat → Int32) (hk : xs 0 &&& 63 = 0) : ∃ h', lw_turn (am_X0 7 xs) 1000 K 0 (hp0 (tW, tT)) h' ∧ fits h' := sorry
theorem p_1q (a1 : Int32) : ∃ h', opBI (fm_30 1000 (.ref 0) a1 (.ref 268) (hp0 (tW, tT))) (fun h1 => fm_326 1000 (.ref 174) a1 h1) vfI h' ∧ fits h' := sorry
set_option maxRecDepth 100000 in
set_option maxHeartbeats 4000000 in
theorem t1_1 (K : Nat) (xs : Nat → Int32) (hk : xs 0 &&& 63 = 1) : ∃ h', lw_turn (am_X0 7 xs) 1000 K 0 (hp0 (tW, tT)) h' ∧ fits h' := sorry
set_option maxRecDepth 100000 in
set_option maxHeartbeats 4000000 in
theorem t1_2 (K : Nat) (xs : Nat → Int32) (hk : xs 0 &&& 63 = 2) : ∃ h', lw_turn (am_X0 7 xs) 1000 K 0 (hp0 (tW, tT)) h' ∧ fits h' := sorry
set_option maxRecDepth 100000 in
set_option maxHeartbeats 4000000 in
theorem t1_3 (K : Nat) (xs : Nat → Int32) (hk : xs 0 &&& 63 = 3) : ∃ h', lw_turn (am_X0 7 xs) 1000 K 0 (hp0 (tW, tT)) h' ∧ fits h' := sorry
set_option maxRecDepth 100000 in
set_option maxHeartbeats 4000000 in
theorem t1_4 (K : Nat) (xs : Nat → Int32) (hk : xs 0 &&& 63 = 4) : ∃ h', lw_turn (am_X0 7 xs) 1000 K 0 (hp0 (tW, tT)) h' ∧ fits h' := sorry
set_option maxRecDepth 100000 in
set_option maxHeartbeats 4000000 in
theorem t1_5 (K : Nat) (xs : Nat → Int32) (hk : xs 0 &&& 63 = 5) : ∃ h', lw_turn (am_X0 7 xs) 1000 K 0 (hp0 (tW, tT)) h' ∧ fits h' := sorry
set_option maxRecDepth 100000 in
set_option maxHeartbeats 4000000 in
theorem t1_6 (K : Nat) (xs : Nat → Int32) (hk : xs 0 &&& 63 = 6) : ∃ h', lw_turn (am_X0 7 xs) 1000 K 0 (hp0 (tW, tT)) h' ∧ fits h' := sorry
set_option maxRecDepth 100000 in
set_option maxHeartbeats 4000000 in
theorem t1_7 (K : Nat) (xs : Nat → Int32) (hk : xs 0 &&& 63 = 7) : ∃ h', lw_turn (am_X0 7 xs) 1000 K 0 (hp0 (tW, tT)) h' ∧ fits h' := sorry
set_option maxRecDepth 100000 in
set_option maxHeartbeats 4000000 in
theorem t1_8 (K : Nat) (xs : Nat → Int32) (hk : xs 0 &&& 63 = 8) : ∃ h', lw_turn (am_X0 7 xs) 1000 K 0 (hp0 (tW, tT)) h' ∧ fits h' := sorry
set_option maxRecDepth 100000 in
set_option maxHeartbeats 4000000 in
theorem t1_9 (K : Nat) (xs : Nat → Int32) (hk : xs 0 &&& 63 = 9) : ∃ h', lw_turn (am_X0 7 xs) 1000 K 0 (hp0 (tW, tT)) h' ∧ fits h' := sorry
set_option maxRecDepth 100000 in
set_option maxHeartbeats 4000000 in
theorem t1_10 (K : Nat) (xs : Nat → Int32) (hk : xs 0 &&& 63 = 10) : ∃ h', lw_turn (am_X0 7 xs) 1000 K 0 (hp0 (tW, tT)) h' ∧ fits h' := sorry
set_option maxRecDepth 100000 in
set_option maxHeartbeats 4000000 in
theorem t1_11 (K : Nat) (xs : Nat → Int32) (hk : xs 0 &&& 63 = 11) : ∃ h', lw_turn (am_X0 7 xs) 1000 K 0 (hp0 (tW, tT)) h' ∧ fits h' := sorry
set_option maxRecDepth 100000 in
set_option maxHeartbeats 4000000 in
theorem t1_12 (K : Nat) (xs : Nat → Int32) (hk : xs 0 &&& 63 = 12) : ∃ h', lw_turn (am_X0 7 xs) 1000 K 0 (hp0 (tW, tT)) h' ∧ fits h' := sorry
set_option maxRecDepth 100000 in
set_option maxHeartbeats 4000000 in
theorem t1_13 (K : Nat) (xs : Nat → Int32) (hk : xs 0 &&& 63 = 13) : ∃ h', lw_turn (am_X0 7 xs) 1000 K 0 (hp0 (tW, tT)) h' ∧ fits h' := sorry
set_option maxRecDepth 100000 in
set_option maxHeartbeats 4000000 in
theorem t1_14 (K : Nat) (xs : Nat → Int32) (hk : xs 0 &&& 63 = 14) : ∃ h', lw_turn (am_X0 7 xs) 1000 K 0 (hp0 (tW, tT)) h' ∧ fits h' := sorry
set_option maxRecDepth 100000 in
set_option maxHeartbeats 4000000 in
theorem t1_15 (K : Nat) (xs : Nat → Int32) (hk : xs 0 &&& 63 = 15) : ∃ h', lw_turn (am_X0 7 xs) 1000 K 0 (hp0 (tW, tT)) h' ∧ fits h' := sorry
set_option maxRecDepth 100000 in
set_option maxHeartbeats 4000000 in
theorem t1_16 (K : Nat) (xs : Nat → Int32) (hk : xs 0 &&& 63 = 16) : ∃ h', lw_turn (am_X0 7 xs) 1000 K 0 (hp0 (tW, tT)) h' ∧ fits h' := sorry
set_option maxRecDepth 100000 in
set_option maxHeartbeats 4000000 in
theorem t1_17 (K : Nat) (xs : Nat → Int32) (hk : xs 0 &&& 63 = 17) : ∃ h', lw_turn (am_X0 7 xs) 1000 K 0 (hp0 (tW, tT)) h' ∧ fits h' := sorry
set_option maxRecDepth 100000 in
set_option maxHeartbeats 4000000 in
theorem t1_18 (K : Nat) (xs : Nat → Int32) (hk : xs 0 &&& 63 = 18) : ∃ h', lw_turn (am_X0 7 xs) 1000 K 0 (hp0 (tW, tT)) h' ∧ fits h' := sorry
set_option maxRecDepth 100000 in
set_option maxHeartbeats 4000000 in
theorem t1_19 (K : Nat) (xs : Nat → Int32) (hk : xs 0 &&& 63 = 19) : ∃ h', lw_turn (am_X0 7 xs) 1000 K 0 (hp0 (tW, tT)) h' ∧ fits h' := sorry
set_option maxRecDepth 100000 in
set_option maxHeartbeats 4000000 in
theorem t1_20 (K : Nat) (xs : Nat → Int32) (hk : xs 0 &&& 63 = 20) : ∃ h', lw_turn (am_X0 7 xs) 1000 K 0 (hp0 (tW, tT)) h' ∧ fits h' := sorry
set_option maxRecDepth 100000 in
set_option maxHeartbeats 4000000 in
theorem t1_21 (K : Nat) (xs : Nat → Int32) (hk : xs 0 &&& 63 = 21) : ∃ h', lw_turn (am_X0 7 xs) 1000 K 0 (hp0 (tW, tT)) h' ∧ fits h' := sorry
set_option maxRecDepth 100000 in
set_option maxHeartbeats 4000000 in
theorem t1_22 (K : Nat) (xs : Nat → Int32) (hk : xs 0 &&& 63 = 22) : ∃ h', lw_turn (am_X0 7 xs) 1000 K 0 (hp0 (tW, tT)) h' ∧ fits h' := sorry
set_option maxRecDepth 100000 in
set_option maxHeartbeats 4000000 in
theorem t1_23 (K : Nat) (xs : Nat → Int32) (hk : xs 0 &&& 63 = 23) : ∃ h', lw_turn (am_X0 7 xs) 1000 K 0 (hp0 (tW, tT)) h' ∧ fits h' := sorry
set_option maxRecDepth 100000 in
set_option maxHeartbeats 4000000 in
theorem t1_24 (K : Nat) (xs : Nat → Int32) (hk : xs 0 &&& 63 = 24) : ∃ h', lw_turn (am_X0 7 xs) 1000 K 0 (hp0 (tW, tT)) h' ∧ fits h' := sorry
set_option maxRecDepth 100000 in
set_option maxHeartbeats 4000000 in
theorem t1_25 (K : Nat) (xs : Nat → Int32) (hk : xs 0 &&& 63 = 25) : ∃ h', lw_turn (am_X0 7 xs) 1000 K 0 (hp0 (tW, tT)) h' ∧ fits h' := sorry
set_option maxRecDepth 100000 in
set_option maxHeartbeats 4000000 in
theorem t1_26 (K : Nat) (xs : Nat → Int32) (hk : xs 0 &&& 63 = 26) : ∃ h', lw_turn (am_X0 7 xs) 1000 K 0 (hp0 (tW, tT)) h' ∧ fits h' := sorry
set_option maxRecDepth 100000 in
set_option maxHeartbeats 4000000 in
theorem t1_27 (K : Nat) (xs : Nat → Int32) (hk : xs 0 &&& 63 = 27) : ∃ h', lw_turn (am_X0 7 xs) 1000 K 0 (hp0 (tW, tT)) h' ∧ fits h' := sorry
set_option maxRecDepth 100000 in
set_option maxHeartbeats 4000000 in
theorem t1_28 (K : Nat) (xs : Nat → Int32) (hk : xs 0 &&& 63 = 28) : ∃ h', lw_turn (am_X0 7 xs) 1000 K 0 (hp0 (tW, tT)) h' ∧ fits h' := sorry
set_option maxRecDepth 100000 in
set_option maxHeartbeats 4000000 in
theorem t1_29 (K : Nat) (xs : Nat → Int32) (hk : xs 0 &&& 63 = 29) : ∃ h', lw_turn (am_X0 7 xs) 1000 K 0 (hp0 (tW, tT)) h' ∧ fits h' := sorry
set_option maxRecDepth 100000 in
set_option maxHeartbeats 4000000 in
theorem t1_30 (K : Nat) (xs : Nat → Int32) (hk : xs 0 &&& 63 = 30) : ∃ h', lw_turn (am_X0 7 xs) 1000 K 0 (hp0 (tW, tT)) h' ∧ fits h' := sorry
set_option maxRecDepth 100000 in
set_option maxHeartbeats 4000000 in
theorem t1_31 (K : Nat) (xs : Nat → Int32) (hk : xs 0 &&& 63 = 31) : ∃ h', lw_turn (am_X0 7 xs) 1000 K 0 (hp0 (tW, tT)) h' ∧ fits h' := sorry
set_option maxRecDepth 100000 in
set_option maxHeartbeats 4000000 in
theorem t1_32 (H32 : ∀ (a1 a2 a3 a4 : Int32) (x : Int64), ∃ h', opBI (fm_199 1000 (.ref 0) a1 a2 a3 a4 x (.ref 268) (hp0 (tW, tT))) (fun h1 => fm_488 1000 (.ref 174) a1 a2 a3 a4 x h1) vfI h' ∧ fits h') (K : Nat) (xs : Nat → Int32) (hk : xs 0 &&& 63 = 32) : ∃ h', lw_turn (am_X0 7 xs) 1000 K 0 (hp0 (tW, tT)) h' ∧ fits h' := sorry
set_option maxRecDepth 100000 in
set_option maxHeartbeats 4000000 in
theorem t1_33 (K : Nat) (xs : Nat → Int32) (hk : xs 0 &&& 63 = 33) : ∃ h', lw_turn (am_X0 7 xs) 1000 K 0 (hp0 (tW, tT)) h' ∧ fits h' := sorry
set_option maxRecDepth 100000 in
set_option maxHeartbeats 4000000 in
theorem t1_34 (K : Nat) (xs : Nat → Int32) (hk : xs 0 &&& 63 = 34) : ∃ h', lw_turn (am_X0 7 xs) 1000 K 0 (hp0 (tW, tT)) h' ∧ fits h' := sorry
set_option maxRecDepth 100000 in
set_option maxHeartbeats 4000000 in
theorem t1_35 (K : Nat) (xs : Nat → Int32) (hk : xs 0 &&& 63 = 35) : ∃ h', lw_turn (am_X0 7 xs) 1000 K 0 (hp0 (tW, tT)) h' ∧ fits h' := sorry
set_option maxRecDepth 100000 in
set_option maxHeartbeats 4000000 in
theorem t1_36 (K : Nat) (xs : Nat → Int32) (hk : xs 0 &&& 63 = 36) : ∃ h', lw_turn (am_X0 7 xs) 1000 K 0 (hp0 (tW, tT)) h' ∧ fits h' := sorry
set_option maxRecDepth 100000 in
set_option maxHeartbeats 4000000 in
theorem t1_37 (K : Nat) (xs : Nat → Int32) (hk : xs 0 &&& 63 = 37) : ∃ h', lw_turn (am_X0 7 xs) 1000 K 0 (hp0 (tW, tT)) h' ∧ fits h' := sorry
set_option maxRecDepth 100000 in
set_option maxHeartbeats 4000000 in
theorem t1_38 (K : Nat) (xs : Nat → Int32) (hk : xs 0 &&& 63 = 38) : ∃ h', lw_turn (am_X0 7 xs) 1000 K 0 (hp0 (tW, tT)) h' ∧ fits h' := sorry
set_option maxRecDepth 100000 in
set_option maxHeartbeats 4000000 in
theorem t1_39 (K : Nat) (xs : Nat → Int32) (hk : xs 0 &&& 63 = 39) : ∃ h', lw_turn (am_X0 7 xs) 1000 K 0 (hp0 (tW, tT)) h' ∧ fits h' := sorry
set_option maxRecDepth 100000 in
set_option maxHeartbeats 4000000 in
theorem t1_40 (K : Nat) (xs : Nat → Int32) (hk : xs 0 &&& 63 = 40) : ∃ h', lw_turn (am_X0 7 xs) 1000 K 0 (hp0 (tW, tT)) h' ∧ fits h' := sorry
set_option maxRecDepth 100000 in
set_option maxHeartbeats 4000000 in
theorem t1_41 (K : Nat) (xs : Nat → Int32) (hk : xs 0 &&& 63 = 41) : ∃ h', lw_turn (am_X0 7 xs) 1000 K 0 (hp0 (tW, tT)) h' ∧ fits h' := sorry
set_option maxRecDepth 100000 in
set_option maxHeartbeats 4000000 in
theorem t1_42 (K : Nat) (xs : Nat → Int32) (hk : xs 0 &&& 63 = 42) : ∃ h', lw_turn (am_X0 7 xs) 1000 K 0 (hp0 (tW, tT)) h' ∧ fits h' := sorry
set_option maxRecDepth 100000 in
set_option maxHeartbeats 4000000 in
theorem t1_43 (K : Nat) (xs : Nat → Int32) (hk : xs 0 &&& 63 = 43) : ∃ h', lw_turn (am_X0 7 xs) 1000 K 0 (hp0 (tW, tT)) h' ∧ fits h' := sorry
set_option maxRecDepth 100000 in
set_option maxHeartbeats 4000000 in
theorem t1_44 (K : Nat) (xs : Nat → Int32) (hk : xs 0 &&& 63 = 44) : ∃ h', lw_turn (am_X0 7 xs) 1000 K 0 (hp0 (tW, tT)) h' ∧ fits h' := sorry
set_option maxRecDepth 100000 in
set_option maxHeartbeats 4000000 in
theorem t1_45 (K : Nat) (xs : Nat → Int32) (hk : xs 0 &&& 63 = 45) : ∃ h', lw_turn (am_X0 7 xs) 1000 K 0 (hp0 (tW, tT)) h' ∧ fits h' := sorry
set_option maxRecDepth 100000 in
set_option maxHeartbeats 4000000 in
theorem t1_46 (K : Nat) (xs : Nat → Int32) (hk : xs 0 &&& 63 = 46) : ∃ h', lw_turn (am_X0 7 xs) 1000 K 0 (hp0 (tW, tT)) h' ∧ fits h' := sorry
set_option maxRecDepth 100000 in
set_option maxHeartbeats 4000000 in
theorem t1_47 (K : Nat) (xs : Nat → Int32) (hk : xs 0 &&& 63 = 47) : ∃ h', lw_turn (am_X0 7 xs) 1000 K 0 (hp0 (tW, tT)) h' ∧ fits h' := sorry
set_option maxRecDepth 100000 in
set_option maxHeartbeats 4000000 in
theorem t1_48 (K : Nat) (xs : Nat → Int32) (hk : xs 0 &&& 63 = 48) : ∃ h', lw_turn (am_X0 7 xs) 1000 K 0 (hp0 (tW, tT)) h' ∧ fits h' := sorry
set_option maxRecDepth 100000 in
set_option maxHeartbeats 4000000 in
theorem t1_49 (K : Nat) (xs : Nat → Int32) (hk : xs 0 &&& 63 = 49) : ∃ h', lw_turn (am_X0 7 xs) 1000 K 0 (hp0 (tW, tT)) h' ∧ fits h' := sorry
set_option maxRecDepth 100000 in
set_option maxHeartbeats 4000000 in
theorem t1_50 (K : Nat) (xs : Nat → Int32) (hk : xs 0 &&& 63 = 50) : ∃ h', lw_turn (am_X0 7 xs) 1000 K 0 (hp0 (tW, tT)) h' ∧ fits h' := sorry
set_option maxRecDepth 100000 in
set_option maxHeartbeats 4000000 in
theorem t1_51 (K : Nat) (xs : Nat → Int32) (hk : xs 0 &&& 63 = 51) : ∃ h', lw_turn (am_X0 7 xs) 1000 K 0 (hp0 (tW, tT)) h' ∧ fits h' := sorry
set_option maxRecDepth 100000 in
set_option maxHeartbeats 4000000 in
theorem t1_52 (K : Nat) (xs : Nat → Int32) (hk : xs 0 &&& 63 = 52) : ∃ h', lw_turn (am_X0 7 xs) 1000 K 0 (hp0 (tW, tT)) h' ∧ fits h' := sorry
set_option maxRecDepth 100000 in
set_option maxHeartbeats 4000000 in
theorem t1_53 (K : Nat) (xs : Nat → Int32) (hk : xs 0 &&& 63 = 53) : ∃ h', lw_turn (am_X0 7 xs) 1000 K 0 (hp0 (tW, tT)) h' ∧ fits h' := sorry
set_option maxRecDepth 100000 in
set_option maxHeartbeats 4000000 in
theorem t1_54 (K : Nat) (xs : Nat → Int32) (hk : xs 0 &&& 63 = 54) : ∃ h', lw_turn (am_X0 7 xs) 1000 K 0 (hp0 (tW, tT)) h' ∧ fits h' := sorry
set_option maxRecDepth 100000 in
set_option maxHeartbeats 4000000 in
theorem t1_55 (K : Nat) (xs : Nat → Int32) (hk : xs 0 &&& 63 = 55) : ∃ h', lw_turn (am_X0 7 xs) 1000 K 0 (hp0 (tW, tT)) h' ∧ fits h' := sorry
set_option maxRecDepth 100000 in
set_option maxHeartbeats 4000000 in
theorem t1_56 (K : Nat) (xs : Nat → Int32) (hk : xs 0 &&& 63 = 56) : ∃ h', lw_turn (am_X0 7 xs) 1000 K 0 (hp0 (tW, tT)) h' ∧ fits h' := sorry
set_option maxRecDepth 100000 in
set_option maxHeartbeats 4000000 in
theorem t1_57 (K : Nat) (xs : Nat → Int32) (hk : xs 0 &&& 63 = 57) : ∃ h', lw_turn (am_X0 7 xs) 1000 K 0 (hp0 (tW, tT)) h' ∧ fits h' := sorry
set_option maxRecDepth 100000 in
set_option maxHeartbeats 4000000 in
theorem t1_58 (K : Nat) (xs : Nat → Int32) (hk : xs 0 &&& 63 = 58) : ∃ h', lw_turn (am_X0 7 xs) 1000 K 0 (hp0 (tW, tT)) h' ∧ fits h' := sorry
set_option maxRecDepth 100000 in
set_option maxHeartbeats 4000000 in
theorem t1_59 (K : Nat) (xs : Nat → Int32) (hk : xs 0 &&& 63 = 59) : ∃ h', lw_turn (am_X0 7 xs) 1000 K 0 (hp0 (tW, tT)) h' ∧ fits h' := sorry
set_option maxRecDepth 100000 in
set_option maxHeartbeats 4000000 in
theorem hp0_fits : fits (hp0 (tW, tT)) := fits_of szl rfl (by decide)
theorem t1_all (H32 : ∀ (a1 a2 a3 a4 : Int32) (x : Int64), ∃ h', opBI (fm_199 1000 (.ref 0) a1 a2 a3 a4 x (.ref 268) (hp0 (tW, tT))) (fun h1 => fm_488 1000 (.ref 174) a1 a2 a3 a4 x h1) vfI h' ∧ fits h') (K : Nat) (xs : Nat → Int32) : ∃ h', lw_turn (am_X0 7 xs) 1000 K 0 (hp0 (tW, tT)) h' ∧ fits h' := sorry
set_option maxRecDepth 100000 in
set_option maxHeartbeats 4000000 in
theorem one_goal (H32 : ∀ (a1 a2 a3 a4 : Int32) (x : Int64), ∃ h', opBI (fm_199 1000 (.ref 0) a1 a2 a3 a4 x (.ref 268) (hp0 (tW, tT))) (fun h1 => fm_488 1000 (.ref 174) a1 a2 a3 a4 x h1) vfI h' ∧ fits h') (L : Nat) (xs : Nat → Int32) (hL : L ≤ 7) : ∃ (N : Nat) (h1 : am_H), fm_0 (am_X0 L xs) N [] = some (.inl (some (.int 1), h1)) ∧ h1.length ≤ 600002 ∧ am_sz h1 ≤ 7301098 := sorry
/-- one call on fresh objects, given that both sides draw code (populate's kind 1) -/
theorem one_goal2 (HC : ∀ z, 1 ≤ z → z ≤ 9 → dOk 1000 (L0 (tW, tT)) 1 z) (HR : ∀ z, 1 ≤ z → z ≤ 9 → rOk1 1000 1 z) (L : Nat) (xs : Nat → Int32) (hL : L ≤ 7) : ∃ (N : Nat) (h1 : am_H), fm_0 (am_X0 L xs) N [] = some (.inl (some (.int 1), h1)) ∧ h1.length ≤ 600002 ∧ am_sz h1 ≤ 7301098 := one_goal (p_32 HC HR) L xs hL
