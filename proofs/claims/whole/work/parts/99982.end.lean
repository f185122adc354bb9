/-! ===== whole: every run of calls ===== -/
theorem i_vc : Claimed_1_1 ∧ Claimed_1_2 := am_vc (am_goal_of whole_goal)
