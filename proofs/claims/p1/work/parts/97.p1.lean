/-! ===== p1: one call on fresh objects ===== -/
theorem i_vc : Claimed_1_1 ∧ Claimed_1_2 := am_vc (am_goal_of (fun L xs hL => by
  obtain ⟨N, h1, a, b, c⟩ := one_goal2 (fun z h1 h9 => dOk_1 (by decide) rfl rfl h1 h9) (fun z h1 h9 => rOk1_1 (by decide) h1 h9) L xs hL
  exact ⟨N, h1, a, b, by omega⟩))
