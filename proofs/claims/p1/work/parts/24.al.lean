set_option maxRecDepth 100000 in
theorem am_bl_o : ((am_bl.filter (fun q => q.2.2 == 10003)).zip [333, 212, 120, 339, 266, 448, 126, 51, 218, 45, 483, 35, 2067]).all (fun q => am_tix q.2 (.methodLink (am_on.getD q.1.1 "") q.1.2.1 Lib.objectInit)) = true := by decide +kernel
set_option maxRecDepth 100000 in
theorem am_bl_a : ((am_bl.filter (fun q => q.2.2 == 10000)).zip [1140, 914, 1186, 1677]).all (fun q => am_tix q.2 (.methodLink (am_on.getD q.1.1 "") q.1.2.1 arraycopyName)) = true := by decide +kernel
set_option maxRecDepth 100000 in
theorem am_bl_w : am_tix 36 (.instanceMethod Lib.objectInit) = true ∧ am_tix 37 (.code Lib.objectInit ⟨#[0xb1]⟩ 1 none) = true ∧ am_tix 916 (.native arraycopyName) = true ∧ am_tix 915 (.static arraycopyName) = true ∧ am_tix 26 (.initialized "java/lang/System") = true := by decide +kernel
/-- what the tables must say, they say -/
theorem am_al_ok : am_AL := by
  refine ⟨am_vl_al, am_il_al, am_in_al, am_tl_al, am_tn_al, am_tw_al, fun q hq h => ?_, am_tix_mem am_bl_w.1, am_tix_mem am_bl_w.2.1, fun q hq h => ?_, am_tix_mem am_bl_w.2.2.1, am_tix_mem am_bl_w.2.2.2.1, am_tix_mem am_bl_w.2.2.2.2⟩
  · obtain ⟨i, h9⟩ := am_zip (α := Nat × Nat × Nat) (β := Nat) (f := fun q i => am_tix i (.methodLink (am_on.getD q.1 "") q.2.1 Lib.objectInit)) (by decide) am_bl_o q (List.mem_filter.mpr ⟨hq, by rw [beq_iff_eq]; exact h⟩)
    exact am_tix_mem h9
  · obtain ⟨i, h9⟩ := am_zip (α := Nat × Nat × Nat) (β := Nat) (f := fun q i => am_tix i (.methodLink (am_on.getD q.1 "") q.2.1 arraycopyName)) (by decide) am_bl_a q (List.mem_filter.mpr ⟨hq, by rw [beq_iff_eq]; exact h⟩)
    exact am_tix_mem h9
