set_option maxRecDepth 100000 in
theorem am_bl_o : ((am_bl.filter (fun q => q.2.2 == 10003)).zip [333, 212, 120, 339, 266, 448, 126, 51, 218, 45, 483, 35, 2067]).all (fun q => am_tix q.2 (.methodLink (am_on.getD q.1.1 "") q.1.2.1 Lib.objectInit)) = true := sorry
set_option maxRecDepth 100000 in
theorem am_bl_a : ((am_bl.filter (fun q => q.2.2 == 10000)).zip [1140, 914, 1186, 1677]).all (fun q => am_tix q.2 (.methodLink (am_on.getD q.1.1 "") q.1.2.1 arraycopyName)) = true := sorry
set_option maxRecDepth 100000 in
theorem am_bl_w : am_tix 36 (.instanceMethod Lib.objectInit) = true ∧ am_tix 37 (.code Lib.objectInit ⟨#[0xb1]⟩ 1 none) = true ∧ am_tix 916 (.native arraycopyName) = true ∧ am_tix 915 (.static arraycopyName) = true ∧ am_tix 26 (.initialized "java/lang/System") = true := sorry
/-- what the tables must say, they say -/
theorem am_al_ok : am_AL := sorry