/-! ===== methods as functions ===== -/
def fg_542_24 (s0 : Int32) (h : am_H) : Option am_O := (if am_rfit (some FieldType.boolean) s0 then some (.inl (some (.int s0), h)) else none)
theorem rg_542_24 {X : am_X} {d : Nat} {lv : am_LV} (s0 : Int32) (h : am_H) (o : am_O) (hs : fg_542_24 s0 h = some o) : am_W X (d) 542 24 lv [(.int s0)] h (fun q => q = o) := by
  unfold fg_542_24 at hs
  obtain ⟨z1, hs1⟩ := am_ift hs
  clear hs
  cases hs1
  exact aw_iret at_542_24 (by rw [rt_542]; exact z1) rfl
def fg_542_23 (h : am_H) : Option am_O := (fg_542_24 0 h)
theorem rg_542_23 {X : am_X} {d : Nat} {lv : am_LV} (h : am_H) (o : am_O) (hs : fg_542_23 h = some o) : am_W X (d) 542 23 lv [] h (fun q => q = o) := by
  unfold fg_542_23 at hs
  refine aw_iconst (v := 0) (pc1 := 24) at_542_23 (by decide) rfl ?_
  exact rg_542_24 0 h o   hs
def fg_542_0 (x0 : Value) (x1 : Int32) (x2 : Int32) (h : am_H) : Option am_O := ((am_vR (am_pG 3093 x0 h)).bind fun v1 => ((am_pA 0 v1 x1 h).bind fun v3 => (if ¬ v3 = 0 then (fg_542_23 h) else ((am_vR (am_pG 3094 x0 h)).bind fun v6 => ((am_pA 0 v6 x1 h).bind fun v8 => (if ¬ v8 = x2 then (fg_542_23 h) else (fg_542_24 1 h)))))))
theorem rg_542_0 {X : am_X} {d : Nat} {lv : am_LV} (x0 : Value) (x1 : Int32) (x2 : Int32) (h : am_H) (o : am_O) (l0 : lv.lookup 0 = some x0) (l1 : lv.lookup 1 = some (.int x1)) (l2 : lv.lookup 2 = some (.int x2)) (i0 : am_isR x0 = true) (hs : fg_542_0 x0 x1 x2 h = some o) : am_W X (d) 542 0 lv [] h (fun q => q = o) := by
  unfold fg_542_0 at hs
  refine aw_vload_n (pc1 := 1) at_542_0 l0 i0 rfl ?_
  obtain ⟨v1, e2, hs1⟩ := am_bind hs
  clear hs
  refine aw_pG (pc1 := 4) at_542_1 (am_vR_s e2).1 rfl ?_
  refine aw_iload_n (pc1 := 5) at_542_4 l1 rfl ?_
  obtain ⟨v3, e4, hs2⟩ := am_bind hs1
  clear hs1
  refine aw_pA (pc1 := 6) at_542_5 (Or.inl ⟨rfl, rfl⟩) e4 rfl ?_
  by_cases c5 : ¬ v3 = 0
  · rw [if_pos c5] at hs2
    refine aw_ifne_t at_542_6 c5 ?_
    exact rg_542_23 h o   hs2
  · rw [if_neg c5] at hs2
    refine aw_ifne_f (pc1 := 9) at_542_6 c5 rfl ?_
    refine aw_vload_n (pc1 := 10) at_542_9 l0 i0 rfl ?_
    obtain ⟨v6, e7, hs3⟩ := am_bind hs2
    clear hs2
    refine aw_pG (pc1 := 13) at_542_10 (am_vR_s e7).1 rfl ?_
    refine aw_iload_n (pc1 := 14) at_542_13 l1 rfl ?_
    obtain ⟨v8, e9, hs4⟩ := am_bind hs3
    clear hs3
    refine aw_pA (pc1 := 15) at_542_14 (Or.inl ⟨rfl, rfl⟩) e9 rfl ?_
    refine aw_iload_n (pc1 := 16) at_542_15 l2 rfl ?_
    by_cases c10 : ¬ v8 = x2
    · rw [if_pos c10] at hs4
      refine aw_icne_t at_542_16 c10 ?_
      exact rg_542_23 h o   hs4
    · rw [if_neg c10] at hs4
      refine aw_icne_f (pc1 := 19) at_542_16 c10 rfl ?_
      refine aw_iconst (v := 1) (pc1 := 20) at_542_19 (by decide) rfl ?_
      refine aw_goto at_542_20 ?_
      exact rg_542_24 1 h o   hs4
def fm_542 (y0 : Value) (y1 : Int32) (y2 : Int32) (h : am_H) : Option am_O := fg_542_0 y0 y1 y2 h
theorem rm_542 {X : am_X} {d : Nat} (y0 : Value) (y1 : Int32) (y2 : Int32) (h : am_H) (o : am_O) (i0 : am_isR y0 = true) (hs : fm_542 y0 y1 y2 h = some o) : am_W X (d) 542 0 (am_args 0 [y0, .int y1, .int y2]) [] h (fun q => q = o) := by
  rw [am_args_R i0, am_args_I, am_args_I]
  exact rg_542_0 y0 y1 y2 h o rfl rfl rfl i0 hs
def fg_543_0 (N : Nat) (x0 : Value) (x1 : Int32) (x2 : Int32) (h : am_H) : Option am_O := (if am_pOk 12 x0 h then am_cV true (fm_451 x0 h) (fun h3 => (if am_pOk 12 x0 h3 then am_cV true (fm_443 N x0 0 x1 h3) (fun h7 => ((am_vR (am_pG 3098 x0 h7)).bind fun v9 => ((am_pA 0 v9 x2 h7).bind fun v11 => (if am_pOk 12 x0 h7 then am_cV true (fm_443 N x0 x2 ((x2 + v11)) h7) (fun h15 => ((am_vR (am_pG 3098 x0 h15)).bind fun v17 => ((am_pA 0 v17 x1 h15).bind fun v19 => ((am_vI (am_pG 3090 x0 h15)).bind fun v21 => (if am_pOk 12 x0 h15 then am_cV true (fm_443 N x0 ((x1 + v19)) v21 h15) (fun h25 => some (.inl (some (.int 1), h25))) else none))))) else none)))) else none)) else none)
theorem rg_543_0 {X : am_X} {d : Nat} {N : Nat} {lv : am_LV} (x0 : Value) (x1 : Int32) (x2 : Int32) (h : am_H) (o : am_O) (l0 : lv.lookup 0 = some x0) (l1 : lv.lookup 1 = some (.int x1)) (l2 : lv.lookup 2 = some (.int x2)) (i0 : am_isR x0 = true) (hs : fg_543_0 N x0 x1 x2 h = some o) : am_W X (d + 2) 543 0 lv [] h (fun q => q = o) := by
  unfold fg_543_0 at hs
  refine aw_vload_n (pc1 := 1) at_543_0 l0 i0 rfl ?_
  obtain ⟨z1, hs1⟩ := am_ift hs
  clear hs
  refine aw_call (F := fm_451 x0 h) (t := true) (na := 1) (kd := 1) (as := [x0]) at_543_1 (am_k3v kb_451) mn_451 mk_451 rfl rfl (am_ok_v mi_451 (am_hl rfl (am_ccR i0 am_cats_0) rfl) z1) (am_hc am_cats_0 rfl) (fun _ => ⟨rfl, hh_543⟩) (fun o1 hz9 => rm_451 x0 h o1 i0 hz9) ?_
  rcases am_cV_s hs1 with ⟨h3, f4, hs2⟩ | hs2
  · clear hs1
    refine Or.inl ⟨_, _, f4, ?_⟩
    show am_W X _ 543 4 _ [] h3 _
    refine aw_vload_n (pc1 := 5) at_543_4 l0 i0 rfl ?_
    refine aw_iconst (v := 0) (pc1 := 6) at_543_5 (by decide) rfl ?_
    refine aw_iload_n (pc1 := 7) at_543_6 l1 rfl ?_
    obtain ⟨z5, hs3⟩ := am_ift hs2
    clear hs2
    refine aw_call (F := fm_443 N x0 0 x1 h3) (t := true) (na := 3) (kd := 1) (as := [x0, (.int 0), (.int x1)]) at_543_7 (am_k3v kb_443) mn_443 mk_443 rfl rfl (am_ok_v mi_443 (am_hl rfl (am_ccR i0 (am_ccI (am_ccI am_cats_0))) rfl) z5) (am_hc am_cats_0 rfl) (fun _ => ⟨rfl, hh_543⟩) (fun o1 hz9 => rm_443 x0 0 x1 h3 o1 i0 hz9) ?_
    rcases am_cV_s hs3 with ⟨h7, f8, hs4⟩ | hs4
    · clear hs3
      refine Or.inl ⟨_, _, f8, ?_⟩
      show am_W X _ 543 10 _ [] h7 _
      refine aw_vload_n (pc1 := 11) at_543_10 l0 i0 rfl ?_
      refine aw_iload_n (pc1 := 12) at_543_11 l2 rfl ?_
      refine aw_iload_n (pc1 := 13) at_543_12 l2 rfl ?_
      refine aw_vload_n (pc1 := 14) at_543_13 l0 i0 rfl ?_
      obtain ⟨v9, e10, hs5⟩ := am_bind hs4
      clear hs4
      refine aw_pG (pc1 := 17) at_543_14 (am_vR_s e10).1 rfl ?_
      refine aw_iload_n (pc1 := 18) at_543_17 l2 rfl ?_
      obtain ⟨v11, e12, hs6⟩ := am_bind hs5
      clear hs5
      refine aw_pA (pc1 := 19) at_543_18 (Or.inl ⟨rfl, rfl⟩) e12 rfl ?_
      refine aw_iadd (v := (x2 + v11)) (pc1 := 20) at_543_19 rfl rfl ?_
      obtain ⟨z13, hs7⟩ := am_ift hs6
      clear hs6
      refine aw_call (F := fm_443 N x0 x2 ((x2 + v11)) h7) (t := true) (na := 3) (kd := 1) (as := [x0, (.int x2), (.int (x2 + v11))]) at_543_20 (am_k3v kb_443) mn_443 mk_443 rfl rfl (am_ok_v mi_443 (am_hl rfl (am_ccR i0 (am_ccI (am_ccI am_cats_0))) rfl) z13) (am_hc am_cats_0 rfl) (fun _ => ⟨rfl, hh_543⟩) (fun o1 hz9 => rm_443 x0 x2 ((x2 + v11)) h7 o1 i0 hz9) ?_
      rcases am_cV_s hs7 with ⟨h15, f16, hs8⟩ | hs8
      · clear hs7
        refine Or.inl ⟨_, _, f16, ?_⟩
        show am_W X _ 543 23 _ [] h15 _
        refine aw_vload_n (pc1 := 24) at_543_23 l0 i0 rfl ?_
        refine aw_iload_n (pc1 := 25) at_543_24 l1 rfl ?_
        refine aw_vload_n (pc1 := 26) at_543_25 l0 i0 rfl ?_
        obtain ⟨v17, e18, hs9⟩ := am_bind hs8
        clear hs8
        refine aw_pG (pc1 := 29) at_543_26 (am_vR_s e18).1 rfl ?_
        refine aw_iload_n (pc1 := 30) at_543_29 l1 rfl ?_
        obtain ⟨v19, e20, hs10⟩ := am_bind hs9
        clear hs9
        refine aw_pA (pc1 := 31) at_543_30 (Or.inl ⟨rfl, rfl⟩) e20 rfl ?_
        refine aw_iadd (v := (x1 + v19)) (pc1 := 32) at_543_31 rfl rfl ?_
        refine aw_vload_n (pc1 := 33) at_543_32 l0 i0 rfl ?_
        obtain ⟨v21, e22, hs11⟩ := am_bind hs10
        clear hs10
        refine aw_pG (pc1 := 36) at_543_33 (am_vI_s e22) rfl ?_
        obtain ⟨z23, hs12⟩ := am_ift hs11
        clear hs11
        refine aw_call (F := fm_443 N x0 ((x1 + v19)) v21 h15) (t := true) (na := 3) (kd := 1) (as := [x0, (.int (x1 + v19)), (.int v21)]) at_543_36 (am_k3v kb_443) mn_443 mk_443 rfl rfl (am_ok_v mi_443 (am_hl rfl (am_ccR i0 (am_ccI (am_ccI am_cats_0))) rfl) z23) (am_hc am_cats_0 rfl) (fun _ => ⟨rfl, hh_543⟩) (fun o1 hz9 => rm_443 x0 ((x1 + v19)) v21 h15 o1 i0 hz9) ?_
        rcases am_cV_s hs12 with ⟨h25, f26, hs13⟩ | hs13
        · clear hs12
          refine Or.inl ⟨_, _, f26, ?_⟩
          show am_W X _ 543 39 _ [] h25 _
          refine aw_iconst (v := 1) (pc1 := 40) at_543_39 (by decide) rfl ?_
          cases hs13
          exact aw_iret at_543_40 (by rw [rt_543]; decide) rfl
        · clear hs12
          exact Or.inr hs13
      · clear hs7
        exact Or.inr hs8
    · clear hs3
      exact Or.inr hs4
  · clear hs1
    exact Or.inr hs2
def fm_543 (N : Nat) (y0 : Value) (y1 : Int32) (y2 : Int32) (h : am_H) : Option am_O := fg_543_0 N y0 y1 y2 h
theorem rm_543 {X : am_X} {d : Nat} {N : Nat} (y0 : Value) (y1 : Int32) (y2 : Int32) (h : am_H) (o : am_O) (i0 : am_isR y0 = true) (hs : fm_543 N y0 y1 y2 h = some o) : am_W X (d + 2) 543 0 (am_args 0 [y0, .int y1, .int y2]) [] h (fun q => q = o) := by
  rw [am_args_R i0, am_args_I, am_args_I]
  exact rg_543_0 y0 y1 y2 h o rfl rfl rfl i0 hs
def fg_541_144 (N : Nat) (s0 : Int32) (h : am_H) : Option am_O := (if am_rfit (some FieldType.boolean) s0 then some (.inl (some (.int s0), h)) else none)
theorem rg_541_144 {X : am_X} {d : Nat} {N : Nat} {lv : am_LV} (s0 : Int32) (h : am_H) (o : am_O) (hs : fg_541_144 N s0 h = some o) : am_W X (d + 3) 541 144 lv [(.int s0)] h (fun q => q = o) := by
  unfold fg_541_144 at hs
  obtain ⟨z1, hs1⟩ := am_ift hs
  clear hs
  cases hs1
  exact aw_iret at_541_144 (by rw [rt_541]; exact z1) rfl
def fg_541_143 (N : Nat) (h : am_H) : Option am_O := (fg_541_144 N 0 h)
theorem rg_541_143 {X : am_X} {d : Nat} {N : Nat} {lv : am_LV} (h : am_H) (o : am_O) (hs : fg_541_143 N h = some o) : am_W X (d + 3) 541 143 lv [] h (fun q => q = o) := by
  unfold fg_541_143 at hs
  refine aw_iconst (v := 0) (pc1 := 144) at_541_143 (by decide) rfl ?_
  exact rg_541_144 0 h o   hs
def fg_541_114 (N : Nat) (x0 : Value) (x1 : Int32) (x2 : Int32) (x3 : Int32) (x4 : Int32) (h : am_H) : Option am_O := (if ¬ x2 = 12 then (fg_541_143 N h) else (if am_pOk 12 x0 h then am_cI true (fm_542 x0 x3 1 h) (fun v3 h4 => (if v3 = 0 then (fg_541_143 N h4) else (if am_pOk 12 x0 h4 then am_cI true (fm_543 N x0 x1 x4 h4) (fun v8 h9 => (if v8 = 0 then (fg_541_143 N h9) else (fg_541_144 N 1 h9))) else none))) else none))
theorem rg_541_114 {X : am_X} {d : Nat} {N : Nat} {lv : am_LV} (x0 : Value) (x1 : Int32) (x2 : Int32) (x3 : Int32) (x4 : Int32) (h : am_H) (o : am_O) (l0 : lv.lookup 0 = some x0) (l1 : lv.lookup 1 = some (.int x1)) (l2 : lv.lookup 2 = some (.int x2)) (l3 : lv.lookup 3 = some (.int x3)) (l4 : lv.lookup 4 = some (.int x4)) (i0 : am_isR x0 = true) (hs : fg_541_114 N x0 x1 x2 x3 x4 h = some o) : am_W X (d + 3) 541 114 lv [] h (fun q => q = o) := by
  unfold fg_541_114 at hs
  refine aw_iload_n (pc1 := 115) at_541_114 l2 rfl ?_
  refine aw_bipush (v := 12) (pc1 := 117) at_541_115 (by decide) rfl ?_
  by_cases c1 : ¬ x2 = 12
  · rw [if_pos c1] at hs
    refine aw_icne_t at_541_117 c1 ?_
    exact rg_541_143 h o   hs
  · rw [if_neg c1] at hs
    refine aw_icne_f (pc1 := 120) at_541_117 c1 rfl ?_
    refine aw_vload_n (pc1 := 121) at_541_120 l0 i0 rfl ?_
    refine aw_iload_n (pc1 := 122) at_541_121 l3 rfl ?_
    refine aw_iconst (v := 1) (pc1 := 123) at_541_122 (by decide) rfl ?_
    obtain ⟨z2, hs1⟩ := am_ift hs
    clear hs
    refine aw_call (F := fm_542 x0 x3 1 h) (t := true) (na := 3) (kd := 1) (as := [x0, (.int x3), (.int 1)]) at_541_123 (am_k3v kb_542) mn_542 mk_542 rfl rfl (am_ok_v mi_542 (am_hl rfl (am_ccR i0 (am_ccI (am_ccI am_cats_0))) rfl) z2) (am_hc am_cats_0 rfl) (fun _ => ⟨rfl, hh_541⟩) (fun o1 hz9 => rm_542 x0 x3 1 h o1 i0 hz9) ?_
    rcases am_cI_s hs1 with ⟨v3, h4, f5, hs2⟩ | hs2
    · clear hs1
      refine Or.inl ⟨_, _, f5, ?_⟩
      show am_W X _ 541 126 _ [(.int v3)] h4 _
      by_cases c6 : v3 = 0
      · rw [if_pos c6] at hs2
        refine aw_ifeq_t at_541_126 c6 ?_
        exact rg_541_143 h4 o   hs2
      · rw [if_neg c6] at hs2
        refine aw_ifeq_f (pc1 := 129) at_541_126 c6 rfl ?_
        refine aw_vload_n (pc1 := 130) at_541_129 l0 i0 rfl ?_
        refine aw_iload_n (pc1 := 131) at_541_130 l1 rfl ?_
        refine aw_iload (pc1 := 133) at_541_131 l4 rfl ?_
        obtain ⟨z7, hs3⟩ := am_ift hs2
        clear hs2
        refine aw_call (F := fm_543 N x0 x1 x4 h4) (t := true) (na := 3) (kd := 1) (as := [x0, (.int x1), (.int x4)]) at_541_133 (am_k3v kb_543) mn_543 mk_543 rfl rfl (am_ok_v mi_543 (am_hl rfl (am_ccR i0 (am_ccI (am_ccI am_cats_0))) rfl) z7) (am_hc am_cats_0 rfl) (fun _ => ⟨rfl, hh_541⟩) (fun o1 hz9 => rm_543 x0 x1 x4 h4 o1 i0 hz9) ?_
        rcases am_cI_s hs3 with ⟨v8, h9, f10, hs4⟩ | hs4
        · clear hs3
          refine Or.inl ⟨_, _, f10, ?_⟩
          show am_W X _ 541 136 _ [(.int v8)] h9 _
          by_cases c11 : v8 = 0
          · rw [if_pos c11] at hs4
            refine aw_ifeq_t at_541_136 c11 ?_
            exact rg_541_143 h9 o   hs4
          · rw [if_neg c11] at hs4
            refine aw_ifeq_f (pc1 := 139) at_541_136 c11 rfl ?_
            refine aw_iconst (v := 1) (pc1 := 140) at_541_139 (by decide) rfl ?_
            refine aw_goto at_541_140 ?_
            exact rg_541_144 1 h9 o   hs4
        · clear hs3
          exact Or.inr hs4
    · clear hs1
      exact Or.inr hs2
def fg_541_97 (N : Nat) (x0 : Value) (x1 : Int32) (x2 : Int32) (x3 : Int32) (x4 : Int32) (h : am_H) : Option am_O := (if am_pOk 12 x0 h then am_cI true (fm_542 x0 x4 1 h) (fun v2 h3 => (if v2 = 0 then (fg_541_114 N x0 x1 x2 x3 x4 h3) else (if am_pOk 12 x0 h3 then am_cI true (fm_543 N x0 x1 x3 h3) (fun v7 h8 => (if am_rfit (some FieldType.boolean) v7 then some (.inl (some (.int v7), h8)) else none)) else none))) else none)
theorem rg_541_97 {X : am_X} {d : Nat} {N : Nat} {lv : am_LV} (x0 : Value) (x1 : Int32) (x2 : Int32) (x3 : Int32) (x4 : Int32) (h : am_H) (o : am_O) (l0 : lv.lookup 0 = some x0) (l1 : lv.lookup 1 = some (.int x1)) (l2 : lv.lookup 2 = some (.int x2)) (l3 : lv.lookup 3 = some (.int x3)) (l4 : lv.lookup 4 = some (.int x4)) (i0 : am_isR x0 = true) (hs : fg_541_97 N x0 x1 x2 x3 x4 h = some o) : am_W X (d + 3) 541 97 lv [] h (fun q => q = o) := by
  unfold fg_541_97 at hs
  refine aw_vload_n (pc1 := 98) at_541_97 l0 i0 rfl ?_
  refine aw_iload (pc1 := 100) at_541_98 l4 rfl ?_
  refine aw_iconst (v := 1) (pc1 := 101) at_541_100 (by decide) rfl ?_
  obtain ⟨z1, hs1⟩ := am_ift hs
  clear hs
  refine aw_call (F := fm_542 x0 x4 1 h) (t := true) (na := 3) (kd := 1) (as := [x0, (.int x4), (.int 1)]) at_541_101 (am_k3v kb_542) mn_542 mk_542 rfl rfl (am_ok_v mi_542 (am_hl rfl (am_ccR i0 (am_ccI (am_ccI am_cats_0))) rfl) z1) (am_hc am_cats_0 rfl) (fun _ => ⟨rfl, hh_541⟩) (fun o1 hz9 => rm_542 x0 x4 1 h o1 i0 hz9) ?_
  rcases am_cI_s hs1 with ⟨v2, h3, f4, hs2⟩ | hs2
  · clear hs1
    refine Or.inl ⟨_, _, f4, ?_⟩
    show am_W X _ 541 104 _ [(.int v2)] h3 _
    by_cases c5 : v2 = 0
    · rw [if_pos c5] at hs2
      refine aw_ifeq_t at_541_104 c5 ?_
      exact rg_541_114 x0 x1 x2 x3 x4 h3 o l0 l1 l2 l3 l4 i0 hs2
    · rw [if_neg c5] at hs2
      refine aw_ifeq_f (pc1 := 107) at_541_104 c5 rfl ?_
      refine aw_vload_n (pc1 := 108) at_541_107 l0 i0 rfl ?_
      refine aw_iload_n (pc1 := 109) at_541_108 l1 rfl ?_
      refine aw_iload_n (pc1 := 110) at_541_109 l3 rfl ?_
      obtain ⟨z6, hs3⟩ := am_ift hs2
      clear hs2
      refine aw_call (F := fm_543 N x0 x1 x3 h3) (t := true) (na := 3) (kd := 1) (as := [x0, (.int x1), (.int x3)]) at_541_110 (am_k3v kb_543) mn_543 mk_543 rfl rfl (am_ok_v mi_543 (am_hl rfl (am_ccR i0 (am_ccI (am_ccI am_cats_0))) rfl) z6) (am_hc am_cats_0 rfl) (fun _ => ⟨rfl, hh_541⟩) (fun o1 hz9 => rm_543 x0 x1 x3 h3 o1 i0 hz9) ?_
      rcases am_cI_s hs3 with ⟨v7, h8, f9, hs4⟩ | hs4
      · clear hs3
        refine Or.inl ⟨_, _, f9, ?_⟩
        show am_W X _ 541 113 _ [(.int v7)] h8 _
        obtain ⟨z10, hs5⟩ := am_ift hs4
        clear hs4
        cases hs5
        exact aw_iret at_541_113 (by rw [rt_541]; exact z10) rfl
      · clear hs3
        exact Or.inr hs4
  · clear hs1
    exact Or.inr hs2
def fg_541_85 (N : Nat) (x0 : Value) (x1 : Int32) (x2 : Int32) (x3 : Int32) (x4 : Int32) (h : am_H) : Option am_O := (if x2 = 12 then (fg_541_97 N x0 x1 x2 x3 x4 h) else (if ¬ x2 = 13 then (fg_541_114 N x0 x1 x2 x3 x4 h) else (fg_541_97 N x0 x1 x2 x3 x4 h)))
theorem rg_541_85 {X : am_X} {d : Nat} {N : Nat} {lv : am_LV} (x0 : Value) (x1 : Int32) (x2 : Int32) (x3 : Int32) (x4 : Int32) (h : am_H) (o : am_O) (l0 : lv.lookup 0 = some x0) (l1 : lv.lookup 1 = some (.int x1)) (l2 : lv.lookup 2 = some (.int x2)) (l3 : lv.lookup 3 = some (.int x3)) (l4 : lv.lookup 4 = some (.int x4)) (i0 : am_isR x0 = true) (hs : fg_541_85 N x0 x1 x2 x3 x4 h = some o) : am_W X (d + 3) 541 85 lv [] h (fun q => q = o) := by
  unfold fg_541_85 at hs
  refine aw_iload_n (pc1 := 86) at_541_85 l2 rfl ?_
  refine aw_bipush (v := 12) (pc1 := 88) at_541_86 (by decide) rfl ?_
  by_cases c1 : x2 = 12
  · rw [if_pos c1] at hs
    refine aw_iceq_t at_541_88 c1 ?_
    exact rg_541_97 x0 x1 x2 x3 x4 h o l0 l1 l2 l3 l4 i0 hs
  · rw [if_neg c1] at hs
    refine aw_iceq_f (pc1 := 91) at_541_88 c1 rfl ?_
    refine aw_iload_n (pc1 := 92) at_541_91 l2 rfl ?_
    refine aw_bipush (v := 13) (pc1 := 94) at_541_92 (by decide) rfl ?_
    by_cases c2 : ¬ x2 = 13
    · rw [if_pos c2] at hs
      refine aw_icne_t at_541_94 c2 ?_
      exact rg_541_114 x0 x1 x2 x3 x4 h o l0 l1 l2 l3 l4 i0 hs
    · rw [if_neg c2] at hs
      refine aw_icne_f (pc1 := 97) at_541_94 c2 rfl ?_
      exact rg_541_97 x0 x1 x2 x3 x4 h o l0 l1 l2 l3 l4 i0 hs
def fg_541_62 (N : Nat) (x0 : Value) (x1 : Int32) (x2 : Int32) (x3 : Int32) (x4 : Int32) (h : am_H) : Option am_O := (if ¬ x2 = 10 then (fg_541_85 N x0 x1 x2 x3 x4 h) else (if am_pOk 12 x0 h then am_cI true (fm_542 x0 x3 0 h) (fun v3 h4 => (if v3 = 0 then (fg_541_85 N x0 x1 x2 x3 x4 h4) else (if am_pOk 12 x0 h4 then am_cI true (fm_543 N x0 x1 x4 h4) (fun v8 h9 => (if am_rfit (some FieldType.boolean) v8 then some (.inl (some (.int v8), h9)) else none)) else none))) else none))
theorem rg_541_62 {X : am_X} {d : Nat} {N : Nat} {lv : am_LV} (x0 : Value) (x1 : Int32) (x2 : Int32) (x3 : Int32) (x4 : Int32) (h : am_H) (o : am_O) (l0 : lv.lookup 0 = some x0) (l1 : lv.lookup 1 = some (.int x1)) (l2 : lv.lookup 2 = some (.int x2)) (l3 : lv.lookup 3 = some (.int x3)) (l4 : lv.lookup 4 = some (.int x4)) (i0 : am_isR x0 = true) (hs : fg_541_62 N x0 x1 x2 x3 x4 h = some o) : am_W X (d + 3) 541 62 lv [] h (fun q => q = o) := by
  unfold fg_541_62 at hs
  refine aw_iload_n (pc1 := 63) at_541_62 l2 rfl ?_
  refine aw_bipush (v := 10) (pc1 := 65) at_541_63 (by decide) rfl ?_
  by_cases c1 : ¬ x2 = 10
  · rw [if_pos c1] at hs
    refine aw_icne_t at_541_65 c1 ?_
    exact rg_541_85 x0 x1 x2 x3 x4 h o l0 l1 l2 l3 l4 i0 hs
  · rw [if_neg c1] at hs
    refine aw_icne_f (pc1 := 68) at_541_65 c1 rfl ?_
    refine aw_vload_n (pc1 := 69) at_541_68 l0 i0 rfl ?_
    refine aw_iload_n (pc1 := 70) at_541_69 l3 rfl ?_
    refine aw_iconst (v := 0) (pc1 := 71) at_541_70 (by decide) rfl ?_
    obtain ⟨z2, hs1⟩ := am_ift hs
    clear hs
    refine aw_call (F := fm_542 x0 x3 0 h) (t := true) (na := 3) (kd := 1) (as := [x0, (.int x3), (.int 0)]) at_541_71 (am_k3v kb_542) mn_542 mk_542 rfl rfl (am_ok_v mi_542 (am_hl rfl (am_ccR i0 (am_ccI (am_ccI am_cats_0))) rfl) z2) (am_hc am_cats_0 rfl) (fun _ => ⟨rfl, hh_541⟩) (fun o1 hz9 => rm_542 x0 x3 0 h o1 i0 hz9) ?_
    rcases am_cI_s hs1 with ⟨v3, h4, f5, hs2⟩ | hs2
    · clear hs1
      refine Or.inl ⟨_, _, f5, ?_⟩
      show am_W X _ 541 74 _ [(.int v3)] h4 _
      by_cases c6 : v3 = 0
      · rw [if_pos c6] at hs2
        refine aw_ifeq_t at_541_74 c6 ?_
        exact rg_541_85 x0 x1 x2 x3 x4 h4 o l0 l1 l2 l3 l4 i0 hs2
      · rw [if_neg c6] at hs2
        refine aw_ifeq_f (pc1 := 77) at_541_74 c6 rfl ?_
        refine aw_vload_n (pc1 := 78) at_541_77 l0 i0 rfl ?_
        refine aw_iload_n (pc1 := 79) at_541_78 l1 rfl ?_
        refine aw_iload (pc1 := 81) at_541_79 l4 rfl ?_
        obtain ⟨z7, hs3⟩ := am_ift hs2
        clear hs2
        refine aw_call (F := fm_543 N x0 x1 x4 h4) (t := true) (na := 3) (kd := 1) (as := [x0, (.int x1), (.int x4)]) at_541_81 (am_k3v kb_543) mn_543 mk_543 rfl rfl (am_ok_v mi_543 (am_hl rfl (am_ccR i0 (am_ccI (am_ccI am_cats_0))) rfl) z7) (am_hc am_cats_0 rfl) (fun _ => ⟨rfl, hh_541⟩) (fun o1 hz9 => rm_543 x0 x1 x4 h4 o1 i0 hz9) ?_
        rcases am_cI_s hs3 with ⟨v8, h9, f10, hs4⟩ | hs4
        · clear hs3
          refine Or.inl ⟨_, _, f10, ?_⟩
          show am_W X _ 541 84 _ [(.int v8)] h9 _
          obtain ⟨z11, hs5⟩ := am_ift hs4
          clear hs4
          cases hs5
          exact aw_iret at_541_84 (by rw [rt_541]; exact z11) rfl
        · clear hs3
          exact Or.inr hs4
    · clear hs1
      exact Or.inr hs2
def fg_541_45 (N : Nat) (x0 : Value) (x1 : Int32) (x2 : Int32) (x3 : Int32) (x4 : Int32) (h : am_H) : Option am_O := (if am_pOk 12 x0 h then am_cI true (fm_542 x0 x4 0 h) (fun v2 h3 => (if v2 = 0 then (fg_541_62 N x0 x1 x2 x3 x4 h3) else (if am_pOk 12 x0 h3 then am_cI true (fm_543 N x0 x1 x3 h3) (fun v7 h8 => (if am_rfit (some FieldType.boolean) v7 then some (.inl (some (.int v7), h8)) else none)) else none))) else none)
theorem rg_541_45 {X : am_X} {d : Nat} {N : Nat} {lv : am_LV} (x0 : Value) (x1 : Int32) (x2 : Int32) (x3 : Int32) (x4 : Int32) (h : am_H) (o : am_O) (l0 : lv.lookup 0 = some x0) (l1 : lv.lookup 1 = some (.int x1)) (l2 : lv.lookup 2 = some (.int x2)) (l3 : lv.lookup 3 = some (.int x3)) (l4 : lv.lookup 4 = some (.int x4)) (i0 : am_isR x0 = true) (hs : fg_541_45 N x0 x1 x2 x3 x4 h = some o) : am_W X (d + 3) 541 45 lv [] h (fun q => q = o) := by
  unfold fg_541_45 at hs
  refine aw_vload_n (pc1 := 46) at_541_45 l0 i0 rfl ?_
  refine aw_iload (pc1 := 48) at_541_46 l4 rfl ?_
  refine aw_iconst (v := 0) (pc1 := 49) at_541_48 (by decide) rfl ?_
  obtain ⟨z1, hs1⟩ := am_ift hs
  clear hs
  refine aw_call (F := fm_542 x0 x4 0 h) (t := true) (na := 3) (kd := 1) (as := [x0, (.int x4), (.int 0)]) at_541_49 (am_k3v kb_542) mn_542 mk_542 rfl rfl (am_ok_v mi_542 (am_hl rfl (am_ccR i0 (am_ccI (am_ccI am_cats_0))) rfl) z1) (am_hc am_cats_0 rfl) (fun _ => ⟨rfl, hh_541⟩) (fun o1 hz9 => rm_542 x0 x4 0 h o1 i0 hz9) ?_
  rcases am_cI_s hs1 with ⟨v2, h3, f4, hs2⟩ | hs2
  · clear hs1
    refine Or.inl ⟨_, _, f4, ?_⟩
    show am_W X _ 541 52 _ [(.int v2)] h3 _
    by_cases c5 : v2 = 0
    · rw [if_pos c5] at hs2
      refine aw_ifeq_t at_541_52 c5 ?_
      exact rg_541_62 x0 x1 x2 x3 x4 h3 o l0 l1 l2 l3 l4 i0 hs2
    · rw [if_neg c5] at hs2
      refine aw_ifeq_f (pc1 := 55) at_541_52 c5 rfl ?_
      refine aw_vload_n (pc1 := 56) at_541_55 l0 i0 rfl ?_
      refine aw_iload_n (pc1 := 57) at_541_56 l1 rfl ?_
      refine aw_iload_n (pc1 := 58) at_541_57 l3 rfl ?_
      obtain ⟨z6, hs3⟩ := am_ift hs2
      clear hs2
      refine aw_call (F := fm_543 N x0 x1 x3 h3) (t := true) (na := 3) (kd := 1) (as := [x0, (.int x1), (.int x3)]) at_541_58 (am_k3v kb_543) mn_543 mk_543 rfl rfl (am_ok_v mi_543 (am_hl rfl (am_ccR i0 (am_ccI (am_ccI am_cats_0))) rfl) z6) (am_hc am_cats_0 rfl) (fun _ => ⟨rfl, hh_541⟩) (fun o1 hz9 => rm_543 x0 x1 x3 h3 o1 i0 hz9) ?_
      rcases am_cI_s hs3 with ⟨v7, h8, f9, hs4⟩ | hs4
      · clear hs3
        refine Or.inl ⟨_, _, f9, ?_⟩
        show am_W X _ 541 61 _ [(.int v7)] h8 _
        obtain ⟨z10, hs5⟩ := am_ift hs4
        clear hs4
        cases hs5
        exact aw_iret at_541_61 (by rw [rt_541]; exact z10) rfl
      · clear hs3
        exact Or.inr hs4
  · clear hs1
    exact Or.inr hs2
def fg_541_19 (N : Nat) (h : am_H) : Option am_O := some (.inl (some (.int 0), h))
theorem rg_541_19 {X : am_X} {d : Nat} {N : Nat} {lv : am_LV} (h : am_H) (o : am_O) (hs : fg_541_19 N h = some o) : am_W X (d + 3) 541 19 lv [] h (fun q => q = o) := by
  unfold fg_541_19 at hs
  refine aw_iconst (v := 0) (pc1 := 20) at_541_19 (by decide) rfl ?_
  cases hs
  exact aw_iret at_541_20 (by rw [rt_541]; decide) rfl
def fg_541_0 (N : Nat) (x0 : Value) (x1 : Int32) (h : am_H) : Option am_O := ((am_vR (am_pG 3093 x0 h)).bind fun v1 => ((am_pA 0 v1 x1 h).bind fun v3 => (if v3 < 10 then (fg_541_19 N h) else (if v3 ≤ 13 then (if am_pOk 12 x0 h then am_cI true (fm_393 N x0 x1 1 h) (fun v8 h9 => (if v3 = 10 then (fg_541_45 N x0 x1 v3 ((x1 + 1)) v8 h9) else (if ¬ v3 = 11 then (fg_541_62 N x0 x1 v3 ((x1 + 1)) v8 h9) else (fg_541_45 N x0 x1 v3 ((x1 + 1)) v8 h9)))) else none) else (fg_541_19 N h)))))
theorem rg_541_0 {X : am_X} {d : Nat} {N : Nat} {lv : am_LV} (x0 : Value) (x1 : Int32) (h : am_H) (o : am_O) (l0 : lv.lookup 0 = some x0) (l1 : lv.lookup 1 = some (.int x1)) (i0 : am_isR x0 = true) (hs : fg_541_0 N x0 x1 h = some o) : am_W X (d + 3) 541 0 lv [] h (fun q => q = o) := by
  unfold fg_541_0 at hs
  refine aw_vload_n (pc1 := 1) at_541_0 l0 i0 rfl ?_
  obtain ⟨v1, e2, hs1⟩ := am_bind hs
  clear hs
  refine aw_pG (pc1 := 4) at_541_1 (am_vR_s e2).1 rfl ?_
  refine aw_iload_n (pc1 := 5) at_541_4 l1 rfl ?_
  obtain ⟨v3, e4, hs2⟩ := am_bind hs1
  clear hs1
  refine aw_pA (pc1 := 6) at_541_5 (Or.inl ⟨rfl, rfl⟩) e4 rfl ?_
  refine aw_istore_n (lv1 := am_put1 _ 2 _) (pc1 := 7) at_541_6 rfl rfl ?_
  refine aw_iload_n (pc1 := 8) at_541_7 am_lk0 rfl ?_
  refine aw_bipush (v := 10) (pc1 := 10) at_541_8 (by decide) rfl ?_
  by_cases c5 : v3 < 10
  · rw [if_pos c5] at hs2
    refine aw_iclt_t at_541_10 c5 ?_
    exact rg_541_19 h o   hs2
  · rw [if_neg c5] at hs2
    refine aw_iclt_f (pc1 := 13) at_541_10 c5 rfl ?_
    refine aw_iload_n (pc1 := 14) at_541_13 am_lk0 rfl ?_
    refine aw_bipush (v := 13) (pc1 := 16) at_541_14 (by decide) rfl ?_
    by_cases c6 : v3 ≤ 13
    · rw [if_pos c6] at hs2
      refine aw_icle_t at_541_16 c6 ?_
      refine aw_iload_n (pc1 := 22) at_541_21 (am_lk1 l1 rfl rfl) rfl ?_
      refine aw_iconst (v := 1) (pc1 := 23) at_541_22 (by decide) rfl ?_
      refine aw_iadd (v := (x1 + 1)) (pc1 := 24) at_541_23 rfl rfl ?_
      refine aw_istore_n (lv1 := am_put1 _ 3 _) (pc1 := 25) at_541_24 rfl rfl ?_
      refine aw_vload_n (pc1 := 26) at_541_25 (am_lk1 (am_lk1 l0 rfl rfl) rfl rfl) i0 rfl ?_
      refine aw_iload_n (pc1 := 27) at_541_26 (am_lk1 (am_lk1 l1 rfl rfl) rfl rfl) rfl ?_
      refine aw_iconst (v := 1) (pc1 := 28) at_541_27 (by decide) rfl ?_
      obtain ⟨z7, hs3⟩ := am_ift hs2
      clear hs2
      refine aw_call (F := fm_393 N x0 x1 1 h) (t := true) (na := 3) (kd := 1) (as := [x0, (.int x1), (.int 1)]) at_541_28 (am_k3v kb_393) mn_393 mk_393 rfl rfl (am_ok_v mi_393 (am_hl rfl (am_ccR i0 (am_ccI (am_ccI am_cats_0))) rfl) z7) (am_hc am_cats_0 rfl) (fun _ => ⟨rfl, hh_541⟩) (fun o1 hz9 => rm_393 x0 x1 1 h o1 i0 hz9) ?_
      rcases am_cI_s hs3 with ⟨v8, h9, f10, hs4⟩ | hs4
      · clear hs3
        refine Or.inl ⟨_, _, f10, ?_⟩
        show am_W X _ 541 31 _ [(.int v8)] h9 _
        refine aw_istore (lv1 := am_put1 _ 4 _) (pc1 := 33) at_541_31 rfl rfl ?_
        refine aw_iload_n (pc1 := 34) at_541_33 (am_lk1 (am_lk1 am_lk0 rfl rfl) rfl rfl) rfl ?_
        refine aw_bipush (v := 10) (pc1 := 36) at_541_34 (by decide) rfl ?_
        by_cases c11 : v3 = 10
        · rw [if_pos c11] at hs4
          refine aw_iceq_t at_541_36 c11 ?_
          exact rg_541_45 x0 x1 v3 ((x1 + 1)) v8 h9 o (am_lk1 (am_lk1 (am_lk1 l0 rfl rfl) rfl rfl) rfl rfl) (am_lk1 (am_lk1 (am_lk1 l1 rfl rfl) rfl rfl) rfl rfl) (am_lk1 (am_lk1 am_lk0 rfl rfl) rfl rfl) (am_lk1 am_lk0 rfl rfl) am_lk0 i0 hs4
        · rw [if_neg c11] at hs4
          refine aw_iceq_f (pc1 := 39) at_541_36 c11 rfl ?_
          refine aw_iload_n (pc1 := 40) at_541_39 (am_lk1 (am_lk1 am_lk0 rfl rfl) rfl rfl) rfl ?_
          refine aw_bipush (v := 11) (pc1 := 42) at_541_40 (by decide) rfl ?_
          by_cases c12 : ¬ v3 = 11
          · rw [if_pos c12] at hs4
            refine aw_icne_t at_541_42 c12 ?_
            exact rg_541_62 x0 x1 v3 ((x1 + 1)) v8 h9 o (am_lk1 (am_lk1 (am_lk1 l0 rfl rfl) rfl rfl) rfl rfl) (am_lk1 (am_lk1 (am_lk1 l1 rfl rfl) rfl rfl) rfl rfl) (am_lk1 (am_lk1 am_lk0 rfl rfl) rfl rfl) (am_lk1 am_lk0 rfl rfl) am_lk0 i0 hs4
          · rw [if_neg c12] at hs4
            refine aw_icne_f (pc1 := 45) at_541_42 c12 rfl ?_
            exact rg_541_45 x0 x1 v3 ((x1 + 1)) v8 h9 o (am_lk1 (am_lk1 (am_lk1 l0 rfl rfl) rfl rfl) rfl rfl) (am_lk1 (am_lk1 (am_lk1 l1 rfl rfl) rfl rfl) rfl rfl) (am_lk1 (am_lk1 am_lk0 rfl rfl) rfl rfl) (am_lk1 am_lk0 rfl rfl) am_lk0 i0 hs4
      · clear hs3
        exact Or.inr hs4
    · rw [if_neg c6] at hs2
      refine aw_icle_f (pc1 := 19) at_541_16 c6 rfl ?_
      exact rg_541_19 h o   hs2
def fm_541 (N : Nat) (y0 : Value) (y1 : Int32) (h : am_H) : Option am_O := fg_541_0 N y0 y1 h
theorem rm_541 {X : am_X} {d : Nat} {N : Nat} (y0 : Value) (y1 : Int32) (h : am_H) (o : am_O) (i0 : am_isR y0 = true) (hs : fm_541 N y0 y1 h = some o) : am_W X (d + 3) 541 0 (am_args 0 [y0, .int y1]) [] h (fun q => q = o) := by
  rw [am_args_R i0, am_args_I]
  exact rg_541_0 y0 y1 h o rfl rfl i0 hs
def fg_544_47 (N : Nat) (s0 : Int32) (h : am_H) : Option am_O := (if am_rfit (some FieldType.boolean) s0 then some (.inl (some (.int s0), h)) else none)
theorem rg_544_47 {X : am_X} {d : Nat} {N : Nat} {lv : am_LV} (s0 : Int32) (h : am_H) (o : am_O) (hs : fg_544_47 N s0 h = some o) : am_W X (d + 3) 544 47 lv [(.int s0)] h (fun q => q = o) := by
  unfold fg_544_47 at hs
  obtain ⟨z1, hs1⟩ := am_ift hs
  clear hs
  cases hs1
  exact aw_iret at_544_47 (by rw [rt_544]; exact z1) rfl
def fg_544_46 (N : Nat) (h : am_H) : Option am_O := (fg_544_47 N 0 h)
theorem rg_544_46 {X : am_X} {d : Nat} {N : Nat} {lv : am_LV} (h : am_H) (o : am_O) (hs : fg_544_46 N h = some o) : am_W X (d + 3) 544 46 lv [] h (fun q => q = o) := by
  unfold fg_544_46 at hs
  refine aw_iconst (v := 0) (pc1 := 47) at_544_46 (by decide) rfl ?_
  exact rg_544_47 0 h o   hs
def fg_544_19 (N : Nat) (x0 : Value) (x1 : Int32) (x2 : Int32) (h : am_H) : Option am_O := ((am_vR (am_pG 3093 x0 h)).bind fun v1 => ((am_pA 0 v1 (x1 + 1) h).bind fun v3 => (if ¬ v3 = x2 then (fg_544_46 N h) else (if am_pOk 12 x0 h then am_cI true (fm_543 N x0 x1 ((x1 + 2)) h) (fun v7 h8 => (if v7 = 0 then (fg_544_46 N h8) else (fg_544_47 N 1 h8))) else none))))
theorem rg_544_19 {X : am_X} {d : Nat} {N : Nat} {lv : am_LV} (x0 : Value) (x1 : Int32) (x2 : Int32) (h : am_H) (o : am_O) (l0 : lv.lookup 0 = some x0) (l1 : lv.lookup 1 = some (.int x1)) (l2 : lv.lookup 2 = some (.int x2)) (i0 : am_isR x0 = true) (hs : fg_544_19 N x0 x1 x2 h = some o) : am_W X (d + 3) 544 19 lv [] h (fun q => q = o) := by
  unfold fg_544_19 at hs
  refine aw_vload_n (pc1 := 20) at_544_19 l0 i0 rfl ?_
  obtain ⟨v1, e2, hs1⟩ := am_bind hs
  clear hs
  refine aw_pG (pc1 := 23) at_544_20 (am_vR_s e2).1 rfl ?_
  refine aw_iload_n (pc1 := 24) at_544_23 l1 rfl ?_
  refine aw_iconst (v := 1) (pc1 := 25) at_544_24 (by decide) rfl ?_
  refine aw_iadd (v := (x1 + 1)) (pc1 := 26) at_544_25 rfl rfl ?_
  obtain ⟨v3, e4, hs2⟩ := am_bind hs1
  clear hs1
  refine aw_pA (pc1 := 27) at_544_26 (Or.inl ⟨rfl, rfl⟩) e4 rfl ?_
  refine aw_iload_n (pc1 := 28) at_544_27 l2 rfl ?_
  by_cases c5 : ¬ v3 = x2
  · rw [if_pos c5] at hs2
    refine aw_icne_t at_544_28 c5 ?_
    exact rg_544_46 h o   hs2
  · rw [if_neg c5] at hs2
    refine aw_icne_f (pc1 := 31) at_544_28 c5 rfl ?_
    refine aw_vload_n (pc1 := 32) at_544_31 l0 i0 rfl ?_
    refine aw_iload_n (pc1 := 33) at_544_32 l1 rfl ?_
    refine aw_iload_n (pc1 := 34) at_544_33 l1 rfl ?_
    refine aw_iconst (v := 2) (pc1 := 35) at_544_34 (by decide) rfl ?_
    refine aw_iadd (v := (x1 + 2)) (pc1 := 36) at_544_35 rfl rfl ?_
    obtain ⟨z6, hs3⟩ := am_ift hs2
    clear hs2
    refine aw_call (F := fm_543 N x0 x1 ((x1 + 2)) h) (t := true) (na := 3) (kd := 1) (as := [x0, (.int x1), (.int (x1 + 2))]) at_544_36 (am_k3v kb_543) mn_543 mk_543 rfl rfl (am_ok_v mi_543 (am_hl rfl (am_ccR i0 (am_ccI (am_ccI am_cats_0))) rfl) z6) (am_hc am_cats_0 rfl) (fun _ => ⟨rfl, hh_544⟩) (fun o1 hz9 => rm_543 x0 x1 ((x1 + 2)) h o1 i0 hz9) ?_
    rcases am_cI_s hs3 with ⟨v7, h8, f9, hs4⟩ | hs4
    · clear hs3
      refine Or.inl ⟨_, _, f9, ?_⟩
      show am_W X _ 544 39 _ [(.int v7)] h8 _
      by_cases c10 : v7 = 0
      · rw [if_pos c10] at hs4
        refine aw_ifeq_t at_544_39 c10 ?_
        exact rg_544_46 h8 o   hs4
      · rw [if_neg c10] at hs4
        refine aw_ifeq_f (pc1 := 42) at_544_39 c10 rfl ?_
        refine aw_iconst (v := 1) (pc1 := 43) at_544_42 (by decide) rfl ?_
        refine aw_goto at_544_43 ?_
        exact rg_544_47 1 h8 o   hs4
    · clear hs3
      exact Or.inr hs4
def fg_544_0 (N : Nat) (x0 : Value) (x1 : Int32) (h : am_H) : Option am_O := ((am_vR (am_pG 3093 x0 h)).bind fun v1 => ((am_pA 0 v1 x1 h).bind fun v3 => (if v3 = 7 then (fg_544_19 N x0 x1 v3 h) else (if ¬ v3 = 9 then (fg_544_46 N h) else (fg_544_19 N x0 x1 v3 h)))))
theorem rg_544_0 {X : am_X} {d : Nat} {N : Nat} {lv : am_LV} (x0 : Value) (x1 : Int32) (h : am_H) (o : am_O) (l0 : lv.lookup 0 = some x0) (l1 : lv.lookup 1 = some (.int x1)) (i0 : am_isR x0 = true) (hs : fg_544_0 N x0 x1 h = some o) : am_W X (d + 3) 544 0 lv [] h (fun q => q = o) := by
  unfold fg_544_0 at hs
  refine aw_vload_n (pc1 := 1) at_544_0 l0 i0 rfl ?_
  obtain ⟨v1, e2, hs1⟩ := am_bind hs
  clear hs
  refine aw_pG (pc1 := 4) at_544_1 (am_vR_s e2).1 rfl ?_
  refine aw_iload_n (pc1 := 5) at_544_4 l1 rfl ?_
  obtain ⟨v3, e4, hs2⟩ := am_bind hs1
  clear hs1
  refine aw_pA (pc1 := 6) at_544_5 (Or.inl ⟨rfl, rfl⟩) e4 rfl ?_
  refine aw_istore_n (lv1 := am_put1 _ 2 _) (pc1 := 7) at_544_6 rfl rfl ?_
  refine aw_iload_n (pc1 := 8) at_544_7 am_lk0 rfl ?_
  refine aw_bipush (v := 7) (pc1 := 10) at_544_8 (by decide) rfl ?_
  by_cases c5 : v3 = 7
  · rw [if_pos c5] at hs2
    refine aw_iceq_t at_544_10 c5 ?_
    exact rg_544_19 x0 x1 v3 h o (am_lk1 l0 rfl rfl) (am_lk1 l1 rfl rfl) am_lk0 i0 hs2
  · rw [if_neg c5] at hs2
    refine aw_iceq_f (pc1 := 13) at_544_10 c5 rfl ?_
    refine aw_iload_n (pc1 := 14) at_544_13 am_lk0 rfl ?_
    refine aw_bipush (v := 9) (pc1 := 16) at_544_14 (by decide) rfl ?_
    by_cases c6 : ¬ v3 = 9
    · rw [if_pos c6] at hs2
      refine aw_icne_t at_544_16 c6 ?_
      exact rg_544_46 h o   hs2
    · rw [if_neg c6] at hs2
      refine aw_icne_f (pc1 := 19) at_544_16 c6 rfl ?_
      exact rg_544_19 x0 x1 v3 h o (am_lk1 l0 rfl rfl) (am_lk1 l1 rfl rfl) am_lk0 i0 hs2
def fm_544 (N : Nat) (y0 : Value) (y1 : Int32) (h : am_H) : Option am_O := fg_544_0 N y0 y1 h
theorem rm_544 {X : am_X} {d : Nat} {N : Nat} (y0 : Value) (y1 : Int32) (h : am_H) (o : am_O) (i0 : am_isR y0 = true) (hs : fm_544 N y0 y1 h = some o) : am_W X (d + 3) 544 0 (am_args 0 [y0, .int y1]) [] h (fun q => q = o) := by
  rw [am_args_R i0, am_args_I]
  exact rg_544_0 y0 y1 h o rfl rfl i0 hs
def fg_545_144 (N : Nat) (s0 : Value) (s1 : Int32) (s2 : Value) (s3 : Int32) (s4 : Int32) (h : am_H) : Option am_O := (if am_pOk 12 s2 h then am_cI true (fm_393 N s2 s3 s4 h) (fun v2 h3 => (if am_pOk 12 s0 h3 then am_cI true (fm_543 N s0 s1 v2 h3) (fun v6 h7 => (if am_rfit (some FieldType.boolean) v6 then some (.inl (some (.int v6), h7)) else none)) else none)) else none)
theorem rg_545_144 {X : am_X} {d : Nat} {N : Nat} {lv : am_LV} (s0 : Value) (s1 : Int32) (s2 : Value) (s3 : Int32) (s4 : Int32) (h : am_H) (o : am_O) (j0 : am_isR s0 = true) (j2 : am_isR s2 = true) (hs : fg_545_144 N s0 s1 s2 s3 s4 h = some o) : am_W X (d + 3) 545 144 lv [(.int s4), (.int s3), s2, (.int s1), s0] h (fun q => q = o) := by
  unfold fg_545_144 at hs
  obtain ⟨z1, hs1⟩ := am_ift hs
  clear hs
  refine aw_call (F := fm_393 N s2 s3 s4 h) (t := true) (na := 3) (kd := 1) (as := [s2, (.int s3), (.int s4)]) at_545_144 (am_k3v kb_393) mn_393 mk_393 rfl rfl (am_ok_v mi_393 (am_hl rfl (am_ccR j2 (am_ccI (am_ccI am_cats_0))) rfl) z1) (am_hc (am_ccI (am_ccR j0 am_cats_0)) rfl) (fun _ => ⟨rfl, hh_545⟩) (fun o1 hz9 => rm_393 s2 s3 s4 h o1 j2 hz9) ?_
  rcases am_cI_s hs1 with ⟨v2, h3, f4, hs2⟩ | hs2
  · clear hs1
    refine Or.inl ⟨_, _, f4, ?_⟩
    show am_W X _ 545 147 _ [(.int v2), (.int s1), s0] h3 _
    obtain ⟨z5, hs3⟩ := am_ift hs2
    clear hs2
    refine aw_call (F := fm_543 N s0 s1 v2 h3) (t := true) (na := 3) (kd := 1) (as := [s0, (.int s1), (.int v2)]) at_545_147 (am_k3v kb_543) mn_543 mk_543 rfl rfl (am_ok_v mi_543 (am_hl rfl (am_ccR j0 (am_ccI (am_ccI am_cats_0))) rfl) z5) (am_hc am_cats_0 rfl) (fun _ => ⟨rfl, hh_545⟩) (fun o1 hz9 => rm_543 s0 s1 v2 h3 o1 j0 hz9) ?_
    rcases am_cI_s hs3 with ⟨v6, h7, f8, hs4⟩ | hs4
    · clear hs3
      refine Or.inl ⟨_, _, f8, ?_⟩
      show am_W X _ 545 150 _ [(.int v6)] h7 _
      obtain ⟨z9, hs5⟩ := am_ift hs4
      clear hs4
      cases hs5
      exact aw_iret at_545_150 (by rw [rt_545]; exact z9) rfl
    · clear hs3
      exact Or.inr hs4
  · clear hs1
    exact Or.inr hs2
def fg_545_128 (N : Nat) (x0 : Value) (x1 : Int32) (s0 : Int32) (h : am_H) : Option am_O := (if s0 = 0 then (fg_545_144 N x0 x1 x0 x1 2 h) else (fg_545_144 N x0 x1 x0 x1 1 h))
theorem rg_545_128 {X : am_X} {d : Nat} {N : Nat} {lv : am_LV} (x0 : Value) (x1 : Int32) (s0 : Int32) (h : am_H) (o : am_O) (l0 : lv.lookup 0 = some x0) (l1 : lv.lookup 1 = some (.int x1)) (i0 : am_isR x0 = true) (hs : fg_545_128 N x0 x1 s0 h = some o) : am_W X (d + 3) 545 128 lv [(.int s0)] h (fun q => q = o) := by
  unfold fg_545_128 at hs
  refine aw_istore (lv1 := am_put1 _ 5 _) (pc1 := 130) at_545_128 rfl rfl ?_
  refine aw_vload_n (pc1 := 131) at_545_130 (am_lk1 l0 rfl rfl) i0 rfl ?_
  refine aw_iload_n (pc1 := 132) at_545_131 (am_lk1 l1 rfl rfl) rfl ?_
  refine aw_vload_n (pc1 := 133) at_545_132 (am_lk1 l0 rfl rfl) i0 rfl ?_
  refine aw_iload_n (pc1 := 134) at_545_133 (am_lk1 l1 rfl rfl) rfl ?_
  refine aw_iload (pc1 := 136) at_545_134 am_lk0 rfl ?_
  by_cases c1 : s0 = 0
  · rw [if_pos c1] at hs
    refine aw_ifeq_t at_545_136 c1 ?_
    refine aw_iconst (v := 2) (pc1 := 144) at_545_143 (by decide) rfl ?_
    exact rg_545_144 x0 x1 x0 x1 2 h o  i0 i0 hs
  · rw [if_neg c1] at hs
    refine aw_ifeq_f (pc1 := 139) at_545_136 c1 rfl ?_
    refine aw_iconst (v := 1) (pc1 := 140) at_545_139 (by decide) rfl ?_
    refine aw_goto at_545_140 ?_
    exact rg_545_144 x0 x1 x0 x1 1 h o  i0 i0 hs
def fg_545_70 (N : Nat) (h : am_H) : Option am_O := some (.inl (some (.int 0), h))
theorem rg_545_70 {X : am_X} {d : Nat} {N : Nat} {lv : am_LV} (h : am_H) (o : am_O) (hs : fg_545_70 N h = some o) : am_W X (d + 3) 545 70 lv [] h (fun q => q = o) := by
  unfold fg_545_70 at hs
  refine aw_iconst (v := 0) (pc1 := 71) at_545_70 (by decide) rfl ?_
  cases hs
  exact aw_iret at_545_71 (by rw [rt_545]; decide) rfl
def fg_545_39 (N : Nat) (x0 : Value) (x1 : Int32) (x2 : Int32) (h : am_H) : Option am_O := (if am_pOk 12 x0 h then am_cI true (fm_393 N x0 x2 1 h) (fun v2 h3 => ((am_vR (am_pG 3093 x0 h3)).bind fun v5 => ((am_pA 0 v5 (x2 + 1) h3).bind fun v7 => (if ¬ v7 = 0 then (fg_545_70 N h3) else ((am_vR (am_pG 3093 x0 h3)).bind fun v10 => ((am_pA 0 v10 v2 h3).bind fun v12 => (if v12 = 0 then ((am_vR (am_pG 3093 x0 h3)).bind fun v15 => ((am_pA 0 v15 x2 h3).bind fun v17 => (if ¬ v17 = 15 then ((am_vR (am_pG 3094 x0 h3)).bind fun v20 => ((am_pA 0 v20 (x2 + 1) h3).bind fun v22 => ((am_vR (am_pG 3094 x0 h3)).bind fun v24 => ((am_pA 0 v24 v2 h3).bind fun v26 => (if ¬ v22 = v26 then (fg_545_128 N x0 x1 0 h3) else (fg_545_128 N x0 x1 1 h3)))))) else ((am_vR (am_pG 3094 x0 h3)).bind fun v29 => ((am_pA 0 v29 (x2 + 1) h3).bind fun v31 => ((am_vR (am_pG 3094 x0 h3)).bind fun v33 => ((am_pA 0 v33 v2 h3).bind fun v35 => (if v35 ≤ v31 then (fg_545_128 N x0 x1 0 h3) else (fg_545_128 N x0 x1 1 h3))))))))) else (fg_545_70 N h3)))))))) else none)
theorem rg_545_39 {X : am_X} {d : Nat} {N : Nat} {lv : am_LV} (x0 : Value) (x1 : Int32) (x2 : Int32) (h : am_H) (o : am_O) (l0 : lv.lookup 0 = some x0) (l1 : lv.lookup 1 = some (.int x1)) (l2 : lv.lookup 2 = some (.int x2)) (i0 : am_isR x0 = true) (hs : fg_545_39 N x0 x1 x2 h = some o) : am_W X (d + 3) 545 39 lv [] h (fun q => q = o) := by
  unfold fg_545_39 at hs
  refine aw_iload_n (pc1 := 40) at_545_39 l2 rfl ?_
  refine aw_iconst (v := 1) (pc1 := 41) at_545_40 (by decide) rfl ?_
  refine aw_iadd (v := (x2 + 1)) (pc1 := 42) at_545_41 rfl rfl ?_
  refine aw_istore_n (lv1 := am_put1 _ 3 _) (pc1 := 43) at_545_42 rfl rfl ?_
  refine aw_vload_n (pc1 := 44) at_545_43 (am_lk1 l0 rfl rfl) i0 rfl ?_
  refine aw_iload_n (pc1 := 45) at_545_44 (am_lk1 l2 rfl rfl) rfl ?_
  refine aw_iconst (v := 1) (pc1 := 46) at_545_45 (by decide) rfl ?_
  obtain ⟨z1, hs1⟩ := am_ift hs
  clear hs
  refine aw_call (F := fm_393 N x0 x2 1 h) (t := true) (na := 3) (kd := 1) (as := [x0, (.int x2), (.int 1)]) at_545_46 (am_k3v kb_393) mn_393 mk_393 rfl rfl (am_ok_v mi_393 (am_hl rfl (am_ccR i0 (am_ccI (am_ccI am_cats_0))) rfl) z1) (am_hc am_cats_0 rfl) (fun _ => ⟨rfl, hh_545⟩) (fun o1 hz9 => rm_393 x0 x2 1 h o1 i0 hz9) ?_
  rcases am_cI_s hs1 with ⟨v2, h3, f4, hs2⟩ | hs2
  · clear hs1
    refine Or.inl ⟨_, _, f4, ?_⟩
    show am_W X _ 545 49 _ [(.int v2)] h3 _
    refine aw_istore (lv1 := am_put1 _ 4 _) (pc1 := 51) at_545_49 rfl rfl ?_
    refine aw_vload_n (pc1 := 52) at_545_51 (am_lk1 (am_lk1 l0 rfl rfl) rfl rfl) i0 rfl ?_
    obtain ⟨v5, e6, hs3⟩ := am_bind hs2
    clear hs2
    refine aw_pG (pc1 := 55) at_545_52 (am_vR_s e6).1 rfl ?_
    refine aw_iload_n (pc1 := 56) at_545_55 (am_lk1 am_lk0 rfl rfl) rfl ?_
    obtain ⟨v7, e8, hs4⟩ := am_bind hs3
    clear hs3
    refine aw_pA (pc1 := 57) at_545_56 (Or.inl ⟨rfl, rfl⟩) e8 rfl ?_
    by_cases c9 : ¬ v7 = 0
    · rw [if_pos c9] at hs4
      refine aw_ifne_t at_545_57 c9 ?_
      exact rg_545_70 h3 o   hs4
    · rw [if_neg c9] at hs4
      refine aw_ifne_f (pc1 := 60) at_545_57 c9 rfl ?_
      refine aw_vload_n (pc1 := 61) at_545_60 (am_lk1 (am_lk1 l0 rfl rfl) rfl rfl) i0 rfl ?_
      obtain ⟨v10, e11, hs5⟩ := am_bind hs4
      clear hs4
      refine aw_pG (pc1 := 64) at_545_61 (am_vR_s e11).1 rfl ?_
      refine aw_iload (pc1 := 66) at_545_64 am_lk0 rfl ?_
      obtain ⟨v12, e13, hs6⟩ := am_bind hs5
      clear hs5
      refine aw_pA (pc1 := 67) at_545_66 (Or.inl ⟨rfl, rfl⟩) e13 rfl ?_
      by_cases c14 : v12 = 0
      · rw [if_pos c14] at hs6
        refine aw_ifeq_t at_545_67 c14 ?_
        refine aw_vload_n (pc1 := 73) at_545_72 (am_lk1 (am_lk1 l0 rfl rfl) rfl rfl) i0 rfl ?_
        obtain ⟨v15, e16, hs7⟩ := am_bind hs6
        clear hs6
        refine aw_pG (pc1 := 76) at_545_73 (am_vR_s e16).1 rfl ?_
        refine aw_iload_n (pc1 := 77) at_545_76 (am_lk1 (am_lk1 l2 rfl rfl) rfl rfl) rfl ?_
        obtain ⟨v17, e18, hs8⟩ := am_bind hs7
        clear hs7
        refine aw_pA (pc1 := 78) at_545_77 (Or.inl ⟨rfl, rfl⟩) e18 rfl ?_
        refine aw_bipush (v := 15) (pc1 := 80) at_545_78 (by decide) rfl ?_
        by_cases c19 : ¬ v17 = 15
        · rw [if_pos c19] at hs8
          refine aw_icne_t at_545_80 c19 ?_
          refine aw_vload_n (pc1 := 108) at_545_107 (am_lk1 (am_lk1 l0 rfl rfl) rfl rfl) i0 rfl ?_
          obtain ⟨v20, e21, hs9⟩ := am_bind hs8
          clear hs8
          refine aw_pG (pc1 := 111) at_545_108 (am_vR_s e21).1 rfl ?_
          refine aw_iload_n (pc1 := 112) at_545_111 (am_lk1 am_lk0 rfl rfl) rfl ?_
          obtain ⟨v22, e23, hs10⟩ := am_bind hs9
          clear hs9
          refine aw_pA (pc1 := 113) at_545_112 (Or.inl ⟨rfl, rfl⟩) e23 rfl ?_
          refine aw_vload_n (pc1 := 114) at_545_113 (am_lk1 (am_lk1 l0 rfl rfl) rfl rfl) i0 rfl ?_
          obtain ⟨v24, e25, hs11⟩ := am_bind hs10
          clear hs10
          refine aw_pG (pc1 := 117) at_545_114 (am_vR_s e25).1 rfl ?_
          refine aw_iload (pc1 := 119) at_545_117 am_lk0 rfl ?_
          obtain ⟨v26, e27, hs12⟩ := am_bind hs11
          clear hs11
          refine aw_pA (pc1 := 120) at_545_119 (Or.inl ⟨rfl, rfl⟩) e27 rfl ?_
          by_cases c28 : ¬ v22 = v26
          · rw [if_pos c28] at hs12
            refine aw_icne_t at_545_120 c28 ?_
            refine aw_iconst (v := 0) (pc1 := 128) at_545_127 (by decide) rfl ?_
            exact rg_545_128 x0 x1 0 h3 o (am_lk1 (am_lk1 l0 rfl rfl) rfl rfl) (am_lk1 (am_lk1 l1 rfl rfl) rfl rfl) i0 hs12
          · rw [if_neg c28] at hs12
            refine aw_icne_f (pc1 := 123) at_545_120 c28 rfl ?_
            refine aw_iconst (v := 1) (pc1 := 124) at_545_123 (by decide) rfl ?_
            refine aw_goto at_545_124 ?_
            exact rg_545_128 x0 x1 1 h3 o (am_lk1 (am_lk1 l0 rfl rfl) rfl rfl) (am_lk1 (am_lk1 l1 rfl rfl) rfl rfl) i0 hs12
        · rw [if_neg c19] at hs8
          refine aw_icne_f (pc1 := 83) at_545_80 c19 rfl ?_
          refine aw_vload_n (pc1 := 84) at_545_83 (am_lk1 (am_lk1 l0 rfl rfl) rfl rfl) i0 rfl ?_
          obtain ⟨v29, e30, hs13⟩ := am_bind hs8
          clear hs8
          refine aw_pG (pc1 := 87) at_545_84 (am_vR_s e30).1 rfl ?_
          refine aw_iload_n (pc1 := 88) at_545_87 (am_lk1 am_lk0 rfl rfl) rfl ?_
          obtain ⟨v31, e32, hs14⟩ := am_bind hs13
          clear hs13
          refine aw_pA (pc1 := 89) at_545_88 (Or.inl ⟨rfl, rfl⟩) e32 rfl ?_
          refine aw_vload_n (pc1 := 90) at_545_89 (am_lk1 (am_lk1 l0 rfl rfl) rfl rfl) i0 rfl ?_
          obtain ⟨v33, e34, hs15⟩ := am_bind hs14
          clear hs14
          refine aw_pG (pc1 := 93) at_545_90 (am_vR_s e34).1 rfl ?_
          refine aw_iload (pc1 := 95) at_545_93 am_lk0 rfl ?_
          obtain ⟨v35, e36, hs16⟩ := am_bind hs15
          clear hs15
          refine aw_pA (pc1 := 96) at_545_95 (Or.inl ⟨rfl, rfl⟩) e36 rfl ?_
          by_cases c37 : v35 ≤ v31
          · rw [if_pos c37] at hs16
            refine aw_icge_t at_545_96 c37 ?_
            refine aw_iconst (v := 0) (pc1 := 104) at_545_103 (by decide) rfl ?_
            refine aw_goto at_545_104 ?_
            exact rg_545_128 x0 x1 0 h3 o (am_lk1 (am_lk1 l0 rfl rfl) rfl rfl) (am_lk1 (am_lk1 l1 rfl rfl) rfl rfl) i0 hs16
          · rw [if_neg c37] at hs16
            refine aw_icge_f (pc1 := 99) at_545_96 c37 rfl ?_
            refine aw_iconst (v := 1) (pc1 := 100) at_545_99 (by decide) rfl ?_
            refine aw_goto at_545_100 ?_
            exact rg_545_128 x0 x1 1 h3 o (am_lk1 (am_lk1 l0 rfl rfl) rfl rfl) (am_lk1 (am_lk1 l1 rfl rfl) rfl rfl) i0 hs16
      · rw [if_neg c14] at hs6
        refine aw_ifeq_f (pc1 := 70) at_545_67 c14 rfl ?_
        exact rg_545_70 h3 o   hs6
  · clear hs1
    exact Or.inr hs2
def fg_545_37 (N : Nat) (h : am_H) : Option am_O := some (.inl (some (.int 0), h))
theorem rg_545_37 {X : am_X} {d : Nat} {N : Nat} {lv : am_LV} (h : am_H) (o : am_O) (hs : fg_545_37 N h = some o) : am_W X (d + 3) 545 37 lv [] h (fun q => q = o) := by
  unfold fg_545_37 at hs
  refine aw_iconst (v := 0) (pc1 := 38) at_545_37 (by decide) rfl ?_
  cases hs
  exact aw_iret at_545_38 (by rw [rt_545]; decide) rfl
def fg_545_0 (N : Nat) (x0 : Value) (x1 : Int32) (h : am_H) : Option am_O := ((am_vR (am_pG 3093 x0 h)).bind fun v1 => ((am_pA 0 v1 x1 h).bind fun v3 => (if ¬ v3 = 20 then (fg_545_37 N h) else ((am_vR (am_pG 3093 x0 h)).bind fun v6 => ((am_pA 0 v6 (x1 + 1) h).bind fun v8 => (if v8 = 15 then (fg_545_39 N x0 x1 ((x1 + 1)) h) else ((am_vR (am_pG 3093 x0 h)).bind fun v11 => ((am_pA 0 v11 (x1 + 1) h).bind fun v13 => (if v13 = 16 then (fg_545_39 N x0 x1 ((x1 + 1)) h) else (fg_545_37 N h))))))))))
theorem rg_545_0 {X : am_X} {d : Nat} {N : Nat} {lv : am_LV} (x0 : Value) (x1 : Int32) (h : am_H) (o : am_O) (l0 : lv.lookup 0 = some x0) (l1 : lv.lookup 1 = some (.int x1)) (i0 : am_isR x0 = true) (hs : fg_545_0 N x0 x1 h = some o) : am_W X (d + 3) 545 0 lv [] h (fun q => q = o) := by
  unfold fg_545_0 at hs
  refine aw_iload_n (pc1 := 1) at_545_0 l1 rfl ?_
  refine aw_iconst (v := 1) (pc1 := 2) at_545_1 (by decide) rfl ?_
  refine aw_iadd (v := (x1 + 1)) (pc1 := 3) at_545_2 rfl rfl ?_
  refine aw_istore_n (lv1 := am_put1 _ 2 _) (pc1 := 4) at_545_3 rfl rfl ?_
  refine aw_vload_n (pc1 := 5) at_545_4 (am_lk1 l0 rfl rfl) i0 rfl ?_
  obtain ⟨v1, e2, hs1⟩ := am_bind hs
  clear hs
  refine aw_pG (pc1 := 8) at_545_5 (am_vR_s e2).1 rfl ?_
  refine aw_iload_n (pc1 := 9) at_545_8 (am_lk1 l1 rfl rfl) rfl ?_
  obtain ⟨v3, e4, hs2⟩ := am_bind hs1
  clear hs1
  refine aw_pA (pc1 := 10) at_545_9 (Or.inl ⟨rfl, rfl⟩) e4 rfl ?_
  refine aw_bipush (v := 20) (pc1 := 12) at_545_10 (by decide) rfl ?_
  by_cases c5 : ¬ v3 = 20
  · rw [if_pos c5] at hs2
    refine aw_icne_t at_545_12 c5 ?_
    exact rg_545_37 h o   hs2
  · rw [if_neg c5] at hs2
    refine aw_icne_f (pc1 := 15) at_545_12 c5 rfl ?_
    refine aw_vload_n (pc1 := 16) at_545_15 (am_lk1 l0 rfl rfl) i0 rfl ?_
    obtain ⟨v6, e7, hs3⟩ := am_bind hs2
    clear hs2
    refine aw_pG (pc1 := 19) at_545_16 (am_vR_s e7).1 rfl ?_
    refine aw_iload_n (pc1 := 20) at_545_19 am_lk0 rfl ?_
    obtain ⟨v8, e9, hs4⟩ := am_bind hs3
    clear hs3
    refine aw_pA (pc1 := 21) at_545_20 (Or.inl ⟨rfl, rfl⟩) e9 rfl ?_
    refine aw_bipush (v := 15) (pc1 := 23) at_545_21 (by decide) rfl ?_
    by_cases c10 : v8 = 15
    · rw [if_pos c10] at hs4
      refine aw_iceq_t at_545_23 c10 ?_
      exact rg_545_39 x0 x1 ((x1 + 1)) h o (am_lk1 l0 rfl rfl) (am_lk1 l1 rfl rfl) am_lk0 i0 hs4
    · rw [if_neg c10] at hs4
      refine aw_iceq_f (pc1 := 26) at_545_23 c10 rfl ?_
      refine aw_vload_n (pc1 := 27) at_545_26 (am_lk1 l0 rfl rfl) i0 rfl ?_
      obtain ⟨v11, e12, hs5⟩ := am_bind hs4
      clear hs4
      refine aw_pG (pc1 := 30) at_545_27 (am_vR_s e12).1 rfl ?_
      refine aw_iload_n (pc1 := 31) at_545_30 am_lk0 rfl ?_
      obtain ⟨v13, e14, hs6⟩ := am_bind hs5
      clear hs5
      refine aw_pA (pc1 := 32) at_545_31 (Or.inl ⟨rfl, rfl⟩) e14 rfl ?_
      refine aw_bipush (v := 16) (pc1 := 34) at_545_32 (by decide) rfl ?_
      by_cases c15 : v13 = 16
      · rw [if_pos c15] at hs6
        refine aw_iceq_t at_545_34 c15 ?_
        exact rg_545_39 x0 x1 ((x1 + 1)) h o (am_lk1 l0 rfl rfl) (am_lk1 l1 rfl rfl) am_lk0 i0 hs6
      · rw [if_neg c15] at hs6
        refine aw_iceq_f (pc1 := 37) at_545_34 c15 rfl ?_
        exact rg_545_37 h o   hs6
def fm_545 (N : Nat) (y0 : Value) (y1 : Int32) (h : am_H) : Option am_O := fg_545_0 N y0 y1 h
theorem rm_545 {X : am_X} {d : Nat} {N : Nat} (y0 : Value) (y1 : Int32) (h : am_H) (o : am_O) (i0 : am_isR y0 = true) (hs : fm_545 N y0 y1 h = some o) : am_W X (d + 3) 545 0 (am_args 0 [y0, .int y1]) [] h (fun q => q = o) := by
  rw [am_args_R i0, am_args_I]
  exact rg_545_0 y0 y1 h o rfl rfl i0 hs
def fg_547_69 (N : Nat) (rec_4 : Value → Int32 → Int32 → Int32 → am_H → Option am_O) (x0 : Value) (x1 : Int32) (x3 : Int32) (s0 : Int32) (h : am_H) : Option am_O := (rec_4 x0 x1 s0 ((x3 + 1)) h)
theorem rg_547_69 {X : am_X} {d : Nat} {N : Nat} {rec_4 : Value → Int32 → Int32 → Int32 → am_H → Option am_O} (q_4 : ∀ (x0 : Value) (x1 : Int32) (x2 : Int32) (x3 : Int32) (h : am_H) (o : am_O), rec_4 x0 x1 x2 x3 h = some o → ∀ lv : am_LV, (lv.lookup 0 = some x0) → (lv.lookup 1 = some (.int x1)) → (lv.lookup 2 = some (.int x2)) → (lv.lookup 3 = some (.int x3)) → (am_isR x0 = true) → am_W X (d) 547 4 lv [] h (fun q => q = o)) {lv : am_LV} (x0 : Value) (x1 : Int32) (x3 : Int32) (s0 : Int32) (h : am_H) (o : am_O) (l0 : lv.lookup 0 = some x0) (l1 : lv.lookup 1 = some (.int x1)) (l3 : lv.lookup 3 = some (.int x3)) (i0 : am_isR x0 = true) (hs : fg_547_69 N rec_4 x0 x1 x3 s0 h = some o) : am_W X (d) 547 69 lv [(.int s0)] h (fun q => q = o) := by
  unfold fg_547_69 at hs
  refine aw_istore_n (lv1 := am_put1 _ 2 _) (pc1 := 70) at_547_69 rfl rfl ?_
  refine aw_iinc (v := (x3 + 1)) (c := 1) (lv1 := am_put1 _ 3 _) (pc1 := 73) at_547_70 (am_lk1 l3 rfl rfl) (by decide) rfl rfl rfl ?_
  refine aw_goto at_547_73 ?_
  exact q_4 x0 x1 s0 ((x3 + 1)) h o hs _ (am_lk1 (am_lk1 l0 rfl rfl) rfl rfl) (am_lk1 (am_lk1 l1 rfl rfl) rfl rfl) (am_lk1 am_lk0 rfl rfl) am_lk0 i0
def fg_547_68 (N : Nat) (rec_4 : Value → Int32 → Int32 → Int32 → am_H → Option am_O) (x0 : Value) (x1 : Int32) (x3 : Int32) (h : am_H) : Option am_O := (fg_547_69 N rec_4 x0 x1 x3 0 h)
theorem rg_547_68 {X : am_X} {d : Nat} {N : Nat} {rec_4 : Value → Int32 → Int32 → Int32 → am_H → Option am_O} (q_4 : ∀ (x0 : Value) (x1 : Int32) (x2 : Int32) (x3 : Int32) (h : am_H) (o : am_O), rec_4 x0 x1 x2 x3 h = some o → ∀ lv : am_LV, (lv.lookup 0 = some x0) → (lv.lookup 1 = some (.int x1)) → (lv.lookup 2 = some (.int x2)) → (lv.lookup 3 = some (.int x3)) → (am_isR x0 = true) → am_W X (d) 547 4 lv [] h (fun q => q = o)) {lv : am_LV} (x0 : Value) (x1 : Int32) (x3 : Int32) (h : am_H) (o : am_O) (l0 : lv.lookup 0 = some x0) (l1 : lv.lookup 1 = some (.int x1)) (l3 : lv.lookup 3 = some (.int x3)) (i0 : am_isR x0 = true) (hs : fg_547_68 N rec_4 x0 x1 x3 h = some o) : am_W X (d) 547 68 lv [] h (fun q => q = o) := by
  unfold fg_547_68 at hs
  refine aw_iconst (v := 0) (pc1 := 69) at_547_68 (by decide) rfl ?_
  exact rg_547_69 q_4 x0 x1 x3 0 h o l0 l1 l3 i0 hs
def fg_547_4 (N : Nat) : Nat → Value → Int32 → Int32 → Int32 → am_H → Option am_O
  | 0 => fun _ _ _ _ _ => none
  | K + 1 => fun x0 x1 x2 x3 h => ((am_vR (am_pG 3098 x0 h)).bind fun v1 => ((am_pA 0 v1 x1 h).bind fun v3 => (if (x1 + v3) ≤ x3 then (if am_rfit (some FieldType.boolean) x2 then some (.inl (some (.int x2), h)) else none) else (if x2 = 0 then (fg_547_68 N (fg_547_4 N K) x0 x1 x3 h) else ((am_vR (am_pG 3093 x0 h)).bind fun v8 => ((am_pA 0 v8 x3 h).bind fun v10 => (if v10 = 13 then (fg_547_68 N (fg_547_4 N K) x0 x1 x3 h) else ((am_vR (am_pG 3093 x0 h)).bind fun v13 => ((am_pA 0 v13 x3 h).bind fun v15 => (if v15 = 14 then (fg_547_68 N (fg_547_4 N K) x0 x1 x3 h) else ((am_vR (am_pG 3093 x0 h)).bind fun v18 => ((am_pA 0 v18 x3 h).bind fun v20 => (if v20 = 8 then (fg_547_68 N (fg_547_4 N K) x0 x1 x3 h) else ((am_vR (am_pG 3093 x0 h)).bind fun v23 => ((am_pA 0 v23 x3 h).bind fun v25 => (if v25 = 19 then (fg_547_68 N (fg_547_4 N K) x0 x1 x3 h) else (fg_547_69 N (fg_547_4 N K) x0 x1 x3 1 h)))))))))))))))))
theorem rg_547_4 {X : am_X} {d : Nat} {N : Nat} : ∀ (K : Nat) (x0 : Value) (x1 : Int32) (x2 : Int32) (x3 : Int32) (h : am_H) (o : am_O), fg_547_4 N K x0 x1 x2 x3 h = some o → ∀ lv : am_LV, (lv.lookup 0 = some x0) → (lv.lookup 1 = some (.int x1)) → (lv.lookup 2 = some (.int x2)) → (lv.lookup 3 = some (.int x3)) → (am_isR x0 = true) → am_W X (d) 547 4 lv [] h (fun q => q = o) := by
  intro K
  induction K with
  | zero => intro x0 x1 x2 x3 h o hs; cases hs
  | succ K ih =>
    intro x0 x1 x2 x3 h o hs lv l0 l1 l2 l3 i0
    unfold fg_547_4 at hs
    refine aw_iload_n (pc1 := 5) at_547_4 l3 rfl ?_
    refine aw_iload_n (pc1 := 6) at_547_5 l1 rfl ?_
    refine aw_vload_n (pc1 := 7) at_547_6 l0 i0 rfl ?_
    obtain ⟨v1, e2, hs1⟩ := am_bind hs
    clear hs
    refine aw_pG (pc1 := 10) at_547_7 (am_vR_s e2).1 rfl ?_
    refine aw_iload_n (pc1 := 11) at_547_10 l1 rfl ?_
    obtain ⟨v3, e4, hs2⟩ := am_bind hs1
    clear hs1
    refine aw_pA (pc1 := 12) at_547_11 (Or.inl ⟨rfl, rfl⟩) e4 rfl ?_
    refine aw_iadd (v := (x1 + v3)) (pc1 := 13) at_547_12 rfl rfl ?_
    by_cases c5 : (x1 + v3) ≤ x3
    · rw [if_pos c5] at hs2
      refine aw_icge_t at_547_13 c5 ?_
      refine aw_iload_n (pc1 := 77) at_547_76 l2 rfl ?_
      obtain ⟨z6, hs3⟩ := am_ift hs2
      clear hs2
      cases hs3
      exact aw_iret at_547_77 (by rw [rt_547]; exact z6) rfl
    · rw [if_neg c5] at hs2
      refine aw_icge_f (pc1 := 16) at_547_13 c5 rfl ?_
      refine aw_iload_n (pc1 := 17) at_547_16 l2 rfl ?_
      by_cases c7 : x2 = 0
      · rw [if_pos c7] at hs2
        refine aw_ifeq_t at_547_17 c7 ?_
        exact rg_547_68 (fun z0 z1 z2 z3 h o hs2 => ih z0 z1 z2 z3 h o hs2) x0 x1 x3 h o l0 l1 l3 i0 hs2
      · rw [if_neg c7] at hs2
        refine aw_ifeq_f (pc1 := 20) at_547_17 c7 rfl ?_
        refine aw_vload_n (pc1 := 21) at_547_20 l0 i0 rfl ?_
        obtain ⟨v8, e9, hs4⟩ := am_bind hs2
        clear hs2
        refine aw_pG (pc1 := 24) at_547_21 (am_vR_s e9).1 rfl ?_
        refine aw_iload_n (pc1 := 25) at_547_24 l3 rfl ?_
        obtain ⟨v10, e11, hs5⟩ := am_bind hs4
        clear hs4
        refine aw_pA (pc1 := 26) at_547_25 (Or.inl ⟨rfl, rfl⟩) e11 rfl ?_
        refine aw_bipush (v := 13) (pc1 := 28) at_547_26 (by decide) rfl ?_
        by_cases c12 : v10 = 13
        · rw [if_pos c12] at hs5
          refine aw_iceq_t at_547_28 c12 ?_
          exact rg_547_68 (fun z0 z1 z2 z3 h o hs5 => ih z0 z1 z2 z3 h o hs5) x0 x1 x3 h o l0 l1 l3 i0 hs5
        · rw [if_neg c12] at hs5
          refine aw_iceq_f (pc1 := 31) at_547_28 c12 rfl ?_
          refine aw_vload_n (pc1 := 32) at_547_31 l0 i0 rfl ?_
          obtain ⟨v13, e14, hs6⟩ := am_bind hs5
          clear hs5
          refine aw_pG (pc1 := 35) at_547_32 (am_vR_s e14).1 rfl ?_
          refine aw_iload_n (pc1 := 36) at_547_35 l3 rfl ?_
          obtain ⟨v15, e16, hs7⟩ := am_bind hs6
          clear hs6
          refine aw_pA (pc1 := 37) at_547_36 (Or.inl ⟨rfl, rfl⟩) e16 rfl ?_
          refine aw_bipush (v := 14) (pc1 := 39) at_547_37 (by decide) rfl ?_
          by_cases c17 : v15 = 14
          · rw [if_pos c17] at hs7
            refine aw_iceq_t at_547_39 c17 ?_
            exact rg_547_68 (fun z0 z1 z2 z3 h o hs7 => ih z0 z1 z2 z3 h o hs7) x0 x1 x3 h o l0 l1 l3 i0 hs7
          · rw [if_neg c17] at hs7
            refine aw_iceq_f (pc1 := 42) at_547_39 c17 rfl ?_
            refine aw_vload_n (pc1 := 43) at_547_42 l0 i0 rfl ?_
            obtain ⟨v18, e19, hs8⟩ := am_bind hs7
            clear hs7
            refine aw_pG (pc1 := 46) at_547_43 (am_vR_s e19).1 rfl ?_
            refine aw_iload_n (pc1 := 47) at_547_46 l3 rfl ?_
            obtain ⟨v20, e21, hs9⟩ := am_bind hs8
            clear hs8
            refine aw_pA (pc1 := 48) at_547_47 (Or.inl ⟨rfl, rfl⟩) e21 rfl ?_
            refine aw_bipush (v := 8) (pc1 := 50) at_547_48 (by decide) rfl ?_
            by_cases c22 : v20 = 8
            · rw [if_pos c22] at hs9
              refine aw_iceq_t at_547_50 c22 ?_
              exact rg_547_68 (fun z0 z1 z2 z3 h o hs9 => ih z0 z1 z2 z3 h o hs9) x0 x1 x3 h o l0 l1 l3 i0 hs9
            · rw [if_neg c22] at hs9
              refine aw_iceq_f (pc1 := 53) at_547_50 c22 rfl ?_
              refine aw_vload_n (pc1 := 54) at_547_53 l0 i0 rfl ?_
              obtain ⟨v23, e24, hs10⟩ := am_bind hs9
              clear hs9
              refine aw_pG (pc1 := 57) at_547_54 (am_vR_s e24).1 rfl ?_
              refine aw_iload_n (pc1 := 58) at_547_57 l3 rfl ?_
              obtain ⟨v25, e26, hs11⟩ := am_bind hs10
              clear hs10
              refine aw_pA (pc1 := 59) at_547_58 (Or.inl ⟨rfl, rfl⟩) e26 rfl ?_
              refine aw_bipush (v := 19) (pc1 := 61) at_547_59 (by decide) rfl ?_
              by_cases c27 : v25 = 19
              · rw [if_pos c27] at hs11
                refine aw_iceq_t at_547_61 c27 ?_
                exact rg_547_68 (fun z0 z1 z2 z3 h o hs11 => ih z0 z1 z2 z3 h o hs11) x0 x1 x3 h o l0 l1 l3 i0 hs11
              · rw [if_neg c27] at hs11
                refine aw_iceq_f (pc1 := 64) at_547_61 c27 rfl ?_
                refine aw_iconst (v := 1) (pc1 := 65) at_547_64 (by decide) rfl ?_
                refine aw_goto at_547_65 ?_
                exact rg_547_69 (fun z0 z1 z2 z3 h o hs11 => ih z0 z1 z2 z3 h o hs11) x0 x1 x3 1 h o l0 l1 l3 i0 hs11
def fg_547_0 (N : Nat) (x0 : Value) (x1 : Int32) (h : am_H) : Option am_O := (fg_547_4 N N x0 x1 1 x1 h)
theorem rg_547_0 {X : am_X} {d : Nat} {N : Nat} {lv : am_LV} (x0 : Value) (x1 : Int32) (h : am_H) (o : am_O) (l0 : lv.lookup 0 = some x0) (l1 : lv.lookup 1 = some (.int x1)) (i0 : am_isR x0 = true) (hs : fg_547_0 N x0 x1 h = some o) : am_W X (d) 547 0 lv [] h (fun q => q = o) := by
  unfold fg_547_0 at hs
  refine aw_iconst (v := 1) (pc1 := 1) at_547_0 (by decide) rfl ?_
  refine aw_istore_n (lv1 := am_put1 _ 2 _) (pc1 := 2) at_547_1 rfl rfl ?_
  refine aw_iload_n (pc1 := 3) at_547_2 (am_lk1 l1 rfl rfl) rfl ?_
  refine aw_istore_n (lv1 := am_put1 _ 3 _) (pc1 := 4) at_547_3 rfl rfl ?_
  exact rg_547_4 N x0 x1 1 x1 h o hs _ (am_lk1 (am_lk1 l0 rfl rfl) rfl rfl) (am_lk1 (am_lk1 l1 rfl rfl) rfl rfl) (am_lk1 am_lk0 rfl rfl) am_lk0 i0
def fm_547 (N : Nat) (y0 : Value) (y1 : Int32) (h : am_H) : Option am_O := fg_547_0 N y0 y1 h
theorem rm_547 {X : am_X} {d : Nat} {N : Nat} (y0 : Value) (y1 : Int32) (h : am_H) (o : am_O) (i0 : am_isR y0 = true) (hs : fm_547 N y0 y1 h = some o) : am_W X (d) 547 0 (am_args 0 [y0, .int y1]) [] h (fun q => q = o) := by
  rw [am_args_R i0, am_args_I]
  exact rg_547_0 y0 y1 h o rfl rfl i0 hs
def fg_548_93 (N : Nat) (x3 : Int32) (h : am_H) : Option am_O := (if am_rfit (some FieldType.boolean) x3 then some (.inl (some (.int x3), h)) else none)
theorem rg_548_93 {X : am_X} {d : Nat} {N : Nat} {lv : am_LV} (x3 : Int32) (h : am_H) (o : am_O) (l3 : lv.lookup 3 = some (.int x3)) (hs : fg_548_93 N x3 h = some o) : am_W X (d) 548 93 lv [] h (fun q => q = o) := by
  unfold fg_548_93 at hs
  refine aw_iload_n (pc1 := 94) at_548_93 l3 rfl ?_
  obtain ⟨z1, hs1⟩ := am_ift hs
  clear hs
  cases hs1
  exact aw_iret at_548_94 (by rw [rt_548]; exact z1) rfl
def fg_548_86 (N : Nat) (rec_24 : Value → Int32 → Int32 → Int32 → Int32 → am_H → Option am_O) (x0 : Value) (x1 : Int32) (x2 : Int32) (x4 : Int32) (s0 : Int32) (h : am_H) : Option am_O := (rec_24 x0 x1 x2 s0 ((x4 + 1)) h)
theorem rg_548_86 {X : am_X} {d : Nat} {N : Nat} {rec_24 : Value → Int32 → Int32 → Int32 → Int32 → am_H → Option am_O} (q_24 : ∀ (x0 : Value) (x1 : Int32) (x2 : Int32) (x3 : Int32) (x4 : Int32) (h : am_H) (o : am_O), rec_24 x0 x1 x2 x3 x4 h = some o → ∀ lv : am_LV, (lv.lookup 0 = some x0) → (lv.lookup 1 = some (.int x1)) → (lv.lookup 2 = some (.int x2)) → (lv.lookup 3 = some (.int x3)) → (lv.lookup 4 = some (.int x4)) → (am_isR x0 = true) → am_W X (d) 548 24 lv [] h (fun q => q = o)) {lv : am_LV} (x0 : Value) (x1 : Int32) (x2 : Int32) (x4 : Int32) (s0 : Int32) (h : am_H) (o : am_O) (l0 : lv.lookup 0 = some x0) (l1 : lv.lookup 1 = some (.int x1)) (l2 : lv.lookup 2 = some (.int x2)) (l4 : lv.lookup 4 = some (.int x4)) (i0 : am_isR x0 = true) (hs : fg_548_86 N rec_24 x0 x1 x2 x4 s0 h = some o) : am_W X (d) 548 86 lv [(.int s0)] h (fun q => q = o) := by
  unfold fg_548_86 at hs
  refine aw_istore_n (lv1 := am_put1 _ 3 _) (pc1 := 87) at_548_86 rfl rfl ?_
  refine aw_iinc (v := (x4 + 1)) (c := 1) (lv1 := am_put1 _ 4 _) (pc1 := 90) at_548_87 (am_lk1 l4 rfl rfl) (by decide) rfl rfl rfl ?_
  refine aw_goto at_548_90 ?_
  exact q_24 x0 x1 x2 s0 ((x4 + 1)) h o hs _ (am_lk1 (am_lk1 l0 rfl rfl) rfl rfl) (am_lk1 (am_lk1 l1 rfl rfl) rfl rfl) (am_lk1 (am_lk1 l2 rfl rfl) rfl rfl) (am_lk1 am_lk0 rfl rfl) am_lk0 i0
def fg_548_85 (N : Nat) (rec_24 : Value → Int32 → Int32 → Int32 → Int32 → am_H → Option am_O) (x0 : Value) (x1 : Int32) (x2 : Int32) (x4 : Int32) (h : am_H) : Option am_O := (fg_548_86 N rec_24 x0 x1 x2 x4 0 h)
theorem rg_548_85 {X : am_X} {d : Nat} {N : Nat} {rec_24 : Value → Int32 → Int32 → Int32 → Int32 → am_H → Option am_O} (q_24 : ∀ (x0 : Value) (x1 : Int32) (x2 : Int32) (x3 : Int32) (x4 : Int32) (h : am_H) (o : am_O), rec_24 x0 x1 x2 x3 x4 h = some o → ∀ lv : am_LV, (lv.lookup 0 = some x0) → (lv.lookup 1 = some (.int x1)) → (lv.lookup 2 = some (.int x2)) → (lv.lookup 3 = some (.int x3)) → (lv.lookup 4 = some (.int x4)) → (am_isR x0 = true) → am_W X (d) 548 24 lv [] h (fun q => q = o)) {lv : am_LV} (x0 : Value) (x1 : Int32) (x2 : Int32) (x4 : Int32) (h : am_H) (o : am_O) (l0 : lv.lookup 0 = some x0) (l1 : lv.lookup 1 = some (.int x1)) (l2 : lv.lookup 2 = some (.int x2)) (l4 : lv.lookup 4 = some (.int x4)) (i0 : am_isR x0 = true) (hs : fg_548_85 N rec_24 x0 x1 x2 x4 h = some o) : am_W X (d) 548 85 lv [] h (fun q => q = o) := by
  unfold fg_548_85 at hs
  refine aw_iconst (v := 0) (pc1 := 86) at_548_85 (by decide) rfl ?_
  exact rg_548_86 q_24 x0 x1 x2 x4 0 h o l0 l1 l2 l4 i0 hs
def fg_548_24 (N : Nat) : Nat → Value → Int32 → Int32 → Int32 → Int32 → am_H → Option am_O
  | 0 => fun _ _ _ _ _ _ => none
  | K + 1 => fun x0 x1 x2 x3 x4 h => ((am_vR (am_pG 3098 x0 h)).bind fun v1 => ((am_pA 0 v1 x1 h).bind fun v3 => (if v3 ≤ x4 then (fg_548_93 N x3 h) else (if x3 = 0 then (fg_548_93 N x3 h) else ((am_vR (am_pG 3093 x0 h)).bind fun v7 => ((am_pA 0 v7 (x1 + x4) h).bind fun v9 => ((am_vR (am_pG 3093 x0 h)).bind fun v11 => ((am_pA 0 v11 (x2 + x4) h).bind fun v13 => (if ¬ v9 = v13 then (fg_548_85 N (fg_548_24 N K) x0 x1 x2 x4 h) else ((am_vR (am_pG 3094 x0 h)).bind fun v16 => ((am_pA 0 v16 (x1 + x4) h).bind fun v18 => ((am_vR (am_pG 3094 x0 h)).bind fun v20 => ((am_pA 0 v20 (x2 + x4) h).bind fun v22 => (if ¬ v18 = v22 then (fg_548_85 N (fg_548_24 N K) x0 x1 x2 x4 h) else (fg_548_86 N (fg_548_24 N K) x0 x1 x2 x4 1 h)))))))))))))))
theorem rg_548_24 {X : am_X} {d : Nat} {N : Nat} : ∀ (K : Nat) (x0 : Value) (x1 : Int32) (x2 : Int32) (x3 : Int32) (x4 : Int32) (h : am_H) (o : am_O), fg_548_24 N K x0 x1 x2 x3 x4 h = some o → ∀ lv : am_LV, (lv.lookup 0 = some x0) → (lv.lookup 1 = some (.int x1)) → (lv.lookup 2 = some (.int x2)) → (lv.lookup 3 = some (.int x3)) → (lv.lookup 4 = some (.int x4)) → (am_isR x0 = true) → am_W X (d) 548 24 lv [] h (fun q => q = o) := by
  intro K
  induction K with
  | zero => intro x0 x1 x2 x3 x4 h o hs; cases hs
  | succ K ih =>
    intro x0 x1 x2 x3 x4 h o hs lv l0 l1 l2 l3 l4 i0
    unfold fg_548_24 at hs
    refine aw_iload (pc1 := 26) at_548_24 l4 rfl ?_
    refine aw_vload_n (pc1 := 27) at_548_26 l0 i0 rfl ?_
    obtain ⟨v1, e2, hs1⟩ := am_bind hs
    clear hs
    refine aw_pG (pc1 := 30) at_548_27 (am_vR_s e2).1 rfl ?_
    refine aw_iload_n (pc1 := 31) at_548_30 l1 rfl ?_
    obtain ⟨v3, e4, hs2⟩ := am_bind hs1
    clear hs1
    refine aw_pA (pc1 := 32) at_548_31 (Or.inl ⟨rfl, rfl⟩) e4 rfl ?_
    by_cases c5 : v3 ≤ x4
    · rw [if_pos c5] at hs2
      refine aw_icge_t at_548_32 c5 ?_
      exact rg_548_93 x3 h o l3  hs2
    · rw [if_neg c5] at hs2
      refine aw_icge_f (pc1 := 35) at_548_32 c5 rfl ?_
      refine aw_iload_n (pc1 := 36) at_548_35 l3 rfl ?_
      by_cases c6 : x3 = 0
      · rw [if_pos c6] at hs2
        refine aw_ifeq_t at_548_36 c6 ?_
        exact rg_548_93 x3 h o l3  hs2
      · rw [if_neg c6] at hs2
        refine aw_ifeq_f (pc1 := 39) at_548_36 c6 rfl ?_
        refine aw_vload_n (pc1 := 40) at_548_39 l0 i0 rfl ?_
        obtain ⟨v7, e8, hs3⟩ := am_bind hs2
        clear hs2
        refine aw_pG (pc1 := 43) at_548_40 (am_vR_s e8).1 rfl ?_
        refine aw_iload_n (pc1 := 44) at_548_43 l1 rfl ?_
        refine aw_iload (pc1 := 46) at_548_44 l4 rfl ?_
        refine aw_iadd (v := (x1 + x4)) (pc1 := 47) at_548_46 rfl rfl ?_
        obtain ⟨v9, e10, hs4⟩ := am_bind hs3
        clear hs3
        refine aw_pA (pc1 := 48) at_548_47 (Or.inl ⟨rfl, rfl⟩) e10 rfl ?_
        refine aw_vload_n (pc1 := 49) at_548_48 l0 i0 rfl ?_
        obtain ⟨v11, e12, hs5⟩ := am_bind hs4
        clear hs4
        refine aw_pG (pc1 := 52) at_548_49 (am_vR_s e12).1 rfl ?_
        refine aw_iload_n (pc1 := 53) at_548_52 l2 rfl ?_
        refine aw_iload (pc1 := 55) at_548_53 l4 rfl ?_
        refine aw_iadd (v := (x2 + x4)) (pc1 := 56) at_548_55 rfl rfl ?_
        obtain ⟨v13, e14, hs6⟩ := am_bind hs5
        clear hs5
        refine aw_pA (pc1 := 57) at_548_56 (Or.inl ⟨rfl, rfl⟩) e14 rfl ?_
        by_cases c15 : ¬ v9 = v13
        · rw [if_pos c15] at hs6
          refine aw_icne_t at_548_57 c15 ?_
          exact rg_548_85 (fun z0 z1 z2 z3 z4 h o hs6 => ih z0 z1 z2 z3 z4 h o hs6) x0 x1 x2 x4 h o l0 l1 l2 l4 i0 hs6
        · rw [if_neg c15] at hs6
          refine aw_icne_f (pc1 := 60) at_548_57 c15 rfl ?_
          refine aw_vload_n (pc1 := 61) at_548_60 l0 i0 rfl ?_
          obtain ⟨v16, e17, hs7⟩ := am_bind hs6
          clear hs6
          refine aw_pG (pc1 := 64) at_548_61 (am_vR_s e17).1 rfl ?_
          refine aw_iload_n (pc1 := 65) at_548_64 l1 rfl ?_
          refine aw_iload (pc1 := 67) at_548_65 l4 rfl ?_
          refine aw_iadd (v := (x1 + x4)) (pc1 := 68) at_548_67 rfl rfl ?_
          obtain ⟨v18, e19, hs8⟩ := am_bind hs7
          clear hs7
          refine aw_pA (pc1 := 69) at_548_68 (Or.inl ⟨rfl, rfl⟩) e19 rfl ?_
          refine aw_vload_n (pc1 := 70) at_548_69 l0 i0 rfl ?_
          obtain ⟨v20, e21, hs9⟩ := am_bind hs8
          clear hs8
          refine aw_pG (pc1 := 73) at_548_70 (am_vR_s e21).1 rfl ?_
          refine aw_iload_n (pc1 := 74) at_548_73 l2 rfl ?_
          refine aw_iload (pc1 := 76) at_548_74 l4 rfl ?_
          refine aw_iadd (v := (x2 + x4)) (pc1 := 77) at_548_76 rfl rfl ?_
          obtain ⟨v22, e23, hs10⟩ := am_bind hs9
          clear hs9
          refine aw_pA (pc1 := 78) at_548_77 (Or.inl ⟨rfl, rfl⟩) e23 rfl ?_
          by_cases c24 : ¬ v18 = v22
          · rw [if_pos c24] at hs10
            refine aw_icne_t at_548_78 c24 ?_
            exact rg_548_85 (fun z0 z1 z2 z3 z4 h o hs10 => ih z0 z1 z2 z3 z4 h o hs10) x0 x1 x2 x4 h o l0 l1 l2 l4 i0 hs10
          · rw [if_neg c24] at hs10
            refine aw_icne_f (pc1 := 81) at_548_78 c24 rfl ?_
            refine aw_iconst (v := 1) (pc1 := 82) at_548_81 (by decide) rfl ?_
            refine aw_goto at_548_82 ?_
            exact rg_548_86 (fun z0 z1 z2 z3 z4 h o hs10 => ih z0 z1 z2 z3 z4 h o hs10) x0 x1 x2 x4 1 h o l0 l1 l2 l4 i0 hs10
def fg_548_20 (N : Nat) (x0 : Value) (x1 : Int32) (x2 : Int32) (s0 : Int32) (h : am_H) : Option am_O := (fg_548_24 N N x0 x1 x2 s0 0 h)
theorem rg_548_20 {X : am_X} {d : Nat} {N : Nat} {lv : am_LV} (x0 : Value) (x1 : Int32) (x2 : Int32) (s0 : Int32) (h : am_H) (o : am_O) (l0 : lv.lookup 0 = some x0) (l1 : lv.lookup 1 = some (.int x1)) (l2 : lv.lookup 2 = some (.int x2)) (i0 : am_isR x0 = true) (hs : fg_548_20 N x0 x1 x2 s0 h = some o) : am_W X (d) 548 20 lv [(.int s0)] h (fun q => q = o) := by
  unfold fg_548_20 at hs
  refine aw_istore_n (lv1 := am_put1 _ 3 _) (pc1 := 21) at_548_20 rfl rfl ?_
  refine aw_iconst (v := 0) (pc1 := 22) at_548_21 (by decide) rfl ?_
  refine aw_istore (lv1 := am_put1 _ 4 _) (pc1 := 24) at_548_22 rfl rfl ?_
  exact rg_548_24 N x0 x1 x2 s0 0 h o hs _ (am_lk1 (am_lk1 l0 rfl rfl) rfl rfl) (am_lk1 (am_lk1 l1 rfl rfl) rfl rfl) (am_lk1 (am_lk1 l2 rfl rfl) rfl rfl) (am_lk1 am_lk0 rfl rfl) am_lk0 i0
def fg_548_0 (N : Nat) (x0 : Value) (x1 : Int32) (x2 : Int32) (h : am_H) : Option am_O := ((am_vR (am_pG 3098 x0 h)).bind fun v1 => ((am_pA 0 v1 x1 h).bind fun v3 => ((am_vR (am_pG 3098 x0 h)).bind fun v5 => ((am_pA 0 v5 x2 h).bind fun v7 => (if ¬ v3 = v7 then (fg_548_20 N x0 x1 x2 0 h) else (fg_548_20 N x0 x1 x2 1 h))))))
theorem rg_548_0 {X : am_X} {d : Nat} {N : Nat} {lv : am_LV} (x0 : Value) (x1 : Int32) (x2 : Int32) (h : am_H) (o : am_O) (l0 : lv.lookup 0 = some x0) (l1 : lv.lookup 1 = some (.int x1)) (l2 : lv.lookup 2 = some (.int x2)) (i0 : am_isR x0 = true) (hs : fg_548_0 N x0 x1 x2 h = some o) : am_W X (d) 548 0 lv [] h (fun q => q = o) := by
  unfold fg_548_0 at hs
  refine aw_vload_n (pc1 := 1) at_548_0 l0 i0 rfl ?_
  obtain ⟨v1, e2, hs1⟩ := am_bind hs
  clear hs
  refine aw_pG (pc1 := 4) at_548_1 (am_vR_s e2).1 rfl ?_
  refine aw_iload_n (pc1 := 5) at_548_4 l1 rfl ?_
  obtain ⟨v3, e4, hs2⟩ := am_bind hs1
  clear hs1
  refine aw_pA (pc1 := 6) at_548_5 (Or.inl ⟨rfl, rfl⟩) e4 rfl ?_
  refine aw_vload_n (pc1 := 7) at_548_6 l0 i0 rfl ?_
  obtain ⟨v5, e6, hs3⟩ := am_bind hs2
  clear hs2
  refine aw_pG (pc1 := 10) at_548_7 (am_vR_s e6).1 rfl ?_
  refine aw_iload_n (pc1 := 11) at_548_10 l2 rfl ?_
  obtain ⟨v7, e8, hs4⟩ := am_bind hs3
  clear hs3
  refine aw_pA (pc1 := 12) at_548_11 (Or.inl ⟨rfl, rfl⟩) e8 rfl ?_
  by_cases c9 : ¬ v3 = v7
  · rw [if_pos c9] at hs4
    refine aw_icne_t at_548_12 c9 ?_
    refine aw_iconst (v := 0) (pc1 := 20) at_548_19 (by decide) rfl ?_
    exact rg_548_20 x0 x1 x2 0 h o l0 l1 l2 i0 hs4
  · rw [if_neg c9] at hs4
    refine aw_icne_f (pc1 := 15) at_548_12 c9 rfl ?_
    refine aw_iconst (v := 1) (pc1 := 16) at_548_15 (by decide) rfl ?_
    refine aw_goto at_548_16 ?_
    exact rg_548_20 x0 x1 x2 1 h o l0 l1 l2 i0 hs4
def fm_548 (N : Nat) (y0 : Value) (y1 : Int32) (y2 : Int32) (h : am_H) : Option am_O := fg_548_0 N y0 y1 y2 h
theorem rm_548 {X : am_X} {d : Nat} {N : Nat} (y0 : Value) (y1 : Int32) (y2 : Int32) (h : am_H) (o : am_O) (i0 : am_isR y0 = true) (hs : fm_548 N y0 y1 y2 h = some o) : am_W X (d) 548 0 (am_args 0 [y0, .int y1, .int y2]) [] h (fun q => q = o) := by
  rw [am_args_R i0, am_args_I, am_args_I]
  exact rg_548_0 y0 y1 y2 h o rfl rfl rfl i0 hs
def fg_546_59 (N : Nat) (s0 : Int32) (h : am_H) : Option am_O := (if am_rfit (some FieldType.boolean) s0 then some (.inl (some (.int s0), h)) else none)
theorem rg_546_59 {X : am_X} {d : Nat} {N : Nat} {lv : am_LV} (s0 : Int32) (h : am_H) (o : am_O) (hs : fg_546_59 N s0 h = some o) : am_W X (d + 3) 546 59 lv [(.int s0)] h (fun q => q = o) := by
  unfold fg_546_59 at hs
  obtain ⟨z1, hs1⟩ := am_ift hs
  clear hs
  cases hs1
  exact aw_iret at_546_59 (by rw [rt_546]; exact z1) rfl
def fg_546_58 (N : Nat) (h : am_H) : Option am_O := (fg_546_59 N 0 h)
theorem rg_546_58 {X : am_X} {d : Nat} {N : Nat} {lv : am_LV} (h : am_H) (o : am_O) (hs : fg_546_58 N h = some o) : am_W X (d + 3) 546 58 lv [] h (fun q => q = o) := by
  unfold fg_546_58 at hs
  refine aw_iconst (v := 0) (pc1 := 59) at_546_58 (by decide) rfl ?_
  exact rg_546_59 0 h o   hs
def fg_546_0 (N : Nat) (x0 : Value) (x1 : Int32) (h : am_H) : Option am_O := ((am_vR (am_pG 3093 x0 h)).bind fun v1 => ((am_pA 0 v1 x1 h).bind fun v3 => (if ¬ v3 = 20 then (fg_546_58 N h) else (if am_pOk 12 x0 h then am_cI true (fm_547 N x0 ((x1 + 1)) h) (fun v7 h8 => (if v7 = 0 then (fg_546_58 N h8) else (if am_pOk 12 x0 h8 then am_cI true (fm_393 N x0 x1 1 h8) (fun v12 h13 => (if am_pOk 12 x0 h13 then am_cI true (fm_393 N x0 x1 2 h13) (fun v16 h17 => (if am_pOk 12 x0 h17 then am_cI true (fm_548 N x0 v12 v16 h17) (fun v20 h21 => (if v20 = 0 then (fg_546_58 N h21) else (if am_pOk 12 x0 h21 then am_cI true (fm_393 N x0 x1 1 h21) (fun v25 h26 => (if am_pOk 12 x0 h26 then am_cI true (fm_543 N x0 x1 v25 h26) (fun v29 h30 => (if v29 = 0 then (fg_546_58 N h30) else (fg_546_59 N 1 h30))) else none)) else none))) else none)) else none)) else none))) else none))))
theorem rg_546_0 {X : am_X} {d : Nat} {N : Nat} {lv : am_LV} (x0 : Value) (x1 : Int32) (h : am_H) (o : am_O) (l0 : lv.lookup 0 = some x0) (l1 : lv.lookup 1 = some (.int x1)) (i0 : am_isR x0 = true) (hs : fg_546_0 N x0 x1 h = some o) : am_W X (d + 3) 546 0 lv [] h (fun q => q = o) := by
  unfold fg_546_0 at hs
  refine aw_vload_n (pc1 := 1) at_546_0 l0 i0 rfl ?_
  obtain ⟨v1, e2, hs1⟩ := am_bind hs
  clear hs
  refine aw_pG (pc1 := 4) at_546_1 (am_vR_s e2).1 rfl ?_
  refine aw_iload_n (pc1 := 5) at_546_4 l1 rfl ?_
  obtain ⟨v3, e4, hs2⟩ := am_bind hs1
  clear hs1
  refine aw_pA (pc1 := 6) at_546_5 (Or.inl ⟨rfl, rfl⟩) e4 rfl ?_
  refine aw_bipush (v := 20) (pc1 := 8) at_546_6 (by decide) rfl ?_
  by_cases c5 : ¬ v3 = 20
  · rw [if_pos c5] at hs2
    refine aw_icne_t at_546_8 c5 ?_
    exact rg_546_58 h o   hs2
  · rw [if_neg c5] at hs2
    refine aw_icne_f (pc1 := 11) at_546_8 c5 rfl ?_
    refine aw_vload_n (pc1 := 12) at_546_11 l0 i0 rfl ?_
    refine aw_iload_n (pc1 := 13) at_546_12 l1 rfl ?_
    refine aw_iconst (v := 1) (pc1 := 14) at_546_13 (by decide) rfl ?_
    refine aw_iadd (v := (x1 + 1)) (pc1 := 15) at_546_14 rfl rfl ?_
    obtain ⟨z6, hs3⟩ := am_ift hs2
    clear hs2
    refine aw_call (F := fm_547 N x0 ((x1 + 1)) h) (t := true) (na := 2) (kd := 1) (as := [x0, (.int (x1 + 1))]) at_546_15 (am_k3v kb_547) mn_547 mk_547 rfl rfl (am_ok_v mi_547 (am_hl rfl (am_ccR i0 (am_ccI am_cats_0)) rfl) z6) (am_hc am_cats_0 rfl) (fun _ => ⟨rfl, hh_546⟩) (fun o1 hz9 => rm_547 x0 ((x1 + 1)) h o1 i0 hz9) ?_
    rcases am_cI_s hs3 with ⟨v7, h8, f9, hs4⟩ | hs4
    · clear hs3
      refine Or.inl ⟨_, _, f9, ?_⟩
      show am_W X _ 546 18 _ [(.int v7)] h8 _
      by_cases c10 : v7 = 0
      · rw [if_pos c10] at hs4
        refine aw_ifeq_t at_546_18 c10 ?_
        exact rg_546_58 h8 o   hs4
      · rw [if_neg c10] at hs4
        refine aw_ifeq_f (pc1 := 21) at_546_18 c10 rfl ?_
        refine aw_vload_n (pc1 := 22) at_546_21 l0 i0 rfl ?_
        refine aw_vload_n (pc1 := 23) at_546_22 l0 i0 rfl ?_
        refine aw_iload_n (pc1 := 24) at_546_23 l1 rfl ?_
        refine aw_iconst (v := 1) (pc1 := 25) at_546_24 (by decide) rfl ?_
        obtain ⟨z11, hs5⟩ := am_ift hs4
        clear hs4
        refine aw_call (F := fm_393 N x0 x1 1 h8) (t := true) (na := 3) (kd := 1) (as := [x0, (.int x1), (.int 1)]) at_546_25 (am_k3v kb_393) mn_393 mk_393 rfl rfl (am_ok_v mi_393 (am_hl rfl (am_ccR i0 (am_ccI (am_ccI am_cats_0))) rfl) z11) (am_hc (am_ccR i0 am_cats_0) rfl) (fun _ => ⟨rfl, hh_546⟩) (fun o1 hz9 => rm_393 x0 x1 1 h8 o1 i0 hz9) ?_
        rcases am_cI_s hs5 with ⟨v12, h13, f14, hs6⟩ | hs6
        · clear hs5
          refine Or.inl ⟨_, _, f14, ?_⟩
          show am_W X _ 546 28 _ [(.int v12), x0] h13 _
          refine aw_vload_n (pc1 := 29) at_546_28 l0 i0 rfl ?_
          refine aw_iload_n (pc1 := 30) at_546_29 l1 rfl ?_
          refine aw_iconst (v := 2) (pc1 := 31) at_546_30 (by decide) rfl ?_
          obtain ⟨z15, hs7⟩ := am_ift hs6
          clear hs6
          refine aw_call (F := fm_393 N x0 x1 2 h13) (t := true) (na := 3) (kd := 1) (as := [x0, (.int x1), (.int 2)]) at_546_31 (am_k3v kb_393) mn_393 mk_393 rfl rfl (am_ok_v mi_393 (am_hl rfl (am_ccR i0 (am_ccI (am_ccI am_cats_0))) rfl) z15) (am_hc (am_ccI (am_ccR i0 am_cats_0)) rfl) (fun _ => ⟨rfl, hh_546⟩) (fun o1 hz9 => rm_393 x0 x1 2 h13 o1 i0 hz9) ?_
          rcases am_cI_s hs7 with ⟨v16, h17, f18, hs8⟩ | hs8
          · clear hs7
            refine Or.inl ⟨_, _, f18, ?_⟩
            show am_W X _ 546 34 _ [(.int v16), (.int v12), x0] h17 _
            obtain ⟨z19, hs9⟩ := am_ift hs8
            clear hs8
            refine aw_call (F := fm_548 N x0 v12 v16 h17) (t := true) (na := 3) (kd := 1) (as := [x0, (.int v12), (.int v16)]) at_546_34 (am_k3v kb_548) mn_548 mk_548 rfl rfl (am_ok_v mi_548 (am_hl rfl (am_ccR i0 (am_ccI (am_ccI am_cats_0))) rfl) z19) (am_hc am_cats_0 rfl) (fun _ => ⟨rfl, hh_546⟩) (fun o1 hz9 => rm_548 x0 v12 v16 h17 o1 i0 hz9) ?_
            rcases am_cI_s hs9 with ⟨v20, h21, f22, hs10⟩ | hs10
            · clear hs9
              refine Or.inl ⟨_, _, f22, ?_⟩
              show am_W X _ 546 37 _ [(.int v20)] h21 _
              by_cases c23 : v20 = 0
              · rw [if_pos c23] at hs10
                refine aw_ifeq_t at_546_37 c23 ?_
                exact rg_546_58 h21 o   hs10
              · rw [if_neg c23] at hs10
                refine aw_ifeq_f (pc1 := 40) at_546_37 c23 rfl ?_
                refine aw_vload_n (pc1 := 41) at_546_40 l0 i0 rfl ?_
                refine aw_iload_n (pc1 := 42) at_546_41 l1 rfl ?_
                refine aw_vload_n (pc1 := 43) at_546_42 l0 i0 rfl ?_
                refine aw_iload_n (pc1 := 44) at_546_43 l1 rfl ?_
                refine aw_iconst (v := 1) (pc1 := 45) at_546_44 (by decide) rfl ?_
                obtain ⟨z24, hs11⟩ := am_ift hs10
                clear hs10
                refine aw_call (F := fm_393 N x0 x1 1 h21) (t := true) (na := 3) (kd := 1) (as := [x0, (.int x1), (.int 1)]) at_546_45 (am_k3v kb_393) mn_393 mk_393 rfl rfl (am_ok_v mi_393 (am_hl rfl (am_ccR i0 (am_ccI (am_ccI am_cats_0))) rfl) z24) (am_hc (am_ccI (am_ccR i0 am_cats_0)) rfl) (fun _ => ⟨rfl, hh_546⟩) (fun o1 hz9 => rm_393 x0 x1 1 h21 o1 i0 hz9) ?_
                rcases am_cI_s hs11 with ⟨v25, h26, f27, hs12⟩ | hs12
                · clear hs11
                  refine Or.inl ⟨_, _, f27, ?_⟩
                  show am_W X _ 546 48 _ [(.int v25), (.int x1), x0] h26 _
                  obtain ⟨z28, hs13⟩ := am_ift hs12
                  clear hs12
                  refine aw_call (F := fm_543 N x0 x1 v25 h26) (t := true) (na := 3) (kd := 1) (as := [x0, (.int x1), (.int v25)]) at_546_48 (am_k3v kb_543) mn_543 mk_543 rfl rfl (am_ok_v mi_543 (am_hl rfl (am_ccR i0 (am_ccI (am_ccI am_cats_0))) rfl) z28) (am_hc am_cats_0 rfl) (fun _ => ⟨rfl, hh_546⟩) (fun o1 hz9 => rm_543 x0 x1 v25 h26 o1 i0 hz9) ?_
                  rcases am_cI_s hs13 with ⟨v29, h30, f31, hs14⟩ | hs14
                  · clear hs13
                    refine Or.inl ⟨_, _, f31, ?_⟩
                    show am_W X _ 546 51 _ [(.int v29)] h30 _
                    by_cases c32 : v29 = 0
                    · rw [if_pos c32] at hs14
                      refine aw_ifeq_t at_546_51 c32 ?_
                      exact rg_546_58 h30 o   hs14
                    · rw [if_neg c32] at hs14
                      refine aw_ifeq_f (pc1 := 54) at_546_51 c32 rfl ?_
                      refine aw_iconst (v := 1) (pc1 := 55) at_546_54 (by decide) rfl ?_
                      refine aw_goto at_546_55 ?_
                      exact rg_546_59 1 h30 o   hs14
                  · clear hs13
                    exact Or.inr hs14
                · clear hs11
                  exact Or.inr hs12
            · clear hs9
              exact Or.inr hs10
          · clear hs7
            exact Or.inr hs8
        · clear hs5
          exact Or.inr hs6
    · clear hs3
      exact Or.inr hs4
def fm_546 (N : Nat) (y0 : Value) (y1 : Int32) (h : am_H) : Option am_O := fg_546_0 N y0 y1 h
theorem rm_546 {X : am_X} {d : Nat} {N : Nat} (y0 : Value) (y1 : Int32) (h : am_H) (o : am_O) (i0 : am_isR y0 = true) (hs : fm_546 N y0 y1 h = some o) : am_W X (d + 3) 546 0 (am_args 0 [y0, .int y1]) [] h (fun q => q = o) := by
  rw [am_args_R i0, am_args_I]
  exact rg_546_0 y0 y1 h o rfl rfl i0 hs
def fg_549_147 (N : Nat) (s0 : Int32) (h : am_H) : Option am_O := (if am_rfit (some FieldType.boolean) s0 then some (.inl (some (.int s0), h)) else none)
theorem rg_549_147 {X : am_X} {d : Nat} {N : Nat} {lv : am_LV} (s0 : Int32) (h : am_H) (o : am_O) (hs : fg_549_147 N s0 h = some o) : am_W X (d + 3) 549 147 lv [(.int s0)] h (fun q => q = o) := by
  unfold fg_549_147 at hs
  obtain ⟨z1, hs1⟩ := am_ift hs
  clear hs
  cases hs1
  exact aw_iret at_549_147 (by rw [rt_549]; exact z1) rfl
def fg_549_146 (N : Nat) (h : am_H) : Option am_O := (fg_549_147 N 0 h)
theorem rg_549_146 {X : am_X} {d : Nat} {N : Nat} {lv : am_LV} (h : am_H) (o : am_O) (hs : fg_549_146 N h = some o) : am_W X (d + 3) 549 146 lv [] h (fun q => q = o) := by
  unfold fg_549_146 at hs
  refine aw_iconst (v := 0) (pc1 := 147) at_549_146 (by decide) rfl ?_
  exact rg_549_147 0 h o   hs
def fg_549_133 (N : Nat) (s0 : Value) (s1 : Int32) (s2 : Value) (s3 : Int32) (s4 : Int32) (h : am_H) : Option am_O := (if am_pOk 12 s2 h then am_cI true (fm_393 N s2 s3 s4 h) (fun v2 h3 => (if am_pOk 12 s0 h3 then am_cI true (fm_543 N s0 s1 v2 h3) (fun v6 h7 => (if v6 = 0 then (fg_549_146 N h7) else (fg_549_147 N 1 h7))) else none)) else none)
theorem rg_549_133 {X : am_X} {d : Nat} {N : Nat} {lv : am_LV} (s0 : Value) (s1 : Int32) (s2 : Value) (s3 : Int32) (s4 : Int32) (h : am_H) (o : am_O) (j0 : am_isR s0 = true) (j2 : am_isR s2 = true) (hs : fg_549_133 N s0 s1 s2 s3 s4 h = some o) : am_W X (d + 3) 549 133 lv [(.int s4), (.int s3), s2, (.int s1), s0] h (fun q => q = o) := by
  unfold fg_549_133 at hs
  obtain ⟨z1, hs1⟩ := am_ift hs
  clear hs
  refine aw_call (F := fm_393 N s2 s3 s4 h) (t := true) (na := 3) (kd := 1) (as := [s2, (.int s3), (.int s4)]) at_549_133 (am_k3v kb_393) mn_393 mk_393 rfl rfl (am_ok_v mi_393 (am_hl rfl (am_ccR j2 (am_ccI (am_ccI am_cats_0))) rfl) z1) (am_hc (am_ccI (am_ccR j0 am_cats_0)) rfl) (fun _ => ⟨rfl, hh_549⟩) (fun o1 hz9 => rm_393 s2 s3 s4 h o1 j2 hz9) ?_
  rcases am_cI_s hs1 with ⟨v2, h3, f4, hs2⟩ | hs2
  · clear hs1
    refine Or.inl ⟨_, _, f4, ?_⟩
    show am_W X _ 549 136 _ [(.int v2), (.int s1), s0] h3 _
    obtain ⟨z5, hs3⟩ := am_ift hs2
    clear hs2
    refine aw_call (F := fm_543 N s0 s1 v2 h3) (t := true) (na := 3) (kd := 1) (as := [s0, (.int s1), (.int v2)]) at_549_136 (am_k3v kb_543) mn_543 mk_543 rfl rfl (am_ok_v mi_543 (am_hl rfl (am_ccR j0 (am_ccI (am_ccI am_cats_0))) rfl) z5) (am_hc am_cats_0 rfl) (fun _ => ⟨rfl, hh_549⟩) (fun o1 hz9 => rm_543 s0 s1 v2 h3 o1 j0 hz9) ?_
    rcases am_cI_s hs3 with ⟨v6, h7, f8, hs4⟩ | hs4
    · clear hs3
      refine Or.inl ⟨_, _, f8, ?_⟩
      show am_W X _ 549 139 _ [(.int v6)] h7 _
      by_cases c9 : v6 = 0
      · rw [if_pos c9] at hs4
        refine aw_ifeq_t at_549_139 c9 ?_
        exact rg_549_146 h7 o   hs4
      · rw [if_neg c9] at hs4
        refine aw_ifeq_f (pc1 := 142) at_549_139 c9 rfl ?_
        refine aw_iconst (v := 1) (pc1 := 143) at_549_142 (by decide) rfl ?_
        refine aw_goto at_549_143 ?_
        exact rg_549_147 1 h7 o   hs4
    · clear hs3
      exact Or.inr hs4
  · clear hs1
    exact Or.inr hs2
def fg_549_87 (N : Nat) (x0 : Value) (x1 : Int32) (x2 : Int32) (h : am_H) : Option am_O := (if am_pOk 12 x0 h then am_cI true (fm_547 N x0 ((x2 + 1)) h) (fun v2 h3 => (if v2 = 0 then (fg_549_146 N h3) else (if am_pOk 12 x0 h3 then am_cI true (fm_393 N x0 x2 1 h3) (fun v7 h8 => (if am_pOk 12 x0 h8 then am_cI true (fm_548 N x0 ((x2 + 1)) v7 h8) (fun v11 h12 => (if v11 = 0 then (fg_549_146 N h12) else ((am_vR (am_pG 3093 x0 h12)).bind fun v15 => ((am_pA 0 v15 x2 h12).bind fun v17 => (if ¬ v17 = 16 then (fg_549_133 N x0 x1 x0 x1 2 h12) else (fg_549_133 N x0 x1 x0 x1 1 h12)))))) else none)) else none))) else none)
theorem rg_549_87 {X : am_X} {d : Nat} {N : Nat} {lv : am_LV} (x0 : Value) (x1 : Int32) (x2 : Int32) (h : am_H) (o : am_O) (l0 : lv.lookup 0 = some x0) (l1 : lv.lookup 1 = some (.int x1)) (l2 : lv.lookup 2 = some (.int x2)) (i0 : am_isR x0 = true) (hs : fg_549_87 N x0 x1 x2 h = some o) : am_W X (d + 3) 549 87 lv [] h (fun q => q = o) := by
  unfold fg_549_87 at hs
  refine aw_vload_n (pc1 := 88) at_549_87 l0 i0 rfl ?_
  refine aw_iload_n (pc1 := 89) at_549_88 l2 rfl ?_
  refine aw_iconst (v := 1) (pc1 := 90) at_549_89 (by decide) rfl ?_
  refine aw_iadd (v := (x2 + 1)) (pc1 := 91) at_549_90 rfl rfl ?_
  obtain ⟨z1, hs1⟩ := am_ift hs
  clear hs
  refine aw_call (F := fm_547 N x0 ((x2 + 1)) h) (t := true) (na := 2) (kd := 1) (as := [x0, (.int (x2 + 1))]) at_549_91 (am_k3v kb_547) mn_547 mk_547 rfl rfl (am_ok_v mi_547 (am_hl rfl (am_ccR i0 (am_ccI am_cats_0)) rfl) z1) (am_hc am_cats_0 rfl) (fun _ => ⟨rfl, hh_549⟩) (fun o1 hz9 => rm_547 x0 ((x2 + 1)) h o1 i0 hz9) ?_
  rcases am_cI_s hs1 with ⟨v2, h3, f4, hs2⟩ | hs2
  · clear hs1
    refine Or.inl ⟨_, _, f4, ?_⟩
    show am_W X _ 549 94 _ [(.int v2)] h3 _
    by_cases c5 : v2 = 0
    · rw [if_pos c5] at hs2
      refine aw_ifeq_t at_549_94 c5 ?_
      exact rg_549_146 h3 o   hs2
    · rw [if_neg c5] at hs2
      refine aw_ifeq_f (pc1 := 97) at_549_94 c5 rfl ?_
      refine aw_vload_n (pc1 := 98) at_549_97 l0 i0 rfl ?_
      refine aw_iload_n (pc1 := 99) at_549_98 l2 rfl ?_
      refine aw_iconst (v := 1) (pc1 := 100) at_549_99 (by decide) rfl ?_
      refine aw_iadd (v := (x2 + 1)) (pc1 := 101) at_549_100 rfl rfl ?_
      refine aw_vload_n (pc1 := 102) at_549_101 l0 i0 rfl ?_
      refine aw_iload_n (pc1 := 103) at_549_102 l2 rfl ?_
      refine aw_iconst (v := 1) (pc1 := 104) at_549_103 (by decide) rfl ?_
      obtain ⟨z6, hs3⟩ := am_ift hs2
      clear hs2
      refine aw_call (F := fm_393 N x0 x2 1 h3) (t := true) (na := 3) (kd := 1) (as := [x0, (.int x2), (.int 1)]) at_549_104 (am_k3v kb_393) mn_393 mk_393 rfl rfl (am_ok_v mi_393 (am_hl rfl (am_ccR i0 (am_ccI (am_ccI am_cats_0))) rfl) z6) (am_hc (am_ccI (am_ccR i0 am_cats_0)) rfl) (fun _ => ⟨rfl, hh_549⟩) (fun o1 hz9 => rm_393 x0 x2 1 h3 o1 i0 hz9) ?_
      rcases am_cI_s hs3 with ⟨v7, h8, f9, hs4⟩ | hs4
      · clear hs3
        refine Or.inl ⟨_, _, f9, ?_⟩
        show am_W X _ 549 107 _ [(.int v7), (.int (x2 + 1)), x0] h8 _
        obtain ⟨z10, hs5⟩ := am_ift hs4
        clear hs4
        refine aw_call (F := fm_548 N x0 ((x2 + 1)) v7 h8) (t := true) (na := 3) (kd := 1) (as := [x0, (.int (x2 + 1)), (.int v7)]) at_549_107 (am_k3v kb_548) mn_548 mk_548 rfl rfl (am_ok_v mi_548 (am_hl rfl (am_ccR i0 (am_ccI (am_ccI am_cats_0))) rfl) z10) (am_hc am_cats_0 rfl) (fun _ => ⟨rfl, hh_549⟩) (fun o1 hz9 => rm_548 x0 ((x2 + 1)) v7 h8 o1 i0 hz9) ?_
        rcases am_cI_s hs5 with ⟨v11, h12, f13, hs6⟩ | hs6
        · clear hs5
          refine Or.inl ⟨_, _, f13, ?_⟩
          show am_W X _ 549 110 _ [(.int v11)] h12 _
          by_cases c14 : v11 = 0
          · rw [if_pos c14] at hs6
            refine aw_ifeq_t at_549_110 c14 ?_
            exact rg_549_146 h12 o   hs6
          · rw [if_neg c14] at hs6
            refine aw_ifeq_f (pc1 := 113) at_549_110 c14 rfl ?_
            refine aw_vload_n (pc1 := 114) at_549_113 l0 i0 rfl ?_
            refine aw_iload_n (pc1 := 115) at_549_114 l1 rfl ?_
            refine aw_vload_n (pc1 := 116) at_549_115 l0 i0 rfl ?_
            refine aw_iload_n (pc1 := 117) at_549_116 l1 rfl ?_
            refine aw_vload_n (pc1 := 118) at_549_117 l0 i0 rfl ?_
            obtain ⟨v15, e16, hs7⟩ := am_bind hs6
            clear hs6
            refine aw_pG (pc1 := 121) at_549_118 (am_vR_s e16).1 rfl ?_
            refine aw_iload_n (pc1 := 122) at_549_121 l2 rfl ?_
            obtain ⟨v17, e18, hs8⟩ := am_bind hs7
            clear hs7
            refine aw_pA (pc1 := 123) at_549_122 (Or.inl ⟨rfl, rfl⟩) e18 rfl ?_
            refine aw_bipush (v := 16) (pc1 := 125) at_549_123 (by decide) rfl ?_
            by_cases c19 : ¬ v17 = 16
            · rw [if_pos c19] at hs8
              refine aw_icne_t at_549_125 c19 ?_
              refine aw_iconst (v := 2) (pc1 := 133) at_549_132 (by decide) rfl ?_
              exact rg_549_133 x0 x1 x0 x1 2 h12 o  i0 i0 hs8
            · rw [if_neg c19] at hs8
              refine aw_icne_f (pc1 := 128) at_549_125 c19 rfl ?_
              refine aw_iconst (v := 1) (pc1 := 129) at_549_128 (by decide) rfl ?_
              refine aw_goto at_549_129 ?_
              exact rg_549_133 x0 x1 x0 x1 1 h12 o  i0 i0 hs8
        · clear hs5
          exact Or.inr hs6
      · clear hs3
        exact Or.inr hs4
  · clear hs1
    exact Or.inr hs2
def fg_549_85 (N : Nat) (h : am_H) : Option am_O := some (.inl (some (.int 0), h))
theorem rg_549_85 {X : am_X} {d : Nat} {N : Nat} {lv : am_LV} (h : am_H) (o : am_O) (hs : fg_549_85 N h = some o) : am_W X (d + 3) 549 85 lv [] h (fun q => q = o) := by
  unfold fg_549_85 at hs
  refine aw_iconst (v := 0) (pc1 := 86) at_549_85 (by decide) rfl ?_
  cases hs
  exact aw_iret at_549_86 (by rw [rt_549]; decide) rfl
def fg_549_51 (N : Nat) (s0 : Int32) (h : am_H) : Option am_O := (if am_rfit (some FieldType.boolean) s0 then some (.inl (some (.int s0), h)) else none)
theorem rg_549_51 {X : am_X} {d : Nat} {N : Nat} {lv : am_LV} (s0 : Int32) (h : am_H) (o : am_O) (hs : fg_549_51 N s0 h = some o) : am_W X (d + 3) 549 51 lv [(.int s0)] h (fun q => q = o) := by
  unfold fg_549_51 at hs
  obtain ⟨z1, hs1⟩ := am_ift hs
  clear hs
  cases hs1
  exact aw_iret at_549_51 (by rw [rt_549]; exact z1) rfl
def fg_549_50 (N : Nat) (h : am_H) : Option am_O := (fg_549_51 N 0 h)
theorem rg_549_50 {X : am_X} {d : Nat} {N : Nat} {lv : am_LV} (h : am_H) (o : am_O) (hs : fg_549_50 N h = some o) : am_W X (d + 3) 549 50 lv [] h (fun q => q = o) := by
  unfold fg_549_50 at hs
  refine aw_iconst (v := 0) (pc1 := 51) at_549_50 (by decide) rfl ?_
  exact rg_549_51 0 h o   hs
def fg_549_0 (N : Nat) (x0 : Value) (x1 : Int32) (h : am_H) : Option am_O := ((am_vR (am_pG 3093 x0 h)).bind fun v1 => ((am_pA 0 v1 x1 h).bind fun v3 => (if ¬ v3 = 11 then ((am_vR (am_pG 3093 x0 h)).bind fun v6 => ((am_pA 0 v6 x1 h).bind fun v8 => (if ¬ v8 = 20 then (fg_549_85 N h) else ((am_vR (am_pG 3093 x0 h)).bind fun v11 => ((am_pA 0 v11 (x1 + 1) h).bind fun v13 => (if v13 = 15 then (fg_549_87 N x0 x1 ((x1 + 1)) h) else ((am_vR (am_pG 3093 x0 h)).bind fun v16 => ((am_pA 0 v16 (x1 + 1) h).bind fun v18 => (if v18 = 16 then (fg_549_87 N x0 x1 ((x1 + 1)) h) else (fg_549_85 N h)))))))))) else (if am_pOk 12 x0 h then am_cI true (fm_547 N x0 ((x1 + 1)) h) (fun v22 h23 => (if v22 = 0 then (fg_549_50 N h23) else (if am_pOk 12 x0 h23 then am_cI true (fm_393 N x0 x1 1 h23) (fun v27 h28 => (if am_pOk 12 x0 h28 then am_cI true (fm_548 N x0 ((x1 + 1)) v27 h28) (fun v31 h32 => (if v31 = 0 then (fg_549_50 N h32) else (if am_pOk 12 x0 h32 then am_cI true (fm_540 N x0 x1 0 h32) (fun v36 h37 => (if v36 = 0 then (fg_549_50 N h37) else (fg_549_51 N 1 h37))) else none))) else none)) else none))) else none))))
theorem rg_549_0 {X : am_X} {d : Nat} {N : Nat} {lv : am_LV} (x0 : Value) (x1 : Int32) (h : am_H) (o : am_O) (l0 : lv.lookup 0 = some x0) (l1 : lv.lookup 1 = some (.int x1)) (i0 : am_isR x0 = true) (hs : fg_549_0 N x0 x1 h = some o) : am_W X (d + 3) 549 0 lv [] h (fun q => q = o) := by
  unfold fg_549_0 at hs
  refine aw_iload_n (pc1 := 1) at_549_0 l1 rfl ?_
  refine aw_iconst (v := 1) (pc1 := 2) at_549_1 (by decide) rfl ?_
  refine aw_iadd (v := (x1 + 1)) (pc1 := 3) at_549_2 rfl rfl ?_
  refine aw_istore_n (lv1 := am_put1 _ 2 _) (pc1 := 4) at_549_3 rfl rfl ?_
  refine aw_vload_n (pc1 := 5) at_549_4 (am_lk1 l0 rfl rfl) i0 rfl ?_
  obtain ⟨v1, e2, hs1⟩ := am_bind hs
  clear hs
  refine aw_pG (pc1 := 8) at_549_5 (am_vR_s e2).1 rfl ?_
  refine aw_iload_n (pc1 := 9) at_549_8 (am_lk1 l1 rfl rfl) rfl ?_
  obtain ⟨v3, e4, hs2⟩ := am_bind hs1
  clear hs1
  refine aw_pA (pc1 := 10) at_549_9 (Or.inl ⟨rfl, rfl⟩) e4 rfl ?_
  refine aw_bipush (v := 11) (pc1 := 12) at_549_10 (by decide) rfl ?_
  by_cases c5 : ¬ v3 = 11
  · rw [if_pos c5] at hs2
    refine aw_icne_t at_549_12 c5 ?_
    refine aw_vload_n (pc1 := 53) at_549_52 (am_lk1 l0 rfl rfl) i0 rfl ?_
    obtain ⟨v6, e7, hs3⟩ := am_bind hs2
    clear hs2
    refine aw_pG (pc1 := 56) at_549_53 (am_vR_s e7).1 rfl ?_
    refine aw_iload_n (pc1 := 57) at_549_56 (am_lk1 l1 rfl rfl) rfl ?_
    obtain ⟨v8, e9, hs4⟩ := am_bind hs3
    clear hs3
    refine aw_pA (pc1 := 58) at_549_57 (Or.inl ⟨rfl, rfl⟩) e9 rfl ?_
    refine aw_bipush (v := 20) (pc1 := 60) at_549_58 (by decide) rfl ?_
    by_cases c10 : ¬ v8 = 20
    · rw [if_pos c10] at hs4
      refine aw_icne_t at_549_60 c10 ?_
      exact rg_549_85 h o   hs4
    · rw [if_neg c10] at hs4
      refine aw_icne_f (pc1 := 63) at_549_60 c10 rfl ?_
      refine aw_vload_n (pc1 := 64) at_549_63 (am_lk1 l0 rfl rfl) i0 rfl ?_
      obtain ⟨v11, e12, hs5⟩ := am_bind hs4
      clear hs4
      refine aw_pG (pc1 := 67) at_549_64 (am_vR_s e12).1 rfl ?_
      refine aw_iload_n (pc1 := 68) at_549_67 am_lk0 rfl ?_
      obtain ⟨v13, e14, hs6⟩ := am_bind hs5
      clear hs5
      refine aw_pA (pc1 := 69) at_549_68 (Or.inl ⟨rfl, rfl⟩) e14 rfl ?_
      refine aw_bipush (v := 15) (pc1 := 71) at_549_69 (by decide) rfl ?_
      by_cases c15 : v13 = 15
      · rw [if_pos c15] at hs6
        refine aw_iceq_t at_549_71 c15 ?_
        exact rg_549_87 x0 x1 ((x1 + 1)) h o (am_lk1 l0 rfl rfl) (am_lk1 l1 rfl rfl) am_lk0 i0 hs6
      · rw [if_neg c15] at hs6
        refine aw_iceq_f (pc1 := 74) at_549_71 c15 rfl ?_
        refine aw_vload_n (pc1 := 75) at_549_74 (am_lk1 l0 rfl rfl) i0 rfl ?_
        obtain ⟨v16, e17, hs7⟩ := am_bind hs6
        clear hs6
        refine aw_pG (pc1 := 78) at_549_75 (am_vR_s e17).1 rfl ?_
        refine aw_iload_n (pc1 := 79) at_549_78 am_lk0 rfl ?_
        obtain ⟨v18, e19, hs8⟩ := am_bind hs7
        clear hs7
        refine aw_pA (pc1 := 80) at_549_79 (Or.inl ⟨rfl, rfl⟩) e19 rfl ?_
        refine aw_bipush (v := 16) (pc1 := 82) at_549_80 (by decide) rfl ?_
        by_cases c20 : v18 = 16
        · rw [if_pos c20] at hs8
          refine aw_iceq_t at_549_82 c20 ?_
          exact rg_549_87 x0 x1 ((x1 + 1)) h o (am_lk1 l0 rfl rfl) (am_lk1 l1 rfl rfl) am_lk0 i0 hs8
        · rw [if_neg c20] at hs8
          refine aw_iceq_f (pc1 := 85) at_549_82 c20 rfl ?_
          exact rg_549_85 h o   hs8
  · rw [if_neg c5] at hs2
    refine aw_icne_f (pc1 := 15) at_549_12 c5 rfl ?_
    refine aw_vload_n (pc1 := 16) at_549_15 (am_lk1 l0 rfl rfl) i0 rfl ?_
    refine aw_iload_n (pc1 := 17) at_549_16 am_lk0 rfl ?_
    obtain ⟨z21, hs9⟩ := am_ift hs2
    clear hs2
    refine aw_call (F := fm_547 N x0 ((x1 + 1)) h) (t := true) (na := 2) (kd := 1) (as := [x0, (.int (x1 + 1))]) at_549_17 (am_k3v kb_547) mn_547 mk_547 rfl rfl (am_ok_v mi_547 (am_hl rfl (am_ccR i0 (am_ccI am_cats_0)) rfl) z21) (am_hc am_cats_0 rfl) (fun _ => ⟨rfl, hh_549⟩) (fun o1 hz9 => rm_547 x0 ((x1 + 1)) h o1 i0 hz9) ?_
    rcases am_cI_s hs9 with ⟨v22, h23, f24, hs10⟩ | hs10
    · clear hs9
      refine Or.inl ⟨_, _, f24, ?_⟩
      show am_W X _ 549 20 _ [(.int v22)] h23 _
      by_cases c25 : v22 = 0
      · rw [if_pos c25] at hs10
        refine aw_ifeq_t at_549_20 c25 ?_
        exact rg_549_50 h23 o   hs10
      · rw [if_neg c25] at hs10
        refine aw_ifeq_f (pc1 := 23) at_549_20 c25 rfl ?_
        refine aw_vload_n (pc1 := 24) at_549_23 (am_lk1 l0 rfl rfl) i0 rfl ?_
        refine aw_iload_n (pc1 := 25) at_549_24 am_lk0 rfl ?_
        refine aw_vload_n (pc1 := 26) at_549_25 (am_lk1 l0 rfl rfl) i0 rfl ?_
        refine aw_iload_n (pc1 := 27) at_549_26 (am_lk1 l1 rfl rfl) rfl ?_
        refine aw_iconst (v := 1) (pc1 := 28) at_549_27 (by decide) rfl ?_
        obtain ⟨z26, hs11⟩ := am_ift hs10
        clear hs10
        refine aw_call (F := fm_393 N x0 x1 1 h23) (t := true) (na := 3) (kd := 1) (as := [x0, (.int x1), (.int 1)]) at_549_28 (am_k3v kb_393) mn_393 mk_393 rfl rfl (am_ok_v mi_393 (am_hl rfl (am_ccR i0 (am_ccI (am_ccI am_cats_0))) rfl) z26) (am_hc (am_ccI (am_ccR i0 am_cats_0)) rfl) (fun _ => ⟨rfl, hh_549⟩) (fun o1 hz9 => rm_393 x0 x1 1 h23 o1 i0 hz9) ?_
        rcases am_cI_s hs11 with ⟨v27, h28, f29, hs12⟩ | hs12
        · clear hs11
          refine Or.inl ⟨_, _, f29, ?_⟩
          show am_W X _ 549 31 _ [(.int v27), (.int (x1 + 1)), x0] h28 _
          obtain ⟨z30, hs13⟩ := am_ift hs12
          clear hs12
          refine aw_call (F := fm_548 N x0 ((x1 + 1)) v27 h28) (t := true) (na := 3) (kd := 1) (as := [x0, (.int (x1 + 1)), (.int v27)]) at_549_31 (am_k3v kb_548) mn_548 mk_548 rfl rfl (am_ok_v mi_548 (am_hl rfl (am_ccR i0 (am_ccI (am_ccI am_cats_0))) rfl) z30) (am_hc am_cats_0 rfl) (fun _ => ⟨rfl, hh_549⟩) (fun o1 hz9 => rm_548 x0 ((x1 + 1)) v27 h28 o1 i0 hz9) ?_
          rcases am_cI_s hs13 with ⟨v31, h32, f33, hs14⟩ | hs14
          · clear hs13
            refine Or.inl ⟨_, _, f33, ?_⟩
            show am_W X _ 549 34 _ [(.int v31)] h32 _
            by_cases c34 : v31 = 0
            · rw [if_pos c34] at hs14
              refine aw_ifeq_t at_549_34 c34 ?_
              exact rg_549_50 h32 o   hs14
            · rw [if_neg c34] at hs14
              refine aw_ifeq_f (pc1 := 37) at_549_34 c34 rfl ?_
              refine aw_vload_n (pc1 := 38) at_549_37 (am_lk1 l0 rfl rfl) i0 rfl ?_
              refine aw_iload_n (pc1 := 39) at_549_38 (am_lk1 l1 rfl rfl) rfl ?_
              refine aw_iconst (v := 0) (pc1 := 40) at_549_39 (by decide) rfl ?_
              obtain ⟨z35, hs15⟩ := am_ift hs14
              clear hs14
              refine aw_call (F := fm_540 N x0 x1 0 h32) (t := true) (na := 3) (kd := 1) (as := [x0, (.int x1), (.int 0)]) at_549_40 (am_k3v kb_540) mn_540 mk_540 rfl rfl (am_ok_v mi_540 (am_hl rfl (am_ccR i0 (am_ccI (am_ccI am_cats_0))) rfl) z35) (am_hc am_cats_0 rfl) (fun _ => ⟨rfl, hh_549⟩) (fun o1 hz9 => rm_540 x0 x1 0 h32 o1 i0 hz9) ?_
              rcases am_cI_s hs15 with ⟨v36, h37, f38, hs16⟩ | hs16
              · clear hs15
                refine Or.inl ⟨_, _, f38, ?_⟩
                show am_W X _ 549 43 _ [(.int v36)] h37 _
                by_cases c39 : v36 = 0
                · rw [if_pos c39] at hs16
                  refine aw_ifeq_t at_549_43 c39 ?_
                  exact rg_549_50 h37 o   hs16
                · rw [if_neg c39] at hs16
                  refine aw_ifeq_f (pc1 := 46) at_549_43 c39 rfl ?_
                  refine aw_iconst (v := 1) (pc1 := 47) at_549_46 (by decide) rfl ?_
                  refine aw_goto at_549_47 ?_
                  exact rg_549_51 1 h37 o   hs16
              · clear hs15
                exact Or.inr hs16
          · clear hs13
            exact Or.inr hs14
        · clear hs11
          exact Or.inr hs12
    · clear hs9
      exact Or.inr hs10
def fm_549 (N : Nat) (y0 : Value) (y1 : Int32) (h : am_H) : Option am_O := fg_549_0 N y0 y1 h
theorem rm_549 {X : am_X} {d : Nat} {N : Nat} (y0 : Value) (y1 : Int32) (h : am_H) (o : am_O) (i0 : am_isR y0 = true) (hs : fm_549 N y0 y1 h = some o) : am_W X (d + 3) 549 0 (am_args 0 [y0, .int y1]) [] h (fun q => q = o) := by
  rw [am_args_R i0, am_args_I]
  exact rg_549_0 y0 y1 h o rfl rfl i0 hs
def fg_550_26 (N : Nat) (h : am_H) : Option am_O := some (.inl (some (.int 0), h))
theorem rg_550_26 {X : am_X} {d : Nat} {N : Nat} {lv : am_LV} (h : am_H) (o : am_O) (hs : fg_550_26 N h = some o) : am_W X (d + 2) 550 26 lv [] h (fun q => q = o) := by
  unfold fg_550_26 at hs
  refine aw_iconst (v := 0) (pc1 := 27) at_550_26 (by decide) rfl ?_
  cases hs
  exact aw_iret at_550_27 (by rw [rt_550]; decide) rfl
def fg_550_0 (N : Nat) (x0 : Value) (x1 : Int32) (h : am_H) : Option am_O := ((am_vR (am_pG 3093 x0 h)).bind fun v1 => ((am_pA 0 v1 x1 h).bind fun v3 => (if ¬ v3 = 20 then (fg_550_26 N h) else ((am_vR (am_pG 3093 x0 h)).bind fun v6 => ((am_pA 0 v6 (x1 + 1) h).bind fun v8 => (if v8 = 9 then (if am_pOk 12 x0 h then am_cI true (fm_393 N x0 x1 1 h) (fun v12 h13 => (if am_pOk 12 x0 h13 then am_cI true (fm_393 N x0 x1 2 h13) (fun v16 h17 => (if am_pOk 12 x0 h17 then am_cV true (fm_451 x0 h17) (fun h21 => (if am_pOk 12 x0 h21 then am_cV true (fm_443 N x0 0 ((x1 + 1)) h21) (fun h25 => ((am_vR (am_pG 3098 x0 h25)).bind fun v27 => ((am_pA 0 v27 ((x1 + 1) + 1) h25).bind fun v29 => (if am_pOk 12 x0 h25 then am_cV true (fm_443 N x0 (((x1 + 1) + 1)) ((((x1 + 1) + 1) + v29)) h25) (fun h33 => ((am_vR (am_pG 3098 x0 h33)).bind fun v35 => ((am_pA 0 v35 v16 h33).bind fun v37 => (if am_pOk 12 x0 h33 then am_cV true (fm_443 N x0 v16 ((v16 + v37)) h33) (fun h41 => ((am_vR (am_pG 3098 x0 h41)).bind fun v43 => ((am_pA 0 v43 v12 h41).bind fun v45 => (if am_pOk 12 x0 h41 then am_cV true (fm_443 N x0 v12 ((v12 + v45)) h41) (fun h49 => ((am_vR (am_pG 3098 x0 h49)).bind fun v51 => ((am_pA 0 v51 x1 h49).bind fun v53 => ((am_vI (am_pG 3090 x0 h49)).bind fun v55 => (if am_pOk 12 x0 h49 then am_cV true (fm_443 N x0 ((x1 + v53)) v55 h49) (fun h59 => some (.inl (some (.int 1), h59))) else none))))) else none)))) else none)))) else none)))) else none)) else none)) else none)) else none) else (fg_550_26 N h)))))))
theorem rg_550_0 {X : am_X} {d : Nat} {N : Nat} {lv : am_LV} (x0 : Value) (x1 : Int32) (h : am_H) (o : am_O) (l0 : lv.lookup 0 = some x0) (l1 : lv.lookup 1 = some (.int x1)) (i0 : am_isR x0 = true) (hs : fg_550_0 N x0 x1 h = some o) : am_W X (d + 2) 550 0 lv [] h (fun q => q = o) := by
  unfold fg_550_0 at hs
  refine aw_iload_n (pc1 := 1) at_550_0 l1 rfl ?_
  refine aw_iconst (v := 1) (pc1 := 2) at_550_1 (by decide) rfl ?_
  refine aw_iadd (v := (x1 + 1)) (pc1 := 3) at_550_2 rfl rfl ?_
  refine aw_istore_n (lv1 := am_put1 _ 2 _) (pc1 := 4) at_550_3 rfl rfl ?_
  refine aw_vload_n (pc1 := 5) at_550_4 (am_lk1 l0 rfl rfl) i0 rfl ?_
  obtain ⟨v1, e2, hs1⟩ := am_bind hs
  clear hs
  refine aw_pG (pc1 := 8) at_550_5 (am_vR_s e2).1 rfl ?_
  refine aw_iload_n (pc1 := 9) at_550_8 (am_lk1 l1 rfl rfl) rfl ?_
  obtain ⟨v3, e4, hs2⟩ := am_bind hs1
  clear hs1
  refine aw_pA (pc1 := 10) at_550_9 (Or.inl ⟨rfl, rfl⟩) e4 rfl ?_
  refine aw_bipush (v := 20) (pc1 := 12) at_550_10 (by decide) rfl ?_
  by_cases c5 : ¬ v3 = 20
  · rw [if_pos c5] at hs2
    refine aw_icne_t at_550_12 c5 ?_
    exact rg_550_26 h o   hs2
  · rw [if_neg c5] at hs2
    refine aw_icne_f (pc1 := 15) at_550_12 c5 rfl ?_
    refine aw_vload_n (pc1 := 16) at_550_15 (am_lk1 l0 rfl rfl) i0 rfl ?_
    obtain ⟨v6, e7, hs3⟩ := am_bind hs2
    clear hs2
    refine aw_pG (pc1 := 19) at_550_16 (am_vR_s e7).1 rfl ?_
    refine aw_iload_n (pc1 := 20) at_550_19 am_lk0 rfl ?_
    obtain ⟨v8, e9, hs4⟩ := am_bind hs3
    clear hs3
    refine aw_pA (pc1 := 21) at_550_20 (Or.inl ⟨rfl, rfl⟩) e9 rfl ?_
    refine aw_bipush (v := 9) (pc1 := 23) at_550_21 (by decide) rfl ?_
    by_cases c10 : v8 = 9
    · rw [if_pos c10] at hs4
      refine aw_iceq_t at_550_23 c10 ?_
      refine aw_vload_n (pc1 := 29) at_550_28 (am_lk1 l0 rfl rfl) i0 rfl ?_
      refine aw_iload_n (pc1 := 30) at_550_29 (am_lk1 l1 rfl rfl) rfl ?_
      refine aw_iconst (v := 1) (pc1 := 31) at_550_30 (by decide) rfl ?_
      obtain ⟨z11, hs5⟩ := am_ift hs4
      clear hs4
      refine aw_call (F := fm_393 N x0 x1 1 h) (t := true) (na := 3) (kd := 1) (as := [x0, (.int x1), (.int 1)]) at_550_31 (am_k3v kb_393) mn_393 mk_393 rfl rfl (am_ok_v mi_393 (am_hl rfl (am_ccR i0 (am_ccI (am_ccI am_cats_0))) rfl) z11) (am_hc am_cats_0 rfl) (fun _ => ⟨rfl, hh_550⟩) (fun o1 hz9 => rm_393 x0 x1 1 h o1 i0 hz9) ?_
      rcases am_cI_s hs5 with ⟨v12, h13, f14, hs6⟩ | hs6
      · clear hs5
        refine Or.inl ⟨_, _, f14, ?_⟩
        show am_W X _ 550 34 _ [(.int v12)] h13 _
        refine aw_istore_n (lv1 := am_put1 _ 3 _) (pc1 := 35) at_550_34 rfl rfl ?_
        refine aw_vload_n (pc1 := 36) at_550_35 (am_lk1 (am_lk1 l0 rfl rfl) rfl rfl) i0 rfl ?_
        refine aw_iload_n (pc1 := 37) at_550_36 (am_lk1 (am_lk1 l1 rfl rfl) rfl rfl) rfl ?_
        refine aw_iconst (v := 2) (pc1 := 38) at_550_37 (by decide) rfl ?_
        obtain ⟨z15, hs7⟩ := am_ift hs6
        clear hs6
        refine aw_call (F := fm_393 N x0 x1 2 h13) (t := true) (na := 3) (kd := 1) (as := [x0, (.int x1), (.int 2)]) at_550_38 (am_k3v kb_393) mn_393 mk_393 rfl rfl (am_ok_v mi_393 (am_hl rfl (am_ccR i0 (am_ccI (am_ccI am_cats_0))) rfl) z15) (am_hc am_cats_0 rfl) (fun _ => ⟨rfl, hh_550⟩) (fun o1 hz9 => rm_393 x0 x1 2 h13 o1 i0 hz9) ?_
        rcases am_cI_s hs7 with ⟨v16, h17, f18, hs8⟩ | hs8
        · clear hs7
          refine Or.inl ⟨_, _, f18, ?_⟩
          show am_W X _ 550 41 _ [(.int v16)] h17 _
          refine aw_istore (lv1 := am_put1 _ 4 _) (pc1 := 43) at_550_41 rfl rfl ?_
          refine aw_vload_n (pc1 := 44) at_550_43 (am_lk1 (am_lk1 (am_lk1 l0 rfl rfl) rfl rfl) rfl rfl) i0 rfl ?_
          obtain ⟨z19, hs9⟩ := am_ift hs8
          clear hs8
          refine aw_call (F := fm_451 x0 h17) (t := true) (na := 1) (kd := 1) (as := [x0]) at_550_44 (am_k3v kb_451) mn_451 mk_451 rfl rfl (am_ok_v mi_451 (am_hl rfl (am_ccR i0 am_cats_0) rfl) z19) (am_hc am_cats_0 rfl) (fun _ => ⟨rfl, hh_550⟩) (fun o1 hz9 => rm_451 x0 h17 o1 i0 hz9) ?_
          rcases am_cV_s hs9 with ⟨h21, f22, hs10⟩ | hs10
          · clear hs9
            refine Or.inl ⟨_, _, f22, ?_⟩
            show am_W X _ 550 47 _ [] h21 _
            refine aw_vload_n (pc1 := 48) at_550_47 (am_lk1 (am_lk1 (am_lk1 l0 rfl rfl) rfl rfl) rfl rfl) i0 rfl ?_
            refine aw_iconst (v := 0) (pc1 := 49) at_550_48 (by decide) rfl ?_
            refine aw_iload_n (pc1 := 50) at_550_49 (am_lk1 (am_lk1 (am_lk1 l1 rfl rfl) rfl rfl) rfl rfl) rfl ?_
            refine aw_iconst (v := 1) (pc1 := 51) at_550_50 (by decide) rfl ?_
            refine aw_iadd (v := (x1 + 1)) (pc1 := 52) at_550_51 rfl rfl ?_
            obtain ⟨z23, hs11⟩ := am_ift hs10
            clear hs10
            refine aw_call (F := fm_443 N x0 0 ((x1 + 1)) h21) (t := true) (na := 3) (kd := 1) (as := [x0, (.int 0), (.int (x1 + 1))]) at_550_52 (am_k3v kb_443) mn_443 mk_443 rfl rfl (am_ok_v mi_443 (am_hl rfl (am_ccR i0 (am_ccI (am_ccI am_cats_0))) rfl) z23) (am_hc am_cats_0 rfl) (fun _ => ⟨rfl, hh_550⟩) (fun o1 hz9 => rm_443 x0 0 ((x1 + 1)) h21 o1 i0 hz9) ?_
            rcases am_cV_s hs11 with ⟨h25, f26, hs12⟩ | hs12
            · clear hs11
              refine Or.inl ⟨_, _, f26, ?_⟩
              show am_W X _ 550 55 _ [] h25 _
              refine aw_vload_n (pc1 := 56) at_550_55 (am_lk1 (am_lk1 (am_lk1 l0 rfl rfl) rfl rfl) rfl rfl) i0 rfl ?_
              refine aw_iload_n (pc1 := 57) at_550_56 (am_lk1 (am_lk1 am_lk0 rfl rfl) rfl rfl) rfl ?_
              refine aw_iconst (v := 1) (pc1 := 58) at_550_57 (by decide) rfl ?_
              refine aw_iadd (v := ((x1 + 1) + 1)) (pc1 := 59) at_550_58 rfl rfl ?_
              refine aw_iload_n (pc1 := 60) at_550_59 (am_lk1 (am_lk1 am_lk0 rfl rfl) rfl rfl) rfl ?_
              refine aw_iconst (v := 1) (pc1 := 61) at_550_60 (by decide) rfl ?_
              refine aw_iadd (v := ((x1 + 1) + 1)) (pc1 := 62) at_550_61 rfl rfl ?_
              refine aw_vload_n (pc1 := 63) at_550_62 (am_lk1 (am_lk1 (am_lk1 l0 rfl rfl) rfl rfl) rfl rfl) i0 rfl ?_
              obtain ⟨v27, e28, hs13⟩ := am_bind hs12
              clear hs12
              refine aw_pG (pc1 := 66) at_550_63 (am_vR_s e28).1 rfl ?_
              refine aw_iload_n (pc1 := 67) at_550_66 (am_lk1 (am_lk1 am_lk0 rfl rfl) rfl rfl) rfl ?_
              refine aw_iconst (v := 1) (pc1 := 68) at_550_67 (by decide) rfl ?_
              refine aw_iadd (v := ((x1 + 1) + 1)) (pc1 := 69) at_550_68 rfl rfl ?_
              obtain ⟨v29, e30, hs14⟩ := am_bind hs13
              clear hs13
              refine aw_pA (pc1 := 70) at_550_69 (Or.inl ⟨rfl, rfl⟩) e30 rfl ?_
              refine aw_iadd (v := (((x1 + 1) + 1) + v29)) (pc1 := 71) at_550_70 rfl rfl ?_
              obtain ⟨z31, hs15⟩ := am_ift hs14
              clear hs14
              refine aw_call (F := fm_443 N x0 (((x1 + 1) + 1)) ((((x1 + 1) + 1) + v29)) h25) (t := true) (na := 3) (kd := 1) (as := [x0, (.int ((x1 + 1) + 1)), (.int (((x1 + 1) + 1) + v29))]) at_550_71 (am_k3v kb_443) mn_443 mk_443 rfl rfl (am_ok_v mi_443 (am_hl rfl (am_ccR i0 (am_ccI (am_ccI am_cats_0))) rfl) z31) (am_hc am_cats_0 rfl) (fun _ => ⟨rfl, hh_550⟩) (fun o1 hz9 => rm_443 x0 (((x1 + 1) + 1)) ((((x1 + 1) + 1) + v29)) h25 o1 i0 hz9) ?_
              rcases am_cV_s hs15 with ⟨h33, f34, hs16⟩ | hs16
              · clear hs15
                refine Or.inl ⟨_, _, f34, ?_⟩
                show am_W X _ 550 74 _ [] h33 _
                refine aw_vload_n (pc1 := 75) at_550_74 (am_lk1 (am_lk1 (am_lk1 l0 rfl rfl) rfl rfl) rfl rfl) i0 rfl ?_
                refine aw_iload (pc1 := 77) at_550_75 am_lk0 rfl ?_
                refine aw_iload (pc1 := 79) at_550_77 am_lk0 rfl ?_
                refine aw_vload_n (pc1 := 80) at_550_79 (am_lk1 (am_lk1 (am_lk1 l0 rfl rfl) rfl rfl) rfl rfl) i0 rfl ?_
                obtain ⟨v35, e36, hs17⟩ := am_bind hs16
                clear hs16
                refine aw_pG (pc1 := 83) at_550_80 (am_vR_s e36).1 rfl ?_
                refine aw_iload (pc1 := 85) at_550_83 am_lk0 rfl ?_
                obtain ⟨v37, e38, hs18⟩ := am_bind hs17
                clear hs17
                refine aw_pA (pc1 := 86) at_550_85 (Or.inl ⟨rfl, rfl⟩) e38 rfl ?_
                refine aw_iadd (v := (v16 + v37)) (pc1 := 87) at_550_86 rfl rfl ?_
                obtain ⟨z39, hs19⟩ := am_ift hs18
                clear hs18
                refine aw_call (F := fm_443 N x0 v16 ((v16 + v37)) h33) (t := true) (na := 3) (kd := 1) (as := [x0, (.int v16), (.int (v16 + v37))]) at_550_87 (am_k3v kb_443) mn_443 mk_443 rfl rfl (am_ok_v mi_443 (am_hl rfl (am_ccR i0 (am_ccI (am_ccI am_cats_0))) rfl) z39) (am_hc am_cats_0 rfl) (fun _ => ⟨rfl, hh_550⟩) (fun o1 hz9 => rm_443 x0 v16 ((v16 + v37)) h33 o1 i0 hz9) ?_
                rcases am_cV_s hs19 with ⟨h41, f42, hs20⟩ | hs20
                · clear hs19
                  refine Or.inl ⟨_, _, f42, ?_⟩
                  show am_W X _ 550 90 _ [] h41 _
                  refine aw_vload_n (pc1 := 91) at_550_90 (am_lk1 (am_lk1 (am_lk1 l0 rfl rfl) rfl rfl) rfl rfl) i0 rfl ?_
                  refine aw_iload_n (pc1 := 92) at_550_91 (am_lk1 am_lk0 rfl rfl) rfl ?_
                  refine aw_iload_n (pc1 := 93) at_550_92 (am_lk1 am_lk0 rfl rfl) rfl ?_
                  refine aw_vload_n (pc1 := 94) at_550_93 (am_lk1 (am_lk1 (am_lk1 l0 rfl rfl) rfl rfl) rfl rfl) i0 rfl ?_
                  obtain ⟨v43, e44, hs21⟩ := am_bind hs20
                  clear hs20
                  refine aw_pG (pc1 := 97) at_550_94 (am_vR_s e44).1 rfl ?_
                  refine aw_iload_n (pc1 := 98) at_550_97 (am_lk1 am_lk0 rfl rfl) rfl ?_
                  obtain ⟨v45, e46, hs22⟩ := am_bind hs21
                  clear hs21
                  refine aw_pA (pc1 := 99) at_550_98 (Or.inl ⟨rfl, rfl⟩) e46 rfl ?_
                  refine aw_iadd (v := (v12 + v45)) (pc1 := 100) at_550_99 rfl rfl ?_
                  obtain ⟨z47, hs23⟩ := am_ift hs22
                  clear hs22
                  refine aw_call (F := fm_443 N x0 v12 ((v12 + v45)) h41) (t := true) (na := 3) (kd := 1) (as := [x0, (.int v12), (.int (v12 + v45))]) at_550_100 (am_k3v kb_443) mn_443 mk_443 rfl rfl (am_ok_v mi_443 (am_hl rfl (am_ccR i0 (am_ccI (am_ccI am_cats_0))) rfl) z47) (am_hc am_cats_0 rfl) (fun _ => ⟨rfl, hh_550⟩) (fun o1 hz9 => rm_443 x0 v12 ((v12 + v45)) h41 o1 i0 hz9) ?_
                  rcases am_cV_s hs23 with ⟨h49, f50, hs24⟩ | hs24
                  · clear hs23
                    refine Or.inl ⟨_, _, f50, ?_⟩
                    show am_W X _ 550 103 _ [] h49 _
                    refine aw_vload_n (pc1 := 104) at_550_103 (am_lk1 (am_lk1 (am_lk1 l0 rfl rfl) rfl rfl) rfl rfl) i0 rfl ?_
                    refine aw_iload_n (pc1 := 105) at_550_104 (am_lk1 (am_lk1 (am_lk1 l1 rfl rfl) rfl rfl) rfl rfl) rfl ?_
                    refine aw_vload_n (pc1 := 106) at_550_105 (am_lk1 (am_lk1 (am_lk1 l0 rfl rfl) rfl rfl) rfl rfl) i0 rfl ?_
                    obtain ⟨v51, e52, hs25⟩ := am_bind hs24
                    clear hs24
                    refine aw_pG (pc1 := 109) at_550_106 (am_vR_s e52).1 rfl ?_
                    refine aw_iload_n (pc1 := 110) at_550_109 (am_lk1 (am_lk1 (am_lk1 l1 rfl rfl) rfl rfl) rfl rfl) rfl ?_
                    obtain ⟨v53, e54, hs26⟩ := am_bind hs25
                    clear hs25
                    refine aw_pA (pc1 := 111) at_550_110 (Or.inl ⟨rfl, rfl⟩) e54 rfl ?_
                    refine aw_iadd (v := (x1 + v53)) (pc1 := 112) at_550_111 rfl rfl ?_
                    refine aw_vload_n (pc1 := 113) at_550_112 (am_lk1 (am_lk1 (am_lk1 l0 rfl rfl) rfl rfl) rfl rfl) i0 rfl ?_
                    obtain ⟨v55, e56, hs27⟩ := am_bind hs26
                    clear hs26
                    refine aw_pG (pc1 := 116) at_550_113 (am_vI_s e56) rfl ?_
                    obtain ⟨z57, hs28⟩ := am_ift hs27
                    clear hs27
                    refine aw_call (F := fm_443 N x0 ((x1 + v53)) v55 h49) (t := true) (na := 3) (kd := 1) (as := [x0, (.int (x1 + v53)), (.int v55)]) at_550_116 (am_k3v kb_443) mn_443 mk_443 rfl rfl (am_ok_v mi_443 (am_hl rfl (am_ccR i0 (am_ccI (am_ccI am_cats_0))) rfl) z57) (am_hc am_cats_0 rfl) (fun _ => ⟨rfl, hh_550⟩) (fun o1 hz9 => rm_443 x0 ((x1 + v53)) v55 h49 o1 i0 hz9) ?_
                    rcases am_cV_s hs28 with ⟨h59, f60, hs29⟩ | hs29
                    · clear hs28
                      refine Or.inl ⟨_, _, f60, ?_⟩
                      show am_W X _ 550 119 _ [] h59 _
                      refine aw_iconst (v := 1) (pc1 := 120) at_550_119 (by decide) rfl ?_
                      cases hs29
                      exact aw_iret at_550_120 (by rw [rt_550]; decide) rfl
                    · clear hs28
                      exact Or.inr hs29
                  · clear hs23
                    exact Or.inr hs24
                · clear hs19
                  exact Or.inr hs20
              · clear hs15
                exact Or.inr hs16
            · clear hs11
              exact Or.inr hs12
          · clear hs9
            exact Or.inr hs10
        · clear hs7
          exact Or.inr hs8
      · clear hs5
        exact Or.inr hs6
    · rw [if_neg c10] at hs4
      refine aw_iceq_f (pc1 := 26) at_550_23 c10 rfl ?_
      exact rg_550_26 h o   hs4
def fm_550 (N : Nat) (y0 : Value) (y1 : Int32) (h : am_H) : Option am_O := fg_550_0 N y0 y1 h
theorem rm_550 {X : am_X} {d : Nat} {N : Nat} (y0 : Value) (y1 : Int32) (h : am_H) (o : am_O) (i0 : am_isR y0 = true) (hs : fm_550 N y0 y1 h = some o) : am_W X (d + 2) 550 0 (am_args 0 [y0, .int y1]) [] h (fun q => q = o) := by
  rw [am_args_R i0, am_args_I]
  exact rg_550_0 y0 y1 h o rfl rfl i0 hs
def fg_551_72 (N : Nat) (s0 : Int32) (h : am_H) : Option am_O := (if am_rfit (some FieldType.boolean) s0 then some (.inl (some (.int s0), h)) else none)
theorem rg_551_72 {X : am_X} {d : Nat} {N : Nat} {lv : am_LV} (s0 : Int32) (h : am_H) (o : am_O) (hs : fg_551_72 N s0 h = some o) : am_W X (d + 3) 551 72 lv [(.int s0)] h (fun q => q = o) := by
  unfold fg_551_72 at hs
  obtain ⟨z1, hs1⟩ := am_ift hs
  clear hs
  cases hs1
  exact aw_iret at_551_72 (by rw [rt_551]; exact z1) rfl
def fg_551_71 (N : Nat) (h : am_H) : Option am_O := (fg_551_72 N 0 h)
theorem rg_551_71 {X : am_X} {d : Nat} {N : Nat} {lv : am_LV} (h : am_H) (o : am_O) (hs : fg_551_71 N h = some o) : am_W X (d + 3) 551 71 lv [] h (fun q => q = o) := by
  unfold fg_551_71 at hs
  refine aw_iconst (v := 0) (pc1 := 72) at_551_71 (by decide) rfl ?_
  exact rg_551_72 0 h o   hs
def fg_551_58 (N : Nat) (x0 : Value) (x1 : Int32) (h : am_H) : Option am_O := (if am_pOk 12 x0 h then am_cI true (fm_540 N x0 x1 0 h) (fun v2 h3 => (if v2 = 0 then (fg_551_71 N h3) else (fg_551_72 N 1 h3))) else none)
theorem rg_551_58 {X : am_X} {d : Nat} {N : Nat} {lv : am_LV} (x0 : Value) (x1 : Int32) (h : am_H) (o : am_O) (l0 : lv.lookup 0 = some x0) (l1 : lv.lookup 1 = some (.int x1)) (i0 : am_isR x0 = true) (hs : fg_551_58 N x0 x1 h = some o) : am_W X (d + 3) 551 58 lv [] h (fun q => q = o) := by
  unfold fg_551_58 at hs
  refine aw_vload_n (pc1 := 59) at_551_58 l0 i0 rfl ?_
  refine aw_iload_n (pc1 := 60) at_551_59 l1 rfl ?_
  refine aw_iconst (v := 0) (pc1 := 61) at_551_60 (by decide) rfl ?_
  obtain ⟨z1, hs1⟩ := am_ift hs
  clear hs
  refine aw_call (F := fm_540 N x0 x1 0 h) (t := true) (na := 3) (kd := 1) (as := [x0, (.int x1), (.int 0)]) at_551_61 (am_k3v kb_540) mn_540 mk_540 rfl rfl (am_ok_v mi_540 (am_hl rfl (am_ccR i0 (am_ccI (am_ccI am_cats_0))) rfl) z1) (am_hc am_cats_0 rfl) (fun _ => ⟨rfl, hh_551⟩) (fun o1 hz9 => rm_540 x0 x1 0 h o1 i0 hz9) ?_
  rcases am_cI_s hs1 with ⟨v2, h3, f4, hs2⟩ | hs2
  · clear hs1
    refine Or.inl ⟨_, _, f4, ?_⟩
    show am_W X _ 551 64 _ [(.int v2)] h3 _
    by_cases c5 : v2 = 0
    · rw [if_pos c5] at hs2
      refine aw_ifeq_t at_551_64 c5 ?_
      exact rg_551_71 h3 o   hs2
    · rw [if_neg c5] at hs2
      refine aw_ifeq_f (pc1 := 67) at_551_64 c5 rfl ?_
      refine aw_iconst (v := 1) (pc1 := 68) at_551_67 (by decide) rfl ?_
      refine aw_goto at_551_68 ?_
      exact rg_551_72 1 h3 o   hs2
  · clear hs1
    exact Or.inr hs2
def fg_551_41 (N : Nat) (x0 : Value) (x1 : Int32) (x2 : Int32) (x3 : Int32) (h : am_H) : Option am_O := (if am_pOk 12 x0 h then am_cI true (fm_542 x0 x3 0 h) (fun v2 h3 => (if v2 = 0 then (fg_551_71 N h3) else (if am_pOk 12 x0 h3 then am_cI true (fm_547 N x0 x2 h3) (fun v7 h8 => (if v7 = 0 then (fg_551_71 N h8) else (fg_551_58 N x0 x1 h8))) else none))) else none)
theorem rg_551_41 {X : am_X} {d : Nat} {N : Nat} {lv : am_LV} (x0 : Value) (x1 : Int32) (x2 : Int32) (x3 : Int32) (h : am_H) (o : am_O) (l0 : lv.lookup 0 = some x0) (l1 : lv.lookup 1 = some (.int x1)) (l2 : lv.lookup 2 = some (.int x2)) (l3 : lv.lookup 3 = some (.int x3)) (i0 : am_isR x0 = true) (hs : fg_551_41 N x0 x1 x2 x3 h = some o) : am_W X (d + 3) 551 41 lv [] h (fun q => q = o) := by
  unfold fg_551_41 at hs
  refine aw_vload_n (pc1 := 42) at_551_41 l0 i0 rfl ?_
  refine aw_iload_n (pc1 := 43) at_551_42 l3 rfl ?_
  refine aw_iconst (v := 0) (pc1 := 44) at_551_43 (by decide) rfl ?_
  obtain ⟨z1, hs1⟩ := am_ift hs
  clear hs
  refine aw_call (F := fm_542 x0 x3 0 h) (t := true) (na := 3) (kd := 1) (as := [x0, (.int x3), (.int 0)]) at_551_44 (am_k3v kb_542) mn_542 mk_542 rfl rfl (am_ok_v mi_542 (am_hl rfl (am_ccR i0 (am_ccI (am_ccI am_cats_0))) rfl) z1) (am_hc am_cats_0 rfl) (fun _ => ⟨rfl, hh_551⟩) (fun o1 hz9 => rm_542 x0 x3 0 h o1 i0 hz9) ?_
  rcases am_cI_s hs1 with ⟨v2, h3, f4, hs2⟩ | hs2
  · clear hs1
    refine Or.inl ⟨_, _, f4, ?_⟩
    show am_W X _ 551 47 _ [(.int v2)] h3 _
    by_cases c5 : v2 = 0
    · rw [if_pos c5] at hs2
      refine aw_ifeq_t at_551_47 c5 ?_
      exact rg_551_71 h3 o   hs2
    · rw [if_neg c5] at hs2
      refine aw_ifeq_f (pc1 := 50) at_551_47 c5 rfl ?_
      refine aw_vload_n (pc1 := 51) at_551_50 l0 i0 rfl ?_
      refine aw_iload_n (pc1 := 52) at_551_51 l2 rfl ?_
      obtain ⟨z6, hs3⟩ := am_ift hs2
      clear hs2
      refine aw_call (F := fm_547 N x0 x2 h3) (t := true) (na := 2) (kd := 1) (as := [x0, (.int x2)]) at_551_52 (am_k3v kb_547) mn_547 mk_547 rfl rfl (am_ok_v mi_547 (am_hl rfl (am_ccR i0 (am_ccI am_cats_0)) rfl) z6) (am_hc am_cats_0 rfl) (fun _ => ⟨rfl, hh_551⟩) (fun o1 hz9 => rm_547 x0 x2 h3 o1 i0 hz9) ?_
      rcases am_cI_s hs3 with ⟨v7, h8, f9, hs4⟩ | hs4
      · clear hs3
        refine Or.inl ⟨_, _, f9, ?_⟩
        show am_W X _ 551 55 _ [(.int v7)] h8 _
        by_cases c10 : v7 = 0
        · rw [if_pos c10] at hs4
          refine aw_ifeq_t at_551_55 c10 ?_
          exact rg_551_71 h8 o   hs4
        · rw [if_neg c10] at hs4
          refine aw_ifeq_f (pc1 := 58) at_551_55 c10 rfl ?_
          exact rg_551_58 x0 x1 h8 o l0 l1 i0 hs4
      · clear hs3
        exact Or.inr hs4
  · clear hs1
    exact Or.inr hs2
def fg_551_0 (N : Nat) (x0 : Value) (x1 : Int32) (h : am_H) : Option am_O := ((am_vR (am_pG 3093 x0 h)).bind fun v1 => ((am_pA 0 v1 x1 h).bind fun v3 => (if v3 = 12 then (if am_pOk 12 x0 h then am_cI true (fm_393 N x0 x1 1 h) (fun v7 h8 => (if am_pOk 12 x0 h8 then am_cI true (fm_542 x0 ((x1 + 1)) 0 h8) (fun v11 h12 => (if v11 = 0 then (fg_551_41 N x0 x1 ((x1 + 1)) v7 h12) else (if am_pOk 12 x0 h12 then am_cI true (fm_547 N x0 v7 h12) (fun v16 h17 => (if ¬ v16 = 0 then (fg_551_58 N x0 x1 h17) else (fg_551_41 N x0 x1 ((x1 + 1)) v7 h17))) else none))) else none)) else none) else some (.inl (some (.int 0), h)))))
theorem rg_551_0 {X : am_X} {d : Nat} {N : Nat} {lv : am_LV} (x0 : Value) (x1 : Int32) (h : am_H) (o : am_O) (l0 : lv.lookup 0 = some x0) (l1 : lv.lookup 1 = some (.int x1)) (i0 : am_isR x0 = true) (hs : fg_551_0 N x0 x1 h = some o) : am_W X (d + 3) 551 0 lv [] h (fun q => q = o) := by
  unfold fg_551_0 at hs
  refine aw_vload_n (pc1 := 1) at_551_0 l0 i0 rfl ?_
  obtain ⟨v1, e2, hs1⟩ := am_bind hs
  clear hs
  refine aw_pG (pc1 := 4) at_551_1 (am_vR_s e2).1 rfl ?_
  refine aw_iload_n (pc1 := 5) at_551_4 l1 rfl ?_
  obtain ⟨v3, e4, hs2⟩ := am_bind hs1
  clear hs1
  refine aw_pA (pc1 := 6) at_551_5 (Or.inl ⟨rfl, rfl⟩) e4 rfl ?_
  refine aw_bipush (v := 12) (pc1 := 8) at_551_6 (by decide) rfl ?_
  by_cases c5 : v3 = 12
  · rw [if_pos c5] at hs2
    refine aw_iceq_t at_551_8 c5 ?_
    refine aw_iload_n (pc1 := 14) at_551_13 l1 rfl ?_
    refine aw_iconst (v := 1) (pc1 := 15) at_551_14 (by decide) rfl ?_
    refine aw_iadd (v := (x1 + 1)) (pc1 := 16) at_551_15 rfl rfl ?_
    refine aw_istore_n (lv1 := am_put1 _ 2 _) (pc1 := 17) at_551_16 rfl rfl ?_
    refine aw_vload_n (pc1 := 18) at_551_17 (am_lk1 l0 rfl rfl) i0 rfl ?_
    refine aw_iload_n (pc1 := 19) at_551_18 (am_lk1 l1 rfl rfl) rfl ?_
    refine aw_iconst (v := 1) (pc1 := 20) at_551_19 (by decide) rfl ?_
    obtain ⟨z6, hs3⟩ := am_ift hs2
    clear hs2
    refine aw_call (F := fm_393 N x0 x1 1 h) (t := true) (na := 3) (kd := 1) (as := [x0, (.int x1), (.int 1)]) at_551_20 (am_k3v kb_393) mn_393 mk_393 rfl rfl (am_ok_v mi_393 (am_hl rfl (am_ccR i0 (am_ccI (am_ccI am_cats_0))) rfl) z6) (am_hc am_cats_0 rfl) (fun _ => ⟨rfl, hh_551⟩) (fun o1 hz9 => rm_393 x0 x1 1 h o1 i0 hz9) ?_
    rcases am_cI_s hs3 with ⟨v7, h8, f9, hs4⟩ | hs4
    · clear hs3
      refine Or.inl ⟨_, _, f9, ?_⟩
      show am_W X _ 551 23 _ [(.int v7)] h8 _
      refine aw_istore_n (lv1 := am_put1 _ 3 _) (pc1 := 24) at_551_23 rfl rfl ?_
      refine aw_vload_n (pc1 := 25) at_551_24 (am_lk1 (am_lk1 l0 rfl rfl) rfl rfl) i0 rfl ?_
      refine aw_iload_n (pc1 := 26) at_551_25 (am_lk1 am_lk0 rfl rfl) rfl ?_
      refine aw_iconst (v := 0) (pc1 := 27) at_551_26 (by decide) rfl ?_
      obtain ⟨z10, hs5⟩ := am_ift hs4
      clear hs4
      refine aw_call (F := fm_542 x0 ((x1 + 1)) 0 h8) (t := true) (na := 3) (kd := 1) (as := [x0, (.int (x1 + 1)), (.int 0)]) at_551_27 (am_k3v kb_542) mn_542 mk_542 rfl rfl (am_ok_v mi_542 (am_hl rfl (am_ccR i0 (am_ccI (am_ccI am_cats_0))) rfl) z10) (am_hc am_cats_0 rfl) (fun _ => ⟨rfl, hh_551⟩) (fun o1 hz9 => rm_542 x0 ((x1 + 1)) 0 h8 o1 i0 hz9) ?_
      rcases am_cI_s hs5 with ⟨v11, h12, f13, hs6⟩ | hs6
      · clear hs5
        refine Or.inl ⟨_, _, f13, ?_⟩
        show am_W X _ 551 30 _ [(.int v11)] h12 _
        by_cases c14 : v11 = 0
        · rw [if_pos c14] at hs6
          refine aw_ifeq_t at_551_30 c14 ?_
          exact rg_551_41 x0 x1 ((x1 + 1)) v7 h12 o (am_lk1 (am_lk1 l0 rfl rfl) rfl rfl) (am_lk1 (am_lk1 l1 rfl rfl) rfl rfl) (am_lk1 am_lk0 rfl rfl) am_lk0 i0 hs6
        · rw [if_neg c14] at hs6
          refine aw_ifeq_f (pc1 := 33) at_551_30 c14 rfl ?_
          refine aw_vload_n (pc1 := 34) at_551_33 (am_lk1 (am_lk1 l0 rfl rfl) rfl rfl) i0 rfl ?_
          refine aw_iload_n (pc1 := 35) at_551_34 am_lk0 rfl ?_
          obtain ⟨z15, hs7⟩ := am_ift hs6
          clear hs6
          refine aw_call (F := fm_547 N x0 v7 h12) (t := true) (na := 2) (kd := 1) (as := [x0, (.int v7)]) at_551_35 (am_k3v kb_547) mn_547 mk_547 rfl rfl (am_ok_v mi_547 (am_hl rfl (am_ccR i0 (am_ccI am_cats_0)) rfl) z15) (am_hc am_cats_0 rfl) (fun _ => ⟨rfl, hh_551⟩) (fun o1 hz9 => rm_547 x0 v7 h12 o1 i0 hz9) ?_
          rcases am_cI_s hs7 with ⟨v16, h17, f18, hs8⟩ | hs8
          · clear hs7
            refine Or.inl ⟨_, _, f18, ?_⟩
            show am_W X _ 551 38 _ [(.int v16)] h17 _
            by_cases c19 : ¬ v16 = 0
            · rw [if_pos c19] at hs8
              refine aw_ifne_t at_551_38 c19 ?_
              exact rg_551_58 x0 x1 h17 o (am_lk1 (am_lk1 l0 rfl rfl) rfl rfl) (am_lk1 (am_lk1 l1 rfl rfl) rfl rfl) i0 hs8
            · rw [if_neg c19] at hs8
              refine aw_ifne_f (pc1 := 41) at_551_38 c19 rfl ?_
              exact rg_551_41 x0 x1 ((x1 + 1)) v7 h17 o (am_lk1 (am_lk1 l0 rfl rfl) rfl rfl) (am_lk1 (am_lk1 l1 rfl rfl) rfl rfl) (am_lk1 am_lk0 rfl rfl) am_lk0 i0 hs8
          · clear hs7
            exact Or.inr hs8
      · clear hs5
        exact Or.inr hs6
    · clear hs3
      exact Or.inr hs4
  · rw [if_neg c5] at hs2
    refine aw_iceq_f (pc1 := 11) at_551_8 c5 rfl ?_
    refine aw_iconst (v := 0) (pc1 := 12) at_551_11 (by decide) rfl ?_
    cases hs2
    exact aw_iret at_551_12 (by rw [rt_551]; decide) rfl
def fm_551 (N : Nat) (y0 : Value) (y1 : Int32) (h : am_H) : Option am_O := fg_551_0 N y0 y1 h
theorem rm_551 {X : am_X} {d : Nat} {N : Nat} (y0 : Value) (y1 : Int32) (h : am_H) (o : am_O) (i0 : am_isR y0 = true) (hs : fm_551 N y0 y1 h = some o) : am_W X (d + 3) 551 0 (am_args 0 [y0, .int y1]) [] h (fun q => q = o) := by
  rw [am_args_R i0, am_args_I]
  exact rg_551_0 y0 y1 h o rfl rfl i0 hs
def fg_552_49 (N : Nat) (s0 : Int32) (h : am_H) : Option am_O := (if am_rfit (some FieldType.boolean) s0 then some (.inl (some (.int s0), h)) else none)
theorem rg_552_49 {X : am_X} {d : Nat} {N : Nat} {lv : am_LV} (s0 : Int32) (h : am_H) (o : am_O) (hs : fg_552_49 N s0 h = some o) : am_W X (d + 3) 552 49 lv [(.int s0)] h (fun q => q = o) := by
  unfold fg_552_49 at hs
  obtain ⟨z1, hs1⟩ := am_ift hs
  clear hs
  cases hs1
  exact aw_iret at_552_49 (by rw [rt_552]; exact z1) rfl
def fg_552_48 (N : Nat) (h : am_H) : Option am_O := (fg_552_49 N 0 h)
theorem rg_552_48 {X : am_X} {d : Nat} {N : Nat} {lv : am_LV} (h : am_H) (o : am_O) (hs : fg_552_48 N h = some o) : am_W X (d + 3) 552 48 lv [] h (fun q => q = o) := by
  unfold fg_552_48 at hs
  refine aw_iconst (v := 0) (pc1 := 49) at_552_48 (by decide) rfl ?_
  exact rg_552_49 0 h o   hs
def fg_552_0 (N : Nat) (x0 : Value) (x1 : Int32) (h : am_H) : Option am_O := ((am_vR (am_pG 3093 x0 h)).bind fun v1 => ((am_pA 0 v1 x1 h).bind fun v3 => (if ¬ v3 = 14 then (fg_552_48 N h) else (if am_pOk 12 x0 h then am_cI true (fm_393 N x0 x1 1 h) (fun v7 h8 => (if am_pOk 12 x0 h8 then am_cI true (fm_542 x0 v7 1 h8) (fun v11 h12 => (if v11 = 0 then (fg_552_48 N h12) else (if am_pOk 12 x0 h12 then am_cI true (fm_547 N x0 ((x1 + 1)) h12) (fun v16 h17 => (if v16 = 0 then (fg_552_48 N h17) else (if am_pOk 12 x0 h17 then am_cI true (fm_540 N x0 x1 0 h17) (fun v21 h22 => (if v21 = 0 then (fg_552_48 N h22) else (fg_552_49 N 1 h22))) else none))) else none))) else none)) else none))))
theorem rg_552_0 {X : am_X} {d : Nat} {N : Nat} {lv : am_LV} (x0 : Value) (x1 : Int32) (h : am_H) (o : am_O) (l0 : lv.lookup 0 = some x0) (l1 : lv.lookup 1 = some (.int x1)) (i0 : am_isR x0 = true) (hs : fg_552_0 N x0 x1 h = some o) : am_W X (d + 3) 552 0 lv [] h (fun q => q = o) := by
  unfold fg_552_0 at hs
  refine aw_vload_n (pc1 := 1) at_552_0 l0 i0 rfl ?_
  obtain ⟨v1, e2, hs1⟩ := am_bind hs
  clear hs
  refine aw_pG (pc1 := 4) at_552_1 (am_vR_s e2).1 rfl ?_
  refine aw_iload_n (pc1 := 5) at_552_4 l1 rfl ?_
  obtain ⟨v3, e4, hs2⟩ := am_bind hs1
  clear hs1
  refine aw_pA (pc1 := 6) at_552_5 (Or.inl ⟨rfl, rfl⟩) e4 rfl ?_
  refine aw_bipush (v := 14) (pc1 := 8) at_552_6 (by decide) rfl ?_
  by_cases c5 : ¬ v3 = 14
  · rw [if_pos c5] at hs2
    refine aw_icne_t at_552_8 c5 ?_
    exact rg_552_48 h o   hs2
  · rw [if_neg c5] at hs2
    refine aw_icne_f (pc1 := 11) at_552_8 c5 rfl ?_
    refine aw_vload_n (pc1 := 12) at_552_11 l0 i0 rfl ?_
    refine aw_vload_n (pc1 := 13) at_552_12 l0 i0 rfl ?_
    refine aw_iload_n (pc1 := 14) at_552_13 l1 rfl ?_
    refine aw_iconst (v := 1) (pc1 := 15) at_552_14 (by decide) rfl ?_
    obtain ⟨z6, hs3⟩ := am_ift hs2
    clear hs2
    refine aw_call (F := fm_393 N x0 x1 1 h) (t := true) (na := 3) (kd := 1) (as := [x0, (.int x1), (.int 1)]) at_552_15 (am_k3v kb_393) mn_393 mk_393 rfl rfl (am_ok_v mi_393 (am_hl rfl (am_ccR i0 (am_ccI (am_ccI am_cats_0))) rfl) z6) (am_hc (am_ccR i0 am_cats_0) rfl) (fun _ => ⟨rfl, hh_552⟩) (fun o1 hz9 => rm_393 x0 x1 1 h o1 i0 hz9) ?_
    rcases am_cI_s hs3 with ⟨v7, h8, f9, hs4⟩ | hs4
    · clear hs3
      refine Or.inl ⟨_, _, f9, ?_⟩
      show am_W X _ 552 18 _ [(.int v7), x0] h8 _
      refine aw_iconst (v := 1) (pc1 := 19) at_552_18 (by decide) rfl ?_
      obtain ⟨z10, hs5⟩ := am_ift hs4
      clear hs4
      refine aw_call (F := fm_542 x0 v7 1 h8) (t := true) (na := 3) (kd := 1) (as := [x0, (.int v7), (.int 1)]) at_552_19 (am_k3v kb_542) mn_542 mk_542 rfl rfl (am_ok_v mi_542 (am_hl rfl (am_ccR i0 (am_ccI (am_ccI am_cats_0))) rfl) z10) (am_hc am_cats_0 rfl) (fun _ => ⟨rfl, hh_552⟩) (fun o1 hz9 => rm_542 x0 v7 1 h8 o1 i0 hz9) ?_
      rcases am_cI_s hs5 with ⟨v11, h12, f13, hs6⟩ | hs6
      · clear hs5
        refine Or.inl ⟨_, _, f13, ?_⟩
        show am_W X _ 552 22 _ [(.int v11)] h12 _
        by_cases c14 : v11 = 0
        · rw [if_pos c14] at hs6
          refine aw_ifeq_t at_552_22 c14 ?_
          exact rg_552_48 h12 o   hs6
        · rw [if_neg c14] at hs6
          refine aw_ifeq_f (pc1 := 25) at_552_22 c14 rfl ?_
          refine aw_vload_n (pc1 := 26) at_552_25 l0 i0 rfl ?_
          refine aw_iload_n (pc1 := 27) at_552_26 l1 rfl ?_
          refine aw_iconst (v := 1) (pc1 := 28) at_552_27 (by decide) rfl ?_
          refine aw_iadd (v := (x1 + 1)) (pc1 := 29) at_552_28 rfl rfl ?_
          obtain ⟨z15, hs7⟩ := am_ift hs6
          clear hs6
          refine aw_call (F := fm_547 N x0 ((x1 + 1)) h12) (t := true) (na := 2) (kd := 1) (as := [x0, (.int (x1 + 1))]) at_552_29 (am_k3v kb_547) mn_547 mk_547 rfl rfl (am_ok_v mi_547 (am_hl rfl (am_ccR i0 (am_ccI am_cats_0)) rfl) z15) (am_hc am_cats_0 rfl) (fun _ => ⟨rfl, hh_552⟩) (fun o1 hz9 => rm_547 x0 ((x1 + 1)) h12 o1 i0 hz9) ?_
          rcases am_cI_s hs7 with ⟨v16, h17, f18, hs8⟩ | hs8
          · clear hs7
            refine Or.inl ⟨_, _, f18, ?_⟩
            show am_W X _ 552 32 _ [(.int v16)] h17 _
            by_cases c19 : v16 = 0
            · rw [if_pos c19] at hs8
              refine aw_ifeq_t at_552_32 c19 ?_
              exact rg_552_48 h17 o   hs8
            · rw [if_neg c19] at hs8
              refine aw_ifeq_f (pc1 := 35) at_552_32 c19 rfl ?_
              refine aw_vload_n (pc1 := 36) at_552_35 l0 i0 rfl ?_
              refine aw_iload_n (pc1 := 37) at_552_36 l1 rfl ?_
              refine aw_iconst (v := 0) (pc1 := 38) at_552_37 (by decide) rfl ?_
              obtain ⟨z20, hs9⟩ := am_ift hs8
              clear hs8
              refine aw_call (F := fm_540 N x0 x1 0 h17) (t := true) (na := 3) (kd := 1) (as := [x0, (.int x1), (.int 0)]) at_552_38 (am_k3v kb_540) mn_540 mk_540 rfl rfl (am_ok_v mi_540 (am_hl rfl (am_ccR i0 (am_ccI (am_ccI am_cats_0))) rfl) z20) (am_hc am_cats_0 rfl) (fun _ => ⟨rfl, hh_552⟩) (fun o1 hz9 => rm_540 x0 x1 0 h17 o1 i0 hz9) ?_
              rcases am_cI_s hs9 with ⟨v21, h22, f23, hs10⟩ | hs10
              · clear hs9
                refine Or.inl ⟨_, _, f23, ?_⟩
                show am_W X _ 552 41 _ [(.int v21)] h22 _
                by_cases c24 : v21 = 0
                · rw [if_pos c24] at hs10
                  refine aw_ifeq_t at_552_41 c24 ?_
                  exact rg_552_48 h22 o   hs10
                · rw [if_neg c24] at hs10
                  refine aw_ifeq_f (pc1 := 44) at_552_41 c24 rfl ?_
                  refine aw_iconst (v := 1) (pc1 := 45) at_552_44 (by decide) rfl ?_
                  refine aw_goto at_552_45 ?_
                  exact rg_552_49 1 h22 o   hs10
              · clear hs9
                exact Or.inr hs10
          · clear hs7
            exact Or.inr hs8
      · clear hs5
        exact Or.inr hs6
    · clear hs3
      exact Or.inr hs4
def fm_552 (N : Nat) (y0 : Value) (y1 : Int32) (h : am_H) : Option am_O := fg_552_0 N y0 y1 h
theorem rm_552 {X : am_X} {d : Nat} {N : Nat} (y0 : Value) (y1 : Int32) (h : am_H) (o : am_O) (i0 : am_isR y0 = true) (hs : fm_552 N y0 y1 h = some o) : am_W X (d + 3) 552 0 (am_args 0 [y0, .int y1]) [] h (fun q => q = o) := by
  rw [am_args_R i0, am_args_I]
  exact rg_552_0 y0 y1 h o rfl rfl i0 hs
def fg_538_0 (N : Nat) (x0 : Value) (x1 : Int32) (x2 : Int32) (h : am_H) : Option am_O := (if x2 = 0 then (if am_pOk 12 x0 h then am_cI true (fm_539 N x0 x1 h) (fun v3 h4 => (if am_rfit (some FieldType.boolean) v3 then some (.inl (some (.int v3), h4)) else none)) else none) else (if x2 = 1 then (if am_pOk 12 x0 h then am_cI true (fm_541 N x0 x1 h) (fun v9 h10 => (if am_rfit (some FieldType.boolean) v9 then some (.inl (some (.int v9), h10)) else none)) else none) else (if x2 = 2 then (if am_pOk 12 x0 h then am_cI true (fm_544 N x0 x1 h) (fun v15 h16 => (if am_rfit (some FieldType.boolean) v15 then some (.inl (some (.int v15), h16)) else none)) else none) else (if x2 = 3 then (if am_pOk 12 x0 h then am_cI true (fm_545 N x0 x1 h) (fun v21 h22 => (if am_rfit (some FieldType.boolean) v21 then some (.inl (some (.int v21), h22)) else none)) else none) else (if x2 = 4 then (if am_pOk 12 x0 h then am_cI true (fm_546 N x0 x1 h) (fun v27 h28 => (if am_rfit (some FieldType.boolean) v27 then some (.inl (some (.int v27), h28)) else none)) else none) else (if x2 = 5 then (if am_pOk 12 x0 h then am_cI true (fm_549 N x0 x1 h) (fun v33 h34 => (if am_rfit (some FieldType.boolean) v33 then some (.inl (some (.int v33), h34)) else none)) else none) else (if x2 = 6 then (if am_pOk 12 x0 h then am_cI true (fm_550 N x0 x1 h) (fun v39 h40 => (if am_rfit (some FieldType.boolean) v39 then some (.inl (some (.int v39), h40)) else none)) else none) else (if x2 = 7 then (if am_pOk 12 x0 h then am_cI true (fm_551 N x0 x1 h) (fun v45 h46 => (if am_rfit (some FieldType.boolean) v45 then some (.inl (some (.int v45), h46)) else none)) else none) else (if am_pOk 12 x0 h then am_cI true (fm_552 N x0 x1 h) (fun v50 h51 => (if am_rfit (some FieldType.boolean) v50 then some (.inl (some (.int v50), h51)) else none)) else none)))))))))
theorem rg_538_0 {X : am_X} {d : Nat} {N : Nat} {lv : am_LV} (x0 : Value) (x1 : Int32) (x2 : Int32) (h : am_H) (o : am_O) (l0 : lv.lookup 0 = some x0) (l1 : lv.lookup 1 = some (.int x1)) (l2 : lv.lookup 2 = some (.int x2)) (i0 : am_isR x0 = true) (hs : fg_538_0 N x0 x1 x2 h = some o) : am_W X (d + 4) 538 0 lv [] h (fun q => q = o) := by
  unfold fg_538_0 at hs
  refine aw_iload_n (pc1 := 1) at_538_0 l2 rfl ?_
  by_cases c1 : x2 = 0
  · rw [if_pos c1] at hs
    refine aw_tsw (t := 48) at_538_1 (by rw [c1]; rfl) ?_
    refine aw_vload_n (pc1 := 49) at_538_48 l0 i0 rfl ?_
    refine aw_iload_n (pc1 := 50) at_538_49 l1 rfl ?_
    obtain ⟨z2, hs1⟩ := am_ift hs
    clear hs
    refine aw_call (F := fm_539 N x0 x1 h) (t := true) (na := 2) (kd := 1) (as := [x0, (.int x1)]) at_538_50 (am_k3v kb_539) mn_539 mk_539 rfl rfl (am_ok_v mi_539 (am_hl rfl (am_ccR i0 (am_ccI am_cats_0)) rfl) z2) (am_hc am_cats_0 rfl) (fun _ => ⟨rfl, hh_538⟩) (fun o1 hz9 => rm_539 x0 x1 h o1 i0 hz9) ?_
    rcases am_cI_s hs1 with ⟨v3, h4, f5, hs2⟩ | hs2
    · clear hs1
      refine Or.inl ⟨_, _, f5, ?_⟩
      show am_W X _ 538 53 _ [(.int v3)] h4 _
      obtain ⟨z6, hs3⟩ := am_ift hs2
      clear hs2
      cases hs3
      exact aw_iret at_538_53 (by rw [rt_538]; exact z6) rfl
    · clear hs1
      exact Or.inr hs2
  · rw [if_neg c1] at hs
    by_cases c7 : x2 = 1
    · rw [if_pos c7] at hs
      refine aw_tsw (t := 54) at_538_1 (by rw [c7]; rfl) ?_
      refine aw_vload_n (pc1 := 55) at_538_54 l0 i0 rfl ?_
      refine aw_iload_n (pc1 := 56) at_538_55 l1 rfl ?_
      obtain ⟨z8, hs4⟩ := am_ift hs
      clear hs
      refine aw_call (F := fm_541 N x0 x1 h) (t := true) (na := 2) (kd := 1) (as := [x0, (.int x1)]) at_538_56 (am_k3v kb_541) mn_541 mk_541 rfl rfl (am_ok_v mi_541 (am_hl rfl (am_ccR i0 (am_ccI am_cats_0)) rfl) z8) (am_hc am_cats_0 rfl) (fun _ => ⟨rfl, hh_538⟩) (fun o1 hz9 => rm_541 x0 x1 h o1 i0 hz9) ?_
      rcases am_cI_s hs4 with ⟨v9, h10, f11, hs5⟩ | hs5
      · clear hs4
        refine Or.inl ⟨_, _, f11, ?_⟩
        show am_W X _ 538 59 _ [(.int v9)] h10 _
        obtain ⟨z12, hs6⟩ := am_ift hs5
        clear hs5
        cases hs6
        exact aw_iret at_538_59 (by rw [rt_538]; exact z12) rfl
      · clear hs4
        exact Or.inr hs5
    · rw [if_neg c7] at hs
      by_cases c13 : x2 = 2
      · rw [if_pos c13] at hs
        refine aw_tsw (t := 60) at_538_1 (by rw [c13]; rfl) ?_
        refine aw_vload_n (pc1 := 61) at_538_60 l0 i0 rfl ?_
        refine aw_iload_n (pc1 := 62) at_538_61 l1 rfl ?_
        obtain ⟨z14, hs7⟩ := am_ift hs
        clear hs
        refine aw_call (F := fm_544 N x0 x1 h) (t := true) (na := 2) (kd := 1) (as := [x0, (.int x1)]) at_538_62 (am_k3v kb_544) mn_544 mk_544 rfl rfl (am_ok_v mi_544 (am_hl rfl (am_ccR i0 (am_ccI am_cats_0)) rfl) z14) (am_hc am_cats_0 rfl) (fun _ => ⟨rfl, hh_538⟩) (fun o1 hz9 => rm_544 x0 x1 h o1 i0 hz9) ?_
        rcases am_cI_s hs7 with ⟨v15, h16, f17, hs8⟩ | hs8
        · clear hs7
          refine Or.inl ⟨_, _, f17, ?_⟩
          show am_W X _ 538 65 _ [(.int v15)] h16 _
          obtain ⟨z18, hs9⟩ := am_ift hs8
          clear hs8
          cases hs9
          exact aw_iret at_538_65 (by rw [rt_538]; exact z18) rfl
        · clear hs7
          exact Or.inr hs8
      · rw [if_neg c13] at hs
        by_cases c19 : x2 = 3
        · rw [if_pos c19] at hs
          refine aw_tsw (t := 66) at_538_1 (by rw [c19]; rfl) ?_
          refine aw_vload_n (pc1 := 67) at_538_66 l0 i0 rfl ?_
          refine aw_iload_n (pc1 := 68) at_538_67 l1 rfl ?_
          obtain ⟨z20, hs10⟩ := am_ift hs
          clear hs
          refine aw_call (F := fm_545 N x0 x1 h) (t := true) (na := 2) (kd := 1) (as := [x0, (.int x1)]) at_538_68 (am_k3v kb_545) mn_545 mk_545 rfl rfl (am_ok_v mi_545 (am_hl rfl (am_ccR i0 (am_ccI am_cats_0)) rfl) z20) (am_hc am_cats_0 rfl) (fun _ => ⟨rfl, hh_538⟩) (fun o1 hz9 => rm_545 x0 x1 h o1 i0 hz9) ?_
          rcases am_cI_s hs10 with ⟨v21, h22, f23, hs11⟩ | hs11
          · clear hs10
            refine Or.inl ⟨_, _, f23, ?_⟩
            show am_W X _ 538 71 _ [(.int v21)] h22 _
            obtain ⟨z24, hs12⟩ := am_ift hs11
            clear hs11
            cases hs12
            exact aw_iret at_538_71 (by rw [rt_538]; exact z24) rfl
          · clear hs10
            exact Or.inr hs11
        · rw [if_neg c19] at hs
          by_cases c25 : x2 = 4
          · rw [if_pos c25] at hs
            refine aw_tsw (t := 72) at_538_1 (by rw [c25]; rfl) ?_
            refine aw_vload_n (pc1 := 73) at_538_72 l0 i0 rfl ?_
            refine aw_iload_n (pc1 := 74) at_538_73 l1 rfl ?_
            obtain ⟨z26, hs13⟩ := am_ift hs
            clear hs
            refine aw_call (F := fm_546 N x0 x1 h) (t := true) (na := 2) (kd := 1) (as := [x0, (.int x1)]) at_538_74 (am_k3v kb_546) mn_546 mk_546 rfl rfl (am_ok_v mi_546 (am_hl rfl (am_ccR i0 (am_ccI am_cats_0)) rfl) z26) (am_hc am_cats_0 rfl) (fun _ => ⟨rfl, hh_538⟩) (fun o1 hz9 => rm_546 x0 x1 h o1 i0 hz9) ?_
            rcases am_cI_s hs13 with ⟨v27, h28, f29, hs14⟩ | hs14
            · clear hs13
              refine Or.inl ⟨_, _, f29, ?_⟩
              show am_W X _ 538 77 _ [(.int v27)] h28 _
              obtain ⟨z30, hs15⟩ := am_ift hs14
              clear hs14
              cases hs15
              exact aw_iret at_538_77 (by rw [rt_538]; exact z30) rfl
            · clear hs13
              exact Or.inr hs14
          · rw [if_neg c25] at hs
            by_cases c31 : x2 = 5
            · rw [if_pos c31] at hs
              refine aw_tsw (t := 78) at_538_1 (by rw [c31]; rfl) ?_
              refine aw_vload_n (pc1 := 79) at_538_78 l0 i0 rfl ?_
              refine aw_iload_n (pc1 := 80) at_538_79 l1 rfl ?_
              obtain ⟨z32, hs16⟩ := am_ift hs
              clear hs
              refine aw_call (F := fm_549 N x0 x1 h) (t := true) (na := 2) (kd := 1) (as := [x0, (.int x1)]) at_538_80 (am_k3v kb_549) mn_549 mk_549 rfl rfl (am_ok_v mi_549 (am_hl rfl (am_ccR i0 (am_ccI am_cats_0)) rfl) z32) (am_hc am_cats_0 rfl) (fun _ => ⟨rfl, hh_538⟩) (fun o1 hz9 => rm_549 x0 x1 h o1 i0 hz9) ?_
              rcases am_cI_s hs16 with ⟨v33, h34, f35, hs17⟩ | hs17
              · clear hs16
                refine Or.inl ⟨_, _, f35, ?_⟩
                show am_W X _ 538 83 _ [(.int v33)] h34 _
                obtain ⟨z36, hs18⟩ := am_ift hs17
                clear hs17
                cases hs18
                exact aw_iret at_538_83 (by rw [rt_538]; exact z36) rfl
              · clear hs16
                exact Or.inr hs17
            · rw [if_neg c31] at hs
              by_cases c37 : x2 = 6
              · rw [if_pos c37] at hs
                refine aw_tsw (t := 84) at_538_1 (by rw [c37]; rfl) ?_
                refine aw_vload_n (pc1 := 85) at_538_84 l0 i0 rfl ?_
                refine aw_iload_n (pc1 := 86) at_538_85 l1 rfl ?_
                obtain ⟨z38, hs19⟩ := am_ift hs
                clear hs
                refine aw_call (F := fm_550 N x0 x1 h) (t := true) (na := 2) (kd := 1) (as := [x0, (.int x1)]) at_538_86 (am_k3v kb_550) mn_550 mk_550 rfl rfl (am_ok_v mi_550 (am_hl rfl (am_ccR i0 (am_ccI am_cats_0)) rfl) z38) (am_hc am_cats_0 rfl) (fun _ => ⟨rfl, hh_538⟩) (fun o1 hz9 => rm_550 x0 x1 h o1 i0 hz9) ?_
                rcases am_cI_s hs19 with ⟨v39, h40, f41, hs20⟩ | hs20
                · clear hs19
                  refine Or.inl ⟨_, _, f41, ?_⟩
                  show am_W X _ 538 89 _ [(.int v39)] h40 _
                  obtain ⟨z42, hs21⟩ := am_ift hs20
                  clear hs20
                  cases hs21
                  exact aw_iret at_538_89 (by rw [rt_538]; exact z42) rfl
                · clear hs19
                  exact Or.inr hs20
              · rw [if_neg c37] at hs
                by_cases c43 : x2 = 7
                · rw [if_pos c43] at hs
                  refine aw_tsw (t := 90) at_538_1 (by rw [c43]; rfl) ?_
                  refine aw_vload_n (pc1 := 91) at_538_90 l0 i0 rfl ?_
                  refine aw_iload_n (pc1 := 92) at_538_91 l1 rfl ?_
                  obtain ⟨z44, hs22⟩ := am_ift hs
                  clear hs
                  refine aw_call (F := fm_551 N x0 x1 h) (t := true) (na := 2) (kd := 1) (as := [x0, (.int x1)]) at_538_92 (am_k3v kb_551) mn_551 mk_551 rfl rfl (am_ok_v mi_551 (am_hl rfl (am_ccR i0 (am_ccI am_cats_0)) rfl) z44) (am_hc am_cats_0 rfl) (fun _ => ⟨rfl, hh_538⟩) (fun o1 hz9 => rm_551 x0 x1 h o1 i0 hz9) ?_
                  rcases am_cI_s hs22 with ⟨v45, h46, f47, hs23⟩ | hs23
                  · clear hs22
                    refine Or.inl ⟨_, _, f47, ?_⟩
                    show am_W X _ 538 95 _ [(.int v45)] h46 _
                    obtain ⟨z48, hs24⟩ := am_ift hs23
                    clear hs23
                    cases hs24
                    exact aw_iret at_538_95 (by rw [rt_538]; exact z48) rfl
                  · clear hs22
                    exact Or.inr hs23
                · rw [if_neg c43] at hs
                  have tc1 : x2.toInt ≠ 0 := fun e9 => c1 (Int32.toInt_inj.mp e9)
                  have tc7 : x2.toInt ≠ 1 := fun e9 => c7 (Int32.toInt_inj.mp e9)
                  have tc13 : x2.toInt ≠ 2 := fun e9 => c13 (Int32.toInt_inj.mp e9)
                  have tc19 : x2.toInt ≠ 3 := fun e9 => c19 (Int32.toInt_inj.mp e9)
                  have tc25 : x2.toInt ≠ 4 := fun e9 => c25 (Int32.toInt_inj.mp e9)
                  have tc31 : x2.toInt ≠ 5 := fun e9 => c31 (Int32.toInt_inj.mp e9)
                  have tc37 : x2.toInt ≠ 6 := fun e9 => c37 (Int32.toInt_inj.mp e9)
                  have tc43 : x2.toInt ≠ 7 := fun e9 => c43 (Int32.toInt_inj.mp e9)
                  refine aw_tsw (t := 96) at_538_1 (am_tsw_d (by omega)) ?_
                  refine aw_vload_n (pc1 := 97) at_538_96 l0 i0 rfl ?_
                  refine aw_iload_n (pc1 := 98) at_538_97 l1 rfl ?_
                  obtain ⟨z49, hs25⟩ := am_ift hs
                  clear hs
                  refine aw_call (F := fm_552 N x0 x1 h) (t := true) (na := 2) (kd := 1) (as := [x0, (.int x1)]) at_538_98 (am_k3v kb_552) mn_552 mk_552 rfl rfl (am_ok_v mi_552 (am_hl rfl (am_ccR i0 (am_ccI am_cats_0)) rfl) z49) (am_hc am_cats_0 rfl) (fun _ => ⟨rfl, hh_538⟩) (fun o1 hz9 => rm_552 x0 x1 h o1 i0 hz9) ?_
                  rcases am_cI_s hs25 with ⟨v50, h51, f52, hs26⟩ | hs26
                  · clear hs25
                    refine Or.inl ⟨_, _, f52, ?_⟩
                    show am_W X _ 538 101 _ [(.int v50)] h51 _
                    obtain ⟨z53, hs27⟩ := am_ift hs26
                    clear hs26
                    cases hs27
                    exact aw_iret at_538_101 (by rw [rt_538]; exact z53) rfl
                  · clear hs25
                    exact Or.inr hs26
def fm_538 (N : Nat) (y0 : Value) (y1 : Int32) (y2 : Int32) (h : am_H) : Option am_O := fg_538_0 N y0 y1 y2 h
theorem rm_538 {X : am_X} {d : Nat} {N : Nat} (y0 : Value) (y1 : Int32) (y2 : Int32) (h : am_H) (o : am_O) (i0 : am_isR y0 = true) (hs : fm_538 N y0 y1 y2 h = some o) : am_W X (d + 4) 538 0 (am_args 0 [y0, .int y1, .int y2]) [] h (fun q => q = o) := by
  rw [am_args_R i0, am_args_I, am_args_I]
  exact rg_538_0 y0 y1 y2 h o rfl rfl rfl i0 hs
def fg_537_65 (N : Nat) (h : am_H) : Option am_O := some (.inl (some (.int 1), h))
theorem rg_537_65 {X : am_X} {d : Nat} {N : Nat} {lv : am_LV} (h : am_H) (o : am_O) (hs : fg_537_65 N h = some o) : am_W X (d + 5) 537 65 lv [] h (fun q => q = o) := by
  unfold fg_537_65 at hs
  refine aw_iconst (v := 1) (pc1 := 66) at_537_65 (by decide) rfl ?_
  cases hs
  exact aw_iret at_537_66 (by rw [rt_537]; decide) rfl
def fg_537_13 (N : Nat) (rec_7 : Value → Int32 → Int32 → am_H → Option am_O) : Nat → Value → Int32 → Int32 → Int32 → am_H → Option am_O
  | 0 => fun _ _ _ _ _ => none
  | K + 1 => fun x0 x1 x2 x3 h => (if 9 ≤ x3 then (rec_7 x0 x1 ((x2 + (-1))) h) else (if am_pOk 12 x0 h then am_cI true (fm_538 N x0 x2 x3 h) (fun v3 h4 => (if ¬ v3 = 0 then (if x1 = 0 then (fg_537_65 N h4) else ((am_vR (am_pG 3188 x0 h4)).bind fun v8 => ((am_vI (am_pG 3187 x0 h4)).bind fun v10 => ((am_pS 0 v8 v10 x2 h4).bind fun h12 => ((am_vR (am_pG 3189 x0 h12)).bind fun v14 => ((am_vI (am_pG 3187 x0 h12)).bind fun v16 => ((am_pS 0 v14 v16 x3 h12).bind fun h18 => ((am_vI (am_pG 3187 x0 h18)).bind fun v20 => ((am_pP 3187 x0 (.int (v20 + 1)) h18).bind fun h22 => (fg_537_65 N h22)))))))))) else (fg_537_13 N rec_7 K x0 x1 x2 ((x3 + 1)) h4))) else none))
theorem rg_537_13 {X : am_X} {d : Nat} {N : Nat} {rec_7 : Value → Int32 → Int32 → am_H → Option am_O} (q_7 : ∀ (x0 : Value) (x1 : Int32) (x2 : Int32) (h : am_H) (o : am_O), rec_7 x0 x1 x2 h = some o → ∀ lv : am_LV, (lv.lookup 0 = some x0) → (lv.lookup 1 = some (.int x1)) → (lv.lookup 2 = some (.int x2)) → (am_isR x0 = true) → am_W X (d + 5) 537 7 lv [] h (fun q => q = o)) : ∀ (K : Nat) (x0 : Value) (x1 : Int32) (x2 : Int32) (x3 : Int32) (h : am_H) (o : am_O), fg_537_13 N rec_7 K x0 x1 x2 x3 h = some o → ∀ lv : am_LV, (lv.lookup 0 = some x0) → (lv.lookup 1 = some (.int x1)) → (lv.lookup 2 = some (.int x2)) → (lv.lookup 3 = some (.int x3)) → (am_isR x0 = true) → am_W X (d + 5) 537 13 lv [] h (fun q => q = o) := by
  intro K
  induction K with
  | zero => intro x0 x1 x2 x3 h o hs; cases hs
  | succ K ih =>
    intro x0 x1 x2 x3 h o hs lv l0 l1 l2 l3 i0
    unfold fg_537_13 at hs
    refine aw_iload_n (pc1 := 14) at_537_13 l3 rfl ?_
    refine aw_bipush (v := 9) (pc1 := 16) at_537_14 (by decide) rfl ?_
    by_cases c1 : 9 ≤ x3
    · rw [if_pos c1] at hs
      refine aw_icge_t at_537_16 c1 ?_
      refine aw_iinc (v := (x2 + (-1))) (c := (-1)) (lv1 := am_put1 _ 2 _) (pc1 := 76) at_537_73 l2 (by decide) rfl rfl rfl ?_
      refine aw_goto at_537_76 ?_
      exact q_7 x0 x1 ((x2 + (-1))) h o hs _ (am_lk1 l0 rfl rfl) (am_lk1 l1 rfl rfl) am_lk0 i0
    · rw [if_neg c1] at hs
      refine aw_icge_f (pc1 := 19) at_537_16 c1 rfl ?_
      refine aw_vload_n (pc1 := 20) at_537_19 l0 i0 rfl ?_
      refine aw_iload_n (pc1 := 21) at_537_20 l2 rfl ?_
      refine aw_iload_n (pc1 := 22) at_537_21 l3 rfl ?_
      obtain ⟨z2, hs1⟩ := am_ift hs
      clear hs
      refine aw_call (F := fm_538 N x0 x2 x3 h) (t := true) (na := 3) (kd := 1) (as := [x0, (.int x2), (.int x3)]) at_537_22 (am_k3v kb_538) mn_538 mk_538 rfl rfl (am_ok_v mi_538 (am_hl rfl (am_ccR i0 (am_ccI (am_ccI am_cats_0))) rfl) z2) (am_hc am_cats_0 rfl) (fun _ => ⟨rfl, hh_537⟩) (fun o1 hz9 => rm_538 x0 x2 x3 h o1 i0 hz9) ?_
      rcases am_cI_s hs1 with ⟨v3, h4, f5, hs2⟩ | hs2
      · clear hs1
        refine Or.inl ⟨_, _, f5, ?_⟩
        show am_W X _ 537 25 _ [(.int v3)] h4 _
        by_cases c6 : ¬ v3 = 0
        · rw [if_pos c6] at hs2
          refine aw_ifne_t at_537_25 c6 ?_
          refine aw_iload_n (pc1 := 32) at_537_31 l1 rfl ?_
          by_cases c7 : x1 = 0
          · rw [if_pos c7] at hs2
            refine aw_ifeq_t at_537_32 c7 ?_
            exact rg_537_65 h4 o   hs2
          · rw [if_neg c7] at hs2
            refine aw_ifeq_f (pc1 := 35) at_537_32 c7 rfl ?_
            refine aw_vload_n (pc1 := 36) at_537_35 l0 i0 rfl ?_
            obtain ⟨v8, e9, hs3⟩ := am_bind hs2
            clear hs2
            refine aw_pG (pc1 := 39) at_537_36 (am_vR_s e9).1 rfl ?_
            refine aw_vload_n (pc1 := 40) at_537_39 l0 i0 rfl ?_
            obtain ⟨v10, e11, hs4⟩ := am_bind hs3
            clear hs3
            refine aw_pG (pc1 := 43) at_537_40 (am_vI_s e11) rfl ?_
            refine aw_iload_n (pc1 := 44) at_537_43 l2 rfl ?_
            obtain ⟨h12, e13, hs5⟩ := am_bind hs4
            clear hs4
            refine aw_pS (pc1 := 45) at_537_44 (Or.inl ⟨rfl, rfl⟩) e13 rfl ?_
            refine aw_vload_n (pc1 := 46) at_537_45 l0 i0 rfl ?_
            obtain ⟨v14, e15, hs6⟩ := am_bind hs5
            clear hs5
            refine aw_pG (pc1 := 49) at_537_46 (am_vR_s e15).1 rfl ?_
            refine aw_vload_n (pc1 := 50) at_537_49 l0 i0 rfl ?_
            obtain ⟨v16, e17, hs7⟩ := am_bind hs6
            clear hs6
            refine aw_pG (pc1 := 53) at_537_50 (am_vI_s e17) rfl ?_
            refine aw_iload_n (pc1 := 54) at_537_53 l3 rfl ?_
            obtain ⟨h18, e19, hs8⟩ := am_bind hs7
            clear hs7
            refine aw_pS (pc1 := 55) at_537_54 (Or.inl ⟨rfl, rfl⟩) e19 rfl ?_
            refine aw_vload_n (pc1 := 56) at_537_55 l0 i0 rfl ?_
            refine aw_vdup (pc1 := 57) at_537_56 i0 rfl ?_
            obtain ⟨v20, e21, hs9⟩ := am_bind hs8
            clear hs8
            refine aw_pG (pc1 := 60) at_537_57 (am_vI_s e21) rfl ?_
            refine aw_iconst (v := 1) (pc1 := 61) at_537_60 (by decide) rfl ?_
            refine aw_iadd (v := (v20 + 1)) (pc1 := 62) at_537_61 rfl rfl ?_
            obtain ⟨h22, e23, hs10⟩ := am_bind hs9
            clear hs9
            refine aw_pP (pc1 := 65) at_537_62 e23 rfl ?_
            exact rg_537_65 h22 o   hs10
        · rw [if_neg c6] at hs2
          refine aw_ifne_f (pc1 := 28) at_537_25 c6 rfl ?_
          refine aw_goto at_537_28 ?_
          refine aw_iinc (v := (x3 + 1)) (c := 1) (lv1 := am_put1 _ 3 _) (pc1 := 70) at_537_67 l3 (by decide) rfl rfl rfl ?_
          refine aw_goto at_537_70 ?_
          exact ih x0 x1 x2 ((x3 + 1)) h4 o hs2 _ (am_lk1 l0 rfl rfl) (am_lk1 l1 rfl rfl) (am_lk1 l2 rfl rfl) am_lk0 i0
      · clear hs1
        exact Or.inr hs2
def fg_537_7 (N : Nat) : Nat → Value → Int32 → Int32 → am_H → Option am_O
  | 0 => fun _ _ _ _ => none
  | K + 1 => fun x0 x1 x2 h => (if x2 < 0 then some (.inl (some (.int 0), h)) else (fg_537_13 N (fg_537_7 N K) N x0 x1 x2 0 h))
theorem rg_537_7 {X : am_X} {d : Nat} {N : Nat} : ∀ (K : Nat) (x0 : Value) (x1 : Int32) (x2 : Int32) (h : am_H) (o : am_O), fg_537_7 N K x0 x1 x2 h = some o → ∀ lv : am_LV, (lv.lookup 0 = some x0) → (lv.lookup 1 = some (.int x1)) → (lv.lookup 2 = some (.int x2)) → (am_isR x0 = true) → am_W X (d + 5) 537 7 lv [] h (fun q => q = o) := by
  intro K
  induction K with
  | zero => intro x0 x1 x2 h o hs; cases hs
  | succ K ih =>
    intro x0 x1 x2 h o hs lv l0 l1 l2 i0
    unfold fg_537_7 at hs
    refine aw_iload_n (pc1 := 8) at_537_7 l2 rfl ?_
    by_cases c1 : x2 < 0
    · rw [if_pos c1] at hs
      refine aw_iflt_t at_537_8 c1 ?_
      refine aw_iconst (v := 0) (pc1 := 80) at_537_79 (by decide) rfl ?_
      cases hs
      exact aw_iret at_537_80 (by rw [rt_537]; decide) rfl
    · rw [if_neg c1] at hs
      refine aw_iflt_f (pc1 := 11) at_537_8 c1 rfl ?_
      refine aw_iconst (v := 0) (pc1 := 12) at_537_11 (by decide) rfl ?_
      refine aw_istore_n (lv1 := am_put1 _ 3 _) (pc1 := 13) at_537_12 rfl rfl ?_
      exact rg_537_13 (fun z0 z1 z2 h o hs => ih z0 z1 z2 h o hs) N x0 x1 x2 0 h o hs _ (am_lk1 l0 rfl rfl) (am_lk1 l1 rfl rfl) (am_lk1 l2 rfl rfl) am_lk0 i0
def fg_537_0 (N : Nat) (x0 : Value) (x1 : Int32) (h : am_H) : Option am_O := ((am_vI (am_pG 3090 x0 h)).bind fun v1 => (fg_537_7 N N x0 x1 ((v1 - 1)) h))
theorem rg_537_0 {X : am_X} {d : Nat} {N : Nat} {lv : am_LV} (x0 : Value) (x1 : Int32) (h : am_H) (o : am_O) (l0 : lv.lookup 0 = some x0) (l1 : lv.lookup 1 = some (.int x1)) (i0 : am_isR x0 = true) (hs : fg_537_0 N x0 x1 h = some o) : am_W X (d + 5) 537 0 lv [] h (fun q => q = o) := by
  unfold fg_537_0 at hs
  refine aw_vload_n (pc1 := 1) at_537_0 l0 i0 rfl ?_
  obtain ⟨v1, e2, hs1⟩ := am_bind hs
  clear hs
  refine aw_pG (pc1 := 4) at_537_1 (am_vI_s e2) rfl ?_
  refine aw_iconst (v := 1) (pc1 := 5) at_537_4 (by decide) rfl ?_
  refine aw_isub (v := (v1 - 1)) (pc1 := 6) at_537_5 rfl rfl ?_
  refine aw_istore_n (lv1 := am_put1 _ 2 _) (pc1 := 7) at_537_6 rfl rfl ?_
  exact rg_537_7 N x0 x1 ((v1 - 1)) h o hs1 _ (am_lk1 l0 rfl rfl) (am_lk1 l1 rfl rfl) am_lk0 i0
def fm_537 (N : Nat) (y0 : Value) (y1 : Int32) (h : am_H) : Option am_O := fg_537_0 N y0 y1 h
theorem rm_537 {X : am_X} {d : Nat} {N : Nat} (y0 : Value) (y1 : Int32) (h : am_H) (o : am_O) (i0 : am_isR y0 = true) (hs : fm_537 N y0 y1 h = some o) : am_W X (d + 5) 537 0 (am_args 0 [y0, .int y1]) [] h (fun q => q = o) := by
  rw [am_args_R i0, am_args_I]
  exact rg_537_0 y0 y1 h o rfl rfl i0 hs
def fg_536_9 (N : Nat) : Nat → Value → Int32 → am_H → Option am_O
  | 0 => fun _ _ _ => none
  | K + 1 => fun x0 x1 h => (if am_pOk 12 x0 h then am_cI true (fm_537 N x0 x1 h) (fun v2 h3 => (if v2 = 0 then (if am_pOk 12 x0 h3 then am_cV true (fm_442 N x0 h3) (fun h8 => some (.inl (none, h8))) else none) else (if am_pOk 12 x0 h3 then am_cV true (fm_495 N x0 h3) (fun h12 => (fg_536_9 N K x0 x1 h12)) else none))) else none)
theorem rg_536_9 {X : am_X} {d : Nat} {N : Nat} : ∀ (K : Nat) (x0 : Value) (x1 : Int32) (h : am_H) (o : am_O), fg_536_9 N K x0 x1 h = some o → ∀ lv : am_LV, (lv.lookup 0 = some x0) → (lv.lookup 1 = some (.int x1)) → (am_isR x0 = true) → am_W X (d + 6) 536 9 lv [] h (fun q => q = o) := by
  intro K
  induction K with
  | zero => intro x0 x1 h o hs; cases hs
  | succ K ih =>
    intro x0 x1 h o hs lv l0 l1 i0
    unfold fg_536_9 at hs
    refine aw_vload_n (pc1 := 10) at_536_9 l0 i0 rfl ?_
    refine aw_iload_n (pc1 := 11) at_536_10 l1 rfl ?_
    obtain ⟨z1, hs1⟩ := am_ift hs
    clear hs
    refine aw_call (F := fm_537 N x0 x1 h) (t := true) (na := 2) (kd := 1) (as := [x0, (.int x1)]) at_536_11 (am_k3v kb_537) mn_537 mk_537 rfl rfl (am_ok_v mi_537 (am_hl rfl (am_ccR i0 (am_ccI am_cats_0)) rfl) z1) (am_hc am_cats_0 rfl) (fun _ => ⟨rfl, hh_536⟩) (fun o1 hz9 => rm_537 x0 x1 h o1 i0 hz9) ?_
    rcases am_cI_s hs1 with ⟨v2, h3, f4, hs2⟩ | hs2
    · clear hs1
      refine Or.inl ⟨_, _, f4, ?_⟩
      show am_W X _ 536 14 _ [(.int v2)] h3 _
      by_cases c5 : v2 = 0
      · rw [if_pos c5] at hs2
        refine aw_ifeq_t at_536_14 c5 ?_
        refine aw_vload_n (pc1 := 25) at_536_24 l0 i0 rfl ?_
        obtain ⟨z6, hs3⟩ := am_ift hs2
        clear hs2
        refine aw_call (F := fm_442 N x0 h3) (t := true) (na := 1) (kd := 1) (as := [x0]) at_536_25 (am_k3v kb_442) mn_442 mk_442 rfl rfl (am_ok_v mi_442 (am_hl rfl (am_ccR i0 am_cats_0) rfl) z6) (am_hc am_cats_0 rfl) (fun _ => ⟨rfl, hh_536⟩) (fun o1 hz9 => rm_442 x0 h3 o1 i0 hz9) ?_
        rcases am_cV_s hs3 with ⟨h8, f9, hs4⟩ | hs4
        · clear hs3
          refine Or.inl ⟨_, _, f9, ?_⟩
          show am_W X _ 536 28 _ [] h8 _
          cases hs4
          exact aw_vret at_536_28 rt_536 rfl
        · clear hs3
          exact Or.inr hs4
      · rw [if_neg c5] at hs2
        refine aw_ifeq_f (pc1 := 17) at_536_14 c5 rfl ?_
        refine aw_vload_n (pc1 := 18) at_536_17 l0 i0 rfl ?_
        obtain ⟨z10, hs5⟩ := am_ift hs2
        clear hs2
        refine aw_call (F := fm_495 N x0 h3) (t := true) (na := 1) (kd := 1) (as := [x0]) at_536_18 (am_k3v kb_495) mn_495 mk_495 rfl rfl (am_ok_v mi_495 (am_hl rfl (am_ccR i0 am_cats_0) rfl) z10) (am_hc am_cats_0 rfl) (fun _ => ⟨rfl, hh_536⟩) (fun o1 hz9 => rm_495 x0 h3 o1 i0 hz9) ?_
        rcases am_cV_s hs5 with ⟨h12, f13, hs6⟩ | hs6
        · clear hs5
          refine Or.inl ⟨_, _, f13, ?_⟩
          show am_W X _ 536 21 _ [] h12 _
          refine aw_goto at_536_21 ?_
          exact ih x0 x1 h12 o hs6 _ l0 l1 i0
        · clear hs5
          exact Or.inr hs6
    · clear hs1
      exact Or.inr hs2
def fg_536_0 (N : Nat) (x0 : Value) (x1 : Int32) (h : am_H) : Option am_O := (if x1 = 0 then (fg_536_9 N N x0 x1 h) else ((am_pP 3187 x0 (.int 0) h).bind fun h2 => (fg_536_9 N N x0 x1 h2)))
theorem rg_536_0 {X : am_X} {d : Nat} {N : Nat} {lv : am_LV} (x0 : Value) (x1 : Int32) (h : am_H) (o : am_O) (l0 : lv.lookup 0 = some x0) (l1 : lv.lookup 1 = some (.int x1)) (i0 : am_isR x0 = true) (hs : fg_536_0 N x0 x1 h = some o) : am_W X (d + 6) 536 0 lv [] h (fun q => q = o) := by
  unfold fg_536_0 at hs
  refine aw_iload_n (pc1 := 1) at_536_0 l1 rfl ?_
  by_cases c1 : x1 = 0
  · rw [if_pos c1] at hs
    refine aw_ifeq_t at_536_1 c1 ?_
    exact rg_536_9 N x0 x1 h o hs _ l0 l1 i0
  · rw [if_neg c1] at hs
    refine aw_ifeq_f (pc1 := 4) at_536_1 c1 rfl ?_
    refine aw_vload_n (pc1 := 5) at_536_4 l0 i0 rfl ?_
    refine aw_iconst (v := 0) (pc1 := 6) at_536_5 (by decide) rfl ?_
    obtain ⟨h2, e3, hs1⟩ := am_bind hs
    clear hs
    refine aw_pP (pc1 := 9) at_536_6 e3 rfl ?_
    exact rg_536_9 N x0 x1 h2 o hs1 _ l0 l1 i0
def fm_536 (N : Nat) (y0 : Value) (y1 : Int32) (h : am_H) : Option am_O := fg_536_0 N y0 y1 h
theorem rm_536 {X : am_X} {d : Nat} {N : Nat} (y0 : Value) (y1 : Int32) (h : am_H) (o : am_O) (i0 : am_isR y0 = true) (hs : fm_536 N y0 y1 h = some o) : am_W X (d + 6) 536 0 (am_args 0 [y0, .int y1]) [] h (fun q => q = o) := by
  rw [am_args_R i0, am_args_I]
  exact rg_536_0 y0 y1 h o rfl rfl i0 hs
def fg_535_53 (N : Nat) (x0 : Value) (x1 : Int32) (s0 : Value) (s1 : Int32) (h : am_H) : Option am_O := ((am_pP 3072 s0 (.int s1) h).bind fun h1 => ((am_vI (am_pG 3072 x0 h1)).bind fun v3 => (if v3 ≤ 0 then (if am_pOk 12 x0 h1 then am_cV true (fm_391 N x0 x1 h1) (fun h8 => (if am_pOk 12 x0 h8 then am_cV true (fm_536 N x0 1 h8) (fun h12 => (if am_pOk 12 x0 h12 then am_cI true (fm_356 N x0 5 x1 ((-1)) ((-1)) ((-1)) 0 h12) (fun v15 h16 => some (.inl (some (.int v15), h16))) else none)) else none)) else none) else some (.inl (some (.int 0), h1)))))
theorem rg_535_53 {X : am_X} {d : Nat} {N : Nat} {lv : am_LV} (x0 : Value) (x1 : Int32) (s0 : Value) (s1 : Int32) (h : am_H) (o : am_O) (l0 : lv.lookup 0 = some x0) (l1 : lv.lookup 1 = some (.int x1)) (i0 : am_isR x0 = true) (j0 : am_isR s0 = true) (hs : fg_535_53 N x0 x1 s0 s1 h = some o) : am_W X (d + 7) 535 53 lv [(.int s1), s0] h (fun q => q = o) := by
  unfold fg_535_53 at hs
  obtain ⟨h1, e2, hs1⟩ := am_bind hs
  clear hs
  refine aw_pP (pc1 := 56) at_535_53 e2 rfl ?_
  refine aw_vload_n (pc1 := 57) at_535_56 l0 i0 rfl ?_
  obtain ⟨v3, e4, hs2⟩ := am_bind hs1
  clear hs1
  refine aw_pG (pc1 := 60) at_535_57 (am_vI_s e4) rfl ?_
  by_cases c5 : v3 ≤ 0
  · rw [if_pos c5] at hs2
    refine aw_ifle_t at_535_60 c5 ?_
    refine aw_vload_n (pc1 := 66) at_535_65 l0 i0 rfl ?_
    refine aw_iload_n (pc1 := 67) at_535_66 l1 rfl ?_
    obtain ⟨z6, hs3⟩ := am_ift hs2
    clear hs2
    refine aw_call (F := fm_391 N x0 x1 h1) (t := true) (na := 2) (kd := 1) (as := [x0, (.int x1)]) at_535_67 (am_k3v kb_391) mn_391 mk_391 rfl rfl (am_ok_v mi_391 (am_hl rfl (am_ccR i0 (am_ccI am_cats_0)) rfl) z6) (am_hc am_cats_0 rfl) (fun _ => ⟨rfl, hh_535⟩) (fun o1 hz9 => rm_391 x0 x1 h1 o1 i0 hz9) ?_
    rcases am_cV_s hs3 with ⟨h8, f9, hs4⟩ | hs4
    · clear hs3
      refine Or.inl ⟨_, _, f9, ?_⟩
      show am_W X _ 535 70 _ [] h8 _
      refine aw_vload_n (pc1 := 71) at_535_70 l0 i0 rfl ?_
      refine aw_iconst (v := 1) (pc1 := 72) at_535_71 (by decide) rfl ?_
      obtain ⟨z10, hs5⟩ := am_ift hs4
      clear hs4
      refine aw_call (F := fm_536 N x0 1 h8) (t := true) (na := 2) (kd := 1) (as := [x0, (.int 1)]) at_535_72 (am_k3v kb_536) mn_536 mk_536 rfl rfl (am_ok_v mi_536 (am_hl rfl (am_ccR i0 (am_ccI am_cats_0)) rfl) z10) (am_hc am_cats_0 rfl) (fun _ => ⟨rfl, hh_535⟩) (fun o1 hz9 => rm_536 x0 1 h8 o1 i0 hz9) ?_
      rcases am_cV_s hs5 with ⟨h12, f13, hs6⟩ | hs6
      · clear hs5
        refine Or.inl ⟨_, _, f13, ?_⟩
        show am_W X _ 535 75 _ [] h12 _
        refine aw_vload_n (pc1 := 76) at_535_75 l0 i0 rfl ?_
        refine aw_iconst (v := 5) (pc1 := 77) at_535_76 (by decide) rfl ?_
        refine aw_iload_n (pc1 := 78) at_535_77 l1 rfl ?_
        refine aw_iconst (v := (-1)) (pc1 := 79) at_535_78 (by decide) rfl ?_
        refine aw_iconst (v := (-1)) (pc1 := 80) at_535_79 (by decide) rfl ?_
        refine aw_iconst (v := (-1)) (pc1 := 81) at_535_80 (by decide) rfl ?_
        refine aw_lconst (v := 0) (pc1 := 82) at_535_81 (by decide) rfl ?_
        obtain ⟨z14, hs7⟩ := am_ift hs6
        clear hs6
        refine aw_call (F := fm_356 N x0 5 x1 ((-1)) ((-1)) ((-1)) 0 h12) (t := true) (na := 7) (kd := 1) (as := [x0, (.int 5), (.int x1), (.int (-1)), (.int (-1)), (.int (-1)), (.long 0)]) at_535_82 (am_k3v kb_356) mn_356 mk_356 rfl rfl (am_ok_v mi_356 (am_hl rfl (am_ccR i0 (am_ccI (am_ccI (am_ccI (am_ccI (am_ccI (am_ccL am_cats_0))))))) rfl) z14) (am_hc am_cats_0 rfl) (fun _ => ⟨rfl, hh_535⟩) (fun o1 hz9 => rm_356 x0 5 x1 ((-1)) ((-1)) ((-1)) 0 h12 o1 i0 hz9) ?_
        rcases am_cI_s hs7 with ⟨v15, h16, f17, hs8⟩ | hs8
        · clear hs7
          refine Or.inl ⟨_, _, f17, ?_⟩
          show am_W X _ 535 85 _ [(.int v15)] h16 _
          cases hs8
          exact aw_iret at_535_85 (by rw [rt_535]; rfl) rfl
        · clear hs7
          exact Or.inr hs8
      · clear hs5
        exact Or.inr hs6
    · clear hs3
      exact Or.inr hs4
  · rw [if_neg c5] at hs2
    refine aw_ifle_f (pc1 := 63) at_535_60 c5 rfl ?_
    refine aw_iconst (v := 0) (pc1 := 64) at_535_63 (by decide) rfl ?_
    cases hs2
    exact aw_iret at_535_64 (by rw [rt_535]; rfl) rfl
def fg_535_30 (N : Nat) (x0 : Value) (x1 : Int32) (s0 : Value) (s1 : Value) (s2 : Int32) (h : am_H) : Option am_O := ((am_pA 0 s1 s2 h).bind fun v1 => (if v1 = 0 then ((am_vI (am_pG 3073 x0 h)).bind fun v4 => (if ¬ v4 = 600 then (fg_535_53 N x0 x1 s0 0 h) else (fg_535_53 N x0 x1 s0 3 h))) else (fg_535_53 N x0 x1 s0 2 h)))
theorem rg_535_30 {X : am_X} {d : Nat} {N : Nat} {lv : am_LV} (x0 : Value) (x1 : Int32) (s0 : Value) (s1 : Value) (s2 : Int32) (h : am_H) (o : am_O) (l0 : lv.lookup 0 = some x0) (l1 : lv.lookup 1 = some (.int x1)) (i0 : am_isR x0 = true) (j0 : am_isR s0 = true) (j1 : am_isR s1 = true) (hs : fg_535_30 N x0 x1 s0 s1 s2 h = some o) : am_W X (d + 7) 535 30 lv [(.int s2), s1, s0] h (fun q => q = o) := by
  unfold fg_535_30 at hs
  obtain ⟨v1, e2, hs1⟩ := am_bind hs
  clear hs
  refine aw_pA (pc1 := 31) at_535_30 (Or.inl ⟨rfl, rfl⟩) e2 rfl ?_
  by_cases c3 : v1 = 0
  · rw [if_pos c3] at hs1
    refine aw_ifeq_t at_535_31 c3 ?_
    refine aw_vload_n (pc1 := 39) at_535_38 l0 i0 rfl ?_
    obtain ⟨v4, e5, hs2⟩ := am_bind hs1
    clear hs1
    refine aw_pG (pc1 := 42) at_535_39 (am_vI_s e5) rfl ?_
    refine aw_sipush (v := 600) (pc1 := 45) at_535_42 (by decide) rfl ?_
    by_cases c6 : ¬ v4 = 600
    · rw [if_pos c6] at hs2
      refine aw_icne_t at_535_45 c6 ?_
      refine aw_iconst (v := 0) (pc1 := 53) at_535_52 (by decide) rfl ?_
      exact rg_535_53 x0 x1 s0 0 h o l0 l1 i0 j0 hs2
    · rw [if_neg c6] at hs2
      refine aw_icne_f (pc1 := 48) at_535_45 c6 rfl ?_
      refine aw_iconst (v := 3) (pc1 := 49) at_535_48 (by decide) rfl ?_
      refine aw_goto at_535_49 ?_
      exact rg_535_53 x0 x1 s0 3 h o l0 l1 i0 j0 hs2
  · rw [if_neg c3] at hs1
    refine aw_ifeq_f (pc1 := 34) at_535_31 c3 rfl ?_
    refine aw_iconst (v := 2) (pc1 := 35) at_535_34 (by decide) rfl ?_
    refine aw_goto at_535_35 ?_
    exact rg_535_53 x0 x1 s0 2 h o l0 l1 i0 j0 hs1
def fg_535_0 (N : Nat) (x0 : Value) (x1 : Int32) (h : am_H) : Option am_O := (if am_pOk 12 x0 h then am_cI true (fm_358 x0 x1 h) (fun v2 h3 => (if ¬ v2 = 0 then ((am_vR (am_pG 3074 x0 h3)).bind fun v6 => (if am_pOk 12 x0 h3 then am_cI true (fm_358 x0 x1 h3) (fun v9 h10 => (if v9 = 0 then (fg_535_30 N x0 x1 x0 v6 0 h10) else (fg_535_30 N x0 x1 x0 v6 x1 h10))) else none)) else (fg_535_53 N x0 x1 x0 1 h3))) else none)
theorem rg_535_0 {X : am_X} {d : Nat} {N : Nat} {lv : am_LV} (x0 : Value) (x1 : Int32) (h : am_H) (o : am_O) (l0 : lv.lookup 0 = some x0) (l1 : lv.lookup 1 = some (.int x1)) (i0 : am_isR x0 = true) (hs : fg_535_0 N x0 x1 h = some o) : am_W X (d + 7) 535 0 lv [] h (fun q => q = o) := by
  unfold fg_535_0 at hs
  refine aw_vload_n (pc1 := 1) at_535_0 l0 i0 rfl ?_
  refine aw_vload_n (pc1 := 2) at_535_1 l0 i0 rfl ?_
  refine aw_iload_n (pc1 := 3) at_535_2 l1 rfl ?_
  obtain ⟨z1, hs1⟩ := am_ift hs
  clear hs
  refine aw_call (F := fm_358 x0 x1 h) (t := true) (na := 2) (kd := 1) (as := [x0, (.int x1)]) at_535_3 (am_k3v kb_358) mn_358 mk_358 rfl rfl (am_ok_v mi_358 (am_hl rfl (am_ccR i0 (am_ccI am_cats_0)) rfl) z1) (am_hc (am_ccR i0 am_cats_0) rfl) (fun _ => ⟨rfl, hh_535⟩) (fun o1 hz9 => rm_358 x0 x1 h o1 i0 hz9) ?_
  rcases am_cI_s hs1 with ⟨v2, h3, f4, hs2⟩ | hs2
  · clear hs1
    refine Or.inl ⟨_, _, f4, ?_⟩
    show am_W X _ 535 6 _ [(.int v2), x0] h3 _
    by_cases c5 : ¬ v2 = 0
    · rw [if_pos c5] at hs2
      refine aw_ifne_t at_535_6 c5 ?_
      refine aw_vload_n (pc1 := 14) at_535_13 l0 i0 rfl ?_
      obtain ⟨v6, e7, hs3⟩ := am_bind hs2
      clear hs2
      refine aw_pG (pc1 := 17) at_535_14 (am_vR_s e7).1 rfl ?_
      refine aw_vload_n (pc1 := 18) at_535_17 l0 i0 rfl ?_
      refine aw_iload_n (pc1 := 19) at_535_18 l1 rfl ?_
      obtain ⟨z8, hs4⟩ := am_ift hs3
      clear hs3
      refine aw_call (F := fm_358 x0 x1 h3) (t := true) (na := 2) (kd := 1) (as := [x0, (.int x1)]) at_535_19 (am_k3v kb_358) mn_358 mk_358 rfl rfl (am_ok_v mi_358 (am_hl rfl (am_ccR i0 (am_ccI am_cats_0)) rfl) z8) (am_hc (am_ccR (am_vR_s e7).2 (am_ccR i0 am_cats_0)) rfl) (fun _ => ⟨rfl, hh_535⟩) (fun o1 hz9 => rm_358 x0 x1 h3 o1 i0 hz9) ?_
      rcases am_cI_s hs4 with ⟨v9, h10, f11, hs5⟩ | hs5
      · clear hs4
        refine Or.inl ⟨_, _, f11, ?_⟩
        show am_W X _ 535 22 _ [(.int v9), v6, x0] h10 _
        by_cases c12 : v9 = 0
        · rw [if_pos c12] at hs5
          refine aw_ifeq_t at_535_22 c12 ?_
          refine aw_iconst (v := 0) (pc1 := 30) at_535_29 (by decide) rfl ?_
          exact rg_535_30 x0 x1 x0 v6 0 h10 o l0 l1 i0 i0 (am_vR_s e7).2 hs5
        · rw [if_neg c12] at hs5
          refine aw_ifeq_f (pc1 := 25) at_535_22 c12 rfl ?_
          refine aw_iload_n (pc1 := 26) at_535_25 l1 rfl ?_
          refine aw_goto at_535_26 ?_
          exact rg_535_30 x0 x1 x0 v6 x1 h10 o l0 l1 i0 i0 (am_vR_s e7).2 hs5
      · clear hs4
        exact Or.inr hs5
    · rw [if_neg c5] at hs2
      refine aw_ifne_f (pc1 := 9) at_535_6 c5 rfl ?_
      refine aw_iconst (v := 1) (pc1 := 10) at_535_9 (by decide) rfl ?_
      refine aw_goto at_535_10 ?_
      exact rg_535_53 x0 x1 x0 1 h3 o l0 l1 i0 i0 hs2
  · clear hs1
    exact Or.inr hs2
def fm_535 (N : Nat) (y0 : Value) (y1 : Int32) (h : am_H) : Option am_O := fg_535_0 N y0 y1 h
theorem rm_535 {X : am_X} {d : Nat} {N : Nat} (y0 : Value) (y1 : Int32) (h : am_H) (o : am_O) (i0 : am_isR y0 = true) (hs : fm_535 N y0 y1 h = some o) : am_W X (d + 7) 535 0 (am_args 0 [y0, .int y1]) [] h (fun q => q = o) := by
  rw [am_args_R i0, am_args_I]
  exact rg_535_0 y0 y1 h o rfl rfl i0 hs
def fg_28_0 (x0 : Value) (h : am_H) : Option am_O := ((am_vR (am_pG 2824 x0 h)).bind fun v1 => ((am_vI (am_pG 1282 v1 h)).bind fun v3 => some (.inl (some (.int v3), h))))
theorem rg_28_0 {X : am_X} {d : Nat} {lv : am_LV} (x0 : Value) (h : am_H) (o : am_O) (l0 : lv.lookup 0 = some x0) (i0 : am_isR x0 = true) (hs : fg_28_0 x0 h = some o) : am_W X (d) 28 0 lv [] h (fun q => q = o) := by
  unfold fg_28_0 at hs
  refine aw_vload_n (pc1 := 1) at_28_0 l0 i0 rfl ?_
  obtain ⟨v1, e2, hs1⟩ := am_bind hs
  clear hs
  refine aw_pG (pc1 := 4) at_28_1 (am_vR_s e2).1 rfl ?_
  obtain ⟨v3, e4, hs2⟩ := am_bind hs1
  clear hs1
  refine aw_pG (pc1 := 7) at_28_4 (am_vI_s e4) rfl ?_
  cases hs2
  exact aw_iret at_28_7 (by rw [rt_28]; rfl) rfl
def fm_28 (y0 : Value) (h : am_H) : Option am_O := fg_28_0 y0 h
theorem rm_28 {X : am_X} {d : Nat} (y0 : Value) (h : am_H) (o : am_O) (i0 : am_isR y0 = true) (hs : fm_28 y0 h = some o) : am_W X (d) 28 0 (am_args 0 [y0]) [] h (fun q => q = o) := by
  rw [am_args_R i0]
  exact rg_28_0 y0 h o rfl i0 hs
def fg_553_0 (x0 : Value) (h : am_H) : Option am_O := ((am_pP 3072 x0 (.int 0) h).bind fun h1 => ((am_vI (am_pG 3187 x0 h1)).bind fun v3 => some (.inl (some (.int v3), h1))))
theorem rg_553_0 {X : am_X} {d : Nat} {lv : am_LV} (x0 : Value) (h : am_H) (o : am_O) (l0 : lv.lookup 0 = some x0) (i0 : am_isR x0 = true) (hs : fg_553_0 x0 h = some o) : am_W X (d) 553 0 lv [] h (fun q => q = o) := by
  unfold fg_553_0 at hs
  refine aw_vload_n (pc1 := 1) at_553_0 l0 i0 rfl ?_
  refine aw_iconst (v := 0) (pc1 := 2) at_553_1 (by decide) rfl ?_
  obtain ⟨h1, e2, hs1⟩ := am_bind hs
  clear hs
  refine aw_pP (pc1 := 5) at_553_2 e2 rfl ?_
  refine aw_vload_n (pc1 := 6) at_553_5 l0 i0 rfl ?_
  obtain ⟨v3, e4, hs2⟩ := am_bind hs1
  clear hs1
  refine aw_pG (pc1 := 9) at_553_6 (am_vI_s e4) rfl ?_
  cases hs2
  exact aw_iret at_553_9 (by rw [rt_553]; rfl) rfl
def fm_553 (y0 : Value) (h : am_H) : Option am_O := fg_553_0 y0 h
theorem rm_553 {X : am_X} {d : Nat} (y0 : Value) (h : am_H) (o : am_O) (i0 : am_isR y0 = true) (hs : fm_553 y0 h = some o) : am_W X (d) 553 0 (am_args 0 [y0]) [] h (fun q => q = o) := by
  rw [am_args_R i0]
  exact rg_553_0 y0 h o rfl i0 hs
def fg_29_51 (s0 : Int32) (h : am_H) : Option am_O := some (.inl (some (.int s0), h))
theorem rg_29_51 {X : am_X} {d : Nat} {lv : am_LV} (s0 : Int32) (h : am_H) (o : am_O) (hs : fg_29_51 s0 h = some o) : am_W X (d) 29 51 lv [(.int s0)] h (fun q => q = o) := by
  unfold fg_29_51 at hs
  cases hs
  exact aw_iret at_29_51 (by rw [rt_29]; rfl) rfl
def fg_29_24 (h : am_H) : Option am_O := some (.inl (some (.int (-1)), h))
theorem rg_29_24 {X : am_X} {d : Nat} {lv : am_LV} (h : am_H) (o : am_O) (hs : fg_29_24 h = some o) : am_W X (d) 29 24 lv [] h (fun q => q = o) := by
  unfold fg_29_24 at hs
  refine aw_iconst (v := (-1)) (pc1 := 25) at_29_24 (by decide) rfl ?_
  cases hs
  exact aw_iret at_29_25 (by rw [rt_29]; rfl) rfl
def fg_29_0 (x0 : Value) (x1 : Int32) (x2 : Int32) (h : am_H) : Option am_O := (if x1 < 0 then (fg_29_24 h) else ((am_vR (am_pG 2824 x0 h)).bind fun v2 => ((am_vI (am_pG 1282 v2 h)).bind fun v4 => (if v4 ≤ x1 then (fg_29_24 h) else (if x2 < 0 then (fg_29_24 h) else (if x2 ≤ 1 then (if ¬ x2 = 0 then ((am_vR (am_pG 2824 x0 h)).bind fun v10 => ((am_vR (am_pG 1281 v10 h)).bind fun v12 => ((am_pA 0 v12 x1 h).bind fun v14 => (fg_29_51 v14 h)))) else ((am_vR (am_pG 2824 x0 h)).bind fun v16 => ((am_vR (am_pG 1280 v16 h)).bind fun v18 => ((am_pA 0 v18 x1 h).bind fun v20 => (fg_29_51 v20 h))))) else (fg_29_24 h)))))))
theorem rg_29_0 {X : am_X} {d : Nat} {lv : am_LV} (x0 : Value) (x1 : Int32) (x2 : Int32) (h : am_H) (o : am_O) (l0 : lv.lookup 0 = some x0) (l1 : lv.lookup 1 = some (.int x1)) (l2 : lv.lookup 2 = some (.int x2)) (i0 : am_isR x0 = true) (hs : fg_29_0 x0 x1 x2 h = some o) : am_W X (d) 29 0 lv [] h (fun q => q = o) := by
  unfold fg_29_0 at hs
  refine aw_iload_n (pc1 := 1) at_29_0 l1 rfl ?_
  by_cases c1 : x1 < 0
  · rw [if_pos c1] at hs
    refine aw_iflt_t at_29_1 c1 ?_
    exact rg_29_24 h o   hs
  · rw [if_neg c1] at hs
    refine aw_iflt_f (pc1 := 4) at_29_1 c1 rfl ?_
    refine aw_iload_n (pc1 := 5) at_29_4 l1 rfl ?_
    refine aw_vload_n (pc1 := 6) at_29_5 l0 i0 rfl ?_
    obtain ⟨v2, e3, hs1⟩ := am_bind hs
    clear hs
    refine aw_pG (pc1 := 9) at_29_6 (am_vR_s e3).1 rfl ?_
    obtain ⟨v4, e5, hs2⟩ := am_bind hs1
    clear hs1
    refine aw_pG (pc1 := 12) at_29_9 (am_vI_s e5) rfl ?_
    by_cases c6 : v4 ≤ x1
    · rw [if_pos c6] at hs2
      refine aw_icge_t at_29_12 c6 ?_
      exact rg_29_24 h o   hs2
    · rw [if_neg c6] at hs2
      refine aw_icge_f (pc1 := 15) at_29_12 c6 rfl ?_
      refine aw_iload_n (pc1 := 16) at_29_15 l2 rfl ?_
      by_cases c7 : x2 < 0
      · rw [if_pos c7] at hs2
        refine aw_iflt_t at_29_16 c7 ?_
        exact rg_29_24 h o   hs2
      · rw [if_neg c7] at hs2
        refine aw_iflt_f (pc1 := 19) at_29_16 c7 rfl ?_
        refine aw_iload_n (pc1 := 20) at_29_19 l2 rfl ?_
        refine aw_iconst (v := 1) (pc1 := 21) at_29_20 (by decide) rfl ?_
        by_cases c8 : x2 ≤ 1
        · rw [if_pos c8] at hs2
          refine aw_icle_t at_29_21 c8 ?_
          refine aw_iload_n (pc1 := 27) at_29_26 l2 rfl ?_
          by_cases c9 : ¬ x2 = 0
          · rw [if_pos c9] at hs2
            refine aw_ifne_t at_29_27 c9 ?_
            refine aw_vload_n (pc1 := 43) at_29_42 l0 i0 rfl ?_
            obtain ⟨v10, e11, hs3⟩ := am_bind hs2
            clear hs2
            refine aw_pG (pc1 := 46) at_29_43 (am_vR_s e11).1 rfl ?_
            obtain ⟨v12, e13, hs4⟩ := am_bind hs3
            clear hs3
            refine aw_pG (pc1 := 49) at_29_46 (am_vR_s e13).1 rfl ?_
            refine aw_iload_n (pc1 := 50) at_29_49 l1 rfl ?_
            obtain ⟨v14, e15, hs5⟩ := am_bind hs4
            clear hs4
            refine aw_pA (pc1 := 51) at_29_50 (Or.inl ⟨rfl, rfl⟩) e15 rfl ?_
            exact rg_29_51 v14 h o   hs5
          · rw [if_neg c9] at hs2
            refine aw_ifne_f (pc1 := 30) at_29_27 c9 rfl ?_
            refine aw_vload_n (pc1 := 31) at_29_30 l0 i0 rfl ?_
            obtain ⟨v16, e17, hs6⟩ := am_bind hs2
            clear hs2
            refine aw_pG (pc1 := 34) at_29_31 (am_vR_s e17).1 rfl ?_
            obtain ⟨v18, e19, hs7⟩ := am_bind hs6
            clear hs6
            refine aw_pG (pc1 := 37) at_29_34 (am_vR_s e19).1 rfl ?_
            refine aw_iload_n (pc1 := 38) at_29_37 l1 rfl ?_
            obtain ⟨v20, e21, hs8⟩ := am_bind hs7
            clear hs7
            refine aw_pA (pc1 := 39) at_29_38 (Or.inl ⟨rfl, rfl⟩) e21 rfl ?_
            refine aw_goto at_29_39 ?_
            exact rg_29_51 v20 h o   hs8
        · rw [if_neg c8] at hs2
          refine aw_icle_f (pc1 := 24) at_29_21 c8 rfl ?_
          exact rg_29_24 h o   hs2
def fm_29 (y0 : Value) (y1 : Int32) (y2 : Int32) (h : am_H) : Option am_O := fg_29_0 y0 y1 y2 h
theorem rm_29 {X : am_X} {d : Nat} (y0 : Value) (y1 : Int32) (y2 : Int32) (h : am_H) (o : am_O) (i0 : am_isR y0 = true) (hs : fm_29 y0 y1 y2 h = some o) : am_W X (d) 29 0 (am_args 0 [y0, .int y1, .int y2]) [] h (fun q => q = o) := by
  rw [am_args_R i0, am_args_I, am_args_I]
  exact rg_29_0 y0 y1 y2 h o rfl rfl rfl i0 hs
def fg_554_51 (s0 : Int32) (h : am_H) : Option am_O := some (.inl (some (.int s0), h))
theorem rg_554_51 {X : am_X} {d : Nat} {lv : am_LV} (s0 : Int32) (h : am_H) (o : am_O) (hs : fg_554_51 s0 h = some o) : am_W X (d + 1) 554 51 lv [(.int s0)] h (fun q => q = o) := by
  unfold fg_554_51 at hs
  cases hs
  exact aw_iret at_554_51 (by rw [rt_554]; rfl) rfl
def fg_554_0 (x0 : Value) (x1 : Int32) (x2 : Int32) (h : am_H) : Option am_O := ((am_pP 3072 x0 (.int 0) h).bind fun h1 => ((am_vI (am_pG 3187 x0 h1)).bind fun v3 => am_cI false (fm_327 ((Int32.toInt64 x1)) 0 (((Int32.toInt64 v3) - 1)) h1) (fun v5 h6 => (if ¬ v5 = 0 then (if ¬ x2 = 0 then (if ¬ x2 = 1 then (fg_554_51 ((-1)) h6) else ((am_vR (am_pG 3189 x0 h6)).bind fun v11 => ((am_pA 0 v11 x1 h6).bind fun v13 => (fg_554_51 v13 h6)))) else ((am_vR (am_pG 3188 x0 h6)).bind fun v15 => ((am_pA 0 v15 x1 h6).bind fun v17 => (fg_554_51 v17 h6)))) else some (.inl (some (.int (-1)), h6))))))
theorem rg_554_0 {X : am_X} {d : Nat} {lv : am_LV} (x0 : Value) (x1 : Int32) (x2 : Int32) (h : am_H) (o : am_O) (l0 : lv.lookup 0 = some x0) (l1 : lv.lookup 1 = some (.int x1)) (l2 : lv.lookup 2 = some (.int x2)) (i0 : am_isR x0 = true) (hs : fg_554_0 x0 x1 x2 h = some o) : am_W X (d + 1) 554 0 lv [] h (fun q => q = o) := by
  unfold fg_554_0 at hs
  refine aw_vload_n (pc1 := 1) at_554_0 l0 i0 rfl ?_
  refine aw_iconst (v := 0) (pc1 := 2) at_554_1 (by decide) rfl ?_
  obtain ⟨h1, e2, hs1⟩ := am_bind hs
  clear hs
  refine aw_pP (pc1 := 5) at_554_2 e2 rfl ?_
  refine aw_iload_n (pc1 := 6) at_554_5 l1 rfl ?_
  refine aw_i2l (v := (Int32.toInt64 x1)) (pc1 := 7) at_554_6 rfl rfl ?_
  refine aw_lconst (v := 0) (pc1 := 8) at_554_7 (by decide) rfl ?_
  refine aw_vload_n (pc1 := 9) at_554_8 l0 i0 rfl ?_
  obtain ⟨v3, e4, hs2⟩ := am_bind hs1
  clear hs1
  refine aw_pG (pc1 := 12) at_554_9 (am_vI_s e4) rfl ?_
  refine aw_i2l (v := (Int32.toInt64 v3)) (pc1 := 13) at_554_12 rfl rfl ?_
  refine aw_lconst (v := 1) (pc1 := 14) at_554_13 (by decide) rfl ?_
  refine aw_lsub (v := ((Int32.toInt64 v3) - 1)) (pc1 := 15) at_554_14 rfl rfl ?_
  refine aw_call (F := fm_327 ((Int32.toInt64 x1)) 0 (((Int32.toInt64 v3) - 1)) h1) (t := false) (na := 3) (kd := 0) (as := [(.long (Int32.toInt64 x1)), (.long 0), (.long ((Int32.toInt64 v3) - 1))]) at_554_15 (am_k3s kb_327) mn_327 mk_327 rfl rfl (am_ok_s mi_327 (am_hl rfl (am_ccL (am_ccL (am_ccL am_cats_0))) rfl)) (am_hc am_cats_0 rfl) (fun hz9 => by cases hz9) (fun o1 hz9 => rm_327 ((Int32.toInt64 x1)) 0 (((Int32.toInt64 v3) - 1)) h1 o1  hz9) ?_
  rcases am_cI_s hs2 with ⟨v5, h6, f7, hs3⟩ | hs3
  · clear hs2
    refine Or.inl ⟨_, _, f7, ?_⟩
    show am_W X _ 554 18 _ [(.int v5)] h6 _
    by_cases c8 : ¬ v5 = 0
    · rw [if_pos c8] at hs3
      refine aw_ifne_t at_554_18 c8 ?_
      refine aw_iload_n (pc1 := 24) at_554_23 l2 rfl ?_
      by_cases c9 : ¬ x2 = 0
      · rw [if_pos c9] at hs3
        refine aw_ifne_t at_554_24 c9 ?_
        refine aw_iload_n (pc1 := 37) at_554_36 l2 rfl ?_
        refine aw_iconst (v := 1) (pc1 := 38) at_554_37 (by decide) rfl ?_
        by_cases c10 : ¬ x2 = 1
        · rw [if_pos c10] at hs3
          refine aw_icne_t at_554_38 c10 ?_
          refine aw_iconst (v := (-1)) (pc1 := 51) at_554_50 (by decide) rfl ?_
          exact rg_554_51 ((-1)) h6 o   hs3
        · rw [if_neg c10] at hs3
          refine aw_icne_f (pc1 := 41) at_554_38 c10 rfl ?_
          refine aw_vload_n (pc1 := 42) at_554_41 l0 i0 rfl ?_
          obtain ⟨v11, e12, hs4⟩ := am_bind hs3
          clear hs3
          refine aw_pG (pc1 := 45) at_554_42 (am_vR_s e12).1 rfl ?_
          refine aw_iload_n (pc1 := 46) at_554_45 l1 rfl ?_
          obtain ⟨v13, e14, hs5⟩ := am_bind hs4
          clear hs4
          refine aw_pA (pc1 := 47) at_554_46 (Or.inl ⟨rfl, rfl⟩) e14 rfl ?_
          refine aw_goto at_554_47 ?_
          exact rg_554_51 v13 h6 o   hs5
      · rw [if_neg c9] at hs3
        refine aw_ifne_f (pc1 := 27) at_554_24 c9 rfl ?_
        refine aw_vload_n (pc1 := 28) at_554_27 l0 i0 rfl ?_
        obtain ⟨v15, e16, hs6⟩ := am_bind hs3
        clear hs3
        refine aw_pG (pc1 := 31) at_554_28 (am_vR_s e16).1 rfl ?_
        refine aw_iload_n (pc1 := 32) at_554_31 l1 rfl ?_
        obtain ⟨v17, e18, hs7⟩ := am_bind hs6
        clear hs6
        refine aw_pA (pc1 := 33) at_554_32 (Or.inl ⟨rfl, rfl⟩) e18 rfl ?_
        refine aw_goto at_554_33 ?_
        exact rg_554_51 v17 h6 o   hs7
    · rw [if_neg c8] at hs3
      refine aw_ifne_f (pc1 := 21) at_554_18 c8 rfl ?_
      refine aw_iconst (v := (-1)) (pc1 := 22) at_554_21 (by decide) rfl ?_
      cases hs3
      exact aw_iret at_554_22 (by rw [rt_554]; rfl) rfl
  · clear hs2
    exact Or.inr hs3
def fm_554 (y0 : Value) (y1 : Int32) (y2 : Int32) (h : am_H) : Option am_O := fg_554_0 y0 y1 y2 h
theorem rm_554 {X : am_X} {d : Nat} (y0 : Value) (y1 : Int32) (y2 : Int32) (h : am_H) (o : am_O) (i0 : am_isR y0 = true) (hs : fm_554 y0 y1 y2 h = some o) : am_W X (d + 1) 554 0 (am_args 0 [y0, .int y1, .int y2]) [] h (fun q => q = o) := by
  rw [am_args_R i0, am_args_I, am_args_I]
  exact rg_554_0 y0 y1 y2 h o rfl rfl rfl i0 hs
def fg_285_56 (N : Nat) (rec_7 : Value → Value → Int32 → am_H → Option am_O) (x0 : Value) (x1 : Value) (x2 : Int32) (s0 : Int32) (h : am_H) : Option am_O := (if ¬ s0 = (-1) then ((am_vR (am_pG 1280 x0 h)).bind fun v2 => ((am_pA 0 v2 x2 h).bind fun v4 => (if am_pOk 5 x0 h then am_cV true (fm_282 N x0 v4 s0 h) (fun h8 => (rec_7 x0 x1 ((x2 + 1)) h8)) else none))) else some (.inl (some (.int 0), h)))
theorem rg_285_56 {X : am_X} {d : Nat} {N : Nat} {rec_7 : Value → Value → Int32 → am_H → Option am_O} (q_7 : ∀ (x0 : Value) (x1 : Value) (x2 : Int32) (h : am_H) (o : am_O), rec_7 x0 x1 x2 h = some o → ∀ lv : am_LV, (lv.lookup 0 = some x0) → (lv.lookup 1 = some x1) → (lv.lookup 2 = some (.int x2)) → (am_isR x0 = true) → (am_isR x1 = true) → am_W X (d + 5) 285 7 lv [] h (fun q => q = o)) {lv : am_LV} (x0 : Value) (x1 : Value) (x2 : Int32) (s0 : Int32) (h : am_H) (o : am_O) (l0 : lv.lookup 0 = some x0) (l1 : lv.lookup 1 = some x1) (l2 : lv.lookup 2 = some (.int x2)) (i0 : am_isR x0 = true) (i1 : am_isR x1 = true) (hs : fg_285_56 N rec_7 x0 x1 x2 s0 h = some o) : am_W X (d + 5) 285 56 lv [(.int s0)] h (fun q => q = o) := by
  unfold fg_285_56 at hs
  refine aw_istore_n (lv1 := am_put1 _ 3 _) (pc1 := 57) at_285_56 rfl rfl ?_
  refine aw_iload_n (pc1 := 58) at_285_57 am_lk0 rfl ?_
  refine aw_iconst (v := (-1)) (pc1 := 59) at_285_58 (by decide) rfl ?_
  by_cases c1 : ¬ s0 = (-1)
  · rw [if_pos c1] at hs
    refine aw_icne_t at_285_59 c1 ?_
    refine aw_vload_n (pc1 := 65) at_285_64 (am_lk1 l0 rfl rfl) i0 rfl ?_
    refine aw_vload_n (pc1 := 66) at_285_65 (am_lk1 l0 rfl rfl) i0 rfl ?_
    obtain ⟨v2, e3, hs1⟩ := am_bind hs
    clear hs
    refine aw_pG (pc1 := 69) at_285_66 (am_vR_s e3).1 rfl ?_
    refine aw_iload_n (pc1 := 70) at_285_69 (am_lk1 l2 rfl rfl) rfl ?_
    obtain ⟨v4, e5, hs2⟩ := am_bind hs1
    clear hs1
    refine aw_pA (pc1 := 71) at_285_70 (Or.inl ⟨rfl, rfl⟩) e5 rfl ?_
    refine aw_iload_n (pc1 := 72) at_285_71 am_lk0 rfl ?_
    obtain ⟨z6, hs3⟩ := am_ift hs2
    clear hs2
    refine aw_call (F := fm_282 N x0 v4 s0 h) (t := true) (na := 3) (kd := 1) (as := [x0, (.int v4), (.int s0)]) at_285_72 (am_k3v kb_282) mn_282 mk_282 rfl rfl (am_ok_v mi_282 (am_hl rfl (am_ccR i0 (am_ccI (am_ccI am_cats_0))) rfl) z6) (am_hc am_cats_0 rfl) (fun _ => ⟨rfl, hh_285⟩) (fun o1 hz9 => rm_282 x0 v4 s0 h o1 i0 hz9) ?_
    rcases am_cV_s hs3 with ⟨h8, f9, hs4⟩ | hs4
    · clear hs3
      refine Or.inl ⟨_, _, f9, ?_⟩
      show am_W X _ 285 75 _ [] h8 _
      refine aw_iinc (v := (x2 + 1)) (c := 1) (lv1 := am_put1 _ 2 _) (pc1 := 78) at_285_75 (am_lk1 l2 rfl rfl) (by decide) rfl rfl rfl ?_
      refine aw_goto at_285_78 ?_
      exact q_7 x0 x1 ((x2 + 1)) h8 o hs4 _ (am_lk1 (am_lk1 l0 rfl rfl) rfl rfl) (am_lk1 (am_lk1 l1 rfl rfl) rfl (by rw [am_isRc i1]; rfl)) am_lk0 i0 i1
    · clear hs3
      exact Or.inr hs4
  · rw [if_neg c1] at hs
    refine aw_icne_f (pc1 := 62) at_285_59 c1 rfl ?_
    refine aw_iconst (v := 0) (pc1 := 63) at_285_62 (by decide) rfl ?_
    cases hs
    exact aw_iret at_285_63 (by rw [rt_285]; decide) rfl
def fg_285_7 (N : Nat) : Nat → Value → Value → Int32 → am_H → Option am_O
  | 0 => fun _ _ _ _ => none
  | K + 1 => fun x0 x1 x2 h => ((am_vI (am_pG 1282 x0 h)).bind fun v1 => (if v1 ≤ x2 then some (.inl (some (.int 1), h)) else ((am_vR (am_pG 1283 x0 h)).bind fun v4 => (if am_pOk 7 v4 h then am_cV true (fm_77 N v4 x1 h) (fun h8 => ((am_vR (am_pG 1280 x0 h8)).bind fun v10 => ((am_pA 0 v10 x2 h8).bind fun v12 => ((am_vI (am_pG 771 x1 h8)).bind fun v14 => (if v14 ≤ v12 then (fg_285_56 N (fg_285_7 N K) x0 x1 x2 ((-1)) h8) else ((am_vR (am_pG 1280 x0 h8)).bind fun v17 => ((am_pA 0 v17 x2 h8).bind fun v19 => ((am_vR (am_pG 1281 x0 h8)).bind fun v21 => ((am_pA 0 v21 x2 h8).bind fun v23 => (if am_pOk 5 x0 h8 then am_cI true (fm_271 N x0 v19 v23 h8) (fun v26 h27 => (fg_285_56 N (fg_285_7 N K) x0 x1 x2 v26 h27)) else none)))))))))) else none))))
theorem rg_285_7 {X : am_X} {d : Nat} {N : Nat} : ∀ (K : Nat) (x0 : Value) (x1 : Value) (x2 : Int32) (h : am_H) (o : am_O), fg_285_7 N K x0 x1 x2 h = some o → ∀ lv : am_LV, (lv.lookup 0 = some x0) → (lv.lookup 1 = some x1) → (lv.lookup 2 = some (.int x2)) → (am_isR x0 = true) → (am_isR x1 = true) → am_W X (d + 5) 285 7 lv [] h (fun q => q = o) := by
  intro K
  induction K with
  | zero => intro x0 x1 x2 h o hs; cases hs
  | succ K ih =>
    intro x0 x1 x2 h o hs lv l0 l1 l2 i0 i1
    unfold fg_285_7 at hs
    refine aw_iload_n (pc1 := 8) at_285_7 l2 rfl ?_
    refine aw_vload_n (pc1 := 9) at_285_8 l0 i0 rfl ?_
    obtain ⟨v1, e2, hs1⟩ := am_bind hs
    clear hs
    refine aw_pG (pc1 := 12) at_285_9 (am_vI_s e2) rfl ?_
    by_cases c3 : v1 ≤ x2
    · rw [if_pos c3] at hs1
      refine aw_icge_t at_285_12 c3 ?_
      refine aw_iconst (v := 1) (pc1 := 82) at_285_81 (by decide) rfl ?_
      cases hs1
      exact aw_iret at_285_82 (by rw [rt_285]; decide) rfl
    · rw [if_neg c3] at hs1
      refine aw_icge_f (pc1 := 15) at_285_12 c3 rfl ?_
      refine aw_vload_n (pc1 := 16) at_285_15 l0 i0 rfl ?_
      obtain ⟨v4, e5, hs2⟩ := am_bind hs1
      clear hs1
      refine aw_pG (pc1 := 19) at_285_16 (am_vR_s e5).1 rfl ?_
      refine aw_vload_n (pc1 := 20) at_285_19 l1 i1 rfl ?_
      obtain ⟨z6, hs3⟩ := am_ift hs2
      clear hs2
      refine aw_call (F := fm_77 N v4 x1 h) (t := true) (na := 2) (kd := 1) (as := [v4, x1]) at_285_20 (am_k3v kb_77) mn_77 mk_77 rfl rfl (am_ok_v mi_77 (am_hl rfl (am_ccR (am_vR_s e5).2 (am_ccR i1 am_cats_0)) rfl) z6) (am_hc am_cats_0 rfl) (fun _ => ⟨rfl, hh_285⟩) (fun o1 hz9 => rm_77 v4 x1 h o1 (am_vR_s e5).2 i1 hz9) ?_
      rcases am_cV_s hs3 with ⟨h8, f9, hs4⟩ | hs4
      · clear hs3
        refine Or.inl ⟨_, _, f9, ?_⟩
        show am_W X _ 285 23 _ [] h8 _
        refine aw_vload_n (pc1 := 24) at_285_23 l0 i0 rfl ?_
        obtain ⟨v10, e11, hs5⟩ := am_bind hs4
        clear hs4
        refine aw_pG (pc1 := 27) at_285_24 (am_vR_s e11).1 rfl ?_
        refine aw_iload_n (pc1 := 28) at_285_27 l2 rfl ?_
        obtain ⟨v12, e13, hs6⟩ := am_bind hs5
        clear hs5
        refine aw_pA (pc1 := 29) at_285_28 (Or.inl ⟨rfl, rfl⟩) e13 rfl ?_
        refine aw_vload_n (pc1 := 30) at_285_29 l1 i1 rfl ?_
        obtain ⟨v14, e15, hs7⟩ := am_bind hs6
        clear hs6
        refine aw_pG (pc1 := 33) at_285_30 (am_vI_s e15) rfl ?_
        by_cases c16 : v14 ≤ v12
        · rw [if_pos c16] at hs7
          refine aw_icge_t at_285_33 c16 ?_
          refine aw_iconst (v := (-1)) (pc1 := 56) at_285_55 (by decide) rfl ?_
          exact rg_285_56 (fun z0 z1 z2 h o hs7 => ih z0 z1 z2 h o hs7) x0 x1 x2 ((-1)) h8 o l0 l1 l2 i0 i1 hs7
        · rw [if_neg c16] at hs7
          refine aw_icge_f (pc1 := 36) at_285_33 c16 rfl ?_
          refine aw_vload_n (pc1 := 37) at_285_36 l0 i0 rfl ?_
          refine aw_vload_n (pc1 := 38) at_285_37 l0 i0 rfl ?_
          obtain ⟨v17, e18, hs8⟩ := am_bind hs7
          clear hs7
          refine aw_pG (pc1 := 41) at_285_38 (am_vR_s e18).1 rfl ?_
          refine aw_iload_n (pc1 := 42) at_285_41 l2 rfl ?_
          obtain ⟨v19, e20, hs9⟩ := am_bind hs8
          clear hs8
          refine aw_pA (pc1 := 43) at_285_42 (Or.inl ⟨rfl, rfl⟩) e20 rfl ?_
          refine aw_vload_n (pc1 := 44) at_285_43 l0 i0 rfl ?_
          obtain ⟨v21, e22, hs10⟩ := am_bind hs9
          clear hs9
          refine aw_pG (pc1 := 47) at_285_44 (am_vR_s e22).1 rfl ?_
          refine aw_iload_n (pc1 := 48) at_285_47 l2 rfl ?_
          obtain ⟨v23, e24, hs11⟩ := am_bind hs10
          clear hs10
          refine aw_pA (pc1 := 49) at_285_48 (Or.inl ⟨rfl, rfl⟩) e24 rfl ?_
          obtain ⟨z25, hs12⟩ := am_ift hs11
          clear hs11
          refine aw_call (F := fm_271 N x0 v19 v23 h8) (t := true) (na := 3) (kd := 1) (as := [x0, (.int v19), (.int v23)]) at_285_49 (am_k3v kb_271) mn_271 mk_271 rfl rfl (am_ok_v mi_271 (am_hl rfl (am_ccR i0 (am_ccI (am_ccI am_cats_0))) rfl) z25) (am_hc am_cats_0 rfl) (fun _ => ⟨rfl, hh_285⟩) (fun o1 hz9 => rm_271 x0 v19 v23 h8 o1 i0 hz9) ?_
          rcases am_cI_s hs12 with ⟨v26, h27, f28, hs13⟩ | hs13
          · clear hs12
            refine Or.inl ⟨_, _, f28, ?_⟩
            show am_W X _ 285 52 _ [(.int v26)] h27 _
            refine aw_goto at_285_52 ?_
            exact rg_285_56 (fun z0 z1 z2 h o hs13 => ih z0 z1 z2 h o hs13) x0 x1 x2 v26 h27 o l0 l1 l2 i0 i1 hs13
          · clear hs12
            exact Or.inr hs13
      · clear hs3
        exact Or.inr hs4
def fg_285_0 (N : Nat) (x0 : Value) (x1 : Value) (h : am_H) : Option am_O := ((am_pP 1285 x0 x1 h).bind fun h1 => (fg_285_7 N N x0 x1 0 h1))
theorem rg_285_0 {X : am_X} {d : Nat} {N : Nat} {lv : am_LV} (x0 : Value) (x1 : Value) (h : am_H) (o : am_O) (l0 : lv.lookup 0 = some x0) (l1 : lv.lookup 1 = some x1) (i0 : am_isR x0 = true) (i1 : am_isR x1 = true) (hs : fg_285_0 N x0 x1 h = some o) : am_W X (d + 5) 285 0 lv [] h (fun q => q = o) := by
  unfold fg_285_0 at hs
  refine aw_vload_n (pc1 := 1) at_285_0 l0 i0 rfl ?_
  refine aw_vload_n (pc1 := 2) at_285_1 l1 i1 rfl ?_
  obtain ⟨h1, e2, hs1⟩ := am_bind hs
  clear hs
  refine aw_pP (pc1 := 5) at_285_2 e2 rfl ?_
  refine aw_iconst (v := 0) (pc1 := 6) at_285_5 (by decide) rfl ?_
  refine aw_istore_n (lv1 := am_put1 _ 2 _) (pc1 := 7) at_285_6 rfl rfl ?_
  exact rg_285_7 N x0 x1 0 h1 o hs1 _ (am_lk1 l0 rfl rfl) (am_lk1 l1 rfl (by rw [am_isRc i1]; rfl)) am_lk0 i0 i1
def fm_285 (N : Nat) (y0 : Value) (y1 : Value) (h : am_H) : Option am_O := fg_285_0 N y0 y1 h
theorem rm_285 {X : am_X} {d : Nat} {N : Nat} (y0 : Value) (y1 : Value) (h : am_H) (o : am_O) (i0 : am_isR y0 = true) (i1 : am_isR y1 = true) (hs : fm_285 N y0 y1 h = some o) : am_W X (d + 5) 285 0 (am_args 0 [y0, y1]) [] h (fun q => q = o) := by
  rw [am_args_R i0, am_args_R i1]
  exact rg_285_0 y0 y1 h o rfl rfl i0 i1 hs
def fg_284_69 (N : Nat) (s0 : Int32) (h : am_H) : Option am_O := (if am_rfit (some FieldType.boolean) s0 then some (.inl (some (.int s0), h)) else none)
theorem rg_284_69 {X : am_X} {d : Nat} {N : Nat} {lv : am_LV} (s0 : Int32) (h : am_H) (o : am_O) (hs : fg_284_69 N s0 h = some o) : am_W X (d + 6) 284 69 lv [(.int s0)] h (fun q => q = o) := by
  unfold fg_284_69 at hs
  obtain ⟨z1, hs1⟩ := am_ift hs
  clear hs
  cases hs1
  exact aw_iret at_284_69 (by rw [rt_284]; exact z1) rfl
def fg_284_68 (N : Nat) (h : am_H) : Option am_O := (fg_284_69 N 0 h)
theorem rg_284_68 {X : am_X} {d : Nat} {N : Nat} {lv : am_LV} (h : am_H) (o : am_O) (hs : fg_284_68 N h = some o) : am_W X (d + 6) 284 68 lv [] h (fun q => q = o) := by
  unfold fg_284_68 at hs
  refine aw_iconst (v := 0) (pc1 := 69) at_284_68 (by decide) rfl ?_
  exact rg_284_69 0 h o   hs
def fg_284_28 (N : Nat) (h : am_H) : Option am_O := some (.inl (some (.int 0), h))
theorem rg_284_28 {X : am_X} {d : Nat} {N : Nat} {lv : am_LV} (h : am_H) (o : am_O) (hs : fg_284_28 N h = some o) : am_W X (d + 6) 284 28 lv [] h (fun q => q = o) := by
  unfold fg_284_28 at hs
  refine aw_iconst (v := 0) (pc1 := 29) at_284_28 (by decide) rfl ?_
  cases hs
  exact aw_iret at_284_29 (by rw [rt_284]; decide) rfl
def fg_284_0 (N : Nat) (x0 : Value) (x1 : Int32) (x2 : Int32) (h : am_H) : Option am_O := (if am_pOk 11 x0 h then am_cR true (fm_63 x0 x1 h) (fun v2 h3 => (if am_pOk 11 x0 h3 then am_cR true (fm_63 x0 x2 h3) (fun v6 h7 => ((am_vI (am_pG 769 v2 h7)).bind fun v9 => (if ¬ v9 = 0 then (fg_284_28 N h7) else ((am_vI (am_pG 769 v6 h7)).bind fun v12 => (if v12 = 0 then ((am_vR (am_pG 2831 x0 h7)).bind fun v15 => (if am_pOk 3 v15 h7 then am_cV true (fm_60 v15 v2 h7) (fun h19 => ((am_vR (am_pG 2824 x0 h19)).bind fun v21 => ((am_vR (am_pG 2831 x0 h19)).bind fun v23 => (if am_pOk 5 v21 h19 then am_cI true (fm_285 N v21 v23 h19) (fun v26 h27 => (if v26 = 0 then (fg_284_68 N h27) else ((am_vR (am_pG 2831 x0 h27)).bind fun v30 => (if am_pOk 3 v30 h27 then am_cI true (fm_86 N v30 v6 h27) (fun v33 h34 => (if v33 = 0 then (fg_284_68 N h34) else (fg_284_69 N 1 h34))) else none)))) else none)))) else none)) else (fg_284_28 N h7)))))) else none)) else none)
theorem rg_284_0 {X : am_X} {d : Nat} {N : Nat} {lv : am_LV} (x0 : Value) (x1 : Int32) (x2 : Int32) (h : am_H) (o : am_O) (l0 : lv.lookup 0 = some x0) (l1 : lv.lookup 1 = some (.int x1)) (l2 : lv.lookup 2 = some (.int x2)) (i0 : am_isR x0 = true) (hs : fg_284_0 N x0 x1 x2 h = some o) : am_W X (d + 6) 284 0 lv [] h (fun q => q = o) := by
  unfold fg_284_0 at hs
  refine aw_vload_n (pc1 := 1) at_284_0 l0 i0 rfl ?_
  refine aw_iload_n (pc1 := 2) at_284_1 l1 rfl ?_
  obtain ⟨z1, hs1⟩ := am_ift hs
  clear hs
  refine aw_call (F := fm_63 x0 x1 h) (t := true) (na := 2) (kd := 1) (as := [x0, (.int x1)]) at_284_2 (am_k3v kb_63) mn_63 mk_63 rfl rfl (am_ok_v mi_63 (am_hl rfl (am_ccR i0 (am_ccI am_cats_0)) rfl) z1) (am_hc am_cats_0 rfl) (fun _ => ⟨rfl, hh_284⟩) (fun o1 hz9 => rm_63 x0 x1 h o1 i0 hz9) ?_
  rcases am_cR_s hs1 with ⟨v2, h3, f4, iv2, hs2⟩ | hs2
  · clear hs1
    refine Or.inl ⟨_, _, f4, ?_⟩
    show am_W X _ 284 5 _ [v2] h3 _
    refine aw_vstore_n (lv1 := am_put1 _ 3 _) (pc1 := 6) at_284_5 iv2 rfl rfl ?_
    refine aw_vload_n (pc1 := 7) at_284_6 (am_lk1 l0 rfl rfl) i0 rfl ?_
    refine aw_iload_n (pc1 := 8) at_284_7 (am_lk1 l2 rfl rfl) rfl ?_
    obtain ⟨z5, hs3⟩ := am_ift hs2
    clear hs2
    refine aw_call (F := fm_63 x0 x2 h3) (t := true) (na := 2) (kd := 1) (as := [x0, (.int x2)]) at_284_8 (am_k3v kb_63) mn_63 mk_63 rfl rfl (am_ok_v mi_63 (am_hl rfl (am_ccR i0 (am_ccI am_cats_0)) rfl) z5) (am_hc am_cats_0 rfl) (fun _ => ⟨rfl, hh_284⟩) (fun o1 hz9 => rm_63 x0 x2 h3 o1 i0 hz9) ?_
    rcases am_cR_s hs3 with ⟨v6, h7, f8, iv6, hs4⟩ | hs4
    · clear hs3
      refine Or.inl ⟨_, _, f8, ?_⟩
      show am_W X _ 284 11 _ [v6] h7 _
      refine aw_vstore (lv1 := am_put1 _ 4 _) (pc1 := 13) at_284_11 iv6 rfl rfl ?_
      refine aw_vload_n (pc1 := 14) at_284_13 (am_lk1 am_lk0 rfl (by rw [am_isRc iv2]; rfl)) iv2 rfl ?_
      obtain ⟨v9, e10, hs5⟩ := am_bind hs4
      clear hs4
      refine aw_pG (pc1 := 17) at_284_14 (am_vI_s e10) rfl ?_
      by_cases c11 : ¬ v9 = 0
      · rw [if_pos c11] at hs5
        refine aw_ifne_t at_284_17 c11 ?_
        exact rg_284_28 h7 o   hs5
      · rw [if_neg c11] at hs5
        refine aw_ifne_f (pc1 := 20) at_284_17 c11 rfl ?_
        refine aw_vload (pc1 := 22) at_284_20 am_lk0 iv6 rfl ?_
        obtain ⟨v12, e13, hs6⟩ := am_bind hs5
        clear hs5
        refine aw_pG (pc1 := 25) at_284_22 (am_vI_s e13) rfl ?_
        by_cases c14 : v12 = 0
        · rw [if_pos c14] at hs6
          refine aw_ifeq_t at_284_25 c14 ?_
          refine aw_vload_n (pc1 := 31) at_284_30 (am_lk1 (am_lk1 l0 rfl rfl) rfl rfl) i0 rfl ?_
          obtain ⟨v15, e16, hs7⟩ := am_bind hs6
          clear hs6
          refine aw_pG (pc1 := 34) at_284_31 (am_vR_s e16).1 rfl ?_
          refine aw_vload_n (pc1 := 35) at_284_34 (am_lk1 am_lk0 rfl (by rw [am_isRc iv2]; rfl)) iv2 rfl ?_
          obtain ⟨z17, hs8⟩ := am_ift hs7
          clear hs7
          refine aw_call (F := fm_60 v15 v2 h7) (t := true) (na := 2) (kd := 1) (as := [v15, v2]) at_284_35 (am_k3v kb_60) mn_60 mk_60 rfl rfl (am_ok_v mi_60 (am_hl rfl (am_ccR (am_vR_s e16).2 (am_ccR iv2 am_cats_0)) rfl) z17) (am_hc am_cats_0 rfl) (fun _ => ⟨rfl, hh_284⟩) (fun o1 hz9 => rm_60 v15 v2 h7 o1 (am_vR_s e16).2 iv2 hz9) ?_
          rcases am_cV_s hs8 with ⟨h19, f20, hs9⟩ | hs9
          · clear hs8
            refine Or.inl ⟨_, _, f20, ?_⟩
            show am_W X _ 284 38 _ [] h19 _
            refine aw_vload_n (pc1 := 39) at_284_38 (am_lk1 (am_lk1 l0 rfl rfl) rfl rfl) i0 rfl ?_
            obtain ⟨v21, e22, hs10⟩ := am_bind hs9
            clear hs9
            refine aw_pG (pc1 := 42) at_284_39 (am_vR_s e22).1 rfl ?_
            refine aw_vload_n (pc1 := 43) at_284_42 (am_lk1 (am_lk1 l0 rfl rfl) rfl rfl) i0 rfl ?_
            obtain ⟨v23, e24, hs11⟩ := am_bind hs10
            clear hs10
            refine aw_pG (pc1 := 46) at_284_43 (am_vR_s e24).1 rfl ?_
            obtain ⟨z25, hs12⟩ := am_ift hs11
            clear hs11
            refine aw_call (F := fm_285 N v21 v23 h19) (t := true) (na := 2) (kd := 1) (as := [v21, v23]) at_284_46 (am_k3v kb_285) mn_285 mk_285 rfl rfl (am_ok_v mi_285 (am_hl rfl (am_ccR (am_vR_s e22).2 (am_ccR (am_vR_s e24).2 am_cats_0)) rfl) z25) (am_hc am_cats_0 rfl) (fun _ => ⟨rfl, hh_284⟩) (fun o1 hz9 => rm_285 v21 v23 h19 o1 (am_vR_s e22).2 (am_vR_s e24).2 hz9) ?_
            rcases am_cI_s hs12 with ⟨v26, h27, f28, hs13⟩ | hs13
            · clear hs12
              refine Or.inl ⟨_, _, f28, ?_⟩
              show am_W X _ 284 49 _ [(.int v26)] h27 _
              by_cases c29 : v26 = 0
              · rw [if_pos c29] at hs13
                refine aw_ifeq_t at_284_49 c29 ?_
                exact rg_284_68 h27 o   hs13
              · rw [if_neg c29] at hs13
                refine aw_ifeq_f (pc1 := 52) at_284_49 c29 rfl ?_
                refine aw_vload_n (pc1 := 53) at_284_52 (am_lk1 (am_lk1 l0 rfl rfl) rfl rfl) i0 rfl ?_
                obtain ⟨v30, e31, hs14⟩ := am_bind hs13
                clear hs13
                refine aw_pG (pc1 := 56) at_284_53 (am_vR_s e31).1 rfl ?_
                refine aw_vload (pc1 := 58) at_284_56 am_lk0 iv6 rfl ?_
                obtain ⟨z32, hs15⟩ := am_ift hs14
                clear hs14
                refine aw_call (F := fm_86 N v30 v6 h27) (t := true) (na := 2) (kd := 1) (as := [v30, v6]) at_284_58 (am_k3v kb_86) mn_86 mk_86 rfl rfl (am_ok_v mi_86 (am_hl rfl (am_ccR (am_vR_s e31).2 (am_ccR iv6 am_cats_0)) rfl) z32) (am_hc am_cats_0 rfl) (fun _ => ⟨rfl, hh_284⟩) (fun o1 hz9 => rm_86 v30 v6 h27 o1 (am_vR_s e31).2 iv6 hz9) ?_
                rcases am_cI_s hs15 with ⟨v33, h34, f35, hs16⟩ | hs16
                · clear hs15
                  refine Or.inl ⟨_, _, f35, ?_⟩
                  show am_W X _ 284 61 _ [(.int v33)] h34 _
                  by_cases c36 : v33 = 0
                  · rw [if_pos c36] at hs16
                    refine aw_ifeq_t at_284_61 c36 ?_
                    exact rg_284_68 h34 o   hs16
                  · rw [if_neg c36] at hs16
                    refine aw_ifeq_f (pc1 := 64) at_284_61 c36 rfl ?_
                    refine aw_iconst (v := 1) (pc1 := 65) at_284_64 (by decide) rfl ?_
                    refine aw_goto at_284_65 ?_
                    exact rg_284_69 1 h34 o   hs16
                · clear hs15
                  exact Or.inr hs16
            · clear hs12
              exact Or.inr hs13
          · clear hs8
            exact Or.inr hs9
        · rw [if_neg c14] at hs6
          refine aw_ifeq_f (pc1 := 28) at_284_25 c14 rfl ?_
          exact rg_284_28 h7 o   hs6
    · clear hs3
      exact Or.inr hs4
  · clear hs1
    exact Or.inr hs2
def fm_284 (N : Nat) (y0 : Value) (y1 : Int32) (y2 : Int32) (h : am_H) : Option am_O := fg_284_0 N y0 y1 y2 h
theorem rm_284 {X : am_X} {d : Nat} {N : Nat} (y0 : Value) (y1 : Int32) (y2 : Int32) (h : am_H) (o : am_O) (i0 : am_isR y0 = true) (hs : fm_284 N y0 y1 y2 h = some o) : am_W X (d + 6) 284 0 (am_args 0 [y0, .int y1, .int y2]) [] h (fun q => q = o) := by
  rw [am_args_R i0, am_args_I, am_args_I]
  exact rg_284_0 y0 y1 y2 h o rfl rfl rfl i0 hs
def fg_283_22 (N : Nat) (h : am_H) : Option am_O := some (.inl (some (.int 1), h))
theorem rg_283_22 {X : am_X} {d : Nat} {N : Nat} {lv : am_LV} (h : am_H) (o : am_O) (hs : fg_283_22 N h = some o) : am_W X (d + 7) 283 22 lv [] h (fun q => q = o) := by
  unfold fg_283_22 at hs
  refine aw_iconst (v := 1) (pc1 := 23) at_283_22 (by decide) rfl ?_
  cases hs
  exact aw_iret at_283_23 (by rw [rt_283]; rfl) rfl
def fg_283_16 (N : Nat) (s0 : Value) (s1 : Int32) (s2 : Int64) (h : am_H) : Option am_O := ((am_pSL s0 s1 s2 h).bind fun h1 => some (.inl (some (.int 0), h1)))
theorem rg_283_16 {X : am_X} {d : Nat} {N : Nat} {lv : am_LV} (s0 : Value) (s1 : Int32) (s2 : Int64) (h : am_H) (o : am_O) (j0 : am_isR s0 = true) (hs : fg_283_16 N s0 s1 s2 h = some o) : am_W X (d + 7) 283 16 lv [(.long s2), (.int s1), s0] h (fun q => q = o) := by
  unfold fg_283_16 at hs
  obtain ⟨h1, e2, hs1⟩ := am_bind hs
  clear hs
  refine aw_pSL (pc1 := 17) at_283_16 e2 rfl ?_
  refine aw_goto at_283_17 ?_
  refine aw_iconst (v := 0) (pc1 := 25) at_283_24 (by decide) rfl ?_
  cases hs1
  exact aw_iret at_283_25 (by rw [rt_283]; rfl) rfl
def fg_283_0 (N : Nat) (x0 : Value) (x1 : Int32) (x2 : Int32) (x3 : Value) (h : am_H) : Option am_O := (if am_pOk 11 x0 h then (match fm_284 N x0 x1 x2 h with | some (.inl (some (.int v2), h3)) => (if v2 = 0 then (fg_283_16 N x3 0 0 h3) else (fg_283_16 N x3 0 1 h3)) | some (.inr (2, h6)) => (fg_283_22 N h6) | _ => none) else none)
theorem rg_283_0 {X : am_X} {d : Nat} {N : Nat} {lv : am_LV} (x0 : Value) (x1 : Int32) (x2 : Int32) (x3 : Value) (h : am_H) (o : am_O) (l0 : lv.lookup 0 = some x0) (l1 : lv.lookup 1 = some (.int x1)) (l2 : lv.lookup 2 = some (.int x2)) (l3 : lv.lookup 3 = some x3) (i0 : am_isR x0 = true) (i3 : am_isR x3 = true) (hs : fg_283_0 N x0 x1 x2 x3 h = some o) : am_W X (d + 7) 283 0 lv [] h (fun q => q = o) := by
  unfold fg_283_0 at hs
  refine aw_vload_n (pc1 := 1) at_283_0 l3 i3 rfl ?_
  refine aw_iconst (v := 0) (pc1 := 2) at_283_1 (by decide) rfl ?_
  refine aw_vload_n (pc1 := 3) at_283_2 l0 i0 rfl ?_
  refine aw_iload_n (pc1 := 4) at_283_3 l1 rfl ?_
  refine aw_iload_n (pc1 := 5) at_283_4 l2 rfl ?_
  obtain ⟨z1, hs1⟩ := am_ift hs
  clear hs
  refine aw_callH (F := fm_284 N x0 x1 x2 h) (na := 3) (kd := 1) (as := [x0, (.int x1), (.int x2)]) at_283_5 (am_k3v kb_284) mn_284 mk_284 rfl rfl (am_ok_v mi_284 (am_hl rfl (am_ccR i0 (am_ccI (am_ccI am_cats_0))) rfl) z1) (am_hc (am_ccI (am_ccR i3 am_cats_0)) rfl) (fun o1 hz9 => rm_284 x0 x1 x2 h o1 i0 hz9) ?_
  split at hs1
  · rename_i v2 h3 f4
    refine Or.inl ⟨_, _, f4, ?_⟩
    show am_W X _ 283 8 _ [(.int v2), (.int 0), x3] h3 _
    by_cases c5 : v2 = 0
    · rw [if_pos c5] at hs1
      refine aw_ifeq_t at_283_8 c5 ?_
      refine aw_lconst (v := 0) (pc1 := 16) at_283_15 (by decide) rfl ?_
      exact rg_283_16 x3 0 0 h3 o  i3 hs1
    · rw [if_neg c5] at hs1
      refine aw_ifeq_f (pc1 := 11) at_283_8 c5 rfl ?_
      refine aw_lconst (v := 1) (pc1 := 12) at_283_11 (by decide) rfl ?_
      refine aw_goto at_283_12 ?_
      exact rg_283_16 x3 0 1 h3 o  i3 hs1
  · rename_i h6 f7
    refine Or.inr ⟨_, _, 22, 4, f7, rfl, hn_283, hd_283_5_2, ?_⟩
    exact rg_283_22 h6 o   hs1
  · cases hs1
def fm_283 (N : Nat) (y0 : Value) (y1 : Int32) (y2 : Int32) (y3 : Value) (h : am_H) : Option am_O := fg_283_0 N y0 y1 y2 y3 h
theorem rm_283 {X : am_X} {d : Nat} {N : Nat} (y0 : Value) (y1 : Int32) (y2 : Int32) (y3 : Value) (h : am_H) (o : am_O) (i0 : am_isR y0 = true) (i3 : am_isR y3 = true) (hs : fm_283 N y0 y1 y2 y3 h = some o) : am_W X (d + 7) 283 0 (am_args 0 [y0, .int y1, .int y2, y3]) [] h (fun q => q = o) := by
  rw [am_args_R i0, am_args_I, am_args_I, am_args_R i3]
  exact rg_283_0 y0 y1 y2 y3 h o rfl rfl rfl rfl i0 i3 hs
def fg_555_151 (N : Nat) (s0 : Int32) (h : am_H) : Option am_O := (if am_rfit (some FieldType.boolean) s0 then some (.inl (some (.int s0), h)) else none)
theorem rg_555_151 {X : am_X} {d : Nat} {N : Nat} {lv : am_LV} (s0 : Int32) (h : am_H) (o : am_O) (hs : fg_555_151 N s0 h = some o) : am_W X (d + 5) 555 151 lv [(.int s0)] h (fun q => q = o) := by
  unfold fg_555_151 at hs
  obtain ⟨z1, hs1⟩ := am_ift hs
  clear hs
  cases hs1
  exact aw_iret at_555_151 (by rw [rt_555]; exact z1) rfl
def fg_555_150 (N : Nat) (h : am_H) : Option am_O := (fg_555_151 N 0 h)
theorem rg_555_150 {X : am_X} {d : Nat} {N : Nat} {lv : am_LV} (h : am_H) (o : am_O) (hs : fg_555_150 N h = some o) : am_W X (d + 5) 555 150 lv [] h (fun q => q = o) := by
  unfold fg_555_150 at hs
  refine aw_iconst (v := 0) (pc1 := 151) at_555_150 (by decide) rfl ?_
  exact rg_555_151 0 h o   hs
def fg_555_130 (N : Nat) (x0 : Value) (x2 : Int32) (x3 : Int32) (h : am_H) : Option am_O := (if am_pOk 12 x0 h then am_cV true (fm_442 N x0 h) (fun h3 => (if x3 = 0 then (fg_555_150 N h3) else (if am_pOk 12 x0 h3 then am_cI true (fm_375 N x0 x2 h3) (fun v7 h8 => (if v7 = 0 then (fg_555_150 N h8) else (fg_555_151 N 1 h8))) else none))) else none)
theorem rg_555_130 {X : am_X} {d : Nat} {N : Nat} {lv : am_LV} (x0 : Value) (x2 : Int32) (x3 : Int32) (h : am_H) (o : am_O) (l0 : lv.lookup 0 = some x0) (l2 : lv.lookup 2 = some (.int x2)) (l3 : lv.lookup 3 = some (.int x3)) (i0 : am_isR x0 = true) (hs : fg_555_130 N x0 x2 x3 h = some o) : am_W X (d + 5) 555 130 lv [] h (fun q => q = o) := by
  unfold fg_555_130 at hs
  refine aw_vload_n (pc1 := 131) at_555_130 l0 i0 rfl ?_
  obtain ⟨z1, hs1⟩ := am_ift hs
  clear hs
  refine aw_call (F := fm_442 N x0 h) (t := true) (na := 1) (kd := 1) (as := [x0]) at_555_131 (am_k3v kb_442) mn_442 mk_442 rfl rfl (am_ok_v mi_442 (am_hl rfl (am_ccR i0 am_cats_0) rfl) z1) (am_hc am_cats_0 rfl) (fun _ => ⟨rfl, hh_555⟩) (fun o1 hz9 => rm_442 x0 h o1 i0 hz9) ?_
  rcases am_cV_s hs1 with ⟨h3, f4, hs2⟩ | hs2
  · clear hs1
    refine Or.inl ⟨_, _, f4, ?_⟩
    show am_W X _ 555 134 _ [] h3 _
    refine aw_iload_n (pc1 := 135) at_555_134 l3 rfl ?_
    by_cases c5 : x3 = 0
    · rw [if_pos c5] at hs2
      refine aw_ifeq_t at_555_135 c5 ?_
      exact rg_555_150 h3 o   hs2
    · rw [if_neg c5] at hs2
      refine aw_ifeq_f (pc1 := 138) at_555_135 c5 rfl ?_
      refine aw_vload_n (pc1 := 139) at_555_138 l0 i0 rfl ?_
      refine aw_iload_n (pc1 := 140) at_555_139 l2 rfl ?_
      obtain ⟨z6, hs3⟩ := am_ift hs2
      clear hs2
      refine aw_call (F := fm_375 N x0 x2 h3) (t := true) (na := 2) (kd := 1) (as := [x0, (.int x2)]) at_555_140 (am_k3v kb_375) mn_375 mk_375 rfl rfl (am_ok_v mi_375 (am_hl rfl (am_ccR i0 (am_ccI am_cats_0)) rfl) z6) (am_hc am_cats_0 rfl) (fun _ => ⟨rfl, hh_555⟩) (fun o1 hz9 => rm_375 x0 x2 h3 o1 i0 hz9) ?_
      rcases am_cI_s hs3 with ⟨v7, h8, f9, hs4⟩ | hs4
      · clear hs3
        refine Or.inl ⟨_, _, f9, ?_⟩
        show am_W X _ 555 143 _ [(.int v7)] h8 _
        by_cases c10 : v7 = 0
        · rw [if_pos c10] at hs4
          refine aw_ifeq_t at_555_143 c10 ?_
          exact rg_555_150 h8 o   hs4
        · rw [if_neg c10] at hs4
          refine aw_ifeq_f (pc1 := 146) at_555_143 c10 rfl ?_
          refine aw_iconst (v := 1) (pc1 := 147) at_555_146 (by decide) rfl ?_
          refine aw_goto at_555_147 ?_
          exact rg_555_151 1 h8 o   hs4
      · clear hs3
        exact Or.inr hs4
  · clear hs1
    exact Or.inr hs2
def fg_555_124 (N : Nat) (rec_62 : Value → Int32 → Int32 → Int32 → am_H → Option am_O) (x0 : Value) (x2 : Int32) (x3 : Int32) (x4 : Int32) (h : am_H) : Option am_O := (rec_62 x0 x2 x3 ((x4 + 1)) h)
theorem rg_555_124 {X : am_X} {d : Nat} {N : Nat} {rec_62 : Value → Int32 → Int32 → Int32 → am_H → Option am_O} (q_62 : ∀ (x0 : Value) (x2 : Int32) (x3 : Int32) (x4 : Int32) (h : am_H) (o : am_O), rec_62 x0 x2 x3 x4 h = some o → ∀ lv : am_LV, (lv.lookup 0 = some x0) → (lv.lookup 2 = some (.int x2)) → (lv.lookup 3 = some (.int x3)) → (lv.lookup 4 = some (.int x4)) → (am_isR x0 = true) → am_W X (d + 5) 555 62 lv [] h (fun q => q = o)) {lv : am_LV} (x0 : Value) (x2 : Int32) (x3 : Int32) (x4 : Int32) (h : am_H) (o : am_O) (l0 : lv.lookup 0 = some x0) (l2 : lv.lookup 2 = some (.int x2)) (l3 : lv.lookup 3 = some (.int x3)) (l4 : lv.lookup 4 = some (.int x4)) (i0 : am_isR x0 = true) (hs : fg_555_124 N rec_62 x0 x2 x3 x4 h = some o) : am_W X (d + 5) 555 124 lv [] h (fun q => q = o) := by
  unfold fg_555_124 at hs
  refine aw_iinc (v := (x4 + 1)) (c := 1) (lv1 := am_put1 _ 4 _) (pc1 := 127) at_555_124 l4 (by decide) rfl rfl rfl ?_
  refine aw_goto at_555_127 ?_
  exact q_62 x0 x2 x3 ((x4 + 1)) h o hs _ (am_lk1 l0 rfl rfl) (am_lk1 l2 rfl rfl) (am_lk1 l3 rfl rfl) am_lk0 i0
def fg_555_115 (N : Nat) (rec_62 : Value → Int32 → Int32 → Int32 → am_H → Option am_O) (x0 : Value) (x2 : Int32) (x4 : Int32) (s0 : Int32) (h : am_H) : Option am_O := (if s0 = 0 then (fg_555_124 N rec_62 x0 x2 s0 x4 h) else (if am_pOk 12 x0 h then am_cV true (fm_495 N x0 h) (fun h4 => (fg_555_124 N rec_62 x0 x2 s0 x4 h4)) else none))
theorem rg_555_115 {X : am_X} {d : Nat} {N : Nat} {rec_62 : Value → Int32 → Int32 → Int32 → am_H → Option am_O} (q_62 : ∀ (x0 : Value) (x2 : Int32) (x3 : Int32) (x4 : Int32) (h : am_H) (o : am_O), rec_62 x0 x2 x3 x4 h = some o → ∀ lv : am_LV, (lv.lookup 0 = some x0) → (lv.lookup 2 = some (.int x2)) → (lv.lookup 3 = some (.int x3)) → (lv.lookup 4 = some (.int x4)) → (am_isR x0 = true) → am_W X (d + 5) 555 62 lv [] h (fun q => q = o)) {lv : am_LV} (x0 : Value) (x2 : Int32) (x4 : Int32) (s0 : Int32) (h : am_H) (o : am_O) (l0 : lv.lookup 0 = some x0) (l2 : lv.lookup 2 = some (.int x2)) (l4 : lv.lookup 4 = some (.int x4)) (i0 : am_isR x0 = true) (hs : fg_555_115 N rec_62 x0 x2 x4 s0 h = some o) : am_W X (d + 5) 555 115 lv [(.int s0)] h (fun q => q = o) := by
  unfold fg_555_115 at hs
  refine aw_istore_n (lv1 := am_put1 _ 3 _) (pc1 := 116) at_555_115 rfl rfl ?_
  refine aw_iload_n (pc1 := 117) at_555_116 am_lk0 rfl ?_
  by_cases c1 : s0 = 0
  · rw [if_pos c1] at hs
    refine aw_ifeq_t at_555_117 c1 ?_
    exact rg_555_124 q_62 x0 x2 s0 x4 h o (am_lk1 l0 rfl rfl) (am_lk1 l2 rfl rfl) am_lk0 (am_lk1 l4 rfl rfl) i0 hs
  · rw [if_neg c1] at hs
    refine aw_ifeq_f (pc1 := 120) at_555_117 c1 rfl ?_
    refine aw_vload_n (pc1 := 121) at_555_120 (am_lk1 l0 rfl rfl) i0 rfl ?_
    obtain ⟨z2, hs1⟩ := am_ift hs
    clear hs
    refine aw_call (F := fm_495 N x0 h) (t := true) (na := 1) (kd := 1) (as := [x0]) at_555_121 (am_k3v kb_495) mn_495 mk_495 rfl rfl (am_ok_v mi_495 (am_hl rfl (am_ccR i0 am_cats_0) rfl) z2) (am_hc am_cats_0 rfl) (fun _ => ⟨rfl, hh_555⟩) (fun o1 hz9 => rm_495 x0 h o1 i0 hz9) ?_
    rcases am_cV_s hs1 with ⟨h4, f5, hs2⟩ | hs2
    · clear hs1
      refine Or.inl ⟨_, _, f5, ?_⟩
      show am_W X _ 555 124 _ [] h4 _
      exact rg_555_124 q_62 x0 x2 s0 x4 h4 o (am_lk1 l0 rfl rfl) (am_lk1 l2 rfl rfl) am_lk0 (am_lk1 l4 rfl rfl) i0 hs2
    · clear hs1
      exact Or.inr hs2
def fg_555_114 (N : Nat) (rec_62 : Value → Int32 → Int32 → Int32 → am_H → Option am_O) (x0 : Value) (x2 : Int32) (x4 : Int32) (h : am_H) : Option am_O := (fg_555_115 N rec_62 x0 x2 x4 0 h)
theorem rg_555_114 {X : am_X} {d : Nat} {N : Nat} {rec_62 : Value → Int32 → Int32 → Int32 → am_H → Option am_O} (q_62 : ∀ (x0 : Value) (x2 : Int32) (x3 : Int32) (x4 : Int32) (h : am_H) (o : am_O), rec_62 x0 x2 x3 x4 h = some o → ∀ lv : am_LV, (lv.lookup 0 = some x0) → (lv.lookup 2 = some (.int x2)) → (lv.lookup 3 = some (.int x3)) → (lv.lookup 4 = some (.int x4)) → (am_isR x0 = true) → am_W X (d + 5) 555 62 lv [] h (fun q => q = o)) {lv : am_LV} (x0 : Value) (x2 : Int32) (x4 : Int32) (h : am_H) (o : am_O) (l0 : lv.lookup 0 = some x0) (l2 : lv.lookup 2 = some (.int x2)) (l4 : lv.lookup 4 = some (.int x4)) (i0 : am_isR x0 = true) (hs : fg_555_114 N rec_62 x0 x2 x4 h = some o) : am_W X (d + 5) 555 114 lv [] h (fun q => q = o) := by
  unfold fg_555_114 at hs
  refine aw_iconst (v := 0) (pc1 := 115) at_555_114 (by decide) rfl ?_
  exact rg_555_115 q_62 x0 x2 x4 0 h o l0 l2 l4 i0 hs
def fg_555_62 (N : Nat) : Nat → Value → Int32 → Int32 → Int32 → am_H → Option am_O
  | 0 => fun _ _ _ _ _ => none
  | K + 1 => fun x0 x2 x3 x4 h => ((am_vI (am_pG 3187 x0 h)).bind fun v1 => (if v1 ≤ x4 then (fg_555_130 N x0 x2 x3 h) else (if x3 = 0 then (fg_555_130 N x0 x2 x3 h) else ((am_vR (am_pG 3188 x0 h)).bind fun v5 => ((am_pA 0 v5 x4 h).bind fun v7 => ((am_vI (am_pG 3090 x0 h)).bind fun v9 => (if v9 ≤ v7 then (fg_555_114 N (fg_555_62 N K) x0 x2 x4 h) else ((am_vR (am_pG 3188 x0 h)).bind fun v12 => ((am_pA 0 v12 x4 h).bind fun v14 => ((am_vR (am_pG 3189 x0 h)).bind fun v16 => ((am_pA 0 v16 x4 h).bind fun v18 => (if am_pOk 12 x0 h then am_cI true (fm_538 N x0 v14 v18 h) (fun v21 h22 => (if v21 = 0 then (fg_555_114 N (fg_555_62 N K) x0 x2 x4 h22) else (fg_555_115 N (fg_555_62 N K) x0 x2 x4 1 h22))) else none))))))))))))
theorem rg_555_62 {X : am_X} {d : Nat} {N : Nat} : ∀ (K : Nat) (x0 : Value) (x2 : Int32) (x3 : Int32) (x4 : Int32) (h : am_H) (o : am_O), fg_555_62 N K x0 x2 x3 x4 h = some o → ∀ lv : am_LV, (lv.lookup 0 = some x0) → (lv.lookup 2 = some (.int x2)) → (lv.lookup 3 = some (.int x3)) → (lv.lookup 4 = some (.int x4)) → (am_isR x0 = true) → am_W X (d + 5) 555 62 lv [] h (fun q => q = o) := by
  intro K
  induction K with
  | zero => intro x0 x2 x3 x4 h o hs; cases hs
  | succ K ih =>
    intro x0 x2 x3 x4 h o hs lv l0 l2 l3 l4 i0
    unfold fg_555_62 at hs
    refine aw_iload (pc1 := 64) at_555_62 l4 rfl ?_
    refine aw_vload_n (pc1 := 65) at_555_64 l0 i0 rfl ?_
    obtain ⟨v1, e2, hs1⟩ := am_bind hs
    clear hs
    refine aw_pG (pc1 := 68) at_555_65 (am_vI_s e2) rfl ?_
    by_cases c3 : v1 ≤ x4
    · rw [if_pos c3] at hs1
      refine aw_icge_t at_555_68 c3 ?_
      exact rg_555_130 x0 x2 x3 h o l0 l2 l3 i0 hs1
    · rw [if_neg c3] at hs1
      refine aw_icge_f (pc1 := 71) at_555_68 c3 rfl ?_
      refine aw_iload_n (pc1 := 72) at_555_71 l3 rfl ?_
      by_cases c4 : x3 = 0
      · rw [if_pos c4] at hs1
        refine aw_ifeq_t at_555_72 c4 ?_
        exact rg_555_130 x0 x2 x3 h o l0 l2 l3 i0 hs1
      · rw [if_neg c4] at hs1
        refine aw_ifeq_f (pc1 := 75) at_555_72 c4 rfl ?_
        refine aw_vload_n (pc1 := 76) at_555_75 l0 i0 rfl ?_
        obtain ⟨v5, e6, hs2⟩ := am_bind hs1
        clear hs1
        refine aw_pG (pc1 := 79) at_555_76 (am_vR_s e6).1 rfl ?_
        refine aw_iload (pc1 := 81) at_555_79 l4 rfl ?_
        obtain ⟨v7, e8, hs3⟩ := am_bind hs2
        clear hs2
        refine aw_pA (pc1 := 82) at_555_81 (Or.inl ⟨rfl, rfl⟩) e8 rfl ?_
        refine aw_vload_n (pc1 := 83) at_555_82 l0 i0 rfl ?_
        obtain ⟨v9, e10, hs4⟩ := am_bind hs3
        clear hs3
        refine aw_pG (pc1 := 86) at_555_83 (am_vI_s e10) rfl ?_
        by_cases c11 : v9 ≤ v7
        · rw [if_pos c11] at hs4
          refine aw_icge_t at_555_86 c11 ?_
          exact rg_555_114 (fun z0 z1 z2 z3 h o hs4 => ih z0 z1 z2 z3 h o hs4) x0 x2 x4 h o l0 l2 l4 i0 hs4
        · rw [if_neg c11] at hs4
          refine aw_icge_f (pc1 := 89) at_555_86 c11 rfl ?_
          refine aw_vload_n (pc1 := 90) at_555_89 l0 i0 rfl ?_
          refine aw_vload_n (pc1 := 91) at_555_90 l0 i0 rfl ?_
          obtain ⟨v12, e13, hs5⟩ := am_bind hs4
          clear hs4
          refine aw_pG (pc1 := 94) at_555_91 (am_vR_s e13).1 rfl ?_
          refine aw_iload (pc1 := 96) at_555_94 l4 rfl ?_
          obtain ⟨v14, e15, hs6⟩ := am_bind hs5
          clear hs5
          refine aw_pA (pc1 := 97) at_555_96 (Or.inl ⟨rfl, rfl⟩) e15 rfl ?_
          refine aw_vload_n (pc1 := 98) at_555_97 l0 i0 rfl ?_
          obtain ⟨v16, e17, hs7⟩ := am_bind hs6
          clear hs6
          refine aw_pG (pc1 := 101) at_555_98 (am_vR_s e17).1 rfl ?_
          refine aw_iload (pc1 := 103) at_555_101 l4 rfl ?_
          obtain ⟨v18, e19, hs8⟩ := am_bind hs7
          clear hs7
          refine aw_pA (pc1 := 104) at_555_103 (Or.inl ⟨rfl, rfl⟩) e19 rfl ?_
          obtain ⟨z20, hs9⟩ := am_ift hs8
          clear hs8
          refine aw_call (F := fm_538 N x0 v14 v18 h) (t := true) (na := 3) (kd := 1) (as := [x0, (.int v14), (.int v18)]) at_555_104 (am_k3v kb_538) mn_538 mk_538 rfl rfl (am_ok_v mi_538 (am_hl rfl (am_ccR i0 (am_ccI (am_ccI am_cats_0))) rfl) z20) (am_hc am_cats_0 rfl) (fun _ => ⟨rfl, hh_555⟩) (fun o1 hz9 => rm_538 x0 v14 v18 h o1 i0 hz9) ?_
          rcases am_cI_s hs9 with ⟨v21, h22, f23, hs10⟩ | hs10
          · clear hs9
            refine Or.inl ⟨_, _, f23, ?_⟩
            show am_W X _ 555 107 _ [(.int v21)] h22 _
            by_cases c24 : v21 = 0
            · rw [if_pos c24] at hs10
              refine aw_ifeq_t at_555_107 c24 ?_
              exact rg_555_114 (fun z0 z1 z2 z3 h o hs10 => ih z0 z1 z2 z3 h o hs10) x0 x2 x4 h22 o l0 l2 l4 i0 hs10
            · rw [if_neg c24] at hs10
              refine aw_ifeq_f (pc1 := 110) at_555_107 c24 rfl ?_
              refine aw_iconst (v := 1) (pc1 := 111) at_555_110 (by decide) rfl ?_
              refine aw_goto at_555_111 ?_
              exact rg_555_115 (fun z0 z1 z2 z3 h o hs10 => ih z0 z1 z2 z3 h o hs10) x0 x2 x4 1 h22 o l0 l2 l4 i0 hs10
          · clear hs9
            exact Or.inr hs10
def fg_555_50 (N : Nat) (h : am_H) : Option am_O := some (.inl (some (.int 0), h))
theorem rg_555_50 {X : am_X} {d : Nat} {N : Nat} {lv : am_LV} (h : am_H) (o : am_O) (hs : fg_555_50 N h = some o) : am_W X (d + 5) 555 50 lv [] h (fun q => q = o) := by
  unfold fg_555_50 at hs
  refine aw_iconst (v := 0) (pc1 := 51) at_555_50 (by decide) rfl ?_
  cases hs
  exact aw_iret at_555_51 (by rw [rt_555]; decide) rfl
def fg_555_22 (N : Nat) (x0 : Value) (x1 : Int32) (x2 : Int32) (s0 : Value) (s1 : Int32) (h : am_H) : Option am_O := ((am_pP 3072 s0 (.int s1) h).bind fun h1 => ((am_vI (am_pG 3072 x0 h1)).bind fun v3 => (if 0 < v3 then (fg_555_50 N h1) else ((am_vR (am_pG 3074 x0 h1)).bind fun v6 => ((am_pA 0 v6 x1 h1).bind fun v8 => (if ¬ v8 = 0 then (fg_555_50 N h1) else ((am_vR (am_pG 3074 x0 h1)).bind fun v11 => ((am_pA 0 v11 x2 h1).bind fun v13 => (if v13 = 0 then (if am_pOk 12 x0 h1 then am_cV true (fm_391 N x0 x1 h1) (fun h18 => (fg_555_62 N N x0 x2 1 0 h18)) else none) else (fg_555_50 N h1))))))))))
theorem rg_555_22 {X : am_X} {d : Nat} {N : Nat} {lv : am_LV} (x0 : Value) (x1 : Int32) (x2 : Int32) (s0 : Value) (s1 : Int32) (h : am_H) (o : am_O) (l0 : lv.lookup 0 = some x0) (l1 : lv.lookup 1 = some (.int x1)) (l2 : lv.lookup 2 = some (.int x2)) (i0 : am_isR x0 = true) (j0 : am_isR s0 = true) (hs : fg_555_22 N x0 x1 x2 s0 s1 h = some o) : am_W X (d + 5) 555 22 lv [(.int s1), s0] h (fun q => q = o) := by
  unfold fg_555_22 at hs
  obtain ⟨h1, e2, hs1⟩ := am_bind hs
  clear hs
  refine aw_pP (pc1 := 25) at_555_22 e2 rfl ?_
  refine aw_vload_n (pc1 := 26) at_555_25 l0 i0 rfl ?_
  obtain ⟨v3, e4, hs2⟩ := am_bind hs1
  clear hs1
  refine aw_pG (pc1 := 29) at_555_26 (am_vI_s e4) rfl ?_
  by_cases c5 : 0 < v3
  · rw [if_pos c5] at hs2
    refine aw_ifgt_t at_555_29 c5 ?_
    exact rg_555_50 h1 o   hs2
  · rw [if_neg c5] at hs2
    refine aw_ifgt_f (pc1 := 32) at_555_29 c5 rfl ?_
    refine aw_vload_n (pc1 := 33) at_555_32 l0 i0 rfl ?_
    obtain ⟨v6, e7, hs3⟩ := am_bind hs2
    clear hs2
    refine aw_pG (pc1 := 36) at_555_33 (am_vR_s e7).1 rfl ?_
    refine aw_iload_n (pc1 := 37) at_555_36 l1 rfl ?_
    obtain ⟨v8, e9, hs4⟩ := am_bind hs3
    clear hs3
    refine aw_pA (pc1 := 38) at_555_37 (Or.inl ⟨rfl, rfl⟩) e9 rfl ?_
    by_cases c10 : ¬ v8 = 0
    · rw [if_pos c10] at hs4
      refine aw_ifne_t at_555_38 c10 ?_
      exact rg_555_50 h1 o   hs4
    · rw [if_neg c10] at hs4
      refine aw_ifne_f (pc1 := 41) at_555_38 c10 rfl ?_
      refine aw_vload_n (pc1 := 42) at_555_41 l0 i0 rfl ?_
      obtain ⟨v11, e12, hs5⟩ := am_bind hs4
      clear hs4
      refine aw_pG (pc1 := 45) at_555_42 (am_vR_s e12).1 rfl ?_
      refine aw_iload_n (pc1 := 46) at_555_45 l2 rfl ?_
      obtain ⟨v13, e14, hs6⟩ := am_bind hs5
      clear hs5
      refine aw_pA (pc1 := 47) at_555_46 (Or.inl ⟨rfl, rfl⟩) e14 rfl ?_
      by_cases c15 : v13 = 0
      · rw [if_pos c15] at hs6
        refine aw_ifeq_t at_555_47 c15 ?_
        refine aw_vload_n (pc1 := 53) at_555_52 l0 i0 rfl ?_
        refine aw_iload_n (pc1 := 54) at_555_53 l1 rfl ?_
        obtain ⟨z16, hs7⟩ := am_ift hs6
        clear hs6
        refine aw_call (F := fm_391 N x0 x1 h1) (t := true) (na := 2) (kd := 1) (as := [x0, (.int x1)]) at_555_54 (am_k3v kb_391) mn_391 mk_391 rfl rfl (am_ok_v mi_391 (am_hl rfl (am_ccR i0 (am_ccI am_cats_0)) rfl) z16) (am_hc am_cats_0 rfl) (fun _ => ⟨rfl, hh_555⟩) (fun o1 hz9 => rm_391 x0 x1 h1 o1 i0 hz9) ?_
        rcases am_cV_s hs7 with ⟨h18, f19, hs8⟩ | hs8
        · clear hs7
          refine Or.inl ⟨_, _, f19, ?_⟩
          show am_W X _ 555 57 _ [] h18 _
          refine aw_iconst (v := 1) (pc1 := 58) at_555_57 (by decide) rfl ?_
          refine aw_istore_n (lv1 := am_put1 _ 3 _) (pc1 := 59) at_555_58 rfl rfl ?_
          refine aw_iconst (v := 0) (pc1 := 60) at_555_59 (by decide) rfl ?_
          refine aw_istore (lv1 := am_put1 _ 4 _) (pc1 := 62) at_555_60 rfl rfl ?_
          exact rg_555_62 N x0 x2 1 0 h18 o hs8 _ (am_lk1 (am_lk1 l0 rfl rfl) rfl rfl) (am_lk1 (am_lk1 l2 rfl rfl) rfl rfl) (am_lk1 am_lk0 rfl rfl) am_lk0 i0
        · clear hs7
          exact Or.inr hs8
      · rw [if_neg c15] at hs6
        refine aw_ifeq_f (pc1 := 50) at_555_47 c15 rfl ?_
        exact rg_555_50 h1 o   hs6
def fg_555_21 (N : Nat) (x0 : Value) (x1 : Int32) (x2 : Int32) (s0 : Value) (h : am_H) : Option am_O := (fg_555_22 N x0 x1 x2 s0 1 h)
theorem rg_555_21 {X : am_X} {d : Nat} {N : Nat} {lv : am_LV} (x0 : Value) (x1 : Int32) (x2 : Int32) (s0 : Value) (h : am_H) (o : am_O) (l0 : lv.lookup 0 = some x0) (l1 : lv.lookup 1 = some (.int x1)) (l2 : lv.lookup 2 = some (.int x2)) (i0 : am_isR x0 = true) (j0 : am_isR s0 = true) (hs : fg_555_21 N x0 x1 x2 s0 h = some o) : am_W X (d + 5) 555 21 lv [s0] h (fun q => q = o) := by
  unfold fg_555_21 at hs
  refine aw_iconst (v := 1) (pc1 := 22) at_555_21 (by decide) rfl ?_
  exact rg_555_22 x0 x1 x2 s0 1 h o l0 l1 l2 i0 j0 hs
def fg_555_0 (N : Nat) (x0 : Value) (x1 : Int32) (x2 : Int32) (h : am_H) : Option am_O := (if am_pOk 12 x0 h then am_cI true (fm_358 x0 x1 h) (fun v2 h3 => (if v2 = 0 then (fg_555_21 N x0 x1 x2 x0 h3) else (if am_pOk 12 x0 h3 then am_cI true (fm_358 x0 x2 h3) (fun v7 h8 => (if v7 = 0 then (fg_555_21 N x0 x1 x2 x0 h8) else (fg_555_22 N x0 x1 x2 x0 0 h8))) else none))) else none)
theorem rg_555_0 {X : am_X} {d : Nat} {N : Nat} {lv : am_LV} (x0 : Value) (x1 : Int32) (x2 : Int32) (h : am_H) (o : am_O) (l0 : lv.lookup 0 = some x0) (l1 : lv.lookup 1 = some (.int x1)) (l2 : lv.lookup 2 = some (.int x2)) (i0 : am_isR x0 = true) (hs : fg_555_0 N x0 x1 x2 h = some o) : am_W X (d + 5) 555 0 lv [] h (fun q => q = o) := by
  unfold fg_555_0 at hs
  refine aw_vload_n (pc1 := 1) at_555_0 l0 i0 rfl ?_
  refine aw_vload_n (pc1 := 2) at_555_1 l0 i0 rfl ?_
  refine aw_iload_n (pc1 := 3) at_555_2 l1 rfl ?_
  obtain ⟨z1, hs1⟩ := am_ift hs
  clear hs
  refine aw_call (F := fm_358 x0 x1 h) (t := true) (na := 2) (kd := 1) (as := [x0, (.int x1)]) at_555_3 (am_k3v kb_358) mn_358 mk_358 rfl rfl (am_ok_v mi_358 (am_hl rfl (am_ccR i0 (am_ccI am_cats_0)) rfl) z1) (am_hc (am_ccR i0 am_cats_0) rfl) (fun _ => ⟨rfl, hh_555⟩) (fun o1 hz9 => rm_358 x0 x1 h o1 i0 hz9) ?_
  rcases am_cI_s hs1 with ⟨v2, h3, f4, hs2⟩ | hs2
  · clear hs1
    refine Or.inl ⟨_, _, f4, ?_⟩
    show am_W X _ 555 6 _ [(.int v2), x0] h3 _
    by_cases c5 : v2 = 0
    · rw [if_pos c5] at hs2
      refine aw_ifeq_t at_555_6 c5 ?_
      exact rg_555_21 x0 x1 x2 x0 h3 o l0 l1 l2 i0 i0 hs2
    · rw [if_neg c5] at hs2
      refine aw_ifeq_f (pc1 := 9) at_555_6 c5 rfl ?_
      refine aw_vload_n (pc1 := 10) at_555_9 l0 i0 rfl ?_
      refine aw_iload_n (pc1 := 11) at_555_10 l2 rfl ?_
      obtain ⟨z6, hs3⟩ := am_ift hs2
      clear hs2
      refine aw_call (F := fm_358 x0 x2 h3) (t := true) (na := 2) (kd := 1) (as := [x0, (.int x2)]) at_555_11 (am_k3v kb_358) mn_358 mk_358 rfl rfl (am_ok_v mi_358 (am_hl rfl (am_ccR i0 (am_ccI am_cats_0)) rfl) z6) (am_hc (am_ccR i0 am_cats_0) rfl) (fun _ => ⟨rfl, hh_555⟩) (fun o1 hz9 => rm_358 x0 x2 h3 o1 i0 hz9) ?_
      rcases am_cI_s hs3 with ⟨v7, h8, f9, hs4⟩ | hs4
      · clear hs3
        refine Or.inl ⟨_, _, f9, ?_⟩
        show am_W X _ 555 14 _ [(.int v7), x0] h8 _
        by_cases c10 : v7 = 0
        · rw [if_pos c10] at hs4
          refine aw_ifeq_t at_555_14 c10 ?_
          exact rg_555_21 x0 x1 x2 x0 h8 o l0 l1 l2 i0 i0 hs4
        · rw [if_neg c10] at hs4
          refine aw_ifeq_f (pc1 := 17) at_555_14 c10 rfl ?_
          refine aw_iconst (v := 0) (pc1 := 18) at_555_17 (by decide) rfl ?_
          refine aw_goto at_555_18 ?_
          exact rg_555_22 x0 x1 x2 x0 0 h8 o l0 l1 l2 i0 i0 hs4
      · clear hs3
        exact Or.inr hs4
  · clear hs1
    exact Or.inr hs2
def fm_555 (N : Nat) (y0 : Value) (y1 : Int32) (y2 : Int32) (h : am_H) : Option am_O := fg_555_0 N y0 y1 y2 h
theorem rm_555 {X : am_X} {d : Nat} {N : Nat} (y0 : Value) (y1 : Int32) (y2 : Int32) (h : am_H) (o : am_O) (i0 : am_isR y0 = true) (hs : fm_555 N y0 y1 y2 h = some o) : am_W X (d + 5) 555 0 (am_args 0 [y0, .int y1, .int y2]) [] h (fun q => q = o) := by
  rw [am_args_R i0, am_args_I, am_args_I]
  exact rg_555_0 y0 y1 y2 h o rfl rfl rfl i0 hs
def fg_289_79 (N : Nat) (rec_50 : Value → Value → Int32 → Int32 → am_H → Option am_O) (x0 : Value) (x2 : Value) (x4 : Int32) (x5 : Int32) (h : am_H) : Option am_O := ((am_vR (am_pG 2569 x0 h)).bind fun v1 => ((am_pA 0 v1 x4 h).bind fun v3 => (rec_50 x0 x2 ((v3 / 4)) ((x5 + (-1))) h)))
theorem rg_289_79 {X : am_X} {d : Nat} {N : Nat} {rec_50 : Value → Value → Int32 → Int32 → am_H → Option am_O} (q_50 : ∀ (x0 : Value) (x2 : Value) (x4 : Int32) (x5 : Int32) (h : am_H) (o : am_O), rec_50 x0 x2 x4 x5 h = some o → ∀ lv : am_LV, (lv.lookup 0 = some x0) → (lv.lookup 2 = some x2) → (lv.lookup 4 = some (.int x4)) → (lv.lookup 5 = some (.int x5)) → (am_isR x0 = true) → (am_isR x2 = true) → am_W X (d + 1) 289 50 lv [] h (fun q => q = o)) {lv : am_LV} (x0 : Value) (x2 : Value) (x4 : Int32) (x5 : Int32) (h : am_H) (o : am_O) (l0 : lv.lookup 0 = some x0) (l2 : lv.lookup 2 = some x2) (l4 : lv.lookup 4 = some (.int x4)) (l5 : lv.lookup 5 = some (.int x5)) (i0 : am_isR x0 = true) (i2 : am_isR x2 = true) (hs : fg_289_79 N rec_50 x0 x2 x4 x5 h = some o) : am_W X (d + 1) 289 79 lv [] h (fun q => q = o) := by
  unfold fg_289_79 at hs
  refine aw_vload_n (pc1 := 80) at_289_79 l0 i0 rfl ?_
  obtain ⟨v1, e2, hs1⟩ := am_bind hs
  clear hs
  refine aw_pG (pc1 := 83) at_289_80 (am_vR_s e2).1 rfl ?_
  refine aw_iload (pc1 := 85) at_289_83 l4 rfl ?_
  obtain ⟨v3, e4, hs2⟩ := am_bind hs1
  clear hs1
  refine aw_pA (pc1 := 86) at_289_85 (Or.inl ⟨rfl, rfl⟩) e4 rfl ?_
  refine aw_iconst (v := 4) (pc1 := 87) at_289_86 (by decide) rfl ?_
  refine aw_idiv (v := (v3 / 4)) (pc1 := 88) at_289_87 (by decide) rfl rfl ?_
  refine aw_istore (lv1 := am_put1 _ 4 _) (pc1 := 90) at_289_88 rfl rfl ?_
  refine aw_iinc (v := (x5 + (-1))) (c := (-1)) (lv1 := am_put1 _ 5 _) (pc1 := 93) at_289_90 (am_lk1 l5 rfl rfl) (by decide) rfl rfl rfl ?_
  refine aw_goto at_289_93 ?_
  exact q_50 x0 x2 ((v3 / 4)) ((x5 + (-1))) h o hs2 _ (am_lk1 (am_lk1 l0 rfl rfl) rfl rfl) (am_lk1 (am_lk1 l2 rfl rfl) rfl rfl) (am_lk1 am_lk0 rfl rfl) am_lk0 i0 i2
def fg_289_50 (N : Nat) : Nat → Value → Value → Int32 → Int32 → am_H → Option am_O
  | 0 => fun _ _ _ _ _ => none
  | K + 1 => fun x0 x2 x4 x5 h => (if x5 < 0 then some (.inl (none, h)) else ((am_pLen x2 h).bind fun v2 => (if v2 ≤ (4 + x5) then (fg_289_79 N (fg_289_50 N K) x0 x2 x4 x5 h) else ((am_vR (am_pG 2569 x0 h)).bind fun v5 => ((am_pA 0 v5 x4 h).bind fun v7 => ((am_pS 0 x2 (4 + x5) (v7 - v7 / 4 * 4) h).bind fun h9 => (fg_289_79 N (fg_289_50 N K) x0 x2 x4 x5 h9)))))))
theorem rg_289_50 {X : am_X} {d : Nat} {N : Nat} : ∀ (K : Nat) (x0 : Value) (x2 : Value) (x4 : Int32) (x5 : Int32) (h : am_H) (o : am_O), fg_289_50 N K x0 x2 x4 x5 h = some o → ∀ lv : am_LV, (lv.lookup 0 = some x0) → (lv.lookup 2 = some x2) → (lv.lookup 4 = some (.int x4)) → (lv.lookup 5 = some (.int x5)) → (am_isR x0 = true) → (am_isR x2 = true) → am_W X (d + 1) 289 50 lv [] h (fun q => q = o) := by
  intro K
  induction K with
  | zero => intro x0 x2 x4 x5 h o hs; cases hs
  | succ K ih =>
    intro x0 x2 x4 x5 h o hs lv l0 l2 l4 l5 i0 i2
    unfold fg_289_50 at hs
    refine aw_iload (pc1 := 52) at_289_50 l5 rfl ?_
    by_cases c1 : x5 < 0
    · rw [if_pos c1] at hs
      refine aw_iflt_t at_289_52 c1 ?_
      cases hs
      exact aw_vret at_289_96 rt_289 rfl
    · rw [if_neg c1] at hs
      refine aw_iflt_f (pc1 := 55) at_289_52 c1 rfl ?_
      refine aw_iconst (v := 4) (pc1 := 56) at_289_55 (by decide) rfl ?_
      refine aw_iload (pc1 := 58) at_289_56 l5 rfl ?_
      refine aw_iadd (v := (4 + x5)) (pc1 := 59) at_289_58 rfl rfl ?_
      refine aw_vload_n (pc1 := 60) at_289_59 l2 i2 rfl ?_
      obtain ⟨v2, e3, hs1⟩ := am_bind hs
      clear hs
      refine aw_pLen (pc1 := 61) at_289_60 e3 rfl ?_
      by_cases c4 : v2 ≤ (4 + x5)
      · rw [if_pos c4] at hs1
        refine aw_icge_t at_289_61 c4 ?_
        exact rg_289_79 (fun z0 z1 z2 z3 h o hs1 => ih z0 z1 z2 z3 h o hs1) x0 x2 x4 x5 h o l0 l2 l4 l5 i0 i2 hs1
      · rw [if_neg c4] at hs1
        refine aw_icge_f (pc1 := 64) at_289_61 c4 rfl ?_
        refine aw_vload_n (pc1 := 65) at_289_64 l2 i2 rfl ?_
        refine aw_iconst (v := 4) (pc1 := 66) at_289_65 (by decide) rfl ?_
        refine aw_iload (pc1 := 68) at_289_66 l5 rfl ?_
        refine aw_iadd (v := (4 + x5)) (pc1 := 69) at_289_68 rfl rfl ?_
        refine aw_vload_n (pc1 := 70) at_289_69 l0 i0 rfl ?_
        obtain ⟨v5, e6, hs2⟩ := am_bind hs1
        clear hs1
        refine aw_pG (pc1 := 73) at_289_70 (am_vR_s e6).1 rfl ?_
        refine aw_iload (pc1 := 75) at_289_73 l4 rfl ?_
        obtain ⟨v7, e8, hs3⟩ := am_bind hs2
        clear hs2
        refine aw_pA (pc1 := 76) at_289_75 (Or.inl ⟨rfl, rfl⟩) e8 rfl ?_
        refine aw_iconst (v := 4) (pc1 := 77) at_289_76 (by decide) rfl ?_
        refine aw_irem (v := (v7 - v7 / 4 * 4)) (pc1 := 78) at_289_77 (by decide) rfl rfl ?_
        obtain ⟨h9, e10, hs4⟩ := am_bind hs3
        clear hs3
        refine aw_pS (pc1 := 79) at_289_78 (Or.inl ⟨rfl, rfl⟩) e10 rfl ?_
        exact rg_289_79 (fun z0 z1 z2 z3 h o hs4 => ih z0 z1 z2 z3 h o hs4) x0 x2 x4 x5 h9 o l0 l2 l4 l5 i0 i2 hs4
def fg_289_33 (N : Nat) (x0 : Value) (x1 : Int32) (x2 : Value) (x3 : Int32) (h : am_H) : Option am_O := am_cV false (fm_53 N x2 0 h) (fun h2 => ((am_pS 0 x2 3 x3 h2).bind fun h4 => (fg_289_50 N N x0 x2 x1 ((x3 - 1)) h4)))
theorem rg_289_33 {X : am_X} {d : Nat} {N : Nat} {lv : am_LV} (x0 : Value) (x1 : Int32) (x2 : Value) (x3 : Int32) (h : am_H) (o : am_O) (l0 : lv.lookup 0 = some x0) (l1 : lv.lookup 1 = some (.int x1)) (l2 : lv.lookup 2 = some x2) (l3 : lv.lookup 3 = some (.int x3)) (i0 : am_isR x0 = true) (i2 : am_isR x2 = true) (hs : fg_289_33 N x0 x1 x2 x3 h = some o) : am_W X (d + 1) 289 33 lv [] h (fun q => q = o) := by
  unfold fg_289_33 at hs
  refine aw_vload_n (pc1 := 34) at_289_33 l2 i2 rfl ?_
  refine aw_iconst (v := 0) (pc1 := 35) at_289_34 (by decide) rfl ?_
  refine aw_call (F := fm_53 N x2 0 h) (t := false) (na := 2) (kd := 0) (as := [x2, (.int 0)]) at_289_35 (am_k3s kb_53) mn_53 mk_53 rfl rfl (am_ok_s mi_53 (am_hl rfl (am_ccR i2 (am_ccI am_cats_0)) rfl)) (am_hc am_cats_0 rfl) (fun hz9 => by cases hz9) (fun o1 hz9 => rm_53 x2 0 h o1 i2 hz9) ?_
  rcases am_cV_s hs with ⟨h2, f3, hs1⟩ | hs1
  · clear hs
    refine Or.inl ⟨_, _, f3, ?_⟩
    show am_W X _ 289 38 _ [] h2 _
    refine aw_vload_n (pc1 := 39) at_289_38 l2 i2 rfl ?_
    refine aw_iconst (v := 3) (pc1 := 40) at_289_39 (by decide) rfl ?_
    refine aw_iload_n (pc1 := 41) at_289_40 l3 rfl ?_
    obtain ⟨h4, e5, hs2⟩ := am_bind hs1
    clear hs1
    refine aw_pS (pc1 := 42) at_289_41 (Or.inl ⟨rfl, rfl⟩) e5 rfl ?_
    refine aw_iload_n (pc1 := 43) at_289_42 l1 rfl ?_
    refine aw_istore (lv1 := am_put1 _ 4 _) (pc1 := 45) at_289_43 rfl rfl ?_
    refine aw_iload_n (pc1 := 46) at_289_45 (am_lk1 l3 rfl rfl) rfl ?_
    refine aw_iconst (v := 1) (pc1 := 47) at_289_46 (by decide) rfl ?_
    refine aw_isub (v := (x3 - 1)) (pc1 := 48) at_289_47 rfl rfl ?_
    refine aw_istore (lv1 := am_put1 _ 5 _) (pc1 := 50) at_289_48 rfl rfl ?_
    exact rg_289_50 N x0 x2 x1 ((x3 - 1)) h4 o hs2 _ (am_lk1 (am_lk1 l0 rfl rfl) rfl rfl) (am_lk1 (am_lk1 l2 rfl rfl) rfl rfl) (am_lk1 am_lk0 rfl rfl) am_lk0 i0 i2
  · clear hs
    exact Or.inr hs1
def fg_289_5 (N : Nat) : Nat → Value → Int32 → Value → Int32 → Int32 → am_H → Option am_O
  | 0 => fun _ _ _ _ _ _ => none
  | K + 1 => fun x0 x1 x2 x3 x4 h => (if x4 = 0 then (fg_289_33 N x0 x1 x2 x3 h) else (if 36 ≤ x3 then (fg_289_33 N x0 x1 x2 x3 h) else ((am_vR (am_pG 2569 x0 h)).bind fun v3 => ((am_pA 0 v3 x4 h).bind fun v5 => (fg_289_5 N K x0 x1 x2 ((x3 + 1)) ((v5 / 4)) h)))))
theorem rg_289_5 {X : am_X} {d : Nat} {N : Nat} : ∀ (K : Nat) (x0 : Value) (x1 : Int32) (x2 : Value) (x3 : Int32) (x4 : Int32) (h : am_H) (o : am_O), fg_289_5 N K x0 x1 x2 x3 x4 h = some o → ∀ lv : am_LV, (lv.lookup 0 = some x0) → (lv.lookup 1 = some (.int x1)) → (lv.lookup 2 = some x2) → (lv.lookup 3 = some (.int x3)) → (lv.lookup 4 = some (.int x4)) → (am_isR x0 = true) → (am_isR x2 = true) → am_W X (d + 1) 289 5 lv [] h (fun q => q = o) := by
  intro K
  induction K with
  | zero => intro x0 x1 x2 x3 x4 h o hs; cases hs
  | succ K ih =>
    intro x0 x1 x2 x3 x4 h o hs lv l0 l1 l2 l3 l4 i0 i2
    unfold fg_289_5 at hs
    refine aw_iload (pc1 := 7) at_289_5 l4 rfl ?_
    by_cases c1 : x4 = 0
    · rw [if_pos c1] at hs
      refine aw_ifeq_t at_289_7 c1 ?_
      exact rg_289_33 x0 x1 x2 x3 h o l0 l1 l2 l3 i0 i2 hs
    · rw [if_neg c1] at hs
      refine aw_ifeq_f (pc1 := 10) at_289_7 c1 rfl ?_
      refine aw_iload_n (pc1 := 11) at_289_10 l3 rfl ?_
      refine aw_bipush (v := 36) (pc1 := 13) at_289_11 (by decide) rfl ?_
      by_cases c2 : 36 ≤ x3
      · rw [if_pos c2] at hs
        refine aw_icge_t at_289_13 c2 ?_
        exact rg_289_33 x0 x1 x2 x3 h o l0 l1 l2 l3 i0 i2 hs
      · rw [if_neg c2] at hs
        refine aw_icge_f (pc1 := 16) at_289_13 c2 rfl ?_
        refine aw_iinc (v := (x3 + 1)) (c := 1) (lv1 := am_put1 _ 3 _) (pc1 := 19) at_289_16 l3 (by decide) rfl rfl rfl ?_
        refine aw_vload_n (pc1 := 20) at_289_19 (am_lk1 l0 rfl rfl) i0 rfl ?_
        obtain ⟨v3, e4, hs1⟩ := am_bind hs
        clear hs
        refine aw_pG (pc1 := 23) at_289_20 (am_vR_s e4).1 rfl ?_
        refine aw_iload (pc1 := 25) at_289_23 (am_lk1 l4 rfl rfl) rfl ?_
        obtain ⟨v5, e6, hs2⟩ := am_bind hs1
        clear hs1
        refine aw_pA (pc1 := 26) at_289_25 (Or.inl ⟨rfl, rfl⟩) e6 rfl ?_
        refine aw_iconst (v := 4) (pc1 := 27) at_289_26 (by decide) rfl ?_
        refine aw_idiv (v := (v5 / 4)) (pc1 := 28) at_289_27 (by decide) rfl rfl ?_
        refine aw_istore (lv1 := am_put1 _ 4 _) (pc1 := 30) at_289_28 rfl rfl ?_
        refine aw_goto at_289_30 ?_
        exact ih x0 x1 x2 ((x3 + 1)) ((v5 / 4)) h o hs2 _ (am_lk1 (am_lk1 l0 rfl rfl) rfl rfl) (am_lk1 (am_lk1 l1 rfl rfl) rfl rfl) (am_lk1 (am_lk1 l2 rfl (by rw [am_isRc i2]; rfl)) rfl rfl) (am_lk1 am_lk0 rfl rfl) am_lk0 i0 i2
def fg_289_0 (N : Nat) (x0 : Value) (x1 : Int32) (x2 : Value) (h : am_H) : Option am_O := (fg_289_5 N N x0 x1 x2 0 x1 h)
theorem rg_289_0 {X : am_X} {d : Nat} {N : Nat} {lv : am_LV} (x0 : Value) (x1 : Int32) (x2 : Value) (h : am_H) (o : am_O) (l0 : lv.lookup 0 = some x0) (l1 : lv.lookup 1 = some (.int x1)) (l2 : lv.lookup 2 = some x2) (i0 : am_isR x0 = true) (i2 : am_isR x2 = true) (hs : fg_289_0 N x0 x1 x2 h = some o) : am_W X (d + 1) 289 0 lv [] h (fun q => q = o) := by
  unfold fg_289_0 at hs
  refine aw_iconst (v := 0) (pc1 := 1) at_289_0 (by decide) rfl ?_
  refine aw_istore_n (lv1 := am_put1 _ 3 _) (pc1 := 2) at_289_1 rfl rfl ?_
  refine aw_iload_n (pc1 := 3) at_289_2 (am_lk1 l1 rfl rfl) rfl ?_
  refine aw_istore (lv1 := am_put1 _ 4 _) (pc1 := 5) at_289_3 rfl rfl ?_
  exact rg_289_5 N x0 x1 x2 0 x1 h o hs _ (am_lk1 (am_lk1 l0 rfl rfl) rfl rfl) (am_lk1 (am_lk1 l1 rfl rfl) rfl rfl) (am_lk1 (am_lk1 l2 rfl (by rw [am_isRc i2]; rfl)) rfl rfl) (am_lk1 am_lk0 rfl rfl) am_lk0 i0 i2
def fm_289 (N : Nat) (y0 : Value) (y1 : Int32) (y2 : Value) (h : am_H) : Option am_O := fg_289_0 N y0 y1 y2 h
theorem rm_289 {X : am_X} {d : Nat} {N : Nat} (y0 : Value) (y1 : Int32) (y2 : Value) (h : am_H) (o : am_O) (i0 : am_isR y0 = true) (i2 : am_isR y2 = true) (hs : fm_289 N y0 y1 y2 h = some o) : am_W X (d + 1) 289 0 (am_args 0 [y0, .int y1, y2]) [] h (fun q => q = o) := by
  rw [am_args_R i0, am_args_I, am_args_R i2]
  exact rg_289_0 y0 y1 y2 h o rfl rfl rfl i0 i2 hs
def fg_288_196 (N : Nat) (h : am_H) : Option am_O := some (.inl (some (.int 0), h))
theorem rg_288_196 {X : am_X} {d : Nat} {N : Nat} {lv : am_LV} (h : am_H) (o : am_O) (hs : fg_288_196 N h = some o) : am_W X (d + 2) 288 196 lv [] h (fun q => q = o) := by
  unfold fg_288_196 at hs
  refine aw_iconst (v := 0) (pc1 := 197) at_288_196 (by decide) rfl ?_
  cases hs
  exact aw_iret at_288_197 (by rw [rt_288]; decide) rfl
def fg_288_184 (N : Nat) (rec_21 : Value → Value → Value → Value → Int32 → Int32 → am_H → Option am_O) (rec_96 : Value → Value → Value → Value → Int32 → Int32 → Int32 → Int32 → Int32 → am_H → Option am_O) (x0 : Value) (x1 : Value) (x2 : Value) (x3 : Value) (x4 : Int32) (x5 : Int32) (x6 : Int32) (x7 : Int32) (x8 : Int32) (h : am_H) : Option am_O := (rec_96 x0 x1 x2 x3 x4 x5 x6 x7 ((x8 + 1)) h)
theorem rg_288_184 {X : am_X} {d : Nat} {N : Nat} {rec_21 : Value → Value → Value → Value → Int32 → Int32 → am_H → Option am_O} {rec_96 : Value → Value → Value → Value → Int32 → Int32 → Int32 → Int32 → Int32 → am_H → Option am_O} (q_21 : ∀ (x0 : Value) (x1 : Value) (x2 : Value) (x3 : Value) (x4 : Int32) (x5 : Int32) (h : am_H) (o : am_O), rec_21 x0 x1 x2 x3 x4 x5 h = some o → ∀ lv : am_LV, (lv.lookup 0 = some x0) → (lv.lookup 1 = some x1) → (lv.lookup 2 = some x2) → (lv.lookup 3 = some x3) → (lv.lookup 4 = some (.int x4)) → (lv.lookup 5 = some (.int x5)) → (am_isR x0 = true) → (am_isR x1 = true) → (am_isR x2 = true) → (am_isR x3 = true) → am_W X (d + 2) 288 21 lv [] h (fun q => q = o)) (q_96 : ∀ (x0 : Value) (x1 : Value) (x2 : Value) (x3 : Value) (x4 : Int32) (x5 : Int32) (x6 : Int32) (x7 : Int32) (x8 : Int32) (h : am_H) (o : am_O), rec_96 x0 x1 x2 x3 x4 x5 x6 x7 x8 h = some o → ∀ lv : am_LV, (lv.lookup 0 = some x0) → (lv.lookup 1 = some x1) → (lv.lookup 2 = some x2) → (lv.lookup 3 = some x3) → (lv.lookup 4 = some (.int x4)) → (lv.lookup 5 = some (.int x5)) → (lv.lookup 6 = some (.int x6)) → (lv.lookup 7 = some (.int x7)) → (lv.lookup 8 = some (.int x8)) → (am_isR x0 = true) → (am_isR x1 = true) → (am_isR x2 = true) → (am_isR x3 = true) → am_W X (d + 2) 288 96 lv [] h (fun q => q = o)) {lv : am_LV} (x0 : Value) (x1 : Value) (x2 : Value) (x3 : Value) (x4 : Int32) (x5 : Int32) (x6 : Int32) (x7 : Int32) (x8 : Int32) (h : am_H) (o : am_O) (l0 : lv.lookup 0 = some x0) (l1 : lv.lookup 1 = some x1) (l2 : lv.lookup 2 = some x2) (l3 : lv.lookup 3 = some x3) (l4 : lv.lookup 4 = some (.int x4)) (l5 : lv.lookup 5 = some (.int x5)) (l6 : lv.lookup 6 = some (.int x6)) (l7 : lv.lookup 7 = some (.int x7)) (l8 : lv.lookup 8 = some (.int x8)) (i0 : am_isR x0 = true) (i1 : am_isR x1 = true) (i2 : am_isR x2 = true) (i3 : am_isR x3 = true) (hs : fg_288_184 N rec_21 rec_96 x0 x1 x2 x3 x4 x5 x6 x7 x8 h = some o) : am_W X (d + 2) 288 184 lv [] h (fun q => q = o) := by
  unfold fg_288_184 at hs
  refine aw_iinc (v := (x8 + 1)) (c := 1) (lv1 := am_put1 _ 8 _) (pc1 := 187) at_288_184 l8 (by decide) rfl rfl rfl ?_
  refine aw_goto at_288_187 ?_
  exact q_96 x0 x1 x2 x3 x4 x5 x6 x7 ((x8 + 1)) h o hs _ (am_lk1 l0 rfl rfl) (am_lk1 l1 rfl rfl) (am_lk1 l2 rfl rfl) (am_lk1 l3 rfl rfl) (am_lk1 l4 rfl rfl) (am_lk1 l5 rfl rfl) (am_lk1 l6 rfl rfl) (am_lk1 l7 rfl rfl) am_lk0 i0 i1 i2 i3
def fg_288_96 (N : Nat) (rec_21 : Value → Value → Value → Value → Int32 → Int32 → am_H → Option am_O) : Nat → Value → Value → Value → Value → Int32 → Int32 → Int32 → Int32 → Int32 → am_H → Option am_O
  | 0 => fun _ _ _ _ _ _ _ _ _ _ => none
  | K + 1 => fun x0 x1 x2 x3 x4 x5 x6 x7 x8 h => (if 4 ≤ x8 then (rec_21 x0 x1 x2 x3 x4 ((x5 + 1)) h) else (if am_pOk 3 x1 h then am_cI true (fm_54 x1 x6 ((1 + x8)) h) (fun v3 h4 => (if am_pOk 3 x2 h4 then am_cI true (fm_54 x2 x7 ((1 + x8)) h4) (fun v7 h8 => (if ((6 * v3) + v7) = 0 then (fg_288_184 N rec_21 (fg_288_96 N rec_21 K) x0 x1 x2 x3 x4 x5 x6 x7 x8 h8) else ((am_vR (am_pG 2569 x0 h8)).bind fun v11 => ((am_pA 0 v11 ((6 * v3) + v7) h8).bind fun v13 => (if 0 ≤ v13 then (fg_288_184 N rec_21 (fg_288_96 N rec_21 K) x0 x1 x2 x3 x4 x5 x6 x7 x8 h8) else ((am_vR (am_pG 2568 x0 h8)).bind fun v16 => ((am_pLen v16 h8).bind fun v18 => (if v18 ≤ x4 then (fg_288_184 N rec_21 (fg_288_96 N rec_21 K) x0 x1 x2 x3 x4 x5 x6 x7 x8 h8) else ((am_vR (am_pG 2569 x0 h8)).bind fun v21 => ((am_vR (am_pG 2568 x0 h8)).bind fun v23 => ((am_pA 0 v23 x5 h8).bind fun v25 => ((am_pS 0 v21 ((6 * v3) + v7) ((4 * v25) + x8) h8).bind fun h27 => ((am_vR (am_pG 2568 x0 h27)).bind fun v29 => ((am_pS 0 v29 x4 ((6 * v3) + v7) h27).bind fun h31 => (fg_288_184 N rec_21 (fg_288_96 N rec_21 K) x0 x1 x2 x3 ((x4 + 1)) x5 x6 x7 x8 h31))))))))))))))) else none)) else none))
theorem rg_288_96 {X : am_X} {d : Nat} {N : Nat} {rec_21 : Value → Value → Value → Value → Int32 → Int32 → am_H → Option am_O} (q_21 : ∀ (x0 : Value) (x1 : Value) (x2 : Value) (x3 : Value) (x4 : Int32) (x5 : Int32) (h : am_H) (o : am_O), rec_21 x0 x1 x2 x3 x4 x5 h = some o → ∀ lv : am_LV, (lv.lookup 0 = some x0) → (lv.lookup 1 = some x1) → (lv.lookup 2 = some x2) → (lv.lookup 3 = some x3) → (lv.lookup 4 = some (.int x4)) → (lv.lookup 5 = some (.int x5)) → (am_isR x0 = true) → (am_isR x1 = true) → (am_isR x2 = true) → (am_isR x3 = true) → am_W X (d + 2) 288 21 lv [] h (fun q => q = o)) : ∀ (K : Nat) (x0 : Value) (x1 : Value) (x2 : Value) (x3 : Value) (x4 : Int32) (x5 : Int32) (x6 : Int32) (x7 : Int32) (x8 : Int32) (h : am_H) (o : am_O), fg_288_96 N rec_21 K x0 x1 x2 x3 x4 x5 x6 x7 x8 h = some o → ∀ lv : am_LV, (lv.lookup 0 = some x0) → (lv.lookup 1 = some x1) → (lv.lookup 2 = some x2) → (lv.lookup 3 = some x3) → (lv.lookup 4 = some (.int x4)) → (lv.lookup 5 = some (.int x5)) → (lv.lookup 6 = some (.int x6)) → (lv.lookup 7 = some (.int x7)) → (lv.lookup 8 = some (.int x8)) → (am_isR x0 = true) → (am_isR x1 = true) → (am_isR x2 = true) → (am_isR x3 = true) → am_W X (d + 2) 288 96 lv [] h (fun q => q = o) := by
  intro K
  induction K with
  | zero => intro x0 x1 x2 x3 x4 x5 x6 x7 x8 h o hs; cases hs
  | succ K ih =>
    intro x0 x1 x2 x3 x4 x5 x6 x7 x8 h o hs lv l0 l1 l2 l3 l4 l5 l6 l7 l8 i0 i1 i2 i3
    unfold fg_288_96 at hs
    refine aw_iload (pc1 := 98) at_288_96 l8 rfl ?_
    refine aw_iconst (v := 4) (pc1 := 99) at_288_98 (by decide) rfl ?_
    by_cases c1 : 4 ≤ x8
    · rw [if_pos c1] at hs
      refine aw_icge_t at_288_99 c1 ?_
      refine aw_iinc (v := (x5 + 1)) (c := 1) (lv1 := am_put1 _ 5 _) (pc1 := 193) at_288_190 l5 (by decide) rfl rfl rfl ?_
      refine aw_goto at_288_193 ?_
      exact q_21 x0 x1 x2 x3 x4 ((x5 + 1)) h o hs _ (am_lk1 l0 rfl rfl) (am_lk1 l1 rfl rfl) (am_lk1 l2 rfl rfl) (am_lk1 l3 rfl rfl) (am_lk1 l4 rfl rfl) am_lk0 i0 i1 i2 i3
    · rw [if_neg c1] at hs
      refine aw_icge_f (pc1 := 102) at_288_99 c1 rfl ?_
      refine aw_bipush (v := 6) (pc1 := 104) at_288_102 (by decide) rfl ?_
      refine aw_vload_n (pc1 := 105) at_288_104 l1 i1 rfl ?_
      refine aw_iload (pc1 := 107) at_288_105 l6 rfl ?_
      refine aw_iconst (v := 1) (pc1 := 108) at_288_107 (by decide) rfl ?_
      refine aw_iload (pc1 := 110) at_288_108 l8 rfl ?_
      refine aw_iadd (v := (1 + x8)) (pc1 := 111) at_288_110 rfl rfl ?_
      obtain ⟨z2, hs1⟩ := am_ift hs
      clear hs
      refine aw_call (F := fm_54 x1 x6 ((1 + x8)) h) (t := true) (na := 3) (kd := 1) (as := [x1, (.int x6), (.int (1 + x8))]) at_288_111 (am_k3v kb_54) mn_54 mk_54 rfl rfl (am_ok_v mi_54 (am_hl rfl (am_ccR i1 (am_ccI (am_ccI am_cats_0))) rfl) z2) (am_hc (am_ccI am_cats_0) rfl) (fun _ => ⟨rfl, hh_288⟩) (fun o1 hz9 => rm_54 x1 x6 ((1 + x8)) h o1 i1 hz9) ?_
      rcases am_cI_s hs1 with ⟨v3, h4, f5, hs2⟩ | hs2
      · clear hs1
        refine Or.inl ⟨_, _, f5, ?_⟩
        show am_W X _ 288 114 _ [(.int v3), (.int 6)] h4 _
        refine aw_imul (v := (6 * v3)) (pc1 := 115) at_288_114 rfl rfl ?_
        refine aw_vload_n (pc1 := 116) at_288_115 l2 i2 rfl ?_
        refine aw_iload (pc1 := 118) at_288_116 l7 rfl ?_
        refine aw_iconst (v := 1) (pc1 := 119) at_288_118 (by decide) rfl ?_
        refine aw_iload (pc1 := 121) at_288_119 l8 rfl ?_
        refine aw_iadd (v := (1 + x8)) (pc1 := 122) at_288_121 rfl rfl ?_
        obtain ⟨z6, hs3⟩ := am_ift hs2
        clear hs2
        refine aw_call (F := fm_54 x2 x7 ((1 + x8)) h4) (t := true) (na := 3) (kd := 1) (as := [x2, (.int x7), (.int (1 + x8))]) at_288_122 (am_k3v kb_54) mn_54 mk_54 rfl rfl (am_ok_v mi_54 (am_hl rfl (am_ccR i2 (am_ccI (am_ccI am_cats_0))) rfl) z6) (am_hc (am_ccI am_cats_0) rfl) (fun _ => ⟨rfl, hh_288⟩) (fun o1 hz9 => rm_54 x2 x7 ((1 + x8)) h4 o1 i2 hz9) ?_
        rcases am_cI_s hs3 with ⟨v7, h8, f9, hs4⟩ | hs4
        · clear hs3
          refine Or.inl ⟨_, _, f9, ?_⟩
          show am_W X _ 288 125 _ [(.int v7), (.int (6 * v3))] h8 _
          refine aw_iadd (v := ((6 * v3) + v7)) (pc1 := 126) at_288_125 rfl rfl ?_
          refine aw_istore (lv1 := am_put1 _ 9 _) (pc1 := 128) at_288_126 rfl rfl ?_
          refine aw_iload (pc1 := 130) at_288_128 am_lk0 rfl ?_
          by_cases c10 : ((6 * v3) + v7) = 0
          · rw [if_pos c10] at hs4
            refine aw_ifeq_t at_288_130 c10 ?_
            exact rg_288_184 q_21 (fun z0 z1 z2 z3 z4 z5 z6 z7 z8 h o hs4 => ih z0 z1 z2 z3 z4 z5 z6 z7 z8 h o hs4) x0 x1 x2 x3 x4 x5 x6 x7 x8 h8 o (am_lk1 l0 rfl rfl) (am_lk1 l1 rfl rfl) (am_lk1 l2 rfl rfl) (am_lk1 l3 rfl rfl) (am_lk1 l4 rfl rfl) (am_lk1 l5 rfl rfl) (am_lk1 l6 rfl rfl) (am_lk1 l7 rfl rfl) (am_lk1 l8 rfl rfl) i0 i1 i2 i3 hs4
          · rw [if_neg c10] at hs4
            refine aw_ifeq_f (pc1 := 133) at_288_130 c10 rfl ?_
            refine aw_vload_n (pc1 := 134) at_288_133 (am_lk1 l0 rfl rfl) i0 rfl ?_
            obtain ⟨v11, e12, hs5⟩ := am_bind hs4
            clear hs4
            refine aw_pG (pc1 := 137) at_288_134 (am_vR_s e12).1 rfl ?_
            refine aw_iload (pc1 := 139) at_288_137 am_lk0 rfl ?_
            obtain ⟨v13, e14, hs6⟩ := am_bind hs5
            clear hs5
            refine aw_pA (pc1 := 140) at_288_139 (Or.inl ⟨rfl, rfl⟩) e14 rfl ?_
            by_cases c15 : 0 ≤ v13
            · rw [if_pos c15] at hs6
              refine aw_ifge_t at_288_140 c15 ?_
              exact rg_288_184 q_21 (fun z0 z1 z2 z3 z4 z5 z6 z7 z8 h o hs6 => ih z0 z1 z2 z3 z4 z5 z6 z7 z8 h o hs6) x0 x1 x2 x3 x4 x5 x6 x7 x8 h8 o (am_lk1 l0 rfl rfl) (am_lk1 l1 rfl rfl) (am_lk1 l2 rfl rfl) (am_lk1 l3 rfl rfl) (am_lk1 l4 rfl rfl) (am_lk1 l5 rfl rfl) (am_lk1 l6 rfl rfl) (am_lk1 l7 rfl rfl) (am_lk1 l8 rfl rfl) i0 i1 i2 i3 hs6
            · rw [if_neg c15] at hs6
              refine aw_ifge_f (pc1 := 143) at_288_140 c15 rfl ?_
              refine aw_iload (pc1 := 145) at_288_143 (am_lk1 l4 rfl rfl) rfl ?_
              refine aw_vload_n (pc1 := 146) at_288_145 (am_lk1 l0 rfl rfl) i0 rfl ?_
              obtain ⟨v16, e17, hs7⟩ := am_bind hs6
              clear hs6
              refine aw_pG (pc1 := 149) at_288_146 (am_vR_s e17).1 rfl ?_
              obtain ⟨v18, e19, hs8⟩ := am_bind hs7
              clear hs7
              refine aw_pLen (pc1 := 150) at_288_149 e19 rfl ?_
              by_cases c20 : v18 ≤ x4
              · rw [if_pos c20] at hs8
                refine aw_icge_t at_288_150 c20 ?_
                exact rg_288_184 q_21 (fun z0 z1 z2 z3 z4 z5 z6 z7 z8 h o hs8 => ih z0 z1 z2 z3 z4 z5 z6 z7 z8 h o hs8) x0 x1 x2 x3 x4 x5 x6 x7 x8 h8 o (am_lk1 l0 rfl rfl) (am_lk1 l1 rfl rfl) (am_lk1 l2 rfl rfl) (am_lk1 l3 rfl rfl) (am_lk1 l4 rfl rfl) (am_lk1 l5 rfl rfl) (am_lk1 l6 rfl rfl) (am_lk1 l7 rfl rfl) (am_lk1 l8 rfl rfl) i0 i1 i2 i3 hs8
              · rw [if_neg c20] at hs8
                refine aw_icge_f (pc1 := 153) at_288_150 c20 rfl ?_
                refine aw_vload_n (pc1 := 154) at_288_153 (am_lk1 l0 rfl rfl) i0 rfl ?_
                obtain ⟨v21, e22, hs9⟩ := am_bind hs8
                clear hs8
                refine aw_pG (pc1 := 157) at_288_154 (am_vR_s e22).1 rfl ?_
                refine aw_iload (pc1 := 159) at_288_157 am_lk0 rfl ?_
                refine aw_iconst (v := 4) (pc1 := 160) at_288_159 (by decide) rfl ?_
                refine aw_vload_n (pc1 := 161) at_288_160 (am_lk1 l0 rfl rfl) i0 rfl ?_
                obtain ⟨v23, e24, hs10⟩ := am_bind hs9
                clear hs9
                refine aw_pG (pc1 := 164) at_288_161 (am_vR_s e24).1 rfl ?_
                refine aw_iload (pc1 := 166) at_288_164 (am_lk1 l5 rfl rfl) rfl ?_
                obtain ⟨v25, e26, hs11⟩ := am_bind hs10
                clear hs10
                refine aw_pA (pc1 := 167) at_288_166 (Or.inl ⟨rfl, rfl⟩) e26 rfl ?_
                refine aw_imul (v := (4 * v25)) (pc1 := 168) at_288_167 rfl rfl ?_
                refine aw_iload (pc1 := 170) at_288_168 (am_lk1 l8 rfl rfl) rfl ?_
                refine aw_iadd (v := ((4 * v25) + x8)) (pc1 := 171) at_288_170 rfl rfl ?_
                obtain ⟨h27, e28, hs12⟩ := am_bind hs11
                clear hs11
                refine aw_pS (pc1 := 172) at_288_171 (Or.inl ⟨rfl, rfl⟩) e28 rfl ?_
                refine aw_vload_n (pc1 := 173) at_288_172 (am_lk1 l0 rfl rfl) i0 rfl ?_
                obtain ⟨v29, e30, hs13⟩ := am_bind hs12
                clear hs12
                refine aw_pG (pc1 := 176) at_288_173 (am_vR_s e30).1 rfl ?_
                refine aw_iload (pc1 := 178) at_288_176 (am_lk1 l4 rfl rfl) rfl ?_
                refine aw_iload (pc1 := 180) at_288_178 am_lk0 rfl ?_
                obtain ⟨h31, e32, hs14⟩ := am_bind hs13
                clear hs13
                refine aw_pS (pc1 := 181) at_288_180 (Or.inl ⟨rfl, rfl⟩) e32 rfl ?_
                refine aw_iinc (v := (x4 + 1)) (c := 1) (lv1 := am_put1 _ 4 _) (pc1 := 184) at_288_181 (am_lk1 l4 rfl rfl) (by decide) rfl rfl rfl ?_
                exact rg_288_184 q_21 (fun z0 z1 z2 z3 z4 z5 z6 z7 z8 h o hs14 => ih z0 z1 z2 z3 z4 z5 z6 z7 z8 h o hs14) x0 x1 x2 x3 ((x4 + 1)) x5 x6 x7 x8 h31 o (am_lk1 (am_lk1 l0 rfl rfl) rfl rfl) (am_lk1 (am_lk1 l1 rfl rfl) rfl rfl) (am_lk1 (am_lk1 l2 rfl rfl) rfl rfl) (am_lk1 (am_lk1 l3 rfl rfl) rfl (by rw [am_isRc i3]; rfl)) am_lk0 (am_lk1 (am_lk1 l5 rfl rfl) rfl rfl) (am_lk1 (am_lk1 l6 rfl rfl) rfl rfl) (am_lk1 (am_lk1 l7 rfl rfl) rfl rfl) (am_lk1 (am_lk1 l8 rfl rfl) rfl rfl) i0 i1 i2 i3 hs14
        · clear hs3
          exact Or.inr hs4
      · clear hs1
        exact Or.inr hs2
def fg_288_21 (N : Nat) : Nat → Value → Value → Value → Value → Int32 → Int32 → am_H → Option am_O
  | 0 => fun _ _ _ _ _ _ _ => none
  | K + 1 => fun x0 x1 x2 x3 x4 x5 h => (if x4 ≤ x5 then (fg_288_196 N h) else ((am_vR (am_pG 2568 x0 h)).bind fun v2 => ((am_pLen v2 h).bind fun v4 => (if v4 ≤ x5 then (fg_288_196 N h) else ((am_vR (am_pG 2568 x0 h)).bind fun v7 => ((am_pA 0 v7 x5 h).bind fun v9 => ((am_vR (am_pG 2568 x0 h)).bind fun v11 => ((am_pA 0 v11 x5 h).bind fun v13 => (if am_pOk 3 x1 h then am_cI true (fm_54 x1 ((v9 / 6)) 0 h) (fun v16 h17 => (if am_pOk 3 x2 h17 then am_cI true (fm_54 x2 ((v13 - v13 / 6 * 6)) 0 h17) (fun v20 h21 => (if v16 = v20 then (fg_288_96 N (fg_288_21 N K) N x0 x1 x2 x3 x4 x5 ((v9 / 6)) ((v13 - v13 / 6 * 6)) 0 h21) else ((am_vR (am_pG 2568 x0 h21)).bind fun v24 => ((am_pA 0 v24 x5 h21).bind fun v26 => (if am_pOk 10 x0 h21 then am_cV true (fm_289 N x0 v26 x3 h21) (fun h30 => some (.inl (some (.int 1), h30))) else none))))) else none)) else none)))))))))
theorem rg_288_21 {X : am_X} {d : Nat} {N : Nat} : ∀ (K : Nat) (x0 : Value) (x1 : Value) (x2 : Value) (x3 : Value) (x4 : Int32) (x5 : Int32) (h : am_H) (o : am_O), fg_288_21 N K x0 x1 x2 x3 x4 x5 h = some o → ∀ lv : am_LV, (lv.lookup 0 = some x0) → (lv.lookup 1 = some x1) → (lv.lookup 2 = some x2) → (lv.lookup 3 = some x3) → (lv.lookup 4 = some (.int x4)) → (lv.lookup 5 = some (.int x5)) → (am_isR x0 = true) → (am_isR x1 = true) → (am_isR x2 = true) → (am_isR x3 = true) → am_W X (d + 2) 288 21 lv [] h (fun q => q = o) := by
  intro K
  induction K with
  | zero => intro x0 x1 x2 x3 x4 x5 h o hs; cases hs
  | succ K ih =>
    intro x0 x1 x2 x3 x4 x5 h o hs lv l0 l1 l2 l3 l4 l5 i0 i1 i2 i3
    unfold fg_288_21 at hs
    refine aw_iload (pc1 := 23) at_288_21 l5 rfl ?_
    refine aw_iload (pc1 := 25) at_288_23 l4 rfl ?_
    by_cases c1 : x4 ≤ x5
    · rw [if_pos c1] at hs
      refine aw_icge_t at_288_25 c1 ?_
      exact rg_288_196 h o   hs
    · rw [if_neg c1] at hs
      refine aw_icge_f (pc1 := 28) at_288_25 c1 rfl ?_
      refine aw_iload (pc1 := 30) at_288_28 l5 rfl ?_
      refine aw_vload_n (pc1 := 31) at_288_30 l0 i0 rfl ?_
      obtain ⟨v2, e3, hs1⟩ := am_bind hs
      clear hs
      refine aw_pG (pc1 := 34) at_288_31 (am_vR_s e3).1 rfl ?_
      obtain ⟨v4, e5, hs2⟩ := am_bind hs1
      clear hs1
      refine aw_pLen (pc1 := 35) at_288_34 e5 rfl ?_
      by_cases c6 : v4 ≤ x5
      · rw [if_pos c6] at hs2
        refine aw_icge_t at_288_35 c6 ?_
        exact rg_288_196 h o   hs2
      · rw [if_neg c6] at hs2
        refine aw_icge_f (pc1 := 38) at_288_35 c6 rfl ?_
        refine aw_vload_n (pc1 := 39) at_288_38 l0 i0 rfl ?_
        obtain ⟨v7, e8, hs3⟩ := am_bind hs2
        clear hs2
        refine aw_pG (pc1 := 42) at_288_39 (am_vR_s e8).1 rfl ?_
        refine aw_iload (pc1 := 44) at_288_42 l5 rfl ?_
        obtain ⟨v9, e10, hs4⟩ := am_bind hs3
        clear hs3
        refine aw_pA (pc1 := 45) at_288_44 (Or.inl ⟨rfl, rfl⟩) e10 rfl ?_
        refine aw_bipush (v := 6) (pc1 := 47) at_288_45 (by decide) rfl ?_
        refine aw_idiv (v := (v9 / 6)) (pc1 := 48) at_288_47 (by decide) rfl rfl ?_
        refine aw_istore (lv1 := am_put1 _ 6 _) (pc1 := 50) at_288_48 rfl rfl ?_
        refine aw_vload_n (pc1 := 51) at_288_50 (am_lk1 l0 rfl rfl) i0 rfl ?_
        obtain ⟨v11, e12, hs5⟩ := am_bind hs4
        clear hs4
        refine aw_pG (pc1 := 54) at_288_51 (am_vR_s e12).1 rfl ?_
        refine aw_iload (pc1 := 56) at_288_54 (am_lk1 l5 rfl rfl) rfl ?_
        obtain ⟨v13, e14, hs6⟩ := am_bind hs5
        clear hs5
        refine aw_pA (pc1 := 57) at_288_56 (Or.inl ⟨rfl, rfl⟩) e14 rfl ?_
        refine aw_bipush (v := 6) (pc1 := 59) at_288_57 (by decide) rfl ?_
        refine aw_irem (v := (v13 - v13 / 6 * 6)) (pc1 := 60) at_288_59 (by decide) rfl rfl ?_
        refine aw_istore (lv1 := am_put1 _ 7 _) (pc1 := 62) at_288_60 rfl rfl ?_
        refine aw_vload_n (pc1 := 63) at_288_62 (am_lk1 (am_lk1 l1 rfl rfl) rfl rfl) i1 rfl ?_
        refine aw_iload (pc1 := 65) at_288_63 (am_lk1 am_lk0 rfl rfl) rfl ?_
        refine aw_iconst (v := 0) (pc1 := 66) at_288_65 (by decide) rfl ?_
        obtain ⟨z15, hs7⟩ := am_ift hs6
        clear hs6
        refine aw_call (F := fm_54 x1 ((v9 / 6)) 0 h) (t := true) (na := 3) (kd := 1) (as := [x1, (.int (v9 / 6)), (.int 0)]) at_288_66 (am_k3v kb_54) mn_54 mk_54 rfl rfl (am_ok_v mi_54 (am_hl rfl (am_ccR i1 (am_ccI (am_ccI am_cats_0))) rfl) z15) (am_hc am_cats_0 rfl) (fun _ => ⟨rfl, hh_288⟩) (fun o1 hz9 => rm_54 x1 ((v9 / 6)) 0 h o1 i1 hz9) ?_
        rcases am_cI_s hs7 with ⟨v16, h17, f18, hs8⟩ | hs8
        · clear hs7
          refine Or.inl ⟨_, _, f18, ?_⟩
          show am_W X _ 288 69 _ [(.int v16)] h17 _
          refine aw_vload_n (pc1 := 70) at_288_69 (am_lk1 (am_lk1 l2 rfl rfl) rfl rfl) i2 rfl ?_
          refine aw_iload (pc1 := 72) at_288_70 am_lk0 rfl ?_
          refine aw_iconst (v := 0) (pc1 := 73) at_288_72 (by decide) rfl ?_
          obtain ⟨z19, hs9⟩ := am_ift hs8
          clear hs8
          refine aw_call (F := fm_54 x2 ((v13 - v13 / 6 * 6)) 0 h17) (t := true) (na := 3) (kd := 1) (as := [x2, (.int (v13 - v13 / 6 * 6)), (.int 0)]) at_288_73 (am_k3v kb_54) mn_54 mk_54 rfl rfl (am_ok_v mi_54 (am_hl rfl (am_ccR i2 (am_ccI (am_ccI am_cats_0))) rfl) z19) (am_hc (am_ccI am_cats_0) rfl) (fun _ => ⟨rfl, hh_288⟩) (fun o1 hz9 => rm_54 x2 ((v13 - v13 / 6 * 6)) 0 h17 o1 i2 hz9) ?_
          rcases am_cI_s hs9 with ⟨v20, h21, f22, hs10⟩ | hs10
          · clear hs9
            refine Or.inl ⟨_, _, f22, ?_⟩
            show am_W X _ 288 76 _ [(.int v20), (.int v16)] h21 _
            by_cases c23 : v16 = v20
            · rw [if_pos c23] at hs10
              refine aw_iceq_t at_288_76 c23 ?_
              refine aw_iconst (v := 0) (pc1 := 94) at_288_93 (by decide) rfl ?_
              refine aw_istore (lv1 := am_put1 _ 8 _) (pc1 := 96) at_288_94 rfl rfl ?_
              exact rg_288_96 (fun z0 z1 z2 z3 z4 z5 h o hs10 => ih z0 z1 z2 z3 z4 z5 h o hs10) N x0 x1 x2 x3 x4 x5 ((v9 / 6)) ((v13 - v13 / 6 * 6)) 0 h21 o hs10 _ (am_lk1 (am_lk1 (am_lk1 l0 rfl rfl) rfl rfl) rfl rfl) (am_lk1 (am_lk1 (am_lk1 l1 rfl rfl) rfl rfl) rfl rfl) (am_lk1 (am_lk1 (am_lk1 l2 rfl rfl) rfl rfl) rfl rfl) (am_lk1 (am_lk1 (am_lk1 l3 rfl rfl) rfl rfl) rfl rfl) (am_lk1 (am_lk1 (am_lk1 l4 rfl rfl) rfl rfl) rfl rfl) (am_lk1 (am_lk1 (am_lk1 l5 rfl rfl) rfl rfl) rfl rfl) (am_lk1 (am_lk1 am_lk0 rfl rfl) rfl rfl) (am_lk1 am_lk0 rfl rfl) am_lk0 i0 i1 i2 i3
            · rw [if_neg c23] at hs10
              refine aw_iceq_f (pc1 := 79) at_288_76 c23 rfl ?_
              refine aw_vload_n (pc1 := 80) at_288_79 (am_lk1 (am_lk1 l0 rfl rfl) rfl rfl) i0 rfl ?_
              refine aw_vload_n (pc1 := 81) at_288_80 (am_lk1 (am_lk1 l0 rfl rfl) rfl rfl) i0 rfl ?_
              obtain ⟨v24, e25, hs11⟩ := am_bind hs10
              clear hs10
              refine aw_pG (pc1 := 84) at_288_81 (am_vR_s e25).1 rfl ?_
              refine aw_iload (pc1 := 86) at_288_84 (am_lk1 (am_lk1 l5 rfl rfl) rfl rfl) rfl ?_
              obtain ⟨v26, e27, hs12⟩ := am_bind hs11
              clear hs11
              refine aw_pA (pc1 := 87) at_288_86 (Or.inl ⟨rfl, rfl⟩) e27 rfl ?_
              refine aw_vload_n (pc1 := 88) at_288_87 (am_lk1 (am_lk1 l3 rfl rfl) rfl rfl) i3 rfl ?_
              obtain ⟨z28, hs13⟩ := am_ift hs12
              clear hs12
              refine aw_call (F := fm_289 N x0 v26 x3 h21) (t := true) (na := 3) (kd := 1) (as := [x0, (.int v26), x3]) at_288_88 (am_k3v kb_289) mn_289 mk_289 rfl rfl (am_ok_v mi_289 (am_hl rfl (am_ccR i0 (am_ccI (am_ccR i3 am_cats_0))) rfl) z28) (am_hc am_cats_0 rfl) (fun _ => ⟨rfl, hh_288⟩) (fun o1 hz9 => rm_289 x0 v26 x3 h21 o1 i0 i3 hz9) ?_
              rcases am_cV_s hs13 with ⟨h30, f31, hs14⟩ | hs14
              · clear hs13
                refine Or.inl ⟨_, _, f31, ?_⟩
                show am_W X _ 288 91 _ [] h30 _
                refine aw_iconst (v := 1) (pc1 := 92) at_288_91 (by decide) rfl ?_
                cases hs14
                exact aw_iret at_288_92 (by rw [rt_288]; decide) rfl
              · clear hs13
                exact Or.inr hs14
          · clear hs9
            exact Or.inr hs10
        · clear hs7
          exact Or.inr hs8
def fg_288_0 (N : Nat) (x0 : Value) (x1 : Value) (x2 : Value) (x3 : Value) (h : am_H) : Option am_O := ((am_vR (am_pG 2569 x0 h)).bind fun v1 => am_cV false (fm_53 N v1 ((-1)) h) (fun h4 => ((am_vR (am_pG 2568 x0 h4)).bind fun v6 => ((am_pS 0 v6 0 0 h4).bind fun h8 => (fg_288_21 N N x0 x1 x2 x3 1 0 h8)))))
theorem rg_288_0 {X : am_X} {d : Nat} {N : Nat} {lv : am_LV} (x0 : Value) (x1 : Value) (x2 : Value) (x3 : Value) (h : am_H) (o : am_O) (l0 : lv.lookup 0 = some x0) (l1 : lv.lookup 1 = some x1) (l2 : lv.lookup 2 = some x2) (l3 : lv.lookup 3 = some x3) (i0 : am_isR x0 = true) (i1 : am_isR x1 = true) (i2 : am_isR x2 = true) (i3 : am_isR x3 = true) (hs : fg_288_0 N x0 x1 x2 x3 h = some o) : am_W X (d + 2) 288 0 lv [] h (fun q => q = o) := by
  unfold fg_288_0 at hs
  refine aw_vload_n (pc1 := 1) at_288_0 l0 i0 rfl ?_
  obtain ⟨v1, e2, hs1⟩ := am_bind hs
  clear hs
  refine aw_pG (pc1 := 4) at_288_1 (am_vR_s e2).1 rfl ?_
  refine aw_iconst (v := (-1)) (pc1 := 5) at_288_4 (by decide) rfl ?_
  refine aw_call (F := fm_53 N v1 ((-1)) h) (t := false) (na := 2) (kd := 0) (as := [v1, (.int (-1))]) at_288_5 (am_k3s kb_53) mn_53 mk_53 rfl rfl (am_ok_s mi_53 (am_hl rfl (am_ccR (am_vR_s e2).2 (am_ccI am_cats_0)) rfl)) (am_hc am_cats_0 rfl) (fun hz9 => by cases hz9) (fun o1 hz9 => rm_53 v1 ((-1)) h o1 (am_vR_s e2).2 hz9) ?_
  rcases am_cV_s hs1 with ⟨h4, f5, hs2⟩ | hs2
  · clear hs1
    refine Or.inl ⟨_, _, f5, ?_⟩
    show am_W X _ 288 8 _ [] h4 _
    refine aw_vload_n (pc1 := 9) at_288_8 l0 i0 rfl ?_
    obtain ⟨v6, e7, hs3⟩ := am_bind hs2
    clear hs2
    refine aw_pG (pc1 := 12) at_288_9 (am_vR_s e7).1 rfl ?_
    refine aw_iconst (v := 0) (pc1 := 13) at_288_12 (by decide) rfl ?_
    refine aw_iconst (v := 0) (pc1 := 14) at_288_13 (by decide) rfl ?_
    obtain ⟨h8, e9, hs4⟩ := am_bind hs3
    clear hs3
    refine aw_pS (pc1 := 15) at_288_14 (Or.inl ⟨rfl, rfl⟩) e9 rfl ?_
    refine aw_iconst (v := 1) (pc1 := 16) at_288_15 (by decide) rfl ?_
    refine aw_istore (lv1 := am_put1 _ 4 _) (pc1 := 18) at_288_16 rfl rfl ?_
    refine aw_iconst (v := 0) (pc1 := 19) at_288_18 (by decide) rfl ?_
    refine aw_istore (lv1 := am_put1 _ 5 _) (pc1 := 21) at_288_19 rfl rfl ?_
    exact rg_288_21 N x0 x1 x2 x3 1 0 h8 o hs4 _ (am_lk1 (am_lk1 l0 rfl rfl) rfl rfl) (am_lk1 (am_lk1 l1 rfl rfl) rfl rfl) (am_lk1 (am_lk1 l2 rfl rfl) rfl rfl) (am_lk1 (am_lk1 l3 rfl (by rw [am_isRc i3]; rfl)) rfl rfl) (am_lk1 am_lk0 rfl rfl) am_lk0 i0 i1 i2 i3
  · clear hs1
    exact Or.inr hs2
def fm_288 (N : Nat) (y0 : Value) (y1 : Value) (y2 : Value) (y3 : Value) (h : am_H) : Option am_O := fg_288_0 N y0 y1 y2 y3 h
theorem rm_288 {X : am_X} {d : Nat} {N : Nat} (y0 : Value) (y1 : Value) (y2 : Value) (y3 : Value) (h : am_H) (o : am_O) (i0 : am_isR y0 = true) (i1 : am_isR y1 = true) (i2 : am_isR y2 = true) (i3 : am_isR y3 = true) (hs : fm_288 N y0 y1 y2 y3 h = some o) : am_W X (d + 2) 288 0 (am_args 0 [y0, y1, y2, y3]) [] h (fun q => q = o) := by
  rw [am_args_R i0, am_args_R i1, am_args_R i2, am_args_R i3]
  exact rg_288_0 y0 y1 y2 y3 h o rfl rfl rfl rfl i0 i1 i2 i3 hs
def fg_292_26 (s0 : Int32) (h : am_H) : Option am_O := some (.inl (some (.int s0), h))
theorem rg_292_26 {X : am_X} {d : Nat} {lv : am_LV} (s0 : Int32) (h : am_H) (o : am_O) (hs : fg_292_26 s0 h = some o) : am_W X (d) 292 26 lv [(.int s0)] h (fun q => q = o) := by
  unfold fg_292_26 at hs
  cases hs
  exact aw_iret at_292_26 (by rw [rt_292]; rfl) rfl
def fg_292_0 (x0 : Int32) (x1 : Int32) (x2 : Int32) (h : am_H) : Option am_O := (if ((x0 >>> (x1 &&& 31)) &&& 1) ≤ ((x0 >>> (x2 &&& 31)) &&& 1) then (fg_292_26 x0 h) else (fg_292_26 ((x0 ^^^ ((1 <<< (x1 &&& 31)) ||| (1 <<< (x2 &&& 31))))) h))
theorem rg_292_0 {X : am_X} {d : Nat} {lv : am_LV} (x0 : Int32) (x1 : Int32) (x2 : Int32) (h : am_H) (o : am_O) (l0 : lv.lookup 0 = some (.int x0)) (l1 : lv.lookup 1 = some (.int x1)) (l2 : lv.lookup 2 = some (.int x2)) (hs : fg_292_0 x0 x1 x2 h = some o) : am_W X (d) 292 0 lv [] h (fun q => q = o) := by
  unfold fg_292_0 at hs
  refine aw_iload_n (pc1 := 1) at_292_0 l0 rfl ?_
  refine aw_iload_n (pc1 := 2) at_292_1 l1 rfl ?_
  refine aw_ishr (v := (x0 >>> (x1 &&& 31))) (pc1 := 3) at_292_2 rfl rfl ?_
  refine aw_iconst (v := 1) (pc1 := 4) at_292_3 (by decide) rfl ?_
  refine aw_iand (v := ((x0 >>> (x1 &&& 31)) &&& 1)) (pc1 := 5) at_292_4 rfl rfl ?_
  refine aw_iload_n (pc1 := 6) at_292_5 l0 rfl ?_
  refine aw_iload_n (pc1 := 7) at_292_6 l2 rfl ?_
  refine aw_ishr (v := (x0 >>> (x2 &&& 31))) (pc1 := 8) at_292_7 rfl rfl ?_
  refine aw_iconst (v := 1) (pc1 := 9) at_292_8 (by decide) rfl ?_
  refine aw_iand (v := ((x0 >>> (x2 &&& 31)) &&& 1)) (pc1 := 10) at_292_9 rfl rfl ?_
  by_cases c1 : ((x0 >>> (x1 &&& 31)) &&& 1) ≤ ((x0 >>> (x2 &&& 31)) &&& 1)
  · rw [if_pos c1] at hs
    refine aw_icle_t at_292_10 c1 ?_
    refine aw_iload_n (pc1 := 26) at_292_25 l0 rfl ?_
    exact rg_292_26 x0 h o   hs
  · rw [if_neg c1] at hs
    refine aw_icle_f (pc1 := 13) at_292_10 c1 rfl ?_
    refine aw_iload_n (pc1 := 14) at_292_13 l0 rfl ?_
    refine aw_iconst (v := 1) (pc1 := 15) at_292_14 (by decide) rfl ?_
    refine aw_iload_n (pc1 := 16) at_292_15 l1 rfl ?_
    refine aw_ishl (v := (1 <<< (x1 &&& 31))) (pc1 := 17) at_292_16 rfl rfl ?_
    refine aw_iconst (v := 1) (pc1 := 18) at_292_17 (by decide) rfl ?_
    refine aw_iload_n (pc1 := 19) at_292_18 l2 rfl ?_
    refine aw_ishl (v := (1 <<< (x2 &&& 31))) (pc1 := 20) at_292_19 rfl rfl ?_
    refine aw_ior (v := ((1 <<< (x1 &&& 31)) ||| (1 <<< (x2 &&& 31)))) (pc1 := 21) at_292_20 rfl rfl ?_
    refine aw_ixor (v := (x0 ^^^ ((1 <<< (x1 &&& 31)) ||| (1 <<< (x2 &&& 31))))) (pc1 := 22) at_292_21 rfl rfl ?_
    refine aw_goto at_292_22 ?_
    exact rg_292_26 ((x0 ^^^ ((1 <<< (x1 &&& 31)) ||| (1 <<< (x2 &&& 31))))) h o   hs
def fm_292 (y0 : Int32) (y1 : Int32) (y2 : Int32) (h : am_H) : Option am_O := fg_292_0 y0 y1 y2 h
theorem rm_292 {X : am_X} {d : Nat} (y0 : Int32) (y1 : Int32) (y2 : Int32) (h : am_H) (o : am_O) (hs : fm_292 y0 y1 y2 h = some o) : am_W X (d) 292 0 (am_args 0 [.int y0, .int y1, .int y2]) [] h (fun q => q = o) := by
  rw [am_args_I, am_args_I, am_args_I]
  exact rg_292_0 y0 y1 y2 h o rfl rfl rfl  hs
def fg_291_4 (N : Nat) : Nat → Value → Int32 → Int32 → am_H → Option am_O
  | 0 => fun _ _ _ _ => none
  | K + 1 => fun x0 x2 x3 h => ((am_vI (am_pG 771 x0 h)).bind fun v1 => (if v1 ≤ x3 then some (.inl (some (.int x2), h)) else (if am_pOk 3 x0 h then am_cI true (fm_54 x0 x3 0 h) (fun v5 h6 => (if am_pOk 3 x0 h6 then am_cI true (fm_54 x0 x3 1 h6) (fun v9 h10 => am_cI false (fm_292 x2 v5 v9 h10) (fun v12 h13 => (fg_291_4 N K x0 v12 ((x3 + 1)) h13))) else none)) else none)))
theorem rg_291_4 {X : am_X} {d : Nat} {N : Nat} : ∀ (K : Nat) (x0 : Value) (x2 : Int32) (x3 : Int32) (h : am_H) (o : am_O), fg_291_4 N K x0 x2 x3 h = some o → ∀ lv : am_LV, (lv.lookup 0 = some x0) → (lv.lookup 2 = some (.int x2)) → (lv.lookup 3 = some (.int x3)) → (am_isR x0 = true) → am_W X (d + 1) 291 4 lv [] h (fun q => q = o) := by
  intro K
  induction K with
  | zero => intro x0 x2 x3 h o hs; cases hs
  | succ K ih =>
    intro x0 x2 x3 h o hs lv l0 l2 l3 i0
    unfold fg_291_4 at hs
    refine aw_iload_n (pc1 := 5) at_291_4 l3 rfl ?_
    refine aw_vload_n (pc1 := 6) at_291_5 l0 i0 rfl ?_
    obtain ⟨v1, e2, hs1⟩ := am_bind hs
    clear hs
    refine aw_pG (pc1 := 9) at_291_6 (am_vI_s e2) rfl ?_
    by_cases c3 : v1 ≤ x3
    · rw [if_pos c3] at hs1
      refine aw_icge_t at_291_9 c3 ?_
      refine aw_iload_n (pc1 := 36) at_291_35 l2 rfl ?_
      cases hs1
      exact aw_iret at_291_36 (by rw [rt_291]; rfl) rfl
    · rw [if_neg c3] at hs1
      refine aw_icge_f (pc1 := 12) at_291_9 c3 rfl ?_
      refine aw_iload_n (pc1 := 13) at_291_12 l2 rfl ?_
      refine aw_vload_n (pc1 := 14) at_291_13 l0 i0 rfl ?_
      refine aw_iload_n (pc1 := 15) at_291_14 l3 rfl ?_
      refine aw_iconst (v := 0) (pc1 := 16) at_291_15 (by decide) rfl ?_
      obtain ⟨z4, hs2⟩ := am_ift hs1
      clear hs1
      refine aw_call (F := fm_54 x0 x3 0 h) (t := true) (na := 3) (kd := 1) (as := [x0, (.int x3), (.int 0)]) at_291_16 (am_k3v kb_54) mn_54 mk_54 rfl rfl (am_ok_v mi_54 (am_hl rfl (am_ccR i0 (am_ccI (am_ccI am_cats_0))) rfl) z4) (am_hc (am_ccI am_cats_0) rfl) (fun _ => ⟨rfl, hh_291⟩) (fun o1 hz9 => rm_54 x0 x3 0 h o1 i0 hz9) ?_
      rcases am_cI_s hs2 with ⟨v5, h6, f7, hs3⟩ | hs3
      · clear hs2
        refine Or.inl ⟨_, _, f7, ?_⟩
        show am_W X _ 291 19 _ [(.int v5), (.int x2)] h6 _
        refine aw_vload_n (pc1 := 20) at_291_19 l0 i0 rfl ?_
        refine aw_iload_n (pc1 := 21) at_291_20 l3 rfl ?_
        refine aw_iconst (v := 1) (pc1 := 22) at_291_21 (by decide) rfl ?_
        obtain ⟨z8, hs4⟩ := am_ift hs3
        clear hs3
        refine aw_call (F := fm_54 x0 x3 1 h6) (t := true) (na := 3) (kd := 1) (as := [x0, (.int x3), (.int 1)]) at_291_22 (am_k3v kb_54) mn_54 mk_54 rfl rfl (am_ok_v mi_54 (am_hl rfl (am_ccR i0 (am_ccI (am_ccI am_cats_0))) rfl) z8) (am_hc (am_ccI (am_ccI am_cats_0)) rfl) (fun _ => ⟨rfl, hh_291⟩) (fun o1 hz9 => rm_54 x0 x3 1 h6 o1 i0 hz9) ?_
        rcases am_cI_s hs4 with ⟨v9, h10, f11, hs5⟩ | hs5
        · clear hs4
          refine Or.inl ⟨_, _, f11, ?_⟩
          show am_W X _ 291 25 _ [(.int v9), (.int v5), (.int x2)] h10 _
          refine aw_call (F := fm_292 x2 v5 v9 h10) (t := false) (na := 3) (kd := 0) (as := [(.int x2), (.int v5), (.int v9)]) at_291_25 (am_k3s kb_292) mn_292 mk_292 rfl rfl (am_ok_s mi_292 (am_hl rfl (am_ccI (am_ccI (am_ccI am_cats_0))) rfl)) (am_hc am_cats_0 rfl) (fun hz9 => by cases hz9) (fun o1 hz9 => rm_292 x2 v5 v9 h10 o1  hz9) ?_
          rcases am_cI_s hs5 with ⟨v12, h13, f14, hs6⟩ | hs6
          · clear hs5
            refine Or.inl ⟨_, _, f14, ?_⟩
            show am_W X _ 291 28 _ [(.int v12)] h13 _
            refine aw_istore_n (lv1 := am_put1 _ 2 _) (pc1 := 29) at_291_28 rfl rfl ?_
            refine aw_iinc (v := (x3 + 1)) (c := 1) (lv1 := am_put1 _ 3 _) (pc1 := 32) at_291_29 (am_lk1 l3 rfl rfl) (by decide) rfl rfl rfl ?_
            refine aw_goto at_291_32 ?_
            exact ih x0 v12 ((x3 + 1)) h13 o hs6 _ (am_lk1 (am_lk1 l0 rfl rfl) rfl rfl) (am_lk1 am_lk0 rfl rfl) am_lk0 i0
          · clear hs5
            exact Or.inr hs6
        · clear hs4
          exact Or.inr hs5
      · clear hs2
        exact Or.inr hs3
def fg_291_0 (N : Nat) (x0 : Value) (x1 : Int32) (h : am_H) : Option am_O := (fg_291_4 N N x0 x1 0 h)
theorem rg_291_0 {X : am_X} {d : Nat} {N : Nat} {lv : am_LV} (x0 : Value) (x1 : Int32) (h : am_H) (o : am_O) (l0 : lv.lookup 0 = some x0) (l1 : lv.lookup 1 = some (.int x1)) (i0 : am_isR x0 = true) (hs : fg_291_0 N x0 x1 h = some o) : am_W X (d + 1) 291 0 lv [] h (fun q => q = o) := by
  unfold fg_291_0 at hs
  refine aw_iload_n (pc1 := 1) at_291_0 l1 rfl ?_
  refine aw_istore_n (lv1 := am_put1 _ 2 _) (pc1 := 2) at_291_1 rfl rfl ?_
  refine aw_iconst (v := 0) (pc1 := 3) at_291_2 (by decide) rfl ?_
  refine aw_istore_n (lv1 := am_put1 _ 3 _) (pc1 := 4) at_291_3 rfl rfl ?_
  exact rg_291_4 N x0 x1 0 h o hs _ (am_lk1 (am_lk1 l0 rfl rfl) rfl rfl) (am_lk1 am_lk0 rfl rfl) am_lk0 i0
def fm_291 (N : Nat) (y0 : Value) (y1 : Int32) (h : am_H) : Option am_O := fg_291_0 N y0 y1 h
theorem rm_291 {X : am_X} {d : Nat} {N : Nat} (y0 : Value) (y1 : Int32) (h : am_H) (o : am_O) (i0 : am_isR y0 = true) (hs : fm_291 N y0 y1 h = some o) : am_W X (d + 1) 291 0 (am_args 0 [y0, .int y1]) [] h (fun q => q = o) := by
  rw [am_args_R i0, am_args_I]
  exact rg_291_0 y0 y1 h o rfl rfl i0 hs
def fg_290_61 (N : Nat) : Nat → Value → Value → Int32 → Int32 → am_H → Option am_O
  | 0 => fun _ _ _ _ _ => none
  | K + 1 => fun x1 x3 x5 x6 h => ((am_vI (am_pG 770 x1 h)).bind fun v1 => (if v1 ≤ x6 then some (.inl (some (.int 1), h)) else ((am_pS 0 x3 (4 + x6) ((x5 >>> (x6 &&& 31)) &&& 1) h).bind fun h4 => (fg_290_61 N K x1 x3 x5 ((x6 + 1)) h4))))
theorem rg_290_61 {X : am_X} {d : Nat} {N : Nat} : ∀ (K : Nat) (x1 : Value) (x3 : Value) (x5 : Int32) (x6 : Int32) (h : am_H) (o : am_O), fg_290_61 N K x1 x3 x5 x6 h = some o → ∀ lv : am_LV, (lv.lookup 1 = some x1) → (lv.lookup 3 = some x3) → (lv.lookup 5 = some (.int x5)) → (lv.lookup 6 = some (.int x6)) → (am_isR x1 = true) → (am_isR x3 = true) → am_W X (d + 2) 290 61 lv [] h (fun q => q = o) := by
  intro K
  induction K with
  | zero => intro x1 x3 x5 x6 h o hs; cases hs
  | succ K ih =>
    intro x1 x3 x5 x6 h o hs lv l1 l3 l5 l6 i1 i3
    unfold fg_290_61 at hs
    refine aw_iload (pc1 := 63) at_290_61 l6 rfl ?_
    refine aw_vload_n (pc1 := 64) at_290_63 l1 i1 rfl ?_
    obtain ⟨v1, e2, hs1⟩ := am_bind hs
    clear hs
    refine aw_pG (pc1 := 67) at_290_64 (am_vI_s e2) rfl ?_
    by_cases c3 : v1 ≤ x6
    · rw [if_pos c3] at hs1
      refine aw_icge_t at_290_67 c3 ?_
      refine aw_iconst (v := 1) (pc1 := 90) at_290_89 (by decide) rfl ?_
      cases hs1
      exact aw_iret at_290_90 (by rw [rt_290]; decide) rfl
    · rw [if_neg c3] at hs1
      refine aw_icge_f (pc1 := 70) at_290_67 c3 rfl ?_
      refine aw_vload_n (pc1 := 71) at_290_70 l3 i3 rfl ?_
      refine aw_iconst (v := 4) (pc1 := 72) at_290_71 (by decide) rfl ?_
      refine aw_iload (pc1 := 74) at_290_72 l6 rfl ?_
      refine aw_iadd (v := (4 + x6)) (pc1 := 75) at_290_74 rfl rfl ?_
      refine aw_iload (pc1 := 77) at_290_75 l5 rfl ?_
      refine aw_iload (pc1 := 79) at_290_77 l6 rfl ?_
      refine aw_ishr (v := (x5 >>> (x6 &&& 31))) (pc1 := 80) at_290_79 rfl rfl ?_
      refine aw_iconst (v := 1) (pc1 := 81) at_290_80 (by decide) rfl ?_
      refine aw_iand (v := ((x5 >>> (x6 &&& 31)) &&& 1)) (pc1 := 82) at_290_81 rfl rfl ?_
      obtain ⟨h4, e5, hs2⟩ := am_bind hs1
      clear hs1
      refine aw_pS (pc1 := 83) at_290_82 (Or.inl ⟨rfl, rfl⟩) e5 rfl ?_
      refine aw_iinc (v := (x6 + 1)) (c := 1) (lv1 := am_put1 _ 6 _) (pc1 := 86) at_290_83 l6 (by decide) rfl rfl rfl ?_
      refine aw_goto at_290_86 ?_
      exact ih x1 x3 x5 ((x6 + 1)) h4 o hs2 _ (am_lk1 l1 rfl rfl) (am_lk1 l3 rfl rfl) (am_lk1 l5 rfl rfl) am_lk0 i1 i3
def fg_290_13 (N : Nat) : Nat → Value → Value → Value → Int32 → Int32 → am_H → Option am_O
  | 0 => fun _ _ _ _ _ _ => none
  | K + 1 => fun x1 x2 x3 x4 x5 h => ((am_vI (am_pG 770 x1 h)).bind fun v1 => (if (1 <<< (v1 &&& 31)) ≤ x5 then some (.inl (some (.int 0), h)) else am_cI false (fm_291 N x1 x5 h) (fun v4 h5 => am_cI false (fm_291 N x2 x5 h5) (fun v7 h8 => (if ¬ (((v4 ^^^ v7) >>> (x4 &&& 31)) &&& 1) = 1 then (fg_290_13 N K x1 x2 x3 x4 ((x5 + 1)) h8) else am_cV false (fm_53 N x3 0 h8) (fun h12 => ((am_vI (am_pG 770 x1 h12)).bind fun v14 => ((am_pS 0 x3 3 v14 h12).bind fun h16 => (fg_290_61 N N x1 x3 x5 0 h16)))))))))
theorem rg_290_13 {X : am_X} {d : Nat} {N : Nat} : ∀ (K : Nat) (x1 : Value) (x2 : Value) (x3 : Value) (x4 : Int32) (x5 : Int32) (h : am_H) (o : am_O), fg_290_13 N K x1 x2 x3 x4 x5 h = some o → ∀ lv : am_LV, (lv.lookup 1 = some x1) → (lv.lookup 2 = some x2) → (lv.lookup 3 = some x3) → (lv.lookup 4 = some (.int x4)) → (lv.lookup 5 = some (.int x5)) → (am_isR x1 = true) → (am_isR x2 = true) → (am_isR x3 = true) → am_W X (d + 2) 290 13 lv [] h (fun q => q = o) := by
  intro K
  induction K with
  | zero => intro x1 x2 x3 x4 x5 h o hs; cases hs
  | succ K ih =>
    intro x1 x2 x3 x4 x5 h o hs lv l1 l2 l3 l4 l5 i1 i2 i3
    unfold fg_290_13 at hs
    refine aw_iload (pc1 := 15) at_290_13 l5 rfl ?_
    refine aw_iconst (v := 1) (pc1 := 16) at_290_15 (by decide) rfl ?_
    refine aw_vload_n (pc1 := 17) at_290_16 l1 i1 rfl ?_
    obtain ⟨v1, e2, hs1⟩ := am_bind hs
    clear hs
    refine aw_pG (pc1 := 20) at_290_17 (am_vI_s e2) rfl ?_
    refine aw_ishl (v := (1 <<< (v1 &&& 31))) (pc1 := 21) at_290_20 rfl rfl ?_
    by_cases c3 : (1 <<< (v1 &&& 31)) ≤ x5
    · rw [if_pos c3] at hs1
      refine aw_icge_t at_290_21 c3 ?_
      refine aw_iconst (v := 0) (pc1 := 98) at_290_97 (by decide) rfl ?_
      cases hs1
      exact aw_iret at_290_98 (by rw [rt_290]; decide) rfl
    · rw [if_neg c3] at hs1
      refine aw_icge_f (pc1 := 24) at_290_21 c3 rfl ?_
      refine aw_vload_n (pc1 := 25) at_290_24 l1 i1 rfl ?_
      refine aw_iload (pc1 := 27) at_290_25 l5 rfl ?_
      refine aw_call (F := fm_291 N x1 x5 h) (t := false) (na := 2) (kd := 0) (as := [x1, (.int x5)]) at_290_27 (am_k3s kb_291) mn_291 mk_291 rfl rfl (am_ok_s mi_291 (am_hl rfl (am_ccR i1 (am_ccI am_cats_0)) rfl)) (am_hc am_cats_0 rfl) (fun hz9 => by cases hz9) (fun o1 hz9 => rm_291 x1 x5 h o1 i1 hz9) ?_
      rcases am_cI_s hs1 with ⟨v4, h5, f6, hs2⟩ | hs2
      · clear hs1
        refine Or.inl ⟨_, _, f6, ?_⟩
        show am_W X _ 290 30 _ [(.int v4)] h5 _
        refine aw_vload_n (pc1 := 31) at_290_30 l2 i2 rfl ?_
        refine aw_iload (pc1 := 33) at_290_31 l5 rfl ?_
        refine aw_call (F := fm_291 N x2 x5 h5) (t := false) (na := 2) (kd := 0) (as := [x2, (.int x5)]) at_290_33 (am_k3s kb_291) mn_291 mk_291 rfl rfl (am_ok_s mi_291 (am_hl rfl (am_ccR i2 (am_ccI am_cats_0)) rfl)) (am_hc (am_ccI am_cats_0) rfl) (fun hz9 => by cases hz9) (fun o1 hz9 => rm_291 x2 x5 h5 o1 i2 hz9) ?_
        rcases am_cI_s hs2 with ⟨v7, h8, f9, hs3⟩ | hs3
        · clear hs2
          refine Or.inl ⟨_, _, f9, ?_⟩
          show am_W X _ 290 36 _ [(.int v7), (.int v4)] h8 _
          refine aw_ixor (v := (v4 ^^^ v7)) (pc1 := 37) at_290_36 rfl rfl ?_
          refine aw_iload (pc1 := 39) at_290_37 l4 rfl ?_
          refine aw_ishr (v := ((v4 ^^^ v7) >>> (x4 &&& 31))) (pc1 := 40) at_290_39 rfl rfl ?_
          refine aw_iconst (v := 1) (pc1 := 41) at_290_40 (by decide) rfl ?_
          refine aw_iand (v := (((v4 ^^^ v7) >>> (x4 &&& 31)) &&& 1)) (pc1 := 42) at_290_41 rfl rfl ?_
          refine aw_iconst (v := 1) (pc1 := 43) at_290_42 (by decide) rfl ?_
          by_cases c10 : ¬ (((v4 ^^^ v7) >>> (x4 &&& 31)) &&& 1) = 1
          · rw [if_pos c10] at hs3
            refine aw_icne_t at_290_43 c10 ?_
            refine aw_iinc (v := (x5 + 1)) (c := 1) (lv1 := am_put1 _ 5 _) (pc1 := 94) at_290_91 l5 (by decide) rfl rfl rfl ?_
            refine aw_goto at_290_94 ?_
            exact ih x1 x2 x3 x4 ((x5 + 1)) h8 o hs3 _ (am_lk1 l1 rfl rfl) (am_lk1 l2 rfl rfl) (am_lk1 l3 rfl rfl) (am_lk1 l4 rfl rfl) am_lk0 i1 i2 i3
          · rw [if_neg c10] at hs3
            refine aw_icne_f (pc1 := 46) at_290_43 c10 rfl ?_
            refine aw_vload_n (pc1 := 47) at_290_46 l3 i3 rfl ?_
            refine aw_iconst (v := 0) (pc1 := 48) at_290_47 (by decide) rfl ?_
            refine aw_call (F := fm_53 N x3 0 h8) (t := false) (na := 2) (kd := 0) (as := [x3, (.int 0)]) at_290_48 (am_k3s kb_53) mn_53 mk_53 rfl rfl (am_ok_s mi_53 (am_hl rfl (am_ccR i3 (am_ccI am_cats_0)) rfl)) (am_hc am_cats_0 rfl) (fun hz9 => by cases hz9) (fun o1 hz9 => rm_53 x3 0 h8 o1 i3 hz9) ?_
            rcases am_cV_s hs3 with ⟨h12, f13, hs4⟩ | hs4
            · clear hs3
              refine Or.inl ⟨_, _, f13, ?_⟩
              show am_W X _ 290 51 _ [] h12 _
              refine aw_vload_n (pc1 := 52) at_290_51 l3 i3 rfl ?_
              refine aw_iconst (v := 3) (pc1 := 53) at_290_52 (by decide) rfl ?_
              refine aw_vload_n (pc1 := 54) at_290_53 l1 i1 rfl ?_
              obtain ⟨v14, e15, hs5⟩ := am_bind hs4
              clear hs4
              refine aw_pG (pc1 := 57) at_290_54 (am_vI_s e15) rfl ?_
              obtain ⟨h16, e17, hs6⟩ := am_bind hs5
              clear hs5
              refine aw_pS (pc1 := 58) at_290_57 (Or.inl ⟨rfl, rfl⟩) e17 rfl ?_
              refine aw_iconst (v := 0) (pc1 := 59) at_290_58 (by decide) rfl ?_
              refine aw_istore (lv1 := am_put1 _ 6 _) (pc1 := 61) at_290_59 rfl rfl ?_
              exact rg_290_61 N x1 x3 x5 0 h16 o hs6 _ (am_lk1 l1 rfl rfl) (am_lk1 l3 rfl rfl) (am_lk1 l5 rfl rfl) am_lk0 i1 i3
            · clear hs3
              exact Or.inr hs4
        · clear hs2
          exact Or.inr hs3
      · clear hs1
        exact Or.inr hs2
def fg_290_0 (N : Nat) (x1 : Value) (x2 : Value) (x3 : Value) (h : am_H) : Option am_O := ((am_vI (am_pG 770 x1 h)).bind fun v1 => (fg_290_13 N N x1 x2 x3 (((v1 - 1) / 2)) 0 h))
theorem rg_290_0 {X : am_X} {d : Nat} {N : Nat} {lv : am_LV} (x1 : Value) (x2 : Value) (x3 : Value) (h : am_H) (o : am_O) (l1 : lv.lookup 1 = some x1) (l2 : lv.lookup 2 = some x2) (l3 : lv.lookup 3 = some x3) (i1 : am_isR x1 = true) (i2 : am_isR x2 = true) (i3 : am_isR x3 = true) (hs : fg_290_0 N x1 x2 x3 h = some o) : am_W X (d + 2) 290 0 lv [] h (fun q => q = o) := by
  unfold fg_290_0 at hs
  refine aw_vload_n (pc1 := 1) at_290_0 l1 i1 rfl ?_
  obtain ⟨v1, e2, hs1⟩ := am_bind hs
  clear hs
  refine aw_pG (pc1 := 4) at_290_1 (am_vI_s e2) rfl ?_
  refine aw_iconst (v := 1) (pc1 := 5) at_290_4 (by decide) rfl ?_
  refine aw_isub (v := (v1 - 1)) (pc1 := 6) at_290_5 rfl rfl ?_
  refine aw_iconst (v := 2) (pc1 := 7) at_290_6 (by decide) rfl ?_
  refine aw_idiv (v := ((v1 - 1) / 2)) (pc1 := 8) at_290_7 (by decide) rfl rfl ?_
  refine aw_istore (lv1 := am_put1 _ 4 _) (pc1 := 10) at_290_8 rfl rfl ?_
  refine aw_iconst (v := 0) (pc1 := 11) at_290_10 (by decide) rfl ?_
  refine aw_istore (lv1 := am_put1 _ 5 _) (pc1 := 13) at_290_11 rfl rfl ?_
  exact rg_290_13 N x1 x2 x3 (((v1 - 1) / 2)) 0 h o hs1 _ (am_lk1 (am_lk1 l1 rfl rfl) rfl rfl) (am_lk1 (am_lk1 l2 rfl rfl) rfl rfl) (am_lk1 (am_lk1 l3 rfl (by rw [am_isRc i3]; rfl)) rfl rfl) (am_lk1 am_lk0 rfl rfl) am_lk0 i1 i2 i3
def fm_290 (N : Nat) (y0 : Value) (y1 : Value) (y2 : Value) (y3 : Value) (h : am_H) : Option am_O := fg_290_0 N y1 y2 y3 h
theorem rm_290 {X : am_X} {d : Nat} {N : Nat} (y0 : Value) (y1 : Value) (y2 : Value) (y3 : Value) (h : am_H) (o : am_O) (i0 : am_isR y0 = true) (i1 : am_isR y1 = true) (i2 : am_isR y2 = true) (i3 : am_isR y3 = true) (hs : fm_290 N y0 y1 y2 y3 h = some o) : am_W X (d + 2) 290 0 (am_args 0 [y0, y1, y2, y3]) [] h (fun q => q = o) := by
  rw [am_args_R i0, am_args_R i1, am_args_R i2, am_args_R i3]
  exact rg_290_0 y1 y2 y3 h o rfl rfl rfl i1 i2 i3 hs
def fg_295_69 (N : Nat) (s0 : Int32) (h : am_H) : Option am_O := (if am_rfit (some FieldType.boolean) s0 then some (.inl (some (.int s0), h)) else none)
theorem rg_295_69 {X : am_X} {d : Nat} {N : Nat} {lv : am_LV} (s0 : Int32) (h : am_H) (o : am_O) (hs : fg_295_69 N s0 h = some o) : am_W X (d + 1) 295 69 lv [(.int s0)] h (fun q => q = o) := by
  unfold fg_295_69 at hs
  obtain ⟨z1, hs1⟩ := am_ift hs
  clear hs
  cases hs1
  exact aw_iret at_295_69 (by rw [rt_295]; exact z1) rfl
def fg_295_68 (N : Nat) (h : am_H) : Option am_O := (fg_295_69 N 0 h)
theorem rg_295_68 {X : am_X} {d : Nat} {N : Nat} {lv : am_LV} (h : am_H) (o : am_O) (hs : fg_295_68 N h = some o) : am_W X (d + 1) 295 68 lv [] h (fun q => q = o) := by
  unfold fg_295_68 at hs
  refine aw_iconst (v := 0) (pc1 := 69) at_295_68 (by decide) rfl ?_
  exact rg_295_69 0 h o   hs
def fg_295_0 (N : Nat) (x0 : Value) (x1 : Value) (h : am_H) : Option am_O := (if am_pOk 3 x1 h then am_cI true (fm_54 x1 0 0 h) (fun v2 h3 => am_cI false (fm_11 v2 h3) (fun v5 h6 => (if ¬ v5 = 0 then (if am_pOk 3 x0 h6 then am_cI true (fm_41 N x0 20 0 h6) (fun v10 h11 => (if v10 = 0 then (fg_295_68 N h11) else ((am_vI (am_pG 771 x1 h11)).bind fun v14 => (if am_pOk 3 x0 h11 then am_cI true (fm_170 x0 x1 0 v14 h11) (fun v17 h18 => (if v17 = 0 then (fg_295_68 N h18) else (if am_pOk 3 x0 h18 then am_cI true (fm_41 N x0 0 1 h18) (fun v22 h23 => (if v22 = 0 then (fg_295_68 N h23) else (if am_pOk 3 x0 h23 then am_cI true (fm_41 N x0 0 0 h23) (fun v27 h28 => (if v27 = 0 then (fg_295_68 N h28) else (fg_295_69 N 1 h28))) else none))) else none))) else none)))) else none) else ((am_vI (am_pG 771 x1 h6)).bind fun v31 => (if am_pOk 3 x0 h6 then am_cI true (fm_170 x0 x1 0 v31 h6) (fun v34 h35 => (if am_rfit (some FieldType.boolean) v34 then some (.inl (some (.int v34), h35)) else none)) else none))))) else none)
theorem rg_295_0 {X : am_X} {d : Nat} {N : Nat} {lv : am_LV} (x0 : Value) (x1 : Value) (h : am_H) (o : am_O) (l0 : lv.lookup 0 = some x0) (l1 : lv.lookup 1 = some x1) (i0 : am_isR x0 = true) (i1 : am_isR x1 = true) (hs : fg_295_0 N x0 x1 h = some o) : am_W X (d + 1) 295 0 lv [] h (fun q => q = o) := by
  unfold fg_295_0 at hs
  refine aw_vload_n (pc1 := 1) at_295_0 l1 i1 rfl ?_
  refine aw_iconst (v := 0) (pc1 := 2) at_295_1 (by decide) rfl ?_
  refine aw_iconst (v := 0) (pc1 := 3) at_295_2 (by decide) rfl ?_
  obtain ⟨z1, hs1⟩ := am_ift hs
  clear hs
  refine aw_call (F := fm_54 x1 0 0 h) (t := true) (na := 3) (kd := 1) (as := [x1, (.int 0), (.int 0)]) at_295_3 (am_k3v kb_54) mn_54 mk_54 rfl rfl (am_ok_v mi_54 (am_hl rfl (am_ccR i1 (am_ccI (am_ccI am_cats_0))) rfl) z1) (am_hc am_cats_0 rfl) (fun _ => ⟨rfl, hh_295⟩) (fun o1 hz9 => rm_54 x1 0 0 h o1 i1 hz9) ?_
  rcases am_cI_s hs1 with ⟨v2, h3, f4, hs2⟩ | hs2
  · clear hs1
    refine Or.inl ⟨_, _, f4, ?_⟩
    show am_W X _ 295 6 _ [(.int v2)] h3 _
    refine aw_call (F := fm_11 v2 h3) (t := false) (na := 1) (kd := 0) (as := [(.int v2)]) at_295_6 (am_k3s kb_11) mn_11 mk_11 rfl rfl (am_ok_s mi_11 (am_hl rfl (am_ccI am_cats_0) rfl)) (am_hc am_cats_0 rfl) (fun hz9 => by cases hz9) (fun o1 hz9 => rm_11 v2 h3 o1  hz9) ?_
    rcases am_cI_s hs2 with ⟨v5, h6, f7, hs3⟩ | hs3
    · clear hs2
      refine Or.inl ⟨_, _, f7, ?_⟩
      show am_W X _ 295 9 _ [(.int v5)] h6 _
      by_cases c8 : ¬ v5 = 0
      · rw [if_pos c8] at hs3
        refine aw_ifne_t at_295_9 c8 ?_
        refine aw_vload_n (pc1 := 24) at_295_23 l0 i0 rfl ?_
        refine aw_bipush (v := 20) (pc1 := 26) at_295_24 (by decide) rfl ?_
        refine aw_iconst (v := 0) (pc1 := 27) at_295_26 (by decide) rfl ?_
        obtain ⟨z9, hs4⟩ := am_ift hs3
        clear hs3
        refine aw_call (F := fm_41 N x0 20 0 h6) (t := true) (na := 3) (kd := 1) (as := [x0, (.int 20), (.int 0)]) at_295_27 (am_k3v kb_41) mn_41 mk_41 rfl rfl (am_ok_v mi_41 (am_hl rfl (am_ccR i0 (am_ccI (am_ccI am_cats_0))) rfl) z9) (am_hc am_cats_0 rfl) (fun _ => ⟨rfl, hh_295⟩) (fun o1 hz9 => rm_41 x0 20 0 h6 o1 i0 hz9) ?_
        rcases am_cI_s hs4 with ⟨v10, h11, f12, hs5⟩ | hs5
        · clear hs4
          refine Or.inl ⟨_, _, f12, ?_⟩
          show am_W X _ 295 30 _ [(.int v10)] h11 _
          by_cases c13 : v10 = 0
          · rw [if_pos c13] at hs5
            refine aw_ifeq_t at_295_30 c13 ?_
            exact rg_295_68 h11 o   hs5
          · rw [if_neg c13] at hs5
            refine aw_ifeq_f (pc1 := 33) at_295_30 c13 rfl ?_
            refine aw_vload_n (pc1 := 34) at_295_33 l0 i0 rfl ?_
            refine aw_vload_n (pc1 := 35) at_295_34 l1 i1 rfl ?_
            refine aw_iconst (v := 0) (pc1 := 36) at_295_35 (by decide) rfl ?_
            refine aw_vload_n (pc1 := 37) at_295_36 l1 i1 rfl ?_
            obtain ⟨v14, e15, hs6⟩ := am_bind hs5
            clear hs5
            refine aw_pG (pc1 := 40) at_295_37 (am_vI_s e15) rfl ?_
            obtain ⟨z16, hs7⟩ := am_ift hs6
            clear hs6
            refine aw_call (F := fm_170 x0 x1 0 v14 h11) (t := true) (na := 4) (kd := 1) (as := [x0, x1, (.int 0), (.int v14)]) at_295_40 (am_k3v kb_170) mn_170 mk_170 rfl rfl (am_ok_v mi_170 (am_hl rfl (am_ccR i0 (am_ccR i1 (am_ccI (am_ccI am_cats_0)))) rfl) z16) (am_hc am_cats_0 rfl) (fun _ => ⟨rfl, hh_295⟩) (fun o1 hz9 => rm_170 x0 x1 0 v14 h11 o1 i0 i1 hz9) ?_
            rcases am_cI_s hs7 with ⟨v17, h18, f19, hs8⟩ | hs8
            · clear hs7
              refine Or.inl ⟨_, _, f19, ?_⟩
              show am_W X _ 295 43 _ [(.int v17)] h18 _
              by_cases c20 : v17 = 0
              · rw [if_pos c20] at hs8
                refine aw_ifeq_t at_295_43 c20 ?_
                exact rg_295_68 h18 o   hs8
              · rw [if_neg c20] at hs8
                refine aw_ifeq_f (pc1 := 46) at_295_43 c20 rfl ?_
                refine aw_vload_n (pc1 := 47) at_295_46 l0 i0 rfl ?_
                refine aw_iconst (v := 0) (pc1 := 48) at_295_47 (by decide) rfl ?_
                refine aw_iconst (v := 1) (pc1 := 49) at_295_48 (by decide) rfl ?_
                obtain ⟨z21, hs9⟩ := am_ift hs8
                clear hs8
                refine aw_call (F := fm_41 N x0 0 1 h18) (t := true) (na := 3) (kd := 1) (as := [x0, (.int 0), (.int 1)]) at_295_49 (am_k3v kb_41) mn_41 mk_41 rfl rfl (am_ok_v mi_41 (am_hl rfl (am_ccR i0 (am_ccI (am_ccI am_cats_0))) rfl) z21) (am_hc am_cats_0 rfl) (fun _ => ⟨rfl, hh_295⟩) (fun o1 hz9 => rm_41 x0 0 1 h18 o1 i0 hz9) ?_
                rcases am_cI_s hs9 with ⟨v22, h23, f24, hs10⟩ | hs10
                · clear hs9
                  refine Or.inl ⟨_, _, f24, ?_⟩
                  show am_W X _ 295 52 _ [(.int v22)] h23 _
                  by_cases c25 : v22 = 0
                  · rw [if_pos c25] at hs10
                    refine aw_ifeq_t at_295_52 c25 ?_
                    exact rg_295_68 h23 o   hs10
                  · rw [if_neg c25] at hs10
                    refine aw_ifeq_f (pc1 := 55) at_295_52 c25 rfl ?_
                    refine aw_vload_n (pc1 := 56) at_295_55 l0 i0 rfl ?_
                    refine aw_iconst (v := 0) (pc1 := 57) at_295_56 (by decide) rfl ?_
                    refine aw_iconst (v := 0) (pc1 := 58) at_295_57 (by decide) rfl ?_
                    obtain ⟨z26, hs11⟩ := am_ift hs10
                    clear hs10
                    refine aw_call (F := fm_41 N x0 0 0 h23) (t := true) (na := 3) (kd := 1) (as := [x0, (.int 0), (.int 0)]) at_295_58 (am_k3v kb_41) mn_41 mk_41 rfl rfl (am_ok_v mi_41 (am_hl rfl (am_ccR i0 (am_ccI (am_ccI am_cats_0))) rfl) z26) (am_hc am_cats_0 rfl) (fun _ => ⟨rfl, hh_295⟩) (fun o1 hz9 => rm_41 x0 0 0 h23 o1 i0 hz9) ?_
                    rcases am_cI_s hs11 with ⟨v27, h28, f29, hs12⟩ | hs12
                    · clear hs11
                      refine Or.inl ⟨_, _, f29, ?_⟩
                      show am_W X _ 295 61 _ [(.int v27)] h28 _
                      by_cases c30 : v27 = 0
                      · rw [if_pos c30] at hs12
                        refine aw_ifeq_t at_295_61 c30 ?_
                        exact rg_295_68 h28 o   hs12
                      · rw [if_neg c30] at hs12
                        refine aw_ifeq_f (pc1 := 64) at_295_61 c30 rfl ?_
                        refine aw_iconst (v := 1) (pc1 := 65) at_295_64 (by decide) rfl ?_
                        refine aw_goto at_295_65 ?_
                        exact rg_295_69 1 h28 o   hs12
                    · clear hs11
                      exact Or.inr hs12
                · clear hs9
                  exact Or.inr hs10
            · clear hs7
              exact Or.inr hs8
        · clear hs4
          exact Or.inr hs5
      · rw [if_neg c8] at hs3
        refine aw_ifne_f (pc1 := 12) at_295_9 c8 rfl ?_
        refine aw_vload_n (pc1 := 13) at_295_12 l0 i0 rfl ?_
        refine aw_vload_n (pc1 := 14) at_295_13 l1 i1 rfl ?_
        refine aw_iconst (v := 0) (pc1 := 15) at_295_14 (by decide) rfl ?_
        refine aw_vload_n (pc1 := 16) at_295_15 l1 i1 rfl ?_
        obtain ⟨v31, e32, hs13⟩ := am_bind hs3
        clear hs3
        refine aw_pG (pc1 := 19) at_295_16 (am_vI_s e32) rfl ?_
        obtain ⟨z33, hs14⟩ := am_ift hs13
        clear hs13
        refine aw_call (F := fm_170 x0 x1 0 v31 h6) (t := true) (na := 4) (kd := 1) (as := [x0, x1, (.int 0), (.int v31)]) at_295_19 (am_k3v kb_170) mn_170 mk_170 rfl rfl (am_ok_v mi_170 (am_hl rfl (am_ccR i0 (am_ccR i1 (am_ccI (am_ccI am_cats_0)))) rfl) z33) (am_hc am_cats_0 rfl) (fun _ => ⟨rfl, hh_295⟩) (fun o1 hz9 => rm_170 x0 x1 0 v31 h6 o1 i0 i1 hz9) ?_
        rcases am_cI_s hs14 with ⟨v34, h35, f36, hs15⟩ | hs15
        · clear hs14
          refine Or.inl ⟨_, _, f36, ?_⟩
          show am_W X _ 295 22 _ [(.int v34)] h35 _
          obtain ⟨z37, hs16⟩ := am_ift hs15
          clear hs15
          cases hs16
          exact aw_iret at_295_22 (by rw [rt_295]; exact z37) rfl
        · clear hs14
          exact Or.inr hs15
    · clear hs2
      exact Or.inr hs3
  · clear hs1
    exact Or.inr hs2
def fm_295 (N : Nat) (y0 : Value) (y1 : Value) (h : am_H) : Option am_O := fg_295_0 N y0 y1 h
theorem rm_295 {X : am_X} {d : Nat} {N : Nat} (y0 : Value) (y1 : Value) (h : am_H) (o : am_O) (i0 : am_isR y0 = true) (i1 : am_isR y1 = true) (hs : fm_295 N y0 y1 h = some o) : am_W X (d + 1) 295 0 (am_args 0 [y0, y1]) [] h (fun q => q = o) := by
  rw [am_args_R i0, am_args_R i1]
  exact rg_295_0 y0 y1 h o rfl rfl i0 i1 hs
def fg_294_352 (N : Nat) (x0 : Value) (x1 : Int32) (h : am_H) : Option am_O := ((am_vI (am_pG 2563 x0 h)).bind fun v1 => am_cI false (fm_55 x1 h) (fun v3 h4 => ((am_pP 2563 x0 (.int (v1 + v3)) h4).bind fun h6 => some (.inl (some (.int 1), h6)))))
theorem rg_294_352 {X : am_X} {d : Nat} {N : Nat} {lv : am_LV} (x0 : Value) (x1 : Int32) (h : am_H) (o : am_O) (l0 : lv.lookup 0 = some x0) (l1 : lv.lookup 1 = some (.int x1)) (i0 : am_isR x0 = true) (hs : fg_294_352 N x0 x1 h = some o) : am_W X (d + 4) 294 352 lv [] h (fun q => q = o) := by
  unfold fg_294_352 at hs
  refine aw_vload_n (pc1 := 353) at_294_352 l0 i0 rfl ?_
  refine aw_vdup (pc1 := 354) at_294_353 i0 rfl ?_
  obtain ⟨v1, e2, hs1⟩ := am_bind hs
  clear hs
  refine aw_pG (pc1 := 357) at_294_354 (am_vI_s e2) rfl ?_
  refine aw_iload_n (pc1 := 358) at_294_357 l1 rfl ?_
  refine aw_call (F := fm_55 x1 h) (t := false) (na := 1) (kd := 0) (as := [(.int x1)]) at_294_358 (am_k3s kb_55) mn_55 mk_55 rfl rfl (am_ok_s mi_55 (am_hl rfl (am_ccI am_cats_0) rfl)) (am_hc (am_ccI (am_ccR i0 am_cats_0)) rfl) (fun hz9 => by cases hz9) (fun o1 hz9 => rm_55 x1 h o1  hz9) ?_
  rcases am_cI_s hs1 with ⟨v3, h4, f5, hs2⟩ | hs2
  · clear hs1
    refine Or.inl ⟨_, _, f5, ?_⟩
    show am_W X _ 294 361 _ [(.int v3), (.int v1), x0] h4 _
    refine aw_iadd (v := (v1 + v3)) (pc1 := 362) at_294_361 rfl rfl ?_
    obtain ⟨h6, e7, hs3⟩ := am_bind hs2
    clear hs2
    refine aw_pP (pc1 := 365) at_294_362 e7 rfl ?_
    refine aw_iconst (v := 1) (pc1 := 366) at_294_365 (by decide) rfl ?_
    cases hs3
    exact aw_iret at_294_366 (by rw [rt_294]; decide) rfl
  · clear hs1
    exact Or.inr hs2
def fg_294_300 (N : Nat) (x0 : Value) (x1 : Int32) (h : am_H) : Option am_O := (if ¬ x1 = 15 then (fg_294_352 N x0 x1 h) else ((am_vR (am_pG 2561 x0 h)).bind fun v2 => ((am_vI (am_pG 2563 x0 h)).bind fun v4 => ((am_pAA v2 (v4 - 1) h).bind fun v6 => ((am_vR (am_pG 2561 x0 h)).bind fun v8 => ((am_vI (am_pG 2563 x0 h)).bind fun v10 => ((am_vR (am_pG 2561 x0 h)).bind fun v12 => ((am_vI (am_pG 2563 x0 h)).bind fun v14 => ((am_pAA v12 (v14 - 2) h).bind fun v16 => ((am_pSA v8 (v10 - 1) v16 h).bind fun h18 => ((am_vR (am_pG 2561 x0 h18)).bind fun v20 => ((am_vI (am_pG 2563 x0 h18)).bind fun v22 => ((am_pSA v20 (v22 - 2) v6 h18).bind fun h24 => (fg_294_352 N x0 x1 h24))))))))))))))
theorem rg_294_300 {X : am_X} {d : Nat} {N : Nat} {lv : am_LV} (x0 : Value) (x1 : Int32) (h : am_H) (o : am_O) (l0 : lv.lookup 0 = some x0) (l1 : lv.lookup 1 = some (.int x1)) (i0 : am_isR x0 = true) (hs : fg_294_300 N x0 x1 h = some o) : am_W X (d + 4) 294 300 lv [] h (fun q => q = o) := by
  unfold fg_294_300 at hs
  refine aw_iload_n (pc1 := 301) at_294_300 l1 rfl ?_
  refine aw_bipush (v := 15) (pc1 := 303) at_294_301 (by decide) rfl ?_
  by_cases c1 : ¬ x1 = 15
  · rw [if_pos c1] at hs
    refine aw_icne_t at_294_303 c1 ?_
    exact rg_294_352 x0 x1 h o l0 l1 i0 hs
  · rw [if_neg c1] at hs
    refine aw_icne_f (pc1 := 306) at_294_303 c1 rfl ?_
    refine aw_vload_n (pc1 := 307) at_294_306 l0 i0 rfl ?_
    obtain ⟨v2, e3, hs1⟩ := am_bind hs
    clear hs
    refine aw_pG (pc1 := 310) at_294_307 (am_vR_s e3).1 rfl ?_
    refine aw_vload_n (pc1 := 311) at_294_310 l0 i0 rfl ?_
    obtain ⟨v4, e5, hs2⟩ := am_bind hs1
    clear hs1
    refine aw_pG (pc1 := 314) at_294_311 (am_vI_s e5) rfl ?_
    refine aw_iconst (v := 1) (pc1 := 315) at_294_314 (by decide) rfl ?_
    refine aw_isub (v := (v4 - 1)) (pc1 := 316) at_294_315 rfl rfl ?_
    obtain ⟨v6, e7, hs3⟩ := am_bind hs2
    clear hs2
    refine aw_pAA (pc1 := 317) at_294_316 e7 rfl ?_
    refine aw_vstore_n (lv1 := am_put1 _ 3 _) (pc1 := 318) at_294_317 (am_pAA_R e7) rfl rfl ?_
    refine aw_vload_n (pc1 := 319) at_294_318 (am_lk1 l0 rfl rfl) i0 rfl ?_
    obtain ⟨v8, e9, hs4⟩ := am_bind hs3
    clear hs3
    refine aw_pG (pc1 := 322) at_294_319 (am_vR_s e9).1 rfl ?_
    refine aw_vload_n (pc1 := 323) at_294_322 (am_lk1 l0 rfl rfl) i0 rfl ?_
    obtain ⟨v10, e11, hs5⟩ := am_bind hs4
    clear hs4
    refine aw_pG (pc1 := 326) at_294_323 (am_vI_s e11) rfl ?_
    refine aw_iconst (v := 1) (pc1 := 327) at_294_326 (by decide) rfl ?_
    refine aw_isub (v := (v10 - 1)) (pc1 := 328) at_294_327 rfl rfl ?_
    refine aw_vload_n (pc1 := 329) at_294_328 (am_lk1 l0 rfl rfl) i0 rfl ?_
    obtain ⟨v12, e13, hs6⟩ := am_bind hs5
    clear hs5
    refine aw_pG (pc1 := 332) at_294_329 (am_vR_s e13).1 rfl ?_
    refine aw_vload_n (pc1 := 333) at_294_332 (am_lk1 l0 rfl rfl) i0 rfl ?_
    obtain ⟨v14, e15, hs7⟩ := am_bind hs6
    clear hs6
    refine aw_pG (pc1 := 336) at_294_333 (am_vI_s e15) rfl ?_
    refine aw_iconst (v := 2) (pc1 := 337) at_294_336 (by decide) rfl ?_
    refine aw_isub (v := (v14 - 2)) (pc1 := 338) at_294_337 rfl rfl ?_
    obtain ⟨v16, e17, hs8⟩ := am_bind hs7
    clear hs7
    refine aw_pAA (pc1 := 339) at_294_338 e17 rfl ?_
    obtain ⟨h18, e19, hs9⟩ := am_bind hs8
    clear hs8
    refine aw_pSA (pc1 := 340) at_294_339 e19 rfl ?_
    refine aw_vload_n (pc1 := 341) at_294_340 (am_lk1 l0 rfl rfl) i0 rfl ?_
    obtain ⟨v20, e21, hs10⟩ := am_bind hs9
    clear hs9
    refine aw_pG (pc1 := 344) at_294_341 (am_vR_s e21).1 rfl ?_
    refine aw_vload_n (pc1 := 345) at_294_344 (am_lk1 l0 rfl rfl) i0 rfl ?_
    obtain ⟨v22, e23, hs11⟩ := am_bind hs10
    clear hs10
    refine aw_pG (pc1 := 348) at_294_345 (am_vI_s e23) rfl ?_
    refine aw_iconst (v := 2) (pc1 := 349) at_294_348 (by decide) rfl ?_
    refine aw_isub (v := (v22 - 2)) (pc1 := 350) at_294_349 rfl rfl ?_
    refine aw_vload_n (pc1 := 351) at_294_350 am_lk0 (am_pAA_R e7) rfl ?_
    obtain ⟨h24, e25, hs12⟩ := am_bind hs11
    clear hs11
    refine aw_pSA (pc1 := 352) at_294_351 e25 rfl ?_
    exact rg_294_352 x0 x1 h24 o (am_lk1 l0 rfl rfl) (am_lk1 l1 rfl rfl) i0 hs12
def fg_294_298 (N : Nat) (h : am_H) : Option am_O := some (.inl (some (.int 0), h))
theorem rg_294_298 {X : am_X} {d : Nat} {N : Nat} {lv : am_LV} (h : am_H) (o : am_O) (hs : fg_294_298 N h = some o) : am_W X (d + 4) 294 298 lv [] h (fun q => q = o) := by
  unfold fg_294_298 at hs
  refine aw_iconst (v := 0) (pc1 := 299) at_294_298 (by decide) rfl ?_
  cases hs
  exact aw_iret at_294_299 (by rw [rt_294]; decide) rfl
def fg_294_173 (N : Nat) (h : am_H) : Option am_O := some (.inl (some (.int 0), h))
theorem rg_294_173 {X : am_X} {d : Nat} {N : Nat} {lv : am_LV} (h : am_H) (o : am_O) (hs : fg_294_173 N h = some o) : am_W X (d + 4) 294 173 lv [] h (fun q => q = o) := by
  unfold fg_294_173 at hs
  refine aw_iconst (v := 0) (pc1 := 174) at_294_173 (by decide) rfl ?_
  cases hs
  exact aw_iret at_294_174 (by rw [rt_294]; decide) rfl
def fg_294_160 (N : Nat) (x0 : Value) (x1 : Int32) (x3 : Int32) (h : am_H) : Option am_O := ((am_vR (am_pG 2562 x0 h)).bind fun v1 => (if am_pOk 10 x0 h then am_cI true (fm_75 N x0 v1 h) (fun v4 h5 => (if v4 ≤ 12 then ((am_vR (am_pG 2561 x0 h5)).bind fun v8 => ((am_vI (am_pG 2563 x0 h5)).bind fun v10 => ((am_pAA v8 (v10 - x3) h5).bind fun v12 => ((am_vR (am_pG 2562 x0 h5)).bind fun v14 => (if am_pOk 3 v12 h5 then am_cV true (fm_60 v12 v14 h5) (fun h18 => (fg_294_352 N x0 x1 h18)) else none))))) else (fg_294_173 N h5))) else none))
theorem rg_294_160 {X : am_X} {d : Nat} {N : Nat} {lv : am_LV} (x0 : Value) (x1 : Int32) (x3 : Int32) (h : am_H) (o : am_O) (l0 : lv.lookup 0 = some x0) (l1 : lv.lookup 1 = some (.int x1)) (l3 : lv.lookup 3 = some (.int x3)) (i0 : am_isR x0 = true) (hs : fg_294_160 N x0 x1 x3 h = some o) : am_W X (d + 4) 294 160 lv [] h (fun q => q = o) := by
  unfold fg_294_160 at hs
  refine aw_vload_n (pc1 := 161) at_294_160 l0 i0 rfl ?_
  refine aw_vload_n (pc1 := 162) at_294_161 l0 i0 rfl ?_
  obtain ⟨v1, e2, hs1⟩ := am_bind hs
  clear hs
  refine aw_pG (pc1 := 165) at_294_162 (am_vR_s e2).1 rfl ?_
  obtain ⟨z3, hs2⟩ := am_ift hs1
  clear hs1
  refine aw_call (F := fm_75 N x0 v1 h) (t := true) (na := 2) (kd := 1) (as := [x0, v1]) at_294_165 (am_k3v kb_75) mn_75 mk_75 rfl rfl (am_ok_v mi_75 (am_hl rfl (am_ccR i0 (am_ccR (am_vR_s e2).2 am_cats_0)) rfl) z3) (am_hc am_cats_0 rfl) (fun _ => ⟨rfl, hh_294⟩) (fun o1 hz9 => rm_75 x0 v1 h o1 i0 (am_vR_s e2).2 hz9) ?_
  rcases am_cI_s hs2 with ⟨v4, h5, f6, hs3⟩ | hs3
  · clear hs2
    refine Or.inl ⟨_, _, f6, ?_⟩
    show am_W X _ 294 168 _ [(.int v4)] h5 _
    refine aw_bipush (v := 12) (pc1 := 170) at_294_168 (by decide) rfl ?_
    by_cases c7 : v4 ≤ 12
    · rw [if_pos c7] at hs3
      refine aw_icle_t at_294_170 c7 ?_
      refine aw_vload_n (pc1 := 176) at_294_175 l0 i0 rfl ?_
      obtain ⟨v8, e9, hs4⟩ := am_bind hs3
      clear hs3
      refine aw_pG (pc1 := 179) at_294_176 (am_vR_s e9).1 rfl ?_
      refine aw_vload_n (pc1 := 180) at_294_179 l0 i0 rfl ?_
      obtain ⟨v10, e11, hs5⟩ := am_bind hs4
      clear hs4
      refine aw_pG (pc1 := 183) at_294_180 (am_vI_s e11) rfl ?_
      refine aw_iload_n (pc1 := 184) at_294_183 l3 rfl ?_
      refine aw_isub (v := (v10 - x3)) (pc1 := 185) at_294_184 rfl rfl ?_
      obtain ⟨v12, e13, hs6⟩ := am_bind hs5
      clear hs5
      refine aw_pAA (pc1 := 186) at_294_185 e13 rfl ?_
      refine aw_vload_n (pc1 := 187) at_294_186 l0 i0 rfl ?_
      obtain ⟨v14, e15, hs7⟩ := am_bind hs6
      clear hs6
      refine aw_pG (pc1 := 190) at_294_187 (am_vR_s e15).1 rfl ?_
      obtain ⟨z16, hs8⟩ := am_ift hs7
      clear hs7
      refine aw_call (F := fm_60 v12 v14 h5) (t := true) (na := 2) (kd := 1) (as := [v12, v14]) at_294_190 (am_k3v kb_60) mn_60 mk_60 rfl rfl (am_ok_v mi_60 (am_hl rfl (am_ccR (am_pAA_R e13) (am_ccR (am_vR_s e15).2 am_cats_0)) rfl) z16) (am_hc am_cats_0 rfl) (fun _ => ⟨rfl, hh_294⟩) (fun o1 hz9 => rm_60 v12 v14 h5 o1 (am_pAA_R e13) (am_vR_s e15).2 hz9) ?_
      rcases am_cV_s hs8 with ⟨h18, f19, hs9⟩ | hs9
      · clear hs8
        refine Or.inl ⟨_, _, f19, ?_⟩
        show am_W X _ 294 193 _ [] h18 _
        refine aw_goto at_294_193 ?_
        exact rg_294_352 x0 x1 h18 o l0 l1 i0 hs9
      · clear hs8
        exact Or.inr hs9
    · rw [if_neg c7] at hs3
      refine aw_icle_f (pc1 := 173) at_294_170 c7 rfl ?_
      exact rg_294_173 h5 o   hs3
  · clear hs2
    exact Or.inr hs3
def fg_294_108 (N : Nat) (x0 : Value) (x1 : Int32) (x3 : Int32) (s0 : Value) (s1 : Int32) (h : am_H) : Option am_O := (if am_pOk 3 s0 h then am_cI true (fm_41 N s0 s1 0 h) (fun v2 h3 => ((am_vR (am_pG 2562 x0 h3)).bind fun v5 => ((am_vR (am_pG 2561 x0 h3)).bind fun v7 => ((am_vI (am_pG 2563 x0 h3)).bind fun v9 => ((am_pAA v7 (v9 - x3) h3).bind fun v11 => am_cI false (fm_295 N v5 v11 h3) (fun v13 h14 => (if v13 = 0 then (fg_294_173 N h14) else (if ¬ x3 = 2 then (fg_294_160 N x0 x1 x3 h14) else ((am_vR (am_pG 2562 x0 h14)).bind fun v18 => ((am_vR (am_pG 2561 x0 h14)).bind fun v20 => ((am_vI (am_pG 2563 x0 h14)).bind fun v22 => ((am_pAA v20 (v22 - 1) h14).bind fun v24 => am_cI false (fm_295 N v18 v24 h14) (fun v26 h27 => (if v26 = 0 then (fg_294_173 N h27) else (fg_294_160 N x0 x1 x3 h27))))))))))))))) else none)
theorem rg_294_108 {X : am_X} {d : Nat} {N : Nat} {lv : am_LV} (x0 : Value) (x1 : Int32) (x3 : Int32) (s0 : Value) (s1 : Int32) (h : am_H) (o : am_O) (l0 : lv.lookup 0 = some x0) (l1 : lv.lookup 1 = some (.int x1)) (l3 : lv.lookup 3 = some (.int x3)) (i0 : am_isR x0 = true) (j0 : am_isR s0 = true) (hs : fg_294_108 N x0 x1 x3 s0 s1 h = some o) : am_W X (d + 4) 294 108 lv [(.int s1), s0] h (fun q => q = o) := by
  unfold fg_294_108 at hs
  refine aw_iconst (v := 0) (pc1 := 109) at_294_108 (by decide) rfl ?_
  obtain ⟨z1, hs1⟩ := am_ift hs
  clear hs
  refine aw_call (F := fm_41 N s0 s1 0 h) (t := true) (na := 3) (kd := 1) (as := [s0, (.int s1), (.int 0)]) at_294_109 (am_k3v kb_41) mn_41 mk_41 rfl rfl (am_ok_v mi_41 (am_hl rfl (am_ccR j0 (am_ccI (am_ccI am_cats_0))) rfl) z1) (am_hc am_cats_0 rfl) (fun _ => ⟨rfl, hh_294⟩) (fun o1 hz9 => rm_41 s0 s1 0 h o1 j0 hz9) ?_
  rcases am_cI_s hs1 with ⟨v2, h3, f4, hs2⟩ | hs2
  · clear hs1
    refine Or.inl ⟨_, _, f4, ?_⟩
    show am_W X _ 294 112 _ [(.int v2)] h3 _
    refine aw_popi (pc1 := 113) at_294_112 rfl ?_
    refine aw_vload_n (pc1 := 114) at_294_113 l0 i0 rfl ?_
    obtain ⟨v5, e6, hs3⟩ := am_bind hs2
    clear hs2
    refine aw_pG (pc1 := 117) at_294_114 (am_vR_s e6).1 rfl ?_
    refine aw_vload_n (pc1 := 118) at_294_117 l0 i0 rfl ?_
    obtain ⟨v7, e8, hs4⟩ := am_bind hs3
    clear hs3
    refine aw_pG (pc1 := 121) at_294_118 (am_vR_s e8).1 rfl ?_
    refine aw_vload_n (pc1 := 122) at_294_121 l0 i0 rfl ?_
    obtain ⟨v9, e10, hs5⟩ := am_bind hs4
    clear hs4
    refine aw_pG (pc1 := 125) at_294_122 (am_vI_s e10) rfl ?_
    refine aw_iload_n (pc1 := 126) at_294_125 l3 rfl ?_
    refine aw_isub (v := (v9 - x3)) (pc1 := 127) at_294_126 rfl rfl ?_
    obtain ⟨v11, e12, hs6⟩ := am_bind hs5
    clear hs5
    refine aw_pAA (pc1 := 128) at_294_127 e12 rfl ?_
    refine aw_call (F := fm_295 N v5 v11 h3) (t := false) (na := 2) (kd := 0) (as := [v5, v11]) at_294_128 (am_k3s kb_295) mn_295 mk_295 rfl rfl (am_ok_s mi_295 (am_hl rfl (am_ccR (am_vR_s e6).2 (am_ccR (am_pAA_R e12) am_cats_0)) rfl)) (am_hc am_cats_0 rfl) (fun hz9 => by cases hz9) (fun o1 hz9 => rm_295 v5 v11 h3 o1 (am_vR_s e6).2 (am_pAA_R e12) hz9) ?_
    rcases am_cI_s hs6 with ⟨v13, h14, f15, hs7⟩ | hs7
    · clear hs6
      refine Or.inl ⟨_, _, f15, ?_⟩
      show am_W X _ 294 131 _ [(.int v13)] h14 _
      by_cases c16 : v13 = 0
      · rw [if_pos c16] at hs7
        refine aw_ifeq_t at_294_131 c16 ?_
        exact rg_294_173 h14 o   hs7
      · rw [if_neg c16] at hs7
        refine aw_ifeq_f (pc1 := 134) at_294_131 c16 rfl ?_
        refine aw_iload_n (pc1 := 135) at_294_134 l3 rfl ?_
        refine aw_iconst (v := 2) (pc1 := 136) at_294_135 (by decide) rfl ?_
        by_cases c17 : ¬ x3 = 2
        · rw [if_pos c17] at hs7
          refine aw_icne_t at_294_136 c17 ?_
          exact rg_294_160 x0 x1 x3 h14 o l0 l1 l3 i0 hs7
        · rw [if_neg c17] at hs7
          refine aw_icne_f (pc1 := 139) at_294_136 c17 rfl ?_
          refine aw_vload_n (pc1 := 140) at_294_139 l0 i0 rfl ?_
          obtain ⟨v18, e19, hs8⟩ := am_bind hs7
          clear hs7
          refine aw_pG (pc1 := 143) at_294_140 (am_vR_s e19).1 rfl ?_
          refine aw_vload_n (pc1 := 144) at_294_143 l0 i0 rfl ?_
          obtain ⟨v20, e21, hs9⟩ := am_bind hs8
          clear hs8
          refine aw_pG (pc1 := 147) at_294_144 (am_vR_s e21).1 rfl ?_
          refine aw_vload_n (pc1 := 148) at_294_147 l0 i0 rfl ?_
          obtain ⟨v22, e23, hs10⟩ := am_bind hs9
          clear hs9
          refine aw_pG (pc1 := 151) at_294_148 (am_vI_s e23) rfl ?_
          refine aw_iconst (v := 1) (pc1 := 152) at_294_151 (by decide) rfl ?_
          refine aw_isub (v := (v22 - 1)) (pc1 := 153) at_294_152 rfl rfl ?_
          obtain ⟨v24, e25, hs11⟩ := am_bind hs10
          clear hs10
          refine aw_pAA (pc1 := 154) at_294_153 e25 rfl ?_
          refine aw_call (F := fm_295 N v18 v24 h14) (t := false) (na := 2) (kd := 0) (as := [v18, v24]) at_294_154 (am_k3s kb_295) mn_295 mk_295 rfl rfl (am_ok_s mi_295 (am_hl rfl (am_ccR (am_vR_s e19).2 (am_ccR (am_pAA_R e25) am_cats_0)) rfl)) (am_hc am_cats_0 rfl) (fun hz9 => by cases hz9) (fun o1 hz9 => rm_295 v18 v24 h14 o1 (am_vR_s e19).2 (am_pAA_R e25) hz9) ?_
          rcases am_cI_s hs11 with ⟨v26, h27, f28, hs12⟩ | hs12
          · clear hs11
            refine Or.inl ⟨_, _, f28, ?_⟩
            show am_W X _ 294 157 _ [(.int v26)] h27 _
            by_cases c29 : v26 = 0
            · rw [if_pos c29] at hs12
              refine aw_ifeq_t at_294_157 c29 ?_
              exact rg_294_173 h27 o   hs12
            · rw [if_neg c29] at hs12
              refine aw_ifeq_f (pc1 := 160) at_294_157 c29 rfl ?_
              exact rg_294_160 x0 x1 x3 h27 o l0 l1 l3 i0 hs12
          · clear hs11
            exact Or.inr hs12
    · clear hs6
      exact Or.inr hs7
  · clear hs1
    exact Or.inr hs2
def fg_294_31 (N : Nat) (h : am_H) : Option am_O := some (.inl (some (.int 0), h))
theorem rg_294_31 {X : am_X} {d : Nat} {N : Nat} {lv : am_LV} (h : am_H) (o : am_O) (hs : fg_294_31 N h = some o) : am_W X (d + 4) 294 31 lv [] h (fun q => q = o) := by
  unfold fg_294_31 at hs
  refine aw_iconst (v := 0) (pc1 := 32) at_294_31 (by decide) rfl ?_
  cases hs
  exact aw_iret at_294_32 (by rw [rt_294]; decide) rfl
def fg_294_0 (N : Nat) (x0 : Value) (x1 : Int32) (x2 : Int32) (h : am_H) : Option am_O := ((am_vI (am_pG 2563 x0 h)).bind fun v1 => am_cI false (fm_56 x1 h) (fun v3 h4 => (if v1 < v3 then (fg_294_31 N h4) else ((am_vI (am_pG 2563 x0 h4)).bind fun v7 => am_cI false (fm_55 x1 h4) (fun v9 h10 => (if 8 < (v7 + v9) then (fg_294_31 N h10) else (if x1 < 17 then (if 4 < x1 then (if 13 < x1 then (if ¬ x1 = 14 then ((am_vR (am_pG 2561 x0 h10)).bind fun v17 => ((am_vI (am_pG 2563 x0 h10)).bind fun v19 => ((am_pAA v17 (v19 - 1) h10).bind fun v21 => ((am_vR (am_pG 2561 x0 h10)).bind fun v23 => ((am_vI (am_pG 2563 x0 h10)).bind fun v25 => ((am_pAA v23 (v25 - 1) h10).bind fun v27 => ((am_vI (am_pG 771 v27 h10)).bind fun v29 => (if am_pOk 3 v21 h10 then am_cI true (fm_279 N v21 0 v29 h10) (fun v32 h33 => (if ¬ v32 = 0 then (fg_294_300 N x0 x1 h33) else (if x1 = 16 then (fg_294_298 N h33) else ((am_vR (am_pG 2561 x0 h33)).bind fun v37 => ((am_vI (am_pG 2563 x0 h33)).bind fun v39 => ((am_pAA v37 (v39 - 2) h33).bind fun v41 => ((am_vR (am_pG 2561 x0 h33)).bind fun v43 => ((am_vI (am_pG 2563 x0 h33)).bind fun v45 => ((am_pAA v43 (v45 - 2) h33).bind fun v47 => ((am_vI (am_pG 771 v47 h33)).bind fun v49 => (if am_pOk 3 v41 h33 then am_cI true (fm_279 N v41 0 v49 h33) (fun v52 h53 => (if ¬ v52 = 0 then (fg_294_300 N x0 x1 h53) else (fg_294_298 N h53))) else none))))))))))) else none)))))))) else ((am_vR (am_pG 2561 x0 h10)).bind fun v56 => ((am_vI (am_pG 2563 x0 h10)).bind fun v58 => ((am_pAA v56 v58 h10).bind fun v60 => ((am_vR (am_pG 2561 x0 h10)).bind fun v62 => ((am_vI (am_pG 2563 x0 h10)).bind fun v64 => ((am_pAA v62 (v64 - 1) h10).bind fun v66 => (if am_pOk 3 v60 h10 then am_cV true (fm_60 v60 v66 h10) (fun h70 => (fg_294_352 N x0 x1 h70)) else none)))))))) else am_cI false (fm_56 x1 h10) (fun v72 h73 => ((am_vR (am_pG 2562 x0 h73)).bind fun v75 => (if am_pOk 3 v75 h73 then am_cV true (fm_34 v75 0 0 h73) (fun h79 => ((am_vR (am_pG 2562 x0 h79)).bind fun v81 => (if ¬ v72 = 1 then (fg_294_108 N x0 x1 v72 v81 ((x1 + 3)) h79) else (fg_294_108 N x0 x1 v72 v81 ((x1 + 2)) h79)))) else none)))) else ((am_vR (am_pG 2561 x0 h10)).bind fun v84 => ((am_vI (am_pG 2563 x0 h10)).bind fun v86 => ((am_pAA v84 v86 h10).bind fun v88 => (if am_pOk 3 v88 h10 then am_cV true (fm_34 v88 0 0 h10) (fun h92 => ((am_vR (am_pG 2561 x0 h92)).bind fun v94 => ((am_vI (am_pG 2563 x0 h92)).bind fun v96 => ((am_pAA v94 v96 h92).bind fun v98 => (if am_pOk 3 v98 h92 then am_cI true (fm_41 N v98 x1 x2 h92) (fun v101 h102 => (fg_294_352 N x0 x1 h102)) else none))))) else none))))) else (fg_294_31 N h10))))))))
theorem rg_294_0 {X : am_X} {d : Nat} {N : Nat} {lv : am_LV} (x0 : Value) (x1 : Int32) (x2 : Int32) (h : am_H) (o : am_O) (l0 : lv.lookup 0 = some x0) (l1 : lv.lookup 1 = some (.int x1)) (l2 : lv.lookup 2 = some (.int x2)) (i0 : am_isR x0 = true) (hs : fg_294_0 N x0 x1 x2 h = some o) : am_W X (d + 4) 294 0 lv [] h (fun q => q = o) := by
  unfold fg_294_0 at hs
  refine aw_vload_n (pc1 := 1) at_294_0 l0 i0 rfl ?_
  obtain ⟨v1, e2, hs1⟩ := am_bind hs
  clear hs
  refine aw_pG (pc1 := 4) at_294_1 (am_vI_s e2) rfl ?_
  refine aw_iload_n (pc1 := 5) at_294_4 l1 rfl ?_
  refine aw_call (F := fm_56 x1 h) (t := false) (na := 1) (kd := 0) (as := [(.int x1)]) at_294_5 (am_k3s kb_56) mn_56 mk_56 rfl rfl (am_ok_s mi_56 (am_hl rfl (am_ccI am_cats_0) rfl)) (am_hc (am_ccI am_cats_0) rfl) (fun hz9 => by cases hz9) (fun o1 hz9 => rm_56 x1 h o1  hz9) ?_
  rcases am_cI_s hs1 with ⟨v3, h4, f5, hs2⟩ | hs2
  · clear hs1
    refine Or.inl ⟨_, _, f5, ?_⟩
    show am_W X _ 294 8 _ [(.int v3), (.int v1)] h4 _
    by_cases c6 : v1 < v3
    · rw [if_pos c6] at hs2
      refine aw_iclt_t at_294_8 c6 ?_
      exact rg_294_31 h4 o   hs2
    · rw [if_neg c6] at hs2
      refine aw_iclt_f (pc1 := 11) at_294_8 c6 rfl ?_
      refine aw_vload_n (pc1 := 12) at_294_11 l0 i0 rfl ?_
      obtain ⟨v7, e8, hs3⟩ := am_bind hs2
      clear hs2
      refine aw_pG (pc1 := 15) at_294_12 (am_vI_s e8) rfl ?_
      refine aw_iload_n (pc1 := 16) at_294_15 l1 rfl ?_
      refine aw_call (F := fm_55 x1 h4) (t := false) (na := 1) (kd := 0) (as := [(.int x1)]) at_294_16 (am_k3s kb_55) mn_55 mk_55 rfl rfl (am_ok_s mi_55 (am_hl rfl (am_ccI am_cats_0) rfl)) (am_hc (am_ccI am_cats_0) rfl) (fun hz9 => by cases hz9) (fun o1 hz9 => rm_55 x1 h4 o1  hz9) ?_
      rcases am_cI_s hs3 with ⟨v9, h10, f11, hs4⟩ | hs4
      · clear hs3
        refine Or.inl ⟨_, _, f11, ?_⟩
        show am_W X _ 294 19 _ [(.int v9), (.int v7)] h10 _
        refine aw_iadd (v := (v7 + v9)) (pc1 := 20) at_294_19 rfl rfl ?_
        refine aw_bipush (v := 8) (pc1 := 22) at_294_20 (by decide) rfl ?_
        by_cases c12 : 8 < (v7 + v9)
        · rw [if_pos c12] at hs4
          refine aw_icgt_t at_294_22 c12 ?_
          exact rg_294_31 h10 o   hs4
        · rw [if_neg c12] at hs4
          refine aw_icgt_f (pc1 := 25) at_294_22 c12 rfl ?_
          refine aw_iload_n (pc1 := 26) at_294_25 l1 rfl ?_
          refine aw_bipush (v := 17) (pc1 := 28) at_294_26 (by decide) rfl ?_
          by_cases c13 : x1 < 17
          · rw [if_pos c13] at hs4
            refine aw_iclt_t at_294_28 c13 ?_
            refine aw_iload_n (pc1 := 34) at_294_33 l1 rfl ?_
            refine aw_iconst (v := 4) (pc1 := 35) at_294_34 (by decide) rfl ?_
            by_cases c14 : 4 < x1
            · rw [if_pos c14] at hs4
              refine aw_icgt_t at_294_35 c14 ?_
              refine aw_iload_n (pc1 := 71) at_294_70 l1 rfl ?_
              refine aw_bipush (v := 13) (pc1 := 73) at_294_71 (by decide) rfl ?_
              by_cases c15 : 13 < x1
              · rw [if_pos c15] at hs4
                refine aw_icgt_t at_294_73 c15 ?_
                refine aw_iload_n (pc1 := 197) at_294_196 l1 rfl ?_
                refine aw_bipush (v := 14) (pc1 := 199) at_294_197 (by decide) rfl ?_
                by_cases c16 : ¬ x1 = 14
                · rw [if_pos c16] at hs4
                  refine aw_icne_t at_294_199 c16 ?_
                  refine aw_vload_n (pc1 := 229) at_294_228 l0 i0 rfl ?_
                  obtain ⟨v17, e18, hs5⟩ := am_bind hs4
                  clear hs4
                  refine aw_pG (pc1 := 232) at_294_229 (am_vR_s e18).1 rfl ?_
                  refine aw_vload_n (pc1 := 233) at_294_232 l0 i0 rfl ?_
                  obtain ⟨v19, e20, hs6⟩ := am_bind hs5
                  clear hs5
                  refine aw_pG (pc1 := 236) at_294_233 (am_vI_s e20) rfl ?_
                  refine aw_iconst (v := 1) (pc1 := 237) at_294_236 (by decide) rfl ?_
                  refine aw_isub (v := (v19 - 1)) (pc1 := 238) at_294_237 rfl rfl ?_
                  obtain ⟨v21, e22, hs7⟩ := am_bind hs6
                  clear hs6
                  refine aw_pAA (pc1 := 239) at_294_238 e22 rfl ?_
                  refine aw_iconst (v := 0) (pc1 := 240) at_294_239 (by decide) rfl ?_
                  refine aw_vload_n (pc1 := 241) at_294_240 l0 i0 rfl ?_
                  obtain ⟨v23, e24, hs8⟩ := am_bind hs7
                  clear hs7
                  refine aw_pG (pc1 := 244) at_294_241 (am_vR_s e24).1 rfl ?_
                  refine aw_vload_n (pc1 := 245) at_294_244 l0 i0 rfl ?_
                  obtain ⟨v25, e26, hs9⟩ := am_bind hs8
                  clear hs8
                  refine aw_pG (pc1 := 248) at_294_245 (am_vI_s e26) rfl ?_
                  refine aw_iconst (v := 1) (pc1 := 249) at_294_248 (by decide) rfl ?_
                  refine aw_isub (v := (v25 - 1)) (pc1 := 250) at_294_249 rfl rfl ?_
                  obtain ⟨v27, e28, hs10⟩ := am_bind hs9
                  clear hs9
                  refine aw_pAA (pc1 := 251) at_294_250 e28 rfl ?_
                  obtain ⟨v29, e30, hs11⟩ := am_bind hs10
                  clear hs10
                  refine aw_pG (pc1 := 254) at_294_251 (am_vI_s e30) rfl ?_
                  obtain ⟨z31, hs12⟩ := am_ift hs11
                  clear hs11
                  refine aw_call (F := fm_279 N v21 0 v29 h10) (t := true) (na := 3) (kd := 1) (as := [v21, (.int 0), (.int v29)]) at_294_254 (am_k3v kb_279) mn_279 mk_279 rfl rfl (am_ok_v mi_279 (am_hl rfl (am_ccR (am_pAA_R e22) (am_ccI (am_ccI am_cats_0))) rfl) z31) (am_hc am_cats_0 rfl) (fun _ => ⟨rfl, hh_294⟩) (fun o1 hz9 => rm_279 v21 0 v29 h10 o1 (am_pAA_R e22) hz9) ?_
                  rcases am_cI_s hs12 with ⟨v32, h33, f34, hs13⟩ | hs13
                  · clear hs12
                    refine Or.inl ⟨_, _, f34, ?_⟩
                    show am_W X _ 294 257 _ [(.int v32)] h33 _
                    by_cases c35 : ¬ v32 = 0
                    · rw [if_pos c35] at hs13
                      refine aw_ifne_t at_294_257 c35 ?_
                      exact rg_294_300 x0 x1 h33 o l0 l1 i0 hs13
                    · rw [if_neg c35] at hs13
                      refine aw_ifne_f (pc1 := 260) at_294_257 c35 rfl ?_
                      refine aw_iload_n (pc1 := 261) at_294_260 l1 rfl ?_
                      refine aw_bipush (v := 16) (pc1 := 263) at_294_261 (by decide) rfl ?_
                      by_cases c36 : x1 = 16
                      · rw [if_pos c36] at hs13
                        refine aw_iceq_t at_294_263 c36 ?_
                        exact rg_294_298 h33 o   hs13
                      · rw [if_neg c36] at hs13
                        refine aw_iceq_f (pc1 := 266) at_294_263 c36 rfl ?_
                        refine aw_vload_n (pc1 := 267) at_294_266 l0 i0 rfl ?_
                        obtain ⟨v37, e38, hs14⟩ := am_bind hs13
                        clear hs13
                        refine aw_pG (pc1 := 270) at_294_267 (am_vR_s e38).1 rfl ?_
                        refine aw_vload_n (pc1 := 271) at_294_270 l0 i0 rfl ?_
                        obtain ⟨v39, e40, hs15⟩ := am_bind hs14
                        clear hs14
                        refine aw_pG (pc1 := 274) at_294_271 (am_vI_s e40) rfl ?_
                        refine aw_iconst (v := 2) (pc1 := 275) at_294_274 (by decide) rfl ?_
                        refine aw_isub (v := (v39 - 2)) (pc1 := 276) at_294_275 rfl rfl ?_
                        obtain ⟨v41, e42, hs16⟩ := am_bind hs15
                        clear hs15
                        refine aw_pAA (pc1 := 277) at_294_276 e42 rfl ?_
                        refine aw_iconst (v := 0) (pc1 := 278) at_294_277 (by decide) rfl ?_
                        refine aw_vload_n (pc1 := 279) at_294_278 l0 i0 rfl ?_
                        obtain ⟨v43, e44, hs17⟩ := am_bind hs16
                        clear hs16
                        refine aw_pG (pc1 := 282) at_294_279 (am_vR_s e44).1 rfl ?_
                        refine aw_vload_n (pc1 := 283) at_294_282 l0 i0 rfl ?_
                        obtain ⟨v45, e46, hs18⟩ := am_bind hs17
                        clear hs17
                        refine aw_pG (pc1 := 286) at_294_283 (am_vI_s e46) rfl ?_
                        refine aw_iconst (v := 2) (pc1 := 287) at_294_286 (by decide) rfl ?_
                        refine aw_isub (v := (v45 - 2)) (pc1 := 288) at_294_287 rfl rfl ?_
                        obtain ⟨v47, e48, hs19⟩ := am_bind hs18
                        clear hs18
                        refine aw_pAA (pc1 := 289) at_294_288 e48 rfl ?_
                        obtain ⟨v49, e50, hs20⟩ := am_bind hs19
                        clear hs19
                        refine aw_pG (pc1 := 292) at_294_289 (am_vI_s e50) rfl ?_
                        obtain ⟨z51, hs21⟩ := am_ift hs20
                        clear hs20
                        refine aw_call (F := fm_279 N v41 0 v49 h33) (t := true) (na := 3) (kd := 1) (as := [v41, (.int 0), (.int v49)]) at_294_292 (am_k3v kb_279) mn_279 mk_279 rfl rfl (am_ok_v mi_279 (am_hl rfl (am_ccR (am_pAA_R e42) (am_ccI (am_ccI am_cats_0))) rfl) z51) (am_hc am_cats_0 rfl) (fun _ => ⟨rfl, hh_294⟩) (fun o1 hz9 => rm_279 v41 0 v49 h33 o1 (am_pAA_R e42) hz9) ?_
                        rcases am_cI_s hs21 with ⟨v52, h53, f54, hs22⟩ | hs22
                        · clear hs21
                          refine Or.inl ⟨_, _, f54, ?_⟩
                          show am_W X _ 294 295 _ [(.int v52)] h53 _
                          by_cases c55 : ¬ v52 = 0
                          · rw [if_pos c55] at hs22
                            refine aw_ifne_t at_294_295 c55 ?_
                            exact rg_294_300 x0 x1 h53 o l0 l1 i0 hs22
                          · rw [if_neg c55] at hs22
                            refine aw_ifne_f (pc1 := 298) at_294_295 c55 rfl ?_
                            exact rg_294_298 h53 o   hs22
                        · clear hs21
                          exact Or.inr hs22
                  · clear hs12
                    exact Or.inr hs13
                · rw [if_neg c16] at hs4
                  refine aw_icne_f (pc1 := 202) at_294_199 c16 rfl ?_
                  refine aw_vload_n (pc1 := 203) at_294_202 l0 i0 rfl ?_
                  obtain ⟨v56, e57, hs23⟩ := am_bind hs4
                  clear hs4
                  refine aw_pG (pc1 := 206) at_294_203 (am_vR_s e57).1 rfl ?_
                  refine aw_vload_n (pc1 := 207) at_294_206 l0 i0 rfl ?_
                  obtain ⟨v58, e59, hs24⟩ := am_bind hs23
                  clear hs23
                  refine aw_pG (pc1 := 210) at_294_207 (am_vI_s e59) rfl ?_
                  obtain ⟨v60, e61, hs25⟩ := am_bind hs24
                  clear hs24
                  refine aw_pAA (pc1 := 211) at_294_210 e61 rfl ?_
                  refine aw_vload_n (pc1 := 212) at_294_211 l0 i0 rfl ?_
                  obtain ⟨v62, e63, hs26⟩ := am_bind hs25
                  clear hs25
                  refine aw_pG (pc1 := 215) at_294_212 (am_vR_s e63).1 rfl ?_
                  refine aw_vload_n (pc1 := 216) at_294_215 l0 i0 rfl ?_
                  obtain ⟨v64, e65, hs27⟩ := am_bind hs26
                  clear hs26
                  refine aw_pG (pc1 := 219) at_294_216 (am_vI_s e65) rfl ?_
                  refine aw_iconst (v := 1) (pc1 := 220) at_294_219 (by decide) rfl ?_
                  refine aw_isub (v := (v64 - 1)) (pc1 := 221) at_294_220 rfl rfl ?_
                  obtain ⟨v66, e67, hs28⟩ := am_bind hs27
                  clear hs27
                  refine aw_pAA (pc1 := 222) at_294_221 e67 rfl ?_
                  obtain ⟨z68, hs29⟩ := am_ift hs28
                  clear hs28
                  refine aw_call (F := fm_60 v60 v66 h10) (t := true) (na := 2) (kd := 1) (as := [v60, v66]) at_294_222 (am_k3v kb_60) mn_60 mk_60 rfl rfl (am_ok_v mi_60 (am_hl rfl (am_ccR (am_pAA_R e61) (am_ccR (am_pAA_R e67) am_cats_0)) rfl) z68) (am_hc am_cats_0 rfl) (fun _ => ⟨rfl, hh_294⟩) (fun o1 hz9 => rm_60 v60 v66 h10 o1 (am_pAA_R e61) (am_pAA_R e67) hz9) ?_
                  rcases am_cV_s hs29 with ⟨h70, f71, hs30⟩ | hs30
                  · clear hs29
                    refine Or.inl ⟨_, _, f71, ?_⟩
                    show am_W X _ 294 225 _ [] h70 _
                    refine aw_goto at_294_225 ?_
                    exact rg_294_352 x0 x1 h70 o l0 l1 i0 hs30
                  · clear hs29
                    exact Or.inr hs30
              · rw [if_neg c15] at hs4
                refine aw_icgt_f (pc1 := 76) at_294_73 c15 rfl ?_
                refine aw_iload_n (pc1 := 77) at_294_76 l1 rfl ?_
                refine aw_call (F := fm_56 x1 h10) (t := false) (na := 1) (kd := 0) (as := [(.int x1)]) at_294_77 (am_k3s kb_56) mn_56 mk_56 rfl rfl (am_ok_s mi_56 (am_hl rfl (am_ccI am_cats_0) rfl)) (am_hc am_cats_0 rfl) (fun hz9 => by cases hz9) (fun o1 hz9 => rm_56 x1 h10 o1  hz9) ?_
                rcases am_cI_s hs4 with ⟨v72, h73, f74, hs31⟩ | hs31
                · clear hs4
                  refine Or.inl ⟨_, _, f74, ?_⟩
                  show am_W X _ 294 80 _ [(.int v72)] h73 _
                  refine aw_istore_n (lv1 := am_put1 _ 3 _) (pc1 := 81) at_294_80 rfl rfl ?_
                  refine aw_vload_n (pc1 := 82) at_294_81 (am_lk1 l0 rfl rfl) i0 rfl ?_
                  obtain ⟨v75, e76, hs32⟩ := am_bind hs31
                  clear hs31
                  refine aw_pG (pc1 := 85) at_294_82 (am_vR_s e76).1 rfl ?_
                  refine aw_iconst (v := 0) (pc1 := 86) at_294_85 (by decide) rfl ?_
                  refine aw_iconst (v := 0) (pc1 := 87) at_294_86 (by decide) rfl ?_
                  obtain ⟨z77, hs33⟩ := am_ift hs32
                  clear hs32
                  refine aw_call (F := fm_34 v75 0 0 h73) (t := true) (na := 3) (kd := 1) (as := [v75, (.int 0), (.int 0)]) at_294_87 (am_k3v kb_34) mn_34 mk_34 rfl rfl (am_ok_v mi_34 (am_hl rfl (am_ccR (am_vR_s e76).2 (am_ccI (am_ccI am_cats_0))) rfl) z77) (am_hc am_cats_0 rfl) (fun _ => ⟨rfl, hh_294⟩) (fun o1 hz9 => rm_34 v75 0 0 h73 o1 (am_vR_s e76).2 hz9) ?_
                  rcases am_cV_s hs33 with ⟨h79, f80, hs34⟩ | hs34
                  · clear hs33
                    refine Or.inl ⟨_, _, f80, ?_⟩
                    show am_W X _ 294 90 _ [] h79 _
                    refine aw_vload_n (pc1 := 91) at_294_90 (am_lk1 l0 rfl rfl) i0 rfl ?_
                    obtain ⟨v81, e82, hs35⟩ := am_bind hs34
                    clear hs34
                    refine aw_pG (pc1 := 94) at_294_91 (am_vR_s e82).1 rfl ?_
                    refine aw_iload_n (pc1 := 95) at_294_94 am_lk0 rfl ?_
                    refine aw_iconst (v := 1) (pc1 := 96) at_294_95 (by decide) rfl ?_
                    by_cases c83 : ¬ v72 = 1
                    · rw [if_pos c83] at hs35
                      refine aw_icne_t at_294_96 c83 ?_
                      refine aw_iload_n (pc1 := 106) at_294_105 (am_lk1 l1 rfl rfl) rfl ?_
                      refine aw_iconst (v := 3) (pc1 := 107) at_294_106 (by decide) rfl ?_
                      refine aw_iadd (v := (x1 + 3)) (pc1 := 108) at_294_107 rfl rfl ?_
                      exact rg_294_108 x0 x1 v72 v81 ((x1 + 3)) h79 o (am_lk1 l0 rfl rfl) (am_lk1 l1 rfl rfl) am_lk0 i0 (am_vR_s e82).2 hs35
                    · rw [if_neg c83] at hs35
                      refine aw_icne_f (pc1 := 99) at_294_96 c83 rfl ?_
                      refine aw_iload_n (pc1 := 100) at_294_99 (am_lk1 l1 rfl rfl) rfl ?_
                      refine aw_iconst (v := 2) (pc1 := 101) at_294_100 (by decide) rfl ?_
                      refine aw_iadd (v := (x1 + 2)) (pc1 := 102) at_294_101 rfl rfl ?_
                      refine aw_goto at_294_102 ?_
                      exact rg_294_108 x0 x1 v72 v81 ((x1 + 2)) h79 o (am_lk1 l0 rfl rfl) (am_lk1 l1 rfl rfl) am_lk0 i0 (am_vR_s e82).2 hs35
                  · clear hs33
                    exact Or.inr hs34
                · clear hs4
                  exact Or.inr hs31
            · rw [if_neg c14] at hs4
              refine aw_icgt_f (pc1 := 38) at_294_35 c14 rfl ?_
              refine aw_vload_n (pc1 := 39) at_294_38 l0 i0 rfl ?_
              obtain ⟨v84, e85, hs36⟩ := am_bind hs4
              clear hs4
              refine aw_pG (pc1 := 42) at_294_39 (am_vR_s e85).1 rfl ?_
              refine aw_vload_n (pc1 := 43) at_294_42 l0 i0 rfl ?_
              obtain ⟨v86, e87, hs37⟩ := am_bind hs36
              clear hs36
              refine aw_pG (pc1 := 46) at_294_43 (am_vI_s e87) rfl ?_
              obtain ⟨v88, e89, hs38⟩ := am_bind hs37
              clear hs37
              refine aw_pAA (pc1 := 47) at_294_46 e89 rfl ?_
              refine aw_iconst (v := 0) (pc1 := 48) at_294_47 (by decide) rfl ?_
              refine aw_iconst (v := 0) (pc1 := 49) at_294_48 (by decide) rfl ?_
              obtain ⟨z90, hs39⟩ := am_ift hs38
              clear hs38
              refine aw_call (F := fm_34 v88 0 0 h10) (t := true) (na := 3) (kd := 1) (as := [v88, (.int 0), (.int 0)]) at_294_49 (am_k3v kb_34) mn_34 mk_34 rfl rfl (am_ok_v mi_34 (am_hl rfl (am_ccR (am_pAA_R e89) (am_ccI (am_ccI am_cats_0))) rfl) z90) (am_hc am_cats_0 rfl) (fun _ => ⟨rfl, hh_294⟩) (fun o1 hz9 => rm_34 v88 0 0 h10 o1 (am_pAA_R e89) hz9) ?_
              rcases am_cV_s hs39 with ⟨h92, f93, hs40⟩ | hs40
              · clear hs39
                refine Or.inl ⟨_, _, f93, ?_⟩
                show am_W X _ 294 52 _ [] h92 _
                refine aw_vload_n (pc1 := 53) at_294_52 l0 i0 rfl ?_
                obtain ⟨v94, e95, hs41⟩ := am_bind hs40
                clear hs40
                refine aw_pG (pc1 := 56) at_294_53 (am_vR_s e95).1 rfl ?_
                refine aw_vload_n (pc1 := 57) at_294_56 l0 i0 rfl ?_
                obtain ⟨v96, e97, hs42⟩ := am_bind hs41
                clear hs41
                refine aw_pG (pc1 := 60) at_294_57 (am_vI_s e97) rfl ?_
                obtain ⟨v98, e99, hs43⟩ := am_bind hs42
                clear hs42
                refine aw_pAA (pc1 := 61) at_294_60 e99 rfl ?_
                refine aw_iload_n (pc1 := 62) at_294_61 l1 rfl ?_
                refine aw_iload_n (pc1 := 63) at_294_62 l2 rfl ?_
                obtain ⟨z100, hs44⟩ := am_ift hs43
                clear hs43
                refine aw_call (F := fm_41 N v98 x1 x2 h92) (t := true) (na := 3) (kd := 1) (as := [v98, (.int x1), (.int x2)]) at_294_63 (am_k3v kb_41) mn_41 mk_41 rfl rfl (am_ok_v mi_41 (am_hl rfl (am_ccR (am_pAA_R e99) (am_ccI (am_ccI am_cats_0))) rfl) z100) (am_hc am_cats_0 rfl) (fun _ => ⟨rfl, hh_294⟩) (fun o1 hz9 => rm_41 v98 x1 x2 h92 o1 (am_pAA_R e99) hz9) ?_
                rcases am_cI_s hs44 with ⟨v101, h102, f103, hs45⟩ | hs45
                · clear hs44
                  refine Or.inl ⟨_, _, f103, ?_⟩
                  show am_W X _ 294 66 _ [(.int v101)] h102 _
                  refine aw_popi (pc1 := 67) at_294_66 rfl ?_
                  refine aw_goto at_294_67 ?_
                  exact rg_294_352 x0 x1 h102 o l0 l1 i0 hs45
                · clear hs44
                  exact Or.inr hs45
              · clear hs39
                exact Or.inr hs40
          · rw [if_neg c13] at hs4
            refine aw_iclt_f (pc1 := 31) at_294_28 c13 rfl ?_
            exact rg_294_31 h10 o   hs4
      · clear hs3
        exact Or.inr hs4
  · clear hs1
    exact Or.inr hs2
def fm_294 (N : Nat) (y0 : Value) (y1 : Int32) (y2 : Int32) (h : am_H) : Option am_O := fg_294_0 N y0 y1 y2 h
theorem rm_294 {X : am_X} {d : Nat} {N : Nat} (y0 : Value) (y1 : Int32) (y2 : Int32) (h : am_H) (o : am_O) (i0 : am_isR y0 = true) (hs : fm_294 N y0 y1 y2 h = some o) : am_W X (d + 4) 294 0 (am_args 0 [y0, .int y1, .int y2]) [] h (fun q => q = o) := by
  rw [am_args_R i0, am_args_I, am_args_I]
  exact rg_294_0 y0 y1 y2 h o rfl rfl rfl i0 hs
def fg_293_108 (N : Nat) (s0 : Int32) (h : am_H) : Option am_O := (if am_rfit (some FieldType.boolean) s0 then some (.inl (some (.int s0), h)) else none)
theorem rg_293_108 {X : am_X} {d : Nat} {N : Nat} {lv : am_LV} (s0 : Int32) (h : am_H) (o : am_O) (hs : fg_293_108 N s0 h = some o) : am_W X (d + 5) 293 108 lv [(.int s0)] h (fun q => q = o) := by
  unfold fg_293_108 at hs
  obtain ⟨z1, hs1⟩ := am_ift hs
  clear hs
  cases hs1
  exact aw_iret at_293_108 (by rw [rt_293]; exact z1) rfl
def fg_293_107 (N : Nat) (h : am_H) : Option am_O := (fg_293_108 N 0 h)
theorem rg_293_107 {X : am_X} {d : Nat} {N : Nat} {lv : am_LV} (h : am_H) (o : am_O) (hs : fg_293_107 N h = some o) : am_W X (d + 5) 293 107 lv [] h (fun q => q = o) := by
  unfold fg_293_107 at hs
  refine aw_iconst (v := 0) (pc1 := 108) at_293_107 (by decide) rfl ?_
  exact rg_293_108 0 h o   hs
def fg_293_31 (N : Nat) : Nat → Value → Value → Value → Int32 → am_H → Option am_O
  | 0 => fun _ _ _ _ _ => none
  | K + 1 => fun x0 x1 x2 x3 h => ((am_vI (am_pG 771 x1 h)).bind fun v1 => (if v1 ≤ x3 then (if am_pOk 3 x2 h then am_cV true (fm_34 x2 0 0 h) (fun h6 => ((am_vI (am_pG 2563 x0 h6)).bind fun v8 => (if ¬ v8 = 1 then (fg_293_107 N h6) else ((am_vR (am_pG 2561 x0 h6)).bind fun v11 => ((am_pAA v11 0 h6).bind fun v13 => am_cI false (fm_295 N x2 v13 h6) (fun v15 h16 => (if v15 = 0 then (fg_293_107 N h16) else (if am_pOk 10 x0 h16 then am_cI true (fm_75 N x0 x2 h16) (fun v20 h21 => (if 12 < v20 then (fg_293_107 N h21) else (fg_293_108 N 1 h21))) else none)))))))) else none) else (if am_pOk 3 x1 h then am_cI true (fm_54 x1 x3 0 h) (fun v25 h26 => (if am_pOk 3 x1 h26 then am_cI true (fm_54 x1 x3 1 h26) (fun v29 h30 => (if am_pOk 10 x0 h30 then am_cI true (fm_294 N x0 v25 v29 h30) (fun v33 h34 => (if ¬ v33 = 0 then (fg_293_31 N K x0 x1 x2 ((x3 + 1)) h34) else some (.inl (some (.int 0), h34)))) else none)) else none)) else none)))
theorem rg_293_31 {X : am_X} {d : Nat} {N : Nat} : ∀ (K : Nat) (x0 : Value) (x1 : Value) (x2 : Value) (x3 : Int32) (h : am_H) (o : am_O), fg_293_31 N K x0 x1 x2 x3 h = some o → ∀ lv : am_LV, (lv.lookup 0 = some x0) → (lv.lookup 1 = some x1) → (lv.lookup 2 = some x2) → (lv.lookup 3 = some (.int x3)) → (am_isR x0 = true) → (am_isR x1 = true) → (am_isR x2 = true) → am_W X (d + 5) 293 31 lv [] h (fun q => q = o) := by
  intro K
  induction K with
  | zero => intro x0 x1 x2 x3 h o hs; cases hs
  | succ K ih =>
    intro x0 x1 x2 x3 h o hs lv l0 l1 l2 l3 i0 i1 i2
    unfold fg_293_31 at hs
    refine aw_iload_n (pc1 := 32) at_293_31 l3 rfl ?_
    refine aw_vload_n (pc1 := 33) at_293_32 l1 i1 rfl ?_
    obtain ⟨v1, e2, hs1⟩ := am_bind hs
    clear hs
    refine aw_pG (pc1 := 36) at_293_33 (am_vI_s e2) rfl ?_
    by_cases c3 : v1 ≤ x3
    · rw [if_pos c3] at hs1
      refine aw_icge_t at_293_36 c3 ?_
      refine aw_vload_n (pc1 := 67) at_293_66 l2 i2 rfl ?_
      refine aw_iconst (v := 0) (pc1 := 68) at_293_67 (by decide) rfl ?_
      refine aw_iconst (v := 0) (pc1 := 69) at_293_68 (by decide) rfl ?_
      obtain ⟨z4, hs2⟩ := am_ift hs1
      clear hs1
      refine aw_call (F := fm_34 x2 0 0 h) (t := true) (na := 3) (kd := 1) (as := [x2, (.int 0), (.int 0)]) at_293_69 (am_k3v kb_34) mn_34 mk_34 rfl rfl (am_ok_v mi_34 (am_hl rfl (am_ccR i2 (am_ccI (am_ccI am_cats_0))) rfl) z4) (am_hc am_cats_0 rfl) (fun _ => ⟨rfl, hh_293⟩) (fun o1 hz9 => rm_34 x2 0 0 h o1 i2 hz9) ?_
      rcases am_cV_s hs2 with ⟨h6, f7, hs3⟩ | hs3
      · clear hs2
        refine Or.inl ⟨_, _, f7, ?_⟩
        show am_W X _ 293 72 _ [] h6 _
        refine aw_vload_n (pc1 := 73) at_293_72 l0 i0 rfl ?_
        obtain ⟨v8, e9, hs4⟩ := am_bind hs3
        clear hs3
        refine aw_pG (pc1 := 76) at_293_73 (am_vI_s e9) rfl ?_
        refine aw_iconst (v := 1) (pc1 := 77) at_293_76 (by decide) rfl ?_
        by_cases c10 : ¬ v8 = 1
        · rw [if_pos c10] at hs4
          refine aw_icne_t at_293_77 c10 ?_
          exact rg_293_107 h6 o   hs4
        · rw [if_neg c10] at hs4
          refine aw_icne_f (pc1 := 80) at_293_77 c10 rfl ?_
          refine aw_vload_n (pc1 := 81) at_293_80 l2 i2 rfl ?_
          refine aw_vload_n (pc1 := 82) at_293_81 l0 i0 rfl ?_
          obtain ⟨v11, e12, hs5⟩ := am_bind hs4
          clear hs4
          refine aw_pG (pc1 := 85) at_293_82 (am_vR_s e12).1 rfl ?_
          refine aw_iconst (v := 0) (pc1 := 86) at_293_85 (by decide) rfl ?_
          obtain ⟨v13, e14, hs6⟩ := am_bind hs5
          clear hs5
          refine aw_pAA (pc1 := 87) at_293_86 e14 rfl ?_
          refine aw_call (F := fm_295 N x2 v13 h6) (t := false) (na := 2) (kd := 0) (as := [x2, v13]) at_293_87 (am_k3s kb_295) mn_295 mk_295 rfl rfl (am_ok_s mi_295 (am_hl rfl (am_ccR i2 (am_ccR (am_pAA_R e14) am_cats_0)) rfl)) (am_hc am_cats_0 rfl) (fun hz9 => by cases hz9) (fun o1 hz9 => rm_295 x2 v13 h6 o1 i2 (am_pAA_R e14) hz9) ?_
          rcases am_cI_s hs6 with ⟨v15, h16, f17, hs7⟩ | hs7
          · clear hs6
            refine Or.inl ⟨_, _, f17, ?_⟩
            show am_W X _ 293 90 _ [(.int v15)] h16 _
            by_cases c18 : v15 = 0
            · rw [if_pos c18] at hs7
              refine aw_ifeq_t at_293_90 c18 ?_
              exact rg_293_107 h16 o   hs7
            · rw [if_neg c18] at hs7
              refine aw_ifeq_f (pc1 := 93) at_293_90 c18 rfl ?_
              refine aw_vload_n (pc1 := 94) at_293_93 l0 i0 rfl ?_
              refine aw_vload_n (pc1 := 95) at_293_94 l2 i2 rfl ?_
              obtain ⟨z19, hs8⟩ := am_ift hs7
              clear hs7
              refine aw_call (F := fm_75 N x0 x2 h16) (t := true) (na := 2) (kd := 1) (as := [x0, x2]) at_293_95 (am_k3v kb_75) mn_75 mk_75 rfl rfl (am_ok_v mi_75 (am_hl rfl (am_ccR i0 (am_ccR i2 am_cats_0)) rfl) z19) (am_hc am_cats_0 rfl) (fun _ => ⟨rfl, hh_293⟩) (fun o1 hz9 => rm_75 x0 x2 h16 o1 i0 i2 hz9) ?_
              rcases am_cI_s hs8 with ⟨v20, h21, f22, hs9⟩ | hs9
              · clear hs8
                refine Or.inl ⟨_, _, f22, ?_⟩
                show am_W X _ 293 98 _ [(.int v20)] h21 _
                refine aw_bipush (v := 12) (pc1 := 100) at_293_98 (by decide) rfl ?_
                by_cases c23 : 12 < v20
                · rw [if_pos c23] at hs9
                  refine aw_icgt_t at_293_100 c23 ?_
                  exact rg_293_107 h21 o   hs9
                · rw [if_neg c23] at hs9
                  refine aw_icgt_f (pc1 := 103) at_293_100 c23 rfl ?_
                  refine aw_iconst (v := 1) (pc1 := 104) at_293_103 (by decide) rfl ?_
                  refine aw_goto at_293_104 ?_
                  exact rg_293_108 1 h21 o   hs9
              · clear hs8
                exact Or.inr hs9
          · clear hs6
            exact Or.inr hs7
      · clear hs2
        exact Or.inr hs3
    · rw [if_neg c3] at hs1
      refine aw_icge_f (pc1 := 39) at_293_36 c3 rfl ?_
      refine aw_vload_n (pc1 := 40) at_293_39 l0 i0 rfl ?_
      refine aw_vload_n (pc1 := 41) at_293_40 l1 i1 rfl ?_
      refine aw_iload_n (pc1 := 42) at_293_41 l3 rfl ?_
      refine aw_iconst (v := 0) (pc1 := 43) at_293_42 (by decide) rfl ?_
      obtain ⟨z24, hs10⟩ := am_ift hs1
      clear hs1
      refine aw_call (F := fm_54 x1 x3 0 h) (t := true) (na := 3) (kd := 1) (as := [x1, (.int x3), (.int 0)]) at_293_43 (am_k3v kb_54) mn_54 mk_54 rfl rfl (am_ok_v mi_54 (am_hl rfl (am_ccR i1 (am_ccI (am_ccI am_cats_0))) rfl) z24) (am_hc (am_ccR i0 am_cats_0) rfl) (fun _ => ⟨rfl, hh_293⟩) (fun o1 hz9 => rm_54 x1 x3 0 h o1 i1 hz9) ?_
      rcases am_cI_s hs10 with ⟨v25, h26, f27, hs11⟩ | hs11
      · clear hs10
        refine Or.inl ⟨_, _, f27, ?_⟩
        show am_W X _ 293 46 _ [(.int v25), x0] h26 _
        refine aw_vload_n (pc1 := 47) at_293_46 l1 i1 rfl ?_
        refine aw_iload_n (pc1 := 48) at_293_47 l3 rfl ?_
        refine aw_iconst (v := 1) (pc1 := 49) at_293_48 (by decide) rfl ?_
        obtain ⟨z28, hs12⟩ := am_ift hs11
        clear hs11
        refine aw_call (F := fm_54 x1 x3 1 h26) (t := true) (na := 3) (kd := 1) (as := [x1, (.int x3), (.int 1)]) at_293_49 (am_k3v kb_54) mn_54 mk_54 rfl rfl (am_ok_v mi_54 (am_hl rfl (am_ccR i1 (am_ccI (am_ccI am_cats_0))) rfl) z28) (am_hc (am_ccI (am_ccR i0 am_cats_0)) rfl) (fun _ => ⟨rfl, hh_293⟩) (fun o1 hz9 => rm_54 x1 x3 1 h26 o1 i1 hz9) ?_
        rcases am_cI_s hs12 with ⟨v29, h30, f31, hs13⟩ | hs13
        · clear hs12
          refine Or.inl ⟨_, _, f31, ?_⟩
          show am_W X _ 293 52 _ [(.int v29), (.int v25), x0] h30 _
          obtain ⟨z32, hs14⟩ := am_ift hs13
          clear hs13
          refine aw_call (F := fm_294 N x0 v25 v29 h30) (t := true) (na := 3) (kd := 1) (as := [x0, (.int v25), (.int v29)]) at_293_52 (am_k3v kb_294) mn_294 mk_294 rfl rfl (am_ok_v mi_294 (am_hl rfl (am_ccR i0 (am_ccI (am_ccI am_cats_0))) rfl) z32) (am_hc am_cats_0 rfl) (fun _ => ⟨rfl, hh_293⟩) (fun o1 hz9 => rm_294 x0 v25 v29 h30 o1 i0 hz9) ?_
          rcases am_cI_s hs14 with ⟨v33, h34, f35, hs15⟩ | hs15
          · clear hs14
            refine Or.inl ⟨_, _, f35, ?_⟩
            show am_W X _ 293 55 _ [(.int v33)] h34 _
            by_cases c36 : ¬ v33 = 0
            · rw [if_pos c36] at hs15
              refine aw_ifne_t at_293_55 c36 ?_
              refine aw_iinc (v := (x3 + 1)) (c := 1) (lv1 := am_put1 _ 3 _) (pc1 := 63) at_293_60 l3 (by decide) rfl rfl rfl ?_
              refine aw_goto at_293_63 ?_
              exact ih x0 x1 x2 ((x3 + 1)) h34 o hs15 _ (am_lk1 l0 rfl rfl) (am_lk1 l1 rfl rfl) (am_lk1 l2 rfl (by rw [am_isRc i2]; rfl)) am_lk0 i0 i1 i2
            · rw [if_neg c36] at hs15
              refine aw_ifne_f (pc1 := 58) at_293_55 c36 rfl ?_
              refine aw_iconst (v := 0) (pc1 := 59) at_293_58 (by decide) rfl ?_
              cases hs15
              exact aw_iret at_293_59 (by rw [rt_293]; decide) rfl
          · clear hs14
            exact Or.inr hs15
        · clear hs12
          exact Or.inr hs13
      · clear hs10
        exact Or.inr hs11
def fg_293_0 (N : Nat) (x0 : Value) (x1 : Value) (x2 : Value) (h : am_H) : Option am_O := ((am_vI (am_pG 769 x1 h)).bind fun v1 => (if ¬ v1 = 0 then ((am_vI (am_pG 769 x1 h)).bind fun v4 => (if v4 = 1 then ((am_pP 2563 x0 (.int 0) h).bind fun h7 => (fg_293_31 N N x0 x1 x2 0 h7)) else some (.inl (some (.int 0), h)))) else (if am_pOk 3 x2 h then am_cV true (fm_60 x2 x1 h) (fun h11 => some (.inl (some (.int 1), h11))) else none)))
theorem rg_293_0 {X : am_X} {d : Nat} {N : Nat} {lv : am_LV} (x0 : Value) (x1 : Value) (x2 : Value) (h : am_H) (o : am_O) (l0 : lv.lookup 0 = some x0) (l1 : lv.lookup 1 = some x1) (l2 : lv.lookup 2 = some x2) (i0 : am_isR x0 = true) (i1 : am_isR x1 = true) (i2 : am_isR x2 = true) (hs : fg_293_0 N x0 x1 x2 h = some o) : am_W X (d + 5) 293 0 lv [] h (fun q => q = o) := by
  unfold fg_293_0 at hs
  refine aw_vload_n (pc1 := 1) at_293_0 l1 i1 rfl ?_
  obtain ⟨v1, e2, hs1⟩ := am_bind hs
  clear hs
  refine aw_pG (pc1 := 4) at_293_1 (am_vI_s e2) rfl ?_
  by_cases c3 : ¬ v1 = 0
  · rw [if_pos c3] at hs1
    refine aw_ifne_t at_293_4 c3 ?_
    refine aw_vload_n (pc1 := 15) at_293_14 l1 i1 rfl ?_
    obtain ⟨v4, e5, hs2⟩ := am_bind hs1
    clear hs1
    refine aw_pG (pc1 := 18) at_293_15 (am_vI_s e5) rfl ?_
    refine aw_iconst (v := 1) (pc1 := 19) at_293_18 (by decide) rfl ?_
    by_cases c6 : v4 = 1
    · rw [if_pos c6] at hs2
      refine aw_iceq_t at_293_19 c6 ?_
      refine aw_vload_n (pc1 := 25) at_293_24 l0 i0 rfl ?_
      refine aw_iconst (v := 0) (pc1 := 26) at_293_25 (by decide) rfl ?_
      obtain ⟨h7, e8, hs3⟩ := am_bind hs2
      clear hs2
      refine aw_pP (pc1 := 29) at_293_26 e8 rfl ?_
      refine aw_iconst (v := 0) (pc1 := 30) at_293_29 (by decide) rfl ?_
      refine aw_istore_n (lv1 := am_put1 _ 3 _) (pc1 := 31) at_293_30 rfl rfl ?_
      exact rg_293_31 N x0 x1 x2 0 h7 o hs3 _ (am_lk1 l0 rfl rfl) (am_lk1 l1 rfl rfl) (am_lk1 l2 rfl (by rw [am_isRc i2]; rfl)) am_lk0 i0 i1 i2
    · rw [if_neg c6] at hs2
      refine aw_iceq_f (pc1 := 22) at_293_19 c6 rfl ?_
      refine aw_iconst (v := 0) (pc1 := 23) at_293_22 (by decide) rfl ?_
      cases hs2
      exact aw_iret at_293_23 (by rw [rt_293]; decide) rfl
  · rw [if_neg c3] at hs1
    refine aw_ifne_f (pc1 := 7) at_293_4 c3 rfl ?_
    refine aw_vload_n (pc1 := 8) at_293_7 l2 i2 rfl ?_
    refine aw_vload_n (pc1 := 9) at_293_8 l1 i1 rfl ?_
    obtain ⟨z9, hs4⟩ := am_ift hs1
    clear hs1
    refine aw_call (F := fm_60 x2 x1 h) (t := true) (na := 2) (kd := 1) (as := [x2, x1]) at_293_9 (am_k3v kb_60) mn_60 mk_60 rfl rfl (am_ok_v mi_60 (am_hl rfl (am_ccR i2 (am_ccR i1 am_cats_0)) rfl) z9) (am_hc am_cats_0 rfl) (fun _ => ⟨rfl, hh_293⟩) (fun o1 hz9 => rm_60 x2 x1 h o1 i2 i1 hz9) ?_
    rcases am_cV_s hs4 with ⟨h11, f12, hs5⟩ | hs5
    · clear hs4
      refine Or.inl ⟨_, _, f12, ?_⟩
      show am_W X _ 293 12 _ [] h11 _
      refine aw_iconst (v := 1) (pc1 := 13) at_293_12 (by decide) rfl ?_
      cases hs5
      exact aw_iret at_293_13 (by rw [rt_293]; decide) rfl
    · clear hs4
      exact Or.inr hs5
def fm_293 (N : Nat) (y0 : Value) (y1 : Value) (y2 : Value) (h : am_H) : Option am_O := fg_293_0 N y0 y1 y2 h
theorem rm_293 {X : am_X} {d : Nat} {N : Nat} (y0 : Value) (y1 : Value) (y2 : Value) (h : am_H) (o : am_O) (i0 : am_isR y0 = true) (i1 : am_isR y1 = true) (i2 : am_isR y2 = true) (hs : fm_293 N y0 y1 y2 h = some o) : am_W X (d + 5) 293 0 (am_args 0 [y0, y1, y2]) [] h (fun q => q = o) := by
  rw [am_args_R i0, am_args_R i1, am_args_R i2]
  exact rg_293_0 y0 y1 y2 h o rfl rfl rfl i0 i1 i2 hs
def fg_297_79 (N : Nat) (s0 : Int32) (h : am_H) : Option am_O := (if am_rfit (some FieldType.boolean) s0 then some (.inl (some (.int s0), h)) else none)
theorem rg_297_79 {X : am_X} {d : Nat} {N : Nat} {lv : am_LV} (s0 : Int32) (h : am_H) (o : am_O) (hs : fg_297_79 N s0 h = some o) : am_W X (d + 82) 297 79 lv [(.int s0)] h (fun q => q = o) := by
  unfold fg_297_79 at hs
  obtain ⟨z1, hs1⟩ := am_ift hs
  clear hs
  cases hs1
  exact aw_iret at_297_79 (by rw [rt_297]; exact z1) rfl
def fg_297_78 (N : Nat) (h : am_H) : Option am_O := (fg_297_79 N 0 h)
theorem rg_297_78 {X : am_X} {d : Nat} {N : Nat} {lv : am_LV} (h : am_H) (o : am_O) (hs : fg_297_78 N h = some o) : am_W X (d + 82) 297 78 lv [] h (fun q => q = o) := by
  unfold fg_297_78 at hs
  refine aw_iconst (v := 0) (pc1 := 79) at_297_78 (by decide) rfl ?_
  exact rg_297_79 0 h o   hs
def fg_297_74 (N : Nat) (h : am_H) : Option am_O := (fg_297_79 N 1 h)
theorem rg_297_74 {X : am_X} {d : Nat} {N : Nat} {lv : am_LV} (h : am_H) (o : am_O) (hs : fg_297_74 N h = some o) : am_W X (d + 82) 297 74 lv [] h (fun q => q = o) := by
  unfold fg_297_74 at hs
  refine aw_iconst (v := 1) (pc1 := 75) at_297_74 (by decide) rfl ?_
  refine aw_goto at_297_75 ?_
  exact rg_297_79 1 h o   hs
def fg_297_0 (N : Nat) (x0 : Value) (x1 : Value) (x2 : Int32) (h : am_H) : Option am_O := ((am_vR (am_pG 514 x0 h)).bind fun v1 => (if am_pOk 6 v1 h then am_cV true (fm_116 N v1 x1 x2 h) (fun h5 => ((am_vR (am_pG 515 x0 h5)).bind fun v7 => (if am_pOk 6 v7 h5 then am_cV true (fm_116 N v7 x1 x2 h5) (fun h11 => ((am_vR (am_pG 514 x0 h11)).bind fun v13 => ((am_vI (am_pG 1537 v13 h11)).bind fun v15 => (if v15 = 3 then (fg_297_78 N h11) else ((am_vR (am_pG 515 x0 h11)).bind fun v18 => ((am_vI (am_pG 1537 v18 h11)).bind fun v20 => (if v20 = 3 then (fg_297_78 N h11) else ((am_vR (am_pG 514 x0 h11)).bind fun v23 => ((am_vI (am_pG 1537 v23 h11)).bind fun v25 => ((am_vR (am_pG 515 x0 h11)).bind fun v27 => ((am_vI (am_pG 1537 v27 h11)).bind fun v29 => (if ¬ v25 = v29 then (fg_297_74 N h11) else ((am_vR (am_pG 514 x0 h11)).bind fun v32 => ((am_vI (am_pG 1539 v32 h11)).bind fun v34 => ((am_vR (am_pG 515 x0 h11)).bind fun v36 => ((am_vI (am_pG 1539 v36 h11)).bind fun v38 => (if v34 = v38 then (fg_297_78 N h11) else (fg_297_74 N h11)))))))))))))))))) else none))) else none))
theorem rg_297_0 {X : am_X} {d : Nat} {N : Nat} {lv : am_LV} (x0 : Value) (x1 : Value) (x2 : Int32) (h : am_H) (o : am_O) (l0 : lv.lookup 0 = some x0) (l1 : lv.lookup 1 = some x1) (l2 : lv.lookup 2 = some (.int x2)) (i0 : am_isR x0 = true) (i1 : am_isR x1 = true) (hs : fg_297_0 N x0 x1 x2 h = some o) : am_W X (d + 82) 297 0 lv [] h (fun q => q = o) := by
  unfold fg_297_0 at hs
  refine aw_vload_n (pc1 := 1) at_297_0 l0 i0 rfl ?_
  obtain ⟨v1, e2, hs1⟩ := am_bind hs
  clear hs
  refine aw_pG (pc1 := 4) at_297_1 (am_vR_s e2).1 rfl ?_
  refine aw_vload_n (pc1 := 5) at_297_4 l1 i1 rfl ?_
  refine aw_iload_n (pc1 := 6) at_297_5 l2 rfl ?_
  obtain ⟨z3, hs2⟩ := am_ift hs1
  clear hs1
  refine aw_call (F := fm_116 N v1 x1 x2 h) (t := true) (na := 3) (kd := 1) (as := [v1, x1, (.int x2)]) at_297_6 (am_k3v kb_116) mn_116 mk_116 rfl rfl (am_ok_v mi_116 (am_hl rfl (am_ccR (am_vR_s e2).2 (am_ccR i1 (am_ccI am_cats_0))) rfl) z3) (am_hc am_cats_0 rfl) (fun _ => ⟨rfl, hh_297⟩) (fun o1 hz9 => rm_116 v1 x1 x2 h o1 (am_vR_s e2).2 i1 hz9) ?_
  rcases am_cV_s hs2 with ⟨h5, f6, hs3⟩ | hs3
  · clear hs2
    refine Or.inl ⟨_, _, f6, ?_⟩
    show am_W X _ 297 9 _ [] h5 _
    refine aw_vload_n (pc1 := 10) at_297_9 l0 i0 rfl ?_
    obtain ⟨v7, e8, hs4⟩ := am_bind hs3
    clear hs3
    refine aw_pG (pc1 := 13) at_297_10 (am_vR_s e8).1 rfl ?_
    refine aw_vload_n (pc1 := 14) at_297_13 l1 i1 rfl ?_
    refine aw_iload_n (pc1 := 15) at_297_14 l2 rfl ?_
    obtain ⟨z9, hs5⟩ := am_ift hs4
    clear hs4
    refine aw_call (F := fm_116 N v7 x1 x2 h5) (t := true) (na := 3) (kd := 1) (as := [v7, x1, (.int x2)]) at_297_15 (am_k3v kb_116) mn_116 mk_116 rfl rfl (am_ok_v mi_116 (am_hl rfl (am_ccR (am_vR_s e8).2 (am_ccR i1 (am_ccI am_cats_0))) rfl) z9) (am_hc am_cats_0 rfl) (fun _ => ⟨rfl, hh_297⟩) (fun o1 hz9 => rm_116 v7 x1 x2 h5 o1 (am_vR_s e8).2 i1 hz9) ?_
    rcases am_cV_s hs5 with ⟨h11, f12, hs6⟩ | hs6
    · clear hs5
      refine Or.inl ⟨_, _, f12, ?_⟩
      show am_W X _ 297 18 _ [] h11 _
      refine aw_vload_n (pc1 := 19) at_297_18 l0 i0 rfl ?_
      obtain ⟨v13, e14, hs7⟩ := am_bind hs6
      clear hs6
      refine aw_pG (pc1 := 22) at_297_19 (am_vR_s e14).1 rfl ?_
      obtain ⟨v15, e16, hs8⟩ := am_bind hs7
      clear hs7
      refine aw_pG (pc1 := 25) at_297_22 (am_vI_s e16) rfl ?_
      refine aw_iconst (v := 3) (pc1 := 26) at_297_25 (by decide) rfl ?_
      by_cases c17 : v15 = 3
      · rw [if_pos c17] at hs8
        refine aw_iceq_t at_297_26 c17 ?_
        exact rg_297_78 h11 o   hs8
      · rw [if_neg c17] at hs8
        refine aw_iceq_f (pc1 := 29) at_297_26 c17 rfl ?_
        refine aw_vload_n (pc1 := 30) at_297_29 l0 i0 rfl ?_
        obtain ⟨v18, e19, hs9⟩ := am_bind hs8
        clear hs8
        refine aw_pG (pc1 := 33) at_297_30 (am_vR_s e19).1 rfl ?_
        obtain ⟨v20, e21, hs10⟩ := am_bind hs9
        clear hs9
        refine aw_pG (pc1 := 36) at_297_33 (am_vI_s e21) rfl ?_
        refine aw_iconst (v := 3) (pc1 := 37) at_297_36 (by decide) rfl ?_
        by_cases c22 : v20 = 3
        · rw [if_pos c22] at hs10
          refine aw_iceq_t at_297_37 c22 ?_
          exact rg_297_78 h11 o   hs10
        · rw [if_neg c22] at hs10
          refine aw_iceq_f (pc1 := 40) at_297_37 c22 rfl ?_
          refine aw_vload_n (pc1 := 41) at_297_40 l0 i0 rfl ?_
          obtain ⟨v23, e24, hs11⟩ := am_bind hs10
          clear hs10
          refine aw_pG (pc1 := 44) at_297_41 (am_vR_s e24).1 rfl ?_
          obtain ⟨v25, e26, hs12⟩ := am_bind hs11
          clear hs11
          refine aw_pG (pc1 := 47) at_297_44 (am_vI_s e26) rfl ?_
          refine aw_vload_n (pc1 := 48) at_297_47 l0 i0 rfl ?_
          obtain ⟨v27, e28, hs13⟩ := am_bind hs12
          clear hs12
          refine aw_pG (pc1 := 51) at_297_48 (am_vR_s e28).1 rfl ?_
          obtain ⟨v29, e30, hs14⟩ := am_bind hs13
          clear hs13
          refine aw_pG (pc1 := 54) at_297_51 (am_vI_s e30) rfl ?_
          by_cases c31 : ¬ v25 = v29
          · rw [if_pos c31] at hs14
            refine aw_icne_t at_297_54 c31 ?_
            exact rg_297_74 h11 o   hs14
          · rw [if_neg c31] at hs14
            refine aw_icne_f (pc1 := 57) at_297_54 c31 rfl ?_
            refine aw_vload_n (pc1 := 58) at_297_57 l0 i0 rfl ?_
            obtain ⟨v32, e33, hs15⟩ := am_bind hs14
            clear hs14
            refine aw_pG (pc1 := 61) at_297_58 (am_vR_s e33).1 rfl ?_
            obtain ⟨v34, e35, hs16⟩ := am_bind hs15
            clear hs15
            refine aw_pG (pc1 := 64) at_297_61 (am_vI_s e35) rfl ?_
            refine aw_vload_n (pc1 := 65) at_297_64 l0 i0 rfl ?_
            obtain ⟨v36, e37, hs17⟩ := am_bind hs16
            clear hs16
            refine aw_pG (pc1 := 68) at_297_65 (am_vR_s e37).1 rfl ?_
            obtain ⟨v38, e39, hs18⟩ := am_bind hs17
            clear hs17
            refine aw_pG (pc1 := 71) at_297_68 (am_vI_s e39) rfl ?_
            by_cases c40 : v34 = v38
            · rw [if_pos c40] at hs18
              refine aw_iceq_t at_297_71 c40 ?_
              exact rg_297_78 h11 o   hs18
            · rw [if_neg c40] at hs18
              refine aw_iceq_f (pc1 := 74) at_297_71 c40 rfl ?_
              exact rg_297_74 h11 o   hs18
    · clear hs5
      exact Or.inr hs6
  · clear hs2
    exact Or.inr hs3
def fm_297 (N : Nat) (y0 : Value) (y1 : Value) (y2 : Int32) (h : am_H) : Option am_O := fg_297_0 N y0 y1 y2 h
theorem rm_297 {X : am_X} {d : Nat} {N : Nat} (y0 : Value) (y1 : Value) (y2 : Int32) (h : am_H) (o : am_O) (i0 : am_isR y0 = true) (i1 : am_isR y1 = true) (hs : fm_297 N y0 y1 y2 h = some o) : am_W X (d + 82) 297 0 (am_args 0 [y0, y1, .int y2]) [] h (fun q => q = o) := by
  rw [am_args_R i0, am_args_R i1, am_args_I]
  exact rg_297_0 y0 y1 y2 h o rfl rfl rfl i0 i1 hs
def fg_298_0 (N : Nat) (x0 : Value) (x1 : Value) (x2 : Int32) (h : am_H) : Option am_O := ((am_vR (am_pG 2830 x0 h)).bind fun v1 => am_cV false (fm_53 N v1 0 h) (fun h4 => ((am_vR (am_pG 2830 x0 h4)).bind fun v6 => ((am_pCpy x1 x2 v6 0 3 h4).bind fun h8 => ((am_vR (am_pG 2830 x0 h8)).bind fun v10 => ((am_pA 0 x1 (x2 + 6) h8).bind fun v12 => ((am_pS 0 v10 3 v12 h8).bind fun h14 => ((am_vR (am_pG 2830 x0 h14)).bind fun v16 => ((am_pCpy x1 (x2 + 7) v16 4 8 h14).bind fun h18 => some (.inl (some (.int 1), h18)))))))))))
theorem rg_298_0 {X : am_X} {d : Nat} {N : Nat} {lv : am_LV} (x0 : Value) (x1 : Value) (x2 : Int32) (h : am_H) (o : am_O) (l0 : lv.lookup 0 = some x0) (l1 : lv.lookup 1 = some x1) (l2 : lv.lookup 2 = some (.int x2)) (i0 : am_isR x0 = true) (i1 : am_isR x1 = true) (hs : fg_298_0 N x0 x1 x2 h = some o) : am_W X (d + 1) 298 0 lv [] h (fun q => q = o) := by
  unfold fg_298_0 at hs
  refine aw_vload_n (pc1 := 1) at_298_0 l0 i0 rfl ?_
  obtain ⟨v1, e2, hs1⟩ := am_bind hs
  clear hs
  refine aw_pG (pc1 := 4) at_298_1 (am_vR_s e2).1 rfl ?_
  refine aw_iconst (v := 0) (pc1 := 5) at_298_4 (by decide) rfl ?_
  refine aw_call (F := fm_53 N v1 0 h) (t := false) (na := 2) (kd := 0) (as := [v1, (.int 0)]) at_298_5 (am_k3s kb_53) mn_53 mk_53 rfl rfl (am_ok_s mi_53 (am_hl rfl (am_ccR (am_vR_s e2).2 (am_ccI am_cats_0)) rfl)) (am_hc am_cats_0 rfl) (fun hz9 => by cases hz9) (fun o1 hz9 => rm_53 v1 0 h o1 (am_vR_s e2).2 hz9) ?_
  rcases am_cV_s hs1 with ⟨h4, f5, hs2⟩ | hs2
  · clear hs1
    refine Or.inl ⟨_, _, f5, ?_⟩
    show am_W X _ 298 8 _ [] h4 _
    refine aw_vload_n (pc1 := 9) at_298_8 l1 i1 rfl ?_
    refine aw_iload_n (pc1 := 10) at_298_9 l2 rfl ?_
    refine aw_vload_n (pc1 := 11) at_298_10 l0 i0 rfl ?_
    obtain ⟨v6, e7, hs3⟩ := am_bind hs2
    clear hs2
    refine aw_pG (pc1 := 14) at_298_11 (am_vR_s e7).1 rfl ?_
    refine aw_iconst (v := 0) (pc1 := 15) at_298_14 (by decide) rfl ?_
    refine aw_iconst (v := 3) (pc1 := 16) at_298_15 (by decide) rfl ?_
    obtain ⟨h8, e9, hs4⟩ := am_bind hs3
    clear hs3
    refine aw_pCpy at_298_16 rfl e9 (am_hc am_cats_0 rfl) ?_
    refine aw_vload_n (pc1 := 20) at_298_19 l0 i0 rfl ?_
    obtain ⟨v10, e11, hs5⟩ := am_bind hs4
    clear hs4
    refine aw_pG (pc1 := 23) at_298_20 (am_vR_s e11).1 rfl ?_
    refine aw_iconst (v := 3) (pc1 := 24) at_298_23 (by decide) rfl ?_
    refine aw_vload_n (pc1 := 25) at_298_24 l1 i1 rfl ?_
    refine aw_iload_n (pc1 := 26) at_298_25 l2 rfl ?_
    refine aw_bipush (v := 6) (pc1 := 28) at_298_26 (by decide) rfl ?_
    refine aw_iadd (v := (x2 + 6)) (pc1 := 29) at_298_28 rfl rfl ?_
    obtain ⟨v12, e13, hs6⟩ := am_bind hs5
    clear hs5
    refine aw_pA (pc1 := 30) at_298_29 (Or.inl ⟨rfl, rfl⟩) e13 rfl ?_
    obtain ⟨h14, e15, hs7⟩ := am_bind hs6
    clear hs6
    refine aw_pS (pc1 := 31) at_298_30 (Or.inl ⟨rfl, rfl⟩) e15 rfl ?_
    refine aw_vload_n (pc1 := 32) at_298_31 l1 i1 rfl ?_
    refine aw_iload_n (pc1 := 33) at_298_32 l2 rfl ?_
    refine aw_bipush (v := 7) (pc1 := 35) at_298_33 (by decide) rfl ?_
    refine aw_iadd (v := (x2 + 7)) (pc1 := 36) at_298_35 rfl rfl ?_
    refine aw_vload_n (pc1 := 37) at_298_36 l0 i0 rfl ?_
    obtain ⟨v16, e17, hs8⟩ := am_bind hs7
    clear hs7
    refine aw_pG (pc1 := 40) at_298_37 (am_vR_s e17).1 rfl ?_
    refine aw_iconst (v := 4) (pc1 := 41) at_298_40 (by decide) rfl ?_
    refine aw_bipush (v := 8) (pc1 := 43) at_298_41 (by decide) rfl ?_
    obtain ⟨h18, e19, hs9⟩ := am_bind hs8
    clear hs8
    refine aw_pCpy at_298_43 rfl e19 (am_hc am_cats_0 rfl) ?_
    refine aw_iconst (v := 1) (pc1 := 47) at_298_46 (by decide) rfl ?_
    cases hs9
    exact aw_iret at_298_47 (by rw [rt_298]; decide) rfl
  · clear hs1
    exact Or.inr hs2
def fm_298 (N : Nat) (y0 : Value) (y1 : Value) (y2 : Int32) (h : am_H) : Option am_O := fg_298_0 N y0 y1 y2 h
theorem rm_298 {X : am_X} {d : Nat} {N : Nat} (y0 : Value) (y1 : Value) (y2 : Int32) (h : am_H) (o : am_O) (i0 : am_isR y0 = true) (i1 : am_isR y1 = true) (hs : fm_298 N y0 y1 y2 h = some o) : am_W X (d + 1) 298 0 (am_args 0 [y0, y1, .int y2]) [] h (fun q => q = o) := by
  rw [am_args_R i0, am_args_R i1, am_args_I]
  exact rg_298_0 y0 y1 y2 h o rfl rfl rfl i0 i1 hs
def fg_296_175 (N : Nat) (rec_80 : Value → Int32 → am_H → Option am_O) (rec_146 : Value → Int32 → Int32 → am_H → Option am_O) (x0 : Value) (x3 : Int32) (x4 : Int32) (s0 : Value) (s1 : Int32) (s2 : Int32) (h : am_H) : Option am_O := ((am_pS 0 s0 s1 s2 h).bind fun h1 => (rec_146 x0 x3 ((x4 + 1)) h1))
theorem rg_296_175 {X : am_X} {d : Nat} {N : Nat} {rec_80 : Value → Int32 → am_H → Option am_O} {rec_146 : Value → Int32 → Int32 → am_H → Option am_O} (q_80 : ∀ (x0 : Value) (x3 : Int32) (h : am_H) (o : am_O), rec_80 x0 x3 h = some o → ∀ lv : am_LV, (lv.lookup 0 = some x0) → (lv.lookup 3 = some (.int x3)) → (am_isR x0 = true) → am_W X (d + 83) 296 80 lv [] h (fun q => q = o)) (q_146 : ∀ (x0 : Value) (x3 : Int32) (x4 : Int32) (h : am_H) (o : am_O), rec_146 x0 x3 x4 h = some o → ∀ lv : am_LV, (lv.lookup 0 = some x0) → (lv.lookup 3 = some (.int x3)) → (lv.lookup 4 = some (.int x4)) → (am_isR x0 = true) → am_W X (d + 83) 296 146 lv [] h (fun q => q = o)) {lv : am_LV} (x0 : Value) (x3 : Int32) (x4 : Int32) (s0 : Value) (s1 : Int32) (s2 : Int32) (h : am_H) (o : am_O) (l0 : lv.lookup 0 = some x0) (l3 : lv.lookup 3 = some (.int x3)) (l4 : lv.lookup 4 = some (.int x4)) (i0 : am_isR x0 = true) (j0 : am_isR s0 = true) (hs : fg_296_175 N rec_80 rec_146 x0 x3 x4 s0 s1 s2 h = some o) : am_W X (d + 83) 296 175 lv [(.int s2), (.int s1), s0] h (fun q => q = o) := by
  unfold fg_296_175 at hs
  obtain ⟨h1, e2, hs1⟩ := am_bind hs
  clear hs
  refine aw_pS (pc1 := 176) at_296_175 (Or.inl ⟨rfl, rfl⟩) e2 rfl ?_
  refine aw_iinc (v := (x4 + 1)) (c := 1) (lv1 := am_put1 _ 4 _) (pc1 := 179) at_296_176 l4 (by decide) rfl rfl rfl ?_
  refine aw_goto at_296_179 ?_
  exact q_146 x0 x3 ((x4 + 1)) h1 o hs1 _ (am_lk1 l0 rfl rfl) (am_lk1 l3 rfl rfl) am_lk0 i0
def fg_296_146 (N : Nat) (rec_80 : Value → Int32 → am_H → Option am_O) : Nat → Value → Int32 → Int32 → am_H → Option am_O
  | 0 => fun _ _ _ _ => none
  | K + 1 => fun x0 x3 x4 h => (if 3 ≤ x4 then ((am_vR (am_pG 2819 x0 h)).bind fun v2 => ((am_vR (am_pG 2827 x0 h)).bind fun v4 => (if am_pOk 2 v2 h then am_cI true (fm_297 N v2 v4 0 h) (fun v7 h8 => (if v7 = 0 then (rec_80 x0 ((x3 + 1)) h8) else ((am_vR (am_pG 2827 x0 h8)).bind fun v11 => (if am_pOk 11 x0 h8 then am_cI true (fm_298 N x0 v11 0 h8) (fun v14 h15 => (if am_rfit (some FieldType.boolean) v14 then some (.inl (some (.int v14), h15)) else none)) else none)))) else none))) else ((am_vR (am_pG 2827 x0 h)).bind fun v18 => (if 125 ≤ x3 then (fg_296_175 N rec_80 (fg_296_146 N rec_80 K) x0 x3 x4 v18 ((7 + x4)) ((x4 + 1)) h) else (fg_296_175 N rec_80 (fg_296_146 N rec_80 K) x0 x3 x4 v18 ((7 + x4)) 0 h))))
theorem rg_296_146 {X : am_X} {d : Nat} {N : Nat} {rec_80 : Value → Int32 → am_H → Option am_O} (q_80 : ∀ (x0 : Value) (x3 : Int32) (h : am_H) (o : am_O), rec_80 x0 x3 h = some o → ∀ lv : am_LV, (lv.lookup 0 = some x0) → (lv.lookup 3 = some (.int x3)) → (am_isR x0 = true) → am_W X (d + 83) 296 80 lv [] h (fun q => q = o)) : ∀ (K : Nat) (x0 : Value) (x3 : Int32) (x4 : Int32) (h : am_H) (o : am_O), fg_296_146 N rec_80 K x0 x3 x4 h = some o → ∀ lv : am_LV, (lv.lookup 0 = some x0) → (lv.lookup 3 = some (.int x3)) → (lv.lookup 4 = some (.int x4)) → (am_isR x0 = true) → am_W X (d + 83) 296 146 lv [] h (fun q => q = o) := by
  intro K
  induction K with
  | zero => intro x0 x3 x4 h o hs; cases hs
  | succ K ih =>
    intro x0 x3 x4 h o hs lv l0 l3 l4 i0
    unfold fg_296_146 at hs
    refine aw_iload (pc1 := 148) at_296_146 l4 rfl ?_
    refine aw_iconst (v := 3) (pc1 := 149) at_296_148 (by decide) rfl ?_
    by_cases c1 : 3 ≤ x4
    · rw [if_pos c1] at hs
      refine aw_icge_t at_296_149 c1 ?_
      refine aw_vload_n (pc1 := 183) at_296_182 l0 i0 rfl ?_
      obtain ⟨v2, e3, hs1⟩ := am_bind hs
      clear hs
      refine aw_pG (pc1 := 186) at_296_183 (am_vR_s e3).1 rfl ?_
      refine aw_vload_n (pc1 := 187) at_296_186 l0 i0 rfl ?_
      obtain ⟨v4, e5, hs2⟩ := am_bind hs1
      clear hs1
      refine aw_pG (pc1 := 190) at_296_187 (am_vR_s e5).1 rfl ?_
      refine aw_iconst (v := 0) (pc1 := 191) at_296_190 (by decide) rfl ?_
      obtain ⟨z6, hs3⟩ := am_ift hs2
      clear hs2
      refine aw_call (F := fm_297 N v2 v4 0 h) (t := true) (na := 3) (kd := 1) (as := [v2, v4, (.int 0)]) at_296_191 (am_k3v kb_297) mn_297 mk_297 rfl rfl (am_ok_v mi_297 (am_hl rfl (am_ccR (am_vR_s e3).2 (am_ccR (am_vR_s e5).2 (am_ccI am_cats_0))) rfl) z6) (am_hc am_cats_0 rfl) (fun _ => ⟨rfl, hh_296⟩) (fun o1 hz9 => rm_297 v2 v4 0 h o1 (am_vR_s e3).2 (am_vR_s e5).2 hz9) ?_
      rcases am_cI_s hs3 with ⟨v7, h8, f9, hs4⟩ | hs4
      · clear hs3
        refine Or.inl ⟨_, _, f9, ?_⟩
        show am_W X _ 296 194 _ [(.int v7)] h8 _
        by_cases c10 : v7 = 0
        · rw [if_pos c10] at hs4
          refine aw_ifeq_t at_296_194 c10 ?_
          refine aw_iinc (v := (x3 + 1)) (c := 1) (lv1 := am_put1 _ 3 _) (pc1 := 210) at_296_207 l3 (by decide) rfl rfl rfl ?_
          refine aw_goto at_296_210 ?_
          exact q_80 x0 ((x3 + 1)) h8 o hs4 _ (am_lk1 l0 rfl rfl) am_lk0 i0
        · rw [if_neg c10] at hs4
          refine aw_ifeq_f (pc1 := 197) at_296_194 c10 rfl ?_
          refine aw_vload_n (pc1 := 198) at_296_197 l0 i0 rfl ?_
          refine aw_vload_n (pc1 := 199) at_296_198 l0 i0 rfl ?_
          obtain ⟨v11, e12, hs5⟩ := am_bind hs4
          clear hs4
          refine aw_pG (pc1 := 202) at_296_199 (am_vR_s e12).1 rfl ?_
          refine aw_iconst (v := 0) (pc1 := 203) at_296_202 (by decide) rfl ?_
          obtain ⟨z13, hs6⟩ := am_ift hs5
          clear hs5
          refine aw_call (F := fm_298 N x0 v11 0 h8) (t := true) (na := 3) (kd := 1) (as := [x0, v11, (.int 0)]) at_296_203 (am_k3v kb_298) mn_298 mk_298 rfl rfl (am_ok_v mi_298 (am_hl rfl (am_ccR i0 (am_ccR (am_vR_s e12).2 (am_ccI am_cats_0))) rfl) z13) (am_hc am_cats_0 rfl) (fun _ => ⟨rfl, hh_296⟩) (fun o1 hz9 => rm_298 x0 v11 0 h8 o1 i0 (am_vR_s e12).2 hz9) ?_
          rcases am_cI_s hs6 with ⟨v14, h15, f16, hs7⟩ | hs7
          · clear hs6
            refine Or.inl ⟨_, _, f16, ?_⟩
            show am_W X _ 296 206 _ [(.int v14)] h15 _
            obtain ⟨z17, hs8⟩ := am_ift hs7
            clear hs7
            cases hs8
            exact aw_iret at_296_206 (by rw [rt_296]; exact z17) rfl
          · clear hs6
            exact Or.inr hs7
      · clear hs3
        exact Or.inr hs4
    · rw [if_neg c1] at hs
      refine aw_icge_f (pc1 := 152) at_296_149 c1 rfl ?_
      refine aw_vload_n (pc1 := 153) at_296_152 l0 i0 rfl ?_
      obtain ⟨v18, e19, hs9⟩ := am_bind hs
      clear hs
      refine aw_pG (pc1 := 156) at_296_153 (am_vR_s e19).1 rfl ?_
      refine aw_bipush (v := 7) (pc1 := 158) at_296_156 (by decide) rfl ?_
      refine aw_iload (pc1 := 160) at_296_158 l4 rfl ?_
      refine aw_iadd (v := (7 + x4)) (pc1 := 161) at_296_160 rfl rfl ?_
      refine aw_iload_n (pc1 := 162) at_296_161 l3 rfl ?_
      refine aw_bipush (v := 125) (pc1 := 164) at_296_162 (by decide) rfl ?_
      by_cases c20 : 125 ≤ x3
      · rw [if_pos c20] at hs9
        refine aw_icge_t at_296_164 c20 ?_
        refine aw_iload (pc1 := 173) at_296_171 l4 rfl ?_
        refine aw_iconst (v := 1) (pc1 := 174) at_296_173 (by decide) rfl ?_
        refine aw_iadd (v := (x4 + 1)) (pc1 := 175) at_296_174 rfl rfl ?_
        exact rg_296_175 q_80 (fun z0 z1 z2 h o hs9 => ih z0 z1 z2 h o hs9) x0 x3 x4 v18 ((7 + x4)) ((x4 + 1)) h o l0 l3 l4 i0 (am_vR_s e19).2 hs9
      · rw [if_neg c20] at hs9
        refine aw_icge_f (pc1 := 167) at_296_164 c20 rfl ?_
        refine aw_iconst (v := 0) (pc1 := 168) at_296_167 (by decide) rfl ?_
        refine aw_goto at_296_168 ?_
        exact rg_296_175 q_80 (fun z0 z1 z2 h o hs9 => ih z0 z1 z2 h o hs9) x0 x3 x4 v18 ((7 + x4)) 0 h o l0 l3 l4 i0 (am_vR_s e19).2 hs9
def fg_296_142 (N : Nat) (rec_80 : Value → Int32 → am_H → Option am_O) (x0 : Value) (x3 : Int32) (s0 : Value) (s1 : Int32) (s2 : Int32) (h : am_H) : Option am_O := ((am_pS 0 s0 s1 s2 h).bind fun h1 => (fg_296_146 N rec_80 N x0 x3 0 h1))
theorem rg_296_142 {X : am_X} {d : Nat} {N : Nat} {rec_80 : Value → Int32 → am_H → Option am_O} (q_80 : ∀ (x0 : Value) (x3 : Int32) (h : am_H) (o : am_O), rec_80 x0 x3 h = some o → ∀ lv : am_LV, (lv.lookup 0 = some x0) → (lv.lookup 3 = some (.int x3)) → (am_isR x0 = true) → am_W X (d + 83) 296 80 lv [] h (fun q => q = o)) {lv : am_LV} (x0 : Value) (x3 : Int32) (s0 : Value) (s1 : Int32) (s2 : Int32) (h : am_H) (o : am_O) (l0 : lv.lookup 0 = some x0) (l3 : lv.lookup 3 = some (.int x3)) (i0 : am_isR x0 = true) (j0 : am_isR s0 = true) (hs : fg_296_142 N rec_80 x0 x3 s0 s1 s2 h = some o) : am_W X (d + 83) 296 142 lv [(.int s2), (.int s1), s0] h (fun q => q = o) := by
  unfold fg_296_142 at hs
  obtain ⟨h1, e2, hs1⟩ := am_bind hs
  clear hs
  refine aw_pS (pc1 := 143) at_296_142 (Or.inl ⟨rfl, rfl⟩) e2 rfl ?_
  refine aw_iconst (v := 0) (pc1 := 144) at_296_143 (by decide) rfl ?_
  refine aw_istore (lv1 := am_put1 _ 4 _) (pc1 := 146) at_296_144 rfl rfl ?_
  exact rg_296_146 q_80 N x0 x3 0 h1 o hs1 _ (am_lk1 l0 rfl rfl) (am_lk1 l3 rfl rfl) am_lk0 i0
def fg_296_80 (N : Nat) : Nat → Value → Int32 → am_H → Option am_O
  | 0 => fun _ _ _ => none
  | K + 1 => fun x0 x3 h => (if 250 ≤ x3 then some (.inl (some (.int 0), h)) else ((am_vR (am_pG 2827 x0 h)).bind fun v2 => ((am_pS 0 v2 0 (((x3 / 25) - (x3 / 25) / 5 * 5) - 2) h).bind fun h4 => ((am_vR (am_pG 2827 x0 h4)).bind fun v6 => ((am_pS 0 v6 1 (((x3 / 5) - (x3 / 5) / 5 * 5) - 2) h4).bind fun h8 => ((am_vR (am_pG 2827 x0 h8)).bind fun v10 => ((am_pS 0 v10 2 ((x3 - x3 / 5 * 5) - 2) h8).bind fun h12 => ((am_vR (am_pG 2827 x0 h12)).bind fun v14 => (if 125 ≤ x3 then (fg_296_142 N (fg_296_80 N K) x0 x3 v14 6 3 h12) else (fg_296_142 N (fg_296_80 N K) x0 x3 v14 6 0 h12))))))))))
theorem rg_296_80 {X : am_X} {d : Nat} {N : Nat} : ∀ (K : Nat) (x0 : Value) (x3 : Int32) (h : am_H) (o : am_O), fg_296_80 N K x0 x3 h = some o → ∀ lv : am_LV, (lv.lookup 0 = some x0) → (lv.lookup 3 = some (.int x3)) → (am_isR x0 = true) → am_W X (d + 83) 296 80 lv [] h (fun q => q = o) := by
  intro K
  induction K with
  | zero => intro x0 x3 h o hs; cases hs
  | succ K ih =>
    intro x0 x3 h o hs lv l0 l3 i0
    unfold fg_296_80 at hs
    refine aw_iload_n (pc1 := 81) at_296_80 l3 rfl ?_
    refine aw_sipush (v := 250) (pc1 := 84) at_296_81 (by decide) rfl ?_
    by_cases c1 : 250 ≤ x3
    · rw [if_pos c1] at hs
      refine aw_icge_t at_296_84 c1 ?_
      refine aw_iconst (v := 0) (pc1 := 214) at_296_213 (by decide) rfl ?_
      cases hs
      exact aw_iret at_296_214 (by rw [rt_296]; decide) rfl
    · rw [if_neg c1] at hs
      refine aw_icge_f (pc1 := 87) at_296_84 c1 rfl ?_
      refine aw_vload_n (pc1 := 88) at_296_87 l0 i0 rfl ?_
      obtain ⟨v2, e3, hs1⟩ := am_bind hs
      clear hs
      refine aw_pG (pc1 := 91) at_296_88 (am_vR_s e3).1 rfl ?_
      refine aw_iconst (v := 0) (pc1 := 92) at_296_91 (by decide) rfl ?_
      refine aw_iload_n (pc1 := 93) at_296_92 l3 rfl ?_
      refine aw_bipush (v := 25) (pc1 := 95) at_296_93 (by decide) rfl ?_
      refine aw_idiv (v := (x3 / 25)) (pc1 := 96) at_296_95 (by decide) rfl rfl ?_
      refine aw_iconst (v := 5) (pc1 := 97) at_296_96 (by decide) rfl ?_
      refine aw_irem (v := ((x3 / 25) - (x3 / 25) / 5 * 5)) (pc1 := 98) at_296_97 (by decide) rfl rfl ?_
      refine aw_iconst (v := 2) (pc1 := 99) at_296_98 (by decide) rfl ?_
      refine aw_isub (v := (((x3 / 25) - (x3 / 25) / 5 * 5) - 2)) (pc1 := 100) at_296_99 rfl rfl ?_
      obtain ⟨h4, e5, hs2⟩ := am_bind hs1
      clear hs1
      refine aw_pS (pc1 := 101) at_296_100 (Or.inl ⟨rfl, rfl⟩) e5 rfl ?_
      refine aw_vload_n (pc1 := 102) at_296_101 l0 i0 rfl ?_
      obtain ⟨v6, e7, hs3⟩ := am_bind hs2
      clear hs2
      refine aw_pG (pc1 := 105) at_296_102 (am_vR_s e7).1 rfl ?_
      refine aw_iconst (v := 1) (pc1 := 106) at_296_105 (by decide) rfl ?_
      refine aw_iload_n (pc1 := 107) at_296_106 l3 rfl ?_
      refine aw_iconst (v := 5) (pc1 := 108) at_296_107 (by decide) rfl ?_
      refine aw_idiv (v := (x3 / 5)) (pc1 := 109) at_296_108 (by decide) rfl rfl ?_
      refine aw_iconst (v := 5) (pc1 := 110) at_296_109 (by decide) rfl ?_
      refine aw_irem (v := ((x3 / 5) - (x3 / 5) / 5 * 5)) (pc1 := 111) at_296_110 (by decide) rfl rfl ?_
      refine aw_iconst (v := 2) (pc1 := 112) at_296_111 (by decide) rfl ?_
      refine aw_isub (v := (((x3 / 5) - (x3 / 5) / 5 * 5) - 2)) (pc1 := 113) at_296_112 rfl rfl ?_
      obtain ⟨h8, e9, hs4⟩ := am_bind hs3
      clear hs3
      refine aw_pS (pc1 := 114) at_296_113 (Or.inl ⟨rfl, rfl⟩) e9 rfl ?_
      refine aw_vload_n (pc1 := 115) at_296_114 l0 i0 rfl ?_
      obtain ⟨v10, e11, hs5⟩ := am_bind hs4
      clear hs4
      refine aw_pG (pc1 := 118) at_296_115 (am_vR_s e11).1 rfl ?_
      refine aw_iconst (v := 2) (pc1 := 119) at_296_118 (by decide) rfl ?_
      refine aw_iload_n (pc1 := 120) at_296_119 l3 rfl ?_
      refine aw_iconst (v := 5) (pc1 := 121) at_296_120 (by decide) rfl ?_
      refine aw_irem (v := (x3 - x3 / 5 * 5)) (pc1 := 122) at_296_121 (by decide) rfl rfl ?_
      refine aw_iconst (v := 2) (pc1 := 123) at_296_122 (by decide) rfl ?_
      refine aw_isub (v := ((x3 - x3 / 5 * 5) - 2)) (pc1 := 124) at_296_123 rfl rfl ?_
      obtain ⟨h12, e13, hs6⟩ := am_bind hs5
      clear hs5
      refine aw_pS (pc1 := 125) at_296_124 (Or.inl ⟨rfl, rfl⟩) e13 rfl ?_
      refine aw_vload_n (pc1 := 126) at_296_125 l0 i0 rfl ?_
      obtain ⟨v14, e15, hs7⟩ := am_bind hs6
      clear hs6
      refine aw_pG (pc1 := 129) at_296_126 (am_vR_s e15).1 rfl ?_
      refine aw_bipush (v := 6) (pc1 := 131) at_296_129 (by decide) rfl ?_
      refine aw_iload_n (pc1 := 132) at_296_131 l3 rfl ?_
      refine aw_bipush (v := 125) (pc1 := 134) at_296_132 (by decide) rfl ?_
      by_cases c16 : 125 ≤ x3
      · rw [if_pos c16] at hs7
        refine aw_icge_t at_296_134 c16 ?_
        refine aw_iconst (v := 3) (pc1 := 142) at_296_141 (by decide) rfl ?_
        exact rg_296_142 (fun z0 z1 h o hs7 => ih z0 z1 h o hs7) x0 x3 v14 6 3 h12 o l0 l3 i0 (am_vR_s e15).2 hs7
      · rw [if_neg c16] at hs7
        refine aw_icge_f (pc1 := 137) at_296_134 c16 rfl ?_
        refine aw_iconst (v := 0) (pc1 := 138) at_296_137 (by decide) rfl ?_
        refine aw_goto at_296_138 ?_
        exact rg_296_142 (fun z0 z1 h o hs7 => ih z0 z1 h o hs7) x0 x3 v14 6 0 h12 o l0 l3 i0 (am_vR_s e15).2 hs7
def fg_296_24 (N : Nat) : Nat → Value → Int32 → am_H → Option am_O
  | 0 => fun _ _ _ => none
  | K + 1 => fun x0 x3 h => ((am_vR (am_pG 2819 x0 h)).bind fun v1 => ((am_vI (am_pG 513 v1 h)).bind fun v3 => (if v3 ≤ x3 then (fg_296_80 N N x0 0 h) else ((am_vR (am_pG 2819 x0 h)).bind fun v6 => ((am_vR (am_pG 2819 x0 h)).bind fun v8 => ((am_vR (am_pG 512 v8 h)).bind fun v10 => (if am_pOk 2 v6 h then am_cI true (fm_297 N v6 v10 ((x3 * 15)) h) (fun v13 h14 => (if v13 = 0 then (fg_296_24 N K x0 ((x3 + 1)) h14) else ((am_vR (am_pG 2819 x0 h14)).bind fun v17 => ((am_vR (am_pG 512 v17 h14)).bind fun v19 => (if am_pOk 11 x0 h14 then am_cI true (fm_298 N x0 v19 ((x3 * 15)) h14) (fun v22 h23 => (if am_rfit (some FieldType.boolean) v22 then some (.inl (some (.int v22), h23)) else none)) else none))))) else none)))))))
theorem rg_296_24 {X : am_X} {d : Nat} {N : Nat} : ∀ (K : Nat) (x0 : Value) (x3 : Int32) (h : am_H) (o : am_O), fg_296_24 N K x0 x3 h = some o → ∀ lv : am_LV, (lv.lookup 0 = some x0) → (lv.lookup 3 = some (.int x3)) → (am_isR x0 = true) → am_W X (d + 83) 296 24 lv [] h (fun q => q = o) := by
  intro K
  induction K with
  | zero => intro x0 x3 h o hs; cases hs
  | succ K ih =>
    intro x0 x3 h o hs lv l0 l3 i0
    unfold fg_296_24 at hs
    refine aw_iload_n (pc1 := 25) at_296_24 l3 rfl ?_
    refine aw_vload_n (pc1 := 26) at_296_25 l0 i0 rfl ?_
    obtain ⟨v1, e2, hs1⟩ := am_bind hs
    clear hs
    refine aw_pG (pc1 := 29) at_296_26 (am_vR_s e2).1 rfl ?_
    obtain ⟨v3, e4, hs2⟩ := am_bind hs1
    clear hs1
    refine aw_pG (pc1 := 32) at_296_29 (am_vI_s e4) rfl ?_
    by_cases c5 : v3 ≤ x3
    · rw [if_pos c5] at hs2
      refine aw_icge_t at_296_32 c5 ?_
      refine aw_iconst (v := 0) (pc1 := 79) at_296_78 (by decide) rfl ?_
      refine aw_istore_n (lv1 := am_put1 _ 3 _) (pc1 := 80) at_296_79 rfl rfl ?_
      exact rg_296_80 N x0 0 h o hs2 _ (am_lk1 l0 rfl rfl) am_lk0 i0
    · rw [if_neg c5] at hs2
      refine aw_icge_f (pc1 := 35) at_296_32 c5 rfl ?_
      refine aw_vload_n (pc1 := 36) at_296_35 l0 i0 rfl ?_
      obtain ⟨v6, e7, hs3⟩ := am_bind hs2
      clear hs2
      refine aw_pG (pc1 := 39) at_296_36 (am_vR_s e7).1 rfl ?_
      refine aw_vload_n (pc1 := 40) at_296_39 l0 i0 rfl ?_
      obtain ⟨v8, e9, hs4⟩ := am_bind hs3
      clear hs3
      refine aw_pG (pc1 := 43) at_296_40 (am_vR_s e9).1 rfl ?_
      obtain ⟨v10, e11, hs5⟩ := am_bind hs4
      clear hs4
      refine aw_pG (pc1 := 46) at_296_43 (am_vR_s e11).1 rfl ?_
      refine aw_iload_n (pc1 := 47) at_296_46 l3 rfl ?_
      refine aw_bipush (v := 15) (pc1 := 49) at_296_47 (by decide) rfl ?_
      refine aw_imul (v := (x3 * 15)) (pc1 := 50) at_296_49 rfl rfl ?_
      obtain ⟨z12, hs6⟩ := am_ift hs5
      clear hs5
      refine aw_call (F := fm_297 N v6 v10 ((x3 * 15)) h) (t := true) (na := 3) (kd := 1) (as := [v6, v10, (.int (x3 * 15))]) at_296_50 (am_k3v kb_297) mn_297 mk_297 rfl rfl (am_ok_v mi_297 (am_hl rfl (am_ccR (am_vR_s e7).2 (am_ccR (am_vR_s e11).2 (am_ccI am_cats_0))) rfl) z12) (am_hc am_cats_0 rfl) (fun _ => ⟨rfl, hh_296⟩) (fun o1 hz9 => rm_297 v6 v10 ((x3 * 15)) h o1 (am_vR_s e7).2 (am_vR_s e11).2 hz9) ?_
      rcases am_cI_s hs6 with ⟨v13, h14, f15, hs7⟩ | hs7
      · clear hs6
        refine Or.inl ⟨_, _, f15, ?_⟩
        show am_W X _ 296 53 _ [(.int v13)] h14 _
        by_cases c16 : v13 = 0
        · rw [if_pos c16] at hs7
          refine aw_ifeq_t at_296_53 c16 ?_
          refine aw_iinc (v := (x3 + 1)) (c := 1) (lv1 := am_put1 _ 3 _) (pc1 := 75) at_296_72 l3 (by decide) rfl rfl rfl ?_
          refine aw_goto at_296_75 ?_
          exact ih x0 ((x3 + 1)) h14 o hs7 _ (am_lk1 l0 rfl rfl) am_lk0 i0
        · rw [if_neg c16] at hs7
          refine aw_ifeq_f (pc1 := 56) at_296_53 c16 rfl ?_
          refine aw_vload_n (pc1 := 57) at_296_56 l0 i0 rfl ?_
          refine aw_vload_n (pc1 := 58) at_296_57 l0 i0 rfl ?_
          obtain ⟨v17, e18, hs8⟩ := am_bind hs7
          clear hs7
          refine aw_pG (pc1 := 61) at_296_58 (am_vR_s e18).1 rfl ?_
          obtain ⟨v19, e20, hs9⟩ := am_bind hs8
          clear hs8
          refine aw_pG (pc1 := 64) at_296_61 (am_vR_s e20).1 rfl ?_
          refine aw_iload_n (pc1 := 65) at_296_64 l3 rfl ?_
          refine aw_bipush (v := 15) (pc1 := 67) at_296_65 (by decide) rfl ?_
          refine aw_imul (v := (x3 * 15)) (pc1 := 68) at_296_67 rfl rfl ?_
          obtain ⟨z21, hs10⟩ := am_ift hs9
          clear hs9
          refine aw_call (F := fm_298 N x0 v19 ((x3 * 15)) h14) (t := true) (na := 3) (kd := 1) (as := [x0, v19, (.int (x3 * 15))]) at_296_68 (am_k3v kb_298) mn_298 mk_298 rfl rfl (am_ok_v mi_298 (am_hl rfl (am_ccR i0 (am_ccR (am_vR_s e20).2 (am_ccI am_cats_0))) rfl) z21) (am_hc am_cats_0 rfl) (fun _ => ⟨rfl, hh_296⟩) (fun o1 hz9 => rm_298 x0 v19 ((x3 * 15)) h14 o1 i0 (am_vR_s e20).2 hz9) ?_
          rcases am_cI_s hs10 with ⟨v22, h23, f24, hs11⟩ | hs11
          · clear hs10
            refine Or.inl ⟨_, _, f24, ?_⟩
            show am_W X _ 296 71 _ [(.int v22)] h23 _
            obtain ⟨z25, hs12⟩ := am_ift hs11
            clear hs11
            cases hs12
            exact aw_iret at_296_71 (by rw [rt_296]; exact z25) rfl
          · clear hs10
            exact Or.inr hs11
      · clear hs6
        exact Or.inr hs7
def fg_296_0 (N : Nat) (x0 : Value) (x1 : Value) (x2 : Value) (h : am_H) : Option am_O := ((am_vR (am_pG 2819 x0 h)).bind fun v1 => ((am_vR (am_pG 514 v1 h)).bind fun v3 => (if am_pOk 6 v3 h then am_cV true (fm_115 N v3 x1 h) (fun h7 => ((am_vR (am_pG 2819 x0 h7)).bind fun v9 => ((am_vR (am_pG 515 v9 h7)).bind fun v11 => (if am_pOk 6 v11 h7 then am_cV true (fm_115 N v11 x2 h7) (fun h15 => (fg_296_24 N N x0 0 h15)) else none)))) else none)))
theorem rg_296_0 {X : am_X} {d : Nat} {N : Nat} {lv : am_LV} (x0 : Value) (x1 : Value) (x2 : Value) (h : am_H) (o : am_O) (l0 : lv.lookup 0 = some x0) (l1 : lv.lookup 1 = some x1) (l2 : lv.lookup 2 = some x2) (i0 : am_isR x0 = true) (i1 : am_isR x1 = true) (i2 : am_isR x2 = true) (hs : fg_296_0 N x0 x1 x2 h = some o) : am_W X (d + 83) 296 0 lv [] h (fun q => q = o) := by
  unfold fg_296_0 at hs
  refine aw_vload_n (pc1 := 1) at_296_0 l0 i0 rfl ?_
  obtain ⟨v1, e2, hs1⟩ := am_bind hs
  clear hs
  refine aw_pG (pc1 := 4) at_296_1 (am_vR_s e2).1 rfl ?_
  obtain ⟨v3, e4, hs2⟩ := am_bind hs1
  clear hs1
  refine aw_pG (pc1 := 7) at_296_4 (am_vR_s e4).1 rfl ?_
  refine aw_vload_n (pc1 := 8) at_296_7 l1 i1 rfl ?_
  obtain ⟨z5, hs3⟩ := am_ift hs2
  clear hs2
  refine aw_call (F := fm_115 N v3 x1 h) (t := true) (na := 2) (kd := 1) (as := [v3, x1]) at_296_8 (am_k3v kb_115) mn_115 mk_115 rfl rfl (am_ok_v mi_115 (am_hl rfl (am_ccR (am_vR_s e4).2 (am_ccR i1 am_cats_0)) rfl) z5) (am_hc am_cats_0 rfl) (fun _ => ⟨rfl, hh_296⟩) (fun o1 hz9 => rm_115 v3 x1 h o1 (am_vR_s e4).2 i1 hz9) ?_
  rcases am_cV_s hs3 with ⟨h7, f8, hs4⟩ | hs4
  · clear hs3
    refine Or.inl ⟨_, _, f8, ?_⟩
    show am_W X _ 296 11 _ [] h7 _
    refine aw_vload_n (pc1 := 12) at_296_11 l0 i0 rfl ?_
    obtain ⟨v9, e10, hs5⟩ := am_bind hs4
    clear hs4
    refine aw_pG (pc1 := 15) at_296_12 (am_vR_s e10).1 rfl ?_
    obtain ⟨v11, e12, hs6⟩ := am_bind hs5
    clear hs5
    refine aw_pG (pc1 := 18) at_296_15 (am_vR_s e12).1 rfl ?_
    refine aw_vload_n (pc1 := 19) at_296_18 l2 i2 rfl ?_
    obtain ⟨z13, hs7⟩ := am_ift hs6
    clear hs6
    refine aw_call (F := fm_115 N v11 x2 h7) (t := true) (na := 2) (kd := 1) (as := [v11, x2]) at_296_19 (am_k3v kb_115) mn_115 mk_115 rfl rfl (am_ok_v mi_115 (am_hl rfl (am_ccR (am_vR_s e12).2 (am_ccR i2 am_cats_0)) rfl) z13) (am_hc am_cats_0 rfl) (fun _ => ⟨rfl, hh_296⟩) (fun o1 hz9 => rm_115 v11 x2 h7 o1 (am_vR_s e12).2 i2 hz9) ?_
    rcases am_cV_s hs7 with ⟨h15, f16, hs8⟩ | hs8
    · clear hs7
      refine Or.inl ⟨_, _, f16, ?_⟩
      show am_W X _ 296 22 _ [] h15 _
      refine aw_iconst (v := 0) (pc1 := 23) at_296_22 (by decide) rfl ?_
      refine aw_istore_n (lv1 := am_put1 _ 3 _) (pc1 := 24) at_296_23 rfl rfl ?_
      exact rg_296_24 N x0 0 h15 o hs8 _ (am_lk1 l0 rfl rfl) am_lk0 i0
    · clear hs7
      exact Or.inr hs8
  · clear hs3
    exact Or.inr hs4
def fm_296 (N : Nat) (y0 : Value) (y1 : Value) (y2 : Value) (h : am_H) : Option am_O := fg_296_0 N y0 y1 y2 h
theorem rm_296 {X : am_X} {d : Nat} {N : Nat} (y0 : Value) (y1 : Value) (y2 : Value) (h : am_H) (o : am_O) (i0 : am_isR y0 = true) (i1 : am_isR y1 = true) (i2 : am_isR y2 = true) (hs : fm_296 N y0 y1 y2 h = some o) : am_W X (d + 83) 296 0 (am_args 0 [y0, y1, y2]) [] h (fun q => q = o) := by
  rw [am_args_R i0, am_args_R i1, am_args_R i2]
  exact rg_296_0 y0 y1 y2 h o rfl rfl rfl i0 i1 i2 hs
def fg_287_191 (N : Nat) (s0 : Int32) (h : am_H) : Option am_O := some (.inl (some (.int s0), h))
theorem rg_287_191 {X : am_X} {d : Nat} {N : Nat} {lv : am_LV} (s0 : Int32) (h : am_H) (o : am_O) (hs : fg_287_191 N s0 h = some o) : am_W X (d + 84) 287 191 lv [(.int s0)] h (fun q => q = o) := by
  unfold fg_287_191 at hs
  cases hs
  exact aw_iret at_287_191 (by rw [rt_287]; rfl) rfl
def fg_287_176 (N : Nat) (x0 : Value) (x3 : Value) (x4 : Value) (h : am_H) : Option am_O := (if am_pOk 11 x0 h then am_cI true (fm_296 N x0 x3 x4 h) (fun v2 h3 => (if v2 = 0 then (fg_287_191 N 2 h3) else (fg_287_191 N 0 h3))) else none)
theorem rg_287_176 {X : am_X} {d : Nat} {N : Nat} {lv : am_LV} (x0 : Value) (x3 : Value) (x4 : Value) (h : am_H) (o : am_O) (l0 : lv.lookup 0 = some x0) (l3 : lv.lookup 3 = some x3) (l4 : lv.lookup 4 = some x4) (i0 : am_isR x0 = true) (i3 : am_isR x3 = true) (i4 : am_isR x4 = true) (hs : fg_287_176 N x0 x3 x4 h = some o) : am_W X (d + 84) 287 176 lv [] h (fun q => q = o) := by
  unfold fg_287_176 at hs
  refine aw_vload_n (pc1 := 177) at_287_176 l0 i0 rfl ?_
  refine aw_vload_n (pc1 := 178) at_287_177 l3 i3 rfl ?_
  refine aw_vload (pc1 := 180) at_287_178 l4 i4 rfl ?_
  obtain ⟨z1, hs1⟩ := am_ift hs
  clear hs
  refine aw_call (F := fm_296 N x0 x3 x4 h) (t := true) (na := 3) (kd := 1) (as := [x0, x3, x4]) at_287_180 (am_k3v kb_296) mn_296 mk_296 rfl rfl (am_ok_v mi_296 (am_hl rfl (am_ccR i0 (am_ccR i3 (am_ccR i4 am_cats_0))) rfl) z1) (am_hc am_cats_0 rfl) (fun _ => ⟨rfl, hh_287⟩) (fun o1 hz9 => rm_296 x0 x3 x4 h o1 i0 i3 i4 hz9) ?_
  rcases am_cI_s hs1 with ⟨v2, h3, f4, hs2⟩ | hs2
  · clear hs1
    refine Or.inl ⟨_, _, f4, ?_⟩
    show am_W X _ 287 183 _ [(.int v2)] h3 _
    by_cases c5 : v2 = 0
    · rw [if_pos c5] at hs2
      refine aw_ifeq_t at_287_183 c5 ?_
      refine aw_iconst (v := 2) (pc1 := 191) at_287_190 (by decide) rfl ?_
      exact rg_287_191 2 h3 o   hs2
    · rw [if_neg c5] at hs2
      refine aw_ifeq_f (pc1 := 186) at_287_183 c5 rfl ?_
      refine aw_iconst (v := 0) (pc1 := 187) at_287_186 (by decide) rfl ?_
      refine aw_goto at_287_187 ?_
      exact rg_287_191 0 h3 o   hs2
  · clear hs1
    exact Or.inr hs2
def fg_287_105 (N : Nat) (x0 : Value) (x3 : Value) (x4 : Value) (h : am_H) : Option am_O := ((am_vR (am_pG 2825 x0 h)).bind fun v1 => ((am_vR (am_pG 2831 x0 h)).bind fun v3 => (if am_pOk 10 v1 h then am_cI true (fm_293 N v1 x3 v3 h) (fun v6 h7 => (if v6 = 0 then (fg_287_176 N x0 x3 x4 h7) else ((am_vR (am_pG 2825 x0 h7)).bind fun v10 => ((am_vR (am_pG 2832 x0 h7)).bind fun v12 => (if am_pOk 10 v10 h7 then am_cI true (fm_293 N v10 x4 v12 h7) (fun v15 h16 => (if v15 = 0 then (fg_287_176 N x0 x3 x4 h16) else ((am_vR (am_pG 2824 x0 h16)).bind fun v19 => ((am_vR (am_pG 2831 x0 h16)).bind fun v21 => (if am_pOk 5 v19 h16 then am_cV true (fm_269 N v19 v21 0 h16) (fun h25 => ((am_vR (am_pG 2824 x0 h25)).bind fun v27 => ((am_vR (am_pG 2832 x0 h25)).bind fun v29 => (if am_pOk 5 v27 h25 then am_cV true (fm_269 N v27 v29 0 h25) (fun h33 => ((am_vR (am_pG 2831 x0 h33)).bind fun v35 => ((am_vR (am_pG 2832 x0 h33)).bind fun v37 => (if am_pOk 3 v35 h33 then am_cI true (fm_86 N v35 v37 h33) (fun v40 h41 => (if v40 = 0 then (fg_287_176 N x0 x3 x4 h41) else some (.inl (some (.int 1), h41)))) else none)))) else none)))) else none))))) else none))))) else none)))
theorem rg_287_105 {X : am_X} {d : Nat} {N : Nat} {lv : am_LV} (x0 : Value) (x3 : Value) (x4 : Value) (h : am_H) (o : am_O) (l0 : lv.lookup 0 = some x0) (l3 : lv.lookup 3 = some x3) (l4 : lv.lookup 4 = some x4) (i0 : am_isR x0 = true) (i3 : am_isR x3 = true) (i4 : am_isR x4 = true) (hs : fg_287_105 N x0 x3 x4 h = some o) : am_W X (d + 84) 287 105 lv [] h (fun q => q = o) := by
  unfold fg_287_105 at hs
  refine aw_vload_n (pc1 := 106) at_287_105 l0 i0 rfl ?_
  obtain ⟨v1, e2, hs1⟩ := am_bind hs
  clear hs
  refine aw_pG (pc1 := 109) at_287_106 (am_vR_s e2).1 rfl ?_
  refine aw_vload_n (pc1 := 110) at_287_109 l3 i3 rfl ?_
  refine aw_vload_n (pc1 := 111) at_287_110 l0 i0 rfl ?_
  obtain ⟨v3, e4, hs2⟩ := am_bind hs1
  clear hs1
  refine aw_pG (pc1 := 114) at_287_111 (am_vR_s e4).1 rfl ?_
  obtain ⟨z5, hs3⟩ := am_ift hs2
  clear hs2
  refine aw_call (F := fm_293 N v1 x3 v3 h) (t := true) (na := 3) (kd := 1) (as := [v1, x3, v3]) at_287_114 (am_k3v kb_293) mn_293 mk_293 rfl rfl (am_ok_v mi_293 (am_hl rfl (am_ccR (am_vR_s e2).2 (am_ccR i3 (am_ccR (am_vR_s e4).2 am_cats_0))) rfl) z5) (am_hc am_cats_0 rfl) (fun _ => ⟨rfl, hh_287⟩) (fun o1 hz9 => rm_293 v1 x3 v3 h o1 (am_vR_s e2).2 i3 (am_vR_s e4).2 hz9) ?_
  rcases am_cI_s hs3 with ⟨v6, h7, f8, hs4⟩ | hs4
  · clear hs3
    refine Or.inl ⟨_, _, f8, ?_⟩
    show am_W X _ 287 117 _ [(.int v6)] h7 _
    by_cases c9 : v6 = 0
    · rw [if_pos c9] at hs4
      refine aw_ifeq_t at_287_117 c9 ?_
      exact rg_287_176 x0 x3 x4 h7 o l0 l3 l4 i0 i3 i4 hs4
    · rw [if_neg c9] at hs4
      refine aw_ifeq_f (pc1 := 120) at_287_117 c9 rfl ?_
      refine aw_vload_n (pc1 := 121) at_287_120 l0 i0 rfl ?_
      obtain ⟨v10, e11, hs5⟩ := am_bind hs4
      clear hs4
      refine aw_pG (pc1 := 124) at_287_121 (am_vR_s e11).1 rfl ?_
      refine aw_vload (pc1 := 126) at_287_124 l4 i4 rfl ?_
      refine aw_vload_n (pc1 := 127) at_287_126 l0 i0 rfl ?_
      obtain ⟨v12, e13, hs6⟩ := am_bind hs5
      clear hs5
      refine aw_pG (pc1 := 130) at_287_127 (am_vR_s e13).1 rfl ?_
      obtain ⟨z14, hs7⟩ := am_ift hs6
      clear hs6
      refine aw_call (F := fm_293 N v10 x4 v12 h7) (t := true) (na := 3) (kd := 1) (as := [v10, x4, v12]) at_287_130 (am_k3v kb_293) mn_293 mk_293 rfl rfl (am_ok_v mi_293 (am_hl rfl (am_ccR (am_vR_s e11).2 (am_ccR i4 (am_ccR (am_vR_s e13).2 am_cats_0))) rfl) z14) (am_hc am_cats_0 rfl) (fun _ => ⟨rfl, hh_287⟩) (fun o1 hz9 => rm_293 v10 x4 v12 h7 o1 (am_vR_s e11).2 i4 (am_vR_s e13).2 hz9) ?_
      rcases am_cI_s hs7 with ⟨v15, h16, f17, hs8⟩ | hs8
      · clear hs7
        refine Or.inl ⟨_, _, f17, ?_⟩
        show am_W X _ 287 133 _ [(.int v15)] h16 _
        by_cases c18 : v15 = 0
        · rw [if_pos c18] at hs8
          refine aw_ifeq_t at_287_133 c18 ?_
          exact rg_287_176 x0 x3 x4 h16 o l0 l3 l4 i0 i3 i4 hs8
        · rw [if_neg c18] at hs8
          refine aw_ifeq_f (pc1 := 136) at_287_133 c18 rfl ?_
          refine aw_vload_n (pc1 := 137) at_287_136 l0 i0 rfl ?_
          obtain ⟨v19, e20, hs9⟩ := am_bind hs8
          clear hs8
          refine aw_pG (pc1 := 140) at_287_137 (am_vR_s e20).1 rfl ?_
          refine aw_vload_n (pc1 := 141) at_287_140 l0 i0 rfl ?_
          obtain ⟨v21, e22, hs10⟩ := am_bind hs9
          clear hs9
          refine aw_pG (pc1 := 144) at_287_141 (am_vR_s e22).1 rfl ?_
          refine aw_iconst (v := 0) (pc1 := 145) at_287_144 (by decide) rfl ?_
          obtain ⟨z23, hs11⟩ := am_ift hs10
          clear hs10
          refine aw_call (F := fm_269 N v19 v21 0 h16) (t := true) (na := 3) (kd := 1) (as := [v19, v21, (.int 0)]) at_287_145 (am_k3v kb_269) mn_269 mk_269 rfl rfl (am_ok_v mi_269 (am_hl rfl (am_ccR (am_vR_s e20).2 (am_ccR (am_vR_s e22).2 (am_ccI am_cats_0))) rfl) z23) (am_hc am_cats_0 rfl) (fun _ => ⟨rfl, hh_287⟩) (fun o1 hz9 => rm_269 v19 v21 0 h16 o1 (am_vR_s e20).2 (am_vR_s e22).2 hz9) ?_
          rcases am_cV_s hs11 with ⟨h25, f26, hs12⟩ | hs12
          · clear hs11
            refine Or.inl ⟨_, _, f26, ?_⟩
            show am_W X _ 287 148 _ [] h25 _
            refine aw_vload_n (pc1 := 149) at_287_148 l0 i0 rfl ?_
            obtain ⟨v27, e28, hs13⟩ := am_bind hs12
            clear hs12
            refine aw_pG (pc1 := 152) at_287_149 (am_vR_s e28).1 rfl ?_
            refine aw_vload_n (pc1 := 153) at_287_152 l0 i0 rfl ?_
            obtain ⟨v29, e30, hs14⟩ := am_bind hs13
            clear hs13
            refine aw_pG (pc1 := 156) at_287_153 (am_vR_s e30).1 rfl ?_
            refine aw_iconst (v := 0) (pc1 := 157) at_287_156 (by decide) rfl ?_
            obtain ⟨z31, hs15⟩ := am_ift hs14
            clear hs14
            refine aw_call (F := fm_269 N v27 v29 0 h25) (t := true) (na := 3) (kd := 1) (as := [v27, v29, (.int 0)]) at_287_157 (am_k3v kb_269) mn_269 mk_269 rfl rfl (am_ok_v mi_269 (am_hl rfl (am_ccR (am_vR_s e28).2 (am_ccR (am_vR_s e30).2 (am_ccI am_cats_0))) rfl) z31) (am_hc am_cats_0 rfl) (fun _ => ⟨rfl, hh_287⟩) (fun o1 hz9 => rm_269 v27 v29 0 h25 o1 (am_vR_s e28).2 (am_vR_s e30).2 hz9) ?_
            rcases am_cV_s hs15 with ⟨h33, f34, hs16⟩ | hs16
            · clear hs15
              refine Or.inl ⟨_, _, f34, ?_⟩
              show am_W X _ 287 160 _ [] h33 _
              refine aw_vload_n (pc1 := 161) at_287_160 l0 i0 rfl ?_
              obtain ⟨v35, e36, hs17⟩ := am_bind hs16
              clear hs16
              refine aw_pG (pc1 := 164) at_287_161 (am_vR_s e36).1 rfl ?_
              refine aw_vload_n (pc1 := 165) at_287_164 l0 i0 rfl ?_
              obtain ⟨v37, e38, hs18⟩ := am_bind hs17
              clear hs17
              refine aw_pG (pc1 := 168) at_287_165 (am_vR_s e38).1 rfl ?_
              obtain ⟨z39, hs19⟩ := am_ift hs18
              clear hs18
              refine aw_call (F := fm_86 N v35 v37 h33) (t := true) (na := 2) (kd := 1) (as := [v35, v37]) at_287_168 (am_k3v kb_86) mn_86 mk_86 rfl rfl (am_ok_v mi_86 (am_hl rfl (am_ccR (am_vR_s e36).2 (am_ccR (am_vR_s e38).2 am_cats_0)) rfl) z39) (am_hc am_cats_0 rfl) (fun _ => ⟨rfl, hh_287⟩) (fun o1 hz9 => rm_86 v35 v37 h33 o1 (am_vR_s e36).2 (am_vR_s e38).2 hz9) ?_
              rcases am_cI_s hs19 with ⟨v40, h41, f42, hs20⟩ | hs20
              · clear hs19
                refine Or.inl ⟨_, _, f42, ?_⟩
                show am_W X _ 287 171 _ [(.int v40)] h41 _
                by_cases c43 : v40 = 0
                · rw [if_pos c43] at hs20
                  refine aw_ifeq_t at_287_171 c43 ?_
                  exact rg_287_176 x0 x3 x4 h41 o l0 l3 l4 i0 i3 i4 hs20
                · rw [if_neg c43] at hs20
                  refine aw_ifeq_f (pc1 := 174) at_287_171 c43 rfl ?_
                  refine aw_iconst (v := 1) (pc1 := 175) at_287_174 (by decide) rfl ?_
                  cases hs20
                  exact aw_iret at_287_175 (by rw [rt_287]; rfl) rfl
              · clear hs19
                exact Or.inr hs20
            · clear hs15
              exact Or.inr hs16
          · clear hs11
            exact Or.inr hs12
      · clear hs7
        exact Or.inr hs8
  · clear hs3
    exact Or.inr hs4
def fg_287_104 (N : Nat) (s0 : Int32) (h : am_H) : Option am_O := some (.inl (some (.int s0), h))
theorem rg_287_104 {X : am_X} {d : Nat} {N : Nat} {lv : am_LV} (s0 : Int32) (h : am_H) (o : am_O) (hs : fg_287_104 N s0 h = some o) : am_W X (d + 84) 287 104 lv [(.int s0)] h (fun q => q = o) := by
  unfold fg_287_104 at hs
  cases hs
  exact aw_iret at_287_104 (by rw [rt_287]; rfl) rfl
def fg_287_53 (N : Nat) (x0 : Value) (x3 : Value) (x4 : Value) (h : am_H) : Option am_O := ((am_vI (am_pG 769 x3 h)).bind fun v1 => (if ¬ v1 = 3 then (fg_287_105 N x0 x3 x4 h) else ((am_vI (am_pG 769 x4 h)).bind fun v4 => (if ¬ v4 = 3 then (fg_287_105 N x0 x3 x4 h) else ((am_vI (am_pG 770 x3 h)).bind fun v7 => ((am_vI (am_pG 770 x4 h)).bind fun v9 => (if ¬ v7 = v9 then (fg_287_105 N x0 x3 x4 h) else ((am_vR (am_pG 2825 x0 h)).bind fun v12 => ((am_vR (am_pG 2830 x0 h)).bind fun v14 => (if am_pOk 10 v12 h then am_cI true (fm_290 N v12 x3 x4 v14 h) (fun v17 h18 => (if v17 = 0 then (fg_287_104 N 1 h18) else (fg_287_104 N 0 h18))) else none))))))))))
theorem rg_287_53 {X : am_X} {d : Nat} {N : Nat} {lv : am_LV} (x0 : Value) (x3 : Value) (x4 : Value) (h : am_H) (o : am_O) (l0 : lv.lookup 0 = some x0) (l3 : lv.lookup 3 = some x3) (l4 : lv.lookup 4 = some x4) (i0 : am_isR x0 = true) (i3 : am_isR x3 = true) (i4 : am_isR x4 = true) (hs : fg_287_53 N x0 x3 x4 h = some o) : am_W X (d + 84) 287 53 lv [] h (fun q => q = o) := by
  unfold fg_287_53 at hs
  refine aw_vload_n (pc1 := 54) at_287_53 l3 i3 rfl ?_
  obtain ⟨v1, e2, hs1⟩ := am_bind hs
  clear hs
  refine aw_pG (pc1 := 57) at_287_54 (am_vI_s e2) rfl ?_
  refine aw_iconst (v := 3) (pc1 := 58) at_287_57 (by decide) rfl ?_
  by_cases c3 : ¬ v1 = 3
  · rw [if_pos c3] at hs1
    refine aw_icne_t at_287_58 c3 ?_
    exact rg_287_105 x0 x3 x4 h o l0 l3 l4 i0 i3 i4 hs1
  · rw [if_neg c3] at hs1
    refine aw_icne_f (pc1 := 61) at_287_58 c3 rfl ?_
    refine aw_vload (pc1 := 63) at_287_61 l4 i4 rfl ?_
    obtain ⟨v4, e5, hs2⟩ := am_bind hs1
    clear hs1
    refine aw_pG (pc1 := 66) at_287_63 (am_vI_s e5) rfl ?_
    refine aw_iconst (v := 3) (pc1 := 67) at_287_66 (by decide) rfl ?_
    by_cases c6 : ¬ v4 = 3
    · rw [if_pos c6] at hs2
      refine aw_icne_t at_287_67 c6 ?_
      exact rg_287_105 x0 x3 x4 h o l0 l3 l4 i0 i3 i4 hs2
    · rw [if_neg c6] at hs2
      refine aw_icne_f (pc1 := 70) at_287_67 c6 rfl ?_
      refine aw_vload_n (pc1 := 71) at_287_70 l3 i3 rfl ?_
      obtain ⟨v7, e8, hs3⟩ := am_bind hs2
      clear hs2
      refine aw_pG (pc1 := 74) at_287_71 (am_vI_s e8) rfl ?_
      refine aw_vload (pc1 := 76) at_287_74 l4 i4 rfl ?_
      obtain ⟨v9, e10, hs4⟩ := am_bind hs3
      clear hs3
      refine aw_pG (pc1 := 79) at_287_76 (am_vI_s e10) rfl ?_
      by_cases c11 : ¬ v7 = v9
      · rw [if_pos c11] at hs4
        refine aw_icne_t at_287_79 c11 ?_
        exact rg_287_105 x0 x3 x4 h o l0 l3 l4 i0 i3 i4 hs4
      · rw [if_neg c11] at hs4
        refine aw_icne_f (pc1 := 82) at_287_79 c11 rfl ?_
        refine aw_vload_n (pc1 := 83) at_287_82 l0 i0 rfl ?_
        obtain ⟨v12, e13, hs5⟩ := am_bind hs4
        clear hs4
        refine aw_pG (pc1 := 86) at_287_83 (am_vR_s e13).1 rfl ?_
        refine aw_vload_n (pc1 := 87) at_287_86 l3 i3 rfl ?_
        refine aw_vload (pc1 := 89) at_287_87 l4 i4 rfl ?_
        refine aw_vload_n (pc1 := 90) at_287_89 l0 i0 rfl ?_
        obtain ⟨v14, e15, hs6⟩ := am_bind hs5
        clear hs5
        refine aw_pG (pc1 := 93) at_287_90 (am_vR_s e15).1 rfl ?_
        obtain ⟨z16, hs7⟩ := am_ift hs6
        clear hs6
        refine aw_call (F := fm_290 N v12 x3 x4 v14 h) (t := true) (na := 4) (kd := 1) (as := [v12, x3, x4, v14]) at_287_93 (am_k3v kb_290) mn_290 mk_290 rfl rfl (am_ok_v mi_290 (am_hl rfl (am_ccR (am_vR_s e13).2 (am_ccR i3 (am_ccR i4 (am_ccR (am_vR_s e15).2 am_cats_0)))) rfl) z16) (am_hc am_cats_0 rfl) (fun _ => ⟨rfl, hh_287⟩) (fun o1 hz9 => rm_290 v12 x3 x4 v14 h o1 (am_vR_s e13).2 i3 i4 (am_vR_s e15).2 hz9) ?_
        rcases am_cI_s hs7 with ⟨v17, h18, f19, hs8⟩ | hs8
        · clear hs7
          refine Or.inl ⟨_, _, f19, ?_⟩
          show am_W X _ 287 96 _ [(.int v17)] h18 _
          by_cases c20 : v17 = 0
          · rw [if_pos c20] at hs8
            refine aw_ifeq_t at_287_96 c20 ?_
            refine aw_iconst (v := 1) (pc1 := 104) at_287_103 (by decide) rfl ?_
            exact rg_287_104 1 h18 o   hs8
          · rw [if_neg c20] at hs8
            refine aw_ifeq_f (pc1 := 99) at_287_96 c20 rfl ?_
            refine aw_iconst (v := 0) (pc1 := 100) at_287_99 (by decide) rfl ?_
            refine aw_goto at_287_100 ?_
            exact rg_287_104 0 h18 o   hs8
        · clear hs7
          exact Or.inr hs8
def fg_287_52 (N : Nat) (s0 : Int32) (h : am_H) : Option am_O := some (.inl (some (.int s0), h))
theorem rg_287_52 {X : am_X} {d : Nat} {N : Nat} {lv : am_LV} (s0 : Int32) (h : am_H) (o : am_O) (hs : fg_287_52 N s0 h = some o) : am_W X (d + 84) 287 52 lv [(.int s0)] h (fun q => q = o) := by
  unfold fg_287_52 at hs
  cases hs
  exact aw_iret at_287_52 (by rw [rt_287]; rfl) rfl
def fg_287_0 (N : Nat) (x0 : Value) (x1 : Int32) (x2 : Int32) (h : am_H) : Option am_O := (if am_pOk 11 x0 h then am_cR true (fm_63 x0 x1 h) (fun v2 h3 => (if am_pOk 11 x0 h3 then am_cR true (fm_63 x0 x2 h3) (fun v6 h7 => ((am_vI (am_pG 769 v2 h7)).bind fun v9 => (if ¬ v9 = 2 then (fg_287_53 N x0 v2 v6 h7) else ((am_vI (am_pG 769 v6 h7)).bind fun v12 => (if ¬ v12 = 2 then (fg_287_53 N x0 v2 v6 h7) else ((am_vR (am_pG 2825 x0 h7)).bind fun v15 => ((am_vR (am_pG 2830 x0 h7)).bind fun v17 => (if am_pOk 10 v15 h7 then am_cI true (fm_288 N v15 v2 v6 v17 h7) (fun v20 h21 => (if v20 = 0 then (fg_287_52 N 1 h21) else (fg_287_52 N 0 h21))) else none)))))))) else none)) else none)
theorem rg_287_0 {X : am_X} {d : Nat} {N : Nat} {lv : am_LV} (x0 : Value) (x1 : Int32) (x2 : Int32) (h : am_H) (o : am_O) (l0 : lv.lookup 0 = some x0) (l1 : lv.lookup 1 = some (.int x1)) (l2 : lv.lookup 2 = some (.int x2)) (i0 : am_isR x0 = true) (hs : fg_287_0 N x0 x1 x2 h = some o) : am_W X (d + 84) 287 0 lv [] h (fun q => q = o) := by
  unfold fg_287_0 at hs
  refine aw_vload_n (pc1 := 1) at_287_0 l0 i0 rfl ?_
  refine aw_iload_n (pc1 := 2) at_287_1 l1 rfl ?_
  obtain ⟨z1, hs1⟩ := am_ift hs
  clear hs
  refine aw_call (F := fm_63 x0 x1 h) (t := true) (na := 2) (kd := 1) (as := [x0, (.int x1)]) at_287_2 (am_k3v kb_63) mn_63 mk_63 rfl rfl (am_ok_v mi_63 (am_hl rfl (am_ccR i0 (am_ccI am_cats_0)) rfl) z1) (am_hc am_cats_0 rfl) (fun _ => ⟨rfl, hh_287⟩) (fun o1 hz9 => rm_63 x0 x1 h o1 i0 hz9) ?_
  rcases am_cR_s hs1 with ⟨v2, h3, f4, iv2, hs2⟩ | hs2
  · clear hs1
    refine Or.inl ⟨_, _, f4, ?_⟩
    show am_W X _ 287 5 _ [v2] h3 _
    refine aw_vstore_n (lv1 := am_put1 _ 3 _) (pc1 := 6) at_287_5 iv2 rfl rfl ?_
    refine aw_vload_n (pc1 := 7) at_287_6 (am_lk1 l0 rfl rfl) i0 rfl ?_
    refine aw_iload_n (pc1 := 8) at_287_7 (am_lk1 l2 rfl rfl) rfl ?_
    obtain ⟨z5, hs3⟩ := am_ift hs2
    clear hs2
    refine aw_call (F := fm_63 x0 x2 h3) (t := true) (na := 2) (kd := 1) (as := [x0, (.int x2)]) at_287_8 (am_k3v kb_63) mn_63 mk_63 rfl rfl (am_ok_v mi_63 (am_hl rfl (am_ccR i0 (am_ccI am_cats_0)) rfl) z5) (am_hc am_cats_0 rfl) (fun _ => ⟨rfl, hh_287⟩) (fun o1 hz9 => rm_63 x0 x2 h3 o1 i0 hz9) ?_
    rcases am_cR_s hs3 with ⟨v6, h7, f8, iv6, hs4⟩ | hs4
    · clear hs3
      refine Or.inl ⟨_, _, f8, ?_⟩
      show am_W X _ 287 11 _ [v6] h7 _
      refine aw_vstore (lv1 := am_put1 _ 4 _) (pc1 := 13) at_287_11 iv6 rfl rfl ?_
      refine aw_vload_n (pc1 := 14) at_287_13 (am_lk1 am_lk0 rfl (by rw [am_isRc iv2]; rfl)) iv2 rfl ?_
      obtain ⟨v9, e10, hs5⟩ := am_bind hs4
      clear hs4
      refine aw_pG (pc1 := 17) at_287_14 (am_vI_s e10) rfl ?_
      refine aw_iconst (v := 2) (pc1 := 18) at_287_17 (by decide) rfl ?_
      by_cases c11 : ¬ v9 = 2
      · rw [if_pos c11] at hs5
        refine aw_icne_t at_287_18 c11 ?_
        exact rg_287_53 x0 v2 v6 h7 o (am_lk1 (am_lk1 l0 rfl rfl) rfl rfl) (am_lk1 am_lk0 rfl (by rw [am_isRc iv2]; rfl)) am_lk0 i0 iv2 iv6 hs5
      · rw [if_neg c11] at hs5
        refine aw_icne_f (pc1 := 21) at_287_18 c11 rfl ?_
        refine aw_vload (pc1 := 23) at_287_21 am_lk0 iv6 rfl ?_
        obtain ⟨v12, e13, hs6⟩ := am_bind hs5
        clear hs5
        refine aw_pG (pc1 := 26) at_287_23 (am_vI_s e13) rfl ?_
        refine aw_iconst (v := 2) (pc1 := 27) at_287_26 (by decide) rfl ?_
        by_cases c14 : ¬ v12 = 2
        · rw [if_pos c14] at hs6
          refine aw_icne_t at_287_27 c14 ?_
          exact rg_287_53 x0 v2 v6 h7 o (am_lk1 (am_lk1 l0 rfl rfl) rfl rfl) (am_lk1 am_lk0 rfl (by rw [am_isRc iv2]; rfl)) am_lk0 i0 iv2 iv6 hs6
        · rw [if_neg c14] at hs6
          refine aw_icne_f (pc1 := 30) at_287_27 c14 rfl ?_
          refine aw_vload_n (pc1 := 31) at_287_30 (am_lk1 (am_lk1 l0 rfl rfl) rfl rfl) i0 rfl ?_
          obtain ⟨v15, e16, hs7⟩ := am_bind hs6
          clear hs6
          refine aw_pG (pc1 := 34) at_287_31 (am_vR_s e16).1 rfl ?_
          refine aw_vload_n (pc1 := 35) at_287_34 (am_lk1 am_lk0 rfl (by rw [am_isRc iv2]; rfl)) iv2 rfl ?_
          refine aw_vload (pc1 := 37) at_287_35 am_lk0 iv6 rfl ?_
          refine aw_vload_n (pc1 := 38) at_287_37 (am_lk1 (am_lk1 l0 rfl rfl) rfl rfl) i0 rfl ?_
          obtain ⟨v17, e18, hs8⟩ := am_bind hs7
          clear hs7
          refine aw_pG (pc1 := 41) at_287_38 (am_vR_s e18).1 rfl ?_
          obtain ⟨z19, hs9⟩ := am_ift hs8
          clear hs8
          refine aw_call (F := fm_288 N v15 v2 v6 v17 h7) (t := true) (na := 4) (kd := 1) (as := [v15, v2, v6, v17]) at_287_41 (am_k3v kb_288) mn_288 mk_288 rfl rfl (am_ok_v mi_288 (am_hl rfl (am_ccR (am_vR_s e16).2 (am_ccR iv2 (am_ccR iv6 (am_ccR (am_vR_s e18).2 am_cats_0)))) rfl) z19) (am_hc am_cats_0 rfl) (fun _ => ⟨rfl, hh_287⟩) (fun o1 hz9 => rm_288 v15 v2 v6 v17 h7 o1 (am_vR_s e16).2 iv2 iv6 (am_vR_s e18).2 hz9) ?_
          rcases am_cI_s hs9 with ⟨v20, h21, f22, hs10⟩ | hs10
          · clear hs9
            refine Or.inl ⟨_, _, f22, ?_⟩
            show am_W X _ 287 44 _ [(.int v20)] h21 _
            by_cases c23 : v20 = 0
            · rw [if_pos c23] at hs10
              refine aw_ifeq_t at_287_44 c23 ?_
              refine aw_iconst (v := 1) (pc1 := 52) at_287_51 (by decide) rfl ?_
              exact rg_287_52 1 h21 o   hs10
            · rw [if_neg c23] at hs10
              refine aw_ifeq_f (pc1 := 47) at_287_44 c23 rfl ?_
              refine aw_iconst (v := 0) (pc1 := 48) at_287_47 (by decide) rfl ?_
              refine aw_goto at_287_48 ?_
              exact rg_287_52 0 h21 o   hs10
          · clear hs9
            exact Or.inr hs10
    · clear hs3
      exact Or.inr hs4
  · clear hs1
    exact Or.inr hs2
def fm_287 (N : Nat) (y0 : Value) (y1 : Int32) (y2 : Int32) (h : am_H) : Option am_O := fg_287_0 N y0 y1 y2 h
theorem rm_287 {X : am_X} {d : Nat} {N : Nat} (y0 : Value) (y1 : Int32) (y2 : Int32) (h : am_H) (o : am_O) (i0 : am_isR y0 = true) (hs : fm_287 N y0 y1 y2 h = some o) : am_W X (d + 84) 287 0 (am_args 0 [y0, .int y1, .int y2]) [] h (fun q => q = o) := by
  rw [am_args_R i0, am_args_I, am_args_I]
  exact rg_287_0 y0 y1 y2 h o rfl rfl rfl i0 hs
def fg_286_15 (N : Nat) (h : am_H) : Option am_O := some (.inl (some (.int 1), h))
theorem rg_286_15 {X : am_X} {d : Nat} {N : Nat} {lv : am_LV} (h : am_H) (o : am_O) (hs : fg_286_15 N h = some o) : am_W X (d + 85) 286 15 lv [] h (fun q => q = o) := by
  unfold fg_286_15 at hs
  refine aw_iconst (v := 1) (pc1 := 16) at_286_15 (by decide) rfl ?_
  cases hs
  exact aw_iret at_286_16 (by rw [rt_286]; rfl) rfl
def fg_286_0 (N : Nat) (x0 : Value) (x1 : Int32) (x2 : Int32) (x3 : Value) (h : am_H) : Option am_O := (if am_pOk 11 x0 h then (match fm_287 N x0 x1 x2 h with | some (.inl (some (.int v2), h3)) => ((am_pSL x3 0 (Int32.toInt64 v2) h3).bind fun h5 => some (.inl (some (.int 0), h5))) | some (.inr (2, h7)) => (fg_286_15 N h7) | _ => none) else none)
theorem rg_286_0 {X : am_X} {d : Nat} {N : Nat} {lv : am_LV} (x0 : Value) (x1 : Int32) (x2 : Int32) (x3 : Value) (h : am_H) (o : am_O) (l0 : lv.lookup 0 = some x0) (l1 : lv.lookup 1 = some (.int x1)) (l2 : lv.lookup 2 = some (.int x2)) (l3 : lv.lookup 3 = some x3) (i0 : am_isR x0 = true) (i3 : am_isR x3 = true) (hs : fg_286_0 N x0 x1 x2 x3 h = some o) : am_W X (d + 85) 286 0 lv [] h (fun q => q = o) := by
  unfold fg_286_0 at hs
  refine aw_vload_n (pc1 := 1) at_286_0 l3 i3 rfl ?_
  refine aw_iconst (v := 0) (pc1 := 2) at_286_1 (by decide) rfl ?_
  refine aw_vload_n (pc1 := 3) at_286_2 l0 i0 rfl ?_
  refine aw_iload_n (pc1 := 4) at_286_3 l1 rfl ?_
  refine aw_iload_n (pc1 := 5) at_286_4 l2 rfl ?_
  obtain ⟨z1, hs1⟩ := am_ift hs
  clear hs
  refine aw_callH (F := fm_287 N x0 x1 x2 h) (na := 3) (kd := 1) (as := [x0, (.int x1), (.int x2)]) at_286_5 (am_k3v kb_287) mn_287 mk_287 rfl rfl (am_ok_v mi_287 (am_hl rfl (am_ccR i0 (am_ccI (am_ccI am_cats_0))) rfl) z1) (am_hc (am_ccI (am_ccR i3 am_cats_0)) rfl) (fun o1 hz9 => rm_287 x0 x1 x2 h o1 i0 hz9) ?_
  split at hs1
  · rename_i v2 h3 f4
    refine Or.inl ⟨_, _, f4, ?_⟩
    show am_W X _ 286 8 _ [(.int v2), (.int 0), x3] h3 _
    refine aw_i2l (v := (Int32.toInt64 v2)) (pc1 := 9) at_286_8 rfl rfl ?_
    obtain ⟨h5, e6, hs2⟩ := am_bind hs1
    clear hs1
    refine aw_pSL (pc1 := 10) at_286_9 e6 rfl ?_
    refine aw_goto at_286_10 ?_
    refine aw_iconst (v := 0) (pc1 := 18) at_286_17 (by decide) rfl ?_
    cases hs2
    exact aw_iret at_286_18 (by rw [rt_286]; rfl) rfl
  · rename_i h7 f8
    refine Or.inr ⟨_, _, 15, 4, f8, rfl, hn_286, hd_286_5_2, ?_⟩
    exact rg_286_15 h7 o   hs1
  · cases hs1
def fm_286 (N : Nat) (y0 : Value) (y1 : Int32) (y2 : Int32) (y3 : Value) (h : am_H) : Option am_O := fg_286_0 N y0 y1 y2 y3 h
theorem rm_286 {X : am_X} {d : Nat} {N : Nat} (y0 : Value) (y1 : Int32) (y2 : Int32) (y3 : Value) (h : am_H) (o : am_O) (i0 : am_isR y0 = true) (i3 : am_isR y3 = true) (hs : fm_286 N y0 y1 y2 y3 h = some o) : am_W X (d + 85) 286 0 (am_args 0 [y0, .int y1, .int y2, y3]) [] h (fun q => q = o) := by
  rw [am_args_R i0, am_args_I, am_args_I, am_args_R i3]
  exact rg_286_0 y0 y1 y2 y3 h o rfl rfl rfl rfl i0 i3 hs
def fg_569_2 (N : Nat) : Nat → Value → Int32 → am_H → Option am_O
  | 0 => fun _ _ _ => none
  | K + 1 => fun x0 x1 h => (if 15 ≤ x1 then some (.inl (none, h)) else ((am_vR (am_pG 3195 x0 h)).bind fun v2 => ((am_pS 0 v2 x1 0 h).bind fun h4 => (fg_569_2 N K x0 ((x1 + 1)) h4))))
theorem rg_569_2 {X : am_X} {d : Nat} {N : Nat} : ∀ (K : Nat) (x0 : Value) (x1 : Int32) (h : am_H) (o : am_O), fg_569_2 N K x0 x1 h = some o → ∀ lv : am_LV, (lv.lookup 0 = some x0) → (lv.lookup 1 = some (.int x1)) → (am_isR x0 = true) → am_W X (d) 569 2 lv [] h (fun q => q = o) := by
  intro K
  induction K with
  | zero => intro x0 x1 h o hs; cases hs
  | succ K ih =>
    intro x0 x1 h o hs lv l0 l1 i0
    unfold fg_569_2 at hs
    refine aw_iload_n (pc1 := 3) at_569_2 l1 rfl ?_
    refine aw_bipush (v := 15) (pc1 := 5) at_569_3 (by decide) rfl ?_
    by_cases c1 : 15 ≤ x1
    · rw [if_pos c1] at hs
      refine aw_icge_t at_569_5 c1 ?_
      cases hs
      exact aw_vret at_569_21 rt_569 rfl
    · rw [if_neg c1] at hs
      refine aw_icge_f (pc1 := 8) at_569_5 c1 rfl ?_
      refine aw_vload_n (pc1 := 9) at_569_8 l0 i0 rfl ?_
      obtain ⟨v2, e3, hs1⟩ := am_bind hs
      clear hs
      refine aw_pG (pc1 := 12) at_569_9 (am_vR_s e3).1 rfl ?_
      refine aw_iload_n (pc1 := 13) at_569_12 l1 rfl ?_
      refine aw_iconst (v := 0) (pc1 := 14) at_569_13 (by decide) rfl ?_
      obtain ⟨h4, e5, hs2⟩ := am_bind hs1
      clear hs1
      refine aw_pS (pc1 := 15) at_569_14 (Or.inl ⟨rfl, rfl⟩) e5 rfl ?_
      refine aw_iinc (v := (x1 + 1)) (c := 1) (lv1 := am_put1 _ 1 _) (pc1 := 18) at_569_15 l1 (by decide) rfl rfl rfl ?_
      refine aw_goto at_569_18 ?_
      exact ih x0 ((x1 + 1)) h4 o hs2 _ (am_lk1 l0 rfl (by rw [am_isRc i0]; rfl)) am_lk0 i0
def fg_569_0 (N : Nat) (x0 : Value) (h : am_H) : Option am_O := (fg_569_2 N N x0 0 h)
theorem rg_569_0 {X : am_X} {d : Nat} {N : Nat} {lv : am_LV} (x0 : Value) (h : am_H) (o : am_O) (l0 : lv.lookup 0 = some x0) (i0 : am_isR x0 = true) (hs : fg_569_0 N x0 h = some o) : am_W X (d) 569 0 lv [] h (fun q => q = o) := by
  unfold fg_569_0 at hs
  refine aw_iconst (v := 0) (pc1 := 1) at_569_0 (by decide) rfl ?_
  refine aw_istore_n (lv1 := am_put1 _ 1 _) (pc1 := 2) at_569_1 rfl rfl ?_
  exact rg_569_2 N x0 0 h o hs _ (am_lk1 l0 rfl (by rw [am_isRc i0]; rfl)) am_lk0 i0
def fm_569 (N : Nat) (y0 : Value) (h : am_H) : Option am_O := fg_569_0 N y0 h
theorem rm_569 {X : am_X} {d : Nat} {N : Nat} (y0 : Value) (h : am_H) (o : am_O) (i0 : am_isR y0 = true) (hs : fm_569 N y0 h = some o) : am_W X (d) 569 0 (am_args 0 [y0]) [] h (fun q => q = o) := by
  rw [am_args_R i0]
  exact rg_569_0 y0 h o rfl i0 hs
def fg_568_86 (N : Nat) (h : am_H) : Option am_O := some (.inl (none, h))
theorem rg_568_86 {X : am_X} {d : Nat} {N : Nat} {lv : am_LV} (h : am_H) (o : am_O) (hs : fg_568_86 N h = some o) : am_W X (d + 1) 568 86 lv [] h (fun q => q = o) := by
  unfold fg_568_86 at hs
  cases hs
  exact aw_vret at_568_86 rt_568 rfl
def fg_568_51 (N : Nat) : Nat → Value → Int32 → Int32 → am_H → Option am_O
  | 0 => fun _ _ _ _ => none
  | K + 1 => fun x0 x2 x3 h => (if x2 ≤ x3 then (fg_568_86 N h) else (if 11 ≤ x3 then (fg_568_86 N h) else ((am_vR (am_pG 3195 x0 h)).bind fun v3 => ((am_vR (am_pG 3200 x0 h)).bind fun v5 => ((am_pA 0 v5 ((x2 - 1) - x3) h).bind fun v7 => ((am_pS 0 v3 (4 + x3) v7 h).bind fun h9 => (fg_568_51 N K x0 x2 ((x3 + 1)) h9)))))))
theorem rg_568_51 {X : am_X} {d : Nat} {N : Nat} : ∀ (K : Nat) (x0 : Value) (x2 : Int32) (x3 : Int32) (h : am_H) (o : am_O), fg_568_51 N K x0 x2 x3 h = some o → ∀ lv : am_LV, (lv.lookup 0 = some x0) → (lv.lookup 2 = some (.int x2)) → (lv.lookup 3 = some (.int x3)) → (am_isR x0 = true) → am_W X (d + 1) 568 51 lv [] h (fun q => q = o) := by
  intro K
  induction K with
  | zero => intro x0 x2 x3 h o hs; cases hs
  | succ K ih =>
    intro x0 x2 x3 h o hs lv l0 l2 l3 i0
    unfold fg_568_51 at hs
    refine aw_iload_n (pc1 := 52) at_568_51 l3 rfl ?_
    refine aw_iload_n (pc1 := 53) at_568_52 l2 rfl ?_
    by_cases c1 : x2 ≤ x3
    · rw [if_pos c1] at hs
      refine aw_icge_t at_568_53 c1 ?_
      exact rg_568_86 h o   hs
    · rw [if_neg c1] at hs
      refine aw_icge_f (pc1 := 56) at_568_53 c1 rfl ?_
      refine aw_iload_n (pc1 := 57) at_568_56 l3 rfl ?_
      refine aw_bipush (v := 11) (pc1 := 59) at_568_57 (by decide) rfl ?_
      by_cases c2 : 11 ≤ x3
      · rw [if_pos c2] at hs
        refine aw_icge_t at_568_59 c2 ?_
        exact rg_568_86 h o   hs
      · rw [if_neg c2] at hs
        refine aw_icge_f (pc1 := 62) at_568_59 c2 rfl ?_
        refine aw_vload_n (pc1 := 63) at_568_62 l0 i0 rfl ?_
        obtain ⟨v3, e4, hs1⟩ := am_bind hs
        clear hs
        refine aw_pG (pc1 := 66) at_568_63 (am_vR_s e4).1 rfl ?_
        refine aw_iconst (v := 4) (pc1 := 67) at_568_66 (by decide) rfl ?_
        refine aw_iload_n (pc1 := 68) at_568_67 l3 rfl ?_
        refine aw_iadd (v := (4 + x3)) (pc1 := 69) at_568_68 rfl rfl ?_
        refine aw_vload_n (pc1 := 70) at_568_69 l0 i0 rfl ?_
        obtain ⟨v5, e6, hs2⟩ := am_bind hs1
        clear hs1
        refine aw_pG (pc1 := 73) at_568_70 (am_vR_s e6).1 rfl ?_
        refine aw_iload_n (pc1 := 74) at_568_73 l2 rfl ?_
        refine aw_iconst (v := 1) (pc1 := 75) at_568_74 (by decide) rfl ?_
        refine aw_isub (v := (x2 - 1)) (pc1 := 76) at_568_75 rfl rfl ?_
        refine aw_iload_n (pc1 := 77) at_568_76 l3 rfl ?_
        refine aw_isub (v := ((x2 - 1) - x3)) (pc1 := 78) at_568_77 rfl rfl ?_
        obtain ⟨v7, e8, hs3⟩ := am_bind hs2
        clear hs2
        refine aw_pA (pc1 := 79) at_568_78 (Or.inl ⟨rfl, rfl⟩) e8 rfl ?_
        obtain ⟨h9, e10, hs4⟩ := am_bind hs3
        clear hs3
        refine aw_pS (pc1 := 80) at_568_79 (Or.inl ⟨rfl, rfl⟩) e10 rfl ?_
        refine aw_iinc (v := (x3 + 1)) (c := 1) (lv1 := am_put1 _ 3 _) (pc1 := 83) at_568_80 l3 (by decide) rfl rfl rfl ?_
        refine aw_goto at_568_83 ?_
        exact ih x0 x2 ((x3 + 1)) h9 o hs4 _ (am_lk1 l0 rfl rfl) (am_lk1 l2 rfl rfl) am_lk0 i0
def fg_568_8 (N : Nat) : Nat → Value → Int32 → Int32 → am_H → Option am_O
  | 0 => fun _ _ _ _ => none
  | K + 1 => fun x0 x2 x3 h => ((am_vR (am_pG 3196 x0 h)).bind fun v1 => ((am_pA 0 v1 x3 h).bind fun v3 => (if v3 < 0 then ((am_vR (am_pG 3195 x0 h)).bind fun v6 => ((am_pS 0 v6 3 x2 h).bind fun h8 => (fg_568_51 N N x0 x2 0 h8))) else ((am_vR (am_pG 3200 x0 h)).bind fun v10 => ((am_vR (am_pG 3197 x0 h)).bind fun v12 => ((am_pA 0 v12 x3 h).bind fun v14 => ((am_pS 0 v10 x2 v14 h).bind fun h16 => ((am_vR (am_pG 3196 x0 h16)).bind fun v18 => ((am_pA 0 v18 x3 h16).bind fun v20 => (fg_568_8 N K x0 ((x2 + 1)) v20 h16))))))))))
theorem rg_568_8 {X : am_X} {d : Nat} {N : Nat} : ∀ (K : Nat) (x0 : Value) (x2 : Int32) (x3 : Int32) (h : am_H) (o : am_O), fg_568_8 N K x0 x2 x3 h = some o → ∀ lv : am_LV, (lv.lookup 0 = some x0) → (lv.lookup 2 = some (.int x2)) → (lv.lookup 3 = some (.int x3)) → (am_isR x0 = true) → am_W X (d + 1) 568 8 lv [] h (fun q => q = o) := by
  intro K
  induction K with
  | zero => intro x0 x2 x3 h o hs; cases hs
  | succ K ih =>
    intro x0 x2 x3 h o hs lv l0 l2 l3 i0
    unfold fg_568_8 at hs
    refine aw_vload_n (pc1 := 9) at_568_8 l0 i0 rfl ?_
    obtain ⟨v1, e2, hs1⟩ := am_bind hs
    clear hs
    refine aw_pG (pc1 := 12) at_568_9 (am_vR_s e2).1 rfl ?_
    refine aw_iload_n (pc1 := 13) at_568_12 l3 rfl ?_
    obtain ⟨v3, e4, hs2⟩ := am_bind hs1
    clear hs1
    refine aw_pA (pc1 := 14) at_568_13 (Or.inl ⟨rfl, rfl⟩) e4 rfl ?_
    by_cases c5 : v3 < 0
    · rw [if_pos c5] at hs2
      refine aw_iflt_t at_568_14 c5 ?_
      refine aw_vload_n (pc1 := 43) at_568_42 l0 i0 rfl ?_
      obtain ⟨v6, e7, hs3⟩ := am_bind hs2
      clear hs2
      refine aw_pG (pc1 := 46) at_568_43 (am_vR_s e7).1 rfl ?_
      refine aw_iconst (v := 3) (pc1 := 47) at_568_46 (by decide) rfl ?_
      refine aw_iload_n (pc1 := 48) at_568_47 l2 rfl ?_
      obtain ⟨h8, e9, hs4⟩ := am_bind hs3
      clear hs3
      refine aw_pS (pc1 := 49) at_568_48 (Or.inl ⟨rfl, rfl⟩) e9 rfl ?_
      refine aw_iconst (v := 0) (pc1 := 50) at_568_49 (by decide) rfl ?_
      refine aw_istore_n (lv1 := am_put1 _ 3 _) (pc1 := 51) at_568_50 rfl rfl ?_
      exact rg_568_51 N x0 x2 0 h8 o hs4 _ (am_lk1 l0 rfl rfl) (am_lk1 l2 rfl rfl) am_lk0 i0
    · rw [if_neg c5] at hs2
      refine aw_iflt_f (pc1 := 17) at_568_14 c5 rfl ?_
      refine aw_vload_n (pc1 := 18) at_568_17 l0 i0 rfl ?_
      obtain ⟨v10, e11, hs5⟩ := am_bind hs2
      clear hs2
      refine aw_pG (pc1 := 21) at_568_18 (am_vR_s e11).1 rfl ?_
      refine aw_iload_n (pc1 := 22) at_568_21 l2 rfl ?_
      refine aw_vload_n (pc1 := 23) at_568_22 l0 i0 rfl ?_
      obtain ⟨v12, e13, hs6⟩ := am_bind hs5
      clear hs5
      refine aw_pG (pc1 := 26) at_568_23 (am_vR_s e13).1 rfl ?_
      refine aw_iload_n (pc1 := 27) at_568_26 l3 rfl ?_
      obtain ⟨v14, e15, hs7⟩ := am_bind hs6
      clear hs6
      refine aw_pA (pc1 := 28) at_568_27 (Or.inl ⟨rfl, rfl⟩) e15 rfl ?_
      obtain ⟨h16, e17, hs8⟩ := am_bind hs7
      clear hs7
      refine aw_pS (pc1 := 29) at_568_28 (Or.inl ⟨rfl, rfl⟩) e17 rfl ?_
      refine aw_iinc (v := (x2 + 1)) (c := 1) (lv1 := am_put1 _ 2 _) (pc1 := 32) at_568_29 l2 (by decide) rfl rfl rfl ?_
      refine aw_vload_n (pc1 := 33) at_568_32 (am_lk1 l0 rfl rfl) i0 rfl ?_
      obtain ⟨v18, e19, hs9⟩ := am_bind hs8
      clear hs8
      refine aw_pG (pc1 := 36) at_568_33 (am_vR_s e19).1 rfl ?_
      refine aw_iload_n (pc1 := 37) at_568_36 (am_lk1 l3 rfl rfl) rfl ?_
      obtain ⟨v20, e21, hs10⟩ := am_bind hs9
      clear hs9
      refine aw_pA (pc1 := 38) at_568_37 (Or.inl ⟨rfl, rfl⟩) e21 rfl ?_
      refine aw_istore_n (lv1 := am_put1 _ 3 _) (pc1 := 39) at_568_38 rfl rfl ?_
      refine aw_goto at_568_39 ?_
      exact ih x0 ((x2 + 1)) v20 h16 o hs10 _ (am_lk1 (am_lk1 l0 rfl rfl) rfl rfl) (am_lk1 am_lk0 rfl rfl) am_lk0 i0
def fg_568_0 (N : Nat) (x0 : Value) (x1 : Int32) (h : am_H) : Option am_O := (if am_pOk 12 x0 h then am_cV true (fm_569 N x0 h) (fun h3 => (fg_568_8 N N x0 0 x1 h3)) else none)
theorem rg_568_0 {X : am_X} {d : Nat} {N : Nat} {lv : am_LV} (x0 : Value) (x1 : Int32) (h : am_H) (o : am_O) (l0 : lv.lookup 0 = some x0) (l1 : lv.lookup 1 = some (.int x1)) (i0 : am_isR x0 = true) (hs : fg_568_0 N x0 x1 h = some o) : am_W X (d + 1) 568 0 lv [] h (fun q => q = o) := by
  unfold fg_568_0 at hs
  refine aw_vload_n (pc1 := 1) at_568_0 l0 i0 rfl ?_
  obtain ⟨z1, hs1⟩ := am_ift hs
  clear hs
  refine aw_call (F := fm_569 N x0 h) (t := true) (na := 1) (kd := 1) (as := [x0]) at_568_1 (am_k3v kb_569) mn_569 mk_569 rfl rfl (am_ok_v mi_569 (am_hl rfl (am_ccR i0 am_cats_0) rfl) z1) (am_hc am_cats_0 rfl) (fun _ => ⟨rfl, hh_568⟩) (fun o1 hz9 => rm_569 x0 h o1 i0 hz9) ?_
  rcases am_cV_s hs1 with ⟨h3, f4, hs2⟩ | hs2
  · clear hs1
    refine Or.inl ⟨_, _, f4, ?_⟩
    show am_W X _ 568 4 _ [] h3 _
    refine aw_iconst (v := 0) (pc1 := 5) at_568_4 (by decide) rfl ?_
    refine aw_istore_n (lv1 := am_put1 _ 2 _) (pc1 := 6) at_568_5 rfl rfl ?_
    refine aw_iload_n (pc1 := 7) at_568_6 (am_lk1 l1 rfl rfl) rfl ?_
    refine aw_istore_n (lv1 := am_put1 _ 3 _) (pc1 := 8) at_568_7 rfl rfl ?_
    exact rg_568_8 N x0 0 x1 h3 o hs2 _ (am_lk1 (am_lk1 l0 rfl rfl) rfl rfl) (am_lk1 am_lk0 rfl rfl) am_lk0 i0
  · clear hs1
    exact Or.inr hs2
def fm_568 (N : Nat) (y0 : Value) (y1 : Int32) (h : am_H) : Option am_O := fg_568_0 N y0 y1 h
theorem rm_568 {X : am_X} {d : Nat} {N : Nat} (y0 : Value) (y1 : Int32) (h : am_H) (o : am_O) (i0 : am_isR y0 = true) (hs : fm_568 N y0 y1 h = some o) : am_W X (d + 1) 568 0 (am_args 0 [y0, .int y1]) [] h (fun q => q = o) := by
  rw [am_args_R i0, am_args_I]
  exact rg_568_0 y0 y1 h o rfl rfl i0 hs
def fg_567_181 (N : Nat) (rec_46 : Value → Int32 → Int32 → am_H → Option am_O) (rec_92 : Value → Int32 → Int32 → Int32 → Int32 → am_H → Option am_O) (x0 : Value) (x1 : Int32) (x2 : Int32) (x3 : Int32) (x4 : Int32) (h : am_H) : Option am_O := (rec_92 x0 x1 x2 x3 ((x4 + 1)) h)
theorem rg_567_181 {X : am_X} {d : Nat} {N : Nat} {rec_46 : Value → Int32 → Int32 → am_H → Option am_O} {rec_92 : Value → Int32 → Int32 → Int32 → Int32 → am_H → Option am_O} (q_46 : ∀ (x0 : Value) (x1 : Int32) (x2 : Int32) (h : am_H) (o : am_O), rec_46 x0 x1 x2 h = some o → ∀ lv : am_LV, (lv.lookup 0 = some x0) → (lv.lookup 1 = some (.int x1)) → (lv.lookup 2 = some (.int x2)) → (am_isR x0 = true) → am_W X (d + 2) 567 46 lv [] h (fun q => q = o)) (q_92 : ∀ (x0 : Value) (x1 : Int32) (x2 : Int32) (x3 : Int32) (x4 : Int32) (h : am_H) (o : am_O), rec_92 x0 x1 x2 x3 x4 h = some o → ∀ lv : am_LV, (lv.lookup 0 = some x0) → (lv.lookup 1 = some (.int x1)) → (lv.lookup 2 = some (.int x2)) → (lv.lookup 3 = some (.int x3)) → (lv.lookup 4 = some (.int x4)) → (am_isR x0 = true) → am_W X (d + 2) 567 92 lv [] h (fun q => q = o)) {lv : am_LV} (x0 : Value) (x1 : Int32) (x2 : Int32) (x3 : Int32) (x4 : Int32) (h : am_H) (o : am_O) (l0 : lv.lookup 0 = some x0) (l1 : lv.lookup 1 = some (.int x1)) (l2 : lv.lookup 2 = some (.int x2)) (l3 : lv.lookup 3 = some (.int x3)) (l4 : lv.lookup 4 = some (.int x4)) (i0 : am_isR x0 = true) (hs : fg_567_181 N rec_46 rec_92 x0 x1 x2 x3 x4 h = some o) : am_W X (d + 2) 567 181 lv [] h (fun q => q = o) := by
  unfold fg_567_181 at hs
  refine aw_iinc (v := (x4 + 1)) (c := 1) (lv1 := am_put1 _ 4 _) (pc1 := 184) at_567_181 l4 (by decide) rfl rfl rfl ?_
  refine aw_goto at_567_184 ?_
  exact q_92 x0 x1 x2 x3 ((x4 + 1)) h o hs _ (am_lk1 l0 rfl rfl) (am_lk1 l1 rfl rfl) (am_lk1 l2 rfl rfl) (am_lk1 l3 rfl rfl) am_lk0 i0
def fg_567_92 (N : Nat) (rec_46 : Value → Int32 → Int32 → am_H → Option am_O) : Nat → Value → Int32 → Int32 → Int32 → Int32 → am_H → Option am_O
  | 0 => fun _ _ _ _ _ _ => none
  | K + 1 => fun x0 x1 x2 x3 x4 h => (if 4 ≤ x4 then (rec_46 x0 x1 x2 h) else ((am_vR (am_pG 3094 x0 h)).bind fun v2 => ((am_pA 0 v2 (x3 / 6) h).bind fun v4 => am_cI false (fm_367 v4 x4 h) (fun v6 h7 => ((am_vR (am_pG 3097 x0 h7)).bind fun v9 => ((am_pA 0 v9 (x3 - x3 / 6 * 6) h7).bind fun v11 => am_cI false (fm_367 v11 x4 h7) (fun v13 h14 => ((am_vR (am_pG 3198 x0 h14)).bind fun v16 => ((am_pA 2 v16 ((6 * v6) + v13) h14).bind fun v18 => (if v18 = 0 then ((am_vR (am_pG 3198 x0 h14)).bind fun v21 => ((am_pS 2 v21 ((6 * v6) + v13) 1 h14).bind fun h23 => ((am_vR (am_pG 3196 x0 h23)).bind fun v25 => ((am_pS 0 v25 ((6 * v6) + v13) x3 h23).bind fun h27 => ((am_vR (am_pG 3197 x0 h27)).bind fun v29 => ((am_pS 0 v29 ((6 * v6) + v13) x4 h27).bind fun h31 => ((am_vR (am_pG 3199 x0 h31)).bind fun v33 => ((am_pS 0 v33 x2 ((6 * v6) + v13) h31).bind fun h35 => (fg_567_181 N rec_46 (fg_567_92 N rec_46 K) x0 x1 ((x2 + 1)) x3 x4 h35))))))))) else (fg_567_181 N rec_46 (fg_567_92 N rec_46 K) x0 x1 x2 x3 x4 h14)))))))))))
theorem rg_567_92 {X : am_X} {d : Nat} {N : Nat} {rec_46 : Value → Int32 → Int32 → am_H → Option am_O} (q_46 : ∀ (x0 : Value) (x1 : Int32) (x2 : Int32) (h : am_H) (o : am_O), rec_46 x0 x1 x2 h = some o → ∀ lv : am_LV, (lv.lookup 0 = some x0) → (lv.lookup 1 = some (.int x1)) → (lv.lookup 2 = some (.int x2)) → (am_isR x0 = true) → am_W X (d + 2) 567 46 lv [] h (fun q => q = o)) : ∀ (K : Nat) (x0 : Value) (x1 : Int32) (x2 : Int32) (x3 : Int32) (x4 : Int32) (h : am_H) (o : am_O), fg_567_92 N rec_46 K x0 x1 x2 x3 x4 h = some o → ∀ lv : am_LV, (lv.lookup 0 = some x0) → (lv.lookup 1 = some (.int x1)) → (lv.lookup 2 = some (.int x2)) → (lv.lookup 3 = some (.int x3)) → (lv.lookup 4 = some (.int x4)) → (am_isR x0 = true) → am_W X (d + 2) 567 92 lv [] h (fun q => q = o) := by
  intro K
  induction K with
  | zero => intro x0 x1 x2 x3 x4 h o hs; cases hs
  | succ K ih =>
    intro x0 x1 x2 x3 x4 h o hs lv l0 l1 l2 l3 l4 i0
    unfold fg_567_92 at hs
    refine aw_iload (pc1 := 94) at_567_92 l4 rfl ?_
    refine aw_iconst (v := 4) (pc1 := 95) at_567_94 (by decide) rfl ?_
    by_cases c1 : 4 ≤ x4
    · rw [if_pos c1] at hs
      refine aw_icge_t at_567_95 c1 ?_
      refine aw_goto at_567_187 ?_
      exact q_46 x0 x1 x2 h o hs _ l0 l1 l2 i0
    · rw [if_neg c1] at hs
      refine aw_icge_f (pc1 := 98) at_567_95 c1 rfl ?_
      refine aw_bipush (v := 6) (pc1 := 100) at_567_98 (by decide) rfl ?_
      refine aw_vload_n (pc1 := 101) at_567_100 l0 i0 rfl ?_
      obtain ⟨v2, e3, hs1⟩ := am_bind hs
      clear hs
      refine aw_pG (pc1 := 104) at_567_101 (am_vR_s e3).1 rfl ?_
      refine aw_iload_n (pc1 := 105) at_567_104 l3 rfl ?_
      refine aw_bipush (v := 6) (pc1 := 107) at_567_105 (by decide) rfl ?_
      refine aw_idiv (v := (x3 / 6)) (pc1 := 108) at_567_107 (by decide) rfl rfl ?_
      obtain ⟨v4, e5, hs2⟩ := am_bind hs1
      clear hs1
      refine aw_pA (pc1 := 109) at_567_108 (Or.inl ⟨rfl, rfl⟩) e5 rfl ?_
      refine aw_iload (pc1 := 111) at_567_109 l4 rfl ?_
      refine aw_call (F := fm_367 v4 x4 h) (t := false) (na := 2) (kd := 0) (as := [(.int v4), (.int x4)]) at_567_111 (am_k3s kb_367) mn_367 mk_367 rfl rfl (am_ok_s mi_367 (am_hl rfl (am_ccI (am_ccI am_cats_0)) rfl)) (am_hc (am_ccI am_cats_0) rfl) (fun hz9 => by cases hz9) (fun o1 hz9 => rm_367 v4 x4 h o1  hz9) ?_
      rcases am_cI_s hs2 with ⟨v6, h7, f8, hs3⟩ | hs3
      · clear hs2
        refine Or.inl ⟨_, _, f8, ?_⟩
        show am_W X _ 567 114 _ [(.int v6), (.int 6)] h7 _
        refine aw_imul (v := (6 * v6)) (pc1 := 115) at_567_114 rfl rfl ?_
        refine aw_vload_n (pc1 := 116) at_567_115 l0 i0 rfl ?_
        obtain ⟨v9, e10, hs4⟩ := am_bind hs3
        clear hs3
        refine aw_pG (pc1 := 119) at_567_116 (am_vR_s e10).1 rfl ?_
        refine aw_iload_n (pc1 := 120) at_567_119 l3 rfl ?_
        refine aw_bipush (v := 6) (pc1 := 122) at_567_120 (by decide) rfl ?_
        refine aw_irem (v := (x3 - x3 / 6 * 6)) (pc1 := 123) at_567_122 (by decide) rfl rfl ?_
        obtain ⟨v11, e12, hs5⟩ := am_bind hs4
        clear hs4
        refine aw_pA (pc1 := 124) at_567_123 (Or.inl ⟨rfl, rfl⟩) e12 rfl ?_
        refine aw_iload (pc1 := 126) at_567_124 l4 rfl ?_
        refine aw_call (F := fm_367 v11 x4 h7) (t := false) (na := 2) (kd := 0) (as := [(.int v11), (.int x4)]) at_567_126 (am_k3s kb_367) mn_367 mk_367 rfl rfl (am_ok_s mi_367 (am_hl rfl (am_ccI (am_ccI am_cats_0)) rfl)) (am_hc (am_ccI am_cats_0) rfl) (fun hz9 => by cases hz9) (fun o1 hz9 => rm_367 v11 x4 h7 o1  hz9) ?_
        rcases am_cI_s hs5 with ⟨v13, h14, f15, hs6⟩ | hs6
        · clear hs5
          refine Or.inl ⟨_, _, f15, ?_⟩
          show am_W X _ 567 129 _ [(.int v13), (.int (6 * v6))] h14 _
          refine aw_iadd (v := ((6 * v6) + v13)) (pc1 := 130) at_567_129 rfl rfl ?_
          refine aw_istore (lv1 := am_put1 _ 5 _) (pc1 := 132) at_567_130 rfl rfl ?_
          refine aw_vload_n (pc1 := 133) at_567_132 (am_lk1 l0 rfl rfl) i0 rfl ?_
          obtain ⟨v16, e17, hs7⟩ := am_bind hs6
          clear hs6
          refine aw_pG (pc1 := 136) at_567_133 (am_vR_s e17).1 rfl ?_
          refine aw_iload (pc1 := 138) at_567_136 am_lk0 rfl ?_
          obtain ⟨v18, e19, hs8⟩ := am_bind hs7
          clear hs7
          refine aw_pA (pc1 := 139) at_567_138 (Or.inr (Or.inl ⟨rfl, rfl⟩)) e19 rfl ?_
          by_cases c20 : v18 = 0
          · rw [if_pos c20] at hs8
            refine aw_ifeq_t at_567_139 c20 ?_
            refine aw_vload_n (pc1 := 146) at_567_145 (am_lk1 l0 rfl rfl) i0 rfl ?_
            obtain ⟨v21, e22, hs9⟩ := am_bind hs8
            clear hs8
            refine aw_pG (pc1 := 149) at_567_146 (am_vR_s e22).1 rfl ?_
            refine aw_iload (pc1 := 151) at_567_149 am_lk0 rfl ?_
            refine aw_iconst (v := 1) (pc1 := 152) at_567_151 (by decide) rfl ?_
            obtain ⟨h23, e24, hs10⟩ := am_bind hs9
            clear hs9
            refine aw_pS (pc1 := 153) at_567_152 (Or.inr (Or.inl ⟨rfl, rfl⟩)) e24 rfl ?_
            refine aw_vload_n (pc1 := 154) at_567_153 (am_lk1 l0 rfl rfl) i0 rfl ?_
            obtain ⟨v25, e26, hs11⟩ := am_bind hs10
            clear hs10
            refine aw_pG (pc1 := 157) at_567_154 (am_vR_s e26).1 rfl ?_
            refine aw_iload (pc1 := 159) at_567_157 am_lk0 rfl ?_
            refine aw_iload_n (pc1 := 160) at_567_159 (am_lk1 l3 rfl rfl) rfl ?_
            obtain ⟨h27, e28, hs12⟩ := am_bind hs11
            clear hs11
            refine aw_pS (pc1 := 161) at_567_160 (Or.inl ⟨rfl, rfl⟩) e28 rfl ?_
            refine aw_vload_n (pc1 := 162) at_567_161 (am_lk1 l0 rfl rfl) i0 rfl ?_
            obtain ⟨v29, e30, hs13⟩ := am_bind hs12
            clear hs12
            refine aw_pG (pc1 := 165) at_567_162 (am_vR_s e30).1 rfl ?_
            refine aw_iload (pc1 := 167) at_567_165 am_lk0 rfl ?_
            refine aw_iload (pc1 := 169) at_567_167 (am_lk1 l4 rfl rfl) rfl ?_
            obtain ⟨h31, e32, hs14⟩ := am_bind hs13
            clear hs13
            refine aw_pS (pc1 := 170) at_567_169 (Or.inl ⟨rfl, rfl⟩) e32 rfl ?_
            refine aw_vload_n (pc1 := 171) at_567_170 (am_lk1 l0 rfl rfl) i0 rfl ?_
            obtain ⟨v33, e34, hs15⟩ := am_bind hs14
            clear hs14
            refine aw_pG (pc1 := 174) at_567_171 (am_vR_s e34).1 rfl ?_
            refine aw_iload_n (pc1 := 175) at_567_174 (am_lk1 l2 rfl rfl) rfl ?_
            refine aw_iload (pc1 := 177) at_567_175 am_lk0 rfl ?_
            obtain ⟨h35, e36, hs16⟩ := am_bind hs15
            clear hs15
            refine aw_pS (pc1 := 178) at_567_177 (Or.inl ⟨rfl, rfl⟩) e36 rfl ?_
            refine aw_iinc (v := (x2 + 1)) (c := 1) (lv1 := am_put1 _ 2 _) (pc1 := 181) at_567_178 (am_lk1 l2 rfl rfl) (by decide) rfl rfl rfl ?_
            exact rg_567_181 q_46 (fun z0 z1 z2 z3 z4 h o hs16 => ih z0 z1 z2 z3 z4 h o hs16) x0 x1 ((x2 + 1)) x3 x4 h35 o (am_lk1 (am_lk1 l0 rfl rfl) rfl rfl) (am_lk1 (am_lk1 l1 rfl rfl) rfl rfl) am_lk0 (am_lk1 (am_lk1 l3 rfl rfl) rfl rfl) (am_lk1 (am_lk1 l4 rfl rfl) rfl rfl) i0 hs16
          · rw [if_neg c20] at hs8
            refine aw_ifeq_f (pc1 := 142) at_567_139 c20 rfl ?_
            refine aw_goto at_567_142 ?_
            exact rg_567_181 q_46 (fun z0 z1 z2 z3 z4 h o hs8 => ih z0 z1 z2 z3 z4 h o hs8) x0 x1 x2 x3 x4 h14 o (am_lk1 l0 rfl rfl) (am_lk1 l1 rfl rfl) (am_lk1 l2 rfl rfl) (am_lk1 l3 rfl rfl) (am_lk1 l4 rfl rfl) i0 hs8
        · clear hs5
          exact Or.inr hs6
      · clear hs2
        exact Or.inr hs3
def fg_567_46 (N : Nat) : Nat → Value → Int32 → Int32 → am_H → Option am_O
  | 0 => fun _ _ _ _ => none
  | K + 1 => fun x0 x1 x2 h => (if x2 ≤ x1 then some (.inl (some (.int 1), h)) else ((am_vR (am_pG 3199 x0 h)).bind fun v2 => ((am_pA 0 v2 x1 h).bind fun v4 => ((am_vR (am_pG 3093 x0 h)).bind fun v6 => ((am_pA 0 v6 (v4 / 6) h).bind fun v8 => ((am_vR (am_pG 3096 x0 h)).bind fun v10 => ((am_pA 0 v10 (v4 - v4 / 6 * 6) h).bind fun v12 => (if v8 = v12 then (fg_567_92 N (fg_567_46 N K) N x0 ((x1 + 1)) x2 v4 0 h) else (if am_pOk 12 x0 h then am_cV true (fm_568 N x0 v4 h) (fun h17 => some (.inl (some (.int 0), h17))) else none)))))))))
theorem rg_567_46 {X : am_X} {d : Nat} {N : Nat} : ∀ (K : Nat) (x0 : Value) (x1 : Int32) (x2 : Int32) (h : am_H) (o : am_O), fg_567_46 N K x0 x1 x2 h = some o → ∀ lv : am_LV, (lv.lookup 0 = some x0) → (lv.lookup 1 = some (.int x1)) → (lv.lookup 2 = some (.int x2)) → (am_isR x0 = true) → am_W X (d + 2) 567 46 lv [] h (fun q => q = o) := by
  intro K
  induction K with
  | zero => intro x0 x1 x2 h o hs; cases hs
  | succ K ih =>
    intro x0 x1 x2 h o hs lv l0 l1 l2 i0
    unfold fg_567_46 at hs
    refine aw_iload_n (pc1 := 47) at_567_46 l1 rfl ?_
    refine aw_iload_n (pc1 := 48) at_567_47 l2 rfl ?_
    by_cases c1 : x2 ≤ x1
    · rw [if_pos c1] at hs
      refine aw_icge_t at_567_48 c1 ?_
      refine aw_iconst (v := 1) (pc1 := 191) at_567_190 (by decide) rfl ?_
      cases hs
      exact aw_iret at_567_191 (by rw [rt_567]; rfl) rfl
    · rw [if_neg c1] at hs
      refine aw_icge_f (pc1 := 51) at_567_48 c1 rfl ?_
      refine aw_vload_n (pc1 := 52) at_567_51 l0 i0 rfl ?_
      obtain ⟨v2, e3, hs1⟩ := am_bind hs
      clear hs
      refine aw_pG (pc1 := 55) at_567_52 (am_vR_s e3).1 rfl ?_
      refine aw_iload_n (pc1 := 56) at_567_55 l1 rfl ?_
      obtain ⟨v4, e5, hs2⟩ := am_bind hs1
      clear hs1
      refine aw_pA (pc1 := 57) at_567_56 (Or.inl ⟨rfl, rfl⟩) e5 rfl ?_
      refine aw_istore_n (lv1 := am_put1 _ 3 _) (pc1 := 58) at_567_57 rfl rfl ?_
      refine aw_iinc (v := (x1 + 1)) (c := 1) (lv1 := am_put1 _ 1 _) (pc1 := 61) at_567_58 (am_lk1 l1 rfl rfl) (by decide) rfl rfl rfl ?_
      refine aw_vload_n (pc1 := 62) at_567_61 (am_lk1 (am_lk1 l0 rfl rfl) rfl (by rw [am_isRc i0]; rfl)) i0 rfl ?_
      obtain ⟨v6, e7, hs3⟩ := am_bind hs2
      clear hs2
      refine aw_pG (pc1 := 65) at_567_62 (am_vR_s e7).1 rfl ?_
      refine aw_iload_n (pc1 := 66) at_567_65 (am_lk1 am_lk0 rfl rfl) rfl ?_
      refine aw_bipush (v := 6) (pc1 := 68) at_567_66 (by decide) rfl ?_
      refine aw_idiv (v := (v4 / 6)) (pc1 := 69) at_567_68 (by decide) rfl rfl ?_
      obtain ⟨v8, e9, hs4⟩ := am_bind hs3
      clear hs3
      refine aw_pA (pc1 := 70) at_567_69 (Or.inl ⟨rfl, rfl⟩) e9 rfl ?_
      refine aw_vload_n (pc1 := 71) at_567_70 (am_lk1 (am_lk1 l0 rfl rfl) rfl (by rw [am_isRc i0]; rfl)) i0 rfl ?_
      obtain ⟨v10, e11, hs5⟩ := am_bind hs4
      clear hs4
      refine aw_pG (pc1 := 74) at_567_71 (am_vR_s e11).1 rfl ?_
      refine aw_iload_n (pc1 := 75) at_567_74 (am_lk1 am_lk0 rfl rfl) rfl ?_
      refine aw_bipush (v := 6) (pc1 := 77) at_567_75 (by decide) rfl ?_
      refine aw_irem (v := (v4 - v4 / 6 * 6)) (pc1 := 78) at_567_77 (by decide) rfl rfl ?_
      obtain ⟨v12, e13, hs6⟩ := am_bind hs5
      clear hs5
      refine aw_pA (pc1 := 79) at_567_78 (Or.inl ⟨rfl, rfl⟩) e13 rfl ?_
      by_cases c14 : v8 = v12
      · rw [if_pos c14] at hs6
        refine aw_iceq_t at_567_79 c14 ?_
        refine aw_iconst (v := 0) (pc1 := 90) at_567_89 (by decide) rfl ?_
        refine aw_istore (lv1 := am_put1 _ 4 _) (pc1 := 92) at_567_90 rfl rfl ?_
        exact rg_567_92 (fun z0 z1 z2 h o hs6 => ih z0 z1 z2 h o hs6) N x0 ((x1 + 1)) x2 v4 0 h o hs6 _ (am_lk1 (am_lk1 (am_lk1 l0 rfl rfl) rfl (by rw [am_isRc i0]; rfl)) rfl rfl) (am_lk1 am_lk0 rfl rfl) (am_lk1 (am_lk1 (am_lk1 l2 rfl rfl) rfl rfl) rfl rfl) (am_lk1 (am_lk1 am_lk0 rfl rfl) rfl rfl) am_lk0 i0
      · rw [if_neg c14] at hs6
        refine aw_iceq_f (pc1 := 82) at_567_79 c14 rfl ?_
        refine aw_vload_n (pc1 := 83) at_567_82 (am_lk1 (am_lk1 l0 rfl rfl) rfl (by rw [am_isRc i0]; rfl)) i0 rfl ?_
        refine aw_iload_n (pc1 := 84) at_567_83 (am_lk1 am_lk0 rfl rfl) rfl ?_
        obtain ⟨z15, hs7⟩ := am_ift hs6
        clear hs6
        refine aw_call (F := fm_568 N x0 v4 h) (t := true) (na := 2) (kd := 1) (as := [x0, (.int v4)]) at_567_84 (am_k3v kb_568) mn_568 mk_568 rfl rfl (am_ok_v mi_568 (am_hl rfl (am_ccR i0 (am_ccI am_cats_0)) rfl) z15) (am_hc am_cats_0 rfl) (fun _ => ⟨rfl, hh_567⟩) (fun o1 hz9 => rm_568 x0 v4 h o1 i0 hz9) ?_
        rcases am_cV_s hs7 with ⟨h17, f18, hs8⟩ | hs8
        · clear hs7
          refine Or.inl ⟨_, _, f18, ?_⟩
          show am_W X _ 567 87 _ [] h17 _
          refine aw_iconst (v := 0) (pc1 := 88) at_567_87 (by decide) rfl ?_
          cases hs8
          exact aw_iret at_567_88 (by rw [rt_567]; rfl) rfl
        · clear hs7
          exact Or.inr hs8
def fg_567_2 (N : Nat) : Nat → Value → Int32 → am_H → Option am_O
  | 0 => fun _ _ _ => none
  | K + 1 => fun x0 x1 h => (if 36 ≤ x1 then ((am_vR (am_pG 3199 x0 h)).bind fun v2 => ((am_pS 0 v2 0 0 h).bind fun h4 => ((am_vR (am_pG 3198 x0 h4)).bind fun v6 => ((am_pS 2 v6 0 1 h4).bind fun h8 => ((am_vR (am_pG 3196 x0 h8)).bind fun v10 => ((am_pS 0 v10 0 (-1) h8).bind fun h12 => (fg_567_46 N N x0 0 1 h12))))))) else ((am_vR (am_pG 3198 x0 h)).bind fun v14 => ((am_pS 2 v14 x1 0 h).bind fun h16 => (fg_567_2 N K x0 ((x1 + 1)) h16))))
theorem rg_567_2 {X : am_X} {d : Nat} {N : Nat} : ∀ (K : Nat) (x0 : Value) (x1 : Int32) (h : am_H) (o : am_O), fg_567_2 N K x0 x1 h = some o → ∀ lv : am_LV, (lv.lookup 0 = some x0) → (lv.lookup 1 = some (.int x1)) → (am_isR x0 = true) → am_W X (d + 2) 567 2 lv [] h (fun q => q = o) := by
  intro K
  induction K with
  | zero => intro x0 x1 h o hs; cases hs
  | succ K ih =>
    intro x0 x1 h o hs lv l0 l1 i0
    unfold fg_567_2 at hs
    refine aw_iload_n (pc1 := 3) at_567_2 l1 rfl ?_
    refine aw_bipush (v := 36) (pc1 := 5) at_567_3 (by decide) rfl ?_
    by_cases c1 : 36 ≤ x1
    · rw [if_pos c1] at hs
      refine aw_icge_t at_567_5 c1 ?_
      refine aw_iconst (v := 0) (pc1 := 22) at_567_21 (by decide) rfl ?_
      refine aw_istore_n (lv1 := am_put1 _ 1 _) (pc1 := 23) at_567_22 rfl rfl ?_
      refine aw_iconst (v := 1) (pc1 := 24) at_567_23 (by decide) rfl ?_
      refine aw_istore_n (lv1 := am_put1 _ 2 _) (pc1 := 25) at_567_24 rfl rfl ?_
      refine aw_vload_n (pc1 := 26) at_567_25 (am_lk1 (am_lk1 l0 rfl (by rw [am_isRc i0]; rfl)) rfl rfl) i0 rfl ?_
      obtain ⟨v2, e3, hs1⟩ := am_bind hs
      clear hs
      refine aw_pG (pc1 := 29) at_567_26 (am_vR_s e3).1 rfl ?_
      refine aw_iconst (v := 0) (pc1 := 30) at_567_29 (by decide) rfl ?_
      refine aw_iconst (v := 0) (pc1 := 31) at_567_30 (by decide) rfl ?_
      obtain ⟨h4, e5, hs2⟩ := am_bind hs1
      clear hs1
      refine aw_pS (pc1 := 32) at_567_31 (Or.inl ⟨rfl, rfl⟩) e5 rfl ?_
      refine aw_vload_n (pc1 := 33) at_567_32 (am_lk1 (am_lk1 l0 rfl (by rw [am_isRc i0]; rfl)) rfl rfl) i0 rfl ?_
      obtain ⟨v6, e7, hs3⟩ := am_bind hs2
      clear hs2
      refine aw_pG (pc1 := 36) at_567_33 (am_vR_s e7).1 rfl ?_
      refine aw_iconst (v := 0) (pc1 := 37) at_567_36 (by decide) rfl ?_
      refine aw_iconst (v := 1) (pc1 := 38) at_567_37 (by decide) rfl ?_
      obtain ⟨h8, e9, hs4⟩ := am_bind hs3
      clear hs3
      refine aw_pS (pc1 := 39) at_567_38 (Or.inr (Or.inl ⟨rfl, rfl⟩)) e9 rfl ?_
      refine aw_vload_n (pc1 := 40) at_567_39 (am_lk1 (am_lk1 l0 rfl (by rw [am_isRc i0]; rfl)) rfl rfl) i0 rfl ?_
      obtain ⟨v10, e11, hs5⟩ := am_bind hs4
      clear hs4
      refine aw_pG (pc1 := 43) at_567_40 (am_vR_s e11).1 rfl ?_
      refine aw_iconst (v := 0) (pc1 := 44) at_567_43 (by decide) rfl ?_
      refine aw_iconst (v := (-1)) (pc1 := 45) at_567_44 (by decide) rfl ?_
      obtain ⟨h12, e13, hs6⟩ := am_bind hs5
      clear hs5
      refine aw_pS (pc1 := 46) at_567_45 (Or.inl ⟨rfl, rfl⟩) e13 rfl ?_
      exact rg_567_46 N x0 0 1 h12 o hs6 _ (am_lk1 (am_lk1 l0 rfl (by rw [am_isRc i0]; rfl)) rfl rfl) (am_lk1 am_lk0 rfl rfl) am_lk0 i0
    · rw [if_neg c1] at hs
      refine aw_icge_f (pc1 := 8) at_567_5 c1 rfl ?_
      refine aw_vload_n (pc1 := 9) at_567_8 l0 i0 rfl ?_
      obtain ⟨v14, e15, hs7⟩ := am_bind hs
      clear hs
      refine aw_pG (pc1 := 12) at_567_9 (am_vR_s e15).1 rfl ?_
      refine aw_iload_n (pc1 := 13) at_567_12 l1 rfl ?_
      refine aw_iconst (v := 0) (pc1 := 14) at_567_13 (by decide) rfl ?_
      obtain ⟨h16, e17, hs8⟩ := am_bind hs7
      clear hs7
      refine aw_pS (pc1 := 15) at_567_14 (Or.inr (Or.inl ⟨rfl, rfl⟩)) e17 rfl ?_
      refine aw_iinc (v := (x1 + 1)) (c := 1) (lv1 := am_put1 _ 1 _) (pc1 := 18) at_567_15 l1 (by decide) rfl rfl rfl ?_
      refine aw_goto at_567_18 ?_
      exact ih x0 ((x1 + 1)) h16 o hs8 _ (am_lk1 l0 rfl (by rw [am_isRc i0]; rfl)) am_lk0 i0
def fg_567_0 (N : Nat) (x0 : Value) (h : am_H) : Option am_O := (fg_567_2 N N x0 0 h)
theorem rg_567_0 {X : am_X} {d : Nat} {N : Nat} {lv : am_LV} (x0 : Value) (h : am_H) (o : am_O) (l0 : lv.lookup 0 = some x0) (i0 : am_isR x0 = true) (hs : fg_567_0 N x0 h = some o) : am_W X (d + 2) 567 0 lv [] h (fun q => q = o) := by
  unfold fg_567_0 at hs
  refine aw_iconst (v := 0) (pc1 := 1) at_567_0 (by decide) rfl ?_
  refine aw_istore_n (lv1 := am_put1 _ 1 _) (pc1 := 2) at_567_1 rfl rfl ?_
  exact rg_567_2 N x0 0 h o hs _ (am_lk1 l0 rfl (by rw [am_isRc i0]; rfl)) am_lk0 i0
def fm_567 (N : Nat) (y0 : Value) (h : am_H) : Option am_O := fg_567_0 N y0 h
theorem rm_567 {X : am_X} {d : Nat} {N : Nat} (y0 : Value) (h : am_H) (o : am_O) (i0 : am_isR y0 = true) (hs : fm_567 N y0 h = some o) : am_W X (d + 2) 567 0 (am_args 0 [y0]) [] h (fun q => q = o) := by
  rw [am_args_R i0]
  exact rg_567_0 y0 h o rfl i0 hs
def fg_571_53 (N : Nat) : Nat → Value → Int32 → Int32 → am_H → Option am_O
  | 0 => fun _ _ _ _ => none
  | K + 1 => fun x0 x2 x3 h => ((am_vI (am_pG 3087 x0 h)).bind fun v1 => (if v1 ≤ x3 then some (.inl (some (.int x2), h)) else ((am_vR (am_pG 3100 x0 h)).bind fun v4 => ((am_pA 0 v4 x3 h).bind fun v6 => (fg_571_53 N K x0 ((x2 ||| (v6 <<< (x3 &&& 31)))) ((x3 + 1)) h)))))
theorem rg_571_53 {X : am_X} {d : Nat} {N : Nat} : ∀ (K : Nat) (x0 : Value) (x2 : Int32) (x3 : Int32) (h : am_H) (o : am_O), fg_571_53 N K x0 x2 x3 h = some o → ∀ lv : am_LV, (lv.lookup 0 = some x0) → (lv.lookup 2 = some (.int x2)) → (lv.lookup 3 = some (.int x3)) → (am_isR x0 = true) → am_W X (d + 1) 571 53 lv [] h (fun q => q = o) := by
  intro K
  induction K with
  | zero => intro x0 x2 x3 h o hs; cases hs
  | succ K ih =>
    intro x0 x2 x3 h o hs lv l0 l2 l3 i0
    unfold fg_571_53 at hs
    refine aw_iload_n (pc1 := 54) at_571_53 l3 rfl ?_
    refine aw_vload_n (pc1 := 55) at_571_54 l0 i0 rfl ?_
    obtain ⟨v1, e2, hs1⟩ := am_bind hs
    clear hs
    refine aw_pG (pc1 := 58) at_571_55 (am_vI_s e2) rfl ?_
    by_cases c3 : v1 ≤ x3
    · rw [if_pos c3] at hs1
      refine aw_icge_t at_571_58 c3 ?_
      refine aw_iload_n (pc1 := 79) at_571_78 l2 rfl ?_
      cases hs1
      exact aw_iret at_571_79 (by rw [rt_571]; rfl) rfl
    · rw [if_neg c3] at hs1
      refine aw_icge_f (pc1 := 61) at_571_58 c3 rfl ?_
      refine aw_iload_n (pc1 := 62) at_571_61 l2 rfl ?_
      refine aw_vload_n (pc1 := 63) at_571_62 l0 i0 rfl ?_
      obtain ⟨v4, e5, hs2⟩ := am_bind hs1
      clear hs1
      refine aw_pG (pc1 := 66) at_571_63 (am_vR_s e5).1 rfl ?_
      refine aw_iload_n (pc1 := 67) at_571_66 l3 rfl ?_
      obtain ⟨v6, e7, hs3⟩ := am_bind hs2
      clear hs2
      refine aw_pA (pc1 := 68) at_571_67 (Or.inl ⟨rfl, rfl⟩) e7 rfl ?_
      refine aw_iload_n (pc1 := 69) at_571_68 l3 rfl ?_
      refine aw_ishl (v := (v6 <<< (x3 &&& 31))) (pc1 := 70) at_571_69 rfl rfl ?_
      refine aw_ior (v := (x2 ||| (v6 <<< (x3 &&& 31)))) (pc1 := 71) at_571_70 rfl rfl ?_
      refine aw_istore_n (lv1 := am_put1 _ 2 _) (pc1 := 72) at_571_71 rfl rfl ?_
      refine aw_iinc (v := (x3 + 1)) (c := 1) (lv1 := am_put1 _ 3 _) (pc1 := 75) at_571_72 (am_lk1 l3 rfl rfl) (by decide) rfl rfl rfl ?_
      refine aw_goto at_571_75 ?_
      exact ih x0 ((x2 ||| (v6 <<< (x3 &&& 31)))) ((x3 + 1)) h o hs3 _ (am_lk1 (am_lk1 l0 rfl rfl) rfl rfl) (am_lk1 am_lk0 rfl rfl) am_lk0 i0
def fg_571_29 (N : Nat) : Nat → Value → Int32 → am_H → Option am_O
  | 0 => fun _ _ _ => none
  | K + 1 => fun x0 x2 h => ((am_vI (am_pG 3086 x0 h)).bind fun v1 => (if v1 ≤ x2 then (fg_571_53 N N x0 0 0 h) else (if am_pOk 12 x0 h then am_cI true (fm_418 x0 x2 h) (fun v5 h6 => (fg_571_29 N K x0 ((x2 + 1)) h6)) else none)))
theorem rg_571_29 {X : am_X} {d : Nat} {N : Nat} : ∀ (K : Nat) (x0 : Value) (x2 : Int32) (h : am_H) (o : am_O), fg_571_29 N K x0 x2 h = some o → ∀ lv : am_LV, (lv.lookup 0 = some x0) → (lv.lookup 2 = some (.int x2)) → (am_isR x0 = true) → am_W X (d + 1) 571 29 lv [] h (fun q => q = o) := by
  intro K
  induction K with
  | zero => intro x0 x2 h o hs; cases hs
  | succ K ih =>
    intro x0 x2 h o hs lv l0 l2 i0
    unfold fg_571_29 at hs
    refine aw_iload_n (pc1 := 30) at_571_29 l2 rfl ?_
    refine aw_vload_n (pc1 := 31) at_571_30 l0 i0 rfl ?_
    obtain ⟨v1, e2, hs1⟩ := am_bind hs
    clear hs
    refine aw_pG (pc1 := 34) at_571_31 (am_vI_s e2) rfl ?_
    by_cases c3 : v1 ≤ x2
    · rw [if_pos c3] at hs1
      refine aw_icge_t at_571_34 c3 ?_
      refine aw_iconst (v := 0) (pc1 := 50) at_571_49 (by decide) rfl ?_
      refine aw_istore_n (lv1 := am_put1 _ 2 _) (pc1 := 51) at_571_50 rfl rfl ?_
      refine aw_iconst (v := 0) (pc1 := 52) at_571_51 (by decide) rfl ?_
      refine aw_istore_n (lv1 := am_put1 _ 3 _) (pc1 := 53) at_571_52 rfl rfl ?_
      exact rg_571_53 N x0 0 0 h o hs1 _ (am_lk1 (am_lk1 l0 rfl rfl) rfl rfl) (am_lk1 am_lk0 rfl rfl) am_lk0 i0
    · rw [if_neg c3] at hs1
      refine aw_icge_f (pc1 := 37) at_571_34 c3 rfl ?_
      refine aw_vload_n (pc1 := 38) at_571_37 l0 i0 rfl ?_
      refine aw_iload_n (pc1 := 39) at_571_38 l2 rfl ?_
      obtain ⟨z4, hs2⟩ := am_ift hs1
      clear hs1
      refine aw_call (F := fm_418 x0 x2 h) (t := true) (na := 2) (kd := 1) (as := [x0, (.int x2)]) at_571_39 (am_k3v kb_418) mn_418 mk_418 rfl rfl (am_ok_v mi_418 (am_hl rfl (am_ccR i0 (am_ccI am_cats_0)) rfl) z4) (am_hc am_cats_0 rfl) (fun _ => ⟨rfl, hh_571⟩) (fun o1 hz9 => rm_418 x0 x2 h o1 i0 hz9) ?_
      rcases am_cI_s hs2 with ⟨v5, h6, f7, hs3⟩ | hs3
      · clear hs2
        refine Or.inl ⟨_, _, f7, ?_⟩
        show am_W X _ 571 42 _ [(.int v5)] h6 _
        refine aw_popi (pc1 := 43) at_571_42 rfl ?_
        refine aw_iinc (v := (x2 + 1)) (c := 1) (lv1 := am_put1 _ 2 _) (pc1 := 46) at_571_43 l2 (by decide) rfl rfl rfl ?_
        refine aw_goto at_571_46 ?_
        exact ih x0 ((x2 + 1)) h6 o hs3 _ (am_lk1 l0 rfl rfl) am_lk0 i0
      · clear hs2
        exact Or.inr hs3
def fg_571_2 (N : Nat) : Nat → Value → Int32 → Int32 → am_H → Option am_O
  | 0 => fun _ _ _ _ => none
  | K + 1 => fun x0 x1 x2 h => ((am_vI (am_pG 3087 x0 h)).bind fun v1 => (if v1 ≤ x2 then (fg_571_29 N N x0 0 h) else ((am_vR (am_pG 3100 x0 h)).bind fun v4 => ((am_pS 0 v4 x2 ((x1 >>> (x2 &&& 31)) &&& 1) h).bind fun h6 => (fg_571_2 N K x0 x1 ((x2 + 1)) h6)))))
theorem rg_571_2 {X : am_X} {d : Nat} {N : Nat} : ∀ (K : Nat) (x0 : Value) (x1 : Int32) (x2 : Int32) (h : am_H) (o : am_O), fg_571_2 N K x0 x1 x2 h = some o → ∀ lv : am_LV, (lv.lookup 0 = some x0) → (lv.lookup 1 = some (.int x1)) → (lv.lookup 2 = some (.int x2)) → (am_isR x0 = true) → am_W X (d + 1) 571 2 lv [] h (fun q => q = o) := by
  intro K
  induction K with
  | zero => intro x0 x1 x2 h o hs; cases hs
  | succ K ih =>
    intro x0 x1 x2 h o hs lv l0 l1 l2 i0
    unfold fg_571_2 at hs
    refine aw_iload_n (pc1 := 3) at_571_2 l2 rfl ?_
    refine aw_vload_n (pc1 := 4) at_571_3 l0 i0 rfl ?_
    obtain ⟨v1, e2, hs1⟩ := am_bind hs
    clear hs
    refine aw_pG (pc1 := 7) at_571_4 (am_vI_s e2) rfl ?_
    by_cases c3 : v1 ≤ x2
    · rw [if_pos c3] at hs1
      refine aw_icge_t at_571_7 c3 ?_
      refine aw_iconst (v := 0) (pc1 := 28) at_571_27 (by decide) rfl ?_
      refine aw_istore_n (lv1 := am_put1 _ 2 _) (pc1 := 29) at_571_28 rfl rfl ?_
      exact rg_571_29 N x0 0 h o hs1 _ (am_lk1 l0 rfl rfl) am_lk0 i0
    · rw [if_neg c3] at hs1
      refine aw_icge_f (pc1 := 10) at_571_7 c3 rfl ?_
      refine aw_vload_n (pc1 := 11) at_571_10 l0 i0 rfl ?_
      obtain ⟨v4, e5, hs2⟩ := am_bind hs1
      clear hs1
      refine aw_pG (pc1 := 14) at_571_11 (am_vR_s e5).1 rfl ?_
      refine aw_iload_n (pc1 := 15) at_571_14 l2 rfl ?_
      refine aw_iload_n (pc1 := 16) at_571_15 l1 rfl ?_
      refine aw_iload_n (pc1 := 17) at_571_16 l2 rfl ?_
      refine aw_ishr (v := (x1 >>> (x2 &&& 31))) (pc1 := 18) at_571_17 rfl rfl ?_
      refine aw_iconst (v := 1) (pc1 := 19) at_571_18 (by decide) rfl ?_
      refine aw_iand (v := ((x1 >>> (x2 &&& 31)) &&& 1)) (pc1 := 20) at_571_19 rfl rfl ?_
      obtain ⟨h6, e7, hs3⟩ := am_bind hs2
      clear hs2
      refine aw_pS (pc1 := 21) at_571_20 (Or.inl ⟨rfl, rfl⟩) e7 rfl ?_
      refine aw_iinc (v := (x2 + 1)) (c := 1) (lv1 := am_put1 _ 2 _) (pc1 := 24) at_571_21 l2 (by decide) rfl rfl rfl ?_
      refine aw_goto at_571_24 ?_
      exact ih x0 x1 ((x2 + 1)) h6 o hs3 _ (am_lk1 l0 rfl rfl) (am_lk1 l1 rfl rfl) am_lk0 i0
def fg_571_0 (N : Nat) (x0 : Value) (x1 : Int32) (h : am_H) : Option am_O := (fg_571_2 N N x0 x1 0 h)
theorem rg_571_0 {X : am_X} {d : Nat} {N : Nat} {lv : am_LV} (x0 : Value) (x1 : Int32) (h : am_H) (o : am_O) (l0 : lv.lookup 0 = some x0) (l1 : lv.lookup 1 = some (.int x1)) (i0 : am_isR x0 = true) (hs : fg_571_0 N x0 x1 h = some o) : am_W X (d + 1) 571 0 lv [] h (fun q => q = o) := by
  unfold fg_571_0 at hs
  refine aw_iconst (v := 0) (pc1 := 1) at_571_0 (by decide) rfl ?_
  refine aw_istore_n (lv1 := am_put1 _ 2 _) (pc1 := 2) at_571_1 rfl rfl ?_
  exact rg_571_2 N x0 x1 0 h o hs _ (am_lk1 l0 rfl rfl) (am_lk1 l1 rfl rfl) am_lk0 i0
def fm_571 (N : Nat) (y0 : Value) (y1 : Int32) (h : am_H) : Option am_O := fg_571_0 N y0 y1 h
theorem rm_571 {X : am_X} {d : Nat} {N : Nat} (y0 : Value) (y1 : Int32) (h : am_H) (o : am_O) (i0 : am_isR y0 = true) (hs : fm_571 N y0 y1 h = some o) : am_W X (d + 1) 571 0 (am_args 0 [y0, .int y1]) [] h (fun q => q = o) := by
  rw [am_args_R i0, am_args_I]
  exact rg_571_0 y0 y1 h o rfl rfl i0 hs
def fg_570_87 (N : Nat) : Nat → Value → Int32 → Int32 → am_H → Option am_O
  | 0 => fun _ _ _ _ => none
  | K + 1 => fun x0 x3 x6 h => ((am_vI (am_pG 3087 x0 h)).bind fun v1 => (if v1 ≤ x6 then some (.inl (some (.int 0), h)) else ((am_vR (am_pG 3195 x0 h)).bind fun v4 => ((am_pS 0 v4 (4 + x6) ((x3 >>> (x6 &&& 31)) &&& 1) h).bind fun h6 => (fg_570_87 N K x0 x3 ((x6 + 1)) h6)))))
theorem rg_570_87 {X : am_X} {d : Nat} {N : Nat} : ∀ (K : Nat) (x0 : Value) (x3 : Int32) (x6 : Int32) (h : am_H) (o : am_O), fg_570_87 N K x0 x3 x6 h = some o → ∀ lv : am_LV, (lv.lookup 0 = some x0) → (lv.lookup 3 = some (.int x3)) → (lv.lookup 6 = some (.int x6)) → (am_isR x0 = true) → am_W X (d + 2) 570 87 lv [] h (fun q => q = o) := by
  intro K
  induction K with
  | zero => intro x0 x3 x6 h o hs; cases hs
  | succ K ih =>
    intro x0 x3 x6 h o hs lv l0 l3 l6 i0
    unfold fg_570_87 at hs
    refine aw_iload (pc1 := 89) at_570_87 l6 rfl ?_
    refine aw_vload_n (pc1 := 90) at_570_89 l0 i0 rfl ?_
    obtain ⟨v1, e2, hs1⟩ := am_bind hs
    clear hs
    refine aw_pG (pc1 := 93) at_570_90 (am_vI_s e2) rfl ?_
    by_cases c3 : v1 ≤ x6
    · rw [if_pos c3] at hs1
      refine aw_icge_t at_570_93 c3 ?_
      refine aw_iconst (v := 0) (pc1 := 118) at_570_117 (by decide) rfl ?_
      cases hs1
      exact aw_iret at_570_118 (by rw [rt_570]; rfl) rfl
    · rw [if_neg c3] at hs1
      refine aw_icge_f (pc1 := 96) at_570_93 c3 rfl ?_
      refine aw_vload_n (pc1 := 97) at_570_96 l0 i0 rfl ?_
      obtain ⟨v4, e5, hs2⟩ := am_bind hs1
      clear hs1
      refine aw_pG (pc1 := 100) at_570_97 (am_vR_s e5).1 rfl ?_
      refine aw_iconst (v := 4) (pc1 := 101) at_570_100 (by decide) rfl ?_
      refine aw_iload (pc1 := 103) at_570_101 l6 rfl ?_
      refine aw_iadd (v := (4 + x6)) (pc1 := 104) at_570_103 rfl rfl ?_
      refine aw_iload_n (pc1 := 105) at_570_104 l3 rfl ?_
      refine aw_iload (pc1 := 107) at_570_105 l6 rfl ?_
      refine aw_ishr (v := (x3 >>> (x6 &&& 31))) (pc1 := 108) at_570_107 rfl rfl ?_
      refine aw_iconst (v := 1) (pc1 := 109) at_570_108 (by decide) rfl ?_
      refine aw_iand (v := ((x3 >>> (x6 &&& 31)) &&& 1)) (pc1 := 110) at_570_109 rfl rfl ?_
      obtain ⟨h6, e7, hs3⟩ := am_bind hs2
      clear hs2
      refine aw_pS (pc1 := 111) at_570_110 (Or.inl ⟨rfl, rfl⟩) e7 rfl ?_
      refine aw_iinc (v := (x6 + 1)) (c := 1) (lv1 := am_put1 _ 6 _) (pc1 := 114) at_570_111 l6 (by decide) rfl rfl rfl ?_
      refine aw_goto at_570_114 ?_
      exact ih x0 x3 ((x6 + 1)) h6 o hs3 _ (am_lk1 l0 rfl rfl) (am_lk1 l3 rfl rfl) am_lk0 i0
def fg_570_2 (N : Nat) : Nat → Value → Int32 → Int32 → Int32 → am_H → Option am_O
  | 0 => fun _ _ _ _ _ => none
  | K + 1 => fun x0 x1 x2 x3 h => ((am_vR (am_pG 3076 x0 h)).bind fun v1 => ((am_pA 0 v1 x1 h).bind fun v3 => (if (1 <<< (v3 &&& 31)) ≤ x3 then some (.inl (some (.int 1), h)) else (if am_pOk 12 x0 h then am_cV true (fm_359 N x0 x1 h) (fun h8 => (if am_pOk 12 x0 h8 then am_cI true (fm_571 N x0 x3 h8) (fun v11 h12 => ((am_vI (am_pG 3087 x0 h12)).bind fun v14 => (if am_pOk 12 x0 h12 then am_cV true (fm_359 N x0 x2 h12) (fun h18 => (if am_pOk 12 x0 h18 then am_cI true (fm_571 N x0 x3 h18) (fun v21 h22 => ((am_vI (am_pG 3087 x0 h22)).bind fun v24 => (if ¬ ((v11 >>> (((v14 - 1) / 2) &&& 31)) &&& 1) = ((v21 >>> (((v24 - 1) / 2) &&& 31)) &&& 1) then (if am_pOk 12 x0 h22 then am_cV true (fm_569 N x0 h22) (fun h29 => ((am_vR (am_pG 3195 x0 h29)).bind fun v31 => ((am_vI (am_pG 3087 x0 h29)).bind fun v33 => ((am_pS 0 v31 3 v33 h29).bind fun h35 => (fg_570_87 N N x0 x3 0 h35))))) else none) else (fg_570_2 N K x0 x1 x2 ((x3 + 1)) h22)))) else none)) else none))) else none)) else none))))
theorem rg_570_2 {X : am_X} {d : Nat} {N : Nat} : ∀ (K : Nat) (x0 : Value) (x1 : Int32) (x2 : Int32) (x3 : Int32) (h : am_H) (o : am_O), fg_570_2 N K x0 x1 x2 x3 h = some o → ∀ lv : am_LV, (lv.lookup 0 = some x0) → (lv.lookup 1 = some (.int x1)) → (lv.lookup 2 = some (.int x2)) → (lv.lookup 3 = some (.int x3)) → (am_isR x0 = true) → am_W X (d + 2) 570 2 lv [] h (fun q => q = o) := by
  intro K
  induction K with
  | zero => intro x0 x1 x2 x3 h o hs; cases hs
  | succ K ih =>
    intro x0 x1 x2 x3 h o hs lv l0 l1 l2 l3 i0
    unfold fg_570_2 at hs
    refine aw_iload_n (pc1 := 3) at_570_2 l3 rfl ?_
    refine aw_iconst (v := 1) (pc1 := 4) at_570_3 (by decide) rfl ?_
    refine aw_vload_n (pc1 := 5) at_570_4 l0 i0 rfl ?_
    obtain ⟨v1, e2, hs1⟩ := am_bind hs
    clear hs
    refine aw_pG (pc1 := 8) at_570_5 (am_vR_s e2).1 rfl ?_
    refine aw_iload_n (pc1 := 9) at_570_8 l1 rfl ?_
    obtain ⟨v3, e4, hs2⟩ := am_bind hs1
    clear hs1
    refine aw_pA (pc1 := 10) at_570_9 (Or.inl ⟨rfl, rfl⟩) e4 rfl ?_
    refine aw_ishl (v := (1 <<< (v3 &&& 31))) (pc1 := 11) at_570_10 rfl rfl ?_
    by_cases c5 : (1 <<< (v3 &&& 31)) ≤ x3
    · rw [if_pos c5] at hs2
      refine aw_icge_t at_570_11 c5 ?_
      refine aw_iconst (v := 1) (pc1 := 126) at_570_125 (by decide) rfl ?_
      cases hs2
      exact aw_iret at_570_126 (by rw [rt_570]; rfl) rfl
    · rw [if_neg c5] at hs2
      refine aw_icge_f (pc1 := 14) at_570_11 c5 rfl ?_
      refine aw_vload_n (pc1 := 15) at_570_14 l0 i0 rfl ?_
      refine aw_iload_n (pc1 := 16) at_570_15 l1 rfl ?_
      obtain ⟨z6, hs3⟩ := am_ift hs2
      clear hs2
      refine aw_call (F := fm_359 N x0 x1 h) (t := true) (na := 2) (kd := 1) (as := [x0, (.int x1)]) at_570_16 (am_k3v kb_359) mn_359 mk_359 rfl rfl (am_ok_v mi_359 (am_hl rfl (am_ccR i0 (am_ccI am_cats_0)) rfl) z6) (am_hc am_cats_0 rfl) (fun _ => ⟨rfl, hh_570⟩) (fun o1 hz9 => rm_359 x0 x1 h o1 i0 hz9) ?_
      rcases am_cV_s hs3 with ⟨h8, f9, hs4⟩ | hs4
      · clear hs3
        refine Or.inl ⟨_, _, f9, ?_⟩
        show am_W X _ 570 19 _ [] h8 _
        refine aw_vload_n (pc1 := 20) at_570_19 l0 i0 rfl ?_
        refine aw_iload_n (pc1 := 21) at_570_20 l3 rfl ?_
        obtain ⟨z10, hs5⟩ := am_ift hs4
        clear hs4
        refine aw_call (F := fm_571 N x0 x3 h8) (t := true) (na := 2) (kd := 1) (as := [x0, (.int x3)]) at_570_21 (am_k3v kb_571) mn_571 mk_571 rfl rfl (am_ok_v mi_571 (am_hl rfl (am_ccR i0 (am_ccI am_cats_0)) rfl) z10) (am_hc am_cats_0 rfl) (fun _ => ⟨rfl, hh_570⟩) (fun o1 hz9 => rm_571 x0 x3 h8 o1 i0 hz9) ?_
        rcases am_cI_s hs5 with ⟨v11, h12, f13, hs6⟩ | hs6
        · clear hs5
          refine Or.inl ⟨_, _, f13, ?_⟩
          show am_W X _ 570 24 _ [(.int v11)] h12 _
          refine aw_vload_n (pc1 := 25) at_570_24 l0 i0 rfl ?_
          obtain ⟨v14, e15, hs7⟩ := am_bind hs6
          clear hs6
          refine aw_pG (pc1 := 28) at_570_25 (am_vI_s e15) rfl ?_
          refine aw_iconst (v := 1) (pc1 := 29) at_570_28 (by decide) rfl ?_
          refine aw_isub (v := (v14 - 1)) (pc1 := 30) at_570_29 rfl rfl ?_
          refine aw_iconst (v := 2) (pc1 := 31) at_570_30 (by decide) rfl ?_
          refine aw_idiv (v := ((v14 - 1) / 2)) (pc1 := 32) at_570_31 (by decide) rfl rfl ?_
          refine aw_ishr (v := (v11 >>> (((v14 - 1) / 2) &&& 31))) (pc1 := 33) at_570_32 rfl rfl ?_
          refine aw_iconst (v := 1) (pc1 := 34) at_570_33 (by decide) rfl ?_
          refine aw_iand (v := ((v11 >>> (((v14 - 1) / 2) &&& 31)) &&& 1)) (pc1 := 35) at_570_34 rfl rfl ?_
          refine aw_istore (lv1 := am_put1 _ 4 _) (pc1 := 37) at_570_35 rfl rfl ?_
          refine aw_vload_n (pc1 := 38) at_570_37 (am_lk1 l0 rfl rfl) i0 rfl ?_
          refine aw_iload_n (pc1 := 39) at_570_38 (am_lk1 l2 rfl rfl) rfl ?_
          obtain ⟨z16, hs8⟩ := am_ift hs7
          clear hs7
          refine aw_call (F := fm_359 N x0 x2 h12) (t := true) (na := 2) (kd := 1) (as := [x0, (.int x2)]) at_570_39 (am_k3v kb_359) mn_359 mk_359 rfl rfl (am_ok_v mi_359 (am_hl rfl (am_ccR i0 (am_ccI am_cats_0)) rfl) z16) (am_hc am_cats_0 rfl) (fun _ => ⟨rfl, hh_570⟩) (fun o1 hz9 => rm_359 x0 x2 h12 o1 i0 hz9) ?_
          rcases am_cV_s hs8 with ⟨h18, f19, hs9⟩ | hs9
          · clear hs8
            refine Or.inl ⟨_, _, f19, ?_⟩
            show am_W X _ 570 42 _ [] h18 _
            refine aw_vload_n (pc1 := 43) at_570_42 (am_lk1 l0 rfl rfl) i0 rfl ?_
            refine aw_iload_n (pc1 := 44) at_570_43 (am_lk1 l3 rfl rfl) rfl ?_
            obtain ⟨z20, hs10⟩ := am_ift hs9
            clear hs9
            refine aw_call (F := fm_571 N x0 x3 h18) (t := true) (na := 2) (kd := 1) (as := [x0, (.int x3)]) at_570_44 (am_k3v kb_571) mn_571 mk_571 rfl rfl (am_ok_v mi_571 (am_hl rfl (am_ccR i0 (am_ccI am_cats_0)) rfl) z20) (am_hc am_cats_0 rfl) (fun _ => ⟨rfl, hh_570⟩) (fun o1 hz9 => rm_571 x0 x3 h18 o1 i0 hz9) ?_
            rcases am_cI_s hs10 with ⟨v21, h22, f23, hs11⟩ | hs11
            · clear hs10
              refine Or.inl ⟨_, _, f23, ?_⟩
              show am_W X _ 570 47 _ [(.int v21)] h22 _
              refine aw_vload_n (pc1 := 48) at_570_47 (am_lk1 l0 rfl rfl) i0 rfl ?_
              obtain ⟨v24, e25, hs12⟩ := am_bind hs11
              clear hs11
              refine aw_pG (pc1 := 51) at_570_48 (am_vI_s e25) rfl ?_
              refine aw_iconst (v := 1) (pc1 := 52) at_570_51 (by decide) rfl ?_
              refine aw_isub (v := (v24 - 1)) (pc1 := 53) at_570_52 rfl rfl ?_
              refine aw_iconst (v := 2) (pc1 := 54) at_570_53 (by decide) rfl ?_
              refine aw_idiv (v := ((v24 - 1) / 2)) (pc1 := 55) at_570_54 (by decide) rfl rfl ?_
              refine aw_ishr (v := (v21 >>> (((v24 - 1) / 2) &&& 31))) (pc1 := 56) at_570_55 rfl rfl ?_
              refine aw_iconst (v := 1) (pc1 := 57) at_570_56 (by decide) rfl ?_
              refine aw_iand (v := ((v21 >>> (((v24 - 1) / 2) &&& 31)) &&& 1)) (pc1 := 58) at_570_57 rfl rfl ?_
              refine aw_istore (lv1 := am_put1 _ 5 _) (pc1 := 60) at_570_58 rfl rfl ?_
              refine aw_iload (pc1 := 62) at_570_60 (am_lk1 am_lk0 rfl rfl) rfl ?_
              refine aw_iload (pc1 := 64) at_570_62 am_lk0 rfl ?_
              by_cases c26 : ¬ ((v11 >>> (((v14 - 1) / 2) &&& 31)) &&& 1) = ((v21 >>> (((v24 - 1) / 2) &&& 31)) &&& 1)
              · rw [if_pos c26] at hs12
                refine aw_icne_t at_570_64 c26 ?_
                refine aw_vload_n (pc1 := 71) at_570_70 (am_lk1 (am_lk1 l0 rfl rfl) rfl rfl) i0 rfl ?_
                obtain ⟨z27, hs13⟩ := am_ift hs12
                clear hs12
                refine aw_call (F := fm_569 N x0 h22) (t := true) (na := 1) (kd := 1) (as := [x0]) at_570_71 (am_k3v kb_569) mn_569 mk_569 rfl rfl (am_ok_v mi_569 (am_hl rfl (am_ccR i0 am_cats_0) rfl) z27) (am_hc am_cats_0 rfl) (fun _ => ⟨rfl, hh_570⟩) (fun o1 hz9 => rm_569 x0 h22 o1 i0 hz9) ?_
                rcases am_cV_s hs13 with ⟨h29, f30, hs14⟩ | hs14
                · clear hs13
                  refine Or.inl ⟨_, _, f30, ?_⟩
                  show am_W X _ 570 74 _ [] h29 _
                  refine aw_vload_n (pc1 := 75) at_570_74 (am_lk1 (am_lk1 l0 rfl rfl) rfl rfl) i0 rfl ?_
                  obtain ⟨v31, e32, hs15⟩ := am_bind hs14
                  clear hs14
                  refine aw_pG (pc1 := 78) at_570_75 (am_vR_s e32).1 rfl ?_
                  refine aw_iconst (v := 3) (pc1 := 79) at_570_78 (by decide) rfl ?_
                  refine aw_vload_n (pc1 := 80) at_570_79 (am_lk1 (am_lk1 l0 rfl rfl) rfl rfl) i0 rfl ?_
                  obtain ⟨v33, e34, hs16⟩ := am_bind hs15
                  clear hs15
                  refine aw_pG (pc1 := 83) at_570_80 (am_vI_s e34) rfl ?_
                  obtain ⟨h35, e36, hs17⟩ := am_bind hs16
                  clear hs16
                  refine aw_pS (pc1 := 84) at_570_83 (Or.inl ⟨rfl, rfl⟩) e36 rfl ?_
                  refine aw_iconst (v := 0) (pc1 := 85) at_570_84 (by decide) rfl ?_
                  refine aw_istore (lv1 := am_put1 _ 6 _) (pc1 := 87) at_570_85 rfl rfl ?_
                  exact rg_570_87 N x0 x3 0 h35 o hs17 _ (am_lk1 (am_lk1 (am_lk1 l0 rfl rfl) rfl rfl) rfl rfl) (am_lk1 (am_lk1 (am_lk1 l3 rfl rfl) rfl rfl) rfl rfl) am_lk0 i0
                · clear hs13
                  exact Or.inr hs14
              · rw [if_neg c26] at hs12
                refine aw_icne_f (pc1 := 67) at_570_64 c26 rfl ?_
                refine aw_goto at_570_67 ?_
                refine aw_iinc (v := (x3 + 1)) (c := 1) (lv1 := am_put1 _ 3 _) (pc1 := 122) at_570_119 (am_lk1 (am_lk1 l3 rfl rfl) rfl rfl) (by decide) rfl rfl rfl ?_
                refine aw_goto at_570_122 ?_
                exact ih x0 x1 x2 ((x3 + 1)) h22 o hs12 _ (am_lk1 (am_lk1 (am_lk1 l0 rfl rfl) rfl rfl) rfl rfl) (am_lk1 (am_lk1 (am_lk1 l1 rfl rfl) rfl rfl) rfl rfl) (am_lk1 (am_lk1 (am_lk1 l2 rfl rfl) rfl rfl) rfl rfl) am_lk0 i0
            · clear hs10
              exact Or.inr hs11
          · clear hs8
            exact Or.inr hs9
        · clear hs5
          exact Or.inr hs6
      · clear hs3
        exact Or.inr hs4
def fg_570_0 (N : Nat) (x0 : Value) (x1 : Int32) (x2 : Int32) (h : am_H) : Option am_O := (fg_570_2 N N x0 x1 x2 0 h)
theorem rg_570_0 {X : am_X} {d : Nat} {N : Nat} {lv : am_LV} (x0 : Value) (x1 : Int32) (x2 : Int32) (h : am_H) (o : am_O) (l0 : lv.lookup 0 = some x0) (l1 : lv.lookup 1 = some (.int x1)) (l2 : lv.lookup 2 = some (.int x2)) (i0 : am_isR x0 = true) (hs : fg_570_0 N x0 x1 x2 h = some o) : am_W X (d + 2) 570 0 lv [] h (fun q => q = o) := by
  unfold fg_570_0 at hs
  refine aw_iconst (v := 0) (pc1 := 1) at_570_0 (by decide) rfl ?_
  refine aw_istore_n (lv1 := am_put1 _ 3 _) (pc1 := 2) at_570_1 rfl rfl ?_
  exact rg_570_2 N x0 x1 x2 0 h o hs _ (am_lk1 l0 rfl rfl) (am_lk1 l1 rfl rfl) (am_lk1 l2 rfl rfl) am_lk0 i0
def fm_570 (N : Nat) (y0 : Value) (y1 : Int32) (y2 : Int32) (h : am_H) : Option am_O := fg_570_0 N y0 y1 y2 h
theorem rm_570 {X : am_X} {d : Nat} {N : Nat} (y0 : Value) (y1 : Int32) (y2 : Int32) (h : am_H) (o : am_O) (i0 : am_isR y0 = true) (hs : fm_570 N y0 y1 y2 h = some o) : am_W X (d + 2) 570 0 (am_args 0 [y0, .int y1, .int y2]) [] h (fun q => q = o) := by
  rw [am_args_R i0, am_args_I, am_args_I]
  exact rg_570_0 y0 y1 y2 h o rfl rfl rfl i0 hs
