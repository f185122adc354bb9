/-! ===== methods as functions ===== -/
def fg_3_0 (x0 : Value) (h : am_H) : Option am_O := (if am_pRf x0 then ((am_pNew 0 60 h).bind fun h2 => ((am_pP 1792 x0 (Value.ref h.length) h2).bind fun h4 => ((am_pNew 0 60 h4).bind fun h6 => ((am_pP 1793 x0 (Value.ref h4.length) h6).bind fun h8 => ((am_pNew 0 60 h8).bind fun h10 => ((am_pP 1794 x0 (Value.ref h8.length) h10).bind fun h12 => ((am_pNew 2 60 h12).bind fun h14 => ((am_pP 1795 x0 (Value.ref h12.length) h14).bind fun h16 => ((am_pNew 2 60 h16).bind fun h18 => ((am_pP 1796 x0 (Value.ref h16.length) h18).bind fun h20 => ((am_pNew 2 60 h20).bind fun h22 => ((am_pP 1797 x0 (Value.ref h20.length) h22).bind fun h24 => ((am_pNew 0 61 h24).bind fun h26 => ((am_pP 1798 x0 (Value.ref h24.length) h26).bind fun h28 => ((am_pP 1799 x0 (.int 0) h28).bind fun h30 => some (.inl (none, h30))))))))))))))))) else none)
theorem rg_3_0 {X : am_X} {d : Nat} {lv : am_LV} (x0 : Value) (h : am_H) (o : am_O) (l0 : lv.lookup 0 = some x0) (i0 : am_isR x0 = true) (hs : fg_3_0 x0 h = some o) : am_W X (d) 3 0 lv [] h (fun q => q = o) := by
  unfold fg_3_0 at hs
  refine aw_vload_n (pc1 := 1) at_3_0 l0 i0 rfl ?_
  obtain ⟨z1, hs⟩ := am_ift hs
  refine aw_obi at_3_1 rfl z1 (am_hc am_cats_0 rfl) ?_
  refine aw_vload_n (pc1 := 5) at_3_4 l0 i0 rfl ?_
  refine aw_bipush (v := 60) (pc1 := 7) at_3_5 (by decide) rfl ?_
  obtain ⟨h2, e3, hs⟩ := am_bind hs
  refine aw_pNew (pc1 := 9) at_3_7 e3 rfl ?_
  obtain ⟨h4, e5, hs⟩ := am_bind hs
  refine aw_pP (pc1 := 12) at_3_9 e5 rfl ?_
  refine aw_vload_n (pc1 := 13) at_3_12 l0 i0 rfl ?_
  refine aw_bipush (v := 60) (pc1 := 15) at_3_13 (by decide) rfl ?_
  obtain ⟨h6, e7, hs⟩ := am_bind hs
  refine aw_pNew (pc1 := 17) at_3_15 e7 rfl ?_
  obtain ⟨h8, e9, hs⟩ := am_bind hs
  refine aw_pP (pc1 := 20) at_3_17 e9 rfl ?_
  refine aw_vload_n (pc1 := 21) at_3_20 l0 i0 rfl ?_
  refine aw_bipush (v := 60) (pc1 := 23) at_3_21 (by decide) rfl ?_
  obtain ⟨h10, e11, hs⟩ := am_bind hs
  refine aw_pNew (pc1 := 25) at_3_23 e11 rfl ?_
  obtain ⟨h12, e13, hs⟩ := am_bind hs
  refine aw_pP (pc1 := 28) at_3_25 e13 rfl ?_
  refine aw_vload_n (pc1 := 29) at_3_28 l0 i0 rfl ?_
  refine aw_bipush (v := 60) (pc1 := 31) at_3_29 (by decide) rfl ?_
  obtain ⟨h14, e15, hs⟩ := am_bind hs
  refine aw_pNew (pc1 := 33) at_3_31 e15 rfl ?_
  obtain ⟨h16, e17, hs⟩ := am_bind hs
  refine aw_pP (pc1 := 36) at_3_33 e17 rfl ?_
  refine aw_vload_n (pc1 := 37) at_3_36 l0 i0 rfl ?_
  refine aw_bipush (v := 60) (pc1 := 39) at_3_37 (by decide) rfl ?_
  obtain ⟨h18, e19, hs⟩ := am_bind hs
  refine aw_pNew (pc1 := 41) at_3_39 e19 rfl ?_
  obtain ⟨h20, e21, hs⟩ := am_bind hs
  refine aw_pP (pc1 := 44) at_3_41 e21 rfl ?_
  refine aw_vload_n (pc1 := 45) at_3_44 l0 i0 rfl ?_
  refine aw_bipush (v := 60) (pc1 := 47) at_3_45 (by decide) rfl ?_
  obtain ⟨h22, e23, hs⟩ := am_bind hs
  refine aw_pNew (pc1 := 49) at_3_47 e23 rfl ?_
  obtain ⟨h24, e25, hs⟩ := am_bind hs
  refine aw_pP (pc1 := 52) at_3_49 e25 rfl ?_
  refine aw_vload_n (pc1 := 53) at_3_52 l0 i0 rfl ?_
  refine aw_bipush (v := 61) (pc1 := 55) at_3_53 (by decide) rfl ?_
  obtain ⟨h26, e27, hs⟩ := am_bind hs
  refine aw_pNew (pc1 := 57) at_3_55 e27 rfl ?_
  obtain ⟨h28, e29, hs⟩ := am_bind hs
  refine aw_pP (pc1 := 60) at_3_57 e29 rfl ?_
  refine aw_vload_n (pc1 := 61) at_3_60 l0 i0 rfl ?_
  refine aw_iconst (v := 0) (pc1 := 62) at_3_61 (by decide) rfl ?_
  obtain ⟨h30, e31, hs⟩ := am_bind hs
  refine aw_pP (pc1 := 65) at_3_62 e31 rfl ?_
  cases hs
  exact aw_vret at_3_65 rt_3 rfl
def fm_3 (y0 : Value) (h : am_H) : Option am_O := fg_3_0 y0 h
theorem rm_3 {X : am_X} {d : Nat} (y0 : Value) (h : am_H) (o : am_O) (i0 : am_isR y0 = true) (hs : fm_3 y0 h = some o) : am_W X (d) 3 0 (am_args 0 [y0]) [] h (fun q => q = o) := by
  rw [am_args_R i0]
  exact rg_3_0 y0 h o rfl i0 hs
def fg_11_23 (s0 : Int32) (h : am_H) : Option am_O := (if am_rfit (some FieldType.boolean) s0 then some (.inl (some (.int s0), h)) else none)
theorem rg_11_23 {X : am_X} {d : Nat} {lv : am_LV} (s0 : Int32) (h : am_H) (o : am_O) (hs : fg_11_23 s0 h = some o) : am_W X (d) 11 23 lv [(.int s0)] h (fun q => q = o) := by
  unfold fg_11_23 at hs
  obtain ⟨z1, hs⟩ := am_ift hs
  cases hs
  exact aw_iret at_11_23 (by rw [rt_11]; exact z1) rfl
def fg_11_22 (h : am_H) : Option am_O := (fg_11_23 0 h)
theorem rg_11_22 {X : am_X} {d : Nat} {lv : am_LV} (h : am_H) (o : am_O) (hs : fg_11_22 h = some o) : am_W X (d) 11 22 lv [] h (fun q => q = o) := by
  unfold fg_11_22 at hs
  refine aw_iconst (v := 0) (pc1 := 23) at_11_22 (by decide) rfl ?_
  exact rg_11_23 0 h o   hs
def fg_11_18 (h : am_H) : Option am_O := (fg_11_23 1 h)
theorem rg_11_18 {X : am_X} {d : Nat} {lv : am_LV} (h : am_H) (o : am_O) (hs : fg_11_18 h = some o) : am_W X (d) 11 18 lv [] h (fun q => q = o) := by
  unfold fg_11_18 at hs
  refine aw_iconst (v := 1) (pc1 := 19) at_11_18 (by decide) rfl ?_
  refine aw_goto at_11_19 ?_
  exact rg_11_23 1 h o   hs
def fg_11_0 (x0 : Int32) (h : am_H) : Option am_O := (if x0 = 9 then (fg_11_18 h) else (if x0 < 15 then (fg_11_22 h) else (if 18 < x0 then (fg_11_22 h) else (fg_11_18 h))))
theorem rg_11_0 {X : am_X} {d : Nat} {lv : am_LV} (x0 : Int32) (h : am_H) (o : am_O) (l0 : lv.lookup 0 = some (.int x0)) (hs : fg_11_0 x0 h = some o) : am_W X (d) 11 0 lv [] h (fun q => q = o) := by
  unfold fg_11_0 at hs
  refine aw_iload_n (pc1 := 1) at_11_0 l0 rfl ?_
  refine aw_bipush (v := 9) (pc1 := 3) at_11_1 (by decide) rfl ?_
  by_cases c1 : x0 = 9
  · rw [if_pos c1] at hs
    refine aw_iceq_t at_11_3 c1 ?_
    exact rg_11_18 h o   hs
  · rw [if_neg c1] at hs
    refine aw_iceq_f (pc1 := 6) at_11_3 c1 rfl ?_
    refine aw_iload_n (pc1 := 7) at_11_6 l0 rfl ?_
    refine aw_bipush (v := 15) (pc1 := 9) at_11_7 (by decide) rfl ?_
    by_cases c2 : x0 < 15
    · rw [if_pos c2] at hs
      refine aw_iclt_t at_11_9 c2 ?_
      exact rg_11_22 h o   hs
    · rw [if_neg c2] at hs
      refine aw_iclt_f (pc1 := 12) at_11_9 c2 rfl ?_
      refine aw_iload_n (pc1 := 13) at_11_12 l0 rfl ?_
      refine aw_bipush (v := 18) (pc1 := 15) at_11_13 (by decide) rfl ?_
      by_cases c3 : 18 < x0
      · rw [if_pos c3] at hs
        refine aw_icgt_t at_11_15 c3 ?_
        exact rg_11_22 h o   hs
      · rw [if_neg c3] at hs
        refine aw_icgt_f (pc1 := 18) at_11_15 c3 rfl ?_
        exact rg_11_18 h o   hs
def fm_11 (y0 : Int32) (h : am_H) : Option am_O := fg_11_0 y0 h
theorem rm_11 {X : am_X} {d : Nat} (y0 : Int32) (h : am_H) (o : am_O) (hs : fm_11 y0 h = some o) : am_W X (d) 11 0 (am_args 0 [.int y0]) [] h (fun q => q = o) := by
  rw [am_args_I]
  exact rg_11_0 y0 h o rfl  hs
def fg_10_56 (s0 : Int32) (h : am_H) : Option am_O := (if am_rfit (some FieldType.boolean) s0 then some (.inl (some (.int s0), h)) else none)
theorem rg_10_56 {X : am_X} {d : Nat} {lv : am_LV} (s0 : Int32) (h : am_H) (o : am_O) (hs : fg_10_56 s0 h = some o) : am_W X (d + 1) 10 56 lv [(.int s0)] h (fun q => q = o) := by
  unfold fg_10_56 at hs
  obtain ⟨z1, hs⟩ := am_ift hs
  cases hs
  exact aw_iret at_10_56 (by rw [rt_10]; exact z1) rfl
def fg_10_55 (h : am_H) : Option am_O := (fg_10_56 0 h)
theorem rg_10_55 {X : am_X} {d : Nat} {lv : am_LV} (h : am_H) (o : am_O) (hs : fg_10_55 h = some o) : am_W X (d + 1) 10 55 lv [] h (fun q => q = o) := by
  unfold fg_10_55 at hs
  refine aw_iconst (v := 0) (pc1 := 56) at_10_55 (by decide) rfl ?_
  exact rg_10_56 0 h o   hs
def fg_10_51 (h : am_H) : Option am_O := (fg_10_56 1 h)
theorem rg_10_51 {X : am_X} {d : Nat} {lv : am_LV} (h : am_H) (o : am_O) (hs : fg_10_51 h = some o) : am_W X (d + 1) 10 51 lv [] h (fun q => q = o) := by
  unfold fg_10_51 at hs
  refine aw_iconst (v := 1) (pc1 := 52) at_10_51 (by decide) rfl ?_
  refine aw_goto at_10_52 ?_
  exact rg_10_56 1 h o   hs
def fg_10_41 (x1 : Int32) (x2 : Int32) (h : am_H) : Option am_O := (if x2 = 0 then (fg_10_51 h) else (if x1 = 19 then (fg_10_55 h) else (fg_10_51 h)))
theorem rg_10_41 {X : am_X} {d : Nat} {lv : am_LV} (x1 : Int32) (x2 : Int32) (h : am_H) (o : am_O) (l1 : lv.lookup 1 = some (.int x1)) (l2 : lv.lookup 2 = some (.int x2)) (hs : fg_10_41 x1 x2 h = some o) : am_W X (d + 1) 10 41 lv [] h (fun q => q = o) := by
  unfold fg_10_41 at hs
  refine aw_iload_n (pc1 := 42) at_10_41 l2 rfl ?_
  by_cases c1 : x2 = 0
  · rw [if_pos c1] at hs
    refine aw_ifeq_t at_10_42 c1 ?_
    exact rg_10_51 h o   hs
  · rw [if_neg c1] at hs
    refine aw_ifeq_f (pc1 := 45) at_10_42 c1 rfl ?_
    refine aw_iload_n (pc1 := 46) at_10_45 l1 rfl ?_
    refine aw_bipush (v := 19) (pc1 := 48) at_10_46 (by decide) rfl ?_
    by_cases c2 : x1 = 19
    · rw [if_pos c2] at hs
      refine aw_iceq_t at_10_48 c2 ?_
      exact rg_10_55 h o   hs
    · rw [if_neg c2] at hs
      refine aw_iceq_f (pc1 := 51) at_10_48 c2 rfl ?_
      exact rg_10_51 h o   hs
def fg_10_22 (x1 : Int32) (x2 : Int32) (s0 : Int32) (s1 : Int32) (h : am_H) : Option am_O := (if ¬ s0 = s1 then (fg_10_55 h) else (if x2 = 2 then (fg_10_41 x1 x2 h) else (if x1 = 5 then (fg_10_55 h) else (if x1 = 6 then (fg_10_55 h) else (fg_10_41 x1 x2 h)))))
theorem rg_10_22 {X : am_X} {d : Nat} {lv : am_LV} (x1 : Int32) (x2 : Int32) (s0 : Int32) (s1 : Int32) (h : am_H) (o : am_O) (l1 : lv.lookup 1 = some (.int x1)) (l2 : lv.lookup 2 = some (.int x2)) (hs : fg_10_22 x1 x2 s0 s1 h = some o) : am_W X (d + 1) 10 22 lv [(.int s1), (.int s0)] h (fun q => q = o) := by
  unfold fg_10_22 at hs
  by_cases c1 : ¬ s0 = s1
  · rw [if_pos c1] at hs
    refine aw_icne_t at_10_22 c1 ?_
    exact rg_10_55 h o   hs
  · rw [if_neg c1] at hs
    refine aw_icne_f (pc1 := 25) at_10_22 c1 rfl ?_
    refine aw_iload_n (pc1 := 26) at_10_25 l2 rfl ?_
    refine aw_iconst (v := 2) (pc1 := 27) at_10_26 (by decide) rfl ?_
    by_cases c2 : x2 = 2
    · rw [if_pos c2] at hs
      refine aw_iceq_t at_10_27 c2 ?_
      exact rg_10_41 x1 x2 h o l1 l2  hs
    · rw [if_neg c2] at hs
      refine aw_iceq_f (pc1 := 30) at_10_27 c2 rfl ?_
      refine aw_iload_n (pc1 := 31) at_10_30 l1 rfl ?_
      refine aw_iconst (v := 5) (pc1 := 32) at_10_31 (by decide) rfl ?_
      by_cases c3 : x1 = 5
      · rw [if_pos c3] at hs
        refine aw_iceq_t at_10_32 c3 ?_
        exact rg_10_55 h o   hs
      · rw [if_neg c3] at hs
        refine aw_iceq_f (pc1 := 35) at_10_32 c3 rfl ?_
        refine aw_iload_n (pc1 := 36) at_10_35 l1 rfl ?_
        refine aw_bipush (v := 6) (pc1 := 38) at_10_36 (by decide) rfl ?_
        by_cases c4 : x1 = 6
        · rw [if_pos c4] at hs
          refine aw_iceq_t at_10_38 c4 ?_
          exact rg_10_55 h o   hs
        · rw [if_neg c4] at hs
          refine aw_iceq_f (pc1 := 41) at_10_38 c4 rfl ?_
          exact rg_10_41 x1 x2 h o l1 l2  hs
def fg_10_0 (x0 : Int32) (x1 : Int32) (h : am_H) : Option am_O := am_cI false (fm_11 x1 h) (fun v1 h2 => (if ¬ (x0 - x0 / 2 * 2) = 1 then (fg_10_22 x1 (((x0 / 2) * 2)) v1 0 h2) else (fg_10_22 x1 (((x0 / 2) * 2)) v1 1 h2)))
theorem rg_10_0 {X : am_X} {d : Nat} {lv : am_LV} (x0 : Int32) (x1 : Int32) (h : am_H) (o : am_O) (l0 : lv.lookup 0 = some (.int x0)) (l1 : lv.lookup 1 = some (.int x1)) (hs : fg_10_0 x0 x1 h = some o) : am_W X (d + 1) 10 0 lv [] h (fun q => q = o) := by
  unfold fg_10_0 at hs
  refine aw_iload_n (pc1 := 1) at_10_0 l0 rfl ?_
  refine aw_iconst (v := 2) (pc1 := 2) at_10_1 (by decide) rfl ?_
  refine aw_idiv (v := (x0 / 2)) (pc1 := 3) at_10_2 (by decide) rfl rfl ?_
  refine aw_iconst (v := 2) (pc1 := 4) at_10_3 (by decide) rfl ?_
  refine aw_imul (v := ((x0 / 2) * 2)) (pc1 := 5) at_10_4 rfl rfl ?_
  refine aw_istore_n (lv1 := am_put1 _ 2 _) (pc1 := 6) at_10_5 rfl rfl ?_
  refine aw_iload_n (pc1 := 7) at_10_6 (am_lk1 l1 rfl rfl) rfl ?_
  refine aw_call (t := false) (na := 1) (kd := 0) (as := [(.int x1)]) at_10_7 rfl (congrArg (fun q => q.1) mi_11) (congrArg (fun q => q.2.1) mi_11) rfl rfl (am_ok_s mi_11 (am_hl rfl (am_ccI am_cats_0) rfl)) (am_hc am_cats_0 rfl) (fun h9 => by cases h9) (fun o1 h9 => rm_11 x1 h o1  h9) ?_
  rcases am_cI_s hs with ⟨v1, h2, f3, hs⟩ | hs
  · refine Or.inl ⟨_, _, f3, ?_⟩
    show am_W X _ 10 10 _ [(.int v1)] h2 _
    refine aw_iload_n (pc1 := 11) at_10_10 (am_lk1 l0 rfl rfl) rfl ?_
    refine aw_iconst (v := 2) (pc1 := 12) at_10_11 (by decide) rfl ?_
    refine aw_irem (v := (x0 - x0 / 2 * 2)) (pc1 := 13) at_10_12 (by decide) rfl rfl ?_
    refine aw_iconst (v := 1) (pc1 := 14) at_10_13 (by decide) rfl ?_
    by_cases c4 : ¬ (x0 - x0 / 2 * 2) = 1
    · rw [if_pos c4] at hs
      refine aw_icne_t at_10_14 c4 ?_
      refine aw_iconst (v := 0) (pc1 := 22) at_10_21 (by decide) rfl ?_
      exact rg_10_22 x1 (((x0 / 2) * 2)) v1 0 h2 o (am_lk1 l1 rfl rfl) am_lk0  hs
    · rw [if_neg c4] at hs
      refine aw_icne_f (pc1 := 17) at_10_14 c4 rfl ?_
      refine aw_iconst (v := 1) (pc1 := 18) at_10_17 (by decide) rfl ?_
      refine aw_goto at_10_18 ?_
      exact rg_10_22 x1 (((x0 / 2) * 2)) v1 1 h2 o (am_lk1 l1 rfl rfl) am_lk0  hs
  · exact Or.inr hs
def fm_10 (y0 : Int32) (y1 : Int32) (h : am_H) : Option am_O := fg_10_0 y0 y1 h
theorem rm_10 {X : am_X} {d : Nat} (y0 : Int32) (y1 : Int32) (h : am_H) (o : am_O) (hs : fm_10 y0 y1 h = some o) : am_W X (d + 1) 10 0 (am_args 0 [.int y0, .int y1]) [] h (fun q => q = o) := by
  rw [am_args_I, am_args_I]
  exact rg_10_0 y0 y1 h o rfl rfl  hs
def fg_13_33 (s0 : Int32) (h : am_H) : Option am_O := (if am_rfit (some FieldType.boolean) s0 then some (.inl (some (.int s0), h)) else none)
theorem rg_13_33 {X : am_X} {d : Nat} {lv : am_LV} (s0 : Int32) (h : am_H) (o : am_O) (hs : fg_13_33 s0 h = some o) : am_W X (d) 13 33 lv [(.int s0)] h (fun q => q = o) := by
  unfold fg_13_33 at hs
  obtain ⟨z1, hs⟩ := am_ift hs
  cases hs
  exact aw_iret at_13_33 (by rw [rt_13]; exact z1) rfl
def fg_13_32 (h : am_H) : Option am_O := (fg_13_33 0 h)
theorem rg_13_32 {X : am_X} {d : Nat} {lv : am_LV} (h : am_H) (o : am_O) (hs : fg_13_32 h = some o) : am_W X (d) 13 32 lv [] h (fun q => q = o) := by
  unfold fg_13_32 at hs
  refine aw_iconst (v := 0) (pc1 := 33) at_13_32 (by decide) rfl ?_
  exact rg_13_33 0 h o   hs
def fg_13_28 (h : am_H) : Option am_O := (fg_13_33 1 h)
theorem rg_13_28 {X : am_X} {d : Nat} {lv : am_LV} (h : am_H) (o : am_O) (hs : fg_13_28 h = some o) : am_W X (d) 13 28 lv [] h (fun q => q = o) := by
  unfold fg_13_28 at hs
  refine aw_iconst (v := 1) (pc1 := 29) at_13_28 (by decide) rfl ?_
  refine aw_goto at_13_29 ?_
  exact rg_13_33 1 h o   hs
def fg_13_0 (x0 : Int32) (x1 : Int32) (h : am_H) : Option am_O := (if x0 = 9 then (fg_13_28 h) else (if x0 = 17 then (fg_13_28 h) else (if x0 = 18 then (fg_13_28 h) else (if ¬ x0 = 20 then (fg_13_32 h) else (if ¬ x1 = 0 then (fg_13_32 h) else (fg_13_28 h))))))
theorem rg_13_0 {X : am_X} {d : Nat} {lv : am_LV} (x0 : Int32) (x1 : Int32) (h : am_H) (o : am_O) (l0 : lv.lookup 0 = some (.int x0)) (l1 : lv.lookup 1 = some (.int x1)) (hs : fg_13_0 x0 x1 h = some o) : am_W X (d) 13 0 lv [] h (fun q => q = o) := by
  unfold fg_13_0 at hs
  refine aw_iload_n (pc1 := 1) at_13_0 l0 rfl ?_
  refine aw_bipush (v := 9) (pc1 := 3) at_13_1 (by decide) rfl ?_
  by_cases c1 : x0 = 9
  · rw [if_pos c1] at hs
    refine aw_iceq_t at_13_3 c1 ?_
    exact rg_13_28 h o   hs
  · rw [if_neg c1] at hs
    refine aw_iceq_f (pc1 := 6) at_13_3 c1 rfl ?_
    refine aw_iload_n (pc1 := 7) at_13_6 l0 rfl ?_
    refine aw_bipush (v := 17) (pc1 := 9) at_13_7 (by decide) rfl ?_
    by_cases c2 : x0 = 17
    · rw [if_pos c2] at hs
      refine aw_iceq_t at_13_9 c2 ?_
      exact rg_13_28 h o   hs
    · rw [if_neg c2] at hs
      refine aw_iceq_f (pc1 := 12) at_13_9 c2 rfl ?_
      refine aw_iload_n (pc1 := 13) at_13_12 l0 rfl ?_
      refine aw_bipush (v := 18) (pc1 := 15) at_13_13 (by decide) rfl ?_
      by_cases c3 : x0 = 18
      · rw [if_pos c3] at hs
        refine aw_iceq_t at_13_15 c3 ?_
        exact rg_13_28 h o   hs
      · rw [if_neg c3] at hs
        refine aw_iceq_f (pc1 := 18) at_13_15 c3 rfl ?_
        refine aw_iload_n (pc1 := 19) at_13_18 l0 rfl ?_
        refine aw_bipush (v := 20) (pc1 := 21) at_13_19 (by decide) rfl ?_
        by_cases c4 : ¬ x0 = 20
        · rw [if_pos c4] at hs
          refine aw_icne_t at_13_21 c4 ?_
          exact rg_13_32 h o   hs
        · rw [if_neg c4] at hs
          refine aw_icne_f (pc1 := 24) at_13_21 c4 rfl ?_
          refine aw_iload_n (pc1 := 25) at_13_24 l1 rfl ?_
          by_cases c5 : ¬ x1 = 0
          · rw [if_pos c5] at hs
            refine aw_ifne_t at_13_25 c5 ?_
            exact rg_13_32 h o   hs
          · rw [if_neg c5] at hs
            refine aw_ifne_f (pc1 := 28) at_13_25 c5 rfl ?_
            exact rg_13_28 h o   hs
def fm_13 (y0 : Int32) (y1 : Int32) (h : am_H) : Option am_O := fg_13_0 y0 y1 h
theorem rm_13 {X : am_X} {d : Nat} (y0 : Int32) (y1 : Int32) (h : am_H) (o : am_O) (hs : fm_13 y0 y1 h = some o) : am_W X (d) 13 0 (am_args 0 [.int y0, .int y1]) [] h (fun q => q = o) := by
  rw [am_args_I, am_args_I]
  exact rg_13_0 y0 y1 h o rfl rfl  hs
def fg_12_36 (s0 : Int32) (h : am_H) : Option am_O := some (.inl (some (.int s0), h))
theorem rg_12_36 {X : am_X} {d : Nat} {lv : am_LV} (s0 : Int32) (h : am_H) (o : am_O) (hs : fg_12_36 s0 h = some o) : am_W X (d + 1) 12 36 lv [(.int s0)] h (fun q => q = o) := by
  unfold fg_12_36 at hs
  cases hs
  exact aw_iret at_12_36 (by rw [rt_12]; rfl) rfl
def fg_12_20 (x1 : Int32) (x2 : Int32) (s0 : Int32) (h : am_H) : Option am_O := am_cI false (fm_13 x1 x2 h) (fun v1 h2 => (if v1 = 0 then (fg_12_36 s0 h2) else (fg_12_36 ((s0 + 1)) h2)))
theorem rg_12_20 {X : am_X} {d : Nat} {lv : am_LV} (x1 : Int32) (x2 : Int32) (s0 : Int32) (h : am_H) (o : am_O) (l1 : lv.lookup 1 = some (.int x1)) (l2 : lv.lookup 2 = some (.int x2)) (hs : fg_12_20 x1 x2 s0 h = some o) : am_W X (d + 1) 12 20 lv [(.int s0)] h (fun q => q = o) := by
  unfold fg_12_20 at hs
  refine aw_istore_n (lv1 := am_put1 _ 3 _) (pc1 := 21) at_12_20 rfl rfl ?_
  refine aw_iload_n (pc1 := 22) at_12_21 (am_lk1 l1 rfl rfl) rfl ?_
  refine aw_iload_n (pc1 := 23) at_12_22 (am_lk1 l2 rfl rfl) rfl ?_
  refine aw_call (t := false) (na := 2) (kd := 0) (as := [(.int x1), (.int x2)]) at_12_23 rfl (congrArg (fun q => q.1) mi_13) (congrArg (fun q => q.2.1) mi_13) rfl rfl (am_ok_s mi_13 (am_hl rfl (am_ccI (am_ccI am_cats_0)) rfl)) (am_hc am_cats_0 rfl) (fun h9 => by cases h9) (fun o1 h9 => rm_13 x1 x2 h o1  h9) ?_
  rcases am_cI_s hs with ⟨v1, h2, f3, hs⟩ | hs
  · refine Or.inl ⟨_, _, f3, ?_⟩
    show am_W X _ 12 26 _ [(.int v1)] h2 _
    by_cases c4 : v1 = 0
    · rw [if_pos c4] at hs
      refine aw_ifeq_t at_12_26 c4 ?_
      refine aw_iload_n (pc1 := 36) at_12_35 am_lk0 rfl ?_
      exact rg_12_36 s0 h2 o   hs
    · rw [if_neg c4] at hs
      refine aw_ifeq_f (pc1 := 29) at_12_26 c4 rfl ?_
      refine aw_iload_n (pc1 := 30) at_12_29 am_lk0 rfl ?_
      refine aw_iconst (v := 1) (pc1 := 31) at_12_30 (by decide) rfl ?_
      refine aw_iadd (v := (s0 + 1)) (pc1 := 32) at_12_31 rfl rfl ?_
      refine aw_goto at_12_32 ?_
      exact rg_12_36 ((s0 + 1)) h2 o   hs
  · exact Or.inr hs
def fg_12_15 (x0 : Int32) (x1 : Int32) (x2 : Int32) (h : am_H) : Option am_O := (fg_12_20 x1 x2 (((x0 / 2) * 2)) h)
theorem rg_12_15 {X : am_X} {d : Nat} {lv : am_LV} (x0 : Int32) (x1 : Int32) (x2 : Int32) (h : am_H) (o : am_O) (l0 : lv.lookup 0 = some (.int x0)) (l1 : lv.lookup 1 = some (.int x1)) (l2 : lv.lookup 2 = some (.int x2)) (hs : fg_12_15 x0 x1 x2 h = some o) : am_W X (d + 1) 12 15 lv [] h (fun q => q = o) := by
  unfold fg_12_15 at hs
  refine aw_iload_n (pc1 := 16) at_12_15 l0 rfl ?_
  refine aw_iconst (v := 2) (pc1 := 17) at_12_16 (by decide) rfl ?_
  refine aw_idiv (v := (x0 / 2)) (pc1 := 18) at_12_17 (by decide) rfl rfl ?_
  refine aw_iconst (v := 2) (pc1 := 19) at_12_18 (by decide) rfl ?_
  refine aw_imul (v := ((x0 / 2) * 2)) (pc1 := 20) at_12_19 rfl rfl ?_
  exact rg_12_20 x1 x2 (((x0 / 2) * 2)) h o l1 l2  hs
def fg_12_0 (x0 : Int32) (x1 : Int32) (x2 : Int32) (h : am_H) : Option am_O := (if ¬ x1 = 19 then (fg_12_15 x0 x1 x2 h) else (if ¬ x2 = 1 then (fg_12_15 x0 x1 x2 h) else (fg_12_20 x1 x2 2 h)))
theorem rg_12_0 {X : am_X} {d : Nat} {lv : am_LV} (x0 : Int32) (x1 : Int32) (x2 : Int32) (h : am_H) (o : am_O) (l0 : lv.lookup 0 = some (.int x0)) (l1 : lv.lookup 1 = some (.int x1)) (l2 : lv.lookup 2 = some (.int x2)) (hs : fg_12_0 x0 x1 x2 h = some o) : am_W X (d + 1) 12 0 lv [] h (fun q => q = o) := by
  unfold fg_12_0 at hs
  refine aw_iload_n (pc1 := 1) at_12_0 l1 rfl ?_
  refine aw_bipush (v := 19) (pc1 := 3) at_12_1 (by decide) rfl ?_
  by_cases c1 : ¬ x1 = 19
  · rw [if_pos c1] at hs
    refine aw_icne_t at_12_3 c1 ?_
    exact rg_12_15 x0 x1 x2 h o l0 l1 l2  hs
  · rw [if_neg c1] at hs
    refine aw_icne_f (pc1 := 6) at_12_3 c1 rfl ?_
    refine aw_iload_n (pc1 := 7) at_12_6 l2 rfl ?_
    refine aw_iconst (v := 1) (pc1 := 8) at_12_7 (by decide) rfl ?_
    by_cases c2 : ¬ x2 = 1
    · rw [if_pos c2] at hs
      refine aw_icne_t at_12_8 c2 ?_
      exact rg_12_15 x0 x1 x2 h o l0 l1 l2  hs
    · rw [if_neg c2] at hs
      refine aw_icne_f (pc1 := 11) at_12_8 c2 rfl ?_
      refine aw_iconst (v := 2) (pc1 := 12) at_12_11 (by decide) rfl ?_
      refine aw_goto at_12_12 ?_
      exact rg_12_20 x1 x2 2 h o l1 l2  hs
def fm_12 (y0 : Int32) (y1 : Int32) (y2 : Int32) (h : am_H) : Option am_O := fg_12_0 y0 y1 y2 h
theorem rm_12 {X : am_X} {d : Nat} (y0 : Int32) (y1 : Int32) (y2 : Int32) (h : am_H) (o : am_O) (hs : fm_12 y0 y1 y2 h = some o) : am_W X (d + 1) 12 0 (am_args 0 [.int y0, .int y1, .int y2]) [] h (fun q => q = o) := by
  rw [am_args_I, am_args_I, am_args_I]
  exact rg_12_0 y0 y1 y2 h o rfl rfl rfl  hs
def fg_14_31 (s0 : Int32) (h : am_H) : Option am_O := some (.inl (some (.int s0), h))
theorem rg_14_31 {X : am_X} {d : Nat} {lv : am_LV} (s0 : Int32) (h : am_H) (o : am_O) (hs : fg_14_31 s0 h = some o) : am_W X (d) 14 31 lv [(.int s0)] h (fun q => q = o) := by
  unfold fg_14_31 at hs
  cases hs
  exact aw_iret at_14_31 (by rw [rt_14]; rfl) rfl
def fg_14_0 (x0 : Int32) (h : am_H) : Option am_O := (if 7 ≤ x0 then (if 10 ≤ x0 then (if 20 ≤ x0 then (fg_14_31 3 h) else (fg_14_31 2 h)) else (fg_14_31 1 h)) else (fg_14_31 0 h))
theorem rg_14_0 {X : am_X} {d : Nat} {lv : am_LV} (x0 : Int32) (h : am_H) (o : am_O) (l0 : lv.lookup 0 = some (.int x0)) (hs : fg_14_0 x0 h = some o) : am_W X (d) 14 0 lv [] h (fun q => q = o) := by
  unfold fg_14_0 at hs
  refine aw_iload_n (pc1 := 1) at_14_0 l0 rfl ?_
  refine aw_bipush (v := 7) (pc1 := 3) at_14_1 (by decide) rfl ?_
  by_cases c1 : 7 ≤ x0
  · rw [if_pos c1] at hs
    refine aw_icge_t at_14_3 c1 ?_
    refine aw_iload_n (pc1 := 11) at_14_10 l0 rfl ?_
    refine aw_bipush (v := 10) (pc1 := 13) at_14_11 (by decide) rfl ?_
    by_cases c2 : 10 ≤ x0
    · rw [if_pos c2] at hs
      refine aw_icge_t at_14_13 c2 ?_
      refine aw_iload_n (pc1 := 21) at_14_20 l0 rfl ?_
      refine aw_bipush (v := 20) (pc1 := 23) at_14_21 (by decide) rfl ?_
      by_cases c3 : 20 ≤ x0
      · rw [if_pos c3] at hs
        refine aw_icge_t at_14_23 c3 ?_
        refine aw_iconst (v := 3) (pc1 := 31) at_14_30 (by decide) rfl ?_
        exact rg_14_31 3 h o   hs
      · rw [if_neg c3] at hs
        refine aw_icge_f (pc1 := 26) at_14_23 c3 rfl ?_
        refine aw_iconst (v := 2) (pc1 := 27) at_14_26 (by decide) rfl ?_
        refine aw_goto at_14_27 ?_
        exact rg_14_31 2 h o   hs
    · rw [if_neg c2] at hs
      refine aw_icge_f (pc1 := 16) at_14_13 c2 rfl ?_
      refine aw_iconst (v := 1) (pc1 := 17) at_14_16 (by decide) rfl ?_
      refine aw_goto at_14_17 ?_
      exact rg_14_31 1 h o   hs
  · rw [if_neg c1] at hs
    refine aw_icge_f (pc1 := 6) at_14_3 c1 rfl ?_
    refine aw_iconst (v := 0) (pc1 := 7) at_14_6 (by decide) rfl ?_
    refine aw_goto at_14_7 ?_
    exact rg_14_31 0 h o   hs
def fm_14 (y0 : Int32) (h : am_H) : Option am_O := fg_14_0 y0 h
theorem rm_14 {X : am_X} {d : Nat} (y0 : Int32) (h : am_H) (o : am_O) (hs : fm_14 y0 h = some o) : am_W X (d) 14 0 (am_args 0 [.int y0]) [] h (fun q => q = o) := by
  rw [am_args_I]
  exact rg_14_0 y0 h o rfl  hs
def fg_15_35 (s0 : Int64) (h : am_H) : Option am_O := some (.inl (some (.long s0), h))
theorem rg_15_35 {X : am_X} {d : Nat} {lv : am_LV} (s0 : Int64) (h : am_H) (o : am_O) (hs : fg_15_35 s0 h = some o) : am_W X (d) 15 35 lv [(.long s0)] h (fun q => q = o) := by
  unfold fg_15_35 at hs
  cases hs
  exact aw_lret at_15_35 rt_15 rfl
def fg_15_34 (h : am_H) : Option am_O := (fg_15_35 0 h)
theorem rg_15_34 {X : am_X} {d : Nat} {lv : am_LV} (h : am_H) (o : am_O) (hs : fg_15_34 h = some o) : am_W X (d) 15 34 lv [] h (fun q => q = o) := by
  unfold fg_15_34 at hs
  refine aw_lconst (v := 0) (pc1 := 35) at_15_34 (by decide) rfl ?_
  exact rg_15_35 0 h o   hs
def fg_15_0 (x0 : Value) (x1 : Int32) (x2 : Int32) (h : am_H) : Option am_O := (if x2 ≤ 0 then (fg_15_34 h) else (if 13 ≤ x2 then (fg_15_34 h) else (if x1 < 0 then (fg_15_34 h) else (if 6 ≤ x1 then (fg_15_34 h) else ((am_vR (am_pG 1025 x0 h)).bind fun v5 => ((am_pAL v5 ((x1 * 13) + x2) h).bind fun v7 => (fg_15_35 v7 h)))))))
theorem rg_15_0 {X : am_X} {d : Nat} {lv : am_LV} (x0 : Value) (x1 : Int32) (x2 : Int32) (h : am_H) (o : am_O) (l0 : lv.lookup 0 = some x0) (l1 : lv.lookup 1 = some (.int x1)) (l2 : lv.lookup 2 = some (.int x2)) (i0 : am_isR x0 = true) (hs : fg_15_0 x0 x1 x2 h = some o) : am_W X (d) 15 0 lv [] h (fun q => q = o) := by
  unfold fg_15_0 at hs
  refine aw_iload_n (pc1 := 1) at_15_0 l2 rfl ?_
  by_cases c1 : x2 ≤ 0
  · rw [if_pos c1] at hs
    refine aw_ifle_t at_15_1 c1 ?_
    exact rg_15_34 h o   hs
  · rw [if_neg c1] at hs
    refine aw_ifle_f (pc1 := 4) at_15_1 c1 rfl ?_
    refine aw_iload_n (pc1 := 5) at_15_4 l2 rfl ?_
    refine aw_bipush (v := 13) (pc1 := 7) at_15_5 (by decide) rfl ?_
    by_cases c2 : 13 ≤ x2
    · rw [if_pos c2] at hs
      refine aw_icge_t at_15_7 c2 ?_
      exact rg_15_34 h o   hs
    · rw [if_neg c2] at hs
      refine aw_icge_f (pc1 := 10) at_15_7 c2 rfl ?_
      refine aw_iload_n (pc1 := 11) at_15_10 l1 rfl ?_
      by_cases c3 : x1 < 0
      · rw [if_pos c3] at hs
        refine aw_iflt_t at_15_11 c3 ?_
        exact rg_15_34 h o   hs
      · rw [if_neg c3] at hs
        refine aw_iflt_f (pc1 := 14) at_15_11 c3 rfl ?_
        refine aw_iload_n (pc1 := 15) at_15_14 l1 rfl ?_
        refine aw_bipush (v := 6) (pc1 := 17) at_15_15 (by decide) rfl ?_
        by_cases c4 : 6 ≤ x1
        · rw [if_pos c4] at hs
          refine aw_icge_t at_15_17 c4 ?_
          exact rg_15_34 h o   hs
        · rw [if_neg c4] at hs
          refine aw_icge_f (pc1 := 20) at_15_17 c4 rfl ?_
          refine aw_vload_n (pc1 := 21) at_15_20 l0 i0 rfl ?_
          obtain ⟨v5, e6, hs⟩ := am_bind hs
          refine aw_pG (pc1 := 24) at_15_21 (am_vR_s e6).1 rfl ?_
          refine aw_iload_n (pc1 := 25) at_15_24 l1 rfl ?_
          refine aw_bipush (v := 13) (pc1 := 27) at_15_25 (by decide) rfl ?_
          refine aw_imul (v := (x1 * 13)) (pc1 := 28) at_15_27 rfl rfl ?_
          refine aw_iload_n (pc1 := 29) at_15_28 l2 rfl ?_
          refine aw_iadd (v := ((x1 * 13) + x2)) (pc1 := 30) at_15_29 rfl rfl ?_
          obtain ⟨v7, e8, hs⟩ := am_bind hs
          refine aw_pAL (pc1 := 31) at_15_30 e8 rfl ?_
          refine aw_goto at_15_31 ?_
          exact rg_15_35 v7 h o   hs
def fm_15 (y0 : Value) (y1 : Int32) (y2 : Int32) (h : am_H) : Option am_O := fg_15_0 y0 y1 y2 h
theorem rm_15 {X : am_X} {d : Nat} (y0 : Value) (y1 : Int32) (y2 : Int32) (h : am_H) (o : am_O) (i0 : am_isR y0 = true) (hs : fm_15 y0 y1 y2 h = some o) : am_W X (d) 15 0 (am_args 0 [y0, .int y1, .int y2]) [] h (fun q => q = o) := by
  rw [am_args_R i0, am_args_I, am_args_I]
  exact rg_15_0 y0 y1 y2 h o rfl rfl rfl i0 hs
def fg_16_6 (N : Nat) : Nat → Value → Int32 → Int32 → Int32 → Int64 → Int32 → am_H → Option am_O
  | 0 => fun _ _ _ _ _ _ _ => none
  | K + 1 => fun x0 x1 x2 x3 x4 x6 h => (if x3 ≤ x6 then some (.inl (some (.long x4), h)) else (if am_pOk 4 x0 h then am_cL true (fm_15 x0 x1 x6 h) (fun v3 h4 => (if am_pOk 4 x0 h4 then am_cL true (fm_15 x0 x2 ((x3 - x6)) h4) (fun v7 h8 => (fg_16_6 N K x0 x1 x2 x3 ((x4 + (v3 * v7))) ((x6 + 1)) h8)) else none)) else none))
theorem rg_16_6 {X : am_X} {d : Nat} {N : Nat} : ∀ (K : Nat) (x0 : Value) (x1 : Int32) (x2 : Int32) (x3 : Int32) (x4 : Int64) (x6 : Int32) (h : am_H) (o : am_O), fg_16_6 N K x0 x1 x2 x3 x4 x6 h = some o → ∀ lv : am_LV, (lv.lookup 0 = some x0) → (lv.lookup 1 = some (.int x1)) → (lv.lookup 2 = some (.int x2)) → (lv.lookup 3 = some (.int x3)) → (lv.lookup 4 = some (.long x4)) → (lv.lookup 6 = some (.int x6)) → (am_isR x0 = true) → am_W X (d + 1) 16 6 lv [] h (fun q => q = o) := by
  intro K
  induction K with
  | zero => intro x0 x1 x2 x3 x4 x6 h o hs; cases hs
  | succ K ih =>
    intro x0 x1 x2 x3 x4 x6 h o hs lv l0 l1 l2 l3 l4 l6 i0
    unfold fg_16_6 at hs
    refine aw_iload (pc1 := 8) at_16_6 l6 rfl ?_
    refine aw_iload_n (pc1 := 9) at_16_8 l3 rfl ?_
    by_cases c1 : x3 ≤ x6
    · rw [if_pos c1] at hs
      refine aw_icge_t at_16_9 c1 ?_
      refine aw_lload (pc1 := 42) at_16_40 l4 rfl ?_
      cases hs
      exact aw_lret at_16_42 rt_16 rfl
    · rw [if_neg c1] at hs
      refine aw_icge_f (pc1 := 12) at_16_9 c1 rfl ?_
      refine aw_lload (pc1 := 14) at_16_12 l4 rfl ?_
      refine aw_vload_n (pc1 := 15) at_16_14 l0 i0 rfl ?_
      refine aw_iload_n (pc1 := 16) at_16_15 l1 rfl ?_
      refine aw_iload (pc1 := 18) at_16_16 l6 rfl ?_
      obtain ⟨z2, hs⟩ := am_ift hs
      refine aw_call (t := true) (na := 3) (kd := 1) (as := [x0, (.int x1), (.int x6)]) at_16_18 rfl (congrArg (fun q => q.1) mi_15) (congrArg (fun q => q.2.1) mi_15) rfl rfl (am_ok_v mi_15 (am_hl rfl (am_ccR i0 (am_ccI (am_ccI am_cats_0))) rfl) z2) (am_hc (am_ccL am_cats_0) rfl) (fun _ => ⟨rfl, hh_16⟩) (fun o1 h9 => rm_15 x0 x1 x6 h o1 i0 h9) ?_
      rcases am_cL_s hs with ⟨v3, h4, f5, hs⟩ | hs
      · refine Or.inl ⟨_, _, f5, ?_⟩
        show am_W X _ 16 21 _ [(.long v3), (.long x4)] h4 _
        refine aw_vload_n (pc1 := 22) at_16_21 l0 i0 rfl ?_
        refine aw_iload_n (pc1 := 23) at_16_22 l2 rfl ?_
        refine aw_iload_n (pc1 := 24) at_16_23 l3 rfl ?_
        refine aw_iload (pc1 := 26) at_16_24 l6 rfl ?_
        refine aw_isub (v := (x3 - x6)) (pc1 := 27) at_16_26 rfl rfl ?_
        obtain ⟨z6, hs⟩ := am_ift hs
        refine aw_call (t := true) (na := 3) (kd := 1) (as := [x0, (.int x2), (.int (x3 - x6))]) at_16_27 rfl (congrArg (fun q => q.1) mi_15) (congrArg (fun q => q.2.1) mi_15) rfl rfl (am_ok_v mi_15 (am_hl rfl (am_ccR i0 (am_ccI (am_ccI am_cats_0))) rfl) z6) (am_hc (am_ccL (am_ccL am_cats_0)) rfl) (fun _ => ⟨rfl, hh_16⟩) (fun o1 h9 => rm_15 x0 x2 ((x3 - x6)) h4 o1 i0 h9) ?_
        rcases am_cL_s hs with ⟨v7, h8, f9, hs⟩ | hs
        · refine Or.inl ⟨_, _, f9, ?_⟩
          show am_W X _ 16 30 _ [(.long v7), (.long v3), (.long x4)] h8 _
          refine aw_lmul (v := (v3 * v7)) (pc1 := 31) at_16_30 rfl rfl ?_
          refine aw_ladd (v := (x4 + (v3 * v7))) (pc1 := 32) at_16_31 rfl rfl ?_
          refine aw_lstore (lv1 := am_put2 _ 4 _) (pc1 := 34) at_16_32 rfl rfl ?_
          refine aw_iinc (v := (x6 + 1)) (c := 1) (lv1 := am_put1 _ 6 _) (pc1 := 37) at_16_34 (am_lk2 l6 rfl rfl) (by decide) rfl rfl rfl ?_
          refine aw_goto at_16_37 ?_
          exact ih x0 x1 x2 x3 ((x4 + (v3 * v7))) ((x6 + 1)) h8 o hs _ (am_lk1 (am_lk2 l0 rfl rfl) rfl rfl) (am_lk1 (am_lk2 l1 rfl rfl) rfl rfl) (am_lk1 (am_lk2 l2 rfl rfl) rfl rfl) (am_lk1 (am_lk2 l3 rfl rfl) rfl rfl) (am_lk1 am_lk02 rfl rfl) am_lk0 i0
        · exact Or.inr hs
      · exact Or.inr hs
def fg_16_0 (N : Nat) (x0 : Value) (x1 : Int32) (x2 : Int32) (x3 : Int32) (h : am_H) : Option am_O := (fg_16_6 N N x0 x1 x2 x3 0 1 h)
theorem rg_16_0 {X : am_X} {d : Nat} {N : Nat} {lv : am_LV} (x0 : Value) (x1 : Int32) (x2 : Int32) (x3 : Int32) (h : am_H) (o : am_O) (l0 : lv.lookup 0 = some x0) (l1 : lv.lookup 1 = some (.int x1)) (l2 : lv.lookup 2 = some (.int x2)) (l3 : lv.lookup 3 = some (.int x3)) (i0 : am_isR x0 = true) (hs : fg_16_0 N x0 x1 x2 x3 h = some o) : am_W X (d + 1) 16 0 lv [] h (fun q => q = o) := by
  unfold fg_16_0 at hs
  refine aw_lconst (v := 0) (pc1 := 1) at_16_0 (by decide) rfl ?_
  refine aw_lstore (lv1 := am_put2 _ 4 _) (pc1 := 3) at_16_1 rfl rfl ?_
  refine aw_iconst (v := 1) (pc1 := 4) at_16_3 (by decide) rfl ?_
  refine aw_istore (lv1 := am_put1 _ 6 _) (pc1 := 6) at_16_4 rfl rfl ?_
  exact rg_16_6 N x0 x1 x2 x3 0 1 h o hs _ (am_lk1 (am_lk2 l0 rfl rfl) rfl rfl) (am_lk1 (am_lk2 l1 rfl rfl) rfl rfl) (am_lk1 (am_lk2 l2 rfl rfl) rfl rfl) (am_lk1 (am_lk2 l3 rfl rfl) rfl rfl) (am_lk1 am_lk02 rfl rfl) am_lk0 i0
def fm_16 (N : Nat) (y0 : Value) (y1 : Int32) (y2 : Int32) (y3 : Int32) (h : am_H) : Option am_O := fg_16_0 N y0 y1 y2 y3 h
theorem rm_16 {X : am_X} {d : Nat} {N : Nat} (y0 : Value) (y1 : Int32) (y2 : Int32) (y3 : Int32) (h : am_H) (o : am_O) (i0 : am_isR y0 = true) (hs : fm_16 N y0 y1 y2 y3 h = some o) : am_W X (d + 1) 16 0 (am_args 0 [y0, .int y1, .int y2, .int y3]) [] h (fun q => q = o) := by
  rw [am_args_R i0, am_args_I, am_args_I, am_args_I]
  exact rg_16_0 y0 y1 y2 y3 h o rfl rfl rfl rfl i0 hs
def fg_9_105 (N : Nat) : Nat → Value → Int32 → Int32 → Int32 → Int64 → Int32 → am_H → Option am_O
  | 0 => fun _ _ _ _ _ _ _ => none
  | K + 1 => fun x0 x3 x4 x5 x6 x8 h => (if (x3 - 1) ≤ x8 then some (.inl (some (.long x6), h)) else (if am_pOk 4 x0 h then am_cL true (fm_15 x0 x4 x8 h) (fun v3 h4 => (if am_pOk 4 x0 h4 then am_cL true (fm_16 N x0 x5 x5 (((x3 - 1) - x8)) h4) (fun v7 h8 => (fg_9_105 N K x0 x3 x4 x5 ((x6 + (v3 * v7))) ((x8 + 1)) h8)) else none)) else none))
theorem rg_9_105 {X : am_X} {d : Nat} {N : Nat} : ∀ (K : Nat) (x0 : Value) (x3 : Int32) (x4 : Int32) (x5 : Int32) (x6 : Int64) (x8 : Int32) (h : am_H) (o : am_O), fg_9_105 N K x0 x3 x4 x5 x6 x8 h = some o → ∀ lv : am_LV, (lv.lookup 0 = some x0) → (lv.lookup 3 = some (.int x3)) → (lv.lookup 4 = some (.int x4)) → (lv.lookup 5 = some (.int x5)) → (lv.lookup 6 = some (.long x6)) → (lv.lookup 8 = some (.int x8)) → (am_isR x0 = true) → am_W X (d + 2) 9 105 lv [] h (fun q => q = o) := by
  intro K
  induction K with
  | zero => intro x0 x3 x4 x5 x6 x8 h o hs; cases hs
  | succ K ih =>
    intro x0 x3 x4 x5 x6 x8 h o hs lv l0 l3 l4 l5 l6 l8 i0
    unfold fg_9_105 at hs
    refine aw_iload (pc1 := 107) at_9_105 l8 rfl ?_
    refine aw_iload_n (pc1 := 108) at_9_107 l3 rfl ?_
    refine aw_iconst (v := 1) (pc1 := 109) at_9_108 (by decide) rfl ?_
    refine aw_isub (v := (x3 - 1)) (pc1 := 110) at_9_109 rfl rfl ?_
    by_cases c1 : (x3 - 1) ≤ x8
    · rw [if_pos c1] at hs
      refine aw_icge_t at_9_110 c1 ?_
      refine aw_lload (pc1 := 149) at_9_147 l6 rfl ?_
      cases hs
      exact aw_lret at_9_149 rt_9 rfl
    · rw [if_neg c1] at hs
      refine aw_icge_f (pc1 := 113) at_9_110 c1 rfl ?_
      refine aw_lload (pc1 := 115) at_9_113 l6 rfl ?_
      refine aw_vload_n (pc1 := 116) at_9_115 l0 i0 rfl ?_
      refine aw_iload (pc1 := 118) at_9_116 l4 rfl ?_
      refine aw_iload (pc1 := 120) at_9_118 l8 rfl ?_
      obtain ⟨z2, hs⟩ := am_ift hs
      refine aw_call (t := true) (na := 3) (kd := 1) (as := [x0, (.int x4), (.int x8)]) at_9_120 rfl (congrArg (fun q => q.1) mi_15) (congrArg (fun q => q.2.1) mi_15) rfl rfl (am_ok_v mi_15 (am_hl rfl (am_ccR i0 (am_ccI (am_ccI am_cats_0))) rfl) z2) (am_hc (am_ccL am_cats_0) rfl) (fun _ => ⟨rfl, hh_9⟩) (fun o1 h9 => rm_15 x0 x4 x8 h o1 i0 h9) ?_
      rcases am_cL_s hs with ⟨v3, h4, f5, hs⟩ | hs
      · refine Or.inl ⟨_, _, f5, ?_⟩
        show am_W X _ 9 123 _ [(.long v3), (.long x6)] h4 _
        refine aw_vload_n (pc1 := 124) at_9_123 l0 i0 rfl ?_
        refine aw_iload (pc1 := 126) at_9_124 l5 rfl ?_
        refine aw_iload (pc1 := 128) at_9_126 l5 rfl ?_
        refine aw_iload_n (pc1 := 129) at_9_128 l3 rfl ?_
        refine aw_iconst (v := 1) (pc1 := 130) at_9_129 (by decide) rfl ?_
        refine aw_isub (v := (x3 - 1)) (pc1 := 131) at_9_130 rfl rfl ?_
        refine aw_iload (pc1 := 133) at_9_131 l8 rfl ?_
        refine aw_isub (v := ((x3 - 1) - x8)) (pc1 := 134) at_9_133 rfl rfl ?_
        obtain ⟨z6, hs⟩ := am_ift hs
        refine aw_call (t := true) (na := 4) (kd := 1) (as := [x0, (.int x5), (.int x5), (.int ((x3 - 1) - x8))]) at_9_134 rfl (congrArg (fun q => q.1) mi_16) (congrArg (fun q => q.2.1) mi_16) rfl rfl (am_ok_v mi_16 (am_hl rfl (am_ccR i0 (am_ccI (am_ccI (am_ccI am_cats_0)))) rfl) z6) (am_hc (am_ccL (am_ccL am_cats_0)) rfl) (fun _ => ⟨rfl, hh_9⟩) (fun o1 h9 => rm_16 x0 x5 x5 (((x3 - 1) - x8)) h4 o1 i0 h9) ?_
        rcases am_cL_s hs with ⟨v7, h8, f9, hs⟩ | hs
        · refine Or.inl ⟨_, _, f9, ?_⟩
          show am_W X _ 9 137 _ [(.long v7), (.long v3), (.long x6)] h8 _
          refine aw_lmul (v := (v3 * v7)) (pc1 := 138) at_9_137 rfl rfl ?_
          refine aw_ladd (v := (x6 + (v3 * v7))) (pc1 := 139) at_9_138 rfl rfl ?_
          refine aw_lstore (lv1 := am_put2 _ 6 _) (pc1 := 141) at_9_139 rfl rfl ?_
          refine aw_iinc (v := (x8 + 1)) (c := 1) (lv1 := am_put1 _ 8 _) (pc1 := 144) at_9_141 (am_lk2 l8 rfl rfl) (by decide) rfl rfl rfl ?_
          refine aw_goto at_9_144 ?_
          exact ih x0 x3 x4 x5 ((x6 + (v3 * v7))) ((x8 + 1)) h8 o hs _ (am_lk1 (am_lk2 l0 rfl rfl) rfl rfl) (am_lk1 (am_lk2 l3 rfl rfl) rfl rfl) (am_lk1 (am_lk2 l4 rfl rfl) rfl rfl) (am_lk1 (am_lk2 l5 rfl rfl) rfl rfl) (am_lk1 am_lk02 rfl rfl) am_lk0 i0
        · exact Or.inr hs
      · exact Or.inr hs
def fg_9_76 (N : Nat) (s0 : Int64) (h : am_H) : Option am_O := some (.inl (some (.long s0), h))
theorem rg_9_76 {X : am_X} {d : Nat} {N : Nat} {lv : am_LV} (s0 : Int64) (h : am_H) (o : am_O) (hs : fg_9_76 N s0 h = some o) : am_W X (d + 2) 9 76 lv [(.long s0)] h (fun q => q = o) := by
  unfold fg_9_76 at hs
  cases hs
  exact aw_lret at_9_76 rt_9 rfl
def fg_9_0 (N : Nat) (x0 : Value) (x1 : Int32) (x2 : Int32) (x3 : Int32) (h : am_H) : Option am_O := am_cI false (fm_10 x1 x2 h) (fun v1 h2 => (if ¬ v1 = 0 then am_cI false (fm_12 x1 x2 0 h2) (fun v5 h6 => am_cI false (fm_12 x1 x2 1 h6) (fun v8 h9 => am_cI false (fm_14 x2 h9) (fun v11 h12 => (if v11 = 0 then (if x3 ≤ 1 then (if ¬ x2 = 0 then (fg_9_76 N 1 h12) else (fg_9_76 N 10 h12)) else (fg_9_76 N 0 h12)) else (if v11 = 1 then (if am_pOk 4 x0 h12 then am_cL true (fm_15 x0 v5 ((x3 - 1)) h12) (fun v19 h20 => some (.inl (some (.long v19), h20))) else none) else (if v11 = 2 then (if am_pOk 4 x0 h12 then am_cL true (fm_16 N x0 v5 v8 ((x3 - 1)) h12) (fun v24 h25 => some (.inl (some (.long v24), h25))) else none) else (fg_9_105 N N x0 x3 v5 v8 0 1 h12))))))) else some (.inl (some (.long 0), h2))))
theorem rg_9_0 {X : am_X} {d : Nat} {N : Nat} {lv : am_LV} (x0 : Value) (x1 : Int32) (x2 : Int32) (x3 : Int32) (h : am_H) (o : am_O) (l0 : lv.lookup 0 = some x0) (l1 : lv.lookup 1 = some (.int x1)) (l2 : lv.lookup 2 = some (.int x2)) (l3 : lv.lookup 3 = some (.int x3)) (i0 : am_isR x0 = true) (hs : fg_9_0 N x0 x1 x2 x3 h = some o) : am_W X (d + 2) 9 0 lv [] h (fun q => q = o) := by
  unfold fg_9_0 at hs
  refine aw_iload_n (pc1 := 1) at_9_0 l1 rfl ?_
  refine aw_iload_n (pc1 := 2) at_9_1 l2 rfl ?_
  refine aw_call (t := false) (na := 2) (kd := 0) (as := [(.int x1), (.int x2)]) at_9_2 rfl (congrArg (fun q => q.1) mi_10) (congrArg (fun q => q.2.1) mi_10) rfl rfl (am_ok_s mi_10 (am_hl rfl (am_ccI (am_ccI am_cats_0)) rfl)) (am_hc am_cats_0 rfl) (fun h9 => by cases h9) (fun o1 h9 => rm_10 x1 x2 h o1  h9) ?_
  rcases am_cI_s hs with ⟨v1, h2, f3, hs⟩ | hs
  · refine Or.inl ⟨_, _, f3, ?_⟩
    show am_W X _ 9 5 _ [(.int v1)] h2 _
    by_cases c4 : ¬ v1 = 0
    · rw [if_pos c4] at hs
      refine aw_ifne_t at_9_5 c4 ?_
      refine aw_iload_n (pc1 := 11) at_9_10 l1 rfl ?_
      refine aw_iload_n (pc1 := 12) at_9_11 l2 rfl ?_
      refine aw_iconst (v := 0) (pc1 := 13) at_9_12 (by decide) rfl ?_
      refine aw_call (t := false) (na := 3) (kd := 0) (as := [(.int x1), (.int x2), (.int 0)]) at_9_13 rfl (congrArg (fun q => q.1) mi_12) (congrArg (fun q => q.2.1) mi_12) rfl rfl (am_ok_s mi_12 (am_hl rfl (am_ccI (am_ccI (am_ccI am_cats_0))) rfl)) (am_hc am_cats_0 rfl) (fun h9 => by cases h9) (fun o1 h9 => rm_12 x1 x2 0 h2 o1  h9) ?_
      rcases am_cI_s hs with ⟨v5, h6, f7, hs⟩ | hs
      · refine Or.inl ⟨_, _, f7, ?_⟩
        show am_W X _ 9 16 _ [(.int v5)] h6 _
        refine aw_istore (lv1 := am_put1 _ 4 _) (pc1 := 18) at_9_16 rfl rfl ?_
        refine aw_iload_n (pc1 := 19) at_9_18 (am_lk1 l1 rfl rfl) rfl ?_
        refine aw_iload_n (pc1 := 20) at_9_19 (am_lk1 l2 rfl rfl) rfl ?_
        refine aw_iconst (v := 1) (pc1 := 21) at_9_20 (by decide) rfl ?_
        refine aw_call (t := false) (na := 3) (kd := 0) (as := [(.int x1), (.int x2), (.int 1)]) at_9_21 rfl (congrArg (fun q => q.1) mi_12) (congrArg (fun q => q.2.1) mi_12) rfl rfl (am_ok_s mi_12 (am_hl rfl (am_ccI (am_ccI (am_ccI am_cats_0))) rfl)) (am_hc am_cats_0 rfl) (fun h9 => by cases h9) (fun o1 h9 => rm_12 x1 x2 1 h6 o1  h9) ?_
        rcases am_cI_s hs with ⟨v8, h9, f10, hs⟩ | hs
        · refine Or.inl ⟨_, _, f10, ?_⟩
          show am_W X _ 9 24 _ [(.int v8)] h9 _
          refine aw_istore (lv1 := am_put1 _ 5 _) (pc1 := 26) at_9_24 rfl rfl ?_
          refine aw_iload_n (pc1 := 27) at_9_26 (am_lk1 (am_lk1 l2 rfl rfl) rfl rfl) rfl ?_
          refine aw_call (t := false) (na := 1) (kd := 0) (as := [(.int x2)]) at_9_27 rfl (congrArg (fun q => q.1) mi_14) (congrArg (fun q => q.2.1) mi_14) rfl rfl (am_ok_s mi_14 (am_hl rfl (am_ccI am_cats_0) rfl)) (am_hc am_cats_0 rfl) (fun h9 => by cases h9) (fun o1 h9 => rm_14 x2 h9 o1  h9) ?_
          rcases am_cI_s hs with ⟨v11, h12, f13, hs⟩ | hs
          · refine Or.inl ⟨_, _, f13, ?_⟩
            show am_W X _ 9 30 _ [(.int v11)] h12 _
            by_cases c14 : v11 = 0
            · rw [if_pos c14] at hs
              refine aw_tsw (t := 56) at_9_30 (by rw [c14]; rfl) ?_
              refine aw_iload_n (pc1 := 57) at_9_56 (am_lk1 (am_lk1 l3 rfl rfl) rfl rfl) rfl ?_
              refine aw_iconst (v := 1) (pc1 := 58) at_9_57 (by decide) rfl ?_
              by_cases c15 : x3 ≤ 1
              · rw [if_pos c15] at hs
                refine aw_icle_t at_9_58 c15 ?_
                refine aw_iload_n (pc1 := 66) at_9_65 (am_lk1 (am_lk1 l2 rfl rfl) rfl rfl) rfl ?_
                by_cases c16 : ¬ x2 = 0
                · rw [if_pos c16] at hs
                  refine aw_ifne_t at_9_66 c16 ?_
                  refine aw_lconst (v := 1) (pc1 := 76) at_9_75 (by decide) rfl ?_
                  exact rg_9_76 1 h12 o   hs
                · rw [if_neg c16] at hs
                  refine aw_ifne_f (pc1 := 69) at_9_66 c16 rfl ?_
                  refine aw_ldc2 (v := 10) (pc1 := 72) at_9_69 rfl rfl ?_
                  refine aw_goto at_9_72 ?_
                  exact rg_9_76 10 h12 o   hs
              · rw [if_neg c15] at hs
                refine aw_icle_f (pc1 := 61) at_9_58 c15 rfl ?_
                refine aw_lconst (v := 0) (pc1 := 62) at_9_61 (by decide) rfl ?_
                refine aw_goto at_9_62 ?_
                exact rg_9_76 0 h12 o   hs
            · rw [if_neg c14] at hs
              by_cases c17 : v11 = 1
              · rw [if_pos c17] at hs
                refine aw_tsw (t := 77) at_9_30 (by rw [c17]; rfl) ?_
                refine aw_vload_n (pc1 := 78) at_9_77 (am_lk1 (am_lk1 l0 rfl rfl) rfl rfl) i0 rfl ?_
                refine aw_iload (pc1 := 80) at_9_78 (am_lk1 am_lk0 rfl rfl) rfl ?_
                refine aw_iload_n (pc1 := 81) at_9_80 (am_lk1 (am_lk1 l3 rfl rfl) rfl rfl) rfl ?_
                refine aw_iconst (v := 1) (pc1 := 82) at_9_81 (by decide) rfl ?_
                refine aw_isub (v := (x3 - 1)) (pc1 := 83) at_9_82 rfl rfl ?_
                obtain ⟨z18, hs⟩ := am_ift hs
                refine aw_call (t := true) (na := 3) (kd := 1) (as := [x0, (.int v5), (.int (x3 - 1))]) at_9_83 rfl (congrArg (fun q => q.1) mi_15) (congrArg (fun q => q.2.1) mi_15) rfl rfl (am_ok_v mi_15 (am_hl rfl (am_ccR i0 (am_ccI (am_ccI am_cats_0))) rfl) z18) (am_hc am_cats_0 rfl) (fun _ => ⟨rfl, hh_9⟩) (fun o1 h9 => rm_15 x0 v5 ((x3 - 1)) h12 o1 i0 h9) ?_
                rcases am_cL_s hs with ⟨v19, h20, f21, hs⟩ | hs
                · refine Or.inl ⟨_, _, f21, ?_⟩
                  show am_W X _ 9 86 _ [(.long v19)] h20 _
                  cases hs
                  exact aw_lret at_9_86 rt_9 rfl
                · exact Or.inr hs
              · rw [if_neg c17] at hs
                by_cases c22 : v11 = 2
                · rw [if_pos c22] at hs
                  refine aw_tsw (t := 87) at_9_30 (by rw [c22]; rfl) ?_
                  refine aw_vload_n (pc1 := 88) at_9_87 (am_lk1 (am_lk1 l0 rfl rfl) rfl rfl) i0 rfl ?_
                  refine aw_iload (pc1 := 90) at_9_88 (am_lk1 am_lk0 rfl rfl) rfl ?_
                  refine aw_iload (pc1 := 92) at_9_90 am_lk0 rfl ?_
                  refine aw_iload_n (pc1 := 93) at_9_92 (am_lk1 (am_lk1 l3 rfl rfl) rfl rfl) rfl ?_
                  refine aw_iconst (v := 1) (pc1 := 94) at_9_93 (by decide) rfl ?_
                  refine aw_isub (v := (x3 - 1)) (pc1 := 95) at_9_94 rfl rfl ?_
                  obtain ⟨z23, hs⟩ := am_ift hs
                  refine aw_call (t := true) (na := 4) (kd := 1) (as := [x0, (.int v5), (.int v8), (.int (x3 - 1))]) at_9_95 rfl (congrArg (fun q => q.1) mi_16) (congrArg (fun q => q.2.1) mi_16) rfl rfl (am_ok_v mi_16 (am_hl rfl (am_ccR i0 (am_ccI (am_ccI (am_ccI am_cats_0)))) rfl) z23) (am_hc am_cats_0 rfl) (fun _ => ⟨rfl, hh_9⟩) (fun o1 h9 => rm_16 x0 v5 v8 ((x3 - 1)) h12 o1 i0 h9) ?_
                  rcases am_cL_s hs with ⟨v24, h25, f26, hs⟩ | hs
                  · refine Or.inl ⟨_, _, f26, ?_⟩
                    show am_W X _ 9 98 _ [(.long v24)] h25 _
                    cases hs
                    exact aw_lret at_9_98 rt_9 rfl
                  · exact Or.inr hs
                · rw [if_neg c22] at hs
                  have tc14 : v11.toInt ≠ 0 := fun e9 => c14 (Int32.toInt_inj.mp e9)
                  have tc17 : v11.toInt ≠ 1 := fun e9 => c17 (Int32.toInt_inj.mp e9)
                  have tc22 : v11.toInt ≠ 2 := fun e9 => c22 (Int32.toInt_inj.mp e9)
                  refine aw_tsw (t := 99) at_9_30 (am_tsw_d (by omega)) ?_
                  refine aw_lconst (v := 0) (pc1 := 100) at_9_99 (by decide) rfl ?_
                  refine aw_lstore (lv1 := am_put2 _ 6 _) (pc1 := 102) at_9_100 rfl rfl ?_
                  refine aw_iconst (v := 1) (pc1 := 103) at_9_102 (by decide) rfl ?_
                  refine aw_istore (lv1 := am_put1 _ 8 _) (pc1 := 105) at_9_103 rfl rfl ?_
                  exact rg_9_105 N x0 x3 v5 v8 0 1 h12 o hs _ (am_lk1 (am_lk2 (am_lk1 (am_lk1 l0 rfl rfl) rfl rfl) rfl rfl) rfl rfl) (am_lk1 (am_lk2 (am_lk1 (am_lk1 l3 rfl rfl) rfl rfl) rfl rfl) rfl rfl) (am_lk1 (am_lk2 (am_lk1 am_lk0 rfl rfl) rfl rfl) rfl rfl) (am_lk1 (am_lk2 am_lk0 rfl rfl) rfl rfl) (am_lk1 am_lk02 rfl rfl) am_lk0 i0
          · exact Or.inr hs
        · exact Or.inr hs
      · exact Or.inr hs
    · rw [if_neg c4] at hs
      refine aw_ifne_f (pc1 := 8) at_9_5 c4 rfl ?_
      refine aw_lconst (v := 0) (pc1 := 9) at_9_8 (by decide) rfl ?_
      cases hs
      exact aw_lret at_9_9 rt_9 rfl
  · exact Or.inr hs
def fm_9 (N : Nat) (y0 : Value) (y1 : Int32) (y2 : Int32) (y3 : Int32) (h : am_H) : Option am_O := fg_9_0 N y0 y1 y2 y3 h
theorem rm_9 {X : am_X} {d : Nat} {N : Nat} (y0 : Value) (y1 : Int32) (y2 : Int32) (y3 : Int32) (h : am_H) (o : am_O) (i0 : am_isR y0 = true) (hs : fm_9 N y0 y1 y2 y3 h = some o) : am_W X (d + 2) 9 0 (am_args 0 [y0, .int y1, .int y2, .int y3]) [] h (fun q => q = o) := by
  rw [am_args_R i0, am_args_I, am_args_I, am_args_I]
  exact rg_9_0 y0 y1 y2 y3 h o rfl rfl rfl rfl i0 hs
def fg_8_79 (N : Nat) (rec_71 : Value → Int32 → am_H → Option am_O) : Nat → Value → Int32 → Int32 → am_H → Option am_O
  | 0 => fun _ _ _ _ => none
  | K + 1 => fun x0 x1 x2 h => (if 126 ≤ x2 then (rec_71 x0 ((x1 + 1)) h) else (if am_pOk 4 x0 h then am_cL true (fm_9 N x0 ((x2 / 21)) ((x2 - x2 / 21 * 21)) x1 h) (fun v3 h4 => ((am_vR (am_pG 1024 x0 h4)).bind fun v6 => ((am_pSL v6 ((x2 * 13) + x1) v3 h4).bind fun h8 => ((am_vR (am_pG 1025 x0 h8)).bind fun v10 => ((am_pAL v10 (((x2 / 21) * 13) + x1) h8).bind fun v12 => ((am_pSL v10 (((x2 / 21) * 13) + x1) (v12 + v3) h8).bind fun h14 => (fg_8_79 N rec_71 K x0 x1 ((x2 + 1)) h14))))))) else none))
theorem rg_8_79 {X : am_X} {d : Nat} {N : Nat} {rec_71 : Value → Int32 → am_H → Option am_O} (q_71 : ∀ (x0 : Value) (x1 : Int32) (h : am_H) (o : am_O), rec_71 x0 x1 h = some o → ∀ lv : am_LV, (lv.lookup 0 = some x0) → (lv.lookup 1 = some (.int x1)) → (am_isR x0 = true) → am_W X (d + 3) 8 71 lv [] h (fun q => q = o)) : ∀ (K : Nat) (x0 : Value) (x1 : Int32) (x2 : Int32) (h : am_H) (o : am_O), fg_8_79 N rec_71 K x0 x1 x2 h = some o → ∀ lv : am_LV, (lv.lookup 0 = some x0) → (lv.lookup 1 = some (.int x1)) → (lv.lookup 2 = some (.int x2)) → (am_isR x0 = true) → am_W X (d + 3) 8 79 lv [] h (fun q => q = o) := by
  intro K
  induction K with
  | zero => intro x0 x1 x2 h o hs; cases hs
  | succ K ih =>
    intro x0 x1 x2 h o hs lv l0 l1 l2 i0
    unfold fg_8_79 at hs
    refine aw_iload_n (pc1 := 80) at_8_79 l2 rfl ?_
    refine aw_bipush (v := 126) (pc1 := 82) at_8_80 (by decide) rfl ?_
    by_cases c1 : 126 ≤ x2
    · rw [if_pos c1] at hs
      refine aw_icge_t at_8_82 c1 ?_
      refine aw_iinc (v := (x1 + 1)) (c := 1) (lv1 := am_put1 _ 1 _) (pc1 := 138) at_8_135 l1 (by decide) rfl rfl rfl ?_
      refine aw_goto at_8_138 ?_
      exact q_71 x0 ((x1 + 1)) h o hs _ (am_lk1 l0 rfl (by rw [am_k1 i0]; rfl)) am_lk0 i0
    · rw [if_neg c1] at hs
      refine aw_icge_f (pc1 := 85) at_8_82 c1 rfl ?_
      refine aw_vload_n (pc1 := 86) at_8_85 l0 i0 rfl ?_
      refine aw_iload_n (pc1 := 87) at_8_86 l2 rfl ?_
      refine aw_bipush (v := 21) (pc1 := 89) at_8_87 (by decide) rfl ?_
      refine aw_idiv (v := (x2 / 21)) (pc1 := 90) at_8_89 (by decide) rfl rfl ?_
      refine aw_iload_n (pc1 := 91) at_8_90 l2 rfl ?_
      refine aw_bipush (v := 21) (pc1 := 93) at_8_91 (by decide) rfl ?_
      refine aw_irem (v := (x2 - x2 / 21 * 21)) (pc1 := 94) at_8_93 (by decide) rfl rfl ?_
      refine aw_iload_n (pc1 := 95) at_8_94 l1 rfl ?_
      obtain ⟨z2, hs⟩ := am_ift hs
      refine aw_call (t := true) (na := 4) (kd := 1) (as := [x0, (.int (x2 / 21)), (.int (x2 - x2 / 21 * 21)), (.int x1)]) at_8_95 rfl (congrArg (fun q => q.1) mi_9) (congrArg (fun q => q.2.1) mi_9) rfl rfl (am_ok_v mi_9 (am_hl rfl (am_ccR i0 (am_ccI (am_ccI (am_ccI am_cats_0)))) rfl) z2) (am_hc am_cats_0 rfl) (fun _ => ⟨rfl, hh_8⟩) (fun o1 h9 => rm_9 x0 ((x2 / 21)) ((x2 - x2 / 21 * 21)) x1 h o1 i0 h9) ?_
      rcases am_cL_s hs with ⟨v3, h4, f5, hs⟩ | hs
      · refine Or.inl ⟨_, _, f5, ?_⟩
        show am_W X _ 8 98 _ [(.long v3)] h4 _
        refine aw_lstore_n (lv1 := am_put2 _ 3 _) (pc1 := 99) at_8_98 rfl rfl ?_
        refine aw_vload_n (pc1 := 100) at_8_99 (am_lk2 l0 rfl rfl) i0 rfl ?_
        obtain ⟨v6, e7, hs⟩ := am_bind hs
        refine aw_pG (pc1 := 103) at_8_100 (am_vR_s e7).1 rfl ?_
        refine aw_iload_n (pc1 := 104) at_8_103 (am_lk2 l2 rfl rfl) rfl ?_
        refine aw_bipush (v := 13) (pc1 := 106) at_8_104 (by decide) rfl ?_
        refine aw_imul (v := (x2 * 13)) (pc1 := 107) at_8_106 rfl rfl ?_
        refine aw_iload_n (pc1 := 108) at_8_107 (am_lk2 l1 rfl rfl) rfl ?_
        refine aw_iadd (v := ((x2 * 13) + x1)) (pc1 := 109) at_8_108 rfl rfl ?_
        refine aw_lload_n (pc1 := 110) at_8_109 am_lk02 rfl ?_
        obtain ⟨h8, e9, hs⟩ := am_bind hs
        refine aw_pSL (pc1 := 111) at_8_110 e9 rfl ?_
        refine aw_vload_n (pc1 := 112) at_8_111 (am_lk2 l0 rfl rfl) i0 rfl ?_
        obtain ⟨v10, e11, hs⟩ := am_bind hs
        refine aw_pG (pc1 := 115) at_8_112 (am_vR_s e11).1 rfl ?_
        refine aw_iload_n (pc1 := 116) at_8_115 (am_lk2 l2 rfl rfl) rfl ?_
        refine aw_bipush (v := 21) (pc1 := 118) at_8_116 (by decide) rfl ?_
        refine aw_idiv (v := (x2 / 21)) (pc1 := 119) at_8_118 (by decide) rfl rfl ?_
        refine aw_bipush (v := 13) (pc1 := 121) at_8_119 (by decide) rfl ?_
        refine aw_imul (v := ((x2 / 21) * 13)) (pc1 := 122) at_8_121 rfl rfl ?_
        refine aw_iload_n (pc1 := 123) at_8_122 (am_lk2 l1 rfl rfl) rfl ?_
        refine aw_iadd (v := (((x2 / 21) * 13) + x1)) (pc1 := 124) at_8_123 rfl rfl ?_
        refine aw_vdup2 (pc1 := 125) at_8_124 (am_vR_s e11).2 rfl ?_
        obtain ⟨v12, e13, hs⟩ := am_bind hs
        refine aw_pAL (pc1 := 126) at_8_125 e13 rfl ?_
        refine aw_lload_n (pc1 := 127) at_8_126 am_lk02 rfl ?_
        refine aw_ladd (v := (v12 + v3)) (pc1 := 128) at_8_127 rfl rfl ?_
        obtain ⟨h14, e15, hs⟩ := am_bind hs
        refine aw_pSL (pc1 := 129) at_8_128 e15 rfl ?_
        refine aw_iinc (v := (x2 + 1)) (c := 1) (lv1 := am_put1 _ 2 _) (pc1 := 132) at_8_129 (am_lk2 l2 rfl rfl) (by decide) rfl rfl rfl ?_
        refine aw_goto at_8_132 ?_
        exact ih x0 x1 ((x2 + 1)) h14 o hs _ (am_lk1 (am_lk2 l0 rfl rfl) rfl rfl) (am_lk1 (am_lk2 l1 rfl rfl) rfl rfl) am_lk0 i0
      · exact Or.inr hs
def fg_8_71 (N : Nat) : Nat → Value → Int32 → am_H → Option am_O
  | 0 => fun _ _ _ => none
  | K + 1 => fun x0 x1 h => (if 13 ≤ x1 then some (.inl (none, h)) else (fg_8_79 N (fg_8_71 N K) N x0 x1 0 h))
theorem rg_8_71 {X : am_X} {d : Nat} {N : Nat} : ∀ (K : Nat) (x0 : Value) (x1 : Int32) (h : am_H) (o : am_O), fg_8_71 N K x0 x1 h = some o → ∀ lv : am_LV, (lv.lookup 0 = some x0) → (lv.lookup 1 = some (.int x1)) → (am_isR x0 = true) → am_W X (d + 3) 8 71 lv [] h (fun q => q = o) := by
  intro K
  induction K with
  | zero => intro x0 x1 h o hs; cases hs
  | succ K ih =>
    intro x0 x1 h o hs lv l0 l1 i0
    unfold fg_8_71 at hs
    refine aw_iload_n (pc1 := 72) at_8_71 l1 rfl ?_
    refine aw_bipush (v := 13) (pc1 := 74) at_8_72 (by decide) rfl ?_
    by_cases c1 : 13 ≤ x1
    · rw [if_pos c1] at hs
      refine aw_icge_t at_8_74 c1 ?_
      cases hs
      exact aw_vret at_8_141 rt_8 rfl
    · rw [if_neg c1] at hs
      refine aw_icge_f (pc1 := 77) at_8_74 c1 rfl ?_
      refine aw_iconst (v := 0) (pc1 := 78) at_8_77 (by decide) rfl ?_
      refine aw_istore_n (lv1 := am_put1 _ 2 _) (pc1 := 79) at_8_78 rfl rfl ?_
      exact rg_8_79 (fun z0 z1 h o hs => ih z0 z1 h o hs) N x0 x1 0 h o hs _ (am_lk1 l0 rfl rfl) (am_lk1 l1 rfl rfl) am_lk0 i0
def fg_8_0 (N : Nat) (x0 : Value) (h : am_H) : Option am_O := (if am_pRf x0 then ((am_pNew 1 1638 h).bind fun h2 => ((am_pP 1024 x0 (Value.ref h.length) h2).bind fun h4 => ((am_pNew 1 78 h4).bind fun h6 => ((am_pP 1025 x0 (Value.ref h4.length) h6).bind fun h8 => ((am_pObj 7 h8).bind fun h10 => (if am_pOk 7 (Value.ref h8.length) h10 then am_cV false (fm_3 ((Value.ref h8.length)) h10) (fun h14 => ((am_pP 1026 x0 (Value.ref h8.length) h14).bind fun h16 => ((am_pP 1027 x0 Value.null h16).bind fun h18 => ((am_pNew 6 24 h18).bind fun h20 => ((am_pP 1028 x0 (Value.ref h18.length) h20).bind fun h22 => ((am_pNew 0 24 h22).bind fun h24 => ((am_pP 1029 x0 (Value.ref h22.length) h24).bind fun h26 => ((am_pP 1030 x0 (.int 0) h26).bind fun h28 => ((am_pP 1031 x0 Value.null h28).bind fun h30 => ((am_pP 1032 x0 (.int 0) h30).bind fun h32 => (fg_8_71 N N x0 1 h32))))))))))) else none)))))) else none)
theorem rg_8_0 {X : am_X} {d : Nat} {N : Nat} {lv : am_LV} (x0 : Value) (h : am_H) (o : am_O) (l0 : lv.lookup 0 = some x0) (i0 : am_isR x0 = true) (hs : fg_8_0 N x0 h = some o) : am_W X (d + 3) 8 0 lv [] h (fun q => q = o) := by
  unfold fg_8_0 at hs
  refine aw_vload_n (pc1 := 1) at_8_0 l0 i0 rfl ?_
  obtain ⟨z1, hs⟩ := am_ift hs
  refine aw_obi at_8_1 rfl z1 (am_hc am_cats_0 rfl) ?_
  refine aw_vload_n (pc1 := 5) at_8_4 l0 i0 rfl ?_
  refine aw_sipush (v := 1638) (pc1 := 8) at_8_5 (by decide) rfl ?_
  obtain ⟨h2, e3, hs⟩ := am_bind hs
  refine aw_pNew (pc1 := 10) at_8_8 e3 rfl ?_
  obtain ⟨h4, e5, hs⟩ := am_bind hs
  refine aw_pP (pc1 := 13) at_8_10 e5 rfl ?_
  refine aw_vload_n (pc1 := 14) at_8_13 l0 i0 rfl ?_
  refine aw_bipush (v := 78) (pc1 := 16) at_8_14 (by decide) rfl ?_
  obtain ⟨h6, e7, hs⟩ := am_bind hs
  refine aw_pNew (pc1 := 18) at_8_16 e7 rfl ?_
  obtain ⟨h8, e9, hs⟩ := am_bind hs
  refine aw_pP (pc1 := 21) at_8_18 e9 rfl ?_
  refine aw_vload_n (pc1 := 22) at_8_21 l0 i0 rfl ?_
  obtain ⟨h10, e11, hs⟩ := am_bind hs
  refine aw_pObj (pc1 := 25) at_8_22 rfl rfl e11 rfl ?_
  refine aw_vdup (pc1 := 26) at_8_25 rfl rfl ?_
  obtain ⟨z12, hs⟩ := am_ift hs
  refine aw_call (t := false) (na := 1) (kd := 2) (as := [(Value.ref h8.length)]) at_8_26 rfl (congrArg (fun q => q.1) mi_3) (congrArg (fun q => q.2.1) mi_3) rfl rfl (am_ok_v mi_3 (am_hl rfl (am_ccR rfl am_cats_0) rfl) z12) (am_hc (am_ccR rfl (am_ccR i0 am_cats_0)) rfl) (fun h9 => by cases h9) (fun o1 h9 => rm_3 ((Value.ref h8.length)) h10 o1 rfl h9) ?_
  rcases am_cV_s hs with ⟨h14, f15, hs⟩ | hs
  · refine Or.inl ⟨_, _, f15, ?_⟩
    show am_W X _ 8 29 _ [(Value.ref h8.length), x0] h14 _
    obtain ⟨h16, e17, hs⟩ := am_bind hs
    refine aw_pP (pc1 := 32) at_8_29 e17 rfl ?_
    refine aw_vload_n (pc1 := 33) at_8_32 l0 i0 rfl ?_
    refine aw_null (pc1 := 34) at_8_33 rfl ?_
    obtain ⟨h18, e19, hs⟩ := am_bind hs
    refine aw_pP (pc1 := 37) at_8_34 e19 rfl ?_
    refine aw_vload_n (pc1 := 38) at_8_37 l0 i0 rfl ?_
    refine aw_bipush (v := 24) (pc1 := 40) at_8_38 (by decide) rfl ?_
    obtain ⟨h20, e21, hs⟩ := am_bind hs
    refine aw_pNewR (pc1 := 43) at_8_40 rfl e21 rfl ?_
    obtain ⟨h22, e23, hs⟩ := am_bind hs
    refine aw_pP (pc1 := 46) at_8_43 e23 rfl ?_
    refine aw_vload_n (pc1 := 47) at_8_46 l0 i0 rfl ?_
    refine aw_bipush (v := 24) (pc1 := 49) at_8_47 (by decide) rfl ?_
    obtain ⟨h24, e25, hs⟩ := am_bind hs
    refine aw_pNew (pc1 := 51) at_8_49 e25 rfl ?_
    obtain ⟨h26, e27, hs⟩ := am_bind hs
    refine aw_pP (pc1 := 54) at_8_51 e27 rfl ?_
    refine aw_vload_n (pc1 := 55) at_8_54 l0 i0 rfl ?_
    refine aw_iconst (v := 0) (pc1 := 56) at_8_55 (by decide) rfl ?_
    obtain ⟨h28, e29, hs⟩ := am_bind hs
    refine aw_pP (pc1 := 59) at_8_56 e29 rfl ?_
    refine aw_vload_n (pc1 := 60) at_8_59 l0 i0 rfl ?_
    refine aw_null (pc1 := 61) at_8_60 rfl ?_
    obtain ⟨h30, e31, hs⟩ := am_bind hs
    refine aw_pP (pc1 := 64) at_8_61 e31 rfl ?_
    refine aw_vload_n (pc1 := 65) at_8_64 l0 i0 rfl ?_
    refine aw_iconst (v := 0) (pc1 := 66) at_8_65 (by decide) rfl ?_
    obtain ⟨h32, e33, hs⟩ := am_bind hs
    refine aw_pP (pc1 := 69) at_8_66 e33 rfl ?_
    refine aw_iconst (v := 1) (pc1 := 70) at_8_69 (by decide) rfl ?_
    refine aw_istore_n (lv1 := am_put1 _ 1 _) (pc1 := 71) at_8_70 rfl rfl ?_
    exact rg_8_71 N x0 1 h32 o hs _ (am_lk1 l0 rfl (by rw [am_k1 i0]; rfl)) am_lk0 i0
  · exact Or.inr hs
def fm_8 (N : Nat) (y0 : Value) (h : am_H) : Option am_O := fg_8_0 N y0 h
theorem rm_8 {X : am_X} {d : Nat} {N : Nat} (y0 : Value) (h : am_H) (o : am_O) (i0 : am_isR y0 = true) (hs : fm_8 N y0 h = some o) : am_W X (d + 3) 8 0 (am_args 0 [y0]) [] h (fun q => q = o) := by
  rw [am_args_R i0]
  exact rg_8_0 y0 h o rfl i0 hs
