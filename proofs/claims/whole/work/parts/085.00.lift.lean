/-! ===== methods as functions ===== -/
def fg_3_0 (x0 : Value) (h : am_H) : Option am_O := (if am_pRf x0 then ((am_pNew 0 60 h).bind fun h2 => ((am_pP 1792 x0 (Value.ref h.length) h2).bind fun h4 => ((am_pNew 0 60 h4).bind fun h6 => ((am_pP 1793 x0 (Value.ref h4.length) h6).bind fun h8 => ((am_pNew 0 60 h8).bind fun h10 => ((am_pP 1794 x0 (Value.ref h8.length) h10).bind fun h12 => ((am_pNew 2 60 h12).bind fun h14 => ((am_pP 1795 x0 (Value.ref h12.length) h14).bind fun h16 => ((am_pNew 2 60 h16).bind fun h18 => ((am_pP 1796 x0 (Value.ref h16.length) h18).bind fun h20 => ((am_pNew 2 60 h20).bind fun h22 => ((am_pP 1797 x0 (Value.ref h20.length) h22).bind fun h24 => ((am_pNew 0 61 h24).bind fun h26 => ((am_pP 1798 x0 (Value.ref h24.length) h26).bind fun h28 => ((am_pP 1799 x0 (.int 0) h28).bind fun h30 => some (.inl (none, h30))))))))))))))))) else none)
theorem rg_3_0 {X : am_X} {d : Nat} {lv : am_LV} (x0 : Value) (h : am_H) (o : am_O) (l0 : lv.lookup 0 = some x0) (i0 : am_isR x0 = true) (hs : fg_3_0 x0 h = some o) : am_W X (d) 3 0 lv [] h (fun q => q = o) := by
  unfold fg_3_0 at hs
  refine aw_vload_n (pc1 := 1) at_3_0 l0 i0 rfl ?_
  obtain ⟨z1, hs⟩ := am_ift hs
  refine aw_obi at_3_1 rfl z1 (am_hc am_cats_0 rfl) ?_
  refine aw_vload_n (pc1 := 5) at_3_4 l0 i0 rfl ?_
  refine aw_bipush (v := 60) (pc1 := 7) at_3_5 (by decide) rfl ?_
  obtain ⟨h2, e3, hs⟩ := am_bind hs
  refine aw_pNew (pc1 := 9) at_3_7 e3 rfl ?_
  obtain ⟨h4, e5, hs⟩ := am_bind hs
  refine aw_pP (pc1 := 12) at_3_9 e5 rfl ?_
  refine aw_vload_n (pc1 := 13) at_3_12 l0 i0 rfl ?_
  refine aw_bipush (v := 60) (pc1 := 15) at_3_13 (by decide) rfl ?_
  obtain ⟨h6, e7, hs⟩ := am_bind hs
  refine aw_pNew (pc1 := 17) at_3_15 e7 rfl ?_
  obtain ⟨h8, e9, hs⟩ := am_bind hs
  refine aw_pP (pc1 := 20) at_3_17 e9 rfl ?_
  refine aw_vload_n (pc1 := 21) at_3_20 l0 i0 rfl ?_
  refine aw_bipush (v := 60) (pc1 := 23) at_3_21 (by decide) rfl ?_
  obtain ⟨h10, e11, hs⟩ := am_bind hs
  refine aw_pNew (pc1 := 25) at_3_23 e11 rfl ?_
  obtain ⟨h12, e13, hs⟩ := am_bind hs
  refine aw_pP (pc1 := 28) at_3_25 e13 rfl ?_
  refine aw_vload_n (pc1 := 29) at_3_28 l0 i0 rfl ?_
  refine aw_bipush (v := 60) (pc1 := 31) at_3_29 (by decide) rfl ?_
  obtain ⟨h14, e15, hs⟩ := am_bind hs
  refine aw_pNew (pc1 := 33) at_3_31 e15 rfl ?_
  obtain ⟨h16, e17, hs⟩ := am_bind hs
  refine aw_pP (pc1 := 36) at_3_33 e17 rfl ?_
  refine aw_vload_n (pc1 := 37) at_3_36 l0 i0 rfl ?_
  refine aw_bipush (v := 60) (pc1 := 39) at_3_37 (by decide) rfl ?_
  obtain ⟨h18, e19, hs⟩ := am_bind hs
  refine aw_pNew (pc1 := 41) at_3_39 e19 rfl ?_
  obtain ⟨h20, e21, hs⟩ := am_bind hs
  refine aw_pP (pc1 := 44) at_3_41 e21 rfl ?_
  refine aw_vload_n (pc1 := 45) at_3_44 l0 i0 rfl ?_
  refine aw_bipush (v := 60) (pc1 := 47) at_3_45 (by decide) rfl ?_
  obtain ⟨h22, e23, hs⟩ := am_bind hs
  refine aw_pNew (pc1 := 49) at_3_47 e23 rfl ?_
  obtain ⟨h24, e25, hs⟩ := am_bind hs
  refine aw_pP (pc1 := 52) at_3_49 e25 rfl ?_
  refine aw_vload_n (pc1 := 53) at_3_52 l0 i0 rfl ?_
  refine aw_bipush (v := 61) (pc1 := 55) at_3_53 (by decide) rfl ?_
  obtain ⟨h26, e27, hs⟩ := am_bind hs
  refine aw_pNew (pc1 := 57) at_3_55 e27 rfl ?_
  obtain ⟨h28, e29, hs⟩ := am_bind hs
  refine aw_pP (pc1 := 60) at_3_57 e29 rfl ?_
  refine aw_vload_n (pc1 := 61) at_3_60 l0 i0 rfl ?_
  refine aw_iconst (v := 0) (pc1 := 62) at_3_61 (by decide) rfl ?_
  obtain ⟨h30, e31, hs⟩ := am_bind hs
  refine aw_pP (pc1 := 65) at_3_62 e31 rfl ?_
  cases hs
  exact aw_vret at_3_65 rt_3 rfl
def fm_3 (y0 : Value) (h : am_H) : Option am_O := fg_3_0 y0 h
theorem rm_3 {X : am_X} {d : Nat} (y0 : Value) (h : am_H) (o : am_O) (i0 : am_isR y0 = true) (hs : fm_3 y0 h = some o) : am_W X (d) 3 0 (am_args 0 [y0]) [] h (fun q => q = o) := by
  rw [am_args_R i0]
  exact rg_3_0 y0 h o rfl i0 hs
def fg_11_23 (s0 : Int32) (h : am_H) : Option am_O := (if am_rfit (some FieldType.boolean) s0 then some (.inl (some (.int s0), h)) else none)
theorem rg_11_23 {X : am_X} {d : Nat} {lv : am_LV} (s0 : Int32) (h : am_H) (o : am_O) (hs : fg_11_23 s0 h = some o) : am_W X (d) 11 23 lv [(.int s0)] h (fun q => q = o) := by
  unfold fg_11_23 at hs
  obtain ⟨z1, hs⟩ := am_ift hs
  cases hs
  exact aw_iret at_11_23 (by rw [rt_11]; exact z1) rfl
def fg_11_22 (h : am_H) : Option am_O := (fg_11_23 0 h)
theorem rg_11_22 {X : am_X} {d : Nat} {lv : am_LV} (h : am_H) (o : am_O) (hs : fg_11_22 h = some o) : am_W X (d) 11 22 lv [] h (fun q => q = o) := by
  unfold fg_11_22 at hs
  refine aw_iconst (v := 0) (pc1 := 23) at_11_22 (by decide) rfl ?_
  exact rg_11_23 0 h o   hs
def fg_11_18 (h : am_H) : Option am_O := (fg_11_23 1 h)
theorem rg_11_18 {X : am_X} {d : Nat} {lv : am_LV} (h : am_H) (o : am_O) (hs : fg_11_18 h = some o) : am_W X (d) 11 18 lv [] h (fun q => q = o) := by
  unfold fg_11_18 at hs
  refine aw_iconst (v := 1) (pc1 := 19) at_11_18 (by decide) rfl ?_
  refine aw_goto at_11_19 ?_
  exact rg_11_23 1 h o   hs
def fg_11_0 (x0 : Int32) (h : am_H) : Option am_O := (if x0 = 9 then (fg_11_18 h) else (if x0 < 15 then (fg_11_22 h) else (if 18 < x0 then (fg_11_22 h) else (fg_11_18 h))))
theorem rg_11_0 {X : am_X} {d : Nat} {lv : am_LV} (x0 : Int32) (h : am_H) (o : am_O) (l0 : lv.lookup 0 = some (.int x0)) (hs : fg_11_0 x0 h = some o) : am_W X (d) 11 0 lv [] h (fun q => q = o) := by
  unfold fg_11_0 at hs
  refine aw_iload_n (pc1 := 1) at_11_0 l0 rfl ?_
  refine aw_bipush (v := 9) (pc1 := 3) at_11_1 (by decide) rfl ?_
  by_cases c1 : x0 = 9
  · rw [if_pos c1] at hs
    refine aw_iceq_t at_11_3 c1 ?_
    exact rg_11_18 h o   hs
  · rw [if_neg c1] at hs
    refine aw_iceq_f (pc1 := 6) at_11_3 c1 rfl ?_
    refine aw_iload_n (pc1 := 7) at_11_6 l0 rfl ?_
    refine aw_bipush (v := 15) (pc1 := 9) at_11_7 (by decide) rfl ?_
    by_cases c2 : x0 < 15
    · rw [if_pos c2] at hs
      refine aw_iclt_t at_11_9 c2 ?_
      exact rg_11_22 h o   hs
    · rw [if_neg c2] at hs
      refine aw_iclt_f (pc1 := 12) at_11_9 c2 rfl ?_
      refine aw_iload_n (pc1 := 13) at_11_12 l0 rfl ?_
      refine aw_bipush (v := 18) (pc1 := 15) at_11_13 (by decide) rfl ?_
      by_cases c3 : 18 < x0
      · rw [if_pos c3] at hs
        refine aw_icgt_t at_11_15 c3 ?_
        exact rg_11_22 h o   hs
      · rw [if_neg c3] at hs
        refine aw_icgt_f (pc1 := 18) at_11_15 c3 rfl ?_
        exact rg_11_18 h o   hs
def fm_11 (y0 : Int32) (h : am_H) : Option am_O := fg_11_0 y0 h
theorem rm_11 {X : am_X} {d : Nat} (y0 : Int32) (h : am_H) (o : am_O) (hs : fm_11 y0 h = some o) : am_W X (d) 11 0 (am_args 0 [.int y0]) [] h (fun q => q = o) := by
  rw [am_args_I]
  exact rg_11_0 y0 h o rfl  hs
def fg_10_56 (s0 : Int32) (h : am_H) : Option am_O := (if am_rfit (some FieldType.boolean) s0 then some (.inl (some (.int s0), h)) else none)
theorem rg_10_56 {X : am_X} {d : Nat} {lv : am_LV} (s0 : Int32) (h : am_H) (o : am_O) (hs : fg_10_56 s0 h = some o) : am_W X (d + 1) 10 56 lv [(.int s0)] h (fun q => q = o) := by
  unfold fg_10_56 at hs
  obtain ⟨z1, hs⟩ := am_ift hs
  cases hs
  exact aw_iret at_10_56 (by rw [rt_10]; exact z1) rfl
def fg_10_55 (h : am_H) : Option am_O := (fg_10_56 0 h)
theorem rg_10_55 {X : am_X} {d : Nat} {lv : am_LV} (h : am_H) (o : am_O) (hs : fg_10_55 h = some o) : am_W X (d + 1) 10 55 lv [] h (fun q => q = o) := by
  unfold fg_10_55 at hs
  refine aw_iconst (v := 0) (pc1 := 56) at_10_55 (by decide) rfl ?_
  exact rg_10_56 0 h o   hs
def fg_10_51 (h : am_H) : Option am_O := (fg_10_56 1 h)
theorem rg_10_51 {X : am_X} {d : Nat} {lv : am_LV} (h : am_H) (o : am_O) (hs : fg_10_51 h = some o) : am_W X (d + 1) 10 51 lv [] h (fun q => q = o) := by
  unfold fg_10_51 at hs
  refine aw_iconst (v := 1) (pc1 := 52) at_10_51 (by decide) rfl ?_
  refine aw_goto at_10_52 ?_
  exact rg_10_56 1 h o   hs
def fg_10_41 (x1 : Int32) (x2 : Int32) (h : am_H) : Option am_O := (if x2 = 0 then (fg_10_51 h) else (if x1 = 19 then (fg_10_55 h) else (fg_10_51 h)))
theorem rg_10_41 {X : am_X} {d : Nat} {lv : am_LV} (x1 : Int32) (x2 : Int32) (h : am_H) (o : am_O) (l1 : lv.lookup 1 = some (.int x1)) (l2 : lv.lookup 2 = some (.int x2)) (hs : fg_10_41 x1 x2 h = some o) : am_W X (d + 1) 10 41 lv [] h (fun q => q = o) := by
  unfold fg_10_41 at hs
  refine aw_iload_n (pc1 := 42) at_10_41 l2 rfl ?_
  by_cases c1 : x2 = 0
  · rw [if_pos c1] at hs
    refine aw_ifeq_t at_10_42 c1 ?_
    exact rg_10_51 h o   hs
  · rw [if_neg c1] at hs
    refine aw_ifeq_f (pc1 := 45) at_10_42 c1 rfl ?_
    refine aw_iload_n (pc1 := 46) at_10_45 l1 rfl ?_
    refine aw_bipush (v := 19) (pc1 := 48) at_10_46 (by decide) rfl ?_
    by_cases c2 : x1 = 19
    · rw [if_pos c2] at hs
      refine aw_iceq_t at_10_48 c2 ?_
      exact rg_10_55 h o   hs
    · rw [if_neg c2] at hs
      refine aw_iceq_f (pc1 := 51) at_10_48 c2 rfl ?_
      exact rg_10_51 h o   hs
def fg_10_22 (x1 : Int32) (x2 : Int32) (s0 : Int32) (s1 : Int32) (h : am_H) : Option am_O := (if ¬ s0 = s1 then (fg_10_55 h) else (if x2 = 2 then (fg_10_41 x1 x2 h) else (if x1 = 5 then (fg_10_55 h) else (if x1 = 6 then (fg_10_55 h) else (fg_10_41 x1 x2 h)))))
theorem rg_10_22 {X : am_X} {d : Nat} {lv : am_LV} (x1 : Int32) (x2 : Int32) (s0 : Int32) (s1 : Int32) (h : am_H) (o : am_O) (l1 : lv.lookup 1 = some (.int x1)) (l2 : lv.lookup 2 = some (.int x2)) (hs : fg_10_22 x1 x2 s0 s1 h = some o) : am_W X (d + 1) 10 22 lv [(.int s1), (.int s0)] h (fun q => q = o) := by
  unfold fg_10_22 at hs
  by_cases c1 : ¬ s0 = s1
  · rw [if_pos c1] at hs
    refine aw_icne_t at_10_22 c1 ?_
    exact rg_10_55 h o   hs
  · rw [if_neg c1] at hs
    refine aw_icne_f (pc1 := 25) at_10_22 c1 rfl ?_
    refine aw_iload_n (pc1 := 26) at_10_25 l2 rfl ?_
    refine aw_iconst (v := 2) (pc1 := 27) at_10_26 (by decide) rfl ?_
    by_cases c2 : x2 = 2
    · rw [if_pos c2] at hs
      refine aw_iceq_t at_10_27 c2 ?_
      exact rg_10_41 x1 x2 h o l1 l2  hs
    · rw [if_neg c2] at hs
      refine aw_iceq_f (pc1 := 30) at_10_27 c2 rfl ?_
      refine aw_iload_n (pc1 := 31) at_10_30 l1 rfl ?_
      refine aw_iconst (v := 5) (pc1 := 32) at_10_31 (by decide) rfl ?_
      by_cases c3 : x1 = 5
      · rw [if_pos c3] at hs
        refine aw_iceq_t at_10_32 c3 ?_
        exact rg_10_55 h o   hs
      · rw [if_neg c3] at hs
        refine aw_iceq_f (pc1 := 35) at_10_32 c3 rfl ?_
        refine aw_iload_n (pc1 := 36) at_10_35 l1 rfl ?_
        refine aw_bipush (v := 6) (pc1 := 38) at_10_36 (by decide) rfl ?_
        by_cases c4 : x1 = 6
        · rw [if_pos c4] at hs
          refine aw_iceq_t at_10_38 c4 ?_
          exact rg_10_55 h o   hs
        · rw [if_neg c4] at hs
          refine aw_iceq_f (pc1 := 41) at_10_38 c4 rfl ?_
          exact rg_10_41 x1 x2 h o l1 l2  hs
def fg_10_0 (x0 : Int32) (x1 : Int32) (h : am_H) : Option am_O := am_cI false (fm_11 x1 h) (fun v1 h2 => (if ¬ (x0 - x0 / 2 * 2) = 1 then (fg_10_22 x1 (((x0 / 2) * 2)) v1 0 h2) else (fg_10_22 x1 (((x0 / 2) * 2)) v1 1 h2)))
theorem rg_10_0 {X : am_X} {d : Nat} {lv : am_LV} (x0 : Int32) (x1 : Int32) (h : am_H) (o : am_O) (l0 : lv.lookup 0 = some (.int x0)) (l1 : lv.lookup 1 = some (.int x1)) (hs : fg_10_0 x0 x1 h = some o) : am_W X (d + 1) 10 0 lv [] h (fun q => q = o) := by
  unfold fg_10_0 at hs
  refine aw_iload_n (pc1 := 1) at_10_0 l0 rfl ?_
  refine aw_iconst (v := 2) (pc1 := 2) at_10_1 (by decide) rfl ?_
  refine aw_idiv (v := (x0 / 2)) (pc1 := 3) at_10_2 (by decide) rfl rfl ?_
  refine aw_iconst (v := 2) (pc1 := 4) at_10_3 (by decide) rfl ?_
  refine aw_imul (v := ((x0 / 2) * 2)) (pc1 := 5) at_10_4 rfl rfl ?_
  refine aw_istore_n (lv1 := am_put1 _ 2 _) (pc1 := 6) at_10_5 rfl rfl ?_
  refine aw_iload_n (pc1 := 7) at_10_6 (am_lk1 l1 rfl rfl) rfl ?_
  refine aw_call (t := false) (na := 1) (kd := 0) (as := [(.int x1)]) at_10_7 rfl (congrArg (fun q => q.1) mi_11) (congrArg (fun q => q.2.1) mi_11) rfl rfl (am_ok_s mi_11 (am_hl rfl (am_ccI am_cats_0) rfl)) (am_hc am_cats_0 rfl) (fun h9 => by cases h9) (fun o1 h9 => rm_11 x1 h o1  h9) ?_
  rcases am_cI_s hs with ⟨v1, h2, f3, hs⟩ | hs
  · refine Or.inl ⟨_, _, f3, ?_⟩
    show am_W X _ 10 10 _ [(.int v1)] h2 _
    refine aw_iload_n (pc1 := 11) at_10_10 (am_lk1 l0 rfl rfl) rfl ?_
    refine aw_iconst (v := 2) (pc1 := 12) at_10_11 (by decide) rfl ?_
    refine aw_irem (v := (x0 - x0 / 2 * 2)) (pc1 := 13) at_10_12 (by decide) rfl rfl ?_
    refine aw_iconst (v := 1) (pc1 := 14) at_10_13 (by decide) rfl ?_
    by_cases c4 : ¬ (x0 - x0 / 2 * 2) = 1
    · rw [if_pos c4] at hs
      refine aw_icne_t at_10_14 c4 ?_
      refine aw_iconst (v := 0) (pc1 := 22) at_10_21 (by decide) rfl ?_
      exact rg_10_22 x1 (((x0 / 2) * 2)) v1 0 h2 o (am_lk1 l1 rfl rfl) am_lk0  hs
    · rw [if_neg c4] at hs
      refine aw_icne_f (pc1 := 17) at_10_14 c4 rfl ?_
      refine aw_iconst (v := 1) (pc1 := 18) at_10_17 (by decide) rfl ?_
      refine aw_goto at_10_18 ?_
      exact rg_10_22 x1 (((x0 / 2) * 2)) v1 1 h2 o (am_lk1 l1 rfl rfl) am_lk0  hs
  · exact Or.inr hs
def fm_10 (y0 : Int32) (y1 : Int32) (h : am_H) : Option am_O := fg_10_0 y0 y1 h
theorem rm_10 {X : am_X} {d : Nat} (y0 : Int32) (y1 : Int32) (h : am_H) (o : am_O) (hs : fm_10 y0 y1 h = some o) : am_W X (d + 1) 10 0 (am_args 0 [.int y0, .int y1]) [] h (fun q => q = o) := by
  rw [am_args_I, am_args_I]
  exact rg_10_0 y0 y1 h o rfl rfl  hs
def fg_13_33 (s0 : Int32) (h : am_H) : Option am_O := (if am_rfit (some FieldType.boolean) s0 then some (.inl (some (.int s0), h)) else none)
theorem rg_13_33 {X : am_X} {d : Nat} {lv : am_LV} (s0 : Int32) (h : am_H) (o : am_O) (hs : fg_13_33 s0 h = some o) : am_W X (d) 13 33 lv [(.int s0)] h (fun q => q = o) := by
  unfold fg_13_33 at hs
  obtain ⟨z1, hs⟩ := am_ift hs
  cases hs
  exact aw_iret at_13_33 (by rw [rt_13]; exact z1) rfl
def fg_13_32 (h : am_H) : Option am_O := (fg_13_33 0 h)
theorem rg_13_32 {X : am_X} {d : Nat} {lv : am_LV} (h : am_H) (o : am_O) (hs : fg_13_32 h = some o) : am_W X (d) 13 32 lv [] h (fun q => q = o) := by
  unfold fg_13_32 at hs
  refine aw_iconst (v := 0) (pc1 := 33) at_13_32 (by decide) rfl ?_
  exact rg_13_33 0 h o   hs
def fg_13_28 (h : am_H) : Option am_O := (fg_13_33 1 h)
theorem rg_13_28 {X : am_X} {d : Nat} {lv : am_LV} (h : am_H) (o : am_O) (hs : fg_13_28 h = some o) : am_W X (d) 13 28 lv [] h (fun q => q = o) := by
  unfold fg_13_28 at hs
  refine aw_iconst (v := 1) (pc1 := 29) at_13_28 (by decide) rfl ?_
  refine aw_goto at_13_29 ?_
  exact rg_13_33 1 h o   hs
def fg_13_0 (x0 : Int32) (x1 : Int32) (h : am_H) : Option am_O := (if x0 = 9 then (fg_13_28 h) else (if x0 = 17 then (fg_13_28 h) else (if x0 = 18 then (fg_13_28 h) else (if ¬ x0 = 20 then (fg_13_32 h) else (if ¬ x1 = 0 then (fg_13_32 h) else (fg_13_28 h))))))
theorem rg_13_0 {X : am_X} {d : Nat} {lv : am_LV} (x0 : Int32) (x1 : Int32) (h : am_H) (o : am_O) (l0 : lv.lookup 0 = some (.int x0)) (l1 : lv.lookup 1 = some (.int x1)) (hs : fg_13_0 x0 x1 h = some o) : am_W X (d) 13 0 lv [] h (fun q => q = o) := by
  unfold fg_13_0 at hs
  refine aw_iload_n (pc1 := 1) at_13_0 l0 rfl ?_
  refine aw_bipush (v := 9) (pc1 := 3) at_13_1 (by decide) rfl ?_
  by_cases c1 : x0 = 9
  · rw [if_pos c1] at hs
    refine aw_iceq_t at_13_3 c1 ?_
    exact rg_13_28 h o   hs
  · rw [if_neg c1] at hs
    refine aw_iceq_f (pc1 := 6) at_13_3 c1 rfl ?_
    refine aw_iload_n (pc1 := 7) at_13_6 l0 rfl ?_
    refine aw_bipush (v := 17) (pc1 := 9) at_13_7 (by decide) rfl ?_
    by_cases c2 : x0 = 17
    · rw [if_pos c2] at hs
      refine aw_iceq_t at_13_9 c2 ?_
      exact rg_13_28 h o   hs
    · rw [if_neg c2] at hs
      refine aw_iceq_f (pc1 := 12) at_13_9 c2 rfl ?_
      refine aw_iload_n (pc1 := 13) at_13_12 l0 rfl ?_
      refine aw_bipush (v := 18) (pc1 := 15) at_13_13 (by decide) rfl ?_
      by_cases c3 : x0 = 18
      · rw [if_pos c3] at hs
        refine aw_iceq_t at_13_15 c3 ?_
        exact rg_13_28 h o   hs
      · rw [if_neg c3] at hs
        refine aw_iceq_f (pc1 := 18) at_13_15 c3 rfl ?_
        refine aw_iload_n (pc1 := 19) at_13_18 l0 rfl ?_
        refine aw_bipush (v := 20) (pc1 := 21) at_13_19 (by decide) rfl ?_
        by_cases c4 : ¬ x0 = 20
        · rw [if_pos c4] at hs
          refine aw_icne_t at_13_21 c4 ?_
          exact rg_13_32 h o   hs
        · rw [if_neg c4] at hs
          refine aw_icne_f (pc1 := 24) at_13_21 c4 rfl ?_
          refine aw_iload_n (pc1 := 25) at_13_24 l1 rfl ?_
          by_cases c5 : ¬ x1 = 0
          · rw [if_pos c5] at hs
            refine aw_ifne_t at_13_25 c5 ?_
            exact rg_13_32 h o   hs
          · rw [if_neg c5] at hs
            refine aw_ifne_f (pc1 := 28) at_13_25 c5 rfl ?_
            exact rg_13_28 h o   hs
def fm_13 (y0 : Int32) (y1 : Int32) (h : am_H) : Option am_O := fg_13_0 y0 y1 h
theorem rm_13 {X : am_X} {d : Nat} (y0 : Int32) (y1 : Int32) (h : am_H) (o : am_O) (hs : fm_13 y0 y1 h = some o) : am_W X (d) 13 0 (am_args 0 [.int y0, .int y1]) [] h (fun q => q = o) := by
  rw [am_args_I, am_args_I]
  exact rg_13_0 y0 y1 h o rfl rfl  hs
def fg_12_36 (s0 : Int32) (h : am_H) : Option am_O := some (.inl (some (.int s0), h))
theorem rg_12_36 {X : am_X} {d : Nat} {lv : am_LV} (s0 : Int32) (h : am_H) (o : am_O) (hs : fg_12_36 s0 h = some o) : am_W X (d + 1) 12 36 lv [(.int s0)] h (fun q => q = o) := by
  unfold fg_12_36 at hs
  cases hs
  exact aw_iret at_12_36 (by rw [rt_12]; rfl) rfl
def fg_12_20 (x1 : Int32) (x2 : Int32) (s0 : Int32) (h : am_H) : Option am_O := am_cI false (fm_13 x1 x2 h) (fun v1 h2 => (if v1 = 0 then (fg_12_36 s0 h2) else (fg_12_36 ((s0 + 1)) h2)))
theorem rg_12_20 {X : am_X} {d : Nat} {lv : am_LV} (x1 : Int32) (x2 : Int32) (s0 : Int32) (h : am_H) (o : am_O) (l1 : lv.lookup 1 = some (.int x1)) (l2 : lv.lookup 2 = some (.int x2)) (hs : fg_12_20 x1 x2 s0 h = some o) : am_W X (d + 1) 12 20 lv [(.int s0)] h (fun q => q = o) := by
  unfold fg_12_20 at hs
  refine aw_istore_n (lv1 := am_put1 _ 3 _) (pc1 := 21) at_12_20 rfl rfl ?_
  refine aw_iload_n (pc1 := 22) at_12_21 (am_lk1 l1 rfl rfl) rfl ?_
  refine aw_iload_n (pc1 := 23) at_12_22 (am_lk1 l2 rfl rfl) rfl ?_
  refine aw_call (t := false) (na := 2) (kd := 0) (as := [(.int x1), (.int x2)]) at_12_23 rfl (congrArg (fun q => q.1) mi_13) (congrArg (fun q => q.2.1) mi_13) rfl rfl (am_ok_s mi_13 (am_hl rfl (am_ccI (am_ccI am_cats_0)) rfl)) (am_hc am_cats_0 rfl) (fun h9 => by cases h9) (fun o1 h9 => rm_13 x1 x2 h o1  h9) ?_
  rcases am_cI_s hs with ⟨v1, h2, f3, hs⟩ | hs
  · refine Or.inl ⟨_, _, f3, ?_⟩
    show am_W X _ 12 26 _ [(.int v1)] h2 _
    by_cases c4 : v1 = 0
    · rw [if_pos c4] at hs
      refine aw_ifeq_t at_12_26 c4 ?_
      refine aw_iload_n (pc1 := 36) at_12_35 am_lk0 rfl ?_
      exact rg_12_36 s0 h2 o   hs
    · rw [if_neg c4] at hs
      refine aw_ifeq_f (pc1 := 29) at_12_26 c4 rfl ?_
      refine aw_iload_n (pc1 := 30) at_12_29 am_lk0 rfl ?_
      refine aw_iconst (v := 1) (pc1 := 31) at_12_30 (by decide) rfl ?_
      refine aw_iadd (v := (s0 + 1)) (pc1 := 32) at_12_31 rfl rfl ?_
      refine aw_goto at_12_32 ?_
      exact rg_12_36 ((s0 + 1)) h2 o   hs
  · exact Or.inr hs
def fg_12_15 (x0 : Int32) (x1 : Int32) (x2 : Int32) (h : am_H) : Option am_O := (fg_12_20 x1 x2 (((x0 / 2) * 2)) h)
theorem rg_12_15 {X : am_X} {d : Nat} {lv : am_LV} (x0 : Int32) (x1 : Int32) (x2 : Int32) (h : am_H) (o : am_O) (l0 : lv.lookup 0 = some (.int x0)) (l1 : lv.lookup 1 = some (.int x1)) (l2 : lv.lookup 2 = some (.int x2)) (hs : fg_12_15 x0 x1 x2 h = some o) : am_W X (d + 1) 12 15 lv [] h (fun q => q = o) := by
  unfold fg_12_15 at hs
  refine aw_iload_n (pc1 := 16) at_12_15 l0 rfl ?_
  refine aw_iconst (v := 2) (pc1 := 17) at_12_16 (by decide) rfl ?_
  refine aw_idiv (v := (x0 / 2)) (pc1 := 18) at_12_17 (by decide) rfl rfl ?_
  refine aw_iconst (v := 2) (pc1 := 19) at_12_18 (by decide) rfl ?_
  refine aw_imul (v := ((x0 / 2) * 2)) (pc1 := 20) at_12_19 rfl rfl ?_
  exact rg_12_20 x1 x2 (((x0 / 2) * 2)) h o l1 l2  hs
def fg_12_0 (x0 : Int32) (x1 : Int32) (x2 : Int32) (h : am_H) : Option am_O := (if ¬ x1 = 19 then (fg_12_15 x0 x1 x2 h) else (if ¬ x2 = 1 then (fg_12_15 x0 x1 x2 h) else (fg_12_20 x1 x2 2 h)))
theorem rg_12_0 {X : am_X} {d : Nat} {lv : am_LV} (x0 : Int32) (x1 : Int32) (x2 : Int32) (h : am_H) (o : am_O) (l0 : lv.lookup 0 = some (.int x0)) (l1 : lv.lookup 1 = some (.int x1)) (l2 : lv.lookup 2 = some (.int x2)) (hs : fg_12_0 x0 x1 x2 h = some o) : am_W X (d + 1) 12 0 lv [] h (fun q => q = o) := by
  unfold fg_12_0 at hs
  refine aw_iload_n (pc1 := 1) at_12_0 l1 rfl ?_
  refine aw_bipush (v := 19) (pc1 := 3) at_12_1 (by decide) rfl ?_
  by_cases c1 : ¬ x1 = 19
  · rw [if_pos c1] at hs
    refine aw_icne_t at_12_3 c1 ?_
    exact rg_12_15 x0 x1 x2 h o l0 l1 l2  hs
  · rw [if_neg c1] at hs
    refine aw_icne_f (pc1 := 6) at_12_3 c1 rfl ?_
    refine aw_iload_n (pc1 := 7) at_12_6 l2 rfl ?_
    refine aw_iconst (v := 1) (pc1 := 8) at_12_7 (by decide) rfl ?_
    by_cases c2 : ¬ x2 = 1
    · rw [if_pos c2] at hs
      refine aw_icne_t at_12_8 c2 ?_
      exact rg_12_15 x0 x1 x2 h o l0 l1 l2  hs
    · rw [if_neg c2] at hs
      refine aw_icne_f (pc1 := 11) at_12_8 c2 rfl ?_
      refine aw_iconst (v := 2) (pc1 := 12) at_12_11 (by decide) rfl ?_
      refine aw_goto at_12_12 ?_
      exact rg_12_20 x1 x2 2 h o l1 l2  hs
def fm_12 (y0 : Int32) (y1 : Int32) (y2 : Int32) (h : am_H) : Option am_O := fg_12_0 y0 y1 y2 h
theorem rm_12 {X : am_X} {d : Nat} (y0 : Int32) (y1 : Int32) (y2 : Int32) (h : am_H) (o : am_O) (hs : fm_12 y0 y1 y2 h = some o) : am_W X (d + 1) 12 0 (am_args 0 [.int y0, .int y1, .int y2]) [] h (fun q => q = o) := by
  rw [am_args_I, am_args_I, am_args_I]
  exact rg_12_0 y0 y1 y2 h o rfl rfl rfl  hs
def fg_14_31 (s0 : Int32) (h : am_H) : Option am_O := some (.inl (some (.int s0), h))
theorem rg_14_31 {X : am_X} {d : Nat} {lv : am_LV} (s0 : Int32) (h : am_H) (o : am_O) (hs : fg_14_31 s0 h = some o) : am_W X (d) 14 31 lv [(.int s0)] h (fun q => q = o) := by
  unfold fg_14_31 at hs
  cases hs
  exact aw_iret at_14_31 (by rw [rt_14]; rfl) rfl
def fg_14_0 (x0 : Int32) (h : am_H) : Option am_O := (if 7 ≤ x0 then (if 10 ≤ x0 then (if 20 ≤ x0 then (fg_14_31 3 h) else (fg_14_31 2 h)) else (fg_14_31 1 h)) else (fg_14_31 0 h))
theorem rg_14_0 {X : am_X} {d : Nat} {lv : am_LV} (x0 : Int32) (h : am_H) (o : am_O) (l0 : lv.lookup 0 = some (.int x0)) (hs : fg_14_0 x0 h = some o) : am_W X (d) 14 0 lv [] h (fun q => q = o) := by
  unfold fg_14_0 at hs
  refine aw_iload_n (pc1 := 1) at_14_0 l0 rfl ?_
  refine aw_bipush (v := 7) (pc1 := 3) at_14_1 (by decide) rfl ?_
  by_cases c1 : 7 ≤ x0
  · rw [if_pos c1] at hs
    refine aw_icge_t at_14_3 c1 ?_
    refine aw_iload_n (pc1 := 11) at_14_10 l0 rfl ?_
    refine aw_bipush (v := 10) (pc1 := 13) at_14_11 (by decide) rfl ?_
    by_cases c2 : 10 ≤ x0
    · rw [if_pos c2] at hs
      refine aw_icge_t at_14_13 c2 ?_
      refine aw_iload_n (pc1 := 21) at_14_20 l0 rfl ?_
      refine aw_bipush (v := 20) (pc1 := 23) at_14_21 (by decide) rfl ?_
      by_cases c3 : 20 ≤ x0
      · rw [if_pos c3] at hs
        refine aw_icge_t at_14_23 c3 ?_
        refine aw_iconst (v := 3) (pc1 := 31) at_14_30 (by decide) rfl ?_
        exact rg_14_31 3 h o   hs
      · rw [if_neg c3] at hs
        refine aw_icge_f (pc1 := 26) at_14_23 c3 rfl ?_
        refine aw_iconst (v := 2) (pc1 := 27) at_14_26 (by decide) rfl ?_
        refine aw_goto at_14_27 ?_
        exact rg_14_31 2 h o   hs
    · rw [if_neg c2] at hs
      refine aw_icge_f (pc1 := 16) at_14_13 c2 rfl ?_
      refine aw_iconst (v := 1) (pc1 := 17) at_14_16 (by decide) rfl ?_
      refine aw_goto at_14_17 ?_
      exact rg_14_31 1 h o   hs
  · rw [if_neg c1] at hs
    refine aw_icge_f (pc1 := 6) at_14_3 c1 rfl ?_
    refine aw_iconst (v := 0) (pc1 := 7) at_14_6 (by decide) rfl ?_
    refine aw_goto at_14_7 ?_
    exact rg_14_31 0 h o   hs
def fm_14 (y0 : Int32) (h : am_H) : Option am_O := fg_14_0 y0 h
theorem rm_14 {X : am_X} {d : Nat} (y0 : Int32) (h : am_H) (o : am_O) (hs : fm_14 y0 h = some o) : am_W X (d) 14 0 (am_args 0 [.int y0]) [] h (fun q => q = o) := by
  rw [am_args_I]
  exact rg_14_0 y0 h o rfl  hs
def fg_15_35 (s0 : Int64) (h : am_H) : Option am_O := some (.inl (some (.long s0), h))
theorem rg_15_35 {X : am_X} {d : Nat} {lv : am_LV} (s0 : Int64) (h : am_H) (o : am_O) (hs : fg_15_35 s0 h = some o) : am_W X (d) 15 35 lv [(.long s0)] h (fun q => q = o) := by
  unfold fg_15_35 at hs
  cases hs
  exact aw_lret at_15_35 rt_15 rfl
def fg_15_34 (h : am_H) : Option am_O := (fg_15_35 0 h)
theorem rg_15_34 {X : am_X} {d : Nat} {lv : am_LV} (h : am_H) (o : am_O) (hs : fg_15_34 h = some o) : am_W X (d) 15 34 lv [] h (fun q => q = o) := by
  unfold fg_15_34 at hs
  refine aw_lconst (v := 0) (pc1 := 35) at_15_34 (by decide) rfl ?_
  exact rg_15_35 0 h o   hs
def fg_15_0 (x0 : Value) (x1 : Int32) (x2 : Int32) (h : am_H) : Option am_O := (if x2 ≤ 0 then (fg_15_34 h) else (if 13 ≤ x2 then (fg_15_34 h) else (if x1 < 0 then (fg_15_34 h) else (if 6 ≤ x1 then (fg_15_34 h) else ((am_vR (am_pG 1025 x0 h)).bind fun v5 => ((am_pAL v5 ((x1 * 13) + x2) h).bind fun v7 => (fg_15_35 v7 h)))))))
theorem rg_15_0 {X : am_X} {d : Nat} {lv : am_LV} (x0 : Value) (x1 : Int32) (x2 : Int32) (h : am_H) (o : am_O) (l0 : lv.lookup 0 = some x0) (l1 : lv.lookup 1 = some (.int x1)) (l2 : lv.lookup 2 = some (.int x2)) (i0 : am_isR x0 = true) (hs : fg_15_0 x0 x1 x2 h = some o) : am_W X (d) 15 0 lv [] h (fun q => q = o) := by
  unfold fg_15_0 at hs
  refine aw_iload_n (pc1 := 1) at_15_0 l2 rfl ?_
  by_cases c1 : x2 ≤ 0
  · rw [if_pos c1] at hs
    refine aw_ifle_t at_15_1 c1 ?_
    exact rg_15_34 h o   hs
  · rw [if_neg c1] at hs
    refine aw_ifle_f (pc1 := 4) at_15_1 c1 rfl ?_
    refine aw_iload_n (pc1 := 5) at_15_4 l2 rfl ?_
    refine aw_bipush (v := 13) (pc1 := 7) at_15_5 (by decide) rfl ?_
    by_cases c2 : 13 ≤ x2
    · rw [if_pos c2] at hs
      refine aw_icge_t at_15_7 c2 ?_
      exact rg_15_34 h o   hs
    · rw [if_neg c2] at hs
      refine aw_icge_f (pc1 := 10) at_15_7 c2 rfl ?_
      refine aw_iload_n (pc1 := 11) at_15_10 l1 rfl ?_
      by_cases c3 : x1 < 0
      · rw [if_pos c3] at hs
        refine aw_iflt_t at_15_11 c3 ?_
        exact rg_15_34 h o   hs
      · rw [if_neg c3] at hs
        refine aw_iflt_f (pc1 := 14) at_15_11 c3 rfl ?_
        refine aw_iload_n (pc1 := 15) at_15_14 l1 rfl ?_
        refine aw_bipush (v := 6) (pc1 := 17) at_15_15 (by decide) rfl ?_
        by_cases c4 : 6 ≤ x1
        · rw [if_pos c4] at hs
          refine aw_icge_t at_15_17 c4 ?_
          exact rg_15_34 h o   hs
        · rw [if_neg c4] at hs
          refine aw_icge_f (pc1 := 20) at_15_17 c4 rfl ?_
          refine aw_vload_n (pc1 := 21) at_15_20 l0 i0 rfl ?_
          obtain ⟨v5, e6, hs⟩ := am_bind hs
          refine aw_pG (pc1 := 24) at_15_21 (am_vR_s e6).1 rfl ?_
          refine aw_iload_n (pc1 := 25) at_15_24 l1 rfl ?_
          refine aw_bipush (v := 13) (pc1 := 27) at_15_25 (by decide) rfl ?_
          refine aw_imul (v := (x1 * 13)) (pc1 := 28) at_15_27 rfl rfl ?_
          refine aw_iload_n (pc1 := 29) at_15_28 l2 rfl ?_
          refine aw_iadd (v := ((x1 * 13) + x2)) (pc1 := 30) at_15_29 rfl rfl ?_
          obtain ⟨v7, e8, hs⟩ := am_bind hs
          refine aw_pAL (pc1 := 31) at_15_30 e8 rfl ?_
          refine aw_goto at_15_31 ?_
          exact rg_15_35 v7 h o   hs
def fm_15 (y0 : Value) (y1 : Int32) (y2 : Int32) (h : am_H) : Option am_O := fg_15_0 y0 y1 y2 h
theorem rm_15 {X : am_X} {d : Nat} (y0 : Value) (y1 : Int32) (y2 : Int32) (h : am_H) (o : am_O) (i0 : am_isR y0 = true) (hs : fm_15 y0 y1 y2 h = some o) : am_W X (d) 15 0 (am_args 0 [y0, .int y1, .int y2]) [] h (fun q => q = o) := by
  rw [am_args_R i0, am_args_I, am_args_I]
  exact rg_15_0 y0 y1 y2 h o rfl rfl rfl i0 hs
def fg_16_6 (N : Nat) : Nat → Value → Int32 → Int32 → Int32 → Int64 → Int32 → am_H → Option am_O
  | 0 => fun _ _ _ _ _ _ _ => none
  | K + 1 => fun x0 x1 x2 x3 x4 x6 h => (if x3 ≤ x6 then some (.inl (some (.long x4), h)) else (if am_pOk 4 x0 h then am_cL true (fm_15 x0 x1 x6 h) (fun v3 h4 => (if am_pOk 4 x0 h4 then am_cL true (fm_15 x0 x2 ((x3 - x6)) h4) (fun v7 h8 => (fg_16_6 N K x0 x1 x2 x3 ((x4 + (v3 * v7))) ((x6 + 1)) h8)) else none)) else none))
theorem rg_16_6 {X : am_X} {d : Nat} {N : Nat} : ∀ (K : Nat) (x0 : Value) (x1 : Int32) (x2 : Int32) (x3 : Int32) (x4 : Int64) (x6 : Int32) (h : am_H) (o : am_O), fg_16_6 N K x0 x1 x2 x3 x4 x6 h = some o → ∀ lv : am_LV, (lv.lookup 0 = some x0) → (lv.lookup 1 = some (.int x1)) → (lv.lookup 2 = some (.int x2)) → (lv.lookup 3 = some (.int x3)) → (lv.lookup 4 = some (.long x4)) → (lv.lookup 6 = some (.int x6)) → (am_isR x0 = true) → am_W X (d + 1) 16 6 lv [] h (fun q => q = o) := by
  intro K
  induction K with
  | zero => intro x0 x1 x2 x3 x4 x6 h o hs; cases hs
  | succ K ih =>
    intro x0 x1 x2 x3 x4 x6 h o hs lv l0 l1 l2 l3 l4 l6 i0
    unfold fg_16_6 at hs
    refine aw_iload (pc1 := 8) at_16_6 l6 rfl ?_
    refine aw_iload_n (pc1 := 9) at_16_8 l3 rfl ?_
    by_cases c1 : x3 ≤ x6
    · rw [if_pos c1] at hs
      refine aw_icge_t at_16_9 c1 ?_
      refine aw_lload (pc1 := 42) at_16_40 l4 rfl ?_
      cases hs
      exact aw_lret at_16_42 rt_16 rfl
    · rw [if_neg c1] at hs
      refine aw_icge_f (pc1 := 12) at_16_9 c1 rfl ?_
      refine aw_lload (pc1 := 14) at_16_12 l4 rfl ?_
      refine aw_vload_n (pc1 := 15) at_16_14 l0 i0 rfl ?_
      refine aw_iload_n (pc1 := 16) at_16_15 l1 rfl ?_
      refine aw_iload (pc1 := 18) at_16_16 l6 rfl ?_
      obtain ⟨z2, hs⟩ := am_ift hs
      refine aw_call (t := true) (na := 3) (kd := 1) (as := [x0, (.int x1), (.int x6)]) at_16_18 rfl (congrArg (fun q => q.1) mi_15) (congrArg (fun q => q.2.1) mi_15) rfl rfl (am_ok_v mi_15 (am_hl rfl (am_ccR i0 (am_ccI (am_ccI am_cats_0))) rfl) z2) (am_hc (am_ccL am_cats_0) rfl) (fun _ => ⟨rfl, hh_16⟩) (fun o1 h9 => rm_15 x0 x1 x6 h o1 i0 h9) ?_
      rcases am_cL_s hs with ⟨v3, h4, f5, hs⟩ | hs
      · refine Or.inl ⟨_, _, f5, ?_⟩
        show am_W X _ 16 21 _ [(.long v3), (.long x4)] h4 _
        refine aw_vload_n (pc1 := 22) at_16_21 l0 i0 rfl ?_
        refine aw_iload_n (pc1 := 23) at_16_22 l2 rfl ?_
        refine aw_iload_n (pc1 := 24) at_16_23 l3 rfl ?_
        refine aw_iload (pc1 := 26) at_16_24 l6 rfl ?_
        refine aw_isub (v := (x3 - x6)) (pc1 := 27) at_16_26 rfl rfl ?_
        obtain ⟨z6, hs⟩ := am_ift hs
        refine aw_call (t := true) (na := 3) (kd := 1) (as := [x0, (.int x2), (.int (x3 - x6))]) at_16_27 rfl (congrArg (fun q => q.1) mi_15) (congrArg (fun q => q.2.1) mi_15) rfl rfl (am_ok_v mi_15 (am_hl rfl (am_ccR i0 (am_ccI (am_ccI am_cats_0))) rfl) z6) (am_hc (am_ccL (am_ccL am_cats_0)) rfl) (fun _ => ⟨rfl, hh_16⟩) (fun o1 h9 => rm_15 x0 x2 ((x3 - x6)) h4 o1 i0 h9) ?_
        rcases am_cL_s hs with ⟨v7, h8, f9, hs⟩ | hs
        · refine Or.inl ⟨_, _, f9, ?_⟩
          show am_W X _ 16 30 _ [(.long v7), (.long v3), (.long x4)] h8 _
          refine aw_lmul (v := (v3 * v7)) (pc1 := 31) at_16_30 rfl rfl ?_
          refine aw_ladd (v := (x4 + (v3 * v7))) (pc1 := 32) at_16_31 rfl rfl ?_
          refine aw_lstore (lv1 := am_put2 _ 4 _) (pc1 := 34) at_16_32 rfl rfl ?_
          refine aw_iinc (v := (x6 + 1)) (c := 1) (lv1 := am_put1 _ 6 _) (pc1 := 37) at_16_34 (am_lk2 l6 rfl rfl) (by decide) rfl rfl rfl ?_
          refine aw_goto at_16_37 ?_
          exact ih x0 x1 x2 x3 ((x4 + (v3 * v7))) ((x6 + 1)) h8 o hs _ (am_lk1 (am_lk2 l0 rfl rfl) rfl rfl) (am_lk1 (am_lk2 l1 rfl rfl) rfl rfl) (am_lk1 (am_lk2 l2 rfl rfl) rfl rfl) (am_lk1 (am_lk2 l3 rfl rfl) rfl rfl) (am_lk1 am_lk02 rfl rfl) am_lk0 i0
        · exact Or.inr hs
      · exact Or.inr hs
def fg_16_0 (N : Nat) (x0 : Value) (x1 : Int32) (x2 : Int32) (x3 : Int32) (h : am_H) : Option am_O := (fg_16_6 N N x0 x1 x2 x3 0 1 h)
theorem rg_16_0 {X : am_X} {d : Nat} {N : Nat} {lv : am_LV} (x0 : Value) (x1 : Int32) (x2 : Int32) (x3 : Int32) (h : am_H) (o : am_O) (l0 : lv.lookup 0 = some x0) (l1 : lv.lookup 1 = some (.int x1)) (l2 : lv.lookup 2 = some (.int x2)) (l3 : lv.lookup 3 = some (.int x3)) (i0 : am_isR x0 = true) (hs : fg_16_0 N x0 x1 x2 x3 h = some o) : am_W X (d + 1) 16 0 lv [] h (fun q => q = o) := by
  unfold fg_16_0 at hs
  refine aw_lconst (v := 0) (pc1 := 1) at_16_0 (by decide) rfl ?_
  refine aw_lstore (lv1 := am_put2 _ 4 _) (pc1 := 3) at_16_1 rfl rfl ?_
  refine aw_iconst (v := 1) (pc1 := 4) at_16_3 (by decide) rfl ?_
  refine aw_istore (lv1 := am_put1 _ 6 _) (pc1 := 6) at_16_4 rfl rfl ?_
  exact rg_16_6 N x0 x1 x2 x3 0 1 h o hs _ (am_lk1 (am_lk2 l0 rfl rfl) rfl rfl) (am_lk1 (am_lk2 l1 rfl rfl) rfl rfl) (am_lk1 (am_lk2 l2 rfl rfl) rfl rfl) (am_lk1 (am_lk2 l3 rfl rfl) rfl rfl) (am_lk1 am_lk02 rfl rfl) am_lk0 i0
def fm_16 (N : Nat) (y0 : Value) (y1 : Int32) (y2 : Int32) (y3 : Int32) (h : am_H) : Option am_O := fg_16_0 N y0 y1 y2 y3 h
theorem rm_16 {X : am_X} {d : Nat} {N : Nat} (y0 : Value) (y1 : Int32) (y2 : Int32) (y3 : Int32) (h : am_H) (o : am_O) (i0 : am_isR y0 = true) (hs : fm_16 N y0 y1 y2 y3 h = some o) : am_W X (d + 1) 16 0 (am_args 0 [y0, .int y1, .int y2, .int y3]) [] h (fun q => q = o) := by
  rw [am_args_R i0, am_args_I, am_args_I, am_args_I]
  exact rg_16_0 y0 y1 y2 y3 h o rfl rfl rfl rfl i0 hs
def fg_9_105 (N : Nat) : Nat → Value → Int32 → Int32 → Int32 → Int64 → Int32 → am_H → Option am_O
  | 0 => fun _ _ _ _ _ _ _ => none
  | K + 1 => fun x0 x3 x4 x5 x6 x8 h => (if (x3 - 1) ≤ x8 then some (.inl (some (.long x6), h)) else (if am_pOk 4 x0 h then am_cL true (fm_15 x0 x4 x8 h) (fun v3 h4 => (if am_pOk 4 x0 h4 then am_cL true (fm_16 N x0 x5 x5 (((x3 - 1) - x8)) h4) (fun v7 h8 => (fg_9_105 N K x0 x3 x4 x5 ((x6 + (v3 * v7))) ((x8 + 1)) h8)) else none)) else none))
theorem rg_9_105 {X : am_X} {d : Nat} {N : Nat} : ∀ (K : Nat) (x0 : Value) (x3 : Int32) (x4 : Int32) (x5 : Int32) (x6 : Int64) (x8 : Int32) (h : am_H) (o : am_O), fg_9_105 N K x0 x3 x4 x5 x6 x8 h = some o → ∀ lv : am_LV, (lv.lookup 0 = some x0) → (lv.lookup 3 = some (.int x3)) → (lv.lookup 4 = some (.int x4)) → (lv.lookup 5 = some (.int x5)) → (lv.lookup 6 = some (.long x6)) → (lv.lookup 8 = some (.int x8)) → (am_isR x0 = true) → am_W X (d + 2) 9 105 lv [] h (fun q => q = o) := by
  intro K
  induction K with
  | zero => intro x0 x3 x4 x5 x6 x8 h o hs; cases hs
  | succ K ih =>
    intro x0 x3 x4 x5 x6 x8 h o hs lv l0 l3 l4 l5 l6 l8 i0
    unfold fg_9_105 at hs
    refine aw_iload (pc1 := 107) at_9_105 l8 rfl ?_
    refine aw_iload_n (pc1 := 108) at_9_107 l3 rfl ?_
    refine aw_iconst (v := 1) (pc1 := 109) at_9_108 (by decide) rfl ?_
    refine aw_isub (v := (x3 - 1)) (pc1 := 110) at_9_109 rfl rfl ?_
    by_cases c1 : (x3 - 1) ≤ x8
    · rw [if_pos c1] at hs
      refine aw_icge_t at_9_110 c1 ?_
      refine aw_lload (pc1 := 149) at_9_147 l6 rfl ?_
      cases hs
      exact aw_lret at_9_149 rt_9 rfl
    · rw [if_neg c1] at hs
      refine aw_icge_f (pc1 := 113) at_9_110 c1 rfl ?_
      refine aw_lload (pc1 := 115) at_9_113 l6 rfl ?_
      refine aw_vload_n (pc1 := 116) at_9_115 l0 i0 rfl ?_
      refine aw_iload (pc1 := 118) at_9_116 l4 rfl ?_
      refine aw_iload (pc1 := 120) at_9_118 l8 rfl ?_
      obtain ⟨z2, hs⟩ := am_ift hs
      refine aw_call (t := true) (na := 3) (kd := 1) (as := [x0, (.int x4), (.int x8)]) at_9_120 rfl (congrArg (fun q => q.1) mi_15) (congrArg (fun q => q.2.1) mi_15) rfl rfl (am_ok_v mi_15 (am_hl rfl (am_ccR i0 (am_ccI (am_ccI am_cats_0))) rfl) z2) (am_hc (am_ccL am_cats_0) rfl) (fun _ => ⟨rfl, hh_9⟩) (fun o1 h9 => rm_15 x0 x4 x8 h o1 i0 h9) ?_
      rcases am_cL_s hs with ⟨v3, h4, f5, hs⟩ | hs
      · refine Or.inl ⟨_, _, f5, ?_⟩
        show am_W X _ 9 123 _ [(.long v3), (.long x6)] h4 _
        refine aw_vload_n (pc1 := 124) at_9_123 l0 i0 rfl ?_
        refine aw_iload (pc1 := 126) at_9_124 l5 rfl ?_
        refine aw_iload (pc1 := 128) at_9_126 l5 rfl ?_
        refine aw_iload_n (pc1 := 129) at_9_128 l3 rfl ?_
        refine aw_iconst (v := 1) (pc1 := 130) at_9_129 (by decide) rfl ?_
        refine aw_isub (v := (x3 - 1)) (pc1 := 131) at_9_130 rfl rfl ?_
        refine aw_iload (pc1 := 133) at_9_131 l8 rfl ?_
        refine aw_isub (v := ((x3 - 1) - x8)) (pc1 := 134) at_9_133 rfl rfl ?_
        obtain ⟨z6, hs⟩ := am_ift hs
        refine aw_call (t := true) (na := 4) (kd := 1) (as := [x0, (.int x5), (.int x5), (.int ((x3 - 1) - x8))]) at_9_134 rfl (congrArg (fun q => q.1) mi_16) (congrArg (fun q => q.2.1) mi_16) rfl rfl (am_ok_v mi_16 (am_hl rfl (am_ccR i0 (am_ccI (am_ccI (am_ccI am_cats_0)))) rfl) z6) (am_hc (am_ccL (am_ccL am_cats_0)) rfl) (fun _ => ⟨rfl, hh_9⟩) (fun o1 h9 => rm_16 x0 x5 x5 (((x3 - 1) - x8)) h4 o1 i0 h9) ?_
        rcases am_cL_s hs with ⟨v7, h8, f9, hs⟩ | hs
        · refine Or.inl ⟨_, _, f9, ?_⟩
          show am_W X _ 9 137 _ [(.long v7), (.long v3), (.long x6)] h8 _
          refine aw_lmul (v := (v3 * v7)) (pc1 := 138) at_9_137 rfl rfl ?_
          refine aw_ladd (v := (x6 + (v3 * v7))) (pc1 := 139) at_9_138 rfl rfl ?_
          refine aw_lstore (lv1 := am_put2 _ 6 _) (pc1 := 141) at_9_139 rfl rfl ?_
          refine aw_iinc (v := (x8 + 1)) (c := 1) (lv1 := am_put1 _ 8 _) (pc1 := 144) at_9_141 (am_lk2 l8 rfl rfl) (by decide) rfl rfl rfl ?_
          refine aw_goto at_9_144 ?_
          exact ih x0 x3 x4 x5 ((x6 + (v3 * v7))) ((x8 + 1)) h8 o hs _ (am_lk1 (am_lk2 l0 rfl rfl) rfl rfl) (am_lk1 (am_lk2 l3 rfl rfl) rfl rfl) (am_lk1 (am_lk2 l4 rfl rfl) rfl rfl) (am_lk1 (am_lk2 l5 rfl rfl) rfl rfl) (am_lk1 am_lk02 rfl rfl) am_lk0 i0
        · exact Or.inr hs
      · exact Or.inr hs
def fg_9_76 (N : Nat) (s0 : Int64) (h : am_H) : Option am_O := some (.inl (some (.long s0), h))
theorem rg_9_76 {X : am_X} {d : Nat} {N : Nat} {lv : am_LV} (s0 : Int64) (h : am_H) (o : am_O) (hs : fg_9_76 N s0 h = some o) : am_W X (d + 2) 9 76 lv [(.long s0)] h (fun q => q = o) := by
  unfold fg_9_76 at hs
  cases hs
  exact aw_lret at_9_76 rt_9 rfl
def fg_9_0 (N : Nat) (x0 : Value) (x1 : Int32) (x2 : Int32) (x3 : Int32) (h : am_H) : Option am_O := am_cI false (fm_10 x1 x2 h) (fun v1 h2 => (if ¬ v1 = 0 then am_cI false (fm_12 x1 x2 0 h2) (fun v5 h6 => am_cI false (fm_12 x1 x2 1 h6) (fun v8 h9 => am_cI false (fm_14 x2 h9) (fun v11 h12 => (if v11 = 0 then (if x3 ≤ 1 then (if ¬ x2 = 0 then (fg_9_76 N 1 h12) else (fg_9_76 N 10 h12)) else (fg_9_76 N 0 h12)) else (if v11 = 1 then (if am_pOk 4 x0 h12 then am_cL true (fm_15 x0 v5 ((x3 - 1)) h12) (fun v19 h20 => some (.inl (some (.long v19), h20))) else none) else (if v11 = 2 then (if am_pOk 4 x0 h12 then am_cL true (fm_16 N x0 v5 v8 ((x3 - 1)) h12) (fun v24 h25 => some (.inl (some (.long v24), h25))) else none) else (fg_9_105 N N x0 x3 v5 v8 0 1 h12))))))) else some (.inl (some (.long 0), h2))))
theorem rg_9_0 {X : am_X} {d : Nat} {N : Nat} {lv : am_LV} (x0 : Value) (x1 : Int32) (x2 : Int32) (x3 : Int32) (h : am_H) (o : am_O) (l0 : lv.lookup 0 = some x0) (l1 : lv.lookup 1 = some (.int x1)) (l2 : lv.lookup 2 = some (.int x2)) (l3 : lv.lookup 3 = some (.int x3)) (i0 : am_isR x0 = true) (hs : fg_9_0 N x0 x1 x2 x3 h = some o) : am_W X (d + 2) 9 0 lv [] h (fun q => q = o) := by
  unfold fg_9_0 at hs
  refine aw_iload_n (pc1 := 1) at_9_0 l1 rfl ?_
  refine aw_iload_n (pc1 := 2) at_9_1 l2 rfl ?_
  refine aw_call (t := false) (na := 2) (kd := 0) (as := [(.int x1), (.int x2)]) at_9_2 rfl (congrArg (fun q => q.1) mi_10) (congrArg (fun q => q.2.1) mi_10) rfl rfl (am_ok_s mi_10 (am_hl rfl (am_ccI (am_ccI am_cats_0)) rfl)) (am_hc am_cats_0 rfl) (fun h9 => by cases h9) (fun o1 h9 => rm_10 x1 x2 h o1  h9) ?_
  rcases am_cI_s hs with ⟨v1, h2, f3, hs⟩ | hs
  · refine Or.inl ⟨_, _, f3, ?_⟩
    show am_W X _ 9 5 _ [(.int v1)] h2 _
    by_cases c4 : ¬ v1 = 0
    · rw [if_pos c4] at hs
      refine aw_ifne_t at_9_5 c4 ?_
      refine aw_iload_n (pc1 := 11) at_9_10 l1 rfl ?_
      refine aw_iload_n (pc1 := 12) at_9_11 l2 rfl ?_
      refine aw_iconst (v := 0) (pc1 := 13) at_9_12 (by decide) rfl ?_
      refine aw_call (t := false) (na := 3) (kd := 0) (as := [(.int x1), (.int x2), (.int 0)]) at_9_13 rfl (congrArg (fun q => q.1) mi_12) (congrArg (fun q => q.2.1) mi_12) rfl rfl (am_ok_s mi_12 (am_hl rfl (am_ccI (am_ccI (am_ccI am_cats_0))) rfl)) (am_hc am_cats_0 rfl) (fun h9 => by cases h9) (fun o1 h9 => rm_12 x1 x2 0 h2 o1  h9) ?_
      rcases am_cI_s hs with ⟨v5, h6, f7, hs⟩ | hs
      · refine Or.inl ⟨_, _, f7, ?_⟩
        show am_W X _ 9 16 _ [(.int v5)] h6 _
        refine aw_istore (lv1 := am_put1 _ 4 _) (pc1 := 18) at_9_16 rfl rfl ?_
        refine aw_iload_n (pc1 := 19) at_9_18 (am_lk1 l1 rfl rfl) rfl ?_
        refine aw_iload_n (pc1 := 20) at_9_19 (am_lk1 l2 rfl rfl) rfl ?_
        refine aw_iconst (v := 1) (pc1 := 21) at_9_20 (by decide) rfl ?_
        refine aw_call (t := false) (na := 3) (kd := 0) (as := [(.int x1), (.int x2), (.int 1)]) at_9_21 rfl (congrArg (fun q => q.1) mi_12) (congrArg (fun q => q.2.1) mi_12) rfl rfl (am_ok_s mi_12 (am_hl rfl (am_ccI (am_ccI (am_ccI am_cats_0))) rfl)) (am_hc am_cats_0 rfl) (fun h9 => by cases h9) (fun o1 h9 => rm_12 x1 x2 1 h6 o1  h9) ?_
        rcases am_cI_s hs with ⟨v8, h9, f10, hs⟩ | hs
        · refine Or.inl ⟨_, _, f10, ?_⟩
          show am_W X _ 9 24 _ [(.int v8)] h9 _
          refine aw_istore (lv1 := am_put1 _ 5 _) (pc1 := 26) at_9_24 rfl rfl ?_
          refine aw_iload_n (pc1 := 27) at_9_26 (am_lk1 (am_lk1 l2 rfl rfl) rfl rfl) rfl ?_
          refine aw_call (t := false) (na := 1) (kd := 0) (as := [(.int x2)]) at_9_27 rfl (congrArg (fun q => q.1) mi_14) (congrArg (fun q => q.2.1) mi_14) rfl rfl (am_ok_s mi_14 (am_hl rfl (am_ccI am_cats_0) rfl)) (am_hc am_cats_0 rfl) (fun h9 => by cases h9) (fun o1 h9 => rm_14 x2 h9 o1  h9) ?_
          rcases am_cI_s hs with ⟨v11, h12, f13, hs⟩ | hs
          · refine Or.inl ⟨_, _, f13, ?_⟩
            show am_W X _ 9 30 _ [(.int v11)] h12 _
            by_cases c14 : v11 = 0
            · rw [if_pos c14] at hs
              refine aw_tsw (t := 56) at_9_30 (by rw [c14]; rfl) ?_
              refine aw_iload_n (pc1 := 57) at_9_56 (am_lk1 (am_lk1 l3 rfl rfl) rfl rfl) rfl ?_
              refine aw_iconst (v := 1) (pc1 := 58) at_9_57 (by decide) rfl ?_
              by_cases c15 : x3 ≤ 1
              · rw [if_pos c15] at hs
                refine aw_icle_t at_9_58 c15 ?_
                refine aw_iload_n (pc1 := 66) at_9_65 (am_lk1 (am_lk1 l2 rfl rfl) rfl rfl) rfl ?_
                by_cases c16 : ¬ x2 = 0
                · rw [if_pos c16] at hs
                  refine aw_ifne_t at_9_66 c16 ?_
                  refine aw_lconst (v := 1) (pc1 := 76) at_9_75 (by decide) rfl ?_
                  exact rg_9_76 1 h12 o   hs
                · rw [if_neg c16] at hs
                  refine aw_ifne_f (pc1 := 69) at_9_66 c16 rfl ?_
                  refine aw_ldc2 (v := 10) (pc1 := 72) at_9_69 rfl rfl ?_
                  refine aw_goto at_9_72 ?_
                  exact rg_9_76 10 h12 o   hs
              · rw [if_neg c15] at hs
                refine aw_icle_f (pc1 := 61) at_9_58 c15 rfl ?_
                refine aw_lconst (v := 0) (pc1 := 62) at_9_61 (by decide) rfl ?_
                refine aw_goto at_9_62 ?_
                exact rg_9_76 0 h12 o   hs
            · rw [if_neg c14] at hs
              by_cases c17 : v11 = 1
              · rw [if_pos c17] at hs
                refine aw_tsw (t := 77) at_9_30 (by rw [c17]; rfl) ?_
                refine aw_vload_n (pc1 := 78) at_9_77 (am_lk1 (am_lk1 l0 rfl rfl) rfl rfl) i0 rfl ?_
                refine aw_iload (pc1 := 80) at_9_78 (am_lk1 am_lk0 rfl rfl) rfl ?_
                refine aw_iload_n (pc1 := 81) at_9_80 (am_lk1 (am_lk1 l3 rfl rfl) rfl rfl) rfl ?_
                refine aw_iconst (v := 1) (pc1 := 82) at_9_81 (by decide) rfl ?_
                refine aw_isub (v := (x3 - 1)) (pc1 := 83) at_9_82 rfl rfl ?_
                obtain ⟨z18, hs⟩ := am_ift hs
                refine aw_call (t := true) (na := 3) (kd := 1) (as := [x0, (.int v5), (.int (x3 - 1))]) at_9_83 rfl (congrArg (fun q => q.1) mi_15) (congrArg (fun q => q.2.1) mi_15) rfl rfl (am_ok_v mi_15 (am_hl rfl (am_ccR i0 (am_ccI (am_ccI am_cats_0))) rfl) z18) (am_hc am_cats_0 rfl) (fun _ => ⟨rfl, hh_9⟩) (fun o1 h9 => rm_15 x0 v5 ((x3 - 1)) h12 o1 i0 h9) ?_
                rcases am_cL_s hs with ⟨v19, h20, f21, hs⟩ | hs
                · refine Or.inl ⟨_, _, f21, ?_⟩
                  show am_W X _ 9 86 _ [(.long v19)] h20 _
                  cases hs
                  exact aw_lret at_9_86 rt_9 rfl
                · exact Or.inr hs
              · rw [if_neg c17] at hs
                by_cases c22 : v11 = 2
                · rw [if_pos c22] at hs
                  refine aw_tsw (t := 87) at_9_30 (by rw [c22]; rfl) ?_
                  refine aw_vload_n (pc1 := 88) at_9_87 (am_lk1 (am_lk1 l0 rfl rfl) rfl rfl) i0 rfl ?_
                  refine aw_iload (pc1 := 90) at_9_88 (am_lk1 am_lk0 rfl rfl) rfl ?_
                  refine aw_iload (pc1 := 92) at_9_90 am_lk0 rfl ?_
                  refine aw_iload_n (pc1 := 93) at_9_92 (am_lk1 (am_lk1 l3 rfl rfl) rfl rfl) rfl ?_
                  refine aw_iconst (v := 1) (pc1 := 94) at_9_93 (by decide) rfl ?_
                  refine aw_isub (v := (x3 - 1)) (pc1 := 95) at_9_94 rfl rfl ?_
                  obtain ⟨z23, hs⟩ := am_ift hs
                  refine aw_call (t := true) (na := 4) (kd := 1) (as := [x0, (.int v5), (.int v8), (.int (x3 - 1))]) at_9_95 rfl (congrArg (fun q => q.1) mi_16) (congrArg (fun q => q.2.1) mi_16) rfl rfl (am_ok_v mi_16 (am_hl rfl (am_ccR i0 (am_ccI (am_ccI (am_ccI am_cats_0)))) rfl) z23) (am_hc am_cats_0 rfl) (fun _ => ⟨rfl, hh_9⟩) (fun o1 h9 => rm_16 x0 v5 v8 ((x3 - 1)) h12 o1 i0 h9) ?_
                  rcases am_cL_s hs with ⟨v24, h25, f26, hs⟩ | hs
                  · refine Or.inl ⟨_, _, f26, ?_⟩
                    show am_W X _ 9 98 _ [(.long v24)] h25 _
                    cases hs
                    exact aw_lret at_9_98 rt_9 rfl
                  · exact Or.inr hs
                · rw [if_neg c22] at hs
                  have tc14 : v11.toInt ≠ 0 := fun e9 => c14 (Int32.toInt_inj.mp e9)
                  have tc17 : v11.toInt ≠ 1 := fun e9 => c17 (Int32.toInt_inj.mp e9)
                  have tc22 : v11.toInt ≠ 2 := fun e9 => c22 (Int32.toInt_inj.mp e9)
                  refine aw_tsw (t := 99) at_9_30 (am_tsw_d (by omega)) ?_
                  refine aw_lconst (v := 0) (pc1 := 100) at_9_99 (by decide) rfl ?_
                  refine aw_lstore (lv1 := am_put2 _ 6 _) (pc1 := 102) at_9_100 rfl rfl ?_
                  refine aw_iconst (v := 1) (pc1 := 103) at_9_102 (by decide) rfl ?_
                  refine aw_istore (lv1 := am_put1 _ 8 _) (pc1 := 105) at_9_103 rfl rfl ?_
                  exact rg_9_105 N x0 x3 v5 v8 0 1 h12 o hs _ (am_lk1 (am_lk2 (am_lk1 (am_lk1 l0 rfl rfl) rfl rfl) rfl rfl) rfl rfl) (am_lk1 (am_lk2 (am_lk1 (am_lk1 l3 rfl rfl) rfl rfl) rfl rfl) rfl rfl) (am_lk1 (am_lk2 (am_lk1 am_lk0 rfl rfl) rfl rfl) rfl rfl) (am_lk1 (am_lk2 am_lk0 rfl rfl) rfl rfl) (am_lk1 am_lk02 rfl rfl) am_lk0 i0
          · exact Or.inr hs
        · exact Or.inr hs
      · exact Or.inr hs
    · rw [if_neg c4] at hs
      refine aw_ifne_f (pc1 := 8) at_9_5 c4 rfl ?_
      refine aw_lconst (v := 0) (pc1 := 9) at_9_8 (by decide) rfl ?_
      cases hs
      exact aw_lret at_9_9 rt_9 rfl
  · exact Or.inr hs
def fm_9 (N : Nat) (y0 : Value) (y1 : Int32) (y2 : Int32) (y3 : Int32) (h : am_H) : Option am_O := fg_9_0 N y0 y1 y2 y3 h
theorem rm_9 {X : am_X} {d : Nat} {N : Nat} (y0 : Value) (y1 : Int32) (y2 : Int32) (y3 : Int32) (h : am_H) (o : am_O) (i0 : am_isR y0 = true) (hs : fm_9 N y0 y1 y2 y3 h = some o) : am_W X (d + 2) 9 0 (am_args 0 [y0, .int y1, .int y2, .int y3]) [] h (fun q => q = o) := by
  rw [am_args_R i0, am_args_I, am_args_I, am_args_I]
  exact rg_9_0 y0 y1 y2 y3 h o rfl rfl rfl rfl i0 hs
def fg_8_79 (N : Nat) (rec_71 : Value → Int32 → am_H → Option am_O) : Nat → Value → Int32 → Int32 → am_H → Option am_O
  | 0 => fun _ _ _ _ => none
  | K + 1 => fun x0 x1 x2 h => (if 126 ≤ x2 then (rec_71 x0 ((x1 + 1)) h) else (if am_pOk 4 x0 h then am_cL true (fm_9 N x0 ((x2 / 21)) ((x2 - x2 / 21 * 21)) x1 h) (fun v3 h4 => ((am_vR (am_pG 1024 x0 h4)).bind fun v6 => ((am_pSL v6 ((x2 * 13) + x1) v3 h4).bind fun h8 => ((am_vR (am_pG 1025 x0 h8)).bind fun v10 => ((am_pAL v10 (((x2 / 21) * 13) + x1) h8).bind fun v12 => ((am_pSL v10 (((x2 / 21) * 13) + x1) (v12 + v3) h8).bind fun h14 => (fg_8_79 N rec_71 K x0 x1 ((x2 + 1)) h14))))))) else none))
theorem rg_8_79 {X : am_X} {d : Nat} {N : Nat} {rec_71 : Value → Int32 → am_H → Option am_O} (q_71 : ∀ (x0 : Value) (x1 : Int32) (h : am_H) (o : am_O), rec_71 x0 x1 h = some o → ∀ lv : am_LV, (lv.lookup 0 = some x0) → (lv.lookup 1 = some (.int x1)) → (am_isR x0 = true) → am_W X (d + 3) 8 71 lv [] h (fun q => q = o)) : ∀ (K : Nat) (x0 : Value) (x1 : Int32) (x2 : Int32) (h : am_H) (o : am_O), fg_8_79 N rec_71 K x0 x1 x2 h = some o → ∀ lv : am_LV, (lv.lookup 0 = some x0) → (lv.lookup 1 = some (.int x1)) → (lv.lookup 2 = some (.int x2)) → (am_isR x0 = true) → am_W X (d + 3) 8 79 lv [] h (fun q => q = o) := by
  intro K
  induction K with
  | zero => intro x0 x1 x2 h o hs; cases hs
  | succ K ih =>
    intro x0 x1 x2 h o hs lv l0 l1 l2 i0
    unfold fg_8_79 at hs
    refine aw_iload_n (pc1 := 80) at_8_79 l2 rfl ?_
    refine aw_bipush (v := 126) (pc1 := 82) at_8_80 (by decide) rfl ?_
    by_cases c1 : 126 ≤ x2
    · rw [if_pos c1] at hs
      refine aw_icge_t at_8_82 c1 ?_
      refine aw_iinc (v := (x1 + 1)) (c := 1) (lv1 := am_put1 _ 1 _) (pc1 := 138) at_8_135 l1 (by decide) rfl rfl rfl ?_
      refine aw_goto at_8_138 ?_
      exact q_71 x0 ((x1 + 1)) h o hs _ (am_lk1 l0 rfl (by rw [am_k1 i0]; rfl)) am_lk0 i0
    · rw [if_neg c1] at hs
      refine aw_icge_f (pc1 := 85) at_8_82 c1 rfl ?_
      refine aw_vload_n (pc1 := 86) at_8_85 l0 i0 rfl ?_
      refine aw_iload_n (pc1 := 87) at_8_86 l2 rfl ?_
      refine aw_bipush (v := 21) (pc1 := 89) at_8_87 (by decide) rfl ?_
      refine aw_idiv (v := (x2 / 21)) (pc1 := 90) at_8_89 (by decide) rfl rfl ?_
      refine aw_iload_n (pc1 := 91) at_8_90 l2 rfl ?_
      refine aw_bipush (v := 21) (pc1 := 93) at_8_91 (by decide) rfl ?_
      refine aw_irem (v := (x2 - x2 / 21 * 21)) (pc1 := 94) at_8_93 (by decide) rfl rfl ?_
      refine aw_iload_n (pc1 := 95) at_8_94 l1 rfl ?_
      obtain ⟨z2, hs⟩ := am_ift hs
      refine aw_call (t := true) (na := 4) (kd := 1) (as := [x0, (.int (x2 / 21)), (.int (x2 - x2 / 21 * 21)), (.int x1)]) at_8_95 rfl (congrArg (fun q => q.1) mi_9) (congrArg (fun q => q.2.1) mi_9) rfl rfl (am_ok_v mi_9 (am_hl rfl (am_ccR i0 (am_ccI (am_ccI (am_ccI am_cats_0)))) rfl) z2) (am_hc am_cats_0 rfl) (fun _ => ⟨rfl, hh_8⟩) (fun o1 h9 => rm_9 x0 ((x2 / 21)) ((x2 - x2 / 21 * 21)) x1 h o1 i0 h9) ?_
      rcases am_cL_s hs with ⟨v3, h4, f5, hs⟩ | hs
      · refine Or.inl ⟨_, _, f5, ?_⟩
        show am_W X _ 8 98 _ [(.long v3)] h4 _
        refine aw_lstore_n (lv1 := am_put2 _ 3 _) (pc1 := 99) at_8_98 rfl rfl ?_
        refine aw_vload_n (pc1 := 100) at_8_99 (am_lk2 l0 rfl rfl) i0 rfl ?_
        obtain ⟨v6, e7, hs⟩ := am_bind hs
        refine aw_pG (pc1 := 103) at_8_100 (am_vR_s e7).1 rfl ?_
        refine aw_iload_n (pc1 := 104) at_8_103 (am_lk2 l2 rfl rfl) rfl ?_
        refine aw_bipush (v := 13) (pc1 := 106) at_8_104 (by decide) rfl ?_
        refine aw_imul (v := (x2 * 13)) (pc1 := 107) at_8_106 rfl rfl ?_
        refine aw_iload_n (pc1 := 108) at_8_107 (am_lk2 l1 rfl rfl) rfl ?_
        refine aw_iadd (v := ((x2 * 13) + x1)) (pc1 := 109) at_8_108 rfl rfl ?_
        refine aw_lload_n (pc1 := 110) at_8_109 am_lk02 rfl ?_
        obtain ⟨h8, e9, hs⟩ := am_bind hs
        refine aw_pSL (pc1 := 111) at_8_110 e9 rfl ?_
        refine aw_vload_n (pc1 := 112) at_8_111 (am_lk2 l0 rfl rfl) i0 rfl ?_
        obtain ⟨v10, e11, hs⟩ := am_bind hs
        refine aw_pG (pc1 := 115) at_8_112 (am_vR_s e11).1 rfl ?_
        refine aw_iload_n (pc1 := 116) at_8_115 (am_lk2 l2 rfl rfl) rfl ?_
        refine aw_bipush (v := 21) (pc1 := 118) at_8_116 (by decide) rfl ?_
        refine aw_idiv (v := (x2 / 21)) (pc1 := 119) at_8_118 (by decide) rfl rfl ?_
        refine aw_bipush (v := 13) (pc1 := 121) at_8_119 (by decide) rfl ?_
        refine aw_imul (v := ((x2 / 21) * 13)) (pc1 := 122) at_8_121 rfl rfl ?_
        refine aw_iload_n (pc1 := 123) at_8_122 (am_lk2 l1 rfl rfl) rfl ?_
        refine aw_iadd (v := (((x2 / 21) * 13) + x1)) (pc1 := 124) at_8_123 rfl rfl ?_
        refine aw_vdup2 (pc1 := 125) at_8_124 (am_vR_s e11).2 rfl ?_
        obtain ⟨v12, e13, hs⟩ := am_bind hs
        refine aw_pAL (pc1 := 126) at_8_125 e13 rfl ?_
        refine aw_lload_n (pc1 := 127) at_8_126 am_lk02 rfl ?_
        refine aw_ladd (v := (v12 + v3)) (pc1 := 128) at_8_127 rfl rfl ?_
        obtain ⟨h14, e15, hs⟩ := am_bind hs
        refine aw_pSL (pc1 := 129) at_8_128 e15 rfl ?_
        refine aw_iinc (v := (x2 + 1)) (c := 1) (lv1 := am_put1 _ 2 _) (pc1 := 132) at_8_129 (am_lk2 l2 rfl rfl) (by decide) rfl rfl rfl ?_
        refine aw_goto at_8_132 ?_
        exact ih x0 x1 ((x2 + 1)) h14 o hs _ (am_lk1 (am_lk2 l0 rfl rfl) rfl rfl) (am_lk1 (am_lk2 l1 rfl rfl) rfl rfl) am_lk0 i0
      · exact Or.inr hs
def fg_8_71 (N : Nat) : Nat → Value → Int32 → am_H → Option am_O
  | 0 => fun _ _ _ => none
  | K + 1 => fun x0 x1 h => (if 13 ≤ x1 then some (.inl (none, h)) else (fg_8_79 N (fg_8_71 N K) N x0 x1 0 h))
theorem rg_8_71 {X : am_X} {d : Nat} {N : Nat} : ∀ (K : Nat) (x0 : Value) (x1 : Int32) (h : am_H) (o : am_O), fg_8_71 N K x0 x1 h = some o → ∀ lv : am_LV, (lv.lookup 0 = some x0) → (lv.lookup 1 = some (.int x1)) → (am_isR x0 = true) → am_W X (d + 3) 8 71 lv [] h (fun q => q = o) := by
  intro K
  induction K with
  | zero => intro x0 x1 h o hs; cases hs
  | succ K ih =>
    intro x0 x1 h o hs lv l0 l1 i0
    unfold fg_8_71 at hs
    refine aw_iload_n (pc1 := 72) at_8_71 l1 rfl ?_
    refine aw_bipush (v := 13) (pc1 := 74) at_8_72 (by decide) rfl ?_
    by_cases c1 : 13 ≤ x1
    · rw [if_pos c1] at hs
      refine aw_icge_t at_8_74 c1 ?_
      cases hs
      exact aw_vret at_8_141 rt_8 rfl
    · rw [if_neg c1] at hs
      refine aw_icge_f (pc1 := 77) at_8_74 c1 rfl ?_
      refine aw_iconst (v := 0) (pc1 := 78) at_8_77 (by decide) rfl ?_
      refine aw_istore_n (lv1 := am_put1 _ 2 _) (pc1 := 79) at_8_78 rfl rfl ?_
      exact rg_8_79 (fun z0 z1 h o hs => ih z0 z1 h o hs) N x0 x1 0 h o hs _ (am_lk1 l0 rfl rfl) (am_lk1 l1 rfl rfl) am_lk0 i0
def fg_8_0 (N : Nat) (x0 : Value) (h : am_H) : Option am_O := (if am_pRf x0 then ((am_pNew 1 1638 h).bind fun h2 => ((am_pP 1024 x0 (Value.ref h.length) h2).bind fun h4 => ((am_pNew 1 78 h4).bind fun h6 => ((am_pP 1025 x0 (Value.ref h4.length) h6).bind fun h8 => ((am_pObj 7 h8).bind fun h10 => (if am_pOk 7 (Value.ref h8.length) h10 then am_cV false (fm_3 ((Value.ref h8.length)) h10) (fun h14 => ((am_pP 1026 x0 (Value.ref h8.length) h14).bind fun h16 => ((am_pP 1027 x0 Value.null h16).bind fun h18 => ((am_pNew 6 24 h18).bind fun h20 => ((am_pP 1028 x0 (Value.ref h18.length) h20).bind fun h22 => ((am_pNew 0 24 h22).bind fun h24 => ((am_pP 1029 x0 (Value.ref h22.length) h24).bind fun h26 => ((am_pP 1030 x0 (.int 0) h26).bind fun h28 => ((am_pP 1031 x0 Value.null h28).bind fun h30 => ((am_pP 1032 x0 (.int 0) h30).bind fun h32 => (fg_8_71 N N x0 1 h32))))))))))) else none)))))) else none)
theorem rg_8_0 {X : am_X} {d : Nat} {N : Nat} {lv : am_LV} (x0 : Value) (h : am_H) (o : am_O) (l0 : lv.lookup 0 = some x0) (i0 : am_isR x0 = true) (hs : fg_8_0 N x0 h = some o) : am_W X (d + 3) 8 0 lv [] h (fun q => q = o) := by
  unfold fg_8_0 at hs
  refine aw_vload_n (pc1 := 1) at_8_0 l0 i0 rfl ?_
  obtain ⟨z1, hs⟩ := am_ift hs
  refine aw_obi at_8_1 rfl z1 (am_hc am_cats_0 rfl) ?_
  refine aw_vload_n (pc1 := 5) at_8_4 l0 i0 rfl ?_
  refine aw_sipush (v := 1638) (pc1 := 8) at_8_5 (by decide) rfl ?_
  obtain ⟨h2, e3, hs⟩ := am_bind hs
  refine aw_pNew (pc1 := 10) at_8_8 e3 rfl ?_
  obtain ⟨h4, e5, hs⟩ := am_bind hs
  refine aw_pP (pc1 := 13) at_8_10 e5 rfl ?_
  refine aw_vload_n (pc1 := 14) at_8_13 l0 i0 rfl ?_
  refine aw_bipush (v := 78) (pc1 := 16) at_8_14 (by decide) rfl ?_
  obtain ⟨h6, e7, hs⟩ := am_bind hs
  refine aw_pNew (pc1 := 18) at_8_16 e7 rfl ?_
  obtain ⟨h8, e9, hs⟩ := am_bind hs
  refine aw_pP (pc1 := 21) at_8_18 e9 rfl ?_
  refine aw_vload_n (pc1 := 22) at_8_21 l0 i0 rfl ?_
  obtain ⟨h10, e11, hs⟩ := am_bind hs
  refine aw_pObj (pc1 := 25) at_8_22 rfl rfl e11 rfl ?_
  refine aw_vdup (pc1 := 26) at_8_25 rfl rfl ?_
  obtain ⟨z12, hs⟩ := am_ift hs
  refine aw_call (t := false) (na := 1) (kd := 2) (as := [(Value.ref h8.length)]) at_8_26 rfl (congrArg (fun q => q.1) mi_3) (congrArg (fun q => q.2.1) mi_3) rfl rfl (am_ok_v mi_3 (am_hl rfl (am_ccR rfl am_cats_0) rfl) z12) (am_hc (am_ccR rfl (am_ccR i0 am_cats_0)) rfl) (fun h9 => by cases h9) (fun o1 h9 => rm_3 ((Value.ref h8.length)) h10 o1 rfl h9) ?_
  rcases am_cV_s hs with ⟨h14, f15, hs⟩ | hs
  · refine Or.inl ⟨_, _, f15, ?_⟩
    show am_W X _ 8 29 _ [(Value.ref h8.length), x0] h14 _
    obtain ⟨h16, e17, hs⟩ := am_bind hs
    refine aw_pP (pc1 := 32) at_8_29 e17 rfl ?_
    refine aw_vload_n (pc1 := 33) at_8_32 l0 i0 rfl ?_
    refine aw_null (pc1 := 34) at_8_33 rfl ?_
    obtain ⟨h18, e19, hs⟩ := am_bind hs
    refine aw_pP (pc1 := 37) at_8_34 e19 rfl ?_
    refine aw_vload_n (pc1 := 38) at_8_37 l0 i0 rfl ?_
    refine aw_bipush (v := 24) (pc1 := 40) at_8_38 (by decide) rfl ?_
    obtain ⟨h20, e21, hs⟩ := am_bind hs
    refine aw_pNewR (pc1 := 43) at_8_40 rfl e21 rfl ?_
    obtain ⟨h22, e23, hs⟩ := am_bind hs
    refine aw_pP (pc1 := 46) at_8_43 e23 rfl ?_
    refine aw_vload_n (pc1 := 47) at_8_46 l0 i0 rfl ?_
    refine aw_bipush (v := 24) (pc1 := 49) at_8_47 (by decide) rfl ?_
    obtain ⟨h24, e25, hs⟩ := am_bind hs
    refine aw_pNew (pc1 := 51) at_8_49 e25 rfl ?_
    obtain ⟨h26, e27, hs⟩ := am_bind hs
    refine aw_pP (pc1 := 54) at_8_51 e27 rfl ?_
    refine aw_vload_n (pc1 := 55) at_8_54 l0 i0 rfl ?_
    refine aw_iconst (v := 0) (pc1 := 56) at_8_55 (by decide) rfl ?_
    obtain ⟨h28, e29, hs⟩ := am_bind hs
    refine aw_pP (pc1 := 59) at_8_56 e29 rfl ?_
    refine aw_vload_n (pc1 := 60) at_8_59 l0 i0 rfl ?_
    refine aw_null (pc1 := 61) at_8_60 rfl ?_
    obtain ⟨h30, e31, hs⟩ := am_bind hs
    refine aw_pP (pc1 := 64) at_8_61 e31 rfl ?_
    refine aw_vload_n (pc1 := 65) at_8_64 l0 i0 rfl ?_
    refine aw_iconst (v := 0) (pc1 := 66) at_8_65 (by decide) rfl ?_
    obtain ⟨h32, e33, hs⟩ := am_bind hs
    refine aw_pP (pc1 := 69) at_8_66 e33 rfl ?_
    refine aw_iconst (v := 1) (pc1 := 70) at_8_69 (by decide) rfl ?_
    refine aw_istore_n (lv1 := am_put1 _ 1 _) (pc1 := 71) at_8_70 rfl rfl ?_
    exact rg_8_71 N x0 1 h32 o hs _ (am_lk1 l0 rfl (by rw [am_k1 i0]; rfl)) am_lk0 i0
  · exact Or.inr hs
def fm_8 (N : Nat) (y0 : Value) (h : am_H) : Option am_O := fg_8_0 N y0 h
theorem rm_8 {X : am_X} {d : Nat} {N : Nat} (y0 : Value) (h : am_H) (o : am_O) (i0 : am_isR y0 = true) (hs : fm_8 N y0 h = some o) : am_W X (d + 3) 8 0 (am_args 0 [y0]) [] h (fun q => q = o) := by
  rw [am_args_R i0]
  exact rg_8_0 y0 h o rfl i0 hs
def fg_36_24 (s0 : Int32) (h : am_H) : Option am_O := (if am_rfit (some FieldType.char) s0 then some (.inl (some (.int s0), h)) else none)
theorem rg_36_24 {X : am_X} {d : Nat} {lv : am_LV} (s0 : Int32) (h : am_H) (o : am_O) (hs : fg_36_24 s0 h = some o) : am_W X (d) 36 24 lv [(.int s0)] h (fun q => q = o) := by
  unfold fg_36_24 at hs
  obtain ⟨z1, hs⟩ := am_ift hs
  cases hs
  exact aw_iret at_36_24 (by rw [rt_36]; exact z1) rfl
def fg_36_0 (x0 : Value) (h : am_H) : Option am_O := ((am_vI (am_pG 2306 x0 h)).bind fun v1 => ((am_vI (am_pG 2305 x0 h)).bind fun v3 => (if v3 ≤ v1 then (fg_36_24 0 h) else ((am_vR (am_pG 2304 x0 h)).bind fun v6 => ((am_vI (am_pG 2306 x0 h)).bind fun v8 => ((am_pA 3 v6 v8 h).bind fun v10 => (fg_36_24 v10 h)))))))
theorem rg_36_0 {X : am_X} {d : Nat} {lv : am_LV} (x0 : Value) (h : am_H) (o : am_O) (l0 : lv.lookup 0 = some x0) (i0 : am_isR x0 = true) (hs : fg_36_0 x0 h = some o) : am_W X (d) 36 0 lv [] h (fun q => q = o) := by
  unfold fg_36_0 at hs
  refine aw_vload_n (pc1 := 1) at_36_0 l0 i0 rfl ?_
  obtain ⟨v1, e2, hs⟩ := am_bind hs
  refine aw_pG (pc1 := 4) at_36_1 (am_vI_s e2) rfl ?_
  refine aw_vload_n (pc1 := 5) at_36_4 l0 i0 rfl ?_
  obtain ⟨v3, e4, hs⟩ := am_bind hs
  refine aw_pG (pc1 := 8) at_36_5 (am_vI_s e4) rfl ?_
  by_cases c5 : v3 ≤ v1
  · rw [if_pos c5] at hs
    refine aw_icge_t at_36_8 c5 ?_
    refine aw_iconst (v := 0) (pc1 := 24) at_36_23 (by decide) rfl ?_
    exact rg_36_24 0 h o   hs
  · rw [if_neg c5] at hs
    refine aw_icge_f (pc1 := 11) at_36_8 c5 rfl ?_
    refine aw_vload_n (pc1 := 12) at_36_11 l0 i0 rfl ?_
    obtain ⟨v6, e7, hs⟩ := am_bind hs
    refine aw_pG (pc1 := 15) at_36_12 (am_vR_s e7).1 rfl ?_
    refine aw_vload_n (pc1 := 16) at_36_15 l0 i0 rfl ?_
    obtain ⟨v8, e9, hs⟩ := am_bind hs
    refine aw_pG (pc1 := 19) at_36_16 (am_vI_s e9) rfl ?_
    obtain ⟨v10, e11, hs⟩ := am_bind hs
    refine aw_pA (pc1 := 20) at_36_19 (Or.inr (Or.inr ⟨rfl, rfl⟩)) e11 rfl ?_
    refine aw_goto at_36_20 ?_
    exact rg_36_24 v10 h o   hs
def fm_36 (y0 : Value) (h : am_H) : Option am_O := fg_36_0 y0 h
theorem rm_36 {X : am_X} {d : Nat} (y0 : Value) (h : am_H) (o : am_O) (i0 : am_isR y0 = true) (hs : fm_36 y0 h = some o) : am_W X (d) 36 0 (am_args 0 [y0]) [] h (fun q => q = o) := by
  rw [am_args_R i0]
  exact rg_36_0 y0 h o rfl i0 hs
def fg_39_15 (h : am_H) : Option am_O := some (.inl (none, h))
theorem rg_39_15 {X : am_X} {d : Nat} {lv : am_LV} (h : am_H) (o : am_O) (hs : fg_39_15 h = some o) : am_W X (d) 39 15 lv [] h (fun q => q = o) := by
  unfold fg_39_15 at hs
  cases hs
  exact aw_vret at_39_15 rt_39 rfl
def fg_39_0 (x0 : Value) (h : am_H) : Option am_O := ((am_vI (am_pG 2307 x0 h)).bind fun v1 => (if 0 ≤ v1 then (fg_39_15 h) else ((am_vI (am_pG 2306 x0 h)).bind fun v4 => ((am_pP 2307 x0 (.int v4) h).bind fun h6 => (fg_39_15 h6)))))
theorem rg_39_0 {X : am_X} {d : Nat} {lv : am_LV} (x0 : Value) (h : am_H) (o : am_O) (l0 : lv.lookup 0 = some x0) (i0 : am_isR x0 = true) (hs : fg_39_0 x0 h = some o) : am_W X (d) 39 0 lv [] h (fun q => q = o) := by
  unfold fg_39_0 at hs
  refine aw_vload_n (pc1 := 1) at_39_0 l0 i0 rfl ?_
  obtain ⟨v1, e2, hs⟩ := am_bind hs
  refine aw_pG (pc1 := 4) at_39_1 (am_vI_s e2) rfl ?_
  by_cases c3 : 0 ≤ v1
  · rw [if_pos c3] at hs
    refine aw_ifge_t at_39_4 c3 ?_
    exact rg_39_15 h o   hs
  · rw [if_neg c3] at hs
    refine aw_ifge_f (pc1 := 7) at_39_4 c3 rfl ?_
    refine aw_vload_n (pc1 := 8) at_39_7 l0 i0 rfl ?_
    refine aw_vload_n (pc1 := 9) at_39_8 l0 i0 rfl ?_
    obtain ⟨v4, e5, hs⟩ := am_bind hs
    refine aw_pG (pc1 := 12) at_39_9 (am_vI_s e5) rfl ?_
    obtain ⟨h6, e7, hs⟩ := am_bind hs
    refine aw_pP (pc1 := 15) at_39_12 e7 rfl ?_
    exact rg_39_15 h6 o   hs
def fm_39 (y0 : Value) (h : am_H) : Option am_O := fg_39_0 y0 h
theorem rm_39 {X : am_X} {d : Nat} (y0 : Value) (h : am_H) (o : am_O) (i0 : am_isR y0 = true) (hs : fm_39 y0 h = some o) : am_W X (d) 39 0 (am_args 0 [y0]) [] h (fun q => q = o) := by
  rw [am_args_R i0]
  exact rg_39_0 y0 h o rfl i0 hs
def fg_41_29 (N : Nat) : Nat → Value → Int32 → Int32 → Int32 → Int32 → am_H → Option am_O
  | 0 => fun _ _ _ _ _ _ => none
  | K + 1 => fun x0 x1 x2 x3 x4 h => ((am_vI (am_pG 772 x0 h)).bind fun v1 => (if v1 ≤ x4 then ((am_vR (am_pG 768 x0 h)).bind fun v4 => ((am_pS 0 v4 x3 x1 h).bind fun h6 => ((am_vR (am_pG 768 x0 h6)).bind fun v8 => ((am_pS 0 v8 (x3 + 1) x2 h6).bind fun h10 => ((am_vI (am_pG 771 x0 h10)).bind fun v12 => ((am_pP 771 x0 (.int (v12 + 1)) h10).bind fun h14 => some (.inl (some (.int 1), h14)))))))) else ((am_vR (am_pG 768 x0 h)).bind fun v16 => ((am_pS 0 v16 (x3 + x4) 0 h).bind fun h18 => (fg_41_29 N K x0 x1 x2 x3 ((x4 + 1)) h18)))))
theorem rg_41_29 {X : am_X} {d : Nat} {N : Nat} : ∀ (K : Nat) (x0 : Value) (x1 : Int32) (x2 : Int32) (x3 : Int32) (x4 : Int32) (h : am_H) (o : am_O), fg_41_29 N K x0 x1 x2 x3 x4 h = some o → ∀ lv : am_LV, (lv.lookup 0 = some x0) → (lv.lookup 1 = some (.int x1)) → (lv.lookup 2 = some (.int x2)) → (lv.lookup 3 = some (.int x3)) → (lv.lookup 4 = some (.int x4)) → (am_isR x0 = true) → am_W X (d) 41 29 lv [] h (fun q => q = o) := by
  intro K
  induction K with
  | zero => intro x0 x1 x2 x3 x4 h o hs; cases hs
  | succ K ih =>
    intro x0 x1 x2 x3 x4 h o hs lv l0 l1 l2 l3 l4 i0
    unfold fg_41_29 at hs
    refine aw_iload (pc1 := 31) at_41_29 l4 rfl ?_
    refine aw_vload_n (pc1 := 32) at_41_31 l0 i0 rfl ?_
    obtain ⟨v1, e2, hs⟩ := am_bind hs
    refine aw_pG (pc1 := 35) at_41_32 (am_vI_s e2) rfl ?_
    by_cases c3 : v1 ≤ x4
    · rw [if_pos c3] at hs
      refine aw_icge_t at_41_35 c3 ?_
      refine aw_vload_n (pc1 := 55) at_41_54 l0 i0 rfl ?_
      obtain ⟨v4, e5, hs⟩ := am_bind hs
      refine aw_pG (pc1 := 58) at_41_55 (am_vR_s e5).1 rfl ?_
      refine aw_iload_n (pc1 := 59) at_41_58 l3 rfl ?_
      refine aw_iload_n (pc1 := 60) at_41_59 l1 rfl ?_
      obtain ⟨h6, e7, hs⟩ := am_bind hs
      refine aw_pS (pc1 := 61) at_41_60 (Or.inl ⟨rfl, rfl⟩) e7 rfl ?_
      refine aw_vload_n (pc1 := 62) at_41_61 l0 i0 rfl ?_
      obtain ⟨v8, e9, hs⟩ := am_bind hs
      refine aw_pG (pc1 := 65) at_41_62 (am_vR_s e9).1 rfl ?_
      refine aw_iload_n (pc1 := 66) at_41_65 l3 rfl ?_
      refine aw_iconst (v := 1) (pc1 := 67) at_41_66 (by decide) rfl ?_
      refine aw_iadd (v := (x3 + 1)) (pc1 := 68) at_41_67 rfl rfl ?_
      refine aw_iload_n (pc1 := 69) at_41_68 l2 rfl ?_
      obtain ⟨h10, e11, hs⟩ := am_bind hs
      refine aw_pS (pc1 := 70) at_41_69 (Or.inl ⟨rfl, rfl⟩) e11 rfl ?_
      refine aw_vload_n (pc1 := 71) at_41_70 l0 i0 rfl ?_
      refine aw_vdup (pc1 := 72) at_41_71 i0 rfl ?_
      obtain ⟨v12, e13, hs⟩ := am_bind hs
      refine aw_pG (pc1 := 75) at_41_72 (am_vI_s e13) rfl ?_
      refine aw_iconst (v := 1) (pc1 := 76) at_41_75 (by decide) rfl ?_
      refine aw_iadd (v := (v12 + 1)) (pc1 := 77) at_41_76 rfl rfl ?_
      obtain ⟨h14, e15, hs⟩ := am_bind hs
      refine aw_pP (pc1 := 80) at_41_77 e15 rfl ?_
      refine aw_iconst (v := 1) (pc1 := 81) at_41_80 (by decide) rfl ?_
      cases hs
      exact aw_iret at_41_81 (by rw [rt_41]; decide) rfl
    · rw [if_neg c3] at hs
      refine aw_icge_f (pc1 := 38) at_41_35 c3 rfl ?_
      refine aw_vload_n (pc1 := 39) at_41_38 l0 i0 rfl ?_
      obtain ⟨v16, e17, hs⟩ := am_bind hs
      refine aw_pG (pc1 := 42) at_41_39 (am_vR_s e17).1 rfl ?_
      refine aw_iload_n (pc1 := 43) at_41_42 l3 rfl ?_
      refine aw_iload (pc1 := 45) at_41_43 l4 rfl ?_
      refine aw_iadd (v := (x3 + x4)) (pc1 := 46) at_41_45 rfl rfl ?_
      refine aw_iconst (v := 0) (pc1 := 47) at_41_46 (by decide) rfl ?_
      obtain ⟨h18, e19, hs⟩ := am_bind hs
      refine aw_pS (pc1 := 48) at_41_47 (Or.inl ⟨rfl, rfl⟩) e19 rfl ?_
      refine aw_iinc (v := (x4 + 1)) (c := 1) (lv1 := am_put1 _ 4 _) (pc1 := 51) at_41_48 l4 (by decide) rfl rfl rfl ?_
      refine aw_goto at_41_51 ?_
      exact ih x0 x1 x2 x3 ((x4 + 1)) h18 o hs _ (am_lk1 l0 rfl rfl) (am_lk1 l1 rfl rfl) (am_lk1 l2 rfl rfl) (am_lk1 l3 rfl rfl) am_lk0 i0
def fg_41_0 (N : Nat) (x0 : Value) (x1 : Int32) (x2 : Int32) (h : am_H) : Option am_O := ((am_vI (am_pG 771 x0 h)).bind fun v1 => ((am_vI (am_pG 772 x0 h)).bind fun v3 => ((am_vI (am_pG 772 x0 h)).bind fun v5 => ((am_vR (am_pG 768 x0 h)).bind fun v7 => ((am_pLen v7 h).bind fun v9 => (if ((v1 * v3) + v5) ≤ v9 then (fg_41_29 N N x0 x1 x2 ((v1 * v3)) 2 h) else some (.inl (some (.int 0), h))))))))
theorem rg_41_0 {X : am_X} {d : Nat} {N : Nat} {lv : am_LV} (x0 : Value) (x1 : Int32) (x2 : Int32) (h : am_H) (o : am_O) (l0 : lv.lookup 0 = some x0) (l1 : lv.lookup 1 = some (.int x1)) (l2 : lv.lookup 2 = some (.int x2)) (i0 : am_isR x0 = true) (hs : fg_41_0 N x0 x1 x2 h = some o) : am_W X (d) 41 0 lv [] h (fun q => q = o) := by
  unfold fg_41_0 at hs
  refine aw_vload_n (pc1 := 1) at_41_0 l0 i0 rfl ?_
  obtain ⟨v1, e2, hs⟩ := am_bind hs
  refine aw_pG (pc1 := 4) at_41_1 (am_vI_s e2) rfl ?_
  refine aw_vload_n (pc1 := 5) at_41_4 l0 i0 rfl ?_
  obtain ⟨v3, e4, hs⟩ := am_bind hs
  refine aw_pG (pc1 := 8) at_41_5 (am_vI_s e4) rfl ?_
  refine aw_imul (v := (v1 * v3)) (pc1 := 9) at_41_8 rfl rfl ?_
  refine aw_istore_n (lv1 := am_put1 _ 3 _) (pc1 := 10) at_41_9 rfl rfl ?_
  refine aw_iload_n (pc1 := 11) at_41_10 am_lk0 rfl ?_
  refine aw_vload_n (pc1 := 12) at_41_11 (am_lk1 l0 rfl rfl) i0 rfl ?_
  obtain ⟨v5, e6, hs⟩ := am_bind hs
  refine aw_pG (pc1 := 15) at_41_12 (am_vI_s e6) rfl ?_
  refine aw_iadd (v := ((v1 * v3) + v5)) (pc1 := 16) at_41_15 rfl rfl ?_
  refine aw_vload_n (pc1 := 17) at_41_16 (am_lk1 l0 rfl rfl) i0 rfl ?_
  obtain ⟨v7, e8, hs⟩ := am_bind hs
  refine aw_pG (pc1 := 20) at_41_17 (am_vR_s e8).1 rfl ?_
  obtain ⟨v9, e10, hs⟩ := am_bind hs
  refine aw_pLen (pc1 := 21) at_41_20 e10 rfl ?_
  by_cases c11 : ((v1 * v3) + v5) ≤ v9
  · rw [if_pos c11] at hs
    refine aw_icle_t at_41_21 c11 ?_
    refine aw_iconst (v := 2) (pc1 := 27) at_41_26 (by decide) rfl ?_
    refine aw_istore (lv1 := am_put1 _ 4 _) (pc1 := 29) at_41_27 rfl rfl ?_
    exact rg_41_29 N x0 x1 x2 ((v1 * v3)) 2 h o hs _ (am_lk1 (am_lk1 l0 rfl rfl) rfl rfl) (am_lk1 (am_lk1 l1 rfl rfl) rfl rfl) (am_lk1 (am_lk1 l2 rfl rfl) rfl rfl) (am_lk1 am_lk0 rfl rfl) am_lk0 i0
  · rw [if_neg c11] at hs
    refine aw_icle_f (pc1 := 24) at_41_21 c11 rfl ?_
    refine aw_iconst (v := 0) (pc1 := 25) at_41_24 (by decide) rfl ?_
    cases hs
    exact aw_iret at_41_25 (by rw [rt_41]; decide) rfl
def fm_41 (N : Nat) (y0 : Value) (y1 : Int32) (y2 : Int32) (h : am_H) : Option am_O := fg_41_0 N y0 y1 y2 h
theorem rm_41 {X : am_X} {d : Nat} {N : Nat} (y0 : Value) (y1 : Int32) (y2 : Int32) (h : am_H) (o : am_O) (i0 : am_isR y0 = true) (hs : fm_41 N y0 y1 y2 h = some o) : am_W X (d) 41 0 (am_args 0 [y0, .int y1, .int y2]) [] h (fun q => q = o) := by
  rw [am_args_R i0, am_args_I, am_args_I]
  exact rg_41_0 y0 y1 y2 h o rfl rfl rfl i0 hs
def fg_42_27 (x0 : Value) (h : am_H) : Option am_O := (if am_pOk 9 x0 h then am_cV true (fm_39 x0 h) (fun h3 => some (.inl (some (.int 0), h3))) else none)
theorem rg_42_27 {X : am_X} {d : Nat} {lv : am_LV} (x0 : Value) (h : am_H) (o : am_O) (l0 : lv.lookup 0 = some x0) (i0 : am_isR x0 = true) (hs : fg_42_27 x0 h = some o) : am_W X (d + 1) 42 27 lv [] h (fun q => q = o) := by
  unfold fg_42_27 at hs
  refine aw_vload_n (pc1 := 28) at_42_27 l0 i0 rfl ?_
  obtain ⟨z1, hs⟩ := am_ift hs
  refine aw_call (t := true) (na := 1) (kd := 1) (as := [x0]) at_42_28 rfl (congrArg (fun q => q.1) mi_39) (congrArg (fun q => q.2.1) mi_39) rfl rfl (am_ok_v mi_39 (am_hl rfl (am_ccR i0 am_cats_0) rfl) z1) (am_hc am_cats_0 rfl) (fun _ => ⟨rfl, hh_42⟩) (fun o1 h9 => rm_39 x0 h o1 i0 h9) ?_
  rcases am_cV_s hs with ⟨h3, f4, hs⟩ | hs
  · refine Or.inl ⟨_, _, f4, ?_⟩
    show am_W X _ 42 31 _ [] h3 _
    refine aw_iconst (v := 0) (pc1 := 32) at_42_31 (by decide) rfl ?_
    cases hs
    exact aw_iret at_42_32 (by rw [rt_42]; decide) rfl
  · exact Or.inr hs
def fg_42_0 (x0 : Value) (x1 : Int32) (h : am_H) : Option am_O := ((am_vI (am_pG 2307 x0 h)).bind fun v1 => (if 0 ≤ v1 then (fg_42_27 x0 h) else (if am_pOk 9 x0 h then am_cI true (fm_36 x0 h) (fun v5 h6 => (if ¬ v5 = x1 then (fg_42_27 x0 h6) else ((am_vI (am_pG 2306 x0 h6)).bind fun v9 => ((am_pP 2306 x0 (.int (v9 + 1)) h6).bind fun h11 => some (.inl (some (.int 1), h11)))))) else none)))
theorem rg_42_0 {X : am_X} {d : Nat} {lv : am_LV} (x0 : Value) (x1 : Int32) (h : am_H) (o : am_O) (l0 : lv.lookup 0 = some x0) (l1 : lv.lookup 1 = some (.int x1)) (i0 : am_isR x0 = true) (hs : fg_42_0 x0 x1 h = some o) : am_W X (d + 1) 42 0 lv [] h (fun q => q = o) := by
  unfold fg_42_0 at hs
  refine aw_vload_n (pc1 := 1) at_42_0 l0 i0 rfl ?_
  obtain ⟨v1, e2, hs⟩ := am_bind hs
  refine aw_pG (pc1 := 4) at_42_1 (am_vI_s e2) rfl ?_
  by_cases c3 : 0 ≤ v1
  · rw [if_pos c3] at hs
    refine aw_ifge_t at_42_4 c3 ?_
    exact rg_42_27 x0 h o l0 i0 hs
  · rw [if_neg c3] at hs
    refine aw_ifge_f (pc1 := 7) at_42_4 c3 rfl ?_
    refine aw_vload_n (pc1 := 8) at_42_7 l0 i0 rfl ?_
    obtain ⟨z4, hs⟩ := am_ift hs
    refine aw_call (t := true) (na := 1) (kd := 1) (as := [x0]) at_42_8 rfl (congrArg (fun q => q.1) mi_36) (congrArg (fun q => q.2.1) mi_36) rfl rfl (am_ok_v mi_36 (am_hl rfl (am_ccR i0 am_cats_0) rfl) z4) (am_hc am_cats_0 rfl) (fun _ => ⟨rfl, hh_42⟩) (fun o1 h9 => rm_36 x0 h o1 i0 h9) ?_
    rcases am_cI_s hs with ⟨v5, h6, f7, hs⟩ | hs
    · refine Or.inl ⟨_, _, f7, ?_⟩
      show am_W X _ 42 11 _ [(.int v5)] h6 _
      refine aw_iload_n (pc1 := 12) at_42_11 l1 rfl ?_
      by_cases c8 : ¬ v5 = x1
      · rw [if_pos c8] at hs
        refine aw_icne_t at_42_12 c8 ?_
        exact rg_42_27 x0 h6 o l0 i0 hs
      · rw [if_neg c8] at hs
        refine aw_icne_f (pc1 := 15) at_42_12 c8 rfl ?_
        refine aw_vload_n (pc1 := 16) at_42_15 l0 i0 rfl ?_
        refine aw_vdup (pc1 := 17) at_42_16 i0 rfl ?_
        obtain ⟨v9, e10, hs⟩ := am_bind hs
        refine aw_pG (pc1 := 20) at_42_17 (am_vI_s e10) rfl ?_
        refine aw_iconst (v := 1) (pc1 := 21) at_42_20 (by decide) rfl ?_
        refine aw_iadd (v := (v9 + 1)) (pc1 := 22) at_42_21 rfl rfl ?_
        obtain ⟨h11, e12, hs⟩ := am_bind hs
        refine aw_pP (pc1 := 25) at_42_22 e12 rfl ?_
        refine aw_iconst (v := 1) (pc1 := 26) at_42_25 (by decide) rfl ?_
        cases hs
        exact aw_iret at_42_26 (by rw [rt_42]; decide) rfl
    · exact Or.inr hs
def fm_42 (y0 : Value) (y1 : Int32) (h : am_H) : Option am_O := fg_42_0 y0 y1 h
theorem rm_42 {X : am_X} {d : Nat} (y0 : Value) (y1 : Int32) (h : am_H) (o : am_O) (i0 : am_isR y0 = true) (hs : fm_42 y0 y1 h = some o) : am_W X (d + 1) 42 0 (am_args 0 [y0, .int y1]) [] h (fun q => q = o) := by
  rw [am_args_R i0, am_args_I]
  exact rg_42_0 y0 y1 h o rfl rfl i0 hs
def fg_45_17 (s0 : Int32) (h : am_H) : Option am_O := (if am_rfit (some FieldType.boolean) s0 then some (.inl (some (.int s0), h)) else none)
theorem rg_45_17 {X : am_X} {d : Nat} {lv : am_LV} (s0 : Int32) (h : am_H) (o : am_O) (hs : fg_45_17 s0 h = some o) : am_W X (d) 45 17 lv [(.int s0)] h (fun q => q = o) := by
  unfold fg_45_17 at hs
  obtain ⟨z1, hs⟩ := am_ift hs
  cases hs
  exact aw_iret at_45_17 (by rw [rt_45]; exact z1) rfl
def fg_45_16 (h : am_H) : Option am_O := (fg_45_17 0 h)
theorem rg_45_16 {X : am_X} {d : Nat} {lv : am_LV} (h : am_H) (o : am_O) (hs : fg_45_16 h = some o) : am_W X (d) 45 16 lv [] h (fun q => q = o) := by
  unfold fg_45_16 at hs
  refine aw_iconst (v := 0) (pc1 := 17) at_45_16 (by decide) rfl ?_
  exact rg_45_17 0 h o   hs
def fg_45_0 (x0 : Int32) (h : am_H) : Option am_O := (if x0 < 48 then (fg_45_16 h) else (if 57 < x0 then (fg_45_16 h) else (fg_45_17 1 h)))
theorem rg_45_0 {X : am_X} {d : Nat} {lv : am_LV} (x0 : Int32) (h : am_H) (o : am_O) (l0 : lv.lookup 0 = some (.int x0)) (hs : fg_45_0 x0 h = some o) : am_W X (d) 45 0 lv [] h (fun q => q = o) := by
  unfold fg_45_0 at hs
  refine aw_iload_n (pc1 := 1) at_45_0 l0 rfl ?_
  refine aw_bipush (v := 48) (pc1 := 3) at_45_1 (by decide) rfl ?_
  by_cases c1 : x0 < 48
  · rw [if_pos c1] at hs
    refine aw_iclt_t at_45_3 c1 ?_
    exact rg_45_16 h o   hs
  · rw [if_neg c1] at hs
    refine aw_iclt_f (pc1 := 6) at_45_3 c1 rfl ?_
    refine aw_iload_n (pc1 := 7) at_45_6 l0 rfl ?_
    refine aw_bipush (v := 57) (pc1 := 9) at_45_7 (by decide) rfl ?_
    by_cases c2 : 57 < x0
    · rw [if_pos c2] at hs
      refine aw_icgt_t at_45_9 c2 ?_
      exact rg_45_16 h o   hs
    · rw [if_neg c2] at hs
      refine aw_icgt_f (pc1 := 12) at_45_9 c2 rfl ?_
      refine aw_iconst (v := 1) (pc1 := 13) at_45_12 (by decide) rfl ?_
      refine aw_goto at_45_13 ?_
      exact rg_45_17 1 h o   hs
def fm_45 (y0 : Int32) (h : am_H) : Option am_O := fg_45_0 y0 h
theorem rm_45 {X : am_X} {d : Nat} (y0 : Int32) (h : am_H) (o : am_O) (hs : fm_45 y0 h = some o) : am_W X (d) 45 0 (am_args 0 [.int y0]) [] h (fun q => q = o) := by
  rw [am_args_I]
  exact rg_45_0 y0 h o rfl  hs
def fg_44_76 (N : Nat) (x1 : Int32) (h : am_H) : Option am_O := some (.inl (some (.int x1), h))
theorem rg_44_76 {X : am_X} {d : Nat} {N : Nat} {lv : am_LV} (x1 : Int32) (h : am_H) (o : am_O) (l1 : lv.lookup 1 = some (.int x1)) (hs : fg_44_76 N x1 h = some o) : am_W X (d + 1) 44 76 lv [] h (fun q => q = o) := by
  unfold fg_44_76 at hs
  refine aw_iload_n (pc1 := 77) at_44_76 l1 rfl ?_
  cases hs
  exact aw_iret at_44_77 (by rw [rt_44]; rfl) rfl
def fg_44_25 (N : Nat) : Nat → Value → Int32 → Int32 → am_H → Option am_O
  | 0 => fun _ _ _ _ => none
  | K + 1 => fun x0 x1 x2 h => (if 2 ≤ x2 then (fg_44_76 N x1 h) else ((am_vI (am_pG 2307 x0 h)).bind fun v2 => (if 0 ≤ v2 then (fg_44_76 N x1 h) else (if am_pOk 9 x0 h then am_cI true (fm_36 x0 h) (fun v6 h7 => am_cI false (fm_45 v6 h7) (fun v9 h10 => (if v9 = 0 then (fg_44_76 N x1 h10) else (if am_pOk 9 x0 h10 then am_cI true (fm_36 x0 h10) (fun v14 h15 => ((am_vI (am_pG 2306 x0 h15)).bind fun v17 => ((am_pP 2306 x0 (.int (v17 + 1)) h15).bind fun h19 => (fg_44_25 N K x0 ((((10 * x1) + v14) - 48)) ((x2 + 1)) h19)))) else none)))) else none))))
theorem rg_44_25 {X : am_X} {d : Nat} {N : Nat} : ∀ (K : Nat) (x0 : Value) (x1 : Int32) (x2 : Int32) (h : am_H) (o : am_O), fg_44_25 N K x0 x1 x2 h = some o → ∀ lv : am_LV, (lv.lookup 0 = some x0) → (lv.lookup 1 = some (.int x1)) → (lv.lookup 2 = some (.int x2)) → (am_isR x0 = true) → am_W X (d + 1) 44 25 lv [] h (fun q => q = o) := by
  intro K
  induction K with
  | zero => intro x0 x1 x2 h o hs; cases hs
  | succ K ih =>
    intro x0 x1 x2 h o hs lv l0 l1 l2 i0
    unfold fg_44_25 at hs
    refine aw_iload_n (pc1 := 26) at_44_25 l2 rfl ?_
    refine aw_iconst (v := 2) (pc1 := 27) at_44_26 (by decide) rfl ?_
    by_cases c1 : 2 ≤ x2
    · rw [if_pos c1] at hs
      refine aw_icge_t at_44_27 c1 ?_
      exact rg_44_76 x1 h o l1  hs
    · rw [if_neg c1] at hs
      refine aw_icge_f (pc1 := 30) at_44_27 c1 rfl ?_
      refine aw_vload_n (pc1 := 31) at_44_30 l0 i0 rfl ?_
      obtain ⟨v2, e3, hs⟩ := am_bind hs
      refine aw_pG (pc1 := 34) at_44_31 (am_vI_s e3) rfl ?_
      by_cases c4 : 0 ≤ v2
      · rw [if_pos c4] at hs
        refine aw_ifge_t at_44_34 c4 ?_
        exact rg_44_76 x1 h o l1  hs
      · rw [if_neg c4] at hs
        refine aw_ifge_f (pc1 := 37) at_44_34 c4 rfl ?_
        refine aw_vload_n (pc1 := 38) at_44_37 l0 i0 rfl ?_
        obtain ⟨z5, hs⟩ := am_ift hs
        refine aw_call (t := true) (na := 1) (kd := 1) (as := [x0]) at_44_38 rfl (congrArg (fun q => q.1) mi_36) (congrArg (fun q => q.2.1) mi_36) rfl rfl (am_ok_v mi_36 (am_hl rfl (am_ccR i0 am_cats_0) rfl) z5) (am_hc am_cats_0 rfl) (fun _ => ⟨rfl, hh_44⟩) (fun o1 h9 => rm_36 x0 h o1 i0 h9) ?_
        rcases am_cI_s hs with ⟨v6, h7, f8, hs⟩ | hs
        · refine Or.inl ⟨_, _, f8, ?_⟩
          show am_W X _ 44 41 _ [(.int v6)] h7 _
          refine aw_call (t := false) (na := 1) (kd := 0) (as := [(.int v6)]) at_44_41 rfl (congrArg (fun q => q.1) mi_45) (congrArg (fun q => q.2.1) mi_45) rfl rfl (am_ok_s mi_45 (am_hl rfl (am_ccI am_cats_0) rfl)) (am_hc am_cats_0 rfl) (fun h9 => by cases h9) (fun o1 h9 => rm_45 v6 h7 o1  h9) ?_
          rcases am_cI_s hs with ⟨v9, h10, f11, hs⟩ | hs
          · refine Or.inl ⟨_, _, f11, ?_⟩
            show am_W X _ 44 44 _ [(.int v9)] h10 _
            by_cases c12 : v9 = 0
            · rw [if_pos c12] at hs
              refine aw_ifeq_t at_44_44 c12 ?_
              exact rg_44_76 x1 h10 o l1  hs
            · rw [if_neg c12] at hs
              refine aw_ifeq_f (pc1 := 47) at_44_44 c12 rfl ?_
              refine aw_bipush (v := 10) (pc1 := 49) at_44_47 (by decide) rfl ?_
              refine aw_iload_n (pc1 := 50) at_44_49 l1 rfl ?_
              refine aw_imul (v := (10 * x1)) (pc1 := 51) at_44_50 rfl rfl ?_
              refine aw_vload_n (pc1 := 52) at_44_51 l0 i0 rfl ?_
              obtain ⟨z13, hs⟩ := am_ift hs
              refine aw_call (t := true) (na := 1) (kd := 1) (as := [x0]) at_44_52 rfl (congrArg (fun q => q.1) mi_36) (congrArg (fun q => q.2.1) mi_36) rfl rfl (am_ok_v mi_36 (am_hl rfl (am_ccR i0 am_cats_0) rfl) z13) (am_hc (am_ccI am_cats_0) rfl) (fun _ => ⟨rfl, hh_44⟩) (fun o1 h9 => rm_36 x0 h10 o1 i0 h9) ?_
              rcases am_cI_s hs with ⟨v14, h15, f16, hs⟩ | hs
              · refine Or.inl ⟨_, _, f16, ?_⟩
                show am_W X _ 44 55 _ [(.int v14), (.int (10 * x1))] h15 _
                refine aw_iadd (v := ((10 * x1) + v14)) (pc1 := 56) at_44_55 rfl rfl ?_
                refine aw_bipush (v := 48) (pc1 := 58) at_44_56 (by decide) rfl ?_
                refine aw_isub (v := (((10 * x1) + v14) - 48)) (pc1 := 59) at_44_58 rfl rfl ?_
                refine aw_istore_n (lv1 := am_put1 _ 1 _) (pc1 := 60) at_44_59 rfl rfl ?_
                refine aw_vload_n (pc1 := 61) at_44_60 (am_lk1 l0 rfl (by rw [am_k1 i0]; rfl)) i0 rfl ?_
                refine aw_vdup (pc1 := 62) at_44_61 i0 rfl ?_
                obtain ⟨v17, e18, hs⟩ := am_bind hs
                refine aw_pG (pc1 := 65) at_44_62 (am_vI_s e18) rfl ?_
                refine aw_iconst (v := 1) (pc1 := 66) at_44_65 (by decide) rfl ?_
                refine aw_iadd (v := (v17 + 1)) (pc1 := 67) at_44_66 rfl rfl ?_
                obtain ⟨h19, e20, hs⟩ := am_bind hs
                refine aw_pP (pc1 := 70) at_44_67 e20 rfl ?_
                refine aw_iinc (v := (x2 + 1)) (c := 1) (lv1 := am_put1 _ 2 _) (pc1 := 73) at_44_70 (am_lk1 l2 rfl rfl) (by decide) rfl rfl rfl ?_
                refine aw_goto at_44_73 ?_
                exact ih x0 ((((10 * x1) + v14) - 48)) ((x2 + 1)) h19 o hs _ (am_lk1 (am_lk1 l0 rfl (by rw [am_k1 i0]; rfl)) rfl rfl) (am_lk1 am_lk0 rfl rfl) am_lk0 i0
              · exact Or.inr hs
          · exact Or.inr hs
        · exact Or.inr hs
def fg_44_23 (N : Nat) (x0 : Value) (x1 : Int32) (h : am_H) : Option am_O := (fg_44_25 N N x0 x1 0 h)
theorem rg_44_23 {X : am_X} {d : Nat} {N : Nat} {lv : am_LV} (x0 : Value) (x1 : Int32) (h : am_H) (o : am_O) (l0 : lv.lookup 0 = some x0) (l1 : lv.lookup 1 = some (.int x1)) (i0 : am_isR x0 = true) (hs : fg_44_23 N x0 x1 h = some o) : am_W X (d + 1) 44 23 lv [] h (fun q => q = o) := by
  unfold fg_44_23 at hs
  refine aw_iconst (v := 0) (pc1 := 24) at_44_23 (by decide) rfl ?_
  refine aw_istore_n (lv1 := am_put1 _ 2 _) (pc1 := 25) at_44_24 rfl rfl ?_
  exact rg_44_25 N x0 x1 0 h o hs _ (am_lk1 l0 rfl rfl) (am_lk1 l1 rfl rfl) am_lk0 i0
def fg_44_19 (N : Nat) (x0 : Value) (x1 : Int32) (h : am_H) : Option am_O := (if am_pOk 9 x0 h then am_cV true (fm_39 x0 h) (fun h3 => (fg_44_23 N x0 x1 h3)) else none)
theorem rg_44_19 {X : am_X} {d : Nat} {N : Nat} {lv : am_LV} (x0 : Value) (x1 : Int32) (h : am_H) (o : am_O) (l0 : lv.lookup 0 = some x0) (l1 : lv.lookup 1 = some (.int x1)) (i0 : am_isR x0 = true) (hs : fg_44_19 N x0 x1 h = some o) : am_W X (d + 1) 44 19 lv [] h (fun q => q = o) := by
  unfold fg_44_19 at hs
  refine aw_vload_n (pc1 := 20) at_44_19 l0 i0 rfl ?_
  obtain ⟨z1, hs⟩ := am_ift hs
  refine aw_call (t := true) (na := 1) (kd := 1) (as := [x0]) at_44_20 rfl (congrArg (fun q => q.1) mi_39) (congrArg (fun q => q.2.1) mi_39) rfl rfl (am_ok_v mi_39 (am_hl rfl (am_ccR i0 am_cats_0) rfl) z1) (am_hc am_cats_0 rfl) (fun _ => ⟨rfl, hh_44⟩) (fun o1 h9 => rm_39 x0 h o1 i0 h9) ?_
  rcases am_cV_s hs with ⟨h3, f4, hs⟩ | hs
  · refine Or.inl ⟨_, _, f4, ?_⟩
    show am_W X _ 44 23 _ [] h3 _
    exact rg_44_23 x0 x1 h3 o l0 l1 i0 hs
  · exact Or.inr hs
def fg_44_0 (N : Nat) (x0 : Value) (h : am_H) : Option am_O := ((am_vI (am_pG 2307 x0 h)).bind fun v1 => (if 0 ≤ v1 then (fg_44_19 N x0 0 h) else (if am_pOk 9 x0 h then am_cI true (fm_36 x0 h) (fun v5 h6 => am_cI false (fm_45 v5 h6) (fun v8 h9 => (if ¬ v8 = 0 then (fg_44_23 N x0 0 h9) else (fg_44_19 N x0 0 h9)))) else none)))
theorem rg_44_0 {X : am_X} {d : Nat} {N : Nat} {lv : am_LV} (x0 : Value) (h : am_H) (o : am_O) (l0 : lv.lookup 0 = some x0) (i0 : am_isR x0 = true) (hs : fg_44_0 N x0 h = some o) : am_W X (d + 1) 44 0 lv [] h (fun q => q = o) := by
  unfold fg_44_0 at hs
  refine aw_iconst (v := 0) (pc1 := 1) at_44_0 (by decide) rfl ?_
  refine aw_istore_n (lv1 := am_put1 _ 1 _) (pc1 := 2) at_44_1 rfl rfl ?_
  refine aw_vload_n (pc1 := 3) at_44_2 (am_lk1 l0 rfl (by rw [am_k1 i0]; rfl)) i0 rfl ?_
  obtain ⟨v1, e2, hs⟩ := am_bind hs
  refine aw_pG (pc1 := 6) at_44_3 (am_vI_s e2) rfl ?_
  by_cases c3 : 0 ≤ v1
  · rw [if_pos c3] at hs
    refine aw_ifge_t at_44_6 c3 ?_
    exact rg_44_19 x0 0 h o (am_lk1 l0 rfl (by rw [am_k1 i0]; rfl)) am_lk0 i0 hs
  · rw [if_neg c3] at hs
    refine aw_ifge_f (pc1 := 9) at_44_6 c3 rfl ?_
    refine aw_vload_n (pc1 := 10) at_44_9 (am_lk1 l0 rfl (by rw [am_k1 i0]; rfl)) i0 rfl ?_
    obtain ⟨z4, hs⟩ := am_ift hs
    refine aw_call (t := true) (na := 1) (kd := 1) (as := [x0]) at_44_10 rfl (congrArg (fun q => q.1) mi_36) (congrArg (fun q => q.2.1) mi_36) rfl rfl (am_ok_v mi_36 (am_hl rfl (am_ccR i0 am_cats_0) rfl) z4) (am_hc am_cats_0 rfl) (fun _ => ⟨rfl, hh_44⟩) (fun o1 h9 => rm_36 x0 h o1 i0 h9) ?_
    rcases am_cI_s hs with ⟨v5, h6, f7, hs⟩ | hs
    · refine Or.inl ⟨_, _, f7, ?_⟩
      show am_W X _ 44 13 _ [(.int v5)] h6 _
      refine aw_call (t := false) (na := 1) (kd := 0) (as := [(.int v5)]) at_44_13 rfl (congrArg (fun q => q.1) mi_45) (congrArg (fun q => q.2.1) mi_45) rfl rfl (am_ok_s mi_45 (am_hl rfl (am_ccI am_cats_0) rfl)) (am_hc am_cats_0 rfl) (fun h9 => by cases h9) (fun o1 h9 => rm_45 v5 h6 o1  h9) ?_
      rcases am_cI_s hs with ⟨v8, h9, f10, hs⟩ | hs
      · refine Or.inl ⟨_, _, f10, ?_⟩
        show am_W X _ 44 16 _ [(.int v8)] h9 _
        by_cases c11 : ¬ v8 = 0
        · rw [if_pos c11] at hs
          refine aw_ifne_t at_44_16 c11 ?_
          exact rg_44_23 x0 0 h9 o (am_lk1 l0 rfl (by rw [am_k1 i0]; rfl)) am_lk0 i0 hs
        · rw [if_neg c11] at hs
          refine aw_ifne_f (pc1 := 19) at_44_16 c11 rfl ?_
          exact rg_44_19 x0 0 h9 o (am_lk1 l0 rfl (by rw [am_k1 i0]; rfl)) am_lk0 i0 hs
      · exact Or.inr hs
    · exact Or.inr hs
def fm_44 (N : Nat) (y0 : Value) (h : am_H) : Option am_O := fg_44_0 N y0 h
theorem rm_44 {X : am_X} {d : Nat} {N : Nat} (y0 : Value) (h : am_H) (o : am_O) (i0 : am_isR y0 = true) (hs : fm_44 N y0 h = some o) : am_W X (d + 1) 44 0 (am_args 0 [y0]) [] h (fun q => q = o) := by
  rw [am_args_R i0]
  exact rg_44_0 y0 h o rfl i0 hs
def fg_43_44 (N : Nat) (s0 : Int32) (h : am_H) : Option am_O := some (.inl (some (.int s0), h))
theorem rg_43_44 {X : am_X} {d : Nat} {N : Nat} {lv : am_LV} (s0 : Int32) (h : am_H) (o : am_O) (hs : fg_43_44 N s0 h = some o) : am_W X (d + 2) 43 44 lv [(.int s0)] h (fun q => q = o) := by
  unfold fg_43_44 at hs
  cases hs
  exact aw_iret at_43_44 (by rw [rt_43]; rfl) rfl
def fg_43_29 (N : Nat) (x0 : Value) (x1 : Int32) (h : am_H) : Option am_O := (if am_pOk 9 x0 h then am_cI true (fm_44 N x0 h) (fun v2 h3 => (if x1 = 0 then (fg_43_44 N v2 h3) else (fg_43_44 N ((-v2)) h3))) else none)
theorem rg_43_29 {X : am_X} {d : Nat} {N : Nat} {lv : am_LV} (x0 : Value) (x1 : Int32) (h : am_H) (o : am_O) (l0 : lv.lookup 0 = some x0) (l1 : lv.lookup 1 = some (.int x1)) (i0 : am_isR x0 = true) (hs : fg_43_29 N x0 x1 h = some o) : am_W X (d + 2) 43 29 lv [] h (fun q => q = o) := by
  unfold fg_43_29 at hs
  refine aw_vload_n (pc1 := 30) at_43_29 l0 i0 rfl ?_
  obtain ⟨z1, hs⟩ := am_ift hs
  refine aw_call (t := true) (na := 1) (kd := 1) (as := [x0]) at_43_30 rfl (congrArg (fun q => q.1) mi_44) (congrArg (fun q => q.2.1) mi_44) rfl rfl (am_ok_v mi_44 (am_hl rfl (am_ccR i0 am_cats_0) rfl) z1) (am_hc am_cats_0 rfl) (fun _ => ⟨rfl, hh_43⟩) (fun o1 h9 => rm_44 x0 h o1 i0 h9) ?_
  rcases am_cI_s hs with ⟨v2, h3, f4, hs⟩ | hs
  · refine Or.inl ⟨_, _, f4, ?_⟩
    show am_W X _ 43 33 _ [(.int v2)] h3 _
    refine aw_istore_n (lv1 := am_put1 _ 2 _) (pc1 := 34) at_43_33 rfl rfl ?_
    refine aw_iload_n (pc1 := 35) at_43_34 (am_lk1 l1 rfl rfl) rfl ?_
    by_cases c5 : x1 = 0
    · rw [if_pos c5] at hs
      refine aw_ifeq_t at_43_35 c5 ?_
      refine aw_iload_n (pc1 := 44) at_43_43 am_lk0 rfl ?_
      exact rg_43_44 v2 h3 o   hs
    · rw [if_neg c5] at hs
      refine aw_ifeq_f (pc1 := 38) at_43_35 c5 rfl ?_
      refine aw_iload_n (pc1 := 39) at_43_38 am_lk0 rfl ?_
      refine aw_ineg (v := (-v2)) (pc1 := 40) at_43_39 rfl rfl ?_
      refine aw_goto at_43_40 ?_
      exact rg_43_44 ((-v2)) h3 o   hs
  · exact Or.inr hs
def fg_43_14 (N : Nat) (x0 : Value) (s0 : Int32) (h : am_H) : Option am_O := (if s0 = 0 then (fg_43_29 N x0 s0 h) else ((am_vI (am_pG 2306 x0 h)).bind fun v2 => ((am_pP 2306 x0 (.int (v2 + 1)) h).bind fun h4 => (fg_43_29 N x0 s0 h4))))
theorem rg_43_14 {X : am_X} {d : Nat} {N : Nat} {lv : am_LV} (x0 : Value) (s0 : Int32) (h : am_H) (o : am_O) (l0 : lv.lookup 0 = some x0) (i0 : am_isR x0 = true) (hs : fg_43_14 N x0 s0 h = some o) : am_W X (d + 2) 43 14 lv [(.int s0)] h (fun q => q = o) := by
  unfold fg_43_14 at hs
  refine aw_istore_n (lv1 := am_put1 _ 1 _) (pc1 := 15) at_43_14 rfl rfl ?_
  refine aw_iload_n (pc1 := 16) at_43_15 am_lk0 rfl ?_
  by_cases c1 : s0 = 0
  · rw [if_pos c1] at hs
    refine aw_ifeq_t at_43_16 c1 ?_
    exact rg_43_29 x0 s0 h o (am_lk1 l0 rfl (by rw [am_k1 i0]; rfl)) am_lk0 i0 hs
  · rw [if_neg c1] at hs
    refine aw_ifeq_f (pc1 := 19) at_43_16 c1 rfl ?_
    refine aw_vload_n (pc1 := 20) at_43_19 (am_lk1 l0 rfl (by rw [am_k1 i0]; rfl)) i0 rfl ?_
    refine aw_vdup (pc1 := 21) at_43_20 i0 rfl ?_
    obtain ⟨v2, e3, hs⟩ := am_bind hs
    refine aw_pG (pc1 := 24) at_43_21 (am_vI_s e3) rfl ?_
    refine aw_iconst (v := 1) (pc1 := 25) at_43_24 (by decide) rfl ?_
    refine aw_iadd (v := (v2 + 1)) (pc1 := 26) at_43_25 rfl rfl ?_
    obtain ⟨h4, e5, hs⟩ := am_bind hs
    refine aw_pP (pc1 := 29) at_43_26 e5 rfl ?_
    exact rg_43_29 x0 s0 h4 o (am_lk1 l0 rfl (by rw [am_k1 i0]; rfl)) am_lk0 i0 hs
def fg_43_0 (N : Nat) (x0 : Value) (h : am_H) : Option am_O := (if am_pOk 9 x0 h then am_cI true (fm_36 x0 h) (fun v2 h3 => (if ¬ v2 = 45 then (fg_43_14 N x0 0 h3) else (fg_43_14 N x0 1 h3))) else none)
theorem rg_43_0 {X : am_X} {d : Nat} {N : Nat} {lv : am_LV} (x0 : Value) (h : am_H) (o : am_O) (l0 : lv.lookup 0 = some x0) (i0 : am_isR x0 = true) (hs : fg_43_0 N x0 h = some o) : am_W X (d + 2) 43 0 lv [] h (fun q => q = o) := by
  unfold fg_43_0 at hs
  refine aw_vload_n (pc1 := 1) at_43_0 l0 i0 rfl ?_
  obtain ⟨z1, hs⟩ := am_ift hs
  refine aw_call (t := true) (na := 1) (kd := 1) (as := [x0]) at_43_1 rfl (congrArg (fun q => q.1) mi_36) (congrArg (fun q => q.2.1) mi_36) rfl rfl (am_ok_v mi_36 (am_hl rfl (am_ccR i0 am_cats_0) rfl) z1) (am_hc am_cats_0 rfl) (fun _ => ⟨rfl, hh_43⟩) (fun o1 h9 => rm_36 x0 h o1 i0 h9) ?_
  rcases am_cI_s hs with ⟨v2, h3, f4, hs⟩ | hs
  · refine Or.inl ⟨_, _, f4, ?_⟩
    show am_W X _ 43 4 _ [(.int v2)] h3 _
    refine aw_bipush (v := 45) (pc1 := 6) at_43_4 (by decide) rfl ?_
    by_cases c5 : ¬ v2 = 45
    · rw [if_pos c5] at hs
      refine aw_icne_t at_43_6 c5 ?_
      refine aw_iconst (v := 0) (pc1 := 14) at_43_13 (by decide) rfl ?_
      exact rg_43_14 x0 0 h3 o l0 i0 hs
    · rw [if_neg c5] at hs
      refine aw_icne_f (pc1 := 9) at_43_6 c5 rfl ?_
      refine aw_iconst (v := 1) (pc1 := 10) at_43_9 (by decide) rfl ?_
      refine aw_goto at_43_10 ?_
      exact rg_43_14 x0 1 h3 o l0 i0 hs
  · exact Or.inr hs
def fm_43 (N : Nat) (y0 : Value) (h : am_H) : Option am_O := fg_43_0 N y0 h
theorem rm_43 {X : am_X} {d : Nat} {N : Nat} (y0 : Value) (h : am_H) (o : am_O) (i0 : am_isR y0 = true) (hs : fm_43 N y0 h = some o) : am_W X (d + 2) 43 0 (am_args 0 [y0]) [] h (fun q => q = o) := by
  rw [am_args_R i0]
  exact rg_43_0 y0 h o rfl i0 hs
def fg_35_132 (N : Nat) (rc_35 : Value → Int32 → Int32 → Int32 → am_H → Option am_O) (rc_40 : Value → Int32 → Int32 → Int32 → am_H → Option am_O) (h : am_H) : Option am_O := some (.inl (none, h))
theorem rg_35_132 {X : am_X} {d : Nat} {N : Nat} {rc_35 : Value → Int32 → Int32 → Int32 → am_H → Option am_O} {rc_40 : Value → Int32 → Int32 → Int32 → am_H → Option am_O} (qc_35 : ∀ (y0 : Value) (y1 : Int32) (y2 : Int32) (y3 : Int32) (h : am_H) (o : am_O), (am_isR y0 = true) → rc_35 y0 y1 y2 y3 h = some o → am_W X (d + 3) 35 0 (am_args 0 [y0, .int y1, .int y2, .int y3]) [] h (fun q => q = o)) (qc_40 : ∀ (y0 : Value) (y1 : Int32) (y2 : Int32) (y3 : Int32) (h : am_H) (o : am_O), (am_isR y0 = true) → rc_40 y0 y1 y2 y3 h = some o → am_W X (d + 3) 40 0 (am_args 0 [y0, .int y1, .int y2, .int y3]) [] h (fun q => q = o)) {lv : am_LV} (h : am_H) (o : am_O) (hs : fg_35_132 N rc_35 rc_40 h = some o) : am_W X (d + 4) 35 132 lv [] h (fun q => q = o) := by
  unfold fg_35_132 at hs
  cases hs
  exact aw_vret at_35_132 rt_35 rfl
def fg_35_90 (N : Nat) (rc_35 : Value → Int32 → Int32 → Int32 → am_H → Option am_O) (rc_40 : Value → Int32 → Int32 → Int32 → am_H → Option am_O) (x0 : Value) (x5 : Int32) (h : am_H) : Option am_O := (if x5 ≤ 0 then ((am_vR (am_pG 2308 x0 h)).bind fun v2 => (if am_pOk 9 x0 h then am_cI true (fm_43 N x0 h) (fun v5 h6 => (if am_pOk 3 v2 h6 then am_cI true (fm_41 N v2 0 v5 h6) (fun v9 h10 => (fg_35_132 N rc_35 rc_40 h10)) else none)) else none)) else ((am_vI (am_pG 2306 x0 h)).bind fun v12 => ((am_pP 2306 x0 (.int (v12 + 1)) h).bind fun h14 => ((am_vR (am_pG 2308 x0 h14)).bind fun v16 => (if am_pOk 3 v16 h14 then am_cI true (fm_41 N v16 x5 0 h14) (fun v19 h20 => (fg_35_132 N rc_35 rc_40 h20)) else none)))))
theorem rg_35_90 {X : am_X} {d : Nat} {N : Nat} {rc_35 : Value → Int32 → Int32 → Int32 → am_H → Option am_O} {rc_40 : Value → Int32 → Int32 → Int32 → am_H → Option am_O} (qc_35 : ∀ (y0 : Value) (y1 : Int32) (y2 : Int32) (y3 : Int32) (h : am_H) (o : am_O), (am_isR y0 = true) → rc_35 y0 y1 y2 y3 h = some o → am_W X (d + 3) 35 0 (am_args 0 [y0, .int y1, .int y2, .int y3]) [] h (fun q => q = o)) (qc_40 : ∀ (y0 : Value) (y1 : Int32) (y2 : Int32) (y3 : Int32) (h : am_H) (o : am_O), (am_isR y0 = true) → rc_40 y0 y1 y2 y3 h = some o → am_W X (d + 3) 40 0 (am_args 0 [y0, .int y1, .int y2, .int y3]) [] h (fun q => q = o)) {lv : am_LV} (x0 : Value) (x5 : Int32) (h : am_H) (o : am_O) (l0 : lv.lookup 0 = some x0) (l5 : lv.lookup 5 = some (.int x5)) (i0 : am_isR x0 = true) (hs : fg_35_90 N rc_35 rc_40 x0 x5 h = some o) : am_W X (d + 4) 35 90 lv [] h (fun q => q = o) := by
  unfold fg_35_90 at hs
  refine aw_iload (pc1 := 92) at_35_90 l5 rfl ?_
  by_cases c1 : x5 ≤ 0
  · rw [if_pos c1] at hs
    refine aw_ifle_t at_35_92 c1 ?_
    refine aw_vload_n (pc1 := 120) at_35_119 l0 i0 rfl ?_
    obtain ⟨v2, e3, hs⟩ := am_bind hs
    refine aw_pG (pc1 := 123) at_35_120 (am_vR_s e3).1 rfl ?_
    refine aw_iconst (v := 0) (pc1 := 124) at_35_123 (by decide) rfl ?_
    refine aw_vload_n (pc1 := 125) at_35_124 l0 i0 rfl ?_
    obtain ⟨z4, hs⟩ := am_ift hs
    refine aw_call (t := true) (na := 1) (kd := 1) (as := [x0]) at_35_125 rfl (congrArg (fun q => q.1) mi_43) (congrArg (fun q => q.2.1) mi_43) rfl rfl (am_ok_v mi_43 (am_hl rfl (am_ccR i0 am_cats_0) rfl) z4) (am_hc (am_ccI (am_ccR (am_vR_s e3).2 am_cats_0)) rfl) (fun _ => ⟨rfl, hh_35⟩) (fun o1 h9 => rm_43 x0 h o1 i0 h9) ?_
    rcases am_cI_s hs with ⟨v5, h6, f7, hs⟩ | hs
    · refine Or.inl ⟨_, _, f7, ?_⟩
      show am_W X _ 35 128 _ [(.int v5), (.int 0), v2] h6 _
      obtain ⟨z8, hs⟩ := am_ift hs
      refine aw_call (t := true) (na := 3) (kd := 1) (as := [v2, (.int 0), (.int v5)]) at_35_128 rfl (congrArg (fun q => q.1) mi_41) (congrArg (fun q => q.2.1) mi_41) rfl rfl (am_ok_v mi_41 (am_hl rfl (am_ccR (am_vR_s e3).2 (am_ccI (am_ccI am_cats_0))) rfl) z8) (am_hc am_cats_0 rfl) (fun _ => ⟨rfl, hh_35⟩) (fun o1 h9 => rm_41 v2 0 v5 h6 o1 (am_vR_s e3).2 h9) ?_
      rcases am_cI_s hs with ⟨v9, h10, f11, hs⟩ | hs
      · refine Or.inl ⟨_, _, f11, ?_⟩
        show am_W X _ 35 131 _ [(.int v9)] h10 _
        refine aw_popi (pc1 := 132) at_35_131 rfl ?_
        exact rg_35_132 qc_35 qc_40 h10 o   hs
      · exact Or.inr hs
    · exact Or.inr hs
  · rw [if_neg c1] at hs
    refine aw_ifle_f (pc1 := 95) at_35_92 c1 rfl ?_
    refine aw_vload_n (pc1 := 96) at_35_95 l0 i0 rfl ?_
    refine aw_vdup (pc1 := 97) at_35_96 i0 rfl ?_
    obtain ⟨v12, e13, hs⟩ := am_bind hs
    refine aw_pG (pc1 := 100) at_35_97 (am_vI_s e13) rfl ?_
    refine aw_iconst (v := 1) (pc1 := 101) at_35_100 (by decide) rfl ?_
    refine aw_iadd (v := (v12 + 1)) (pc1 := 102) at_35_101 rfl rfl ?_
    obtain ⟨h14, e15, hs⟩ := am_bind hs
    refine aw_pP (pc1 := 105) at_35_102 e15 rfl ?_
    refine aw_vload_n (pc1 := 106) at_35_105 l0 i0 rfl ?_
    obtain ⟨v16, e17, hs⟩ := am_bind hs
    refine aw_pG (pc1 := 109) at_35_106 (am_vR_s e17).1 rfl ?_
    refine aw_iload (pc1 := 111) at_35_109 l5 rfl ?_
    refine aw_iconst (v := 0) (pc1 := 112) at_35_111 (by decide) rfl ?_
    obtain ⟨z18, hs⟩ := am_ift hs
    refine aw_call (t := true) (na := 3) (kd := 1) (as := [v16, (.int x5), (.int 0)]) at_35_112 rfl (congrArg (fun q => q.1) mi_41) (congrArg (fun q => q.2.1) mi_41) rfl rfl (am_ok_v mi_41 (am_hl rfl (am_ccR (am_vR_s e17).2 (am_ccI (am_ccI am_cats_0))) rfl) z18) (am_hc am_cats_0 rfl) (fun _ => ⟨rfl, hh_35⟩) (fun o1 h9 => rm_41 v16 x5 0 h14 o1 (am_vR_s e17).2 h9) ?_
    rcases am_cI_s hs with ⟨v19, h20, f21, hs⟩ | hs
    · refine Or.inl ⟨_, _, f21, ?_⟩
      show am_W X _ 35 115 _ [(.int v19)] h20 _
      refine aw_popi (pc1 := 116) at_35_115 rfl ?_
      refine aw_goto at_35_116 ?_
      exact rg_35_132 qc_35 qc_40 h20 o   hs
    · exact Or.inr hs
def fg_35_83 (N : Nat) (rc_35 : Value → Int32 → Int32 → Int32 → am_H → Option am_O) (rc_40 : Value → Int32 → Int32 → Int32 → am_H → Option am_O) (x0 : Value) (h : am_H) : Option am_O := (if am_pOk 9 x0 h then am_cV true (fm_39 x0 h) (fun h3 => (fg_35_132 N rc_35 rc_40 h3)) else none)
theorem rg_35_83 {X : am_X} {d : Nat} {N : Nat} {rc_35 : Value → Int32 → Int32 → Int32 → am_H → Option am_O} {rc_40 : Value → Int32 → Int32 → Int32 → am_H → Option am_O} (qc_35 : ∀ (y0 : Value) (y1 : Int32) (y2 : Int32) (y3 : Int32) (h : am_H) (o : am_O), (am_isR y0 = true) → rc_35 y0 y1 y2 y3 h = some o → am_W X (d + 3) 35 0 (am_args 0 [y0, .int y1, .int y2, .int y3]) [] h (fun q => q = o)) (qc_40 : ∀ (y0 : Value) (y1 : Int32) (y2 : Int32) (y3 : Int32) (h : am_H) (o : am_O), (am_isR y0 = true) → rc_40 y0 y1 y2 y3 h = some o → am_W X (d + 3) 40 0 (am_args 0 [y0, .int y1, .int y2, .int y3]) [] h (fun q => q = o)) {lv : am_LV} (x0 : Value) (h : am_H) (o : am_O) (l0 : lv.lookup 0 = some x0) (i0 : am_isR x0 = true) (hs : fg_35_83 N rc_35 rc_40 x0 h = some o) : am_W X (d + 4) 35 83 lv [] h (fun q => q = o) := by
  unfold fg_35_83 at hs
  refine aw_vload_n (pc1 := 84) at_35_83 l0 i0 rfl ?_
  obtain ⟨z1, hs⟩ := am_ift hs
  refine aw_call (t := true) (na := 1) (kd := 1) (as := [x0]) at_35_84 rfl (congrArg (fun q => q.1) mi_39) (congrArg (fun q => q.2.1) mi_39) rfl rfl (am_ok_v mi_39 (am_hl rfl (am_ccR i0 am_cats_0) rfl) z1) (am_hc am_cats_0 rfl) (fun _ => ⟨rfl, hh_35⟩) (fun o1 h9 => rm_39 x0 h o1 i0 h9) ?_
  rcases am_cV_s hs with ⟨h3, f4, hs⟩ | hs
  · refine Or.inl ⟨_, _, f4, ?_⟩
    show am_W X _ 35 87 _ [] h3 _
    refine aw_goto at_35_87 ?_
    exact rg_35_132 qc_35 qc_40 h3 o   hs
  · exact Or.inr hs
def fg_35_35 (N : Nat) (rc_35 : Value → Int32 → Int32 → Int32 → am_H → Option am_O) (rc_40 : Value → Int32 → Int32 → Int32 → am_H → Option am_O) (x0 : Value) (h : am_H) : Option am_O := (if am_pOk 9 x0 h then am_cV true (fm_39 x0 h) (fun h3 => (fg_35_132 N rc_35 rc_40 h3)) else none)
theorem rg_35_35 {X : am_X} {d : Nat} {N : Nat} {rc_35 : Value → Int32 → Int32 → Int32 → am_H → Option am_O} {rc_40 : Value → Int32 → Int32 → Int32 → am_H → Option am_O} (qc_35 : ∀ (y0 : Value) (y1 : Int32) (y2 : Int32) (y3 : Int32) (h : am_H) (o : am_O), (am_isR y0 = true) → rc_35 y0 y1 y2 y3 h = some o → am_W X (d + 3) 35 0 (am_args 0 [y0, .int y1, .int y2, .int y3]) [] h (fun q => q = o)) (qc_40 : ∀ (y0 : Value) (y1 : Int32) (y2 : Int32) (y3 : Int32) (h : am_H) (o : am_O), (am_isR y0 = true) → rc_40 y0 y1 y2 y3 h = some o → am_W X (d + 3) 40 0 (am_args 0 [y0, .int y1, .int y2, .int y3]) [] h (fun q => q = o)) {lv : am_LV} (x0 : Value) (h : am_H) (o : am_O) (l0 : lv.lookup 0 = some x0) (i0 : am_isR x0 = true) (hs : fg_35_35 N rc_35 rc_40 x0 h = some o) : am_W X (d + 4) 35 35 lv [] h (fun q => q = o) := by
  unfold fg_35_35 at hs
  refine aw_vload_n (pc1 := 36) at_35_35 l0 i0 rfl ?_
  obtain ⟨z1, hs⟩ := am_ift hs
  refine aw_call (t := true) (na := 1) (kd := 1) (as := [x0]) at_35_36 rfl (congrArg (fun q => q.1) mi_39) (congrArg (fun q => q.2.1) mi_39) rfl rfl (am_ok_v mi_39 (am_hl rfl (am_ccR i0 am_cats_0) rfl) z1) (am_hc am_cats_0 rfl) (fun _ => ⟨rfl, hh_35⟩) (fun o1 h9 => rm_39 x0 h o1 i0 h9) ?_
  rcases am_cV_s hs with ⟨h3, f4, hs⟩ | hs
  · refine Or.inl ⟨_, _, f4, ?_⟩
    show am_W X _ 35 39 _ [] h3 _
    refine aw_goto at_35_39 ?_
    exact rg_35_132 qc_35 qc_40 h3 o   hs
  · exact Or.inr hs
def fg_35_0 (N : Nat) (rc_35 : Value → Int32 → Int32 → Int32 → am_H → Option am_O) (rc_40 : Value → Int32 → Int32 → Int32 → am_H → Option am_O) (x0 : Value) (x1 : Int32) (x2 : Int32) (x3 : Int32) (h : am_H) : Option am_O := (if am_pOk 9 x0 h then am_cI true (fm_36 x0 h) (fun v2 h3 => ((am_vR (am_pG 2308 x0 h3)).bind fun v5 => ((am_vI (am_pG 771 v5 h3)).bind fun v7 => (if 60 ≤ v7 then (fg_35_35 N rc_35 rc_40 x0 h3) else (if x2 ≤ 12 then (if ¬ v2 = 40 then (if ¬ x1 = 0 then (fg_35_83 N rc_35 rc_40 x0 h3) else (if ((am_ixF v2 (am_txt 3) 0) + 1) < 5 then (fg_35_90 N rc_35 rc_40 x0 (((am_ixF v2 (am_txt 3) 0) + 1)) h3) else (if ¬ x3 = 0 then (fg_35_90 N rc_35 rc_40 x0 (((am_ixF v2 (am_txt 3) 0) + 1)) h3) else (fg_35_83 N rc_35 rc_40 x0 h3)))) else ((am_vI (am_pG 2306 x0 h3)).bind fun v15 => ((am_pP 2306 x0 (.int (v15 + 1)) h3).bind fun h17 => (if am_pOk 9 x0 h17 then am_cV true (rc_40 x0 x1 x2 x3 h17) (fun h21 => (fg_35_132 N rc_35 rc_40 h21)) else none)))) else (fg_35_35 N rc_35 rc_40 x0 h3)))))) else none)
theorem rg_35_0 {X : am_X} {d : Nat} {N : Nat} {rc_35 : Value → Int32 → Int32 → Int32 → am_H → Option am_O} {rc_40 : Value → Int32 → Int32 → Int32 → am_H → Option am_O} (qc_35 : ∀ (y0 : Value) (y1 : Int32) (y2 : Int32) (y3 : Int32) (h : am_H) (o : am_O), (am_isR y0 = true) → rc_35 y0 y1 y2 y3 h = some o → am_W X (d + 3) 35 0 (am_args 0 [y0, .int y1, .int y2, .int y3]) [] h (fun q => q = o)) (qc_40 : ∀ (y0 : Value) (y1 : Int32) (y2 : Int32) (y3 : Int32) (h : am_H) (o : am_O), (am_isR y0 = true) → rc_40 y0 y1 y2 y3 h = some o → am_W X (d + 3) 40 0 (am_args 0 [y0, .int y1, .int y2, .int y3]) [] h (fun q => q = o)) {lv : am_LV} (x0 : Value) (x1 : Int32) (x2 : Int32) (x3 : Int32) (h : am_H) (o : am_O) (l0 : lv.lookup 0 = some x0) (l1 : lv.lookup 1 = some (.int x1)) (l2 : lv.lookup 2 = some (.int x2)) (l3 : lv.lookup 3 = some (.int x3)) (i0 : am_isR x0 = true) (hs : fg_35_0 N rc_35 rc_40 x0 x1 x2 x3 h = some o) : am_W X (d + 4) 35 0 lv [] h (fun q => q = o) := by
  unfold fg_35_0 at hs
  refine aw_vload_n (pc1 := 1) at_35_0 l0 i0 rfl ?_
  obtain ⟨z1, hs⟩ := am_ift hs
  refine aw_call (t := true) (na := 1) (kd := 1) (as := [x0]) at_35_1 rfl (congrArg (fun q => q.1) mi_36) (congrArg (fun q => q.2.1) mi_36) rfl rfl (am_ok_v mi_36 (am_hl rfl (am_ccR i0 am_cats_0) rfl) z1) (am_hc am_cats_0 rfl) (fun _ => ⟨rfl, hh_35⟩) (fun o1 h9 => rm_36 x0 h o1 i0 h9) ?_
  rcases am_cI_s hs with ⟨v2, h3, f4, hs⟩ | hs
  · refine Or.inl ⟨_, _, f4, ?_⟩
    show am_W X _ 35 4 _ [(.int v2)] h3 _
    refine aw_istore (lv1 := am_put1 _ 4 _) (pc1 := 6) at_35_4 rfl rfl ?_
    refine am_W.ldt at_35_6 rfl ?_
    show am_W _ _ _ 8 _ [(Value.float 3)] _ _
    refine aw_iload (pc1 := 10) at_35_8 am_lk0 rfl ?_
    refine am_W.idx at_35_10 rfl rfl (am_hc am_cats_0 rfl) ?_
    show am_W _ _ _ 13 _ [(.int (am_ixF v2 (am_txt 3) 0))] _ _
    refine aw_iconst (v := 1) (pc1 := 14) at_35_13 (by decide) rfl ?_
    refine aw_iadd (v := ((am_ixF v2 (am_txt 3) 0) + 1)) (pc1 := 15) at_35_14 rfl rfl ?_
    refine aw_istore (lv1 := am_put1 _ 5 _) (pc1 := 17) at_35_15 rfl rfl ?_
    refine aw_vload_n (pc1 := 18) at_35_17 (am_lk1 (am_lk1 l0 rfl rfl) rfl rfl) i0 rfl ?_
    obtain ⟨v5, e6, hs⟩ := am_bind hs
    refine aw_pG (pc1 := 21) at_35_18 (am_vR_s e6).1 rfl ?_
    obtain ⟨v7, e8, hs⟩ := am_bind hs
    refine aw_pG (pc1 := 24) at_35_21 (am_vI_s e8) rfl ?_
    refine aw_bipush (v := 60) (pc1 := 26) at_35_24 (by decide) rfl ?_
    by_cases c9 : 60 ≤ v7
    · rw [if_pos c9] at hs
      refine aw_icge_t at_35_26 c9 ?_
      exact rg_35_35 qc_35 qc_40 x0 h3 o (am_lk1 (am_lk1 l0 rfl rfl) rfl rfl) i0 hs
    · rw [if_neg c9] at hs
      refine aw_icge_f (pc1 := 29) at_35_26 c9 rfl ?_
      refine aw_iload_n (pc1 := 30) at_35_29 (am_lk1 (am_lk1 l2 rfl rfl) rfl rfl) rfl ?_
      refine aw_bipush (v := 12) (pc1 := 32) at_35_30 (by decide) rfl ?_
      by_cases c10 : x2 ≤ 12
      · rw [if_pos c10] at hs
        refine aw_icle_t at_35_32 c10 ?_
        refine aw_iload (pc1 := 44) at_35_42 (am_lk1 am_lk0 rfl rfl) rfl ?_
        refine aw_bipush (v := 40) (pc1 := 46) at_35_44 (by decide) rfl ?_
        by_cases c11 : ¬ v2 = 40
        · rw [if_pos c11] at hs
          refine aw_icne_t at_35_46 c11 ?_
          refine aw_iload_n (pc1 := 70) at_35_69 (am_lk1 (am_lk1 l1 rfl rfl) rfl rfl) rfl ?_
          by_cases c12 : ¬ x1 = 0
          · rw [if_pos c12] at hs
            refine aw_ifne_t at_35_70 c12 ?_
            exact rg_35_83 qc_35 qc_40 x0 h3 o (am_lk1 (am_lk1 l0 rfl rfl) rfl rfl) i0 hs
          · rw [if_neg c12] at hs
            refine aw_ifne_f (pc1 := 73) at_35_70 c12 rfl ?_
            refine aw_iload (pc1 := 75) at_35_73 am_lk0 rfl ?_
            refine aw_iconst (v := 5) (pc1 := 76) at_35_75 (by decide) rfl ?_
            by_cases c13 : ((am_ixF v2 (am_txt 3) 0) + 1) < 5
            · rw [if_pos c13] at hs
              refine aw_iclt_t at_35_76 c13 ?_
              exact rg_35_90 qc_35 qc_40 x0 (((am_ixF v2 (am_txt 3) 0) + 1)) h3 o (am_lk1 (am_lk1 l0 rfl rfl) rfl rfl) am_lk0 i0 hs
            · rw [if_neg c13] at hs
              refine aw_iclt_f (pc1 := 79) at_35_76 c13 rfl ?_
              refine aw_iload_n (pc1 := 80) at_35_79 (am_lk1 (am_lk1 l3 rfl rfl) rfl rfl) rfl ?_
              by_cases c14 : ¬ x3 = 0
              · rw [if_pos c14] at hs
                refine aw_ifne_t at_35_80 c14 ?_
                exact rg_35_90 qc_35 qc_40 x0 (((am_ixF v2 (am_txt 3) 0) + 1)) h3 o (am_lk1 (am_lk1 l0 rfl rfl) rfl rfl) am_lk0 i0 hs
              · rw [if_neg c14] at hs
                refine aw_ifne_f (pc1 := 83) at_35_80 c14 rfl ?_
                exact rg_35_83 qc_35 qc_40 x0 h3 o (am_lk1 (am_lk1 l0 rfl rfl) rfl rfl) i0 hs
        · rw [if_neg c11] at hs
          refine aw_icne_f (pc1 := 49) at_35_46 c11 rfl ?_
          refine aw_vload_n (pc1 := 50) at_35_49 (am_lk1 (am_lk1 l0 rfl rfl) rfl rfl) i0 rfl ?_
          refine aw_vdup (pc1 := 51) at_35_50 i0 rfl ?_
          obtain ⟨v15, e16, hs⟩ := am_bind hs
          refine aw_pG (pc1 := 54) at_35_51 (am_vI_s e16) rfl ?_
          refine aw_iconst (v := 1) (pc1 := 55) at_35_54 (by decide) rfl ?_
          refine aw_iadd (v := (v15 + 1)) (pc1 := 56) at_35_55 rfl rfl ?_
          obtain ⟨h17, e18, hs⟩ := am_bind hs
          refine aw_pP (pc1 := 59) at_35_56 e18 rfl ?_
          refine aw_vload_n (pc1 := 60) at_35_59 (am_lk1 (am_lk1 l0 rfl rfl) rfl rfl) i0 rfl ?_
          refine aw_iload_n (pc1 := 61) at_35_60 (am_lk1 (am_lk1 l1 rfl rfl) rfl rfl) rfl ?_
          refine aw_iload_n (pc1 := 62) at_35_61 (am_lk1 (am_lk1 l2 rfl rfl) rfl rfl) rfl ?_
          refine aw_iload_n (pc1 := 63) at_35_62 (am_lk1 (am_lk1 l3 rfl rfl) rfl rfl) rfl ?_
          obtain ⟨z19, hs⟩ := am_ift hs
          refine aw_call (t := true) (na := 4) (kd := 1) (as := [x0, (.int x1), (.int x2), (.int x3)]) at_35_63 rfl (congrArg (fun q => q.1) mi_40) (congrArg (fun q => q.2.1) mi_40) rfl rfl (am_ok_v mi_40 (am_hl rfl (am_ccR i0 (am_ccI (am_ccI (am_ccI am_cats_0)))) rfl) z19) (am_hc am_cats_0 rfl) (fun _ => ⟨rfl, hh_35⟩) (fun o1 h9 => qc_40 x0 x1 x2 x3 h17 o1 i0 h9) ?_
          rcases am_cV_s hs with ⟨h21, f22, hs⟩ | hs
          · refine Or.inl ⟨_, _, f22, ?_⟩
            show am_W X _ 35 66 _ [] h21 _
            refine aw_goto at_35_66 ?_
            exact rg_35_132 qc_35 qc_40 h21 o   hs
          · exact Or.inr hs
      · rw [if_neg c10] at hs
        refine aw_icle_f (pc1 := 35) at_35_32 c10 rfl ?_
        exact rg_35_35 qc_35 qc_40 x0 h3 o (am_lk1 (am_lk1 l0 rfl rfl) rfl rfl) i0 hs
  · exact Or.inr hs
def fo_35 (N : Nat) (rc_35 : Value → Int32 → Int32 → Int32 → am_H → Option am_O) (rc_40 : Value → Int32 → Int32 → Int32 → am_H → Option am_O) (y0 : Value) (y1 : Int32) (y2 : Int32) (y3 : Int32) (h : am_H) : Option am_O := fg_35_0 N rc_35 rc_40 y0 y1 y2 y3 h
theorem ro_35 {X : am_X} {d : Nat} {N : Nat} {rc_35 : Value → Int32 → Int32 → Int32 → am_H → Option am_O} {rc_40 : Value → Int32 → Int32 → Int32 → am_H → Option am_O} (qc_35 : ∀ (y0 : Value) (y1 : Int32) (y2 : Int32) (y3 : Int32) (h : am_H) (o : am_O), (am_isR y0 = true) → rc_35 y0 y1 y2 y3 h = some o → am_W X (d + 3) 35 0 (am_args 0 [y0, .int y1, .int y2, .int y3]) [] h (fun q => q = o)) (qc_40 : ∀ (y0 : Value) (y1 : Int32) (y2 : Int32) (y3 : Int32) (h : am_H) (o : am_O), (am_isR y0 = true) → rc_40 y0 y1 y2 y3 h = some o → am_W X (d + 3) 40 0 (am_args 0 [y0, .int y1, .int y2, .int y3]) [] h (fun q => q = o)) (y0 : Value) (y1 : Int32) (y2 : Int32) (y3 : Int32) (h : am_H) (o : am_O) (i0 : am_isR y0 = true) (hs : fo_35 N rc_35 rc_40 y0 y1 y2 y3 h = some o) : am_W X (d + 4) 35 0 (am_args 0 [y0, .int y1, .int y2, .int y3]) [] h (fun q => q = o) := by
  rw [am_args_R i0, am_args_I, am_args_I, am_args_I]
  exact rg_35_0 qc_35 qc_40 y0 y1 y2 y3 h o rfl rfl rfl rfl i0 hs
def fg_40_133 (N : Nat) (rc_35 : Value → Int32 → Int32 → Int32 → am_H → Option am_O) (rc_40 : Value → Int32 → Int32 → Int32 → am_H → Option am_O) (x0 : Value) (h : am_H) : Option am_O := (if am_pOk 9 x0 h then am_cI true (fm_42 x0 41 h) (fun v2 h3 => some (.inl (none, h3))) else none)
theorem rg_40_133 {X : am_X} {d : Nat} {N : Nat} {rc_35 : Value → Int32 → Int32 → Int32 → am_H → Option am_O} {rc_40 : Value → Int32 → Int32 → Int32 → am_H → Option am_O} (qc_35 : ∀ (y0 : Value) (y1 : Int32) (y2 : Int32) (y3 : Int32) (h : am_H) (o : am_O), (am_isR y0 = true) → rc_35 y0 y1 y2 y3 h = some o → am_W X (d + 3) 35 0 (am_args 0 [y0, .int y1, .int y2, .int y3]) [] h (fun q => q = o)) (qc_40 : ∀ (y0 : Value) (y1 : Int32) (y2 : Int32) (y3 : Int32) (h : am_H) (o : am_O), (am_isR y0 = true) → rc_40 y0 y1 y2 y3 h = some o → am_W X (d + 3) 40 0 (am_args 0 [y0, .int y1, .int y2, .int y3]) [] h (fun q => q = o)) {lv : am_LV} (x0 : Value) (h : am_H) (o : am_O) (l0 : lv.lookup 0 = some x0) (i0 : am_isR x0 = true) (hs : fg_40_133 N rc_35 rc_40 x0 h = some o) : am_W X (d + 4) 40 133 lv [] h (fun q => q = o) := by
  unfold fg_40_133 at hs
  refine aw_vload_n (pc1 := 134) at_40_133 l0 i0 rfl ?_
  refine aw_bipush (v := 41) (pc1 := 136) at_40_134 (by decide) rfl ?_
  obtain ⟨z1, hs⟩ := am_ift hs
  refine aw_call (t := true) (na := 2) (kd := 1) (as := [x0, (.int 41)]) at_40_136 rfl (congrArg (fun q => q.1) mi_42) (congrArg (fun q => q.2.1) mi_42) rfl rfl (am_ok_v mi_42 (am_hl rfl (am_ccR i0 (am_ccI am_cats_0)) rfl) z1) (am_hc am_cats_0 rfl) (fun _ => ⟨rfl, hh_40⟩) (fun o1 h9 => rm_42 x0 41 h o1 i0 h9) ?_
  rcases am_cI_s hs with ⟨v2, h3, f4, hs⟩ | hs
  · refine Or.inl ⟨_, _, f4, ?_⟩
    show am_W X _ 40 139 _ [(.int v2)] h3 _
    refine aw_popi (pc1 := 140) at_40_139 rfl ?_
    cases hs
    exact aw_vret at_40_140 rt_40 rfl
  · exact Or.inr hs
def fg_40_124 (N : Nat) (rc_35 : Value → Int32 → Int32 → Int32 → am_H → Option am_O) (rc_40 : Value → Int32 → Int32 → Int32 → am_H → Option am_O) (rec_72 : Value → Int32 → Int32 → Int32 → Int32 → am_H → Option am_O) (x0 : Value) (x2 : Int32) (x3 : Int32) (x5 : Int32) (x6 : Int32) (s0 : Value) (s1 : Int32) (s2 : Int32) (s3 : Int32) (h : am_H) : Option am_O := (if am_pOk 9 s0 h then am_cV true (rc_35 s0 s1 s2 s3 h) (fun h3 => (rec_72 x0 x2 x3 x5 ((x6 + 1)) h3)) else none)
theorem rg_40_124 {X : am_X} {d : Nat} {N : Nat} {rc_35 : Value → Int32 → Int32 → Int32 → am_H → Option am_O} {rc_40 : Value → Int32 → Int32 → Int32 → am_H → Option am_O} {rec_72 : Value → Int32 → Int32 → Int32 → Int32 → am_H → Option am_O} (q_72 : ∀ (x0 : Value) (x2 : Int32) (x3 : Int32) (x5 : Int32) (x6 : Int32) (h : am_H) (o : am_O), rec_72 x0 x2 x3 x5 x6 h = some o → ∀ lv : am_LV, (lv.lookup 0 = some x0) → (lv.lookup 2 = some (.int x2)) → (lv.lookup 3 = some (.int x3)) → (lv.lookup 5 = some (.int x5)) → (lv.lookup 6 = some (.int x6)) → (am_isR x0 = true) → am_W X (d + 4) 40 72 lv [] h (fun q => q = o)) (qc_35 : ∀ (y0 : Value) (y1 : Int32) (y2 : Int32) (y3 : Int32) (h : am_H) (o : am_O), (am_isR y0 = true) → rc_35 y0 y1 y2 y3 h = some o → am_W X (d + 3) 35 0 (am_args 0 [y0, .int y1, .int y2, .int y3]) [] h (fun q => q = o)) (qc_40 : ∀ (y0 : Value) (y1 : Int32) (y2 : Int32) (y3 : Int32) (h : am_H) (o : am_O), (am_isR y0 = true) → rc_40 y0 y1 y2 y3 h = some o → am_W X (d + 3) 40 0 (am_args 0 [y0, .int y1, .int y2, .int y3]) [] h (fun q => q = o)) {lv : am_LV} (x0 : Value) (x2 : Int32) (x3 : Int32) (x5 : Int32) (x6 : Int32) (s0 : Value) (s1 : Int32) (s2 : Int32) (s3 : Int32) (h : am_H) (o : am_O) (l0 : lv.lookup 0 = some x0) (l2 : lv.lookup 2 = some (.int x2)) (l3 : lv.lookup 3 = some (.int x3)) (l5 : lv.lookup 5 = some (.int x5)) (l6 : lv.lookup 6 = some (.int x6)) (i0 : am_isR x0 = true) (j0 : am_isR s0 = true) (hs : fg_40_124 N rc_35 rc_40 rec_72 x0 x2 x3 x5 x6 s0 s1 s2 s3 h = some o) : am_W X (d + 4) 40 124 lv [(.int s3), (.int s2), (.int s1), s0] h (fun q => q = o) := by
  unfold fg_40_124 at hs
  obtain ⟨z1, hs⟩ := am_ift hs
  refine aw_call (t := true) (na := 4) (kd := 1) (as := [s0, (.int s1), (.int s2), (.int s3)]) at_40_124 rfl (congrArg (fun q => q.1) mi_35) (congrArg (fun q => q.2.1) mi_35) rfl rfl (am_ok_v mi_35 (am_hl rfl (am_ccR j0 (am_ccI (am_ccI (am_ccI am_cats_0)))) rfl) z1) (am_hc am_cats_0 rfl) (fun _ => ⟨rfl, hh_40⟩) (fun o1 h9 => qc_35 s0 s1 s2 s3 h o1 j0 h9) ?_
  rcases am_cV_s hs with ⟨h3, f4, hs⟩ | hs
  · refine Or.inl ⟨_, _, f4, ?_⟩
    show am_W X _ 40 127 _ [] h3 _
    refine aw_iinc (v := (x6 + 1)) (c := 1) (lv1 := am_put1 _ 6 _) (pc1 := 130) at_40_127 l6 (by decide) rfl rfl rfl ?_
    refine aw_goto at_40_130 ?_
    exact q_72 x0 x2 x3 x5 ((x6 + 1)) h3 o hs _ (am_lk1 l0 rfl rfl) (am_lk1 l2 rfl rfl) (am_lk1 l3 rfl rfl) (am_lk1 l5 rfl rfl) am_lk0 i0
  · exact Or.inr hs
def fg_40_123 (N : Nat) (rc_35 : Value → Int32 → Int32 → Int32 → am_H → Option am_O) (rc_40 : Value → Int32 → Int32 → Int32 → am_H → Option am_O) (rec_72 : Value → Int32 → Int32 → Int32 → Int32 → am_H → Option am_O) (x0 : Value) (x2 : Int32) (x3 : Int32) (x5 : Int32) (x6 : Int32) (s0 : Value) (s1 : Int32) (s2 : Int32) (h : am_H) : Option am_O := (fg_40_124 N rc_35 rc_40 rec_72 x0 x2 x3 x5 x6 s0 s1 s2 0 h)
theorem rg_40_123 {X : am_X} {d : Nat} {N : Nat} {rc_35 : Value → Int32 → Int32 → Int32 → am_H → Option am_O} {rc_40 : Value → Int32 → Int32 → Int32 → am_H → Option am_O} {rec_72 : Value → Int32 → Int32 → Int32 → Int32 → am_H → Option am_O} (q_72 : ∀ (x0 : Value) (x2 : Int32) (x3 : Int32) (x5 : Int32) (x6 : Int32) (h : am_H) (o : am_O), rec_72 x0 x2 x3 x5 x6 h = some o → ∀ lv : am_LV, (lv.lookup 0 = some x0) → (lv.lookup 2 = some (.int x2)) → (lv.lookup 3 = some (.int x3)) → (lv.lookup 5 = some (.int x5)) → (lv.lookup 6 = some (.int x6)) → (am_isR x0 = true) → am_W X (d + 4) 40 72 lv [] h (fun q => q = o)) (qc_35 : ∀ (y0 : Value) (y1 : Int32) (y2 : Int32) (y3 : Int32) (h : am_H) (o : am_O), (am_isR y0 = true) → rc_35 y0 y1 y2 y3 h = some o → am_W X (d + 3) 35 0 (am_args 0 [y0, .int y1, .int y2, .int y3]) [] h (fun q => q = o)) (qc_40 : ∀ (y0 : Value) (y1 : Int32) (y2 : Int32) (y3 : Int32) (h : am_H) (o : am_O), (am_isR y0 = true) → rc_40 y0 y1 y2 y3 h = some o → am_W X (d + 3) 40 0 (am_args 0 [y0, .int y1, .int y2, .int y3]) [] h (fun q => q = o)) {lv : am_LV} (x0 : Value) (x2 : Int32) (x3 : Int32) (x5 : Int32) (x6 : Int32) (s0 : Value) (s1 : Int32) (s2 : Int32) (h : am_H) (o : am_O) (l0 : lv.lookup 0 = some x0) (l2 : lv.lookup 2 = some (.int x2)) (l3 : lv.lookup 3 = some (.int x3)) (l5 : lv.lookup 5 = some (.int x5)) (l6 : lv.lookup 6 = some (.int x6)) (i0 : am_isR x0 = true) (j0 : am_isR s0 = true) (hs : fg_40_123 N rc_35 rc_40 rec_72 x0 x2 x3 x5 x6 s0 s1 s2 h = some o) : am_W X (d + 4) 40 123 lv [(.int s2), (.int s1), s0] h (fun q => q = o) := by
  unfold fg_40_123 at hs
  refine aw_iconst (v := 0) (pc1 := 124) at_40_123 (by decide) rfl ?_
  exact rg_40_124 q_72 qc_35 qc_40 x0 x2 x3 x5 x6 s0 s1 s2 0 h o l0 l2 l3 l5 l6 i0 j0 hs
def fg_40_119 (N : Nat) (rc_35 : Value → Int32 → Int32 → Int32 → am_H → Option am_O) (rc_40 : Value → Int32 → Int32 → Int32 → am_H → Option am_O) (rec_72 : Value → Int32 → Int32 → Int32 → Int32 → am_H → Option am_O) (x0 : Value) (x2 : Int32) (x3 : Int32) (x5 : Int32) (x6 : Int32) (s0 : Value) (s1 : Int32) (s2 : Int32) (h : am_H) : Option am_O := (fg_40_124 N rc_35 rc_40 rec_72 x0 x2 x3 x5 x6 s0 s1 s2 1 h)
theorem rg_40_119 {X : am_X} {d : Nat} {N : Nat} {rc_35 : Value → Int32 → Int32 → Int32 → am_H → Option am_O} {rc_40 : Value → Int32 → Int32 → Int32 → am_H → Option am_O} {rec_72 : Value → Int32 → Int32 → Int32 → Int32 → am_H → Option am_O} (q_72 : ∀ (x0 : Value) (x2 : Int32) (x3 : Int32) (x5 : Int32) (x6 : Int32) (h : am_H) (o : am_O), rec_72 x0 x2 x3 x5 x6 h = some o → ∀ lv : am_LV, (lv.lookup 0 = some x0) → (lv.lookup 2 = some (.int x2)) → (lv.lookup 3 = some (.int x3)) → (lv.lookup 5 = some (.int x5)) → (lv.lookup 6 = some (.int x6)) → (am_isR x0 = true) → am_W X (d + 4) 40 72 lv [] h (fun q => q = o)) (qc_35 : ∀ (y0 : Value) (y1 : Int32) (y2 : Int32) (y3 : Int32) (h : am_H) (o : am_O), (am_isR y0 = true) → rc_35 y0 y1 y2 y3 h = some o → am_W X (d + 3) 35 0 (am_args 0 [y0, .int y1, .int y2, .int y3]) [] h (fun q => q = o)) (qc_40 : ∀ (y0 : Value) (y1 : Int32) (y2 : Int32) (y3 : Int32) (h : am_H) (o : am_O), (am_isR y0 = true) → rc_40 y0 y1 y2 y3 h = some o → am_W X (d + 3) 40 0 (am_args 0 [y0, .int y1, .int y2, .int y3]) [] h (fun q => q = o)) {lv : am_LV} (x0 : Value) (x2 : Int32) (x3 : Int32) (x5 : Int32) (x6 : Int32) (s0 : Value) (s1 : Int32) (s2 : Int32) (h : am_H) (o : am_O) (l0 : lv.lookup 0 = some x0) (l2 : lv.lookup 2 = some (.int x2)) (l3 : lv.lookup 3 = some (.int x3)) (l5 : lv.lookup 5 = some (.int x5)) (l6 : lv.lookup 6 = some (.int x6)) (i0 : am_isR x0 = true) (j0 : am_isR s0 = true) (hs : fg_40_119 N rc_35 rc_40 rec_72 x0 x2 x3 x5 x6 s0 s1 s2 h = some o) : am_W X (d + 4) 40 119 lv [(.int s2), (.int s1), s0] h (fun q => q = o) := by
  unfold fg_40_119 at hs
  refine aw_iconst (v := 1) (pc1 := 120) at_40_119 (by decide) rfl ?_
  refine aw_goto at_40_120 ?_
  exact rg_40_124 q_72 qc_35 qc_40 x0 x2 x3 x5 x6 s0 s1 s2 1 h o l0 l2 l3 l5 l6 i0 j0 hs
def fg_40_72 (N : Nat) (rc_35 : Value → Int32 → Int32 → Int32 → am_H → Option am_O) (rc_40 : Value → Int32 → Int32 → Int32 → am_H → Option am_O) : Nat → Value → Int32 → Int32 → Int32 → Int32 → am_H → Option am_O
  | 0 => fun _ _ _ _ _ _ => none
  | K + 1 => fun x0 x2 x3 x5 x6 h => am_cI false (fm_14 x5 h) (fun v1 h2 => (if v1 ≤ x6 then (fg_40_133 N rc_35 rc_40 x0 h2) else (if am_pOk 9 x0 h2 then am_cI true (fm_42 x0 32 h2) (fun v6 h7 => (if v6 = 0 then (fg_40_133 N rc_35 rc_40 x0 h7) else am_cI false (fm_13 x5 x6 h7) (fun v10 h11 => (if ¬ x3 = 0 then (fg_40_119 N rc_35 rc_40 (fg_40_72 N rc_35 rc_40 K) x0 x2 x3 x5 x6 x0 v10 ((x2 + 1)) h11) else (if ¬ x5 = 19 then (fg_40_123 N rc_35 rc_40 (fg_40_72 N rc_35 rc_40 K) x0 x2 x3 x5 x6 x0 v10 ((x2 + 1)) h11) else (if ¬ x6 = 1 then (fg_40_123 N rc_35 rc_40 (fg_40_72 N rc_35 rc_40 K) x0 x2 x3 x5 x6 x0 v10 ((x2 + 1)) h11) else (fg_40_119 N rc_35 rc_40 (fg_40_72 N rc_35 rc_40 K) x0 x2 x3 x5 x6 x0 v10 ((x2 + 1)) h11))))))) else none)))
theorem rg_40_72 {X : am_X} {d : Nat} {N : Nat} {rc_35 : Value → Int32 → Int32 → Int32 → am_H → Option am_O} {rc_40 : Value → Int32 → Int32 → Int32 → am_H → Option am_O} (qc_35 : ∀ (y0 : Value) (y1 : Int32) (y2 : Int32) (y3 : Int32) (h : am_H) (o : am_O), (am_isR y0 = true) → rc_35 y0 y1 y2 y3 h = some o → am_W X (d + 3) 35 0 (am_args 0 [y0, .int y1, .int y2, .int y3]) [] h (fun q => q = o)) (qc_40 : ∀ (y0 : Value) (y1 : Int32) (y2 : Int32) (y3 : Int32) (h : am_H) (o : am_O), (am_isR y0 = true) → rc_40 y0 y1 y2 y3 h = some o → am_W X (d + 3) 40 0 (am_args 0 [y0, .int y1, .int y2, .int y3]) [] h (fun q => q = o)) : ∀ (K : Nat) (x0 : Value) (x2 : Int32) (x3 : Int32) (x5 : Int32) (x6 : Int32) (h : am_H) (o : am_O), fg_40_72 N rc_35 rc_40 K x0 x2 x3 x5 x6 h = some o → ∀ lv : am_LV, (lv.lookup 0 = some x0) → (lv.lookup 2 = some (.int x2)) → (lv.lookup 3 = some (.int x3)) → (lv.lookup 5 = some (.int x5)) → (lv.lookup 6 = some (.int x6)) → (am_isR x0 = true) → am_W X (d + 4) 40 72 lv [] h (fun q => q = o) := by
  intro K
  induction K with
  | zero => intro x0 x2 x3 x5 x6 h o hs; cases hs
  | succ K ih =>
    intro x0 x2 x3 x5 x6 h o hs lv l0 l2 l3 l5 l6 i0
    unfold fg_40_72 at hs
    refine aw_iload (pc1 := 74) at_40_72 l6 rfl ?_
    refine aw_iload (pc1 := 76) at_40_74 l5 rfl ?_
    refine aw_call (t := false) (na := 1) (kd := 0) (as := [(.int x5)]) at_40_76 rfl (congrArg (fun q => q.1) mi_14) (congrArg (fun q => q.2.1) mi_14) rfl rfl (am_ok_s mi_14 (am_hl rfl (am_ccI am_cats_0) rfl)) (am_hc (am_ccI am_cats_0) rfl) (fun h9 => by cases h9) (fun o1 h9 => rm_14 x5 h o1  h9) ?_
    rcases am_cI_s hs with ⟨v1, h2, f3, hs⟩ | hs
    · refine Or.inl ⟨_, _, f3, ?_⟩
      show am_W X _ 40 79 _ [(.int v1), (.int x6)] h2 _
      by_cases c4 : v1 ≤ x6
      · rw [if_pos c4] at hs
        refine aw_icge_t at_40_79 c4 ?_
        exact rg_40_133 qc_35 qc_40 x0 h2 o l0 i0 hs
      · rw [if_neg c4] at hs
        refine aw_icge_f (pc1 := 82) at_40_79 c4 rfl ?_
        refine aw_vload_n (pc1 := 83) at_40_82 l0 i0 rfl ?_
        refine aw_bipush (v := 32) (pc1 := 85) at_40_83 (by decide) rfl ?_
        obtain ⟨z5, hs⟩ := am_ift hs
        refine aw_call (t := true) (na := 2) (kd := 1) (as := [x0, (.int 32)]) at_40_85 rfl (congrArg (fun q => q.1) mi_42) (congrArg (fun q => q.2.1) mi_42) rfl rfl (am_ok_v mi_42 (am_hl rfl (am_ccR i0 (am_ccI am_cats_0)) rfl) z5) (am_hc am_cats_0 rfl) (fun _ => ⟨rfl, hh_40⟩) (fun o1 h9 => rm_42 x0 32 h2 o1 i0 h9) ?_
        rcases am_cI_s hs with ⟨v6, h7, f8, hs⟩ | hs
        · refine Or.inl ⟨_, _, f8, ?_⟩
          show am_W X _ 40 88 _ [(.int v6)] h7 _
          by_cases c9 : v6 = 0
          · rw [if_pos c9] at hs
            refine aw_ifeq_t at_40_88 c9 ?_
            exact rg_40_133 qc_35 qc_40 x0 h7 o l0 i0 hs
          · rw [if_neg c9] at hs
            refine aw_ifeq_f (pc1 := 91) at_40_88 c9 rfl ?_
            refine aw_vload_n (pc1 := 92) at_40_91 l0 i0 rfl ?_
            refine aw_iload (pc1 := 94) at_40_92 l5 rfl ?_
            refine aw_iload (pc1 := 96) at_40_94 l6 rfl ?_
            refine aw_call (t := false) (na := 2) (kd := 0) (as := [(.int x5), (.int x6)]) at_40_96 rfl (congrArg (fun q => q.1) mi_13) (congrArg (fun q => q.2.1) mi_13) rfl rfl (am_ok_s mi_13 (am_hl rfl (am_ccI (am_ccI am_cats_0)) rfl)) (am_hc (am_ccR i0 am_cats_0) rfl) (fun h9 => by cases h9) (fun o1 h9 => rm_13 x5 x6 h7 o1  h9) ?_
            rcases am_cI_s hs with ⟨v10, h11, f12, hs⟩ | hs
            · refine Or.inl ⟨_, _, f12, ?_⟩
              show am_W X _ 40 99 _ [(.int v10), x0] h11 _
              refine aw_iload_n (pc1 := 100) at_40_99 l2 rfl ?_
              refine aw_iconst (v := 1) (pc1 := 101) at_40_100 (by decide) rfl ?_
              refine aw_iadd (v := (x2 + 1)) (pc1 := 102) at_40_101 rfl rfl ?_
              refine aw_iload_n (pc1 := 103) at_40_102 l3 rfl ?_
              by_cases c13 : ¬ x3 = 0
              · rw [if_pos c13] at hs
                refine aw_ifne_t at_40_103 c13 ?_
                exact rg_40_119 (fun z0 z1 z2 z3 z4 h o hs => ih z0 z1 z2 z3 z4 h o hs) qc_35 qc_40 x0 x2 x3 x5 x6 x0 v10 ((x2 + 1)) h11 o l0 l2 l3 l5 l6 i0 i0 hs
              · rw [if_neg c13] at hs
                refine aw_ifne_f (pc1 := 106) at_40_103 c13 rfl ?_
                refine aw_iload (pc1 := 108) at_40_106 l5 rfl ?_
                refine aw_bipush (v := 19) (pc1 := 110) at_40_108 (by decide) rfl ?_
                by_cases c14 : ¬ x5 = 19
                · rw [if_pos c14] at hs
                  refine aw_icne_t at_40_110 c14 ?_
                  exact rg_40_123 (fun z0 z1 z2 z3 z4 h o hs => ih z0 z1 z2 z3 z4 h o hs) qc_35 qc_40 x0 x2 x3 x5 x6 x0 v10 ((x2 + 1)) h11 o l0 l2 l3 l5 l6 i0 i0 hs
                · rw [if_neg c14] at hs
                  refine aw_icne_f (pc1 := 113) at_40_110 c14 rfl ?_
                  refine aw_iload (pc1 := 115) at_40_113 l6 rfl ?_
                  refine aw_iconst (v := 1) (pc1 := 116) at_40_115 (by decide) rfl ?_
                  by_cases c15 : ¬ x6 = 1
                  · rw [if_pos c15] at hs
                    refine aw_icne_t at_40_116 c15 ?_
                    exact rg_40_123 (fun z0 z1 z2 z3 z4 h o hs => ih z0 z1 z2 z3 z4 h o hs) qc_35 qc_40 x0 x2 x3 x5 x6 x0 v10 ((x2 + 1)) h11 o l0 l2 l3 l5 l6 i0 i0 hs
                  · rw [if_neg c15] at hs
                    refine aw_icne_f (pc1 := 119) at_40_116 c15 rfl ?_
                    exact rg_40_119 (fun z0 z1 z2 z3 z4 h o hs => ih z0 z1 z2 z3 z4 h o hs) qc_35 qc_40 x0 x2 x3 x5 x6 x0 v10 ((x2 + 1)) h11 o l0 l2 l3 l5 l6 i0 i0 hs
            · exact Or.inr hs
        · exact Or.inr hs
    · exact Or.inr hs
def fg_40_48 (N : Nat) (rc_35 : Value → Int32 → Int32 → Int32 → am_H → Option am_O) (rc_40 : Value → Int32 → Int32 → Int32 → am_H → Option am_O) (x0 : Value) (x2 : Int32) (x3 : Int32) (x5 : Int32) (h : am_H) : Option am_O := ((am_vI (am_pG 2306 x0 h)).bind fun v1 => ((am_pP 2306 x0 (.int (v1 + 1)) h).bind fun h3 => ((am_vR (am_pG 2308 x0 h3)).bind fun v5 => (if am_pOk 3 v5 h3 then am_cI true (fm_41 N v5 x5 0 h3) (fun v8 h9 => (fg_40_72 N rc_35 rc_40 N x0 x2 x3 x5 0 h9)) else none))))
theorem rg_40_48 {X : am_X} {d : Nat} {N : Nat} {rc_35 : Value → Int32 → Int32 → Int32 → am_H → Option am_O} {rc_40 : Value → Int32 → Int32 → Int32 → am_H → Option am_O} (qc_35 : ∀ (y0 : Value) (y1 : Int32) (y2 : Int32) (y3 : Int32) (h : am_H) (o : am_O), (am_isR y0 = true) → rc_35 y0 y1 y2 y3 h = some o → am_W X (d + 3) 35 0 (am_args 0 [y0, .int y1, .int y2, .int y3]) [] h (fun q => q = o)) (qc_40 : ∀ (y0 : Value) (y1 : Int32) (y2 : Int32) (y3 : Int32) (h : am_H) (o : am_O), (am_isR y0 = true) → rc_40 y0 y1 y2 y3 h = some o → am_W X (d + 3) 40 0 (am_args 0 [y0, .int y1, .int y2, .int y3]) [] h (fun q => q = o)) {lv : am_LV} (x0 : Value) (x2 : Int32) (x3 : Int32) (x5 : Int32) (h : am_H) (o : am_O) (l0 : lv.lookup 0 = some x0) (l2 : lv.lookup 2 = some (.int x2)) (l3 : lv.lookup 3 = some (.int x3)) (l5 : lv.lookup 5 = some (.int x5)) (i0 : am_isR x0 = true) (hs : fg_40_48 N rc_35 rc_40 x0 x2 x3 x5 h = some o) : am_W X (d + 4) 40 48 lv [] h (fun q => q = o) := by
  unfold fg_40_48 at hs
  refine aw_vload_n (pc1 := 49) at_40_48 l0 i0 rfl ?_
  refine aw_vdup (pc1 := 50) at_40_49 i0 rfl ?_
  obtain ⟨v1, e2, hs⟩ := am_bind hs
  refine aw_pG (pc1 := 53) at_40_50 (am_vI_s e2) rfl ?_
  refine aw_iconst (v := 1) (pc1 := 54) at_40_53 (by decide) rfl ?_
  refine aw_iadd (v := (v1 + 1)) (pc1 := 55) at_40_54 rfl rfl ?_
  obtain ⟨h3, e4, hs⟩ := am_bind hs
  refine aw_pP (pc1 := 58) at_40_55 e4 rfl ?_
  refine aw_vload_n (pc1 := 59) at_40_58 l0 i0 rfl ?_
  obtain ⟨v5, e6, hs⟩ := am_bind hs
  refine aw_pG (pc1 := 62) at_40_59 (am_vR_s e6).1 rfl ?_
  refine aw_iload (pc1 := 64) at_40_62 l5 rfl ?_
  refine aw_iconst (v := 0) (pc1 := 65) at_40_64 (by decide) rfl ?_
  obtain ⟨z7, hs⟩ := am_ift hs
  refine aw_call (t := true) (na := 3) (kd := 1) (as := [v5, (.int x5), (.int 0)]) at_40_65 rfl (congrArg (fun q => q.1) mi_41) (congrArg (fun q => q.2.1) mi_41) rfl rfl (am_ok_v mi_41 (am_hl rfl (am_ccR (am_vR_s e6).2 (am_ccI (am_ccI am_cats_0))) rfl) z7) (am_hc am_cats_0 rfl) (fun _ => ⟨rfl, hh_40⟩) (fun o1 h9 => rm_41 v5 x5 0 h3 o1 (am_vR_s e6).2 h9) ?_
  rcases am_cI_s hs with ⟨v8, h9, f10, hs⟩ | hs
  · refine Or.inl ⟨_, _, f10, ?_⟩
    show am_W X _ 40 68 _ [(.int v8)] h9 _
    refine aw_popi (pc1 := 69) at_40_68 rfl ?_
    refine aw_iconst (v := 0) (pc1 := 70) at_40_69 (by decide) rfl ?_
    refine aw_istore (lv1 := am_put1 _ 6 _) (pc1 := 72) at_40_70 rfl rfl ?_
    exact rg_40_72 qc_35 qc_40 N x0 x2 x3 x5 0 h9 o hs _ (am_lk1 l0 rfl rfl) (am_lk1 l2 rfl rfl) (am_lk1 l3 rfl rfl) (am_lk1 l5 rfl rfl) am_lk0 i0
  · exact Or.inr hs
def fg_40_43 (N : Nat) (rc_35 : Value → Int32 → Int32 → Int32 → am_H → Option am_O) (rc_40 : Value → Int32 → Int32 → Int32 → am_H → Option am_O) (x0 : Value) (h : am_H) : Option am_O := (if am_pOk 9 x0 h then am_cV true (fm_39 x0 h) (fun h3 => some (.inl (none, h3))) else none)
theorem rg_40_43 {X : am_X} {d : Nat} {N : Nat} {rc_35 : Value → Int32 → Int32 → Int32 → am_H → Option am_O} {rc_40 : Value → Int32 → Int32 → Int32 → am_H → Option am_O} (qc_35 : ∀ (y0 : Value) (y1 : Int32) (y2 : Int32) (y3 : Int32) (h : am_H) (o : am_O), (am_isR y0 = true) → rc_35 y0 y1 y2 y3 h = some o → am_W X (d + 3) 35 0 (am_args 0 [y0, .int y1, .int y2, .int y3]) [] h (fun q => q = o)) (qc_40 : ∀ (y0 : Value) (y1 : Int32) (y2 : Int32) (y3 : Int32) (h : am_H) (o : am_O), (am_isR y0 = true) → rc_40 y0 y1 y2 y3 h = some o → am_W X (d + 3) 40 0 (am_args 0 [y0, .int y1, .int y2, .int y3]) [] h (fun q => q = o)) {lv : am_LV} (x0 : Value) (h : am_H) (o : am_O) (l0 : lv.lookup 0 = some x0) (i0 : am_isR x0 = true) (hs : fg_40_43 N rc_35 rc_40 x0 h = some o) : am_W X (d + 4) 40 43 lv [] h (fun q => q = o) := by
  unfold fg_40_43 at hs
  refine aw_vload_n (pc1 := 44) at_40_43 l0 i0 rfl ?_
  obtain ⟨z1, hs⟩ := am_ift hs
  refine aw_call (t := true) (na := 1) (kd := 1) (as := [x0]) at_40_44 rfl (congrArg (fun q => q.1) mi_39) (congrArg (fun q => q.2.1) mi_39) rfl rfl (am_ok_v mi_39 (am_hl rfl (am_ccR i0 am_cats_0) rfl) z1) (am_hc am_cats_0 rfl) (fun _ => ⟨rfl, hh_40⟩) (fun o1 h9 => rm_39 x0 h o1 i0 h9) ?_
  rcases am_cV_s hs with ⟨h3, f4, hs⟩ | hs
  · refine Or.inl ⟨_, _, f4, ?_⟩
    show am_W X _ 40 47 _ [] h3 _
    cases hs
    exact aw_vret at_40_47 rt_40 rfl
  · exact Or.inr hs
def fg_40_0 (N : Nat) (rc_35 : Value → Int32 → Int32 → Int32 → am_H → Option am_O) (rc_40 : Value → Int32 → Int32 → Int32 → am_H → Option am_O) (x0 : Value) (x1 : Int32) (x2 : Int32) (x3 : Int32) (h : am_H) : Option am_O := (if am_pOk 9 x0 h then am_cI true (fm_36 x0 h) (fun v2 h3 => (if (am_ixF v2 (am_txt 4) 0) < 0 then (fg_40_43 N rc_35 rc_40 x0 h3) else am_cI false (fm_11 (((am_ixF v2 (am_txt 4) 0) + 7)) h3) (fun v6 h7 => (if ¬ v6 = x1 then (fg_40_43 N rc_35 rc_40 x0 h7) else (if ¬ ((am_ixF v2 (am_txt 4) 0) + 7) = 19 then (fg_40_48 N rc_35 rc_40 x0 x2 x3 (((am_ixF v2 (am_txt 4) 0) + 7)) h7) else (if x3 = 0 then (fg_40_48 N rc_35 rc_40 x0 x2 x3 (((am_ixF v2 (am_txt 4) 0) + 7)) h7) else (fg_40_43 N rc_35 rc_40 x0 h7))))))) else none)
theorem rg_40_0 {X : am_X} {d : Nat} {N : Nat} {rc_35 : Value → Int32 → Int32 → Int32 → am_H → Option am_O} {rc_40 : Value → Int32 → Int32 → Int32 → am_H → Option am_O} (qc_35 : ∀ (y0 : Value) (y1 : Int32) (y2 : Int32) (y3 : Int32) (h : am_H) (o : am_O), (am_isR y0 = true) → rc_35 y0 y1 y2 y3 h = some o → am_W X (d + 3) 35 0 (am_args 0 [y0, .int y1, .int y2, .int y3]) [] h (fun q => q = o)) (qc_40 : ∀ (y0 : Value) (y1 : Int32) (y2 : Int32) (y3 : Int32) (h : am_H) (o : am_O), (am_isR y0 = true) → rc_40 y0 y1 y2 y3 h = some o → am_W X (d + 3) 40 0 (am_args 0 [y0, .int y1, .int y2, .int y3]) [] h (fun q => q = o)) {lv : am_LV} (x0 : Value) (x1 : Int32) (x2 : Int32) (x3 : Int32) (h : am_H) (o : am_O) (l0 : lv.lookup 0 = some x0) (l1 : lv.lookup 1 = some (.int x1)) (l2 : lv.lookup 2 = some (.int x2)) (l3 : lv.lookup 3 = some (.int x3)) (i0 : am_isR x0 = true) (hs : fg_40_0 N rc_35 rc_40 x0 x1 x2 x3 h = some o) : am_W X (d + 4) 40 0 lv [] h (fun q => q = o) := by
  unfold fg_40_0 at hs
  refine am_W.ldt at_40_0 rfl ?_
  show am_W _ _ _ 2 _ [(Value.float 4)] _ _
  refine aw_vload_n (pc1 := 3) at_40_2 l0 i0 rfl ?_
  obtain ⟨z1, hs⟩ := am_ift hs
  refine aw_call (t := true) (na := 1) (kd := 1) (as := [x0]) at_40_3 rfl (congrArg (fun q => q.1) mi_36) (congrArg (fun q => q.2.1) mi_36) rfl rfl (am_ok_v mi_36 (am_hl rfl (am_ccR i0 am_cats_0) rfl) z1) (am_hc (am_ccR rfl am_cats_0) rfl) (fun _ => ⟨rfl, hh_40⟩) (fun o1 h9 => rm_36 x0 h o1 i0 h9) ?_
  rcases am_cI_s hs with ⟨v2, h3, f4, hs⟩ | hs
  · refine Or.inl ⟨_, _, f4, ?_⟩
    show am_W X _ 40 6 _ [(.int v2), (Value.float 4)] h3 _
    refine am_W.idx at_40_6 rfl rfl (am_hc am_cats_0 rfl) ?_
    show am_W _ _ _ 9 _ [(.int (am_ixF v2 (am_txt 4) 0))] _ _
    refine aw_istore (lv1 := am_put1 _ 4 _) (pc1 := 11) at_40_9 rfl rfl ?_
    refine aw_iload (pc1 := 13) at_40_11 am_lk0 rfl ?_
    refine aw_bipush (v := 7) (pc1 := 15) at_40_13 (by decide) rfl ?_
    refine aw_iadd (v := ((am_ixF v2 (am_txt 4) 0) + 7)) (pc1 := 16) at_40_15 rfl rfl ?_
    refine aw_istore (lv1 := am_put1 _ 5 _) (pc1 := 18) at_40_16 rfl rfl ?_
    refine aw_iload (pc1 := 20) at_40_18 (am_lk1 am_lk0 rfl rfl) rfl ?_
    by_cases c5 : (am_ixF v2 (am_txt 4) 0) < 0
    · rw [if_pos c5] at hs
      refine aw_iflt_t at_40_20 c5 ?_
      exact rg_40_43 qc_35 qc_40 x0 h3 o (am_lk1 (am_lk1 l0 rfl rfl) rfl rfl) i0 hs
    · rw [if_neg c5] at hs
      refine aw_iflt_f (pc1 := 23) at_40_20 c5 rfl ?_
      refine aw_iload (pc1 := 25) at_40_23 am_lk0 rfl ?_
      refine aw_call (t := false) (na := 1) (kd := 0) (as := [(.int ((am_ixF v2 (am_txt 4) 0) + 7))]) at_40_25 rfl (congrArg (fun q => q.1) mi_11) (congrArg (fun q => q.2.1) mi_11) rfl rfl (am_ok_s mi_11 (am_hl rfl (am_ccI am_cats_0) rfl)) (am_hc am_cats_0 rfl) (fun h9 => by cases h9) (fun o1 h9 => rm_11 (((am_ixF v2 (am_txt 4) 0) + 7)) h3 o1  h9) ?_
      rcases am_cI_s hs with ⟨v6, h7, f8, hs⟩ | hs
      · refine Or.inl ⟨_, _, f8, ?_⟩
        show am_W X _ 40 28 _ [(.int v6)] h7 _
        refine aw_iload_n (pc1 := 29) at_40_28 (am_lk1 (am_lk1 l1 rfl rfl) rfl rfl) rfl ?_
        by_cases c9 : ¬ v6 = x1
        · rw [if_pos c9] at hs
          refine aw_icne_t at_40_29 c9 ?_
          exact rg_40_43 qc_35 qc_40 x0 h7 o (am_lk1 (am_lk1 l0 rfl rfl) rfl rfl) i0 hs
        · rw [if_neg c9] at hs
          refine aw_icne_f (pc1 := 32) at_40_29 c9 rfl ?_
          refine aw_iload (pc1 := 34) at_40_32 am_lk0 rfl ?_
          refine aw_bipush (v := 19) (pc1 := 36) at_40_34 (by decide) rfl ?_
          by_cases c10 : ¬ ((am_ixF v2 (am_txt 4) 0) + 7) = 19
          · rw [if_pos c10] at hs
            refine aw_icne_t at_40_36 c10 ?_
            exact rg_40_48 qc_35 qc_40 x0 x2 x3 (((am_ixF v2 (am_txt 4) 0) + 7)) h7 o (am_lk1 (am_lk1 l0 rfl rfl) rfl rfl) (am_lk1 (am_lk1 l2 rfl rfl) rfl rfl) (am_lk1 (am_lk1 l3 rfl rfl) rfl rfl) am_lk0 i0 hs
          · rw [if_neg c10] at hs
            refine aw_icne_f (pc1 := 39) at_40_36 c10 rfl ?_
            refine aw_iload_n (pc1 := 40) at_40_39 (am_lk1 (am_lk1 l3 rfl rfl) rfl rfl) rfl ?_
            by_cases c11 : x3 = 0
            · rw [if_pos c11] at hs
              refine aw_ifeq_t at_40_40 c11 ?_
              exact rg_40_48 qc_35 qc_40 x0 x2 x3 (((am_ixF v2 (am_txt 4) 0) + 7)) h7 o (am_lk1 (am_lk1 l0 rfl rfl) rfl rfl) (am_lk1 (am_lk1 l2 rfl rfl) rfl rfl) (am_lk1 (am_lk1 l3 rfl rfl) rfl rfl) am_lk0 i0 hs
            · rw [if_neg c11] at hs
              refine aw_ifeq_f (pc1 := 43) at_40_40 c11 rfl ?_
              exact rg_40_43 qc_35 qc_40 x0 h7 o (am_lk1 (am_lk1 l0 rfl rfl) rfl rfl) i0 hs
      · exact Or.inr hs
  · exact Or.inr hs
def fo_40 (N : Nat) (rc_35 : Value → Int32 → Int32 → Int32 → am_H → Option am_O) (rc_40 : Value → Int32 → Int32 → Int32 → am_H → Option am_O) (y0 : Value) (y1 : Int32) (y2 : Int32) (y3 : Int32) (h : am_H) : Option am_O := fg_40_0 N rc_35 rc_40 y0 y1 y2 y3 h
theorem ro_40 {X : am_X} {d : Nat} {N : Nat} {rc_35 : Value → Int32 → Int32 → Int32 → am_H → Option am_O} {rc_40 : Value → Int32 → Int32 → Int32 → am_H → Option am_O} (qc_35 : ∀ (y0 : Value) (y1 : Int32) (y2 : Int32) (y3 : Int32) (h : am_H) (o : am_O), (am_isR y0 = true) → rc_35 y0 y1 y2 y3 h = some o → am_W X (d + 3) 35 0 (am_args 0 [y0, .int y1, .int y2, .int y3]) [] h (fun q => q = o)) (qc_40 : ∀ (y0 : Value) (y1 : Int32) (y2 : Int32) (y3 : Int32) (h : am_H) (o : am_O), (am_isR y0 = true) → rc_40 y0 y1 y2 y3 h = some o → am_W X (d + 3) 40 0 (am_args 0 [y0, .int y1, .int y2, .int y3]) [] h (fun q => q = o)) (y0 : Value) (y1 : Int32) (y2 : Int32) (y3 : Int32) (h : am_H) (o : am_O) (i0 : am_isR y0 = true) (hs : fo_40 N rc_35 rc_40 y0 y1 y2 y3 h = some o) : am_W X (d + 4) 40 0 (am_args 0 [y0, .int y1, .int y2, .int y3]) [] h (fun q => q = o) := by
  rw [am_args_R i0, am_args_I, am_args_I, am_args_I]
  exact rg_40_0 qc_35 qc_40 y0 y1 y2 y3 h o rfl rfl rfl rfl i0 hs
def gr_35 (N : Nat) : Nat → Nat → List Value → am_H → Option am_O
  | 0 => fun _ _ _ => none
  | K + 1 => fun w as h => match w, as with
    | 35, [y0, .int y1, .int y2, .int y3] => fo_35 N (fun y0 y1 y2 y3 h => gr_35 N K 35 [y0, .int y1, .int y2, .int y3] h) (fun y0 y1 y2 y3 h => gr_35 N K 40 [y0, .int y1, .int y2, .int y3] h) y0 y1 y2 y3 h
    | 40, [y0, .int y1, .int y2, .int y3] => fo_40 N (fun y0 y1 y2 y3 h => gr_35 N K 35 [y0, .int y1, .int y2, .int y3] h) (fun y0 y1 y2 y3 h => gr_35 N K 40 [y0, .int y1, .int y2, .int y3] h) y0 y1 y2 y3 h
    | _, _ => none
theorem gs_35 {X : am_X} {d N : Nat} : ∀ K : Nat, (∀ (y0 : Value) (y1 : Int32) (y2 : Int32) (y3 : Int32) (h : am_H) (o : am_O), (am_isR y0 = true) → gr_35 N K 35 [y0, .int y1, .int y2, .int y3] h = some o → am_W X (d + 4 * K) 35 0 (am_args 0 [y0, .int y1, .int y2, .int y3]) [] h (fun q => q = o)) ∧ (∀ (y0 : Value) (y1 : Int32) (y2 : Int32) (y3 : Int32) (h : am_H) (o : am_O), (am_isR y0 = true) → gr_35 N K 40 [y0, .int y1, .int y2, .int y3] h = some o → am_W X (d + 4 * K) 40 0 (am_args 0 [y0, .int y1, .int y2, .int y3]) [] h (fun q => q = o)) := by
  intro K
  induction K with
  | zero => exact ⟨fun _ _ _ _ h o _ hs => by cases hs, fun _ _ _ _ h o _ hs => by cases hs⟩
  | succ K ih =>
    obtain ⟨q35, q40⟩ := ih
    have up : d + 4 * K ≤ d + 4 * K + 3 := Nat.le_add_right _ _
    have eD : d + 4 * (K + 1) = d + 4 * K + 4 := by rw [Nat.mul_succ, Nat.add_assoc]
    rw [eD]
    refine ⟨?_, ?_⟩
    · intro y0 y1 y2 y3 h o i0 hs
      exact ro_35 (fun w0 w1 w2 w3 h o k0 hs => (q35 w0 w1 w2 w3 h o k0 hs).up up) (fun w0 w1 w2 w3 h o k0 hs => (q40 w0 w1 w2 w3 h o k0 hs).up up) y0 y1 y2 y3 h o i0 hs
    · intro y0 y1 y2 y3 h o i0 hs
      exact ro_40 (fun w0 w1 w2 w3 h o k0 hs => (q35 w0 w1 w2 w3 h o k0 hs).up up) (fun w0 w1 w2 w3 h o k0 hs => (q40 w0 w1 w2 w3 h o k0 hs).up up) y0 y1 y2 y3 h o i0 hs
def fm_35 (N : Nat) (y0 : Value) (y1 : Int32) (y2 : Int32) (y3 : Int32) (h : am_H) : Option am_O := gr_35 N 40 35 [y0, .int y1, .int y2, .int y3] h
theorem rm_35 {X : am_X} {d : Nat} {N : Nat} (y0 : Value) (y1 : Int32) (y2 : Int32) (y3 : Int32) (h : am_H) (o : am_O) (i0 : am_isR y0 = true) (hs : fm_35 N y0 y1 y2 y3 h = some o) : am_W X (d + 160) 35 0 (am_args 0 [y0, .int y1, .int y2, .int y3]) [] h (fun q => q = o) := (gs_35 (X := X) (d := d) (N := N) 40).1 y0 y1 y2 y3 h o i0 hs
def fm_40 (N : Nat) (y0 : Value) (y1 : Int32) (y2 : Int32) (y3 : Int32) (h : am_H) : Option am_O := gr_35 N 40 40 [y0, .int y1, .int y2, .int y3] h
theorem rm_40 {X : am_X} {d : Nat} {N : Nat} (y0 : Value) (y1 : Int32) (y2 : Int32) (y3 : Int32) (h : am_H) (o : am_O) (i0 : am_isR y0 = true) (hs : fm_40 N y0 y1 y2 y3 h = some o) : am_W X (d + 160) 40 0 (am_args 0 [y0, .int y1, .int y2, .int y3]) [] h (fun q => q = o) := (gs_35 (X := X) (d := d) (N := N) 40).2 y0 y1 y2 y3 h o i0 hs
def fg_54_41 (s0 : Int32) (h : am_H) : Option am_O := some (.inl (some (.int s0), h))
theorem rg_54_41 {X : am_X} {d : Nat} {lv : am_LV} (s0 : Int32) (h : am_H) (o : am_O) (hs : fg_54_41 s0 h = some o) : am_W X (d) 54 41 lv [(.int s0)] h (fun q => q = o) := by
  unfold fg_54_41 at hs
  cases hs
  exact aw_iret at_54_41 (by rw [rt_54]; rfl) rfl
def fg_54_40 (h : am_H) : Option am_O := (fg_54_41 0 h)
theorem rg_54_40 {X : am_X} {d : Nat} {lv : am_LV} (h : am_H) (o : am_O) (hs : fg_54_40 h = some o) : am_W X (d) 54 40 lv [] h (fun q => q = o) := by
  unfold fg_54_40 at hs
  refine aw_iconst (v := 0) (pc1 := 41) at_54_40 (by decide) rfl ?_
  exact rg_54_41 0 h o   hs
def fg_54_0 (x0 : Value) (x1 : Int32) (x2 : Int32) (h : am_H) : Option am_O := (if x1 < 0 then (fg_54_40 h) else ((am_vI (am_pG 771 x0 h)).bind fun v2 => (if v2 ≤ x1 then (fg_54_40 h) else (if x2 < 0 then (fg_54_40 h) else ((am_vI (am_pG 772 x0 h)).bind fun v6 => (if v6 ≤ x2 then (fg_54_40 h) else ((am_vR (am_pG 768 x0 h)).bind fun v9 => ((am_vI (am_pG 772 x0 h)).bind fun v11 => ((am_pA 0 v9 ((x1 * v11) + x2) h).bind fun v13 => (fg_54_41 v13 h))))))))))
theorem rg_54_0 {X : am_X} {d : Nat} {lv : am_LV} (x0 : Value) (x1 : Int32) (x2 : Int32) (h : am_H) (o : am_O) (l0 : lv.lookup 0 = some x0) (l1 : lv.lookup 1 = some (.int x1)) (l2 : lv.lookup 2 = some (.int x2)) (i0 : am_isR x0 = true) (hs : fg_54_0 x0 x1 x2 h = some o) : am_W X (d) 54 0 lv [] h (fun q => q = o) := by
  unfold fg_54_0 at hs
  refine aw_iload_n (pc1 := 1) at_54_0 l1 rfl ?_
  by_cases c1 : x1 < 0
  · rw [if_pos c1] at hs
    refine aw_iflt_t at_54_1 c1 ?_
    exact rg_54_40 h o   hs
  · rw [if_neg c1] at hs
    refine aw_iflt_f (pc1 := 4) at_54_1 c1 rfl ?_
    refine aw_iload_n (pc1 := 5) at_54_4 l1 rfl ?_
    refine aw_vload_n (pc1 := 6) at_54_5 l0 i0 rfl ?_
    obtain ⟨v2, e3, hs⟩ := am_bind hs
    refine aw_pG (pc1 := 9) at_54_6 (am_vI_s e3) rfl ?_
    by_cases c4 : v2 ≤ x1
    · rw [if_pos c4] at hs
      refine aw_icge_t at_54_9 c4 ?_
      exact rg_54_40 h o   hs
    · rw [if_neg c4] at hs
      refine aw_icge_f (pc1 := 12) at_54_9 c4 rfl ?_
      refine aw_iload_n (pc1 := 13) at_54_12 l2 rfl ?_
      by_cases c5 : x2 < 0
      · rw [if_pos c5] at hs
        refine aw_iflt_t at_54_13 c5 ?_
        exact rg_54_40 h o   hs
      · rw [if_neg c5] at hs
        refine aw_iflt_f (pc1 := 16) at_54_13 c5 rfl ?_
        refine aw_iload_n (pc1 := 17) at_54_16 l2 rfl ?_
        refine aw_vload_n (pc1 := 18) at_54_17 l0 i0 rfl ?_
        obtain ⟨v6, e7, hs⟩ := am_bind hs
        refine aw_pG (pc1 := 21) at_54_18 (am_vI_s e7) rfl ?_
        by_cases c8 : v6 ≤ x2
        · rw [if_pos c8] at hs
          refine aw_icge_t at_54_21 c8 ?_
          exact rg_54_40 h o   hs
        · rw [if_neg c8] at hs
          refine aw_icge_f (pc1 := 24) at_54_21 c8 rfl ?_
          refine aw_vload_n (pc1 := 25) at_54_24 l0 i0 rfl ?_
          obtain ⟨v9, e10, hs⟩ := am_bind hs
          refine aw_pG (pc1 := 28) at_54_25 (am_vR_s e10).1 rfl ?_
          refine aw_iload_n (pc1 := 29) at_54_28 l1 rfl ?_
          refine aw_vload_n (pc1 := 30) at_54_29 l0 i0 rfl ?_
          obtain ⟨v11, e12, hs⟩ := am_bind hs
          refine aw_pG (pc1 := 33) at_54_30 (am_vI_s e12) rfl ?_
          refine aw_imul (v := (x1 * v11)) (pc1 := 34) at_54_33 rfl rfl ?_
          refine aw_iload_n (pc1 := 35) at_54_34 l2 rfl ?_
          refine aw_iadd (v := ((x1 * v11) + x2)) (pc1 := 36) at_54_35 rfl rfl ?_
          obtain ⟨v13, e14, hs⟩ := am_bind hs
          refine aw_pA (pc1 := 37) at_54_36 (Or.inl ⟨rfl, rfl⟩) e14 rfl ?_
          refine aw_goto at_54_37 ?_
          exact rg_54_41 v13 h o   hs
def fm_54 (y0 : Value) (y1 : Int32) (y2 : Int32) (h : am_H) : Option am_O := fg_54_0 y0 y1 y2 h
theorem rm_54 {X : am_X} {d : Nat} (y0 : Value) (y1 : Int32) (y2 : Int32) (h : am_H) (o : am_O) (i0 : am_isR y0 = true) (hs : fm_54 y0 y1 y2 h = some o) : am_W X (d) 54 0 (am_args 0 [y0, .int y1, .int y2]) [] h (fun q => q = o) := by
  rw [am_args_R i0, am_args_I, am_args_I]
  exact rg_54_0 y0 y1 y2 h o rfl rfl rfl i0 hs
def fg_67_10 (s0 : Int32) (h : am_H) : Option am_O := some (.inl (some (.int s0), h))
theorem rg_67_10 {X : am_X} {d : Nat} {lv : am_LV} (s0 : Int32) (h : am_H) (o : am_O) (hs : fg_67_10 s0 h = some o) : am_W X (d) 67 10 lv [(.int s0)] h (fun q => q = o) := by
  unfold fg_67_10 at hs
  cases hs
  exact aw_iret at_67_10 (by rw [rt_67]; rfl) rfl
def fg_67_0 (x0 : Int32) (h : am_H) : Option am_O := (if 0 ≤ x0 then (fg_67_10 x0 h) else (fg_67_10 ((-x0)) h))
theorem rg_67_0 {X : am_X} {d : Nat} {lv : am_LV} (x0 : Int32) (h : am_H) (o : am_O) (l0 : lv.lookup 0 = some (.int x0)) (hs : fg_67_0 x0 h = some o) : am_W X (d) 67 0 lv [] h (fun q => q = o) := by
  unfold fg_67_0 at hs
  refine aw_iload_n (pc1 := 1) at_67_0 l0 rfl ?_
  by_cases c1 : 0 ≤ x0
  · rw [if_pos c1] at hs
    refine aw_ifge_t at_67_1 c1 ?_
    refine aw_iload_n (pc1 := 10) at_67_9 l0 rfl ?_
    exact rg_67_10 x0 h o   hs
  · rw [if_neg c1] at hs
    refine aw_ifge_f (pc1 := 4) at_67_1 c1 rfl ?_
    refine aw_iload_n (pc1 := 5) at_67_4 l0 rfl ?_
    refine aw_ineg (v := (-x0)) (pc1 := 6) at_67_5 rfl rfl ?_
    refine aw_goto at_67_6 ?_
    exact rg_67_10 ((-x0)) h o   hs
def fm_67 (y0 : Int32) (h : am_H) : Option am_O := fg_67_0 y0 h
theorem rm_67 {X : am_X} {d : Nat} (y0 : Int32) (h : am_H) (o : am_O) (hs : fm_67 y0 h = some o) : am_W X (d) 67 0 (am_args 0 [.int y0]) [] h (fun q => q = o) := by
  rw [am_args_I]
  exact rg_67_0 y0 h o rfl  hs
def fg_68_32 (h : am_H) : Option am_O := some (.inl (none, h))
theorem rg_68_32 {X : am_X} {d : Nat} {lv : am_LV} (h : am_H) (o : am_O) (hs : fg_68_32 h = some o) : am_W X (d) 68 32 lv [] h (fun q => q = o) := by
  unfold fg_68_32 at hs
  cases hs
  exact aw_vret at_68_32 rt_68 rfl
def fg_68_0 (x0 : Value) (x1 : Int32) (h : am_H) : Option am_O := ((am_vI (am_pG 2312 x0 h)).bind fun v1 => ((am_vR (am_pG 2311 x0 h)).bind fun v3 => ((am_pLen v3 h).bind fun v5 => (if v5 ≤ v1 then (fg_68_32 h) else ((am_vR (am_pG 2311 x0 h)).bind fun v8 => ((am_vI (am_pG 2312 x0 h)).bind fun v10 => ((am_pS 3 v8 v10 x1 h).bind fun h12 => ((am_vI (am_pG 2312 x0 h12)).bind fun v14 => ((am_pP 2312 x0 (.int (v14 + 1)) h12).bind fun h16 => (fg_68_32 h16))))))))))
theorem rg_68_0 {X : am_X} {d : Nat} {lv : am_LV} (x0 : Value) (x1 : Int32) (h : am_H) (o : am_O) (l0 : lv.lookup 0 = some x0) (l1 : lv.lookup 1 = some (.int x1)) (i0 : am_isR x0 = true) (hs : fg_68_0 x0 x1 h = some o) : am_W X (d) 68 0 lv [] h (fun q => q = o) := by
  unfold fg_68_0 at hs
  refine aw_vload_n (pc1 := 1) at_68_0 l0 i0 rfl ?_
  obtain ⟨v1, e2, hs⟩ := am_bind hs
  refine aw_pG (pc1 := 4) at_68_1 (am_vI_s e2) rfl ?_
  refine aw_vload_n (pc1 := 5) at_68_4 l0 i0 rfl ?_
  obtain ⟨v3, e4, hs⟩ := am_bind hs
  refine aw_pG (pc1 := 8) at_68_5 (am_vR_s e4).1 rfl ?_
  obtain ⟨v5, e6, hs⟩ := am_bind hs
  refine aw_pLen (pc1 := 9) at_68_8 e6 rfl ?_
  by_cases c7 : v5 ≤ v1
  · rw [if_pos c7] at hs
    refine aw_icge_t at_68_9 c7 ?_
    exact rg_68_32 h o   hs
  · rw [if_neg c7] at hs
    refine aw_icge_f (pc1 := 12) at_68_9 c7 rfl ?_
    refine aw_vload_n (pc1 := 13) at_68_12 l0 i0 rfl ?_
    obtain ⟨v8, e9, hs⟩ := am_bind hs
    refine aw_pG (pc1 := 16) at_68_13 (am_vR_s e9).1 rfl ?_
    refine aw_vload_n (pc1 := 17) at_68_16 l0 i0 rfl ?_
    obtain ⟨v10, e11, hs⟩ := am_bind hs
    refine aw_pG (pc1 := 20) at_68_17 (am_vI_s e11) rfl ?_
    refine aw_iload_n (pc1 := 21) at_68_20 l1 rfl ?_
    obtain ⟨h12, e13, hs⟩ := am_bind hs
    refine aw_pS (pc1 := 22) at_68_21 (Or.inr (Or.inr ⟨rfl, rfl⟩)) e13 rfl ?_
    refine aw_vload_n (pc1 := 23) at_68_22 l0 i0 rfl ?_
    refine aw_vdup (pc1 := 24) at_68_23 i0 rfl ?_
    obtain ⟨v14, e15, hs⟩ := am_bind hs
    refine aw_pG (pc1 := 27) at_68_24 (am_vI_s e15) rfl ?_
    refine aw_iconst (v := 1) (pc1 := 28) at_68_27 (by decide) rfl ?_
    refine aw_iadd (v := (v14 + 1)) (pc1 := 29) at_68_28 rfl rfl ?_
    obtain ⟨h16, e17, hs⟩ := am_bind hs
    refine aw_pP (pc1 := 32) at_68_29 e17 rfl ?_
    exact rg_68_32 h16 o   hs
def fm_68 (y0 : Value) (y1 : Int32) (h : am_H) : Option am_O := fg_68_0 y0 y1 h
theorem rm_68 {X : am_X} {d : Nat} (y0 : Value) (y1 : Int32) (h : am_H) (o : am_O) (i0 : am_isR y0 = true) (hs : fm_68 y0 y1 h = some o) : am_W X (d) 68 0 (am_args 0 [y0, .int y1]) [] h (fun q => q = o) := by
  rw [am_args_R i0, am_args_I]
  exact rg_68_0 y0 y1 h o rfl rfl i0 hs
def fg_66_36 (x0 : Value) (x2 : Int32) (h : am_H) : Option am_O := (if am_pOk 9 x0 h then am_cV true (fm_68 x0 (((Int32.toUInt32 (48 + (x2 - x2 / 10 * 10)) % 65536).toInt32)) h) (fun h3 => some (.inl (none, h3))) else none)
theorem rg_66_36 {X : am_X} {d : Nat} {lv : am_LV} (x0 : Value) (x2 : Int32) (h : am_H) (o : am_O) (l0 : lv.lookup 0 = some x0) (l2 : lv.lookup 2 = some (.int x2)) (i0 : am_isR x0 = true) (hs : fg_66_36 x0 x2 h = some o) : am_W X (d + 1) 66 36 lv [] h (fun q => q = o) := by
  unfold fg_66_36 at hs
  refine aw_vload_n (pc1 := 37) at_66_36 l0 i0 rfl ?_
  refine aw_bipush (v := 48) (pc1 := 39) at_66_37 (by decide) rfl ?_
  refine aw_iload_n (pc1 := 40) at_66_39 l2 rfl ?_
  refine aw_bipush (v := 10) (pc1 := 42) at_66_40 (by decide) rfl ?_
  refine aw_irem (v := (x2 - x2 / 10 * 10)) (pc1 := 43) at_66_42 (by decide) rfl rfl ?_
  refine aw_iadd (v := (48 + (x2 - x2 / 10 * 10))) (pc1 := 44) at_66_43 rfl rfl ?_
  refine aw_i2c (v := ((Int32.toUInt32 (48 + (x2 - x2 / 10 * 10)) % 65536).toInt32)) (pc1 := 45) at_66_44 rfl rfl ?_
  obtain ⟨z1, hs⟩ := am_ift hs
  refine aw_call (t := true) (na := 2) (kd := 1) (as := [x0, (.int ((Int32.toUInt32 (48 + (x2 - x2 / 10 * 10)) % 65536).toInt32))]) at_66_45 rfl (congrArg (fun q => q.1) mi_68) (congrArg (fun q => q.2.1) mi_68) rfl rfl (am_ok_v mi_68 (am_hl rfl (am_ccR i0 (am_ccI am_cats_0)) rfl) z1) (am_hc am_cats_0 rfl) (fun _ => ⟨rfl, hh_66⟩) (fun o1 h9 => rm_68 x0 (((Int32.toUInt32 (48 + (x2 - x2 / 10 * 10)) % 65536).toInt32)) h o1 i0 h9) ?_
  rcases am_cV_s hs with ⟨h3, f4, hs⟩ | hs
  · refine Or.inl ⟨_, _, f4, ?_⟩
    show am_W X _ 66 48 _ [] h3 _
    cases hs
    exact aw_vret at_66_48 rt_66 rfl
  · exact Or.inr hs
def fg_66_15 (x0 : Value) (x2 : Int32) (h : am_H) : Option am_O := (if x2 ≤ 9 then (fg_66_36 x0 x2 h) else (if am_pOk 9 x0 h then am_cV true (fm_68 x0 (((Int32.toUInt32 (48 + ((x2 / 10) - (x2 / 10) / 10 * 10)) % 65536).toInt32)) h) (fun h4 => (fg_66_36 x0 x2 h4)) else none))
theorem rg_66_15 {X : am_X} {d : Nat} {lv : am_LV} (x0 : Value) (x2 : Int32) (h : am_H) (o : am_O) (l0 : lv.lookup 0 = some x0) (l2 : lv.lookup 2 = some (.int x2)) (i0 : am_isR x0 = true) (hs : fg_66_15 x0 x2 h = some o) : am_W X (d + 1) 66 15 lv [] h (fun q => q = o) := by
  unfold fg_66_15 at hs
  refine aw_iload_n (pc1 := 16) at_66_15 l2 rfl ?_
  refine aw_bipush (v := 9) (pc1 := 18) at_66_16 (by decide) rfl ?_
  by_cases c1 : x2 ≤ 9
  · rw [if_pos c1] at hs
    refine aw_icle_t at_66_18 c1 ?_
    exact rg_66_36 x0 x2 h o l0 l2 i0 hs
  · rw [if_neg c1] at hs
    refine aw_icle_f (pc1 := 21) at_66_18 c1 rfl ?_
    refine aw_vload_n (pc1 := 22) at_66_21 l0 i0 rfl ?_
    refine aw_bipush (v := 48) (pc1 := 24) at_66_22 (by decide) rfl ?_
    refine aw_iload_n (pc1 := 25) at_66_24 l2 rfl ?_
    refine aw_bipush (v := 10) (pc1 := 27) at_66_25 (by decide) rfl ?_
    refine aw_idiv (v := (x2 / 10)) (pc1 := 28) at_66_27 (by decide) rfl rfl ?_
    refine aw_bipush (v := 10) (pc1 := 30) at_66_28 (by decide) rfl ?_
    refine aw_irem (v := ((x2 / 10) - (x2 / 10) / 10 * 10)) (pc1 := 31) at_66_30 (by decide) rfl rfl ?_
    refine aw_iadd (v := (48 + ((x2 / 10) - (x2 / 10) / 10 * 10))) (pc1 := 32) at_66_31 rfl rfl ?_
    refine aw_i2c (v := ((Int32.toUInt32 (48 + ((x2 / 10) - (x2 / 10) / 10 * 10)) % 65536).toInt32)) (pc1 := 33) at_66_32 rfl rfl ?_
    obtain ⟨z2, hs⟩ := am_ift hs
    refine aw_call (t := true) (na := 2) (kd := 1) (as := [x0, (.int ((Int32.toUInt32 (48 + ((x2 / 10) - (x2 / 10) / 10 * 10)) % 65536).toInt32))]) at_66_33 rfl (congrArg (fun q => q.1) mi_68) (congrArg (fun q => q.2.1) mi_68) rfl rfl (am_ok_v mi_68 (am_hl rfl (am_ccR i0 (am_ccI am_cats_0)) rfl) z2) (am_hc am_cats_0 rfl) (fun _ => ⟨rfl, hh_66⟩) (fun o1 h9 => rm_68 x0 (((Int32.toUInt32 (48 + ((x2 / 10) - (x2 / 10) / 10 * 10)) % 65536).toInt32)) h o1 i0 h9) ?_
    rcases am_cV_s hs with ⟨h4, f5, hs⟩ | hs
    · refine Or.inl ⟨_, _, f5, ?_⟩
      show am_W X _ 66 36 _ [] h4 _
      exact rg_66_36 x0 x2 h4 o l0 l2 i0 hs
    · exact Or.inr hs
def fg_66_0 (x0 : Value) (x1 : Int32) (h : am_H) : Option am_O := am_cI false (fm_67 x1 h) (fun v1 h2 => (if 0 ≤ x1 then (fg_66_15 x0 v1 h2) else (if am_pOk 9 x0 h2 then am_cV true (fm_68 x0 45 h2) (fun h7 => (fg_66_15 x0 v1 h7)) else none)))
theorem rg_66_0 {X : am_X} {d : Nat} {lv : am_LV} (x0 : Value) (x1 : Int32) (h : am_H) (o : am_O) (l0 : lv.lookup 0 = some x0) (l1 : lv.lookup 1 = some (.int x1)) (i0 : am_isR x0 = true) (hs : fg_66_0 x0 x1 h = some o) : am_W X (d + 1) 66 0 lv [] h (fun q => q = o) := by
  unfold fg_66_0 at hs
  refine aw_iload_n (pc1 := 1) at_66_0 l1 rfl ?_
  refine aw_call (t := false) (na := 1) (kd := 0) (as := [(.int x1)]) at_66_1 rfl (congrArg (fun q => q.1) mi_67) (congrArg (fun q => q.2.1) mi_67) rfl rfl (am_ok_s mi_67 (am_hl rfl (am_ccI am_cats_0) rfl)) (am_hc am_cats_0 rfl) (fun h9 => by cases h9) (fun o1 h9 => rm_67 x1 h o1  h9) ?_
  rcases am_cI_s hs with ⟨v1, h2, f3, hs⟩ | hs
  · refine Or.inl ⟨_, _, f3, ?_⟩
    show am_W X _ 66 4 _ [(.int v1)] h2 _
    refine aw_istore_n (lv1 := am_put1 _ 2 _) (pc1 := 5) at_66_4 rfl rfl ?_
    refine aw_iload_n (pc1 := 6) at_66_5 (am_lk1 l1 rfl rfl) rfl ?_
    by_cases c4 : 0 ≤ x1
    · rw [if_pos c4] at hs
      refine aw_ifge_t at_66_6 c4 ?_
      exact rg_66_15 x0 v1 h2 o (am_lk1 l0 rfl rfl) am_lk0 i0 hs
    · rw [if_neg c4] at hs
      refine aw_ifge_f (pc1 := 9) at_66_6 c4 rfl ?_
      refine aw_vload_n (pc1 := 10) at_66_9 (am_lk1 l0 rfl rfl) i0 rfl ?_
      refine aw_bipush (v := 45) (pc1 := 12) at_66_10 (by decide) rfl ?_
      obtain ⟨z5, hs⟩ := am_ift hs
      refine aw_call (t := true) (na := 2) (kd := 1) (as := [x0, (.int 45)]) at_66_12 rfl (congrArg (fun q => q.1) mi_68) (congrArg (fun q => q.2.1) mi_68) rfl rfl (am_ok_v mi_68 (am_hl rfl (am_ccR i0 (am_ccI am_cats_0)) rfl) z5) (am_hc am_cats_0 rfl) (fun _ => ⟨rfl, hh_66⟩) (fun o1 h9 => rm_68 x0 45 h2 o1 i0 h9) ?_
      rcases am_cV_s hs with ⟨h7, f8, hs⟩ | hs
      · refine Or.inl ⟨_, _, f8, ?_⟩
        show am_W X _ 66 15 _ [] h7 _
        exact rg_66_15 x0 v1 h7 o (am_lk1 l0 rfl rfl) am_lk0 i0 hs
      · exact Or.inr hs
  · exact Or.inr hs
def fm_66 (y0 : Value) (y1 : Int32) (h : am_H) : Option am_O := fg_66_0 y0 y1 h
theorem rm_66 {X : am_X} {d : Nat} (y0 : Value) (y1 : Int32) (h : am_H) (o : am_O) (i0 : am_isR y0 = true) (hs : fm_66 y0 y1 h = some o) : am_W X (d + 1) 66 0 (am_args 0 [y0, .int y1]) [] h (fun q => q = o) := by
  rw [am_args_R i0, am_args_I]
  exact rg_66_0 y0 y1 h o rfl rfl i0 hs
def fg_65_122 (N : Nat) (rc_65 : Value → Int32 → Int32 → am_H → Option am_O) (x4 : Int32) (h : am_H) : Option am_O := some (.inl (some (.int x4), h))
theorem rg_65_122 {X : am_X} {d : Nat} {N : Nat} {rc_65 : Value → Int32 → Int32 → am_H → Option am_O} (qc_65 : ∀ (y0 : Value) (y1 : Int32) (y2 : Int32) (h : am_H) (o : am_O), (am_isR y0 = true) → rc_65 y0 y1 y2 h = some o → am_W X (d + 2) 65 0 (am_args 0 [y0, .int y1, .int y2]) [] h (fun q => q = o)) {lv : am_LV} (x4 : Int32) (h : am_H) (o : am_O) (l4 : lv.lookup 4 = some (.int x4)) (hs : fg_65_122 N rc_65 x4 h = some o) : am_W X (d + 3) 65 122 lv [] h (fun q => q = o) := by
  unfold fg_65_122 at hs
  refine aw_iload (pc1 := 124) at_65_122 l4 rfl ?_
  cases hs
  exact aw_iret at_65_124 (by rw [rt_65]; rfl) rfl
def fg_65_116 (N : Nat) (rc_65 : Value → Int32 → Int32 → am_H → Option am_O) (x0 : Value) (x4 : Int32) (h : am_H) : Option am_O := (if am_pOk 9 x0 h then am_cV true (fm_68 x0 41 h) (fun h3 => (fg_65_122 N rc_65 x4 h3)) else none)
theorem rg_65_116 {X : am_X} {d : Nat} {N : Nat} {rc_65 : Value → Int32 → Int32 → am_H → Option am_O} (qc_65 : ∀ (y0 : Value) (y1 : Int32) (y2 : Int32) (h : am_H) (o : am_O), (am_isR y0 = true) → rc_65 y0 y1 y2 h = some o → am_W X (d + 2) 65 0 (am_args 0 [y0, .int y1, .int y2]) [] h (fun q => q = o)) {lv : am_LV} (x0 : Value) (x4 : Int32) (h : am_H) (o : am_O) (l0 : lv.lookup 0 = some x0) (l4 : lv.lookup 4 = some (.int x4)) (i0 : am_isR x0 = true) (hs : fg_65_116 N rc_65 x0 x4 h = some o) : am_W X (d + 3) 65 116 lv [] h (fun q => q = o) := by
  unfold fg_65_116 at hs
  refine aw_vload_n (pc1 := 117) at_65_116 l0 i0 rfl ?_
  refine aw_bipush (v := 41) (pc1 := 119) at_65_117 (by decide) rfl ?_
  obtain ⟨z1, hs⟩ := am_ift hs
  refine aw_call (t := true) (na := 2) (kd := 1) (as := [x0, (.int 41)]) at_65_119 rfl (congrArg (fun q => q.1) mi_68) (congrArg (fun q => q.2.1) mi_68) rfl rfl (am_ok_v mi_68 (am_hl rfl (am_ccR i0 (am_ccI am_cats_0)) rfl) z1) (am_hc am_cats_0 rfl) (fun _ => ⟨rfl, hh_65⟩) (fun o1 h9 => rm_68 x0 41 h o1 i0 h9) ?_
  rcases am_cV_s hs with ⟨h3, f4, hs⟩ | hs
  · refine Or.inl ⟨_, _, f4, ?_⟩
    show am_W X _ 65 122 _ [] h3 _
    exact rg_65_122 qc_65 x4 h3 o l4  hs
  · exact Or.inr hs
def fg_65_78 (N : Nat) (rc_65 : Value → Int32 → Int32 → am_H → Option am_O) : Nat → Value → Int32 → Int32 → Int32 → Int32 → am_H → Option am_O
  | 0 => fun _ _ _ _ _ _ => none
  | K + 1 => fun x0 x2 x3 x4 x5 h => am_cI false (fm_14 x3 h) (fun v1 h2 => (if v1 ≤ x5 then (fg_65_116 N rc_65 x0 x4 h2) else (if 12 < x2 then (fg_65_116 N rc_65 x0 x4 h2) else (if am_pOk 9 x0 h2 then am_cV true (fm_68 x0 32 h2) (fun h8 => (if am_pOk 9 x0 h8 then am_cI true (rc_65 x0 x4 ((x2 + 1)) h8) (fun v11 h12 => (fg_65_78 N rc_65 K x0 x2 x3 v11 ((x5 + 1)) h12)) else none)) else none))))
theorem rg_65_78 {X : am_X} {d : Nat} {N : Nat} {rc_65 : Value → Int32 → Int32 → am_H → Option am_O} (qc_65 : ∀ (y0 : Value) (y1 : Int32) (y2 : Int32) (h : am_H) (o : am_O), (am_isR y0 = true) → rc_65 y0 y1 y2 h = some o → am_W X (d + 2) 65 0 (am_args 0 [y0, .int y1, .int y2]) [] h (fun q => q = o)) : ∀ (K : Nat) (x0 : Value) (x2 : Int32) (x3 : Int32) (x4 : Int32) (x5 : Int32) (h : am_H) (o : am_O), fg_65_78 N rc_65 K x0 x2 x3 x4 x5 h = some o → ∀ lv : am_LV, (lv.lookup 0 = some x0) → (lv.lookup 2 = some (.int x2)) → (lv.lookup 3 = some (.int x3)) → (lv.lookup 4 = some (.int x4)) → (lv.lookup 5 = some (.int x5)) → (am_isR x0 = true) → am_W X (d + 3) 65 78 lv [] h (fun q => q = o) := by
  intro K
  induction K with
  | zero => intro x0 x2 x3 x4 x5 h o hs; cases hs
  | succ K ih =>
    intro x0 x2 x3 x4 x5 h o hs lv l0 l2 l3 l4 l5 i0
    unfold fg_65_78 at hs
    refine aw_iload (pc1 := 80) at_65_78 l5 rfl ?_
    refine aw_iload_n (pc1 := 81) at_65_80 l3 rfl ?_
    refine aw_call (t := false) (na := 1) (kd := 0) (as := [(.int x3)]) at_65_81 rfl (congrArg (fun q => q.1) mi_14) (congrArg (fun q => q.2.1) mi_14) rfl rfl (am_ok_s mi_14 (am_hl rfl (am_ccI am_cats_0) rfl)) (am_hc (am_ccI am_cats_0) rfl) (fun h9 => by cases h9) (fun o1 h9 => rm_14 x3 h o1  h9) ?_
    rcases am_cI_s hs with ⟨v1, h2, f3, hs⟩ | hs
    · refine Or.inl ⟨_, _, f3, ?_⟩
      show am_W X _ 65 84 _ [(.int v1), (.int x5)] h2 _
      by_cases c4 : v1 ≤ x5
      · rw [if_pos c4] at hs
        refine aw_icge_t at_65_84 c4 ?_
        exact rg_65_116 qc_65 x0 x4 h2 o l0 l4 i0 hs
      · rw [if_neg c4] at hs
        refine aw_icge_f (pc1 := 87) at_65_84 c4 rfl ?_
        refine aw_iload_n (pc1 := 88) at_65_87 l2 rfl ?_
        refine aw_bipush (v := 12) (pc1 := 90) at_65_88 (by decide) rfl ?_
        by_cases c5 : 12 < x2
        · rw [if_pos c5] at hs
          refine aw_icgt_t at_65_90 c5 ?_
          exact rg_65_116 qc_65 x0 x4 h2 o l0 l4 i0 hs
        · rw [if_neg c5] at hs
          refine aw_icgt_f (pc1 := 93) at_65_90 c5 rfl ?_
          refine aw_vload_n (pc1 := 94) at_65_93 l0 i0 rfl ?_
          refine aw_bipush (v := 32) (pc1 := 96) at_65_94 (by decide) rfl ?_
          obtain ⟨z6, hs⟩ := am_ift hs
          refine aw_call (t := true) (na := 2) (kd := 1) (as := [x0, (.int 32)]) at_65_96 rfl (congrArg (fun q => q.1) mi_68) (congrArg (fun q => q.2.1) mi_68) rfl rfl (am_ok_v mi_68 (am_hl rfl (am_ccR i0 (am_ccI am_cats_0)) rfl) z6) (am_hc am_cats_0 rfl) (fun _ => ⟨rfl, hh_65⟩) (fun o1 h9 => rm_68 x0 32 h2 o1 i0 h9) ?_
          rcases am_cV_s hs with ⟨h8, f9, hs⟩ | hs
          · refine Or.inl ⟨_, _, f9, ?_⟩
            show am_W X _ 65 99 _ [] h8 _
            refine aw_vload_n (pc1 := 100) at_65_99 l0 i0 rfl ?_
            refine aw_iload (pc1 := 102) at_65_100 l4 rfl ?_
            refine aw_iload_n (pc1 := 103) at_65_102 l2 rfl ?_
            refine aw_iconst (v := 1) (pc1 := 104) at_65_103 (by decide) rfl ?_
            refine aw_iadd (v := (x2 + 1)) (pc1 := 105) at_65_104 rfl rfl ?_
            obtain ⟨z10, hs⟩ := am_ift hs
            refine aw_call (t := true) (na := 3) (kd := 1) (as := [x0, (.int x4), (.int (x2 + 1))]) at_65_105 rfl (congrArg (fun q => q.1) mi_65) (congrArg (fun q => q.2.1) mi_65) rfl rfl (am_ok_v mi_65 (am_hl rfl (am_ccR i0 (am_ccI (am_ccI am_cats_0))) rfl) z10) (am_hc am_cats_0 rfl) (fun _ => ⟨rfl, hh_65⟩) (fun o1 h9 => qc_65 x0 x4 ((x2 + 1)) h8 o1 i0 h9) ?_
            rcases am_cI_s hs with ⟨v11, h12, f13, hs⟩ | hs
            · refine Or.inl ⟨_, _, f13, ?_⟩
              show am_W X _ 65 108 _ [(.int v11)] h12 _
              refine aw_istore (lv1 := am_put1 _ 4 _) (pc1 := 110) at_65_108 rfl rfl ?_
              refine aw_iinc (v := (x5 + 1)) (c := 1) (lv1 := am_put1 _ 5 _) (pc1 := 113) at_65_110 (am_lk1 l5 rfl rfl) (by decide) rfl rfl rfl ?_
              refine aw_goto at_65_113 ?_
              exact ih x0 x2 x3 v11 ((x5 + 1)) h12 o hs _ (am_lk1 (am_lk1 l0 rfl rfl) rfl rfl) (am_lk1 (am_lk1 l2 rfl rfl) rfl rfl) (am_lk1 (am_lk1 l3 rfl rfl) rfl rfl) (am_lk1 am_lk0 rfl rfl) am_lk0 i0
            · exact Or.inr hs
          · exact Or.inr hs
    · exact Or.inr hs
def fg_65_0 (N : Nat) (rc_65 : Value → Int32 → Int32 → am_H → Option am_O) (x0 : Value) (x1 : Int32) (x2 : Int32) (h : am_H) : Option am_O := ((am_vR (am_pG 2308 x0 h)).bind fun v1 => (if am_pOk 3 v1 h then am_cI true (fm_54 v1 x1 0 h) (fun v4 h5 => (if ¬ v4 = 0 then (if 7 ≤ v4 then (if am_pOk 9 x0 h5 then am_cV true (fm_68 x0 40 h5) (fun h11 => ((am_pTx 4 (v4 - 7)).bind fun v13 => (if am_pOk 9 x0 h11 then am_cV true (fm_68 x0 v13 h11) (fun h17 => (fg_65_78 N rc_65 N x0 x2 v4 ((x1 + 1)) 0 h17)) else none))) else none) else ((am_pTx 3 (v4 - 1)).bind fun v19 => (if am_pOk 9 x0 h5 then am_cV true (fm_68 x0 v19 h5) (fun h23 => (fg_65_122 N rc_65 ((x1 + 1)) h23)) else none))) else ((am_vR (am_pG 2308 x0 h5)).bind fun v25 => (if am_pOk 3 v25 h5 then am_cI true (fm_54 v25 x1 1 h5) (fun v28 h29 => (if am_pOk 9 x0 h29 then am_cV true (fm_66 x0 v28 h29) (fun h33 => (fg_65_122 N rc_65 ((x1 + 1)) h33)) else none)) else none)))) else none))
theorem rg_65_0 {X : am_X} {d : Nat} {N : Nat} {rc_65 : Value → Int32 → Int32 → am_H → Option am_O} (qc_65 : ∀ (y0 : Value) (y1 : Int32) (y2 : Int32) (h : am_H) (o : am_O), (am_isR y0 = true) → rc_65 y0 y1 y2 h = some o → am_W X (d + 2) 65 0 (am_args 0 [y0, .int y1, .int y2]) [] h (fun q => q = o)) {lv : am_LV} (x0 : Value) (x1 : Int32) (x2 : Int32) (h : am_H) (o : am_O) (l0 : lv.lookup 0 = some x0) (l1 : lv.lookup 1 = some (.int x1)) (l2 : lv.lookup 2 = some (.int x2)) (i0 : am_isR x0 = true) (hs : fg_65_0 N rc_65 x0 x1 x2 h = some o) : am_W X (d + 3) 65 0 lv [] h (fun q => q = o) := by
  unfold fg_65_0 at hs
  refine aw_vload_n (pc1 := 1) at_65_0 l0 i0 rfl ?_
  obtain ⟨v1, e2, hs⟩ := am_bind hs
  refine aw_pG (pc1 := 4) at_65_1 (am_vR_s e2).1 rfl ?_
  refine aw_iload_n (pc1 := 5) at_65_4 l1 rfl ?_
  refine aw_iconst (v := 0) (pc1 := 6) at_65_5 (by decide) rfl ?_
  obtain ⟨z3, hs⟩ := am_ift hs
  refine aw_call (t := true) (na := 3) (kd := 1) (as := [v1, (.int x1), (.int 0)]) at_65_6 rfl (congrArg (fun q => q.1) mi_54) (congrArg (fun q => q.2.1) mi_54) rfl rfl (am_ok_v mi_54 (am_hl rfl (am_ccR (am_vR_s e2).2 (am_ccI (am_ccI am_cats_0))) rfl) z3) (am_hc am_cats_0 rfl) (fun _ => ⟨rfl, hh_65⟩) (fun o1 h9 => rm_54 v1 x1 0 h o1 (am_vR_s e2).2 h9) ?_
  rcases am_cI_s hs with ⟨v4, h5, f6, hs⟩ | hs
  · refine Or.inl ⟨_, _, f6, ?_⟩
    show am_W X _ 65 9 _ [(.int v4)] h5 _
    refine aw_istore_n (lv1 := am_put1 _ 3 _) (pc1 := 10) at_65_9 rfl rfl ?_
    refine aw_iload_n (pc1 := 11) at_65_10 (am_lk1 l1 rfl rfl) rfl ?_
    refine aw_iconst (v := 1) (pc1 := 12) at_65_11 (by decide) rfl ?_
    refine aw_iadd (v := (x1 + 1)) (pc1 := 13) at_65_12 rfl rfl ?_
    refine aw_istore (lv1 := am_put1 _ 4 _) (pc1 := 15) at_65_13 rfl rfl ?_
    refine aw_iload_n (pc1 := 16) at_65_15 (am_lk1 am_lk0 rfl rfl) rfl ?_
    by_cases c7 : ¬ v4 = 0
    · rw [if_pos c7] at hs
      refine aw_ifne_t at_65_16 c7 ?_
      refine aw_iload_n (pc1 := 36) at_65_35 (am_lk1 am_lk0 rfl rfl) rfl ?_
      refine aw_bipush (v := 7) (pc1 := 38) at_65_36 (by decide) rfl ?_
      by_cases c8 : 7 ≤ v4
      · rw [if_pos c8] at hs
        refine aw_icge_t at_65_38 c8 ?_
        refine aw_vload_n (pc1 := 57) at_65_56 (am_lk1 (am_lk1 l0 rfl rfl) rfl rfl) i0 rfl ?_
        refine aw_bipush (v := 40) (pc1 := 59) at_65_57 (by decide) rfl ?_
        obtain ⟨z9, hs⟩ := am_ift hs
        refine aw_call (t := true) (na := 2) (kd := 1) (as := [x0, (.int 40)]) at_65_59 rfl (congrArg (fun q => q.1) mi_68) (congrArg (fun q => q.2.1) mi_68) rfl rfl (am_ok_v mi_68 (am_hl rfl (am_ccR i0 (am_ccI am_cats_0)) rfl) z9) (am_hc am_cats_0 rfl) (fun _ => ⟨rfl, hh_65⟩) (fun o1 h9 => rm_68 x0 40 h5 o1 i0 h9) ?_
        rcases am_cV_s hs with ⟨h11, f12, hs⟩ | hs
        · refine Or.inl ⟨_, _, f12, ?_⟩
          show am_W X _ 65 62 _ [] h11 _
          refine aw_vload_n (pc1 := 63) at_65_62 (am_lk1 (am_lk1 l0 rfl rfl) rfl rfl) i0 rfl ?_
          refine am_W.ldt at_65_63 rfl ?_
          show am_W _ _ _ 65 _ [(Value.float 4), x0] _ _
          refine aw_iload_n (pc1 := 66) at_65_65 (am_lk1 am_lk0 rfl rfl) rfl ?_
          refine aw_bipush (v := 7) (pc1 := 68) at_65_66 (by decide) rfl ?_
          refine aw_isub (v := (v4 - 7)) (pc1 := 69) at_65_68 rfl rfl ?_
          obtain ⟨v13, e14, hs⟩ := am_bind hs
          refine aw_pTx (j := 4) at_65_69 rfl rfl rfl e14 (am_hc (am_ccR i0 am_cats_0) rfl) ?_
          obtain ⟨z15, hs⟩ := am_ift hs
          refine aw_call (t := true) (na := 2) (kd := 1) (as := [x0, (.int v13)]) at_65_72 rfl (congrArg (fun q => q.1) mi_68) (congrArg (fun q => q.2.1) mi_68) rfl rfl (am_ok_v mi_68 (am_hl rfl (am_ccR i0 (am_ccI am_cats_0)) rfl) z15) (am_hc am_cats_0 rfl) (fun _ => ⟨rfl, hh_65⟩) (fun o1 h9 => rm_68 x0 v13 h11 o1 i0 h9) ?_
          rcases am_cV_s hs with ⟨h17, f18, hs⟩ | hs
          · refine Or.inl ⟨_, _, f18, ?_⟩
            show am_W X _ 65 75 _ [] h17 _
            refine aw_iconst (v := 0) (pc1 := 76) at_65_75 (by decide) rfl ?_
            refine aw_istore (lv1 := am_put1 _ 5 _) (pc1 := 78) at_65_76 rfl rfl ?_
            exact rg_65_78 qc_65 N x0 x2 v4 ((x1 + 1)) 0 h17 o hs _ (am_lk1 (am_lk1 (am_lk1 l0 rfl rfl) rfl rfl) rfl rfl) (am_lk1 (am_lk1 (am_lk1 l2 rfl rfl) rfl rfl) rfl rfl) (am_lk1 (am_lk1 am_lk0 rfl rfl) rfl rfl) (am_lk1 am_lk0 rfl rfl) am_lk0 i0
          · exact Or.inr hs
        · exact Or.inr hs
      · rw [if_neg c8] at hs
        refine aw_icge_f (pc1 := 41) at_65_38 c8 rfl ?_
        refine aw_vload_n (pc1 := 42) at_65_41 (am_lk1 (am_lk1 l0 rfl rfl) rfl rfl) i0 rfl ?_
        refine am_W.ldt at_65_42 rfl ?_
        show am_W _ _ _ 44 _ [(Value.float 3), x0] _ _
        refine aw_iload_n (pc1 := 45) at_65_44 (am_lk1 am_lk0 rfl rfl) rfl ?_
        refine aw_iconst (v := 1) (pc1 := 46) at_65_45 (by decide) rfl ?_
        refine aw_isub (v := (v4 - 1)) (pc1 := 47) at_65_46 rfl rfl ?_
        obtain ⟨v19, e20, hs⟩ := am_bind hs
        refine aw_pTx (j := 3) at_65_47 rfl rfl rfl e20 (am_hc (am_ccR i0 am_cats_0) rfl) ?_
        obtain ⟨z21, hs⟩ := am_ift hs
        refine aw_call (t := true) (na := 2) (kd := 1) (as := [x0, (.int v19)]) at_65_50 rfl (congrArg (fun q => q.1) mi_68) (congrArg (fun q => q.2.1) mi_68) rfl rfl (am_ok_v mi_68 (am_hl rfl (am_ccR i0 (am_ccI am_cats_0)) rfl) z21) (am_hc am_cats_0 rfl) (fun _ => ⟨rfl, hh_65⟩) (fun o1 h9 => rm_68 x0 v19 h5 o1 i0 h9) ?_
        rcases am_cV_s hs with ⟨h23, f24, hs⟩ | hs
        · refine Or.inl ⟨_, _, f24, ?_⟩
          show am_W X _ 65 53 _ [] h23 _
          refine aw_goto at_65_53 ?_
          exact rg_65_122 qc_65 ((x1 + 1)) h23 o am_lk0  hs
        · exact Or.inr hs
    · rw [if_neg c7] at hs
      refine aw_ifne_f (pc1 := 19) at_65_16 c7 rfl ?_
      refine aw_vload_n (pc1 := 20) at_65_19 (am_lk1 (am_lk1 l0 rfl rfl) rfl rfl) i0 rfl ?_
      refine aw_vload_n (pc1 := 21) at_65_20 (am_lk1 (am_lk1 l0 rfl rfl) rfl rfl) i0 rfl ?_
      obtain ⟨v25, e26, hs⟩ := am_bind hs
      refine aw_pG (pc1 := 24) at_65_21 (am_vR_s e26).1 rfl ?_
      refine aw_iload_n (pc1 := 25) at_65_24 (am_lk1 (am_lk1 l1 rfl rfl) rfl rfl) rfl ?_
      refine aw_iconst (v := 1) (pc1 := 26) at_65_25 (by decide) rfl ?_
      obtain ⟨z27, hs⟩ := am_ift hs
      refine aw_call (t := true) (na := 3) (kd := 1) (as := [v25, (.int x1), (.int 1)]) at_65_26 rfl (congrArg (fun q => q.1) mi_54) (congrArg (fun q => q.2.1) mi_54) rfl rfl (am_ok_v mi_54 (am_hl rfl (am_ccR (am_vR_s e26).2 (am_ccI (am_ccI am_cats_0))) rfl) z27) (am_hc (am_ccR i0 am_cats_0) rfl) (fun _ => ⟨rfl, hh_65⟩) (fun o1 h9 => rm_54 v25 x1 1 h5 o1 (am_vR_s e26).2 h9) ?_
      rcases am_cI_s hs with ⟨v28, h29, f30, hs⟩ | hs
      · refine Or.inl ⟨_, _, f30, ?_⟩
        show am_W X _ 65 29 _ [(.int v28), x0] h29 _
        obtain ⟨z31, hs⟩ := am_ift hs
        refine aw_call (t := true) (na := 2) (kd := 1) (as := [x0, (.int v28)]) at_65_29 rfl (congrArg (fun q => q.1) mi_66) (congrArg (fun q => q.2.1) mi_66) rfl rfl (am_ok_v mi_66 (am_hl rfl (am_ccR i0 (am_ccI am_cats_0)) rfl) z31) (am_hc am_cats_0 rfl) (fun _ => ⟨rfl, hh_65⟩) (fun o1 h9 => rm_66 x0 v28 h29 o1 i0 h9) ?_
        rcases am_cV_s hs with ⟨h33, f34, hs⟩ | hs
        · refine Or.inl ⟨_, _, f34, ?_⟩
          show am_W X _ 65 32 _ [] h33 _
          refine aw_goto at_65_32 ?_
          exact rg_65_122 qc_65 ((x1 + 1)) h33 o am_lk0  hs
        · exact Or.inr hs
      · exact Or.inr hs
  · exact Or.inr hs
def fo_65 (N : Nat) (rc_65 : Value → Int32 → Int32 → am_H → Option am_O) (y0 : Value) (y1 : Int32) (y2 : Int32) (h : am_H) : Option am_O := fg_65_0 N rc_65 y0 y1 y2 h
theorem ro_65 {X : am_X} {d : Nat} {N : Nat} {rc_65 : Value → Int32 → Int32 → am_H → Option am_O} (qc_65 : ∀ (y0 : Value) (y1 : Int32) (y2 : Int32) (h : am_H) (o : am_O), (am_isR y0 = true) → rc_65 y0 y1 y2 h = some o → am_W X (d + 2) 65 0 (am_args 0 [y0, .int y1, .int y2]) [] h (fun q => q = o)) (y0 : Value) (y1 : Int32) (y2 : Int32) (h : am_H) (o : am_O) (i0 : am_isR y0 = true) (hs : fo_65 N rc_65 y0 y1 y2 h = some o) : am_W X (d + 3) 65 0 (am_args 0 [y0, .int y1, .int y2]) [] h (fun q => q = o) := by
  rw [am_args_R i0, am_args_I, am_args_I]
  exact rg_65_0 qc_65 y0 y1 y2 h o rfl rfl rfl i0 hs
def gr_65 (N : Nat) : Nat → Nat → List Value → am_H → Option am_O
  | 0 => fun _ _ _ => none
  | K + 1 => fun w as h => match w, as with
    | 65, [y0, .int y1, .int y2] => fo_65 N (fun y0 y1 y2 h => gr_65 N K 65 [y0, .int y1, .int y2] h) y0 y1 y2 h
    | _, _ => none
theorem gs_65 {X : am_X} {d N : Nat} : ∀ K : Nat, (∀ (y0 : Value) (y1 : Int32) (y2 : Int32) (h : am_H) (o : am_O), (am_isR y0 = true) → gr_65 N K 65 [y0, .int y1, .int y2] h = some o → am_W X (d + 3 * K) 65 0 (am_args 0 [y0, .int y1, .int y2]) [] h (fun q => q = o)) := by
  intro K
  induction K with
  | zero => exact ⟨fun _ _ _ h o _ hs => by cases hs⟩
  | succ K ih =>
    obtain ⟨q65⟩ := ih
    have up : d + 3 * K ≤ d + 3 * K + 2 := Nat.le_add_right _ _
    have eD : d + 3 * (K + 1) = d + 3 * K + 3 := by rw [Nat.mul_succ, Nat.add_assoc]
    rw [eD]
    refine ⟨?_⟩
    · intro y0 y1 y2 h o i0 hs
      exact ro_65 (fun w0 w1 w2 h o k0 hs => (q65 w0 w1 w2 h o k0 hs).up up) y0 y1 y2 h o i0 hs
def fm_65 (N : Nat) (y0 : Value) (y1 : Int32) (y2 : Int32) (h : am_H) : Option am_O := gr_65 N 40 65 [y0, .int y1, .int y2] h
theorem rm_65 {X : am_X} {d : Nat} {N : Nat} (y0 : Value) (y1 : Int32) (y2 : Int32) (h : am_H) (o : am_O) (i0 : am_isR y0 = true) (hs : fm_65 N y0 y1 y2 h = some o) : am_W X (d + 120) 65 0 (am_args 0 [y0, .int y1, .int y2]) [] h (fun q => q = o) := (gs_65 (X := X) (d := d) (N := N) 40) y0 y1 y2 h o i0 hs
