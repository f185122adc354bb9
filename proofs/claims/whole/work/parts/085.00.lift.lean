/-! ===== methods as functions ===== -/
def fg_3_0 (x0 : Value) (h : am_H) : Option am_O := (if am_pRf x0 then ((am_pNew 0 60 h).bind fun h2 => ((am_pP 1792 x0 (Value.ref h.length) h2).bind fun h4 => ((am_pNew 0 60 h4).bind fun h6 => ((am_pP 1793 x0 (Value.ref h4.length) h6).bind fun h8 => ((am_pNew 0 60 h8).bind fun h10 => ((am_pP 1794 x0 (Value.ref h8.length) h10).bind fun h12 => ((am_pNew 2 60 h12).bind fun h14 => ((am_pP 1795 x0 (Value.ref h12.length) h14).bind fun h16 => ((am_pNew 2 60 h16).bind fun h18 => ((am_pP 1796 x0 (Value.ref h16.length) h18).bind fun h20 => ((am_pNew 2 60 h20).bind fun h22 => ((am_pP 1797 x0 (Value.ref h20.length) h22).bind fun h24 => ((am_pNew 0 61 h24).bind fun h26 => ((am_pP 1798 x0 (Value.ref h24.length) h26).bind fun h28 => ((am_pP 1799 x0 (.int 0) h28).bind fun h30 => some (.inl (none, h30))))))))))))))))) else none)
theorem rg_3_0 {X : am_X} {d : Nat} {lv : am_LV} (x0 : Value) (h : am_H) (o : am_O) (l0 : lv.lookup 0 = some x0) (i0 : am_isR x0 = true) (hs : fg_3_0 x0 h = some o) : am_W X (d) 3 0 lv [] h (fun q => q = o) := by
  unfold fg_3_0 at hs
  refine aw_vload_n (pc1 := 1) at_3_0 l0 i0 rfl ?_
  obtain ⟨z1, hs1⟩ := am_ift hs
  clear hs
  refine aw_obi at_3_1 rfl z1 (am_hc am_cats_0 rfl) ?_
  refine aw_vload_n (pc1 := 5) at_3_4 l0 i0 rfl ?_
  refine aw_bipush (v := 60) (pc1 := 7) at_3_5 (by decide) rfl ?_
  obtain ⟨h2, e3, hs2⟩ := am_bind hs1
  clear hs1
  refine aw_pNew (pc1 := 9) at_3_7 e3 rfl ?_
  obtain ⟨h4, e5, hs3⟩ := am_bind hs2
  clear hs2
  refine aw_pP (pc1 := 12) at_3_9 e5 rfl ?_
  refine aw_vload_n (pc1 := 13) at_3_12 l0 i0 rfl ?_
  refine aw_bipush (v := 60) (pc1 := 15) at_3_13 (by decide) rfl ?_
  obtain ⟨h6, e7, hs4⟩ := am_bind hs3
  clear hs3
  refine aw_pNew (pc1 := 17) at_3_15 e7 rfl ?_
  obtain ⟨h8, e9, hs5⟩ := am_bind hs4
  clear hs4
  refine aw_pP (pc1 := 20) at_3_17 e9 rfl ?_
  refine aw_vload_n (pc1 := 21) at_3_20 l0 i0 rfl ?_
  refine aw_bipush (v := 60) (pc1 := 23) at_3_21 (by decide) rfl ?_
  obtain ⟨h10, e11, hs6⟩ := am_bind hs5
  clear hs5
  refine aw_pNew (pc1 := 25) at_3_23 e11 rfl ?_
  obtain ⟨h12, e13, hs7⟩ := am_bind hs6
  clear hs6
  refine aw_pP (pc1 := 28) at_3_25 e13 rfl ?_
  refine aw_vload_n (pc1 := 29) at_3_28 l0 i0 rfl ?_
  refine aw_bipush (v := 60) (pc1 := 31) at_3_29 (by decide) rfl ?_
  obtain ⟨h14, e15, hs8⟩ := am_bind hs7
  clear hs7
  refine aw_pNew (pc1 := 33) at_3_31 e15 rfl ?_
  obtain ⟨h16, e17, hs9⟩ := am_bind hs8
  clear hs8
  refine aw_pP (pc1 := 36) at_3_33 e17 rfl ?_
  refine aw_vload_n (pc1 := 37) at_3_36 l0 i0 rfl ?_
  refine aw_bipush (v := 60) (pc1 := 39) at_3_37 (by decide) rfl ?_
  obtain ⟨h18, e19, hs10⟩ := am_bind hs9
  clear hs9
  refine aw_pNew (pc1 := 41) at_3_39 e19 rfl ?_
  obtain ⟨h20, e21, hs11⟩ := am_bind hs10
  clear hs10
  refine aw_pP (pc1 := 44) at_3_41 e21 rfl ?_
  refine aw_vload_n (pc1 := 45) at_3_44 l0 i0 rfl ?_
  refine aw_bipush (v := 60) (pc1 := 47) at_3_45 (by decide) rfl ?_
  obtain ⟨h22, e23, hs12⟩ := am_bind hs11
  clear hs11
  refine aw_pNew (pc1 := 49) at_3_47 e23 rfl ?_
  obtain ⟨h24, e25, hs13⟩ := am_bind hs12
  clear hs12
  refine aw_pP (pc1 := 52) at_3_49 e25 rfl ?_
  refine aw_vload_n (pc1 := 53) at_3_52 l0 i0 rfl ?_
  refine aw_bipush (v := 61) (pc1 := 55) at_3_53 (by decide) rfl ?_
  obtain ⟨h26, e27, hs14⟩ := am_bind hs13
  clear hs13
  refine aw_pNew (pc1 := 57) at_3_55 e27 rfl ?_
  obtain ⟨h28, e29, hs15⟩ := am_bind hs14
  clear hs14
  refine aw_pP (pc1 := 60) at_3_57 e29 rfl ?_
  refine aw_vload_n (pc1 := 61) at_3_60 l0 i0 rfl ?_
  refine aw_iconst (v := 0) (pc1 := 62) at_3_61 (by decide) rfl ?_
  obtain ⟨h30, e31, hs16⟩ := am_bind hs15
  clear hs15
  refine aw_pP (pc1 := 65) at_3_62 e31 rfl ?_
  cases hs16
  exact aw_vret at_3_65 rt_3 rfl
def fm_3 (y0 : Value) (h : am_H) : Option am_O := fg_3_0 y0 h
theorem rm_3 {X : am_X} {d : Nat} (y0 : Value) (h : am_H) (o : am_O) (i0 : am_isR y0 = true) (hs : fm_3 y0 h = some o) : am_W X (d) 3 0 (am_args 0 [y0]) [] h (fun q => q = o) := by
  rw [am_args_R i0]
  exact rg_3_0 y0 h o rfl i0 hs
def fg_11_23 (s0 : Int32) (h : am_H) : Option am_O := (if am_rfit (some FieldType.boolean) s0 then some (.inl (some (.int s0), h)) else none)
theorem rg_11_23 {X : am_X} {d : Nat} {lv : am_LV} (s0 : Int32) (h : am_H) (o : am_O) (hs : fg_11_23 s0 h = some o) : am_W X (d) 11 23 lv [(.int s0)] h (fun q => q = o) := by
  unfold fg_11_23 at hs
  obtain ⟨z1, hs1⟩ := am_ift hs
  clear hs
  cases hs1
  exact aw_iret at_11_23 (by rw [rt_11]; exact z1) rfl
def fg_11_22 (h : am_H) : Option am_O := (fg_11_23 0 h)
theorem rg_11_22 {X : am_X} {d : Nat} {lv : am_LV} (h : am_H) (o : am_O) (hs : fg_11_22 h = some o) : am_W X (d) 11 22 lv [] h (fun q => q = o) := by
  unfold fg_11_22 at hs
  refine aw_iconst (v := 0) (pc1 := 23) at_11_22 (by decide) rfl ?_
  exact rg_11_23 0 h o   hs
def fg_11_18 (h : am_H) : Option am_O := (fg_11_23 1 h)
theorem rg_11_18 {X : am_X} {d : Nat} {lv : am_LV} (h : am_H) (o : am_O) (hs : fg_11_18 h = some o) : am_W X (d) 11 18 lv [] h (fun q => q = o) := by
  unfold fg_11_18 at hs
  refine aw_iconst (v := 1) (pc1 := 19) at_11_18 (by decide) rfl ?_
  refine aw_goto at_11_19 ?_
  exact rg_11_23 1 h o   hs
def fg_11_0 (x0 : Int32) (h : am_H) : Option am_O := (if x0 = 9 then (fg_11_18 h) else (if x0 < 15 then (fg_11_22 h) else (if 18 < x0 then (fg_11_22 h) else (fg_11_18 h))))
theorem rg_11_0 {X : am_X} {d : Nat} {lv : am_LV} (x0 : Int32) (h : am_H) (o : am_O) (l0 : lv.lookup 0 = some (.int x0)) (hs : fg_11_0 x0 h = some o) : am_W X (d) 11 0 lv [] h (fun q => q = o) := by
  unfold fg_11_0 at hs
  refine aw_iload_n (pc1 := 1) at_11_0 l0 rfl ?_
  refine aw_bipush (v := 9) (pc1 := 3) at_11_1 (by decide) rfl ?_
  by_cases c1 : x0 = 9
  · rw [if_pos c1] at hs
    refine aw_iceq_t at_11_3 c1 ?_
    exact rg_11_18 h o   hs
  · rw [if_neg c1] at hs
    refine aw_iceq_f (pc1 := 6) at_11_3 c1 rfl ?_
    refine aw_iload_n (pc1 := 7) at_11_6 l0 rfl ?_
    refine aw_bipush (v := 15) (pc1 := 9) at_11_7 (by decide) rfl ?_
    by_cases c2 : x0 < 15
    · rw [if_pos c2] at hs
      refine aw_iclt_t at_11_9 c2 ?_
      exact rg_11_22 h o   hs
    · rw [if_neg c2] at hs
      refine aw_iclt_f (pc1 := 12) at_11_9 c2 rfl ?_
      refine aw_iload_n (pc1 := 13) at_11_12 l0 rfl ?_
      refine aw_bipush (v := 18) (pc1 := 15) at_11_13 (by decide) rfl ?_
      by_cases c3 : 18 < x0
      · rw [if_pos c3] at hs
        refine aw_icgt_t at_11_15 c3 ?_
        exact rg_11_22 h o   hs
      · rw [if_neg c3] at hs
        refine aw_icgt_f (pc1 := 18) at_11_15 c3 rfl ?_
        exact rg_11_18 h o   hs
def fm_11 (y0 : Int32) (h : am_H) : Option am_O := fg_11_0 y0 h
theorem rm_11 {X : am_X} {d : Nat} (y0 : Int32) (h : am_H) (o : am_O) (hs : fm_11 y0 h = some o) : am_W X (d) 11 0 (am_args 0 [.int y0]) [] h (fun q => q = o) := by
  rw [am_args_I]
  exact rg_11_0 y0 h o rfl  hs
def fg_10_56 (s0 : Int32) (h : am_H) : Option am_O := (if am_rfit (some FieldType.boolean) s0 then some (.inl (some (.int s0), h)) else none)
theorem rg_10_56 {X : am_X} {d : Nat} {lv : am_LV} (s0 : Int32) (h : am_H) (o : am_O) (hs : fg_10_56 s0 h = some o) : am_W X (d + 1) 10 56 lv [(.int s0)] h (fun q => q = o) := by
  unfold fg_10_56 at hs
  obtain ⟨z1, hs1⟩ := am_ift hs
  clear hs
  cases hs1
  exact aw_iret at_10_56 (by rw [rt_10]; exact z1) rfl
def fg_10_55 (h : am_H) : Option am_O := (fg_10_56 0 h)
theorem rg_10_55 {X : am_X} {d : Nat} {lv : am_LV} (h : am_H) (o : am_O) (hs : fg_10_55 h = some o) : am_W X (d + 1) 10 55 lv [] h (fun q => q = o) := by
  unfold fg_10_55 at hs
  refine aw_iconst (v := 0) (pc1 := 56) at_10_55 (by decide) rfl ?_
  exact rg_10_56 0 h o   hs
def fg_10_51 (h : am_H) : Option am_O := (fg_10_56 1 h)
theorem rg_10_51 {X : am_X} {d : Nat} {lv : am_LV} (h : am_H) (o : am_O) (hs : fg_10_51 h = some o) : am_W X (d + 1) 10 51 lv [] h (fun q => q = o) := by
  unfold fg_10_51 at hs
  refine aw_iconst (v := 1) (pc1 := 52) at_10_51 (by decide) rfl ?_
  refine aw_goto at_10_52 ?_
  exact rg_10_56 1 h o   hs
def fg_10_41 (x1 : Int32) (x2 : Int32) (h : am_H) : Option am_O := (if x2 = 0 then (fg_10_51 h) else (if x1 = 19 then (fg_10_55 h) else (fg_10_51 h)))
theorem rg_10_41 {X : am_X} {d : Nat} {lv : am_LV} (x1 : Int32) (x2 : Int32) (h : am_H) (o : am_O) (l1 : lv.lookup 1 = some (.int x1)) (l2 : lv.lookup 2 = some (.int x2)) (hs : fg_10_41 x1 x2 h = some o) : am_W X (d + 1) 10 41 lv [] h (fun q => q = o) := by
  unfold fg_10_41 at hs
  refine aw_iload_n (pc1 := 42) at_10_41 l2 rfl ?_
  by_cases c1 : x2 = 0
  · rw [if_pos c1] at hs
    refine aw_ifeq_t at_10_42 c1 ?_
    exact rg_10_51 h o   hs
  · rw [if_neg c1] at hs
    refine aw_ifeq_f (pc1 := 45) at_10_42 c1 rfl ?_
    refine aw_iload_n (pc1 := 46) at_10_45 l1 rfl ?_
    refine aw_bipush (v := 19) (pc1 := 48) at_10_46 (by decide) rfl ?_
    by_cases c2 : x1 = 19
    · rw [if_pos c2] at hs
      refine aw_iceq_t at_10_48 c2 ?_
      exact rg_10_55 h o   hs
    · rw [if_neg c2] at hs
      refine aw_iceq_f (pc1 := 51) at_10_48 c2 rfl ?_
      exact rg_10_51 h o   hs
def fg_10_22 (x1 : Int32) (x2 : Int32) (s0 : Int32) (s1 : Int32) (h : am_H) : Option am_O := (if ¬ s0 = s1 then (fg_10_55 h) else (if x2 = 2 then (fg_10_41 x1 x2 h) else (if x1 = 5 then (fg_10_55 h) else (if x1 = 6 then (fg_10_55 h) else (fg_10_41 x1 x2 h)))))
theorem rg_10_22 {X : am_X} {d : Nat} {lv : am_LV} (x1 : Int32) (x2 : Int32) (s0 : Int32) (s1 : Int32) (h : am_H) (o : am_O) (l1 : lv.lookup 1 = some (.int x1)) (l2 : lv.lookup 2 = some (.int x2)) (hs : fg_10_22 x1 x2 s0 s1 h = some o) : am_W X (d + 1) 10 22 lv [(.int s1), (.int s0)] h (fun q => q = o) := by
  unfold fg_10_22 at hs
  by_cases c1 : ¬ s0 = s1
  · rw [if_pos c1] at hs
    refine aw_icne_t at_10_22 c1 ?_
    exact rg_10_55 h o   hs
  · rw [if_neg c1] at hs
    refine aw_icne_f (pc1 := 25) at_10_22 c1 rfl ?_
    refine aw_iload_n (pc1 := 26) at_10_25 l2 rfl ?_
    refine aw_iconst (v := 2) (pc1 := 27) at_10_26 (by decide) rfl ?_
    by_cases c2 : x2 = 2
    · rw [if_pos c2] at hs
      refine aw_iceq_t at_10_27 c2 ?_
      exact rg_10_41 x1 x2 h o l1 l2  hs
    · rw [if_neg c2] at hs
      refine aw_iceq_f (pc1 := 30) at_10_27 c2 rfl ?_
      refine aw_iload_n (pc1 := 31) at_10_30 l1 rfl ?_
      refine aw_iconst (v := 5) (pc1 := 32) at_10_31 (by decide) rfl ?_
      by_cases c3 : x1 = 5
      · rw [if_pos c3] at hs
        refine aw_iceq_t at_10_32 c3 ?_
        exact rg_10_55 h o   hs
      · rw [if_neg c3] at hs
        refine aw_iceq_f (pc1 := 35) at_10_32 c3 rfl ?_
        refine aw_iload_n (pc1 := 36) at_10_35 l1 rfl ?_
        refine aw_bipush (v := 6) (pc1 := 38) at_10_36 (by decide) rfl ?_
        by_cases c4 : x1 = 6
        · rw [if_pos c4] at hs
          refine aw_iceq_t at_10_38 c4 ?_
          exact rg_10_55 h o   hs
        · rw [if_neg c4] at hs
          refine aw_iceq_f (pc1 := 41) at_10_38 c4 rfl ?_
          exact rg_10_41 x1 x2 h o l1 l2  hs
def fg_10_0 (x0 : Int32) (x1 : Int32) (h : am_H) : Option am_O := am_cI false (fm_11 x1 h) (fun v1 h2 => (if ¬ (x0 - x0 / 2 * 2) = 1 then (fg_10_22 x1 (((x0 / 2) * 2)) v1 0 h2) else (fg_10_22 x1 (((x0 / 2) * 2)) v1 1 h2)))
theorem rg_10_0 {X : am_X} {d : Nat} {lv : am_LV} (x0 : Int32) (x1 : Int32) (h : am_H) (o : am_O) (l0 : lv.lookup 0 = some (.int x0)) (l1 : lv.lookup 1 = some (.int x1)) (hs : fg_10_0 x0 x1 h = some o) : am_W X (d + 1) 10 0 lv [] h (fun q => q = o) := by
  unfold fg_10_0 at hs
  refine aw_iload_n (pc1 := 1) at_10_0 l0 rfl ?_
  refine aw_iconst (v := 2) (pc1 := 2) at_10_1 (by decide) rfl ?_
  refine aw_idiv (v := (x0 / 2)) (pc1 := 3) at_10_2 (by decide) rfl rfl ?_
  refine aw_iconst (v := 2) (pc1 := 4) at_10_3 (by decide) rfl ?_
  refine aw_imul (v := ((x0 / 2) * 2)) (pc1 := 5) at_10_4 rfl rfl ?_
  refine aw_istore_n (lv1 := am_put1 _ 2 _) (pc1 := 6) at_10_5 rfl rfl ?_
  refine aw_iload_n (pc1 := 7) at_10_6 (am_lk1 l1 rfl rfl) rfl ?_
  refine aw_call (F := fm_11 x1 h) (t := false) (na := 1) (kd := 0) (as := [(.int x1)]) at_10_7 (am_k3s kb_11) mn_11 mk_11 rfl rfl (am_ok_s mi_11 (am_hl rfl (am_ccI am_cats_0) rfl)) (am_hc am_cats_0 rfl) (fun hz9 => by cases hz9) (fun o1 hz9 => rm_11 x1 h o1  hz9) ?_
  rcases am_cI_s hs with ⟨v1, h2, f3, hs1⟩ | hs1
  · clear hs
    refine Or.inl ⟨_, _, f3, ?_⟩
    show am_W X _ 10 10 _ [(.int v1)] h2 _
    refine aw_iload_n (pc1 := 11) at_10_10 (am_lk1 l0 rfl rfl) rfl ?_
    refine aw_iconst (v := 2) (pc1 := 12) at_10_11 (by decide) rfl ?_
    refine aw_irem (v := (x0 - x0 / 2 * 2)) (pc1 := 13) at_10_12 (by decide) rfl rfl ?_
    refine aw_iconst (v := 1) (pc1 := 14) at_10_13 (by decide) rfl ?_
    by_cases c4 : ¬ (x0 - x0 / 2 * 2) = 1
    · rw [if_pos c4] at hs1
      refine aw_icne_t at_10_14 c4 ?_
      refine aw_iconst (v := 0) (pc1 := 22) at_10_21 (by decide) rfl ?_
      exact rg_10_22 x1 (((x0 / 2) * 2)) v1 0 h2 o (am_lk1 l1 rfl rfl) am_lk0  hs1
    · rw [if_neg c4] at hs1
      refine aw_icne_f (pc1 := 17) at_10_14 c4 rfl ?_
      refine aw_iconst (v := 1) (pc1 := 18) at_10_17 (by decide) rfl ?_
      refine aw_goto at_10_18 ?_
      exact rg_10_22 x1 (((x0 / 2) * 2)) v1 1 h2 o (am_lk1 l1 rfl rfl) am_lk0  hs1
  · clear hs
    exact Or.inr hs1
def fm_10 (y0 : Int32) (y1 : Int32) (h : am_H) : Option am_O := fg_10_0 y0 y1 h
theorem rm_10 {X : am_X} {d : Nat} (y0 : Int32) (y1 : Int32) (h : am_H) (o : am_O) (hs : fm_10 y0 y1 h = some o) : am_W X (d + 1) 10 0 (am_args 0 [.int y0, .int y1]) [] h (fun q => q = o) := by
  rw [am_args_I, am_args_I]
  exact rg_10_0 y0 y1 h o rfl rfl  hs
def fg_13_33 (s0 : Int32) (h : am_H) : Option am_O := (if am_rfit (some FieldType.boolean) s0 then some (.inl (some (.int s0), h)) else none)
theorem rg_13_33 {X : am_X} {d : Nat} {lv : am_LV} (s0 : Int32) (h : am_H) (o : am_O) (hs : fg_13_33 s0 h = some o) : am_W X (d) 13 33 lv [(.int s0)] h (fun q => q = o) := by
  unfold fg_13_33 at hs
  obtain ⟨z1, hs1⟩ := am_ift hs
  clear hs
  cases hs1
  exact aw_iret at_13_33 (by rw [rt_13]; exact z1) rfl
def fg_13_32 (h : am_H) : Option am_O := (fg_13_33 0 h)
theorem rg_13_32 {X : am_X} {d : Nat} {lv : am_LV} (h : am_H) (o : am_O) (hs : fg_13_32 h = some o) : am_W X (d) 13 32 lv [] h (fun q => q = o) := by
  unfold fg_13_32 at hs
  refine aw_iconst (v := 0) (pc1 := 33) at_13_32 (by decide) rfl ?_
  exact rg_13_33 0 h o   hs
def fg_13_28 (h : am_H) : Option am_O := (fg_13_33 1 h)
theorem rg_13_28 {X : am_X} {d : Nat} {lv : am_LV} (h : am_H) (o : am_O) (hs : fg_13_28 h = some o) : am_W X (d) 13 28 lv [] h (fun q => q = o) := by
  unfold fg_13_28 at hs
  refine aw_iconst (v := 1) (pc1 := 29) at_13_28 (by decide) rfl ?_
  refine aw_goto at_13_29 ?_
  exact rg_13_33 1 h o   hs
def fg_13_0 (x0 : Int32) (x1 : Int32) (h : am_H) : Option am_O := (if x0 = 9 then (fg_13_28 h) else (if x0 = 17 then (fg_13_28 h) else (if x0 = 18 then (fg_13_28 h) else (if ¬ x0 = 20 then (fg_13_32 h) else (if ¬ x1 = 0 then (fg_13_32 h) else (fg_13_28 h))))))
theorem rg_13_0 {X : am_X} {d : Nat} {lv : am_LV} (x0 : Int32) (x1 : Int32) (h : am_H) (o : am_O) (l0 : lv.lookup 0 = some (.int x0)) (l1 : lv.lookup 1 = some (.int x1)) (hs : fg_13_0 x0 x1 h = some o) : am_W X (d) 13 0 lv [] h (fun q => q = o) := by
  unfold fg_13_0 at hs
  refine aw_iload_n (pc1 := 1) at_13_0 l0 rfl ?_
  refine aw_bipush (v := 9) (pc1 := 3) at_13_1 (by decide) rfl ?_
  by_cases c1 : x0 = 9
  · rw [if_pos c1] at hs
    refine aw_iceq_t at_13_3 c1 ?_
    exact rg_13_28 h o   hs
  · rw [if_neg c1] at hs
    refine aw_iceq_f (pc1 := 6) at_13_3 c1 rfl ?_
    refine aw_iload_n (pc1 := 7) at_13_6 l0 rfl ?_
    refine aw_bipush (v := 17) (pc1 := 9) at_13_7 (by decide) rfl ?_
    by_cases c2 : x0 = 17
    · rw [if_pos c2] at hs
      refine aw_iceq_t at_13_9 c2 ?_
      exact rg_13_28 h o   hs
    · rw [if_neg c2] at hs
      refine aw_iceq_f (pc1 := 12) at_13_9 c2 rfl ?_
      refine aw_iload_n (pc1 := 13) at_13_12 l0 rfl ?_
      refine aw_bipush (v := 18) (pc1 := 15) at_13_13 (by decide) rfl ?_
      by_cases c3 : x0 = 18
      · rw [if_pos c3] at hs
        refine aw_iceq_t at_13_15 c3 ?_
        exact rg_13_28 h o   hs
      · rw [if_neg c3] at hs
        refine aw_iceq_f (pc1 := 18) at_13_15 c3 rfl ?_
        refine aw_iload_n (pc1 := 19) at_13_18 l0 rfl ?_
        refine aw_bipush (v := 20) (pc1 := 21) at_13_19 (by decide) rfl ?_
        by_cases c4 : ¬ x0 = 20
        · rw [if_pos c4] at hs
          refine aw_icne_t at_13_21 c4 ?_
          exact rg_13_32 h o   hs
        · rw [if_neg c4] at hs
          refine aw_icne_f (pc1 := 24) at_13_21 c4 rfl ?_
          refine aw_iload_n (pc1 := 25) at_13_24 l1 rfl ?_
          by_cases c5 : ¬ x1 = 0
          · rw [if_pos c5] at hs
            refine aw_ifne_t at_13_25 c5 ?_
            exact rg_13_32 h o   hs
          · rw [if_neg c5] at hs
            refine aw_ifne_f (pc1 := 28) at_13_25 c5 rfl ?_
            exact rg_13_28 h o   hs
def fm_13 (y0 : Int32) (y1 : Int32) (h : am_H) : Option am_O := fg_13_0 y0 y1 h
theorem rm_13 {X : am_X} {d : Nat} (y0 : Int32) (y1 : Int32) (h : am_H) (o : am_O) (hs : fm_13 y0 y1 h = some o) : am_W X (d) 13 0 (am_args 0 [.int y0, .int y1]) [] h (fun q => q = o) := by
  rw [am_args_I, am_args_I]
  exact rg_13_0 y0 y1 h o rfl rfl  hs
def fg_12_36 (s0 : Int32) (h : am_H) : Option am_O := some (.inl (some (.int s0), h))
theorem rg_12_36 {X : am_X} {d : Nat} {lv : am_LV} (s0 : Int32) (h : am_H) (o : am_O) (hs : fg_12_36 s0 h = some o) : am_W X (d + 1) 12 36 lv [(.int s0)] h (fun q => q = o) := by
  unfold fg_12_36 at hs
  cases hs
  exact aw_iret at_12_36 (by rw [rt_12]; rfl) rfl
def fg_12_20 (x1 : Int32) (x2 : Int32) (s0 : Int32) (h : am_H) : Option am_O := am_cI false (fm_13 x1 x2 h) (fun v1 h2 => (if v1 = 0 then (fg_12_36 s0 h2) else (fg_12_36 ((s0 + 1)) h2)))
theorem rg_12_20 {X : am_X} {d : Nat} {lv : am_LV} (x1 : Int32) (x2 : Int32) (s0 : Int32) (h : am_H) (o : am_O) (l1 : lv.lookup 1 = some (.int x1)) (l2 : lv.lookup 2 = some (.int x2)) (hs : fg_12_20 x1 x2 s0 h = some o) : am_W X (d + 1) 12 20 lv [(.int s0)] h (fun q => q = o) := by
  unfold fg_12_20 at hs
  refine aw_istore_n (lv1 := am_put1 _ 3 _) (pc1 := 21) at_12_20 rfl rfl ?_
  refine aw_iload_n (pc1 := 22) at_12_21 (am_lk1 l1 rfl rfl) rfl ?_
  refine aw_iload_n (pc1 := 23) at_12_22 (am_lk1 l2 rfl rfl) rfl ?_
  refine aw_call (F := fm_13 x1 x2 h) (t := false) (na := 2) (kd := 0) (as := [(.int x1), (.int x2)]) at_12_23 (am_k3s kb_13) mn_13 mk_13 rfl rfl (am_ok_s mi_13 (am_hl rfl (am_ccI (am_ccI am_cats_0)) rfl)) (am_hc am_cats_0 rfl) (fun hz9 => by cases hz9) (fun o1 hz9 => rm_13 x1 x2 h o1  hz9) ?_
  rcases am_cI_s hs with ⟨v1, h2, f3, hs1⟩ | hs1
  · clear hs
    refine Or.inl ⟨_, _, f3, ?_⟩
    show am_W X _ 12 26 _ [(.int v1)] h2 _
    by_cases c4 : v1 = 0
    · rw [if_pos c4] at hs1
      refine aw_ifeq_t at_12_26 c4 ?_
      refine aw_iload_n (pc1 := 36) at_12_35 am_lk0 rfl ?_
      exact rg_12_36 s0 h2 o   hs1
    · rw [if_neg c4] at hs1
      refine aw_ifeq_f (pc1 := 29) at_12_26 c4 rfl ?_
      refine aw_iload_n (pc1 := 30) at_12_29 am_lk0 rfl ?_
      refine aw_iconst (v := 1) (pc1 := 31) at_12_30 (by decide) rfl ?_
      refine aw_iadd (v := (s0 + 1)) (pc1 := 32) at_12_31 rfl rfl ?_
      refine aw_goto at_12_32 ?_
      exact rg_12_36 ((s0 + 1)) h2 o   hs1
  · clear hs
    exact Or.inr hs1
def fg_12_15 (x0 : Int32) (x1 : Int32) (x2 : Int32) (h : am_H) : Option am_O := (fg_12_20 x1 x2 (((x0 / 2) * 2)) h)
theorem rg_12_15 {X : am_X} {d : Nat} {lv : am_LV} (x0 : Int32) (x1 : Int32) (x2 : Int32) (h : am_H) (o : am_O) (l0 : lv.lookup 0 = some (.int x0)) (l1 : lv.lookup 1 = some (.int x1)) (l2 : lv.lookup 2 = some (.int x2)) (hs : fg_12_15 x0 x1 x2 h = some o) : am_W X (d + 1) 12 15 lv [] h (fun q => q = o) := by
  unfold fg_12_15 at hs
  refine aw_iload_n (pc1 := 16) at_12_15 l0 rfl ?_
  refine aw_iconst (v := 2) (pc1 := 17) at_12_16 (by decide) rfl ?_
  refine aw_idiv (v := (x0 / 2)) (pc1 := 18) at_12_17 (by decide) rfl rfl ?_
  refine aw_iconst (v := 2) (pc1 := 19) at_12_18 (by decide) rfl ?_
  refine aw_imul (v := ((x0 / 2) * 2)) (pc1 := 20) at_12_19 rfl rfl ?_
  exact rg_12_20 x1 x2 (((x0 / 2) * 2)) h o l1 l2  hs
def fg_12_0 (x0 : Int32) (x1 : Int32) (x2 : Int32) (h : am_H) : Option am_O := (if ¬ x1 = 19 then (fg_12_15 x0 x1 x2 h) else (if ¬ x2 = 1 then (fg_12_15 x0 x1 x2 h) else (fg_12_20 x1 x2 2 h)))
theorem rg_12_0 {X : am_X} {d : Nat} {lv : am_LV} (x0 : Int32) (x1 : Int32) (x2 : Int32) (h : am_H) (o : am_O) (l0 : lv.lookup 0 = some (.int x0)) (l1 : lv.lookup 1 = some (.int x1)) (l2 : lv.lookup 2 = some (.int x2)) (hs : fg_12_0 x0 x1 x2 h = some o) : am_W X (d + 1) 12 0 lv [] h (fun q => q = o) := by
  unfold fg_12_0 at hs
  refine aw_iload_n (pc1 := 1) at_12_0 l1 rfl ?_
  refine aw_bipush (v := 19) (pc1 := 3) at_12_1 (by decide) rfl ?_
  by_cases c1 : ¬ x1 = 19
  · rw [if_pos c1] at hs
    refine aw_icne_t at_12_3 c1 ?_
    exact rg_12_15 x0 x1 x2 h o l0 l1 l2  hs
  · rw [if_neg c1] at hs
    refine aw_icne_f (pc1 := 6) at_12_3 c1 rfl ?_
    refine aw_iload_n (pc1 := 7) at_12_6 l2 rfl ?_
    refine aw_iconst (v := 1) (pc1 := 8) at_12_7 (by decide) rfl ?_
    by_cases c2 : ¬ x2 = 1
    · rw [if_pos c2] at hs
      refine aw_icne_t at_12_8 c2 ?_
      exact rg_12_15 x0 x1 x2 h o l0 l1 l2  hs
    · rw [if_neg c2] at hs
      refine aw_icne_f (pc1 := 11) at_12_8 c2 rfl ?_
      refine aw_iconst (v := 2) (pc1 := 12) at_12_11 (by decide) rfl ?_
      refine aw_goto at_12_12 ?_
      exact rg_12_20 x1 x2 2 h o l1 l2  hs
def fm_12 (y0 : Int32) (y1 : Int32) (y2 : Int32) (h : am_H) : Option am_O := fg_12_0 y0 y1 y2 h
theorem rm_12 {X : am_X} {d : Nat} (y0 : Int32) (y1 : Int32) (y2 : Int32) (h : am_H) (o : am_O) (hs : fm_12 y0 y1 y2 h = some o) : am_W X (d + 1) 12 0 (am_args 0 [.int y0, .int y1, .int y2]) [] h (fun q => q = o) := by
  rw [am_args_I, am_args_I, am_args_I]
  exact rg_12_0 y0 y1 y2 h o rfl rfl rfl  hs
def fg_14_31 (s0 : Int32) (h : am_H) : Option am_O := some (.inl (some (.int s0), h))
theorem rg_14_31 {X : am_X} {d : Nat} {lv : am_LV} (s0 : Int32) (h : am_H) (o : am_O) (hs : fg_14_31 s0 h = some o) : am_W X (d) 14 31 lv [(.int s0)] h (fun q => q = o) := by
  unfold fg_14_31 at hs
  cases hs
  exact aw_iret at_14_31 (by rw [rt_14]; rfl) rfl
def fg_14_0 (x0 : Int32) (h : am_H) : Option am_O := (if 7 ≤ x0 then (if 10 ≤ x0 then (if 20 ≤ x0 then (fg_14_31 3 h) else (fg_14_31 2 h)) else (fg_14_31 1 h)) else (fg_14_31 0 h))
theorem rg_14_0 {X : am_X} {d : Nat} {lv : am_LV} (x0 : Int32) (h : am_H) (o : am_O) (l0 : lv.lookup 0 = some (.int x0)) (hs : fg_14_0 x0 h = some o) : am_W X (d) 14 0 lv [] h (fun q => q = o) := by
  unfold fg_14_0 at hs
  refine aw_iload_n (pc1 := 1) at_14_0 l0 rfl ?_
  refine aw_bipush (v := 7) (pc1 := 3) at_14_1 (by decide) rfl ?_
  by_cases c1 : 7 ≤ x0
  · rw [if_pos c1] at hs
    refine aw_icge_t at_14_3 c1 ?_
    refine aw_iload_n (pc1 := 11) at_14_10 l0 rfl ?_
    refine aw_bipush (v := 10) (pc1 := 13) at_14_11 (by decide) rfl ?_
    by_cases c2 : 10 ≤ x0
    · rw [if_pos c2] at hs
      refine aw_icge_t at_14_13 c2 ?_
      refine aw_iload_n (pc1 := 21) at_14_20 l0 rfl ?_
      refine aw_bipush (v := 20) (pc1 := 23) at_14_21 (by decide) rfl ?_
      by_cases c3 : 20 ≤ x0
      · rw [if_pos c3] at hs
        refine aw_icge_t at_14_23 c3 ?_
        refine aw_iconst (v := 3) (pc1 := 31) at_14_30 (by decide) rfl ?_
        exact rg_14_31 3 h o   hs
      · rw [if_neg c3] at hs
        refine aw_icge_f (pc1 := 26) at_14_23 c3 rfl ?_
        refine aw_iconst (v := 2) (pc1 := 27) at_14_26 (by decide) rfl ?_
        refine aw_goto at_14_27 ?_
        exact rg_14_31 2 h o   hs
    · rw [if_neg c2] at hs
      refine aw_icge_f (pc1 := 16) at_14_13 c2 rfl ?_
      refine aw_iconst (v := 1) (pc1 := 17) at_14_16 (by decide) rfl ?_
      refine aw_goto at_14_17 ?_
      exact rg_14_31 1 h o   hs
  · rw [if_neg c1] at hs
    refine aw_icge_f (pc1 := 6) at_14_3 c1 rfl ?_
    refine aw_iconst (v := 0) (pc1 := 7) at_14_6 (by decide) rfl ?_
    refine aw_goto at_14_7 ?_
    exact rg_14_31 0 h o   hs
def fm_14 (y0 : Int32) (h : am_H) : Option am_O := fg_14_0 y0 h
theorem rm_14 {X : am_X} {d : Nat} (y0 : Int32) (h : am_H) (o : am_O) (hs : fm_14 y0 h = some o) : am_W X (d) 14 0 (am_args 0 [.int y0]) [] h (fun q => q = o) := by
  rw [am_args_I]
  exact rg_14_0 y0 h o rfl  hs
def fg_15_35 (s0 : Int64) (h : am_H) : Option am_O := some (.inl (some (.long s0), h))
theorem rg_15_35 {X : am_X} {d : Nat} {lv : am_LV} (s0 : Int64) (h : am_H) (o : am_O) (hs : fg_15_35 s0 h = some o) : am_W X (d) 15 35 lv [(.long s0)] h (fun q => q = o) := by
  unfold fg_15_35 at hs
  cases hs
  exact aw_lret at_15_35 rt_15 rfl
def fg_15_34 (h : am_H) : Option am_O := (fg_15_35 0 h)
theorem rg_15_34 {X : am_X} {d : Nat} {lv : am_LV} (h : am_H) (o : am_O) (hs : fg_15_34 h = some o) : am_W X (d) 15 34 lv [] h (fun q => q = o) := by
  unfold fg_15_34 at hs
  refine aw_lconst (v := 0) (pc1 := 35) at_15_34 (by decide) rfl ?_
  exact rg_15_35 0 h o   hs
def fg_15_0 (x0 : Value) (x1 : Int32) (x2 : Int32) (h : am_H) : Option am_O := (if x2 ≤ 0 then (fg_15_34 h) else (if 13 ≤ x2 then (fg_15_34 h) else (if x1 < 0 then (fg_15_34 h) else (if 6 ≤ x1 then (fg_15_34 h) else ((am_vR (am_pG 1025 x0 h)).bind fun v5 => ((am_pAL v5 ((x1 * 13) + x2) h).bind fun v7 => (fg_15_35 v7 h)))))))
theorem rg_15_0 {X : am_X} {d : Nat} {lv : am_LV} (x0 : Value) (x1 : Int32) (x2 : Int32) (h : am_H) (o : am_O) (l0 : lv.lookup 0 = some x0) (l1 : lv.lookup 1 = some (.int x1)) (l2 : lv.lookup 2 = some (.int x2)) (i0 : am_isR x0 = true) (hs : fg_15_0 x0 x1 x2 h = some o) : am_W X (d) 15 0 lv [] h (fun q => q = o) := by
  unfold fg_15_0 at hs
  refine aw_iload_n (pc1 := 1) at_15_0 l2 rfl ?_
  by_cases c1 : x2 ≤ 0
  · rw [if_pos c1] at hs
    refine aw_ifle_t at_15_1 c1 ?_
    exact rg_15_34 h o   hs
  · rw [if_neg c1] at hs
    refine aw_ifle_f (pc1 := 4) at_15_1 c1 rfl ?_
    refine aw_iload_n (pc1 := 5) at_15_4 l2 rfl ?_
    refine aw_bipush (v := 13) (pc1 := 7) at_15_5 (by decide) rfl ?_
    by_cases c2 : 13 ≤ x2
    · rw [if_pos c2] at hs
      refine aw_icge_t at_15_7 c2 ?_
      exact rg_15_34 h o   hs
    · rw [if_neg c2] at hs
      refine aw_icge_f (pc1 := 10) at_15_7 c2 rfl ?_
      refine aw_iload_n (pc1 := 11) at_15_10 l1 rfl ?_
      by_cases c3 : x1 < 0
      · rw [if_pos c3] at hs
        refine aw_iflt_t at_15_11 c3 ?_
        exact rg_15_34 h o   hs
      · rw [if_neg c3] at hs
        refine aw_iflt_f (pc1 := 14) at_15_11 c3 rfl ?_
        refine aw_iload_n (pc1 := 15) at_15_14 l1 rfl ?_
        refine aw_bipush (v := 6) (pc1 := 17) at_15_15 (by decide) rfl ?_
        by_cases c4 : 6 ≤ x1
        · rw [if_pos c4] at hs
          refine aw_icge_t at_15_17 c4 ?_
          exact rg_15_34 h o   hs
        · rw [if_neg c4] at hs
          refine aw_icge_f (pc1 := 20) at_15_17 c4 rfl ?_
          refine aw_vload_n (pc1 := 21) at_15_20 l0 i0 rfl ?_
          obtain ⟨v5, e6, hs1⟩ := am_bind hs
          clear hs
          refine aw_pG (pc1 := 24) at_15_21 (am_vR_s e6).1 rfl ?_
          refine aw_iload_n (pc1 := 25) at_15_24 l1 rfl ?_
          refine aw_bipush (v := 13) (pc1 := 27) at_15_25 (by decide) rfl ?_
          refine aw_imul (v := (x1 * 13)) (pc1 := 28) at_15_27 rfl rfl ?_
          refine aw_iload_n (pc1 := 29) at_15_28 l2 rfl ?_
          refine aw_iadd (v := ((x1 * 13) + x2)) (pc1 := 30) at_15_29 rfl rfl ?_
          obtain ⟨v7, e8, hs2⟩ := am_bind hs1
          clear hs1
          refine aw_pAL (pc1 := 31) at_15_30 e8 rfl ?_
          refine aw_goto at_15_31 ?_
          exact rg_15_35 v7 h o   hs2
def fm_15 (y0 : Value) (y1 : Int32) (y2 : Int32) (h : am_H) : Option am_O := fg_15_0 y0 y1 y2 h
theorem rm_15 {X : am_X} {d : Nat} (y0 : Value) (y1 : Int32) (y2 : Int32) (h : am_H) (o : am_O) (i0 : am_isR y0 = true) (hs : fm_15 y0 y1 y2 h = some o) : am_W X (d) 15 0 (am_args 0 [y0, .int y1, .int y2]) [] h (fun q => q = o) := by
  rw [am_args_R i0, am_args_I, am_args_I]
  exact rg_15_0 y0 y1 y2 h o rfl rfl rfl i0 hs
def fg_16_6 (N : Nat) : Nat → Value → Int32 → Int32 → Int32 → Int64 → Int32 → am_H → Option am_O
  | 0 => fun _ _ _ _ _ _ _ => none
  | K + 1 => fun x0 x1 x2 x3 x4 x6 h => (if x3 ≤ x6 then some (.inl (some (.long x4), h)) else (if am_pOk 4 x0 h then am_cL true (fm_15 x0 x1 x6 h) (fun v3 h4 => (if am_pOk 4 x0 h4 then am_cL true (fm_15 x0 x2 ((x3 - x6)) h4) (fun v7 h8 => (fg_16_6 N K x0 x1 x2 x3 ((x4 + (v3 * v7))) ((x6 + 1)) h8)) else none)) else none))
theorem rg_16_6 {X : am_X} {d : Nat} {N : Nat} : ∀ (K : Nat) (x0 : Value) (x1 : Int32) (x2 : Int32) (x3 : Int32) (x4 : Int64) (x6 : Int32) (h : am_H) (o : am_O), fg_16_6 N K x0 x1 x2 x3 x4 x6 h = some o → ∀ lv : am_LV, (lv.lookup 0 = some x0) → (lv.lookup 1 = some (.int x1)) → (lv.lookup 2 = some (.int x2)) → (lv.lookup 3 = some (.int x3)) → (lv.lookup 4 = some (.long x4)) → (lv.lookup 6 = some (.int x6)) → (am_isR x0 = true) → am_W X (d + 1) 16 6 lv [] h (fun q => q = o) := by
  intro K
  induction K with
  | zero => intro x0 x1 x2 x3 x4 x6 h o hs; cases hs
  | succ K ih =>
    intro x0 x1 x2 x3 x4 x6 h o hs lv l0 l1 l2 l3 l4 l6 i0
    unfold fg_16_6 at hs
    refine aw_iload (pc1 := 8) at_16_6 l6 rfl ?_
    refine aw_iload_n (pc1 := 9) at_16_8 l3 rfl ?_
    by_cases c1 : x3 ≤ x6
    · rw [if_pos c1] at hs
      refine aw_icge_t at_16_9 c1 ?_
      refine aw_lload (pc1 := 42) at_16_40 l4 rfl ?_
      cases hs
      exact aw_lret at_16_42 rt_16 rfl
    · rw [if_neg c1] at hs
      refine aw_icge_f (pc1 := 12) at_16_9 c1 rfl ?_
      refine aw_lload (pc1 := 14) at_16_12 l4 rfl ?_
      refine aw_vload_n (pc1 := 15) at_16_14 l0 i0 rfl ?_
      refine aw_iload_n (pc1 := 16) at_16_15 l1 rfl ?_
      refine aw_iload (pc1 := 18) at_16_16 l6 rfl ?_
      obtain ⟨z2, hs1⟩ := am_ift hs
      clear hs
      refine aw_call (F := fm_15 x0 x1 x6 h) (t := true) (na := 3) (kd := 1) (as := [x0, (.int x1), (.int x6)]) at_16_18 (am_k3v kb_15) mn_15 mk_15 rfl rfl (am_ok_v mi_15 (am_hl rfl (am_ccR i0 (am_ccI (am_ccI am_cats_0))) rfl) z2) (am_hc (am_ccL am_cats_0) rfl) (fun _ => ⟨rfl, hh_16⟩) (fun o1 hz9 => rm_15 x0 x1 x6 h o1 i0 hz9) ?_
      rcases am_cL_s hs1 with ⟨v3, h4, f5, hs2⟩ | hs2
      · clear hs1
        refine Or.inl ⟨_, _, f5, ?_⟩
        show am_W X _ 16 21 _ [(.long v3), (.long x4)] h4 _
        refine aw_vload_n (pc1 := 22) at_16_21 l0 i0 rfl ?_
        refine aw_iload_n (pc1 := 23) at_16_22 l2 rfl ?_
        refine aw_iload_n (pc1 := 24) at_16_23 l3 rfl ?_
        refine aw_iload (pc1 := 26) at_16_24 l6 rfl ?_
        refine aw_isub (v := (x3 - x6)) (pc1 := 27) at_16_26 rfl rfl ?_
        obtain ⟨z6, hs3⟩ := am_ift hs2
        clear hs2
        refine aw_call (F := fm_15 x0 x2 ((x3 - x6)) h4) (t := true) (na := 3) (kd := 1) (as := [x0, (.int x2), (.int (x3 - x6))]) at_16_27 (am_k3v kb_15) mn_15 mk_15 rfl rfl (am_ok_v mi_15 (am_hl rfl (am_ccR i0 (am_ccI (am_ccI am_cats_0))) rfl) z6) (am_hc (am_ccL (am_ccL am_cats_0)) rfl) (fun _ => ⟨rfl, hh_16⟩) (fun o1 hz9 => rm_15 x0 x2 ((x3 - x6)) h4 o1 i0 hz9) ?_
        rcases am_cL_s hs3 with ⟨v7, h8, f9, hs4⟩ | hs4
        · clear hs3
          refine Or.inl ⟨_, _, f9, ?_⟩
          show am_W X _ 16 30 _ [(.long v7), (.long v3), (.long x4)] h8 _
          refine aw_lmul (v := (v3 * v7)) (pc1 := 31) at_16_30 rfl rfl ?_
          refine aw_ladd (v := (x4 + (v3 * v7))) (pc1 := 32) at_16_31 rfl rfl ?_
          refine aw_lstore (lv1 := am_put2 _ 4 _) (pc1 := 34) at_16_32 rfl rfl ?_
          refine aw_iinc (v := (x6 + 1)) (c := 1) (lv1 := am_put1 _ 6 _) (pc1 := 37) at_16_34 (am_lk2 l6 rfl rfl) (by decide) rfl rfl rfl ?_
          refine aw_goto at_16_37 ?_
          exact ih x0 x1 x2 x3 ((x4 + (v3 * v7))) ((x6 + 1)) h8 o hs4 _ (am_lk1 (am_lk2 l0 rfl rfl) rfl rfl) (am_lk1 (am_lk2 l1 rfl rfl) rfl rfl) (am_lk1 (am_lk2 l2 rfl rfl) rfl rfl) (am_lk1 (am_lk2 l3 rfl rfl) rfl rfl) (am_lk1 am_lk02 rfl rfl) am_lk0 i0
        · clear hs3
          exact Or.inr hs4
      · clear hs1
        exact Or.inr hs2
def fg_16_0 (N : Nat) (x0 : Value) (x1 : Int32) (x2 : Int32) (x3 : Int32) (h : am_H) : Option am_O := (fg_16_6 N N x0 x1 x2 x3 0 1 h)
theorem rg_16_0 {X : am_X} {d : Nat} {N : Nat} {lv : am_LV} (x0 : Value) (x1 : Int32) (x2 : Int32) (x3 : Int32) (h : am_H) (o : am_O) (l0 : lv.lookup 0 = some x0) (l1 : lv.lookup 1 = some (.int x1)) (l2 : lv.lookup 2 = some (.int x2)) (l3 : lv.lookup 3 = some (.int x3)) (i0 : am_isR x0 = true) (hs : fg_16_0 N x0 x1 x2 x3 h = some o) : am_W X (d + 1) 16 0 lv [] h (fun q => q = o) := by
  unfold fg_16_0 at hs
  refine aw_lconst (v := 0) (pc1 := 1) at_16_0 (by decide) rfl ?_
  refine aw_lstore (lv1 := am_put2 _ 4 _) (pc1 := 3) at_16_1 rfl rfl ?_
  refine aw_iconst (v := 1) (pc1 := 4) at_16_3 (by decide) rfl ?_
  refine aw_istore (lv1 := am_put1 _ 6 _) (pc1 := 6) at_16_4 rfl rfl ?_
  exact rg_16_6 N x0 x1 x2 x3 0 1 h o hs _ (am_lk1 (am_lk2 l0 rfl rfl) rfl rfl) (am_lk1 (am_lk2 l1 rfl rfl) rfl rfl) (am_lk1 (am_lk2 l2 rfl rfl) rfl rfl) (am_lk1 (am_lk2 l3 rfl rfl) rfl rfl) (am_lk1 am_lk02 rfl rfl) am_lk0 i0
def fm_16 (N : Nat) (y0 : Value) (y1 : Int32) (y2 : Int32) (y3 : Int32) (h : am_H) : Option am_O := fg_16_0 N y0 y1 y2 y3 h
theorem rm_16 {X : am_X} {d : Nat} {N : Nat} (y0 : Value) (y1 : Int32) (y2 : Int32) (y3 : Int32) (h : am_H) (o : am_O) (i0 : am_isR y0 = true) (hs : fm_16 N y0 y1 y2 y3 h = some o) : am_W X (d + 1) 16 0 (am_args 0 [y0, .int y1, .int y2, .int y3]) [] h (fun q => q = o) := by
  rw [am_args_R i0, am_args_I, am_args_I, am_args_I]
  exact rg_16_0 y0 y1 y2 y3 h o rfl rfl rfl rfl i0 hs
def fg_9_105 (N : Nat) : Nat → Value → Int32 → Int32 → Int32 → Int64 → Int32 → am_H → Option am_O
  | 0 => fun _ _ _ _ _ _ _ => none
  | K + 1 => fun x0 x3 x4 x5 x6 x8 h => (if (x3 - 1) ≤ x8 then some (.inl (some (.long x6), h)) else (if am_pOk 4 x0 h then am_cL true (fm_15 x0 x4 x8 h) (fun v3 h4 => (if am_pOk 4 x0 h4 then am_cL true (fm_16 N x0 x5 x5 (((x3 - 1) - x8)) h4) (fun v7 h8 => (fg_9_105 N K x0 x3 x4 x5 ((x6 + (v3 * v7))) ((x8 + 1)) h8)) else none)) else none))
theorem rg_9_105 {X : am_X} {d : Nat} {N : Nat} : ∀ (K : Nat) (x0 : Value) (x3 : Int32) (x4 : Int32) (x5 : Int32) (x6 : Int64) (x8 : Int32) (h : am_H) (o : am_O), fg_9_105 N K x0 x3 x4 x5 x6 x8 h = some o → ∀ lv : am_LV, (lv.lookup 0 = some x0) → (lv.lookup 3 = some (.int x3)) → (lv.lookup 4 = some (.int x4)) → (lv.lookup 5 = some (.int x5)) → (lv.lookup 6 = some (.long x6)) → (lv.lookup 8 = some (.int x8)) → (am_isR x0 = true) → am_W X (d + 2) 9 105 lv [] h (fun q => q = o) := by
  intro K
  induction K with
  | zero => intro x0 x3 x4 x5 x6 x8 h o hs; cases hs
  | succ K ih =>
    intro x0 x3 x4 x5 x6 x8 h o hs lv l0 l3 l4 l5 l6 l8 i0
    unfold fg_9_105 at hs
    refine aw_iload (pc1 := 107) at_9_105 l8 rfl ?_
    refine aw_iload_n (pc1 := 108) at_9_107 l3 rfl ?_
    refine aw_iconst (v := 1) (pc1 := 109) at_9_108 (by decide) rfl ?_
    refine aw_isub (v := (x3 - 1)) (pc1 := 110) at_9_109 rfl rfl ?_
    by_cases c1 : (x3 - 1) ≤ x8
    · rw [if_pos c1] at hs
      refine aw_icge_t at_9_110 c1 ?_
      refine aw_lload (pc1 := 149) at_9_147 l6 rfl ?_
      cases hs
      exact aw_lret at_9_149 rt_9 rfl
    · rw [if_neg c1] at hs
      refine aw_icge_f (pc1 := 113) at_9_110 c1 rfl ?_
      refine aw_lload (pc1 := 115) at_9_113 l6 rfl ?_
      refine aw_vload_n (pc1 := 116) at_9_115 l0 i0 rfl ?_
      refine aw_iload (pc1 := 118) at_9_116 l4 rfl ?_
      refine aw_iload (pc1 := 120) at_9_118 l8 rfl ?_
      obtain ⟨z2, hs1⟩ := am_ift hs
      clear hs
      refine aw_call (F := fm_15 x0 x4 x8 h) (t := true) (na := 3) (kd := 1) (as := [x0, (.int x4), (.int x8)]) at_9_120 (am_k3v kb_15) mn_15 mk_15 rfl rfl (am_ok_v mi_15 (am_hl rfl (am_ccR i0 (am_ccI (am_ccI am_cats_0))) rfl) z2) (am_hc (am_ccL am_cats_0) rfl) (fun _ => ⟨rfl, hh_9⟩) (fun o1 hz9 => rm_15 x0 x4 x8 h o1 i0 hz9) ?_
      rcases am_cL_s hs1 with ⟨v3, h4, f5, hs2⟩ | hs2
      · clear hs1
        refine Or.inl ⟨_, _, f5, ?_⟩
        show am_W X _ 9 123 _ [(.long v3), (.long x6)] h4 _
        refine aw_vload_n (pc1 := 124) at_9_123 l0 i0 rfl ?_
        refine aw_iload (pc1 := 126) at_9_124 l5 rfl ?_
        refine aw_iload (pc1 := 128) at_9_126 l5 rfl ?_
        refine aw_iload_n (pc1 := 129) at_9_128 l3 rfl ?_
        refine aw_iconst (v := 1) (pc1 := 130) at_9_129 (by decide) rfl ?_
        refine aw_isub (v := (x3 - 1)) (pc1 := 131) at_9_130 rfl rfl ?_
        refine aw_iload (pc1 := 133) at_9_131 l8 rfl ?_
        refine aw_isub (v := ((x3 - 1) - x8)) (pc1 := 134) at_9_133 rfl rfl ?_
        obtain ⟨z6, hs3⟩ := am_ift hs2
        clear hs2
        refine aw_call (F := fm_16 N x0 x5 x5 (((x3 - 1) - x8)) h4) (t := true) (na := 4) (kd := 1) (as := [x0, (.int x5), (.int x5), (.int ((x3 - 1) - x8))]) at_9_134 (am_k3v kb_16) mn_16 mk_16 rfl rfl (am_ok_v mi_16 (am_hl rfl (am_ccR i0 (am_ccI (am_ccI (am_ccI am_cats_0)))) rfl) z6) (am_hc (am_ccL (am_ccL am_cats_0)) rfl) (fun _ => ⟨rfl, hh_9⟩) (fun o1 hz9 => rm_16 x0 x5 x5 (((x3 - 1) - x8)) h4 o1 i0 hz9) ?_
        rcases am_cL_s hs3 with ⟨v7, h8, f9, hs4⟩ | hs4
        · clear hs3
          refine Or.inl ⟨_, _, f9, ?_⟩
          show am_W X _ 9 137 _ [(.long v7), (.long v3), (.long x6)] h8 _
          refine aw_lmul (v := (v3 * v7)) (pc1 := 138) at_9_137 rfl rfl ?_
          refine aw_ladd (v := (x6 + (v3 * v7))) (pc1 := 139) at_9_138 rfl rfl ?_
          refine aw_lstore (lv1 := am_put2 _ 6 _) (pc1 := 141) at_9_139 rfl rfl ?_
          refine aw_iinc (v := (x8 + 1)) (c := 1) (lv1 := am_put1 _ 8 _) (pc1 := 144) at_9_141 (am_lk2 l8 rfl rfl) (by decide) rfl rfl rfl ?_
          refine aw_goto at_9_144 ?_
          exact ih x0 x3 x4 x5 ((x6 + (v3 * v7))) ((x8 + 1)) h8 o hs4 _ (am_lk1 (am_lk2 l0 rfl rfl) rfl rfl) (am_lk1 (am_lk2 l3 rfl rfl) rfl rfl) (am_lk1 (am_lk2 l4 rfl rfl) rfl rfl) (am_lk1 (am_lk2 l5 rfl rfl) rfl rfl) (am_lk1 am_lk02 rfl rfl) am_lk0 i0
        · clear hs3
          exact Or.inr hs4
      · clear hs1
        exact Or.inr hs2
def fg_9_76 (N : Nat) (s0 : Int64) (h : am_H) : Option am_O := some (.inl (some (.long s0), h))
theorem rg_9_76 {X : am_X} {d : Nat} {N : Nat} {lv : am_LV} (s0 : Int64) (h : am_H) (o : am_O) (hs : fg_9_76 N s0 h = some o) : am_W X (d + 2) 9 76 lv [(.long s0)] h (fun q => q = o) := by
  unfold fg_9_76 at hs
  cases hs
  exact aw_lret at_9_76 rt_9 rfl
def fg_9_0 (N : Nat) (x0 : Value) (x1 : Int32) (x2 : Int32) (x3 : Int32) (h : am_H) : Option am_O := am_cI false (fm_10 x1 x2 h) (fun v1 h2 => (if ¬ v1 = 0 then am_cI false (fm_12 x1 x2 0 h2) (fun v5 h6 => am_cI false (fm_12 x1 x2 1 h6) (fun v8 h9 => am_cI false (fm_14 x2 h9) (fun v11 h12 => (if v11 = 0 then (if x3 ≤ 1 then (if ¬ x2 = 0 then (fg_9_76 N 1 h12) else (fg_9_76 N 10 h12)) else (fg_9_76 N 0 h12)) else (if v11 = 1 then (if am_pOk 4 x0 h12 then am_cL true (fm_15 x0 v5 ((x3 - 1)) h12) (fun v19 h20 => some (.inl (some (.long v19), h20))) else none) else (if v11 = 2 then (if am_pOk 4 x0 h12 then am_cL true (fm_16 N x0 v5 v8 ((x3 - 1)) h12) (fun v24 h25 => some (.inl (some (.long v24), h25))) else none) else (fg_9_105 N N x0 x3 v5 v8 0 1 h12))))))) else some (.inl (some (.long 0), h2))))
theorem rg_9_0 {X : am_X} {d : Nat} {N : Nat} {lv : am_LV} (x0 : Value) (x1 : Int32) (x2 : Int32) (x3 : Int32) (h : am_H) (o : am_O) (l0 : lv.lookup 0 = some x0) (l1 : lv.lookup 1 = some (.int x1)) (l2 : lv.lookup 2 = some (.int x2)) (l3 : lv.lookup 3 = some (.int x3)) (i0 : am_isR x0 = true) (hs : fg_9_0 N x0 x1 x2 x3 h = some o) : am_W X (d + 2) 9 0 lv [] h (fun q => q = o) := by
  unfold fg_9_0 at hs
  refine aw_iload_n (pc1 := 1) at_9_0 l1 rfl ?_
  refine aw_iload_n (pc1 := 2) at_9_1 l2 rfl ?_
  refine aw_call (F := fm_10 x1 x2 h) (t := false) (na := 2) (kd := 0) (as := [(.int x1), (.int x2)]) at_9_2 (am_k3s kb_10) mn_10 mk_10 rfl rfl (am_ok_s mi_10 (am_hl rfl (am_ccI (am_ccI am_cats_0)) rfl)) (am_hc am_cats_0 rfl) (fun hz9 => by cases hz9) (fun o1 hz9 => rm_10 x1 x2 h o1  hz9) ?_
  rcases am_cI_s hs with ⟨v1, h2, f3, hs1⟩ | hs1
  · clear hs
    refine Or.inl ⟨_, _, f3, ?_⟩
    show am_W X _ 9 5 _ [(.int v1)] h2 _
    by_cases c4 : ¬ v1 = 0
    · rw [if_pos c4] at hs1
      refine aw_ifne_t at_9_5 c4 ?_
      refine aw_iload_n (pc1 := 11) at_9_10 l1 rfl ?_
      refine aw_iload_n (pc1 := 12) at_9_11 l2 rfl ?_
      refine aw_iconst (v := 0) (pc1 := 13) at_9_12 (by decide) rfl ?_
      refine aw_call (F := fm_12 x1 x2 0 h2) (t := false) (na := 3) (kd := 0) (as := [(.int x1), (.int x2), (.int 0)]) at_9_13 (am_k3s kb_12) mn_12 mk_12 rfl rfl (am_ok_s mi_12 (am_hl rfl (am_ccI (am_ccI (am_ccI am_cats_0))) rfl)) (am_hc am_cats_0 rfl) (fun hz9 => by cases hz9) (fun o1 hz9 => rm_12 x1 x2 0 h2 o1  hz9) ?_
      rcases am_cI_s hs1 with ⟨v5, h6, f7, hs2⟩ | hs2
      · clear hs1
        refine Or.inl ⟨_, _, f7, ?_⟩
        show am_W X _ 9 16 _ [(.int v5)] h6 _
        refine aw_istore (lv1 := am_put1 _ 4 _) (pc1 := 18) at_9_16 rfl rfl ?_
        refine aw_iload_n (pc1 := 19) at_9_18 (am_lk1 l1 rfl rfl) rfl ?_
        refine aw_iload_n (pc1 := 20) at_9_19 (am_lk1 l2 rfl rfl) rfl ?_
        refine aw_iconst (v := 1) (pc1 := 21) at_9_20 (by decide) rfl ?_
        refine aw_call (F := fm_12 x1 x2 1 h6) (t := false) (na := 3) (kd := 0) (as := [(.int x1), (.int x2), (.int 1)]) at_9_21 (am_k3s kb_12) mn_12 mk_12 rfl rfl (am_ok_s mi_12 (am_hl rfl (am_ccI (am_ccI (am_ccI am_cats_0))) rfl)) (am_hc am_cats_0 rfl) (fun hz9 => by cases hz9) (fun o1 hz9 => rm_12 x1 x2 1 h6 o1  hz9) ?_
        rcases am_cI_s hs2 with ⟨v8, h9, f10, hs3⟩ | hs3
        · clear hs2
          refine Or.inl ⟨_, _, f10, ?_⟩
          show am_W X _ 9 24 _ [(.int v8)] h9 _
          refine aw_istore (lv1 := am_put1 _ 5 _) (pc1 := 26) at_9_24 rfl rfl ?_
          refine aw_iload_n (pc1 := 27) at_9_26 (am_lk1 (am_lk1 l2 rfl rfl) rfl rfl) rfl ?_
          refine aw_call (F := fm_14 x2 h9) (t := false) (na := 1) (kd := 0) (as := [(.int x2)]) at_9_27 (am_k3s kb_14) mn_14 mk_14 rfl rfl (am_ok_s mi_14 (am_hl rfl (am_ccI am_cats_0) rfl)) (am_hc am_cats_0 rfl) (fun hz9 => by cases hz9) (fun o1 hz9 => rm_14 x2 h9 o1  hz9) ?_
          rcases am_cI_s hs3 with ⟨v11, h12, f13, hs4⟩ | hs4
          · clear hs3
            refine Or.inl ⟨_, _, f13, ?_⟩
            show am_W X _ 9 30 _ [(.int v11)] h12 _
            by_cases c14 : v11 = 0
            · rw [if_pos c14] at hs4
              refine aw_tsw (t := 56) at_9_30 (by rw [c14]; rfl) ?_
              refine aw_iload_n (pc1 := 57) at_9_56 (am_lk1 (am_lk1 l3 rfl rfl) rfl rfl) rfl ?_
              refine aw_iconst (v := 1) (pc1 := 58) at_9_57 (by decide) rfl ?_
              by_cases c15 : x3 ≤ 1
              · rw [if_pos c15] at hs4
                refine aw_icle_t at_9_58 c15 ?_
                refine aw_iload_n (pc1 := 66) at_9_65 (am_lk1 (am_lk1 l2 rfl rfl) rfl rfl) rfl ?_
                by_cases c16 : ¬ x2 = 0
                · rw [if_pos c16] at hs4
                  refine aw_ifne_t at_9_66 c16 ?_
                  refine aw_lconst (v := 1) (pc1 := 76) at_9_75 (by decide) rfl ?_
                  exact rg_9_76 1 h12 o   hs4
                · rw [if_neg c16] at hs4
                  refine aw_ifne_f (pc1 := 69) at_9_66 c16 rfl ?_
                  refine aw_ldc2 (v := 10) (pc1 := 72) at_9_69 rfl rfl ?_
                  refine aw_goto at_9_72 ?_
                  exact rg_9_76 10 h12 o   hs4
              · rw [if_neg c15] at hs4
                refine aw_icle_f (pc1 := 61) at_9_58 c15 rfl ?_
                refine aw_lconst (v := 0) (pc1 := 62) at_9_61 (by decide) rfl ?_
                refine aw_goto at_9_62 ?_
                exact rg_9_76 0 h12 o   hs4
            · rw [if_neg c14] at hs4
              by_cases c17 : v11 = 1
              · rw [if_pos c17] at hs4
                refine aw_tsw (t := 77) at_9_30 (by rw [c17]; rfl) ?_
                refine aw_vload_n (pc1 := 78) at_9_77 (am_lk1 (am_lk1 l0 rfl rfl) rfl rfl) i0 rfl ?_
                refine aw_iload (pc1 := 80) at_9_78 (am_lk1 am_lk0 rfl rfl) rfl ?_
                refine aw_iload_n (pc1 := 81) at_9_80 (am_lk1 (am_lk1 l3 rfl rfl) rfl rfl) rfl ?_
                refine aw_iconst (v := 1) (pc1 := 82) at_9_81 (by decide) rfl ?_
                refine aw_isub (v := (x3 - 1)) (pc1 := 83) at_9_82 rfl rfl ?_
                obtain ⟨z18, hs5⟩ := am_ift hs4
                clear hs4
                refine aw_call (F := fm_15 x0 v5 ((x3 - 1)) h12) (t := true) (na := 3) (kd := 1) (as := [x0, (.int v5), (.int (x3 - 1))]) at_9_83 (am_k3v kb_15) mn_15 mk_15 rfl rfl (am_ok_v mi_15 (am_hl rfl (am_ccR i0 (am_ccI (am_ccI am_cats_0))) rfl) z18) (am_hc am_cats_0 rfl) (fun _ => ⟨rfl, hh_9⟩) (fun o1 hz9 => rm_15 x0 v5 ((x3 - 1)) h12 o1 i0 hz9) ?_
                rcases am_cL_s hs5 with ⟨v19, h20, f21, hs6⟩ | hs6
                · clear hs5
                  refine Or.inl ⟨_, _, f21, ?_⟩
                  show am_W X _ 9 86 _ [(.long v19)] h20 _
                  cases hs6
                  exact aw_lret at_9_86 rt_9 rfl
                · clear hs5
                  exact Or.inr hs6
              · rw [if_neg c17] at hs4
                by_cases c22 : v11 = 2
                · rw [if_pos c22] at hs4
                  refine aw_tsw (t := 87) at_9_30 (by rw [c22]; rfl) ?_
                  refine aw_vload_n (pc1 := 88) at_9_87 (am_lk1 (am_lk1 l0 rfl rfl) rfl rfl) i0 rfl ?_
                  refine aw_iload (pc1 := 90) at_9_88 (am_lk1 am_lk0 rfl rfl) rfl ?_
                  refine aw_iload (pc1 := 92) at_9_90 am_lk0 rfl ?_
                  refine aw_iload_n (pc1 := 93) at_9_92 (am_lk1 (am_lk1 l3 rfl rfl) rfl rfl) rfl ?_
                  refine aw_iconst (v := 1) (pc1 := 94) at_9_93 (by decide) rfl ?_
                  refine aw_isub (v := (x3 - 1)) (pc1 := 95) at_9_94 rfl rfl ?_
                  obtain ⟨z23, hs7⟩ := am_ift hs4
                  clear hs4
                  refine aw_call (F := fm_16 N x0 v5 v8 ((x3 - 1)) h12) (t := true) (na := 4) (kd := 1) (as := [x0, (.int v5), (.int v8), (.int (x3 - 1))]) at_9_95 (am_k3v kb_16) mn_16 mk_16 rfl rfl (am_ok_v mi_16 (am_hl rfl (am_ccR i0 (am_ccI (am_ccI (am_ccI am_cats_0)))) rfl) z23) (am_hc am_cats_0 rfl) (fun _ => ⟨rfl, hh_9⟩) (fun o1 hz9 => rm_16 x0 v5 v8 ((x3 - 1)) h12 o1 i0 hz9) ?_
                  rcases am_cL_s hs7 with ⟨v24, h25, f26, hs8⟩ | hs8
                  · clear hs7
                    refine Or.inl ⟨_, _, f26, ?_⟩
                    show am_W X _ 9 98 _ [(.long v24)] h25 _
                    cases hs8
                    exact aw_lret at_9_98 rt_9 rfl
                  · clear hs7
                    exact Or.inr hs8
                · rw [if_neg c22] at hs4
                  have tc14 : v11.toInt ≠ 0 := fun e9 => c14 (Int32.toInt_inj.mp e9)
                  have tc17 : v11.toInt ≠ 1 := fun e9 => c17 (Int32.toInt_inj.mp e9)
                  have tc22 : v11.toInt ≠ 2 := fun e9 => c22 (Int32.toInt_inj.mp e9)
                  refine aw_tsw (t := 99) at_9_30 (am_tsw_d (by omega)) ?_
                  refine aw_lconst (v := 0) (pc1 := 100) at_9_99 (by decide) rfl ?_
                  refine aw_lstore (lv1 := am_put2 _ 6 _) (pc1 := 102) at_9_100 rfl rfl ?_
                  refine aw_iconst (v := 1) (pc1 := 103) at_9_102 (by decide) rfl ?_
                  refine aw_istore (lv1 := am_put1 _ 8 _) (pc1 := 105) at_9_103 rfl rfl ?_
                  exact rg_9_105 N x0 x3 v5 v8 0 1 h12 o hs4 _ (am_lk1 (am_lk2 (am_lk1 (am_lk1 l0 rfl rfl) rfl rfl) rfl rfl) rfl rfl) (am_lk1 (am_lk2 (am_lk1 (am_lk1 l3 rfl rfl) rfl rfl) rfl rfl) rfl rfl) (am_lk1 (am_lk2 (am_lk1 am_lk0 rfl rfl) rfl rfl) rfl rfl) (am_lk1 (am_lk2 am_lk0 rfl rfl) rfl rfl) (am_lk1 am_lk02 rfl rfl) am_lk0 i0
          · clear hs3
            exact Or.inr hs4
        · clear hs2
          exact Or.inr hs3
      · clear hs1
        exact Or.inr hs2
    · rw [if_neg c4] at hs1
      refine aw_ifne_f (pc1 := 8) at_9_5 c4 rfl ?_
      refine aw_lconst (v := 0) (pc1 := 9) at_9_8 (by decide) rfl ?_
      cases hs1
      exact aw_lret at_9_9 rt_9 rfl
  · clear hs
    exact Or.inr hs1
def fm_9 (N : Nat) (y0 : Value) (y1 : Int32) (y2 : Int32) (y3 : Int32) (h : am_H) : Option am_O := fg_9_0 N y0 y1 y2 y3 h
theorem rm_9 {X : am_X} {d : Nat} {N : Nat} (y0 : Value) (y1 : Int32) (y2 : Int32) (y3 : Int32) (h : am_H) (o : am_O) (i0 : am_isR y0 = true) (hs : fm_9 N y0 y1 y2 y3 h = some o) : am_W X (d + 2) 9 0 (am_args 0 [y0, .int y1, .int y2, .int y3]) [] h (fun q => q = o) := by
  rw [am_args_R i0, am_args_I, am_args_I, am_args_I]
  exact rg_9_0 y0 y1 y2 y3 h o rfl rfl rfl rfl i0 hs
def fg_8_79 (N : Nat) (rec_71 : Value → Int32 → am_H → Option am_O) : Nat → Value → Int32 → Int32 → am_H → Option am_O
  | 0 => fun _ _ _ _ => none
  | K + 1 => fun x0 x1 x2 h => (if 126 ≤ x2 then (rec_71 x0 ((x1 + 1)) h) else (if am_pOk 4 x0 h then am_cL true (fm_9 N x0 ((x2 / 21)) ((x2 - x2 / 21 * 21)) x1 h) (fun v3 h4 => ((am_vR (am_pG 1024 x0 h4)).bind fun v6 => ((am_pSL v6 ((x2 * 13) + x1) v3 h4).bind fun h8 => ((am_vR (am_pG 1025 x0 h8)).bind fun v10 => ((am_pAL v10 (((x2 / 21) * 13) + x1) h8).bind fun v12 => ((am_pSL v10 (((x2 / 21) * 13) + x1) (v12 + v3) h8).bind fun h14 => (fg_8_79 N rec_71 K x0 x1 ((x2 + 1)) h14))))))) else none))
theorem rg_8_79 {X : am_X} {d : Nat} {N : Nat} {rec_71 : Value → Int32 → am_H → Option am_O} (q_71 : ∀ (x0 : Value) (x1 : Int32) (h : am_H) (o : am_O), rec_71 x0 x1 h = some o → ∀ lv : am_LV, (lv.lookup 0 = some x0) → (lv.lookup 1 = some (.int x1)) → (am_isR x0 = true) → am_W X (d + 3) 8 71 lv [] h (fun q => q = o)) : ∀ (K : Nat) (x0 : Value) (x1 : Int32) (x2 : Int32) (h : am_H) (o : am_O), fg_8_79 N rec_71 K x0 x1 x2 h = some o → ∀ lv : am_LV, (lv.lookup 0 = some x0) → (lv.lookup 1 = some (.int x1)) → (lv.lookup 2 = some (.int x2)) → (am_isR x0 = true) → am_W X (d + 3) 8 79 lv [] h (fun q => q = o) := by
  intro K
  induction K with
  | zero => intro x0 x1 x2 h o hs; cases hs
  | succ K ih =>
    intro x0 x1 x2 h o hs lv l0 l1 l2 i0
    unfold fg_8_79 at hs
    refine aw_iload_n (pc1 := 80) at_8_79 l2 rfl ?_
    refine aw_bipush (v := 126) (pc1 := 82) at_8_80 (by decide) rfl ?_
    by_cases c1 : 126 ≤ x2
    · rw [if_pos c1] at hs
      refine aw_icge_t at_8_82 c1 ?_
      refine aw_iinc (v := (x1 + 1)) (c := 1) (lv1 := am_put1 _ 1 _) (pc1 := 138) at_8_135 l1 (by decide) rfl rfl rfl ?_
      refine aw_goto at_8_138 ?_
      exact q_71 x0 ((x1 + 1)) h o hs _ (am_lk1 l0 rfl (by rw [am_isRc i0]; rfl)) am_lk0 i0
    · rw [if_neg c1] at hs
      refine aw_icge_f (pc1 := 85) at_8_82 c1 rfl ?_
      refine aw_vload_n (pc1 := 86) at_8_85 l0 i0 rfl ?_
      refine aw_iload_n (pc1 := 87) at_8_86 l2 rfl ?_
      refine aw_bipush (v := 21) (pc1 := 89) at_8_87 (by decide) rfl ?_
      refine aw_idiv (v := (x2 / 21)) (pc1 := 90) at_8_89 (by decide) rfl rfl ?_
      refine aw_iload_n (pc1 := 91) at_8_90 l2 rfl ?_
      refine aw_bipush (v := 21) (pc1 := 93) at_8_91 (by decide) rfl ?_
      refine aw_irem (v := (x2 - x2 / 21 * 21)) (pc1 := 94) at_8_93 (by decide) rfl rfl ?_
      refine aw_iload_n (pc1 := 95) at_8_94 l1 rfl ?_
      obtain ⟨z2, hs1⟩ := am_ift hs
      clear hs
      refine aw_call (F := fm_9 N x0 ((x2 / 21)) ((x2 - x2 / 21 * 21)) x1 h) (t := true) (na := 4) (kd := 1) (as := [x0, (.int (x2 / 21)), (.int (x2 - x2 / 21 * 21)), (.int x1)]) at_8_95 (am_k3v kb_9) mn_9 mk_9 rfl rfl (am_ok_v mi_9 (am_hl rfl (am_ccR i0 (am_ccI (am_ccI (am_ccI am_cats_0)))) rfl) z2) (am_hc am_cats_0 rfl) (fun _ => ⟨rfl, hh_8⟩) (fun o1 hz9 => rm_9 x0 ((x2 / 21)) ((x2 - x2 / 21 * 21)) x1 h o1 i0 hz9) ?_
      rcases am_cL_s hs1 with ⟨v3, h4, f5, hs2⟩ | hs2
      · clear hs1
        refine Or.inl ⟨_, _, f5, ?_⟩
        show am_W X _ 8 98 _ [(.long v3)] h4 _
        refine aw_lstore_n (lv1 := am_put2 _ 3 _) (pc1 := 99) at_8_98 rfl rfl ?_
        refine aw_vload_n (pc1 := 100) at_8_99 (am_lk2 l0 rfl rfl) i0 rfl ?_
        obtain ⟨v6, e7, hs3⟩ := am_bind hs2
        clear hs2
        refine aw_pG (pc1 := 103) at_8_100 (am_vR_s e7).1 rfl ?_
        refine aw_iload_n (pc1 := 104) at_8_103 (am_lk2 l2 rfl rfl) rfl ?_
        refine aw_bipush (v := 13) (pc1 := 106) at_8_104 (by decide) rfl ?_
        refine aw_imul (v := (x2 * 13)) (pc1 := 107) at_8_106 rfl rfl ?_
        refine aw_iload_n (pc1 := 108) at_8_107 (am_lk2 l1 rfl rfl) rfl ?_
        refine aw_iadd (v := ((x2 * 13) + x1)) (pc1 := 109) at_8_108 rfl rfl ?_
        refine aw_lload_n (pc1 := 110) at_8_109 am_lk02 rfl ?_
        obtain ⟨h8, e9, hs4⟩ := am_bind hs3
        clear hs3
        refine aw_pSL (pc1 := 111) at_8_110 e9 rfl ?_
        refine aw_vload_n (pc1 := 112) at_8_111 (am_lk2 l0 rfl rfl) i0 rfl ?_
        obtain ⟨v10, e11, hs5⟩ := am_bind hs4
        clear hs4
        refine aw_pG (pc1 := 115) at_8_112 (am_vR_s e11).1 rfl ?_
        refine aw_iload_n (pc1 := 116) at_8_115 (am_lk2 l2 rfl rfl) rfl ?_
        refine aw_bipush (v := 21) (pc1 := 118) at_8_116 (by decide) rfl ?_
        refine aw_idiv (v := (x2 / 21)) (pc1 := 119) at_8_118 (by decide) rfl rfl ?_
        refine aw_bipush (v := 13) (pc1 := 121) at_8_119 (by decide) rfl ?_
        refine aw_imul (v := ((x2 / 21) * 13)) (pc1 := 122) at_8_121 rfl rfl ?_
        refine aw_iload_n (pc1 := 123) at_8_122 (am_lk2 l1 rfl rfl) rfl ?_
        refine aw_iadd (v := (((x2 / 21) * 13) + x1)) (pc1 := 124) at_8_123 rfl rfl ?_
        refine aw_vdup2 (pc1 := 125) at_8_124 (am_vR_s e11).2 rfl ?_
        obtain ⟨v12, e13, hs6⟩ := am_bind hs5
        clear hs5
        refine aw_pAL (pc1 := 126) at_8_125 e13 rfl ?_
        refine aw_lload_n (pc1 := 127) at_8_126 am_lk02 rfl ?_
        refine aw_ladd (v := (v12 + v3)) (pc1 := 128) at_8_127 rfl rfl ?_
        obtain ⟨h14, e15, hs7⟩ := am_bind hs6
        clear hs6
        refine aw_pSL (pc1 := 129) at_8_128 e15 rfl ?_
        refine aw_iinc (v := (x2 + 1)) (c := 1) (lv1 := am_put1 _ 2 _) (pc1 := 132) at_8_129 (am_lk2 l2 rfl rfl) (by decide) rfl rfl rfl ?_
        refine aw_goto at_8_132 ?_
        exact ih x0 x1 ((x2 + 1)) h14 o hs7 _ (am_lk1 (am_lk2 l0 rfl rfl) rfl rfl) (am_lk1 (am_lk2 l1 rfl rfl) rfl rfl) am_lk0 i0
      · clear hs1
        exact Or.inr hs2
def fg_8_71 (N : Nat) : Nat → Value → Int32 → am_H → Option am_O
  | 0 => fun _ _ _ => none
  | K + 1 => fun x0 x1 h => (if 13 ≤ x1 then some (.inl (none, h)) else (fg_8_79 N (fg_8_71 N K) N x0 x1 0 h))
theorem rg_8_71 {X : am_X} {d : Nat} {N : Nat} : ∀ (K : Nat) (x0 : Value) (x1 : Int32) (h : am_H) (o : am_O), fg_8_71 N K x0 x1 h = some o → ∀ lv : am_LV, (lv.lookup 0 = some x0) → (lv.lookup 1 = some (.int x1)) → (am_isR x0 = true) → am_W X (d + 3) 8 71 lv [] h (fun q => q = o) := by
  intro K
  induction K with
  | zero => intro x0 x1 h o hs; cases hs
  | succ K ih =>
    intro x0 x1 h o hs lv l0 l1 i0
    unfold fg_8_71 at hs
    refine aw_iload_n (pc1 := 72) at_8_71 l1 rfl ?_
    refine aw_bipush (v := 13) (pc1 := 74) at_8_72 (by decide) rfl ?_
    by_cases c1 : 13 ≤ x1
    · rw [if_pos c1] at hs
      refine aw_icge_t at_8_74 c1 ?_
      cases hs
      exact aw_vret at_8_141 rt_8 rfl
    · rw [if_neg c1] at hs
      refine aw_icge_f (pc1 := 77) at_8_74 c1 rfl ?_
      refine aw_iconst (v := 0) (pc1 := 78) at_8_77 (by decide) rfl ?_
      refine aw_istore_n (lv1 := am_put1 _ 2 _) (pc1 := 79) at_8_78 rfl rfl ?_
      exact rg_8_79 (fun z0 z1 h o hs => ih z0 z1 h o hs) N x0 x1 0 h o hs _ (am_lk1 l0 rfl rfl) (am_lk1 l1 rfl rfl) am_lk0 i0
def fg_8_0 (N : Nat) (x0 : Value) (h : am_H) : Option am_O := (if am_pRf x0 then ((am_pNew 1 1638 h).bind fun h2 => ((am_pP 1024 x0 (Value.ref h.length) h2).bind fun h4 => ((am_pNew 1 78 h4).bind fun h6 => ((am_pP 1025 x0 (Value.ref h4.length) h6).bind fun h8 => ((am_pObj 7 h8).bind fun h10 => (if am_pOk 7 (Value.ref h8.length) h10 then am_cV false (fm_3 ((Value.ref h8.length)) h10) (fun h14 => ((am_pP 1026 x0 (Value.ref h8.length) h14).bind fun h16 => ((am_pP 1027 x0 Value.null h16).bind fun h18 => ((am_pNew 6 24 h18).bind fun h20 => ((am_pP 1028 x0 (Value.ref h18.length) h20).bind fun h22 => ((am_pNew 0 24 h22).bind fun h24 => ((am_pP 1029 x0 (Value.ref h22.length) h24).bind fun h26 => ((am_pP 1030 x0 (.int 0) h26).bind fun h28 => ((am_pP 1031 x0 Value.null h28).bind fun h30 => ((am_pP 1032 x0 (.int 0) h30).bind fun h32 => (fg_8_71 N N x0 1 h32))))))))))) else none)))))) else none)
theorem rg_8_0 {X : am_X} {d : Nat} {N : Nat} {lv : am_LV} (x0 : Value) (h : am_H) (o : am_O) (l0 : lv.lookup 0 = some x0) (i0 : am_isR x0 = true) (hs : fg_8_0 N x0 h = some o) : am_W X (d + 3) 8 0 lv [] h (fun q => q = o) := by
  unfold fg_8_0 at hs
  refine aw_vload_n (pc1 := 1) at_8_0 l0 i0 rfl ?_
  obtain ⟨z1, hs1⟩ := am_ift hs
  clear hs
  refine aw_obi at_8_1 rfl z1 (am_hc am_cats_0 rfl) ?_
  refine aw_vload_n (pc1 := 5) at_8_4 l0 i0 rfl ?_
  refine aw_sipush (v := 1638) (pc1 := 8) at_8_5 (by decide) rfl ?_
  obtain ⟨h2, e3, hs2⟩ := am_bind hs1
  clear hs1
  refine aw_pNew (pc1 := 10) at_8_8 e3 rfl ?_
  obtain ⟨h4, e5, hs3⟩ := am_bind hs2
  clear hs2
  refine aw_pP (pc1 := 13) at_8_10 e5 rfl ?_
  refine aw_vload_n (pc1 := 14) at_8_13 l0 i0 rfl ?_
  refine aw_bipush (v := 78) (pc1 := 16) at_8_14 (by decide) rfl ?_
  obtain ⟨h6, e7, hs4⟩ := am_bind hs3
  clear hs3
  refine aw_pNew (pc1 := 18) at_8_16 e7 rfl ?_
  obtain ⟨h8, e9, hs5⟩ := am_bind hs4
  clear hs4
  refine aw_pP (pc1 := 21) at_8_18 e9 rfl ?_
  refine aw_vload_n (pc1 := 22) at_8_21 l0 i0 rfl ?_
  obtain ⟨h10, e11, hs6⟩ := am_bind hs5
  clear hs5
  refine aw_pObj (pc1 := 25) at_8_22 rfl rfl e11 rfl ?_
  refine aw_vdup (pc1 := 26) at_8_25 rfl rfl ?_
  obtain ⟨z12, hs7⟩ := am_ift hs6
  clear hs6
  refine aw_call (F := fm_3 ((Value.ref h8.length)) h10) (t := false) (na := 1) (kd := 2) (as := [(Value.ref h8.length)]) at_8_26 (am_k3p kb_3) mn_3 mk_3 rfl rfl (am_ok_v mi_3 (am_hl rfl (am_ccR rfl am_cats_0) rfl) z12) (am_hc (am_ccR rfl (am_ccR i0 am_cats_0)) rfl) (fun hz9 => by cases hz9) (fun o1 hz9 => rm_3 ((Value.ref h8.length)) h10 o1 rfl hz9) ?_
  rcases am_cV_s hs7 with ⟨h14, f15, hs8⟩ | hs8
  · clear hs7
    refine Or.inl ⟨_, _, f15, ?_⟩
    show am_W X _ 8 29 _ [(Value.ref h8.length), x0] h14 _
    obtain ⟨h16, e17, hs9⟩ := am_bind hs8
    clear hs8
    refine aw_pP (pc1 := 32) at_8_29 e17 rfl ?_
    refine aw_vload_n (pc1 := 33) at_8_32 l0 i0 rfl ?_
    refine aw_null (pc1 := 34) at_8_33 rfl ?_
    obtain ⟨h18, e19, hs10⟩ := am_bind hs9
    clear hs9
    refine aw_pP (pc1 := 37) at_8_34 e19 rfl ?_
    refine aw_vload_n (pc1 := 38) at_8_37 l0 i0 rfl ?_
    refine aw_bipush (v := 24) (pc1 := 40) at_8_38 (by decide) rfl ?_
    obtain ⟨h20, e21, hs11⟩ := am_bind hs10
    clear hs10
    refine aw_pNewR (pc1 := 43) at_8_40 rfl e21 rfl ?_
    obtain ⟨h22, e23, hs12⟩ := am_bind hs11
    clear hs11
    refine aw_pP (pc1 := 46) at_8_43 e23 rfl ?_
    refine aw_vload_n (pc1 := 47) at_8_46 l0 i0 rfl ?_
    refine aw_bipush (v := 24) (pc1 := 49) at_8_47 (by decide) rfl ?_
    obtain ⟨h24, e25, hs13⟩ := am_bind hs12
    clear hs12
    refine aw_pNew (pc1 := 51) at_8_49 e25 rfl ?_
    obtain ⟨h26, e27, hs14⟩ := am_bind hs13
    clear hs13
    refine aw_pP (pc1 := 54) at_8_51 e27 rfl ?_
    refine aw_vload_n (pc1 := 55) at_8_54 l0 i0 rfl ?_
    refine aw_iconst (v := 0) (pc1 := 56) at_8_55 (by decide) rfl ?_
    obtain ⟨h28, e29, hs15⟩ := am_bind hs14
    clear hs14
    refine aw_pP (pc1 := 59) at_8_56 e29 rfl ?_
    refine aw_vload_n (pc1 := 60) at_8_59 l0 i0 rfl ?_
    refine aw_null (pc1 := 61) at_8_60 rfl ?_
    obtain ⟨h30, e31, hs16⟩ := am_bind hs15
    clear hs15
    refine aw_pP (pc1 := 64) at_8_61 e31 rfl ?_
    refine aw_vload_n (pc1 := 65) at_8_64 l0 i0 rfl ?_
    refine aw_iconst (v := 0) (pc1 := 66) at_8_65 (by decide) rfl ?_
    obtain ⟨h32, e33, hs17⟩ := am_bind hs16
    clear hs16
    refine aw_pP (pc1 := 69) at_8_66 e33 rfl ?_
    refine aw_iconst (v := 1) (pc1 := 70) at_8_69 (by decide) rfl ?_
    refine aw_istore_n (lv1 := am_put1 _ 1 _) (pc1 := 71) at_8_70 rfl rfl ?_
    exact rg_8_71 N x0 1 h32 o hs17 _ (am_lk1 l0 rfl (by rw [am_isRc i0]; rfl)) am_lk0 i0
  · clear hs7
    exact Or.inr hs8
def fm_8 (N : Nat) (y0 : Value) (h : am_H) : Option am_O := fg_8_0 N y0 h
theorem rm_8 {X : am_X} {d : Nat} {N : Nat} (y0 : Value) (h : am_H) (o : am_O) (i0 : am_isR y0 = true) (hs : fm_8 N y0 h = some o) : am_W X (d + 3) 8 0 (am_args 0 [y0]) [] h (fun q => q = o) := by
  rw [am_args_R i0]
  exact rg_8_0 y0 h o rfl i0 hs
def fg_18_64 (s0 : Value) (s1 : Int32) (h : am_H) : Option am_O := ((am_pNew 0 s1 h).bind fun h1 => ((am_pP 768 s0 (Value.ref h.length) h1).bind fun h3 => some (.inl (none, h3))))
theorem rg_18_64 {X : am_X} {d : Nat} {lv : am_LV} (s0 : Value) (s1 : Int32) (h : am_H) (o : am_O) (j0 : am_isR s0 = true) (hs : fg_18_64 s0 s1 h = some o) : am_W X (d) 18 64 lv [(.int s1), s0] h (fun q => q = o) := by
  unfold fg_18_64 at hs
  obtain ⟨h1, e2, hs1⟩ := am_bind hs
  clear hs
  refine aw_pNew (pc1 := 66) at_18_64 e2 rfl ?_
  obtain ⟨h3, e4, hs2⟩ := am_bind hs1
  clear hs1
  refine aw_pP (pc1 := 69) at_18_66 e4 rfl ?_
  cases hs2
  exact aw_vret at_18_69 rt_18 rfl
def fg_18_0 (x0 : Value) (x1 : Int32) (h : am_H) : Option am_O := (if am_pRf x0 then ((am_pP 769 x0 (.int 0) h).bind fun h2 => ((am_pP 770 x0 (.int 0) h2).bind fun h4 => ((am_pP 771 x0 (.int 0) h4).bind fun h6 => ((am_pP 772 x0 (.int 2) h6).bind fun h8 => ((am_pP 773 x0 (.int 0) h8).bind fun h10 => ((am_pP 774 x0 (.int (-1)) h10).bind fun h12 => ((am_pP 775 x0 (.int (-1)) h12).bind fun h14 => ((am_pP 776 x0 (.int (-1)) h14).bind fun h16 => ((am_pP 777 x0 (.int (-1)) h16).bind fun h18 => ((am_pP 778 x0 (.long 0) h18).bind fun h20 => (if x1 ≤ 0 then (fg_18_64 x0 0 h20) else (fg_18_64 x0 x1 h20)))))))))))) else none)
theorem rg_18_0 {X : am_X} {d : Nat} {lv : am_LV} (x0 : Value) (x1 : Int32) (h : am_H) (o : am_O) (l0 : lv.lookup 0 = some x0) (l1 : lv.lookup 1 = some (.int x1)) (i0 : am_isR x0 = true) (hs : fg_18_0 x0 x1 h = some o) : am_W X (d) 18 0 lv [] h (fun q => q = o) := by
  unfold fg_18_0 at hs
  refine aw_vload_n (pc1 := 1) at_18_0 l0 i0 rfl ?_
  obtain ⟨z1, hs1⟩ := am_ift hs
  clear hs
  refine aw_obi at_18_1 rfl z1 (am_hc am_cats_0 rfl) ?_
  refine aw_vload_n (pc1 := 5) at_18_4 l0 i0 rfl ?_
  refine aw_iconst (v := 0) (pc1 := 6) at_18_5 (by decide) rfl ?_
  obtain ⟨h2, e3, hs2⟩ := am_bind hs1
  clear hs1
  refine aw_pP (pc1 := 9) at_18_6 e3 rfl ?_
  refine aw_vload_n (pc1 := 10) at_18_9 l0 i0 rfl ?_
  refine aw_iconst (v := 0) (pc1 := 11) at_18_10 (by decide) rfl ?_
  obtain ⟨h4, e5, hs3⟩ := am_bind hs2
  clear hs2
  refine aw_pP (pc1 := 14) at_18_11 e5 rfl ?_
  refine aw_vload_n (pc1 := 15) at_18_14 l0 i0 rfl ?_
  refine aw_iconst (v := 0) (pc1 := 16) at_18_15 (by decide) rfl ?_
  obtain ⟨h6, e7, hs4⟩ := am_bind hs3
  clear hs3
  refine aw_pP (pc1 := 19) at_18_16 e7 rfl ?_
  refine aw_vload_n (pc1 := 20) at_18_19 l0 i0 rfl ?_
  refine aw_iconst (v := 2) (pc1 := 21) at_18_20 (by decide) rfl ?_
  obtain ⟨h8, e9, hs5⟩ := am_bind hs4
  clear hs4
  refine aw_pP (pc1 := 24) at_18_21 e9 rfl ?_
  refine aw_vload_n (pc1 := 25) at_18_24 l0 i0 rfl ?_
  refine aw_iconst (v := 0) (pc1 := 26) at_18_25 (by decide) rfl ?_
  obtain ⟨h10, e11, hs6⟩ := am_bind hs5
  clear hs5
  refine aw_pP (pc1 := 29) at_18_26 e11 rfl ?_
  refine aw_vload_n (pc1 := 30) at_18_29 l0 i0 rfl ?_
  refine aw_iconst (v := (-1)) (pc1 := 31) at_18_30 (by decide) rfl ?_
  obtain ⟨h12, e13, hs7⟩ := am_bind hs6
  clear hs6
  refine aw_pP (pc1 := 34) at_18_31 e13 rfl ?_
  refine aw_vload_n (pc1 := 35) at_18_34 l0 i0 rfl ?_
  refine aw_iconst (v := (-1)) (pc1 := 36) at_18_35 (by decide) rfl ?_
  obtain ⟨h14, e15, hs8⟩ := am_bind hs7
  clear hs7
  refine aw_pP (pc1 := 39) at_18_36 e15 rfl ?_
  refine aw_vload_n (pc1 := 40) at_18_39 l0 i0 rfl ?_
  refine aw_iconst (v := (-1)) (pc1 := 41) at_18_40 (by decide) rfl ?_
  obtain ⟨h16, e17, hs9⟩ := am_bind hs8
  clear hs8
  refine aw_pP (pc1 := 44) at_18_41 e17 rfl ?_
  refine aw_vload_n (pc1 := 45) at_18_44 l0 i0 rfl ?_
  refine aw_iconst (v := (-1)) (pc1 := 46) at_18_45 (by decide) rfl ?_
  obtain ⟨h18, e19, hs10⟩ := am_bind hs9
  clear hs9
  refine aw_pP (pc1 := 49) at_18_46 e19 rfl ?_
  refine aw_vload_n (pc1 := 50) at_18_49 l0 i0 rfl ?_
  refine aw_lconst (v := 0) (pc1 := 51) at_18_50 (by decide) rfl ?_
  obtain ⟨h20, e21, hs11⟩ := am_bind hs10
  clear hs10
  refine aw_pP (pc1 := 54) at_18_51 e21 rfl ?_
  refine aw_vload_n (pc1 := 55) at_18_54 l0 i0 rfl ?_
  refine aw_iload_n (pc1 := 56) at_18_55 l1 rfl ?_
  by_cases c22 : x1 ≤ 0
  · rw [if_pos c22] at hs11
    refine aw_ifle_t at_18_56 c22 ?_
    refine aw_iconst (v := 0) (pc1 := 64) at_18_63 (by decide) rfl ?_
    exact rg_18_64 x0 0 h20 o  i0 hs11
  · rw [if_neg c22] at hs11
    refine aw_ifle_f (pc1 := 59) at_18_56 c22 rfl ?_
    refine aw_iload_n (pc1 := 60) at_18_59 l1 rfl ?_
    refine aw_goto at_18_60 ?_
    exact rg_18_64 x0 x1 h20 o  i0 hs11
def fm_18 (y0 : Value) (y1 : Int32) (h : am_H) : Option am_O := fg_18_0 y0 y1 h
theorem rm_18 {X : am_X} {d : Nat} (y0 : Value) (y1 : Int32) (h : am_H) (o : am_O) (i0 : am_isR y0 = true) (hs : fm_18 y0 y1 h = some o) : am_W X (d) 18 0 (am_args 0 [y0, .int y1]) [] h (fun q => q = o) := by
  rw [am_args_R i0, am_args_I]
  exact rg_18_0 y0 y1 h o rfl rfl i0 hs
def fg_32_0 (x0 : Value) (x1 : Int32) (h : am_H) : Option am_O := ((am_vI (am_pG 2817 x0 h)).bind fun v1 => (if (v1 + x1) ≤ 600 then some (.inl (none, h)) else some (.inr (1, h ++ [am_dummy]))))
theorem rg_32_0 {X : am_X} {d : Nat} {lv : am_LV} (x0 : Value) (x1 : Int32) (h : am_H) (o : am_O) (l0 : lv.lookup 0 = some x0) (l1 : lv.lookup 1 = some (.int x1)) (i0 : am_isR x0 = true) (hs : fg_32_0 x0 x1 h = some o) : am_W X (d) 32 0 lv [] h (fun q => q = o) := by
  unfold fg_32_0 at hs
  refine aw_vload_n (pc1 := 1) at_32_0 l0 i0 rfl ?_
  obtain ⟨v1, e2, hs1⟩ := am_bind hs
  clear hs
  refine aw_pG (pc1 := 4) at_32_1 (am_vI_s e2) rfl ?_
  refine aw_iload_n (pc1 := 5) at_32_4 l1 rfl ?_
  refine aw_iadd (v := (v1 + x1)) (pc1 := 6) at_32_5 rfl rfl ?_
  refine aw_sipush (v := 600) (pc1 := 9) at_32_6 (by decide) rfl ?_
  by_cases c3 : (v1 + x1) ≤ 600
  · rw [if_pos c3] at hs1
    refine aw_icle_t at_32_9 c3 ?_
    cases hs1
    exact aw_vret at_32_23 rt_32 rfl
  · rw [if_neg c3] at hs1
    refine aw_icle_f (pc1 := 12) at_32_9 c3 rfl ?_
    cases hs1
    exact aw_throw at_32_12 rfl th_32_12 (am_hc am_cats_0 rfl) rfl
def fm_32 (y0 : Value) (y1 : Int32) (h : am_H) : Option am_O := fg_32_0 y0 y1 h
theorem rm_32 {X : am_X} {d : Nat} (y0 : Value) (y1 : Int32) (h : am_H) (o : am_O) (i0 : am_isR y0 = true) (hs : fm_32 y0 y1 h = some o) : am_W X (d) 32 0 (am_args 0 [y0, .int y1]) [] h (fun q => q = o) := by
  rw [am_args_R i0, am_args_I]
  exact rg_32_0 y0 y1 h o rfl rfl i0 hs
def fg_34_26 (s0 : Value) (s1 : Int32) (h : am_H) : Option am_O := ((am_pP 772 s0 (.int s1) h).bind fun h1 => some (.inl (none, h1)))
theorem rg_34_26 {X : am_X} {d : Nat} {lv : am_LV} (s0 : Value) (s1 : Int32) (h : am_H) (o : am_O) (j0 : am_isR s0 = true) (hs : fg_34_26 s0 s1 h = some o) : am_W X (d) 34 26 lv [(.int s1), s0] h (fun q => q = o) := by
  unfold fg_34_26 at hs
  obtain ⟨h1, e2, hs1⟩ := am_bind hs
  clear hs
  refine aw_pP (pc1 := 29) at_34_26 e2 rfl ?_
  cases hs1
  exact aw_vret at_34_29 rt_34 rfl
def fg_34_0 (x0 : Value) (x1 : Int32) (x2 : Int32) (h : am_H) : Option am_O := ((am_pP 769 x0 (.int x1) h).bind fun h1 => ((am_pP 770 x0 (.int x2) h1).bind fun h3 => ((am_pP 771 x0 (.int 0) h3).bind fun h5 => (if ¬ x1 = 2 then (fg_34_26 x0 2 h5) else (fg_34_26 x0 5 h5)))))
theorem rg_34_0 {X : am_X} {d : Nat} {lv : am_LV} (x0 : Value) (x1 : Int32) (x2 : Int32) (h : am_H) (o : am_O) (l0 : lv.lookup 0 = some x0) (l1 : lv.lookup 1 = some (.int x1)) (l2 : lv.lookup 2 = some (.int x2)) (i0 : am_isR x0 = true) (hs : fg_34_0 x0 x1 x2 h = some o) : am_W X (d) 34 0 lv [] h (fun q => q = o) := by
  unfold fg_34_0 at hs
  refine aw_vload_n (pc1 := 1) at_34_0 l0 i0 rfl ?_
  refine aw_iload_n (pc1 := 2) at_34_1 l1 rfl ?_
  obtain ⟨h1, e2, hs1⟩ := am_bind hs
  clear hs
  refine aw_pP (pc1 := 5) at_34_2 e2 rfl ?_
  refine aw_vload_n (pc1 := 6) at_34_5 l0 i0 rfl ?_
  refine aw_iload_n (pc1 := 7) at_34_6 l2 rfl ?_
  obtain ⟨h3, e4, hs2⟩ := am_bind hs1
  clear hs1
  refine aw_pP (pc1 := 10) at_34_7 e4 rfl ?_
  refine aw_vload_n (pc1 := 11) at_34_10 l0 i0 rfl ?_
  refine aw_iconst (v := 0) (pc1 := 12) at_34_11 (by decide) rfl ?_
  obtain ⟨h5, e6, hs3⟩ := am_bind hs2
  clear hs2
  refine aw_pP (pc1 := 15) at_34_12 e6 rfl ?_
  refine aw_vload_n (pc1 := 16) at_34_15 l0 i0 rfl ?_
  refine aw_iload_n (pc1 := 17) at_34_16 l1 rfl ?_
  refine aw_iconst (v := 2) (pc1 := 18) at_34_17 (by decide) rfl ?_
  by_cases c7 : ¬ x1 = 2
  · rw [if_pos c7] at hs3
    refine aw_icne_t at_34_18 c7 ?_
    refine aw_iconst (v := 2) (pc1 := 26) at_34_25 (by decide) rfl ?_
    exact rg_34_26 x0 2 h5 o  i0 hs3
  · rw [if_neg c7] at hs3
    refine aw_icne_f (pc1 := 21) at_34_18 c7 rfl ?_
    refine aw_iconst (v := 5) (pc1 := 22) at_34_21 (by decide) rfl ?_
    refine aw_goto at_34_22 ?_
    exact rg_34_26 x0 5 h5 o  i0 hs3
def fm_34 (y0 : Value) (y1 : Int32) (y2 : Int32) (h : am_H) : Option am_O := fg_34_0 y0 y1 y2 h
theorem rm_34 {X : am_X} {d : Nat} (y0 : Value) (y1 : Int32) (y2 : Int32) (h : am_H) (o : am_O) (i0 : am_isR y0 = true) (hs : fm_34 y0 y1 y2 h = some o) : am_W X (d) 34 0 (am_args 0 [y0, .int y1, .int y2]) [] h (fun q => q = o) := by
  rw [am_args_R i0, am_args_I, am_args_I]
  exact rg_34_0 y0 y1 y2 h o rfl rfl rfl i0 hs
def fg_36_24 (s0 : Int32) (h : am_H) : Option am_O := (if am_rfit (some FieldType.char) s0 then some (.inl (some (.int s0), h)) else none)
theorem rg_36_24 {X : am_X} {d : Nat} {lv : am_LV} (s0 : Int32) (h : am_H) (o : am_O) (hs : fg_36_24 s0 h = some o) : am_W X (d) 36 24 lv [(.int s0)] h (fun q => q = o) := by
  unfold fg_36_24 at hs
  obtain ⟨z1, hs1⟩ := am_ift hs
  clear hs
  cases hs1
  exact aw_iret at_36_24 (by rw [rt_36]; exact z1) rfl
def fg_36_0 (x0 : Value) (h : am_H) : Option am_O := ((am_vI (am_pG 2306 x0 h)).bind fun v1 => ((am_vI (am_pG 2305 x0 h)).bind fun v3 => (if v3 ≤ v1 then (fg_36_24 0 h) else ((am_vR (am_pG 2304 x0 h)).bind fun v6 => ((am_vI (am_pG 2306 x0 h)).bind fun v8 => ((am_pA 3 v6 v8 h).bind fun v10 => (fg_36_24 v10 h)))))))
theorem rg_36_0 {X : am_X} {d : Nat} {lv : am_LV} (x0 : Value) (h : am_H) (o : am_O) (l0 : lv.lookup 0 = some x0) (i0 : am_isR x0 = true) (hs : fg_36_0 x0 h = some o) : am_W X (d) 36 0 lv [] h (fun q => q = o) := by
  unfold fg_36_0 at hs
  refine aw_vload_n (pc1 := 1) at_36_0 l0 i0 rfl ?_
  obtain ⟨v1, e2, hs1⟩ := am_bind hs
  clear hs
  refine aw_pG (pc1 := 4) at_36_1 (am_vI_s e2) rfl ?_
  refine aw_vload_n (pc1 := 5) at_36_4 l0 i0 rfl ?_
  obtain ⟨v3, e4, hs2⟩ := am_bind hs1
  clear hs1
  refine aw_pG (pc1 := 8) at_36_5 (am_vI_s e4) rfl ?_
  by_cases c5 : v3 ≤ v1
  · rw [if_pos c5] at hs2
    refine aw_icge_t at_36_8 c5 ?_
    refine aw_iconst (v := 0) (pc1 := 24) at_36_23 (by decide) rfl ?_
    exact rg_36_24 0 h o   hs2
  · rw [if_neg c5] at hs2
    refine aw_icge_f (pc1 := 11) at_36_8 c5 rfl ?_
    refine aw_vload_n (pc1 := 12) at_36_11 l0 i0 rfl ?_
    obtain ⟨v6, e7, hs3⟩ := am_bind hs2
    clear hs2
    refine aw_pG (pc1 := 15) at_36_12 (am_vR_s e7).1 rfl ?_
    refine aw_vload_n (pc1 := 16) at_36_15 l0 i0 rfl ?_
    obtain ⟨v8, e9, hs4⟩ := am_bind hs3
    clear hs3
    refine aw_pG (pc1 := 19) at_36_16 (am_vI_s e9) rfl ?_
    obtain ⟨v10, e11, hs5⟩ := am_bind hs4
    clear hs4
    refine aw_pA (pc1 := 20) at_36_19 (Or.inr (Or.inr ⟨rfl, rfl⟩)) e11 rfl ?_
    refine aw_goto at_36_20 ?_
    exact rg_36_24 v10 h o   hs5
def fm_36 (y0 : Value) (h : am_H) : Option am_O := fg_36_0 y0 h
theorem rm_36 {X : am_X} {d : Nat} (y0 : Value) (h : am_H) (o : am_O) (i0 : am_isR y0 = true) (hs : fm_36 y0 h = some o) : am_W X (d) 36 0 (am_args 0 [y0]) [] h (fun q => q = o) := by
  rw [am_args_R i0]
  exact rg_36_0 y0 h o rfl i0 hs
def fg_39_15 (h : am_H) : Option am_O := some (.inl (none, h))
theorem rg_39_15 {X : am_X} {d : Nat} {lv : am_LV} (h : am_H) (o : am_O) (hs : fg_39_15 h = some o) : am_W X (d) 39 15 lv [] h (fun q => q = o) := by
  unfold fg_39_15 at hs
  cases hs
  exact aw_vret at_39_15 rt_39 rfl
def fg_39_0 (x0 : Value) (h : am_H) : Option am_O := ((am_vI (am_pG 2307 x0 h)).bind fun v1 => (if 0 ≤ v1 then (fg_39_15 h) else ((am_vI (am_pG 2306 x0 h)).bind fun v4 => ((am_pP 2307 x0 (.int v4) h).bind fun h6 => (fg_39_15 h6)))))
theorem rg_39_0 {X : am_X} {d : Nat} {lv : am_LV} (x0 : Value) (h : am_H) (o : am_O) (l0 : lv.lookup 0 = some x0) (i0 : am_isR x0 = true) (hs : fg_39_0 x0 h = some o) : am_W X (d) 39 0 lv [] h (fun q => q = o) := by
  unfold fg_39_0 at hs
  refine aw_vload_n (pc1 := 1) at_39_0 l0 i0 rfl ?_
  obtain ⟨v1, e2, hs1⟩ := am_bind hs
  clear hs
  refine aw_pG (pc1 := 4) at_39_1 (am_vI_s e2) rfl ?_
  by_cases c3 : 0 ≤ v1
  · rw [if_pos c3] at hs1
    refine aw_ifge_t at_39_4 c3 ?_
    exact rg_39_15 h o   hs1
  · rw [if_neg c3] at hs1
    refine aw_ifge_f (pc1 := 7) at_39_4 c3 rfl ?_
    refine aw_vload_n (pc1 := 8) at_39_7 l0 i0 rfl ?_
    refine aw_vload_n (pc1 := 9) at_39_8 l0 i0 rfl ?_
    obtain ⟨v4, e5, hs2⟩ := am_bind hs1
    clear hs1
    refine aw_pG (pc1 := 12) at_39_9 (am_vI_s e5) rfl ?_
    obtain ⟨h6, e7, hs3⟩ := am_bind hs2
    clear hs2
    refine aw_pP (pc1 := 15) at_39_12 e7 rfl ?_
    exact rg_39_15 h6 o   hs3
def fm_39 (y0 : Value) (h : am_H) : Option am_O := fg_39_0 y0 h
theorem rm_39 {X : am_X} {d : Nat} (y0 : Value) (h : am_H) (o : am_O) (i0 : am_isR y0 = true) (hs : fm_39 y0 h = some o) : am_W X (d) 39 0 (am_args 0 [y0]) [] h (fun q => q = o) := by
  rw [am_args_R i0]
  exact rg_39_0 y0 h o rfl i0 hs
def fg_41_29 (N : Nat) : Nat → Value → Int32 → Int32 → Int32 → Int32 → am_H → Option am_O
  | 0 => fun _ _ _ _ _ _ => none
  | K + 1 => fun x0 x1 x2 x3 x4 h => ((am_vI (am_pG 772 x0 h)).bind fun v1 => (if v1 ≤ x4 then ((am_vR (am_pG 768 x0 h)).bind fun v4 => ((am_pS 0 v4 x3 x1 h).bind fun h6 => ((am_vR (am_pG 768 x0 h6)).bind fun v8 => ((am_pS 0 v8 (x3 + 1) x2 h6).bind fun h10 => ((am_vI (am_pG 771 x0 h10)).bind fun v12 => ((am_pP 771 x0 (.int (v12 + 1)) h10).bind fun h14 => some (.inl (some (.int 1), h14)))))))) else ((am_vR (am_pG 768 x0 h)).bind fun v16 => ((am_pS 0 v16 (x3 + x4) 0 h).bind fun h18 => (fg_41_29 N K x0 x1 x2 x3 ((x4 + 1)) h18)))))
theorem rg_41_29 {X : am_X} {d : Nat} {N : Nat} : ∀ (K : Nat) (x0 : Value) (x1 : Int32) (x2 : Int32) (x3 : Int32) (x4 : Int32) (h : am_H) (o : am_O), fg_41_29 N K x0 x1 x2 x3 x4 h = some o → ∀ lv : am_LV, (lv.lookup 0 = some x0) → (lv.lookup 1 = some (.int x1)) → (lv.lookup 2 = some (.int x2)) → (lv.lookup 3 = some (.int x3)) → (lv.lookup 4 = some (.int x4)) → (am_isR x0 = true) → am_W X (d) 41 29 lv [] h (fun q => q = o) := by
  intro K
  induction K with
  | zero => intro x0 x1 x2 x3 x4 h o hs; cases hs
  | succ K ih =>
    intro x0 x1 x2 x3 x4 h o hs lv l0 l1 l2 l3 l4 i0
    unfold fg_41_29 at hs
    refine aw_iload (pc1 := 31) at_41_29 l4 rfl ?_
    refine aw_vload_n (pc1 := 32) at_41_31 l0 i0 rfl ?_
    obtain ⟨v1, e2, hs1⟩ := am_bind hs
    clear hs
    refine aw_pG (pc1 := 35) at_41_32 (am_vI_s e2) rfl ?_
    by_cases c3 : v1 ≤ x4
    · rw [if_pos c3] at hs1
      refine aw_icge_t at_41_35 c3 ?_
      refine aw_vload_n (pc1 := 55) at_41_54 l0 i0 rfl ?_
      obtain ⟨v4, e5, hs2⟩ := am_bind hs1
      clear hs1
      refine aw_pG (pc1 := 58) at_41_55 (am_vR_s e5).1 rfl ?_
      refine aw_iload_n (pc1 := 59) at_41_58 l3 rfl ?_
      refine aw_iload_n (pc1 := 60) at_41_59 l1 rfl ?_
      obtain ⟨h6, e7, hs3⟩ := am_bind hs2
      clear hs2
      refine aw_pS (pc1 := 61) at_41_60 (Or.inl ⟨rfl, rfl⟩) e7 rfl ?_
      refine aw_vload_n (pc1 := 62) at_41_61 l0 i0 rfl ?_
      obtain ⟨v8, e9, hs4⟩ := am_bind hs3
      clear hs3
      refine aw_pG (pc1 := 65) at_41_62 (am_vR_s e9).1 rfl ?_
      refine aw_iload_n (pc1 := 66) at_41_65 l3 rfl ?_
      refine aw_iconst (v := 1) (pc1 := 67) at_41_66 (by decide) rfl ?_
      refine aw_iadd (v := (x3 + 1)) (pc1 := 68) at_41_67 rfl rfl ?_
      refine aw_iload_n (pc1 := 69) at_41_68 l2 rfl ?_
      obtain ⟨h10, e11, hs5⟩ := am_bind hs4
      clear hs4
      refine aw_pS (pc1 := 70) at_41_69 (Or.inl ⟨rfl, rfl⟩) e11 rfl ?_
      refine aw_vload_n (pc1 := 71) at_41_70 l0 i0 rfl ?_
      refine aw_vdup (pc1 := 72) at_41_71 i0 rfl ?_
      obtain ⟨v12, e13, hs6⟩ := am_bind hs5
      clear hs5
      refine aw_pG (pc1 := 75) at_41_72 (am_vI_s e13) rfl ?_
      refine aw_iconst (v := 1) (pc1 := 76) at_41_75 (by decide) rfl ?_
      refine aw_iadd (v := (v12 + 1)) (pc1 := 77) at_41_76 rfl rfl ?_
      obtain ⟨h14, e15, hs7⟩ := am_bind hs6
      clear hs6
      refine aw_pP (pc1 := 80) at_41_77 e15 rfl ?_
      refine aw_iconst (v := 1) (pc1 := 81) at_41_80 (by decide) rfl ?_
      cases hs7
      exact aw_iret at_41_81 (by rw [rt_41]; decide) rfl
    · rw [if_neg c3] at hs1
      refine aw_icge_f (pc1 := 38) at_41_35 c3 rfl ?_
      refine aw_vload_n (pc1 := 39) at_41_38 l0 i0 rfl ?_
      obtain ⟨v16, e17, hs8⟩ := am_bind hs1
      clear hs1
      refine aw_pG (pc1 := 42) at_41_39 (am_vR_s e17).1 rfl ?_
      refine aw_iload_n (pc1 := 43) at_41_42 l3 rfl ?_
      refine aw_iload (pc1 := 45) at_41_43 l4 rfl ?_
      refine aw_iadd (v := (x3 + x4)) (pc1 := 46) at_41_45 rfl rfl ?_
      refine aw_iconst (v := 0) (pc1 := 47) at_41_46 (by decide) rfl ?_
      obtain ⟨h18, e19, hs9⟩ := am_bind hs8
      clear hs8
      refine aw_pS (pc1 := 48) at_41_47 (Or.inl ⟨rfl, rfl⟩) e19 rfl ?_
      refine aw_iinc (v := (x4 + 1)) (c := 1) (lv1 := am_put1 _ 4 _) (pc1 := 51) at_41_48 l4 (by decide) rfl rfl rfl ?_
      refine aw_goto at_41_51 ?_
      exact ih x0 x1 x2 x3 ((x4 + 1)) h18 o hs9 _ (am_lk1 l0 rfl rfl) (am_lk1 l1 rfl rfl) (am_lk1 l2 rfl rfl) (am_lk1 l3 rfl rfl) am_lk0 i0
def fg_41_0 (N : Nat) (x0 : Value) (x1 : Int32) (x2 : Int32) (h : am_H) : Option am_O := ((am_vI (am_pG 771 x0 h)).bind fun v1 => ((am_vI (am_pG 772 x0 h)).bind fun v3 => ((am_vI (am_pG 772 x0 h)).bind fun v5 => ((am_vR (am_pG 768 x0 h)).bind fun v7 => ((am_pLen v7 h).bind fun v9 => (if ((v1 * v3) + v5) ≤ v9 then (fg_41_29 N N x0 x1 x2 ((v1 * v3)) 2 h) else some (.inl (some (.int 0), h))))))))
theorem rg_41_0 {X : am_X} {d : Nat} {N : Nat} {lv : am_LV} (x0 : Value) (x1 : Int32) (x2 : Int32) (h : am_H) (o : am_O) (l0 : lv.lookup 0 = some x0) (l1 : lv.lookup 1 = some (.int x1)) (l2 : lv.lookup 2 = some (.int x2)) (i0 : am_isR x0 = true) (hs : fg_41_0 N x0 x1 x2 h = some o) : am_W X (d) 41 0 lv [] h (fun q => q = o) := by
  unfold fg_41_0 at hs
  refine aw_vload_n (pc1 := 1) at_41_0 l0 i0 rfl ?_
  obtain ⟨v1, e2, hs1⟩ := am_bind hs
  clear hs
  refine aw_pG (pc1 := 4) at_41_1 (am_vI_s e2) rfl ?_
  refine aw_vload_n (pc1 := 5) at_41_4 l0 i0 rfl ?_
  obtain ⟨v3, e4, hs2⟩ := am_bind hs1
  clear hs1
  refine aw_pG (pc1 := 8) at_41_5 (am_vI_s e4) rfl ?_
  refine aw_imul (v := (v1 * v3)) (pc1 := 9) at_41_8 rfl rfl ?_
  refine aw_istore_n (lv1 := am_put1 _ 3 _) (pc1 := 10) at_41_9 rfl rfl ?_
  refine aw_iload_n (pc1 := 11) at_41_10 am_lk0 rfl ?_
  refine aw_vload_n (pc1 := 12) at_41_11 (am_lk1 l0 rfl rfl) i0 rfl ?_
  obtain ⟨v5, e6, hs3⟩ := am_bind hs2
  clear hs2
  refine aw_pG (pc1 := 15) at_41_12 (am_vI_s e6) rfl ?_
  refine aw_iadd (v := ((v1 * v3) + v5)) (pc1 := 16) at_41_15 rfl rfl ?_
  refine aw_vload_n (pc1 := 17) at_41_16 (am_lk1 l0 rfl rfl) i0 rfl ?_
  obtain ⟨v7, e8, hs4⟩ := am_bind hs3
  clear hs3
  refine aw_pG (pc1 := 20) at_41_17 (am_vR_s e8).1 rfl ?_
  obtain ⟨v9, e10, hs5⟩ := am_bind hs4
  clear hs4
  refine aw_pLen (pc1 := 21) at_41_20 e10 rfl ?_
  by_cases c11 : ((v1 * v3) + v5) ≤ v9
  · rw [if_pos c11] at hs5
    refine aw_icle_t at_41_21 c11 ?_
    refine aw_iconst (v := 2) (pc1 := 27) at_41_26 (by decide) rfl ?_
    refine aw_istore (lv1 := am_put1 _ 4 _) (pc1 := 29) at_41_27 rfl rfl ?_
    exact rg_41_29 N x0 x1 x2 ((v1 * v3)) 2 h o hs5 _ (am_lk1 (am_lk1 l0 rfl rfl) rfl rfl) (am_lk1 (am_lk1 l1 rfl rfl) rfl rfl) (am_lk1 (am_lk1 l2 rfl rfl) rfl rfl) (am_lk1 am_lk0 rfl rfl) am_lk0 i0
  · rw [if_neg c11] at hs5
    refine aw_icle_f (pc1 := 24) at_41_21 c11 rfl ?_
    refine aw_iconst (v := 0) (pc1 := 25) at_41_24 (by decide) rfl ?_
    cases hs5
    exact aw_iret at_41_25 (by rw [rt_41]; decide) rfl
def fm_41 (N : Nat) (y0 : Value) (y1 : Int32) (y2 : Int32) (h : am_H) : Option am_O := fg_41_0 N y0 y1 y2 h
theorem rm_41 {X : am_X} {d : Nat} {N : Nat} (y0 : Value) (y1 : Int32) (y2 : Int32) (h : am_H) (o : am_O) (i0 : am_isR y0 = true) (hs : fm_41 N y0 y1 y2 h = some o) : am_W X (d) 41 0 (am_args 0 [y0, .int y1, .int y2]) [] h (fun q => q = o) := by
  rw [am_args_R i0, am_args_I, am_args_I]
  exact rg_41_0 y0 y1 y2 h o rfl rfl rfl i0 hs
def fg_42_27 (x0 : Value) (h : am_H) : Option am_O := (if am_pOk 9 x0 h then am_cV true (fm_39 x0 h) (fun h3 => some (.inl (some (.int 0), h3))) else none)
theorem rg_42_27 {X : am_X} {d : Nat} {lv : am_LV} (x0 : Value) (h : am_H) (o : am_O) (l0 : lv.lookup 0 = some x0) (i0 : am_isR x0 = true) (hs : fg_42_27 x0 h = some o) : am_W X (d + 1) 42 27 lv [] h (fun q => q = o) := by
  unfold fg_42_27 at hs
  refine aw_vload_n (pc1 := 28) at_42_27 l0 i0 rfl ?_
  obtain ⟨z1, hs1⟩ := am_ift hs
  clear hs
  refine aw_call (F := fm_39 x0 h) (t := true) (na := 1) (kd := 1) (as := [x0]) at_42_28 (am_k3v kb_39) mn_39 mk_39 rfl rfl (am_ok_v mi_39 (am_hl rfl (am_ccR i0 am_cats_0) rfl) z1) (am_hc am_cats_0 rfl) (fun _ => ⟨rfl, hh_42⟩) (fun o1 hz9 => rm_39 x0 h o1 i0 hz9) ?_
  rcases am_cV_s hs1 with ⟨h3, f4, hs2⟩ | hs2
  · clear hs1
    refine Or.inl ⟨_, _, f4, ?_⟩
    show am_W X _ 42 31 _ [] h3 _
    refine aw_iconst (v := 0) (pc1 := 32) at_42_31 (by decide) rfl ?_
    cases hs2
    exact aw_iret at_42_32 (by rw [rt_42]; decide) rfl
  · clear hs1
    exact Or.inr hs2
def fg_42_0 (x0 : Value) (x1 : Int32) (h : am_H) : Option am_O := ((am_vI (am_pG 2307 x0 h)).bind fun v1 => (if 0 ≤ v1 then (fg_42_27 x0 h) else (if am_pOk 9 x0 h then am_cI true (fm_36 x0 h) (fun v5 h6 => (if ¬ v5 = x1 then (fg_42_27 x0 h6) else ((am_vI (am_pG 2306 x0 h6)).bind fun v9 => ((am_pP 2306 x0 (.int (v9 + 1)) h6).bind fun h11 => some (.inl (some (.int 1), h11)))))) else none)))
theorem rg_42_0 {X : am_X} {d : Nat} {lv : am_LV} (x0 : Value) (x1 : Int32) (h : am_H) (o : am_O) (l0 : lv.lookup 0 = some x0) (l1 : lv.lookup 1 = some (.int x1)) (i0 : am_isR x0 = true) (hs : fg_42_0 x0 x1 h = some o) : am_W X (d + 1) 42 0 lv [] h (fun q => q = o) := by
  unfold fg_42_0 at hs
  refine aw_vload_n (pc1 := 1) at_42_0 l0 i0 rfl ?_
  obtain ⟨v1, e2, hs1⟩ := am_bind hs
  clear hs
  refine aw_pG (pc1 := 4) at_42_1 (am_vI_s e2) rfl ?_
  by_cases c3 : 0 ≤ v1
  · rw [if_pos c3] at hs1
    refine aw_ifge_t at_42_4 c3 ?_
    exact rg_42_27 x0 h o l0 i0 hs1
  · rw [if_neg c3] at hs1
    refine aw_ifge_f (pc1 := 7) at_42_4 c3 rfl ?_
    refine aw_vload_n (pc1 := 8) at_42_7 l0 i0 rfl ?_
    obtain ⟨z4, hs2⟩ := am_ift hs1
    clear hs1
    refine aw_call (F := fm_36 x0 h) (t := true) (na := 1) (kd := 1) (as := [x0]) at_42_8 (am_k3v kb_36) mn_36 mk_36 rfl rfl (am_ok_v mi_36 (am_hl rfl (am_ccR i0 am_cats_0) rfl) z4) (am_hc am_cats_0 rfl) (fun _ => ⟨rfl, hh_42⟩) (fun o1 hz9 => rm_36 x0 h o1 i0 hz9) ?_
    rcases am_cI_s hs2 with ⟨v5, h6, f7, hs3⟩ | hs3
    · clear hs2
      refine Or.inl ⟨_, _, f7, ?_⟩
      show am_W X _ 42 11 _ [(.int v5)] h6 _
      refine aw_iload_n (pc1 := 12) at_42_11 l1 rfl ?_
      by_cases c8 : ¬ v5 = x1
      · rw [if_pos c8] at hs3
        refine aw_icne_t at_42_12 c8 ?_
        exact rg_42_27 x0 h6 o l0 i0 hs3
      · rw [if_neg c8] at hs3
        refine aw_icne_f (pc1 := 15) at_42_12 c8 rfl ?_
        refine aw_vload_n (pc1 := 16) at_42_15 l0 i0 rfl ?_
        refine aw_vdup (pc1 := 17) at_42_16 i0 rfl ?_
        obtain ⟨v9, e10, hs4⟩ := am_bind hs3
        clear hs3
        refine aw_pG (pc1 := 20) at_42_17 (am_vI_s e10) rfl ?_
        refine aw_iconst (v := 1) (pc1 := 21) at_42_20 (by decide) rfl ?_
        refine aw_iadd (v := (v9 + 1)) (pc1 := 22) at_42_21 rfl rfl ?_
        obtain ⟨h11, e12, hs5⟩ := am_bind hs4
        clear hs4
        refine aw_pP (pc1 := 25) at_42_22 e12 rfl ?_
        refine aw_iconst (v := 1) (pc1 := 26) at_42_25 (by decide) rfl ?_
        cases hs5
        exact aw_iret at_42_26 (by rw [rt_42]; decide) rfl
    · clear hs2
      exact Or.inr hs3
def fm_42 (y0 : Value) (y1 : Int32) (h : am_H) : Option am_O := fg_42_0 y0 y1 h
theorem rm_42 {X : am_X} {d : Nat} (y0 : Value) (y1 : Int32) (h : am_H) (o : am_O) (i0 : am_isR y0 = true) (hs : fm_42 y0 y1 h = some o) : am_W X (d + 1) 42 0 (am_args 0 [y0, .int y1]) [] h (fun q => q = o) := by
  rw [am_args_R i0, am_args_I]
  exact rg_42_0 y0 y1 h o rfl rfl i0 hs
def fg_45_17 (s0 : Int32) (h : am_H) : Option am_O := (if am_rfit (some FieldType.boolean) s0 then some (.inl (some (.int s0), h)) else none)
theorem rg_45_17 {X : am_X} {d : Nat} {lv : am_LV} (s0 : Int32) (h : am_H) (o : am_O) (hs : fg_45_17 s0 h = some o) : am_W X (d) 45 17 lv [(.int s0)] h (fun q => q = o) := by
  unfold fg_45_17 at hs
  obtain ⟨z1, hs1⟩ := am_ift hs
  clear hs
  cases hs1
  exact aw_iret at_45_17 (by rw [rt_45]; exact z1) rfl
def fg_45_16 (h : am_H) : Option am_O := (fg_45_17 0 h)
theorem rg_45_16 {X : am_X} {d : Nat} {lv : am_LV} (h : am_H) (o : am_O) (hs : fg_45_16 h = some o) : am_W X (d) 45 16 lv [] h (fun q => q = o) := by
  unfold fg_45_16 at hs
  refine aw_iconst (v := 0) (pc1 := 17) at_45_16 (by decide) rfl ?_
  exact rg_45_17 0 h o   hs
def fg_45_0 (x0 : Int32) (h : am_H) : Option am_O := (if x0 < 48 then (fg_45_16 h) else (if 57 < x0 then (fg_45_16 h) else (fg_45_17 1 h)))
theorem rg_45_0 {X : am_X} {d : Nat} {lv : am_LV} (x0 : Int32) (h : am_H) (o : am_O) (l0 : lv.lookup 0 = some (.int x0)) (hs : fg_45_0 x0 h = some o) : am_W X (d) 45 0 lv [] h (fun q => q = o) := by
  unfold fg_45_0 at hs
  refine aw_iload_n (pc1 := 1) at_45_0 l0 rfl ?_
  refine aw_bipush (v := 48) (pc1 := 3) at_45_1 (by decide) rfl ?_
  by_cases c1 : x0 < 48
  · rw [if_pos c1] at hs
    refine aw_iclt_t at_45_3 c1 ?_
    exact rg_45_16 h o   hs
  · rw [if_neg c1] at hs
    refine aw_iclt_f (pc1 := 6) at_45_3 c1 rfl ?_
    refine aw_iload_n (pc1 := 7) at_45_6 l0 rfl ?_
    refine aw_bipush (v := 57) (pc1 := 9) at_45_7 (by decide) rfl ?_
    by_cases c2 : 57 < x0
    · rw [if_pos c2] at hs
      refine aw_icgt_t at_45_9 c2 ?_
      exact rg_45_16 h o   hs
    · rw [if_neg c2] at hs
      refine aw_icgt_f (pc1 := 12) at_45_9 c2 rfl ?_
      refine aw_iconst (v := 1) (pc1 := 13) at_45_12 (by decide) rfl ?_
      refine aw_goto at_45_13 ?_
      exact rg_45_17 1 h o   hs
def fm_45 (y0 : Int32) (h : am_H) : Option am_O := fg_45_0 y0 h
theorem rm_45 {X : am_X} {d : Nat} (y0 : Int32) (h : am_H) (o : am_O) (hs : fm_45 y0 h = some o) : am_W X (d) 45 0 (am_args 0 [.int y0]) [] h (fun q => q = o) := by
  rw [am_args_I]
  exact rg_45_0 y0 h o rfl  hs
def fg_44_76 (N : Nat) (x1 : Int32) (h : am_H) : Option am_O := some (.inl (some (.int x1), h))
theorem rg_44_76 {X : am_X} {d : Nat} {N : Nat} {lv : am_LV} (x1 : Int32) (h : am_H) (o : am_O) (l1 : lv.lookup 1 = some (.int x1)) (hs : fg_44_76 N x1 h = some o) : am_W X (d + 1) 44 76 lv [] h (fun q => q = o) := by
  unfold fg_44_76 at hs
  refine aw_iload_n (pc1 := 77) at_44_76 l1 rfl ?_
  cases hs
  exact aw_iret at_44_77 (by rw [rt_44]; rfl) rfl
def fg_44_25 (N : Nat) : Nat → Value → Int32 → Int32 → am_H → Option am_O
  | 0 => fun _ _ _ _ => none
  | K + 1 => fun x0 x1 x2 h => (if 2 ≤ x2 then (fg_44_76 N x1 h) else ((am_vI (am_pG 2307 x0 h)).bind fun v2 => (if 0 ≤ v2 then (fg_44_76 N x1 h) else (if am_pOk 9 x0 h then am_cI true (fm_36 x0 h) (fun v6 h7 => am_cI false (fm_45 v6 h7) (fun v9 h10 => (if v9 = 0 then (fg_44_76 N x1 h10) else (if am_pOk 9 x0 h10 then am_cI true (fm_36 x0 h10) (fun v14 h15 => ((am_vI (am_pG 2306 x0 h15)).bind fun v17 => ((am_pP 2306 x0 (.int (v17 + 1)) h15).bind fun h19 => (fg_44_25 N K x0 ((((10 * x1) + v14) - 48)) ((x2 + 1)) h19)))) else none)))) else none))))
theorem rg_44_25 {X : am_X} {d : Nat} {N : Nat} : ∀ (K : Nat) (x0 : Value) (x1 : Int32) (x2 : Int32) (h : am_H) (o : am_O), fg_44_25 N K x0 x1 x2 h = some o → ∀ lv : am_LV, (lv.lookup 0 = some x0) → (lv.lookup 1 = some (.int x1)) → (lv.lookup 2 = some (.int x2)) → (am_isR x0 = true) → am_W X (d + 1) 44 25 lv [] h (fun q => q = o) := by
  intro K
  induction K with
  | zero => intro x0 x1 x2 h o hs; cases hs
  | succ K ih =>
    intro x0 x1 x2 h o hs lv l0 l1 l2 i0
    unfold fg_44_25 at hs
    refine aw_iload_n (pc1 := 26) at_44_25 l2 rfl ?_
    refine aw_iconst (v := 2) (pc1 := 27) at_44_26 (by decide) rfl ?_
    by_cases c1 : 2 ≤ x2
    · rw [if_pos c1] at hs
      refine aw_icge_t at_44_27 c1 ?_
      exact rg_44_76 x1 h o l1  hs
    · rw [if_neg c1] at hs
      refine aw_icge_f (pc1 := 30) at_44_27 c1 rfl ?_
      refine aw_vload_n (pc1 := 31) at_44_30 l0 i0 rfl ?_
      obtain ⟨v2, e3, hs1⟩ := am_bind hs
      clear hs
      refine aw_pG (pc1 := 34) at_44_31 (am_vI_s e3) rfl ?_
      by_cases c4 : 0 ≤ v2
      · rw [if_pos c4] at hs1
        refine aw_ifge_t at_44_34 c4 ?_
        exact rg_44_76 x1 h o l1  hs1
      · rw [if_neg c4] at hs1
        refine aw_ifge_f (pc1 := 37) at_44_34 c4 rfl ?_
        refine aw_vload_n (pc1 := 38) at_44_37 l0 i0 rfl ?_
        obtain ⟨z5, hs2⟩ := am_ift hs1
        clear hs1
        refine aw_call (F := fm_36 x0 h) (t := true) (na := 1) (kd := 1) (as := [x0]) at_44_38 (am_k3v kb_36) mn_36 mk_36 rfl rfl (am_ok_v mi_36 (am_hl rfl (am_ccR i0 am_cats_0) rfl) z5) (am_hc am_cats_0 rfl) (fun _ => ⟨rfl, hh_44⟩) (fun o1 hz9 => rm_36 x0 h o1 i0 hz9) ?_
        rcases am_cI_s hs2 with ⟨v6, h7, f8, hs3⟩ | hs3
        · clear hs2
          refine Or.inl ⟨_, _, f8, ?_⟩
          show am_W X _ 44 41 _ [(.int v6)] h7 _
          refine aw_call (F := fm_45 v6 h7) (t := false) (na := 1) (kd := 0) (as := [(.int v6)]) at_44_41 (am_k3s kb_45) mn_45 mk_45 rfl rfl (am_ok_s mi_45 (am_hl rfl (am_ccI am_cats_0) rfl)) (am_hc am_cats_0 rfl) (fun hz9 => by cases hz9) (fun o1 hz9 => rm_45 v6 h7 o1  hz9) ?_
          rcases am_cI_s hs3 with ⟨v9, h10, f11, hs4⟩ | hs4
          · clear hs3
            refine Or.inl ⟨_, _, f11, ?_⟩
            show am_W X _ 44 44 _ [(.int v9)] h10 _
            by_cases c12 : v9 = 0
            · rw [if_pos c12] at hs4
              refine aw_ifeq_t at_44_44 c12 ?_
              exact rg_44_76 x1 h10 o l1  hs4
            · rw [if_neg c12] at hs4
              refine aw_ifeq_f (pc1 := 47) at_44_44 c12 rfl ?_
              refine aw_bipush (v := 10) (pc1 := 49) at_44_47 (by decide) rfl ?_
              refine aw_iload_n (pc1 := 50) at_44_49 l1 rfl ?_
              refine aw_imul (v := (10 * x1)) (pc1 := 51) at_44_50 rfl rfl ?_
              refine aw_vload_n (pc1 := 52) at_44_51 l0 i0 rfl ?_
              obtain ⟨z13, hs5⟩ := am_ift hs4
              clear hs4
              refine aw_call (F := fm_36 x0 h10) (t := true) (na := 1) (kd := 1) (as := [x0]) at_44_52 (am_k3v kb_36) mn_36 mk_36 rfl rfl (am_ok_v mi_36 (am_hl rfl (am_ccR i0 am_cats_0) rfl) z13) (am_hc (am_ccI am_cats_0) rfl) (fun _ => ⟨rfl, hh_44⟩) (fun o1 hz9 => rm_36 x0 h10 o1 i0 hz9) ?_
              rcases am_cI_s hs5 with ⟨v14, h15, f16, hs6⟩ | hs6
              · clear hs5
                refine Or.inl ⟨_, _, f16, ?_⟩
                show am_W X _ 44 55 _ [(.int v14), (.int (10 * x1))] h15 _
                refine aw_iadd (v := ((10 * x1) + v14)) (pc1 := 56) at_44_55 rfl rfl ?_
                refine aw_bipush (v := 48) (pc1 := 58) at_44_56 (by decide) rfl ?_
                refine aw_isub (v := (((10 * x1) + v14) - 48)) (pc1 := 59) at_44_58 rfl rfl ?_
                refine aw_istore_n (lv1 := am_put1 _ 1 _) (pc1 := 60) at_44_59 rfl rfl ?_
                refine aw_vload_n (pc1 := 61) at_44_60 (am_lk1 l0 rfl (by rw [am_isRc i0]; rfl)) i0 rfl ?_
                refine aw_vdup (pc1 := 62) at_44_61 i0 rfl ?_
                obtain ⟨v17, e18, hs7⟩ := am_bind hs6
                clear hs6
                refine aw_pG (pc1 := 65) at_44_62 (am_vI_s e18) rfl ?_
                refine aw_iconst (v := 1) (pc1 := 66) at_44_65 (by decide) rfl ?_
                refine aw_iadd (v := (v17 + 1)) (pc1 := 67) at_44_66 rfl rfl ?_
                obtain ⟨h19, e20, hs8⟩ := am_bind hs7
                clear hs7
                refine aw_pP (pc1 := 70) at_44_67 e20 rfl ?_
                refine aw_iinc (v := (x2 + 1)) (c := 1) (lv1 := am_put1 _ 2 _) (pc1 := 73) at_44_70 (am_lk1 l2 rfl rfl) (by decide) rfl rfl rfl ?_
                refine aw_goto at_44_73 ?_
                exact ih x0 ((((10 * x1) + v14) - 48)) ((x2 + 1)) h19 o hs8 _ (am_lk1 (am_lk1 l0 rfl (by rw [am_isRc i0]; rfl)) rfl rfl) (am_lk1 am_lk0 rfl rfl) am_lk0 i0
              · clear hs5
                exact Or.inr hs6
          · clear hs3
            exact Or.inr hs4
        · clear hs2
          exact Or.inr hs3
def fg_44_23 (N : Nat) (x0 : Value) (x1 : Int32) (h : am_H) : Option am_O := (fg_44_25 N N x0 x1 0 h)
theorem rg_44_23 {X : am_X} {d : Nat} {N : Nat} {lv : am_LV} (x0 : Value) (x1 : Int32) (h : am_H) (o : am_O) (l0 : lv.lookup 0 = some x0) (l1 : lv.lookup 1 = some (.int x1)) (i0 : am_isR x0 = true) (hs : fg_44_23 N x0 x1 h = some o) : am_W X (d + 1) 44 23 lv [] h (fun q => q = o) := by
  unfold fg_44_23 at hs
  refine aw_iconst (v := 0) (pc1 := 24) at_44_23 (by decide) rfl ?_
  refine aw_istore_n (lv1 := am_put1 _ 2 _) (pc1 := 25) at_44_24 rfl rfl ?_
  exact rg_44_25 N x0 x1 0 h o hs _ (am_lk1 l0 rfl rfl) (am_lk1 l1 rfl rfl) am_lk0 i0
def fg_44_19 (N : Nat) (x0 : Value) (x1 : Int32) (h : am_H) : Option am_O := (if am_pOk 9 x0 h then am_cV true (fm_39 x0 h) (fun h3 => (fg_44_23 N x0 x1 h3)) else none)
theorem rg_44_19 {X : am_X} {d : Nat} {N : Nat} {lv : am_LV} (x0 : Value) (x1 : Int32) (h : am_H) (o : am_O) (l0 : lv.lookup 0 = some x0) (l1 : lv.lookup 1 = some (.int x1)) (i0 : am_isR x0 = true) (hs : fg_44_19 N x0 x1 h = some o) : am_W X (d + 1) 44 19 lv [] h (fun q => q = o) := by
  unfold fg_44_19 at hs
  refine aw_vload_n (pc1 := 20) at_44_19 l0 i0 rfl ?_
  obtain ⟨z1, hs1⟩ := am_ift hs
  clear hs
  refine aw_call (F := fm_39 x0 h) (t := true) (na := 1) (kd := 1) (as := [x0]) at_44_20 (am_k3v kb_39) mn_39 mk_39 rfl rfl (am_ok_v mi_39 (am_hl rfl (am_ccR i0 am_cats_0) rfl) z1) (am_hc am_cats_0 rfl) (fun _ => ⟨rfl, hh_44⟩) (fun o1 hz9 => rm_39 x0 h o1 i0 hz9) ?_
  rcases am_cV_s hs1 with ⟨h3, f4, hs2⟩ | hs2
  · clear hs1
    refine Or.inl ⟨_, _, f4, ?_⟩
    show am_W X _ 44 23 _ [] h3 _
    exact rg_44_23 x0 x1 h3 o l0 l1 i0 hs2
  · clear hs1
    exact Or.inr hs2
def fg_44_0 (N : Nat) (x0 : Value) (h : am_H) : Option am_O := ((am_vI (am_pG 2307 x0 h)).bind fun v1 => (if 0 ≤ v1 then (fg_44_19 N x0 0 h) else (if am_pOk 9 x0 h then am_cI true (fm_36 x0 h) (fun v5 h6 => am_cI false (fm_45 v5 h6) (fun v8 h9 => (if ¬ v8 = 0 then (fg_44_23 N x0 0 h9) else (fg_44_19 N x0 0 h9)))) else none)))
theorem rg_44_0 {X : am_X} {d : Nat} {N : Nat} {lv : am_LV} (x0 : Value) (h : am_H) (o : am_O) (l0 : lv.lookup 0 = some x0) (i0 : am_isR x0 = true) (hs : fg_44_0 N x0 h = some o) : am_W X (d + 1) 44 0 lv [] h (fun q => q = o) := by
  unfold fg_44_0 at hs
  refine aw_iconst (v := 0) (pc1 := 1) at_44_0 (by decide) rfl ?_
  refine aw_istore_n (lv1 := am_put1 _ 1 _) (pc1 := 2) at_44_1 rfl rfl ?_
  refine aw_vload_n (pc1 := 3) at_44_2 (am_lk1 l0 rfl (by rw [am_isRc i0]; rfl)) i0 rfl ?_
  obtain ⟨v1, e2, hs1⟩ := am_bind hs
  clear hs
  refine aw_pG (pc1 := 6) at_44_3 (am_vI_s e2) rfl ?_
  by_cases c3 : 0 ≤ v1
  · rw [if_pos c3] at hs1
    refine aw_ifge_t at_44_6 c3 ?_
    exact rg_44_19 x0 0 h o (am_lk1 l0 rfl (by rw [am_isRc i0]; rfl)) am_lk0 i0 hs1
  · rw [if_neg c3] at hs1
    refine aw_ifge_f (pc1 := 9) at_44_6 c3 rfl ?_
    refine aw_vload_n (pc1 := 10) at_44_9 (am_lk1 l0 rfl (by rw [am_isRc i0]; rfl)) i0 rfl ?_
    obtain ⟨z4, hs2⟩ := am_ift hs1
    clear hs1
    refine aw_call (F := fm_36 x0 h) (t := true) (na := 1) (kd := 1) (as := [x0]) at_44_10 (am_k3v kb_36) mn_36 mk_36 rfl rfl (am_ok_v mi_36 (am_hl rfl (am_ccR i0 am_cats_0) rfl) z4) (am_hc am_cats_0 rfl) (fun _ => ⟨rfl, hh_44⟩) (fun o1 hz9 => rm_36 x0 h o1 i0 hz9) ?_
    rcases am_cI_s hs2 with ⟨v5, h6, f7, hs3⟩ | hs3
    · clear hs2
      refine Or.inl ⟨_, _, f7, ?_⟩
      show am_W X _ 44 13 _ [(.int v5)] h6 _
      refine aw_call (F := fm_45 v5 h6) (t := false) (na := 1) (kd := 0) (as := [(.int v5)]) at_44_13 (am_k3s kb_45) mn_45 mk_45 rfl rfl (am_ok_s mi_45 (am_hl rfl (am_ccI am_cats_0) rfl)) (am_hc am_cats_0 rfl) (fun hz9 => by cases hz9) (fun o1 hz9 => rm_45 v5 h6 o1  hz9) ?_
      rcases am_cI_s hs3 with ⟨v8, h9, f10, hs4⟩ | hs4
      · clear hs3
        refine Or.inl ⟨_, _, f10, ?_⟩
        show am_W X _ 44 16 _ [(.int v8)] h9 _
        by_cases c11 : ¬ v8 = 0
        · rw [if_pos c11] at hs4
          refine aw_ifne_t at_44_16 c11 ?_
          exact rg_44_23 x0 0 h9 o (am_lk1 l0 rfl (by rw [am_isRc i0]; rfl)) am_lk0 i0 hs4
        · rw [if_neg c11] at hs4
          refine aw_ifne_f (pc1 := 19) at_44_16 c11 rfl ?_
          exact rg_44_19 x0 0 h9 o (am_lk1 l0 rfl (by rw [am_isRc i0]; rfl)) am_lk0 i0 hs4
      · clear hs3
        exact Or.inr hs4
    · clear hs2
      exact Or.inr hs3
def fm_44 (N : Nat) (y0 : Value) (h : am_H) : Option am_O := fg_44_0 N y0 h
theorem rm_44 {X : am_X} {d : Nat} {N : Nat} (y0 : Value) (h : am_H) (o : am_O) (i0 : am_isR y0 = true) (hs : fm_44 N y0 h = some o) : am_W X (d + 1) 44 0 (am_args 0 [y0]) [] h (fun q => q = o) := by
  rw [am_args_R i0]
  exact rg_44_0 y0 h o rfl i0 hs
def fg_43_44 (N : Nat) (s0 : Int32) (h : am_H) : Option am_O := some (.inl (some (.int s0), h))
theorem rg_43_44 {X : am_X} {d : Nat} {N : Nat} {lv : am_LV} (s0 : Int32) (h : am_H) (o : am_O) (hs : fg_43_44 N s0 h = some o) : am_W X (d + 2) 43 44 lv [(.int s0)] h (fun q => q = o) := by
  unfold fg_43_44 at hs
  cases hs
  exact aw_iret at_43_44 (by rw [rt_43]; rfl) rfl
def fg_43_29 (N : Nat) (x0 : Value) (x1 : Int32) (h : am_H) : Option am_O := (if am_pOk 9 x0 h then am_cI true (fm_44 N x0 h) (fun v2 h3 => (if x1 = 0 then (fg_43_44 N v2 h3) else (fg_43_44 N ((-v2)) h3))) else none)
theorem rg_43_29 {X : am_X} {d : Nat} {N : Nat} {lv : am_LV} (x0 : Value) (x1 : Int32) (h : am_H) (o : am_O) (l0 : lv.lookup 0 = some x0) (l1 : lv.lookup 1 = some (.int x1)) (i0 : am_isR x0 = true) (hs : fg_43_29 N x0 x1 h = some o) : am_W X (d + 2) 43 29 lv [] h (fun q => q = o) := by
  unfold fg_43_29 at hs
  refine aw_vload_n (pc1 := 30) at_43_29 l0 i0 rfl ?_
  obtain ⟨z1, hs1⟩ := am_ift hs
  clear hs
  refine aw_call (F := fm_44 N x0 h) (t := true) (na := 1) (kd := 1) (as := [x0]) at_43_30 (am_k3v kb_44) mn_44 mk_44 rfl rfl (am_ok_v mi_44 (am_hl rfl (am_ccR i0 am_cats_0) rfl) z1) (am_hc am_cats_0 rfl) (fun _ => ⟨rfl, hh_43⟩) (fun o1 hz9 => rm_44 x0 h o1 i0 hz9) ?_
  rcases am_cI_s hs1 with ⟨v2, h3, f4, hs2⟩ | hs2
  · clear hs1
    refine Or.inl ⟨_, _, f4, ?_⟩
    show am_W X _ 43 33 _ [(.int v2)] h3 _
    refine aw_istore_n (lv1 := am_put1 _ 2 _) (pc1 := 34) at_43_33 rfl rfl ?_
    refine aw_iload_n (pc1 := 35) at_43_34 (am_lk1 l1 rfl rfl) rfl ?_
    by_cases c5 : x1 = 0
    · rw [if_pos c5] at hs2
      refine aw_ifeq_t at_43_35 c5 ?_
      refine aw_iload_n (pc1 := 44) at_43_43 am_lk0 rfl ?_
      exact rg_43_44 v2 h3 o   hs2
    · rw [if_neg c5] at hs2
      refine aw_ifeq_f (pc1 := 38) at_43_35 c5 rfl ?_
      refine aw_iload_n (pc1 := 39) at_43_38 am_lk0 rfl ?_
      refine aw_ineg (v := (-v2)) (pc1 := 40) at_43_39 rfl rfl ?_
      refine aw_goto at_43_40 ?_
      exact rg_43_44 ((-v2)) h3 o   hs2
  · clear hs1
    exact Or.inr hs2
def fg_43_14 (N : Nat) (x0 : Value) (s0 : Int32) (h : am_H) : Option am_O := (if s0 = 0 then (fg_43_29 N x0 s0 h) else ((am_vI (am_pG 2306 x0 h)).bind fun v2 => ((am_pP 2306 x0 (.int (v2 + 1)) h).bind fun h4 => (fg_43_29 N x0 s0 h4))))
theorem rg_43_14 {X : am_X} {d : Nat} {N : Nat} {lv : am_LV} (x0 : Value) (s0 : Int32) (h : am_H) (o : am_O) (l0 : lv.lookup 0 = some x0) (i0 : am_isR x0 = true) (hs : fg_43_14 N x0 s0 h = some o) : am_W X (d + 2) 43 14 lv [(.int s0)] h (fun q => q = o) := by
  unfold fg_43_14 at hs
  refine aw_istore_n (lv1 := am_put1 _ 1 _) (pc1 := 15) at_43_14 rfl rfl ?_
  refine aw_iload_n (pc1 := 16) at_43_15 am_lk0 rfl ?_
  by_cases c1 : s0 = 0
  · rw [if_pos c1] at hs
    refine aw_ifeq_t at_43_16 c1 ?_
    exact rg_43_29 x0 s0 h o (am_lk1 l0 rfl (by rw [am_isRc i0]; rfl)) am_lk0 i0 hs
  · rw [if_neg c1] at hs
    refine aw_ifeq_f (pc1 := 19) at_43_16 c1 rfl ?_
    refine aw_vload_n (pc1 := 20) at_43_19 (am_lk1 l0 rfl (by rw [am_isRc i0]; rfl)) i0 rfl ?_
    refine aw_vdup (pc1 := 21) at_43_20 i0 rfl ?_
    obtain ⟨v2, e3, hs1⟩ := am_bind hs
    clear hs
    refine aw_pG (pc1 := 24) at_43_21 (am_vI_s e3) rfl ?_
    refine aw_iconst (v := 1) (pc1 := 25) at_43_24 (by decide) rfl ?_
    refine aw_iadd (v := (v2 + 1)) (pc1 := 26) at_43_25 rfl rfl ?_
    obtain ⟨h4, e5, hs2⟩ := am_bind hs1
    clear hs1
    refine aw_pP (pc1 := 29) at_43_26 e5 rfl ?_
    exact rg_43_29 x0 s0 h4 o (am_lk1 l0 rfl (by rw [am_isRc i0]; rfl)) am_lk0 i0 hs2
def fg_43_0 (N : Nat) (x0 : Value) (h : am_H) : Option am_O := (if am_pOk 9 x0 h then am_cI true (fm_36 x0 h) (fun v2 h3 => (if ¬ v2 = 45 then (fg_43_14 N x0 0 h3) else (fg_43_14 N x0 1 h3))) else none)
theorem rg_43_0 {X : am_X} {d : Nat} {N : Nat} {lv : am_LV} (x0 : Value) (h : am_H) (o : am_O) (l0 : lv.lookup 0 = some x0) (i0 : am_isR x0 = true) (hs : fg_43_0 N x0 h = some o) : am_W X (d + 2) 43 0 lv [] h (fun q => q = o) := by
  unfold fg_43_0 at hs
  refine aw_vload_n (pc1 := 1) at_43_0 l0 i0 rfl ?_
  obtain ⟨z1, hs1⟩ := am_ift hs
  clear hs
  refine aw_call (F := fm_36 x0 h) (t := true) (na := 1) (kd := 1) (as := [x0]) at_43_1 (am_k3v kb_36) mn_36 mk_36 rfl rfl (am_ok_v mi_36 (am_hl rfl (am_ccR i0 am_cats_0) rfl) z1) (am_hc am_cats_0 rfl) (fun _ => ⟨rfl, hh_43⟩) (fun o1 hz9 => rm_36 x0 h o1 i0 hz9) ?_
  rcases am_cI_s hs1 with ⟨v2, h3, f4, hs2⟩ | hs2
  · clear hs1
    refine Or.inl ⟨_, _, f4, ?_⟩
    show am_W X _ 43 4 _ [(.int v2)] h3 _
    refine aw_bipush (v := 45) (pc1 := 6) at_43_4 (by decide) rfl ?_
    by_cases c5 : ¬ v2 = 45
    · rw [if_pos c5] at hs2
      refine aw_icne_t at_43_6 c5 ?_
      refine aw_iconst (v := 0) (pc1 := 14) at_43_13 (by decide) rfl ?_
      exact rg_43_14 x0 0 h3 o l0 i0 hs2
    · rw [if_neg c5] at hs2
      refine aw_icne_f (pc1 := 9) at_43_6 c5 rfl ?_
      refine aw_iconst (v := 1) (pc1 := 10) at_43_9 (by decide) rfl ?_
      refine aw_goto at_43_10 ?_
      exact rg_43_14 x0 1 h3 o l0 i0 hs2
  · clear hs1
    exact Or.inr hs2
def fm_43 (N : Nat) (y0 : Value) (h : am_H) : Option am_O := fg_43_0 N y0 h
theorem rm_43 {X : am_X} {d : Nat} {N : Nat} (y0 : Value) (h : am_H) (o : am_O) (i0 : am_isR y0 = true) (hs : fm_43 N y0 h = some o) : am_W X (d + 2) 43 0 (am_args 0 [y0]) [] h (fun q => q = o) := by
  rw [am_args_R i0]
  exact rg_43_0 y0 h o rfl i0 hs
def fg_35_132 (N : Nat) (rc_35 : Value → Int32 → Int32 → Int32 → am_H → Option am_O) (rc_40 : Value → Int32 → Int32 → Int32 → am_H → Option am_O) (h : am_H) : Option am_O := some (.inl (none, h))
theorem rg_35_132 {X : am_X} {d : Nat} {N : Nat} {rc_35 : Value → Int32 → Int32 → Int32 → am_H → Option am_O} {rc_40 : Value → Int32 → Int32 → Int32 → am_H → Option am_O} (qc_35 : ∀ (y0 : Value) (y1 : Int32) (y2 : Int32) (y3 : Int32) (h : am_H) (o : am_O), (am_isR y0 = true) → rc_35 y0 y1 y2 y3 h = some o → am_W X (d + 3) 35 0 (am_args 0 [y0, .int y1, .int y2, .int y3]) [] h (fun q => q = o)) (qc_40 : ∀ (y0 : Value) (y1 : Int32) (y2 : Int32) (y3 : Int32) (h : am_H) (o : am_O), (am_isR y0 = true) → rc_40 y0 y1 y2 y3 h = some o → am_W X (d + 3) 40 0 (am_args 0 [y0, .int y1, .int y2, .int y3]) [] h (fun q => q = o)) {lv : am_LV} (h : am_H) (o : am_O) (hs : fg_35_132 N rc_35 rc_40 h = some o) : am_W X (d + 4) 35 132 lv [] h (fun q => q = o) := by
  unfold fg_35_132 at hs
  cases hs
  exact aw_vret at_35_132 rt_35 rfl
def fg_35_90 (N : Nat) (rc_35 : Value → Int32 → Int32 → Int32 → am_H → Option am_O) (rc_40 : Value → Int32 → Int32 → Int32 → am_H → Option am_O) (x0 : Value) (x5 : Int32) (h : am_H) : Option am_O := (if x5 ≤ 0 then ((am_vR (am_pG 2308 x0 h)).bind fun v2 => (if am_pOk 9 x0 h then am_cI true (fm_43 N x0 h) (fun v5 h6 => (if am_pOk 3 v2 h6 then am_cI true (fm_41 N v2 0 v5 h6) (fun v9 h10 => (fg_35_132 N rc_35 rc_40 h10)) else none)) else none)) else ((am_vI (am_pG 2306 x0 h)).bind fun v12 => ((am_pP 2306 x0 (.int (v12 + 1)) h).bind fun h14 => ((am_vR (am_pG 2308 x0 h14)).bind fun v16 => (if am_pOk 3 v16 h14 then am_cI true (fm_41 N v16 x5 0 h14) (fun v19 h20 => (fg_35_132 N rc_35 rc_40 h20)) else none)))))
theorem rg_35_90 {X : am_X} {d : Nat} {N : Nat} {rc_35 : Value → Int32 → Int32 → Int32 → am_H → Option am_O} {rc_40 : Value → Int32 → Int32 → Int32 → am_H → Option am_O} (qc_35 : ∀ (y0 : Value) (y1 : Int32) (y2 : Int32) (y3 : Int32) (h : am_H) (o : am_O), (am_isR y0 = true) → rc_35 y0 y1 y2 y3 h = some o → am_W X (d + 3) 35 0 (am_args 0 [y0, .int y1, .int y2, .int y3]) [] h (fun q => q = o)) (qc_40 : ∀ (y0 : Value) (y1 : Int32) (y2 : Int32) (y3 : Int32) (h : am_H) (o : am_O), (am_isR y0 = true) → rc_40 y0 y1 y2 y3 h = some o → am_W X (d + 3) 40 0 (am_args 0 [y0, .int y1, .int y2, .int y3]) [] h (fun q => q = o)) {lv : am_LV} (x0 : Value) (x5 : Int32) (h : am_H) (o : am_O) (l0 : lv.lookup 0 = some x0) (l5 : lv.lookup 5 = some (.int x5)) (i0 : am_isR x0 = true) (hs : fg_35_90 N rc_35 rc_40 x0 x5 h = some o) : am_W X (d + 4) 35 90 lv [] h (fun q => q = o) := by
  unfold fg_35_90 at hs
  refine aw_iload (pc1 := 92) at_35_90 l5 rfl ?_
  by_cases c1 : x5 ≤ 0
  · rw [if_pos c1] at hs
    refine aw_ifle_t at_35_92 c1 ?_
    refine aw_vload_n (pc1 := 120) at_35_119 l0 i0 rfl ?_
    obtain ⟨v2, e3, hs1⟩ := am_bind hs
    clear hs
    refine aw_pG (pc1 := 123) at_35_120 (am_vR_s e3).1 rfl ?_
    refine aw_iconst (v := 0) (pc1 := 124) at_35_123 (by decide) rfl ?_
    refine aw_vload_n (pc1 := 125) at_35_124 l0 i0 rfl ?_
    obtain ⟨z4, hs2⟩ := am_ift hs1
    clear hs1
    refine aw_call (F := fm_43 N x0 h) (t := true) (na := 1) (kd := 1) (as := [x0]) at_35_125 (am_k3v kb_43) mn_43 mk_43 rfl rfl (am_ok_v mi_43 (am_hl rfl (am_ccR i0 am_cats_0) rfl) z4) (am_hc (am_ccI (am_ccR (am_vR_s e3).2 am_cats_0)) rfl) (fun _ => ⟨rfl, hh_35⟩) (fun o1 hz9 => rm_43 x0 h o1 i0 hz9) ?_
    rcases am_cI_s hs2 with ⟨v5, h6, f7, hs3⟩ | hs3
    · clear hs2
      refine Or.inl ⟨_, _, f7, ?_⟩
      show am_W X _ 35 128 _ [(.int v5), (.int 0), v2] h6 _
      obtain ⟨z8, hs4⟩ := am_ift hs3
      clear hs3
      refine aw_call (F := fm_41 N v2 0 v5 h6) (t := true) (na := 3) (kd := 1) (as := [v2, (.int 0), (.int v5)]) at_35_128 (am_k3v kb_41) mn_41 mk_41 rfl rfl (am_ok_v mi_41 (am_hl rfl (am_ccR (am_vR_s e3).2 (am_ccI (am_ccI am_cats_0))) rfl) z8) (am_hc am_cats_0 rfl) (fun _ => ⟨rfl, hh_35⟩) (fun o1 hz9 => rm_41 v2 0 v5 h6 o1 (am_vR_s e3).2 hz9) ?_
      rcases am_cI_s hs4 with ⟨v9, h10, f11, hs5⟩ | hs5
      · clear hs4
        refine Or.inl ⟨_, _, f11, ?_⟩
        show am_W X _ 35 131 _ [(.int v9)] h10 _
        refine aw_popi (pc1 := 132) at_35_131 rfl ?_
        exact rg_35_132 qc_35 qc_40 h10 o   hs5
      · clear hs4
        exact Or.inr hs5
    · clear hs2
      exact Or.inr hs3
  · rw [if_neg c1] at hs
    refine aw_ifle_f (pc1 := 95) at_35_92 c1 rfl ?_
    refine aw_vload_n (pc1 := 96) at_35_95 l0 i0 rfl ?_
    refine aw_vdup (pc1 := 97) at_35_96 i0 rfl ?_
    obtain ⟨v12, e13, hs6⟩ := am_bind hs
    clear hs
    refine aw_pG (pc1 := 100) at_35_97 (am_vI_s e13) rfl ?_
    refine aw_iconst (v := 1) (pc1 := 101) at_35_100 (by decide) rfl ?_
    refine aw_iadd (v := (v12 + 1)) (pc1 := 102) at_35_101 rfl rfl ?_
    obtain ⟨h14, e15, hs7⟩ := am_bind hs6
    clear hs6
    refine aw_pP (pc1 := 105) at_35_102 e15 rfl ?_
    refine aw_vload_n (pc1 := 106) at_35_105 l0 i0 rfl ?_
    obtain ⟨v16, e17, hs8⟩ := am_bind hs7
    clear hs7
    refine aw_pG (pc1 := 109) at_35_106 (am_vR_s e17).1 rfl ?_
    refine aw_iload (pc1 := 111) at_35_109 l5 rfl ?_
    refine aw_iconst (v := 0) (pc1 := 112) at_35_111 (by decide) rfl ?_
    obtain ⟨z18, hs9⟩ := am_ift hs8
    clear hs8
    refine aw_call (F := fm_41 N v16 x5 0 h14) (t := true) (na := 3) (kd := 1) (as := [v16, (.int x5), (.int 0)]) at_35_112 (am_k3v kb_41) mn_41 mk_41 rfl rfl (am_ok_v mi_41 (am_hl rfl (am_ccR (am_vR_s e17).2 (am_ccI (am_ccI am_cats_0))) rfl) z18) (am_hc am_cats_0 rfl) (fun _ => ⟨rfl, hh_35⟩) (fun o1 hz9 => rm_41 v16 x5 0 h14 o1 (am_vR_s e17).2 hz9) ?_
    rcases am_cI_s hs9 with ⟨v19, h20, f21, hs10⟩ | hs10
    · clear hs9
      refine Or.inl ⟨_, _, f21, ?_⟩
      show am_W X _ 35 115 _ [(.int v19)] h20 _
      refine aw_popi (pc1 := 116) at_35_115 rfl ?_
      refine aw_goto at_35_116 ?_
      exact rg_35_132 qc_35 qc_40 h20 o   hs10
    · clear hs9
      exact Or.inr hs10
def fg_35_83 (N : Nat) (rc_35 : Value → Int32 → Int32 → Int32 → am_H → Option am_O) (rc_40 : Value → Int32 → Int32 → Int32 → am_H → Option am_O) (x0 : Value) (h : am_H) : Option am_O := (if am_pOk 9 x0 h then am_cV true (fm_39 x0 h) (fun h3 => (fg_35_132 N rc_35 rc_40 h3)) else none)
theorem rg_35_83 {X : am_X} {d : Nat} {N : Nat} {rc_35 : Value → Int32 → Int32 → Int32 → am_H → Option am_O} {rc_40 : Value → Int32 → Int32 → Int32 → am_H → Option am_O} (qc_35 : ∀ (y0 : Value) (y1 : Int32) (y2 : Int32) (y3 : Int32) (h : am_H) (o : am_O), (am_isR y0 = true) → rc_35 y0 y1 y2 y3 h = some o → am_W X (d + 3) 35 0 (am_args 0 [y0, .int y1, .int y2, .int y3]) [] h (fun q => q = o)) (qc_40 : ∀ (y0 : Value) (y1 : Int32) (y2 : Int32) (y3 : Int32) (h : am_H) (o : am_O), (am_isR y0 = true) → rc_40 y0 y1 y2 y3 h = some o → am_W X (d + 3) 40 0 (am_args 0 [y0, .int y1, .int y2, .int y3]) [] h (fun q => q = o)) {lv : am_LV} (x0 : Value) (h : am_H) (o : am_O) (l0 : lv.lookup 0 = some x0) (i0 : am_isR x0 = true) (hs : fg_35_83 N rc_35 rc_40 x0 h = some o) : am_W X (d + 4) 35 83 lv [] h (fun q => q = o) := by
  unfold fg_35_83 at hs
  refine aw_vload_n (pc1 := 84) at_35_83 l0 i0 rfl ?_
  obtain ⟨z1, hs1⟩ := am_ift hs
  clear hs
  refine aw_call (F := fm_39 x0 h) (t := true) (na := 1) (kd := 1) (as := [x0]) at_35_84 (am_k3v kb_39) mn_39 mk_39 rfl rfl (am_ok_v mi_39 (am_hl rfl (am_ccR i0 am_cats_0) rfl) z1) (am_hc am_cats_0 rfl) (fun _ => ⟨rfl, hh_35⟩) (fun o1 hz9 => rm_39 x0 h o1 i0 hz9) ?_
  rcases am_cV_s hs1 with ⟨h3, f4, hs2⟩ | hs2
  · clear hs1
    refine Or.inl ⟨_, _, f4, ?_⟩
    show am_W X _ 35 87 _ [] h3 _
    refine aw_goto at_35_87 ?_
    exact rg_35_132 qc_35 qc_40 h3 o   hs2
  · clear hs1
    exact Or.inr hs2
def fg_35_35 (N : Nat) (rc_35 : Value → Int32 → Int32 → Int32 → am_H → Option am_O) (rc_40 : Value → Int32 → Int32 → Int32 → am_H → Option am_O) (x0 : Value) (h : am_H) : Option am_O := (if am_pOk 9 x0 h then am_cV true (fm_39 x0 h) (fun h3 => (fg_35_132 N rc_35 rc_40 h3)) else none)
theorem rg_35_35 {X : am_X} {d : Nat} {N : Nat} {rc_35 : Value → Int32 → Int32 → Int32 → am_H → Option am_O} {rc_40 : Value → Int32 → Int32 → Int32 → am_H → Option am_O} (qc_35 : ∀ (y0 : Value) (y1 : Int32) (y2 : Int32) (y3 : Int32) (h : am_H) (o : am_O), (am_isR y0 = true) → rc_35 y0 y1 y2 y3 h = some o → am_W X (d + 3) 35 0 (am_args 0 [y0, .int y1, .int y2, .int y3]) [] h (fun q => q = o)) (qc_40 : ∀ (y0 : Value) (y1 : Int32) (y2 : Int32) (y3 : Int32) (h : am_H) (o : am_O), (am_isR y0 = true) → rc_40 y0 y1 y2 y3 h = some o → am_W X (d + 3) 40 0 (am_args 0 [y0, .int y1, .int y2, .int y3]) [] h (fun q => q = o)) {lv : am_LV} (x0 : Value) (h : am_H) (o : am_O) (l0 : lv.lookup 0 = some x0) (i0 : am_isR x0 = true) (hs : fg_35_35 N rc_35 rc_40 x0 h = some o) : am_W X (d + 4) 35 35 lv [] h (fun q => q = o) := by
  unfold fg_35_35 at hs
  refine aw_vload_n (pc1 := 36) at_35_35 l0 i0 rfl ?_
  obtain ⟨z1, hs1⟩ := am_ift hs
  clear hs
  refine aw_call (F := fm_39 x0 h) (t := true) (na := 1) (kd := 1) (as := [x0]) at_35_36 (am_k3v kb_39) mn_39 mk_39 rfl rfl (am_ok_v mi_39 (am_hl rfl (am_ccR i0 am_cats_0) rfl) z1) (am_hc am_cats_0 rfl) (fun _ => ⟨rfl, hh_35⟩) (fun o1 hz9 => rm_39 x0 h o1 i0 hz9) ?_
  rcases am_cV_s hs1 with ⟨h3, f4, hs2⟩ | hs2
  · clear hs1
    refine Or.inl ⟨_, _, f4, ?_⟩
    show am_W X _ 35 39 _ [] h3 _
    refine aw_goto at_35_39 ?_
    exact rg_35_132 qc_35 qc_40 h3 o   hs2
  · clear hs1
    exact Or.inr hs2
def fg_35_0 (N : Nat) (rc_35 : Value → Int32 → Int32 → Int32 → am_H → Option am_O) (rc_40 : Value → Int32 → Int32 → Int32 → am_H → Option am_O) (x0 : Value) (x1 : Int32) (x2 : Int32) (x3 : Int32) (h : am_H) : Option am_O := (if am_pOk 9 x0 h then am_cI true (fm_36 x0 h) (fun v2 h3 => ((am_vR (am_pG 2308 x0 h3)).bind fun v5 => ((am_vI (am_pG 771 v5 h3)).bind fun v7 => (if 60 ≤ v7 then (fg_35_35 N rc_35 rc_40 x0 h3) else (if x2 ≤ 12 then (if ¬ v2 = 40 then (if ¬ x1 = 0 then (fg_35_83 N rc_35 rc_40 x0 h3) else (if ((am_ixF v2 (am_txt 3) 0) + 1) < 5 then (fg_35_90 N rc_35 rc_40 x0 (((am_ixF v2 (am_txt 3) 0) + 1)) h3) else (if ¬ x3 = 0 then (fg_35_90 N rc_35 rc_40 x0 (((am_ixF v2 (am_txt 3) 0) + 1)) h3) else (fg_35_83 N rc_35 rc_40 x0 h3)))) else ((am_vI (am_pG 2306 x0 h3)).bind fun v15 => ((am_pP 2306 x0 (.int (v15 + 1)) h3).bind fun h17 => (if am_pOk 9 x0 h17 then am_cV true (rc_40 x0 x1 x2 x3 h17) (fun h21 => (fg_35_132 N rc_35 rc_40 h21)) else none)))) else (fg_35_35 N rc_35 rc_40 x0 h3)))))) else none)
theorem rg_35_0 {X : am_X} {d : Nat} {N : Nat} {rc_35 : Value → Int32 → Int32 → Int32 → am_H → Option am_O} {rc_40 : Value → Int32 → Int32 → Int32 → am_H → Option am_O} (qc_35 : ∀ (y0 : Value) (y1 : Int32) (y2 : Int32) (y3 : Int32) (h : am_H) (o : am_O), (am_isR y0 = true) → rc_35 y0 y1 y2 y3 h = some o → am_W X (d + 3) 35 0 (am_args 0 [y0, .int y1, .int y2, .int y3]) [] h (fun q => q = o)) (qc_40 : ∀ (y0 : Value) (y1 : Int32) (y2 : Int32) (y3 : Int32) (h : am_H) (o : am_O), (am_isR y0 = true) → rc_40 y0 y1 y2 y3 h = some o → am_W X (d + 3) 40 0 (am_args 0 [y0, .int y1, .int y2, .int y3]) [] h (fun q => q = o)) {lv : am_LV} (x0 : Value) (x1 : Int32) (x2 : Int32) (x3 : Int32) (h : am_H) (o : am_O) (l0 : lv.lookup 0 = some x0) (l1 : lv.lookup 1 = some (.int x1)) (l2 : lv.lookup 2 = some (.int x2)) (l3 : lv.lookup 3 = some (.int x3)) (i0 : am_isR x0 = true) (hs : fg_35_0 N rc_35 rc_40 x0 x1 x2 x3 h = some o) : am_W X (d + 4) 35 0 lv [] h (fun q => q = o) := by
  unfold fg_35_0 at hs
  refine aw_vload_n (pc1 := 1) at_35_0 l0 i0 rfl ?_
  obtain ⟨z1, hs1⟩ := am_ift hs
  clear hs
  refine aw_call (F := fm_36 x0 h) (t := true) (na := 1) (kd := 1) (as := [x0]) at_35_1 (am_k3v kb_36) mn_36 mk_36 rfl rfl (am_ok_v mi_36 (am_hl rfl (am_ccR i0 am_cats_0) rfl) z1) (am_hc am_cats_0 rfl) (fun _ => ⟨rfl, hh_35⟩) (fun o1 hz9 => rm_36 x0 h o1 i0 hz9) ?_
  rcases am_cI_s hs1 with ⟨v2, h3, f4, hs2⟩ | hs2
  · clear hs1
    refine Or.inl ⟨_, _, f4, ?_⟩
    show am_W X _ 35 4 _ [(.int v2)] h3 _
    refine aw_istore (lv1 := am_put1 _ 4 _) (pc1 := 6) at_35_4 rfl rfl ?_
    refine am_W.ldt at_35_6 rfl ?_
    show am_W _ _ _ 8 _ [(Value.float 3)] _ _
    refine aw_iload (pc1 := 10) at_35_8 am_lk0 rfl ?_
    refine am_W.idx at_35_10 rfl rfl (am_hc am_cats_0 rfl) ?_
    show am_W _ _ _ 13 _ [(.int (am_ixF v2 (am_txt 3) 0))] _ _
    refine aw_iconst (v := 1) (pc1 := 14) at_35_13 (by decide) rfl ?_
    refine aw_iadd (v := ((am_ixF v2 (am_txt 3) 0) + 1)) (pc1 := 15) at_35_14 rfl rfl ?_
    refine aw_istore (lv1 := am_put1 _ 5 _) (pc1 := 17) at_35_15 rfl rfl ?_
    refine aw_vload_n (pc1 := 18) at_35_17 (am_lk1 (am_lk1 l0 rfl rfl) rfl rfl) i0 rfl ?_
    obtain ⟨v5, e6, hs3⟩ := am_bind hs2
    clear hs2
    refine aw_pG (pc1 := 21) at_35_18 (am_vR_s e6).1 rfl ?_
    obtain ⟨v7, e8, hs4⟩ := am_bind hs3
    clear hs3
    refine aw_pG (pc1 := 24) at_35_21 (am_vI_s e8) rfl ?_
    refine aw_bipush (v := 60) (pc1 := 26) at_35_24 (by decide) rfl ?_
    by_cases c9 : 60 ≤ v7
    · rw [if_pos c9] at hs4
      refine aw_icge_t at_35_26 c9 ?_
      exact rg_35_35 qc_35 qc_40 x0 h3 o (am_lk1 (am_lk1 l0 rfl rfl) rfl rfl) i0 hs4
    · rw [if_neg c9] at hs4
      refine aw_icge_f (pc1 := 29) at_35_26 c9 rfl ?_
      refine aw_iload_n (pc1 := 30) at_35_29 (am_lk1 (am_lk1 l2 rfl rfl) rfl rfl) rfl ?_
      refine aw_bipush (v := 12) (pc1 := 32) at_35_30 (by decide) rfl ?_
      by_cases c10 : x2 ≤ 12
      · rw [if_pos c10] at hs4
        refine aw_icle_t at_35_32 c10 ?_
        refine aw_iload (pc1 := 44) at_35_42 (am_lk1 am_lk0 rfl rfl) rfl ?_
        refine aw_bipush (v := 40) (pc1 := 46) at_35_44 (by decide) rfl ?_
        by_cases c11 : ¬ v2 = 40
        · rw [if_pos c11] at hs4
          refine aw_icne_t at_35_46 c11 ?_
          refine aw_iload_n (pc1 := 70) at_35_69 (am_lk1 (am_lk1 l1 rfl rfl) rfl rfl) rfl ?_
          by_cases c12 : ¬ x1 = 0
          · rw [if_pos c12] at hs4
            refine aw_ifne_t at_35_70 c12 ?_
            exact rg_35_83 qc_35 qc_40 x0 h3 o (am_lk1 (am_lk1 l0 rfl rfl) rfl rfl) i0 hs4
          · rw [if_neg c12] at hs4
            refine aw_ifne_f (pc1 := 73) at_35_70 c12 rfl ?_
            refine aw_iload (pc1 := 75) at_35_73 am_lk0 rfl ?_
            refine aw_iconst (v := 5) (pc1 := 76) at_35_75 (by decide) rfl ?_
            by_cases c13 : ((am_ixF v2 (am_txt 3) 0) + 1) < 5
            · rw [if_pos c13] at hs4
              refine aw_iclt_t at_35_76 c13 ?_
              exact rg_35_90 qc_35 qc_40 x0 (((am_ixF v2 (am_txt 3) 0) + 1)) h3 o (am_lk1 (am_lk1 l0 rfl rfl) rfl rfl) am_lk0 i0 hs4
            · rw [if_neg c13] at hs4
              refine aw_iclt_f (pc1 := 79) at_35_76 c13 rfl ?_
              refine aw_iload_n (pc1 := 80) at_35_79 (am_lk1 (am_lk1 l3 rfl rfl) rfl rfl) rfl ?_
              by_cases c14 : ¬ x3 = 0
              · rw [if_pos c14] at hs4
                refine aw_ifne_t at_35_80 c14 ?_
                exact rg_35_90 qc_35 qc_40 x0 (((am_ixF v2 (am_txt 3) 0) + 1)) h3 o (am_lk1 (am_lk1 l0 rfl rfl) rfl rfl) am_lk0 i0 hs4
              · rw [if_neg c14] at hs4
                refine aw_ifne_f (pc1 := 83) at_35_80 c14 rfl ?_
                exact rg_35_83 qc_35 qc_40 x0 h3 o (am_lk1 (am_lk1 l0 rfl rfl) rfl rfl) i0 hs4
        · rw [if_neg c11] at hs4
          refine aw_icne_f (pc1 := 49) at_35_46 c11 rfl ?_
          refine aw_vload_n (pc1 := 50) at_35_49 (am_lk1 (am_lk1 l0 rfl rfl) rfl rfl) i0 rfl ?_
          refine aw_vdup (pc1 := 51) at_35_50 i0 rfl ?_
          obtain ⟨v15, e16, hs5⟩ := am_bind hs4
          clear hs4
          refine aw_pG (pc1 := 54) at_35_51 (am_vI_s e16) rfl ?_
          refine aw_iconst (v := 1) (pc1 := 55) at_35_54 (by decide) rfl ?_
          refine aw_iadd (v := (v15 + 1)) (pc1 := 56) at_35_55 rfl rfl ?_
          obtain ⟨h17, e18, hs6⟩ := am_bind hs5
          clear hs5
          refine aw_pP (pc1 := 59) at_35_56 e18 rfl ?_
          refine aw_vload_n (pc1 := 60) at_35_59 (am_lk1 (am_lk1 l0 rfl rfl) rfl rfl) i0 rfl ?_
          refine aw_iload_n (pc1 := 61) at_35_60 (am_lk1 (am_lk1 l1 rfl rfl) rfl rfl) rfl ?_
          refine aw_iload_n (pc1 := 62) at_35_61 (am_lk1 (am_lk1 l2 rfl rfl) rfl rfl) rfl ?_
          refine aw_iload_n (pc1 := 63) at_35_62 (am_lk1 (am_lk1 l3 rfl rfl) rfl rfl) rfl ?_
          obtain ⟨z19, hs7⟩ := am_ift hs6
          clear hs6
          refine aw_call (F := rc_40 x0 x1 x2 x3 h17) (t := true) (na := 4) (kd := 1) (as := [x0, (.int x1), (.int x2), (.int x3)]) at_35_63 (am_k3v kb_40) mn_40 mk_40 rfl rfl (am_ok_v mi_40 (am_hl rfl (am_ccR i0 (am_ccI (am_ccI (am_ccI am_cats_0)))) rfl) z19) (am_hc am_cats_0 rfl) (fun _ => ⟨rfl, hh_35⟩) (fun o1 hz9 => qc_40 x0 x1 x2 x3 h17 o1 i0 hz9) ?_
          rcases am_cV_s hs7 with ⟨h21, f22, hs8⟩ | hs8
          · clear hs7
            refine Or.inl ⟨_, _, f22, ?_⟩
            show am_W X _ 35 66 _ [] h21 _
            refine aw_goto at_35_66 ?_
            exact rg_35_132 qc_35 qc_40 h21 o   hs8
          · clear hs7
            exact Or.inr hs8
      · rw [if_neg c10] at hs4
        refine aw_icle_f (pc1 := 35) at_35_32 c10 rfl ?_
        exact rg_35_35 qc_35 qc_40 x0 h3 o (am_lk1 (am_lk1 l0 rfl rfl) rfl rfl) i0 hs4
  · clear hs1
    exact Or.inr hs2
def fo_35 (N : Nat) (rc_35 : Value → Int32 → Int32 → Int32 → am_H → Option am_O) (rc_40 : Value → Int32 → Int32 → Int32 → am_H → Option am_O) (y0 : Value) (y1 : Int32) (y2 : Int32) (y3 : Int32) (h : am_H) : Option am_O := fg_35_0 N rc_35 rc_40 y0 y1 y2 y3 h
theorem ro_35 {X : am_X} {d : Nat} {N : Nat} {rc_35 : Value → Int32 → Int32 → Int32 → am_H → Option am_O} {rc_40 : Value → Int32 → Int32 → Int32 → am_H → Option am_O} (qc_35 : ∀ (y0 : Value) (y1 : Int32) (y2 : Int32) (y3 : Int32) (h : am_H) (o : am_O), (am_isR y0 = true) → rc_35 y0 y1 y2 y3 h = some o → am_W X (d + 3) 35 0 (am_args 0 [y0, .int y1, .int y2, .int y3]) [] h (fun q => q = o)) (qc_40 : ∀ (y0 : Value) (y1 : Int32) (y2 : Int32) (y3 : Int32) (h : am_H) (o : am_O), (am_isR y0 = true) → rc_40 y0 y1 y2 y3 h = some o → am_W X (d + 3) 40 0 (am_args 0 [y0, .int y1, .int y2, .int y3]) [] h (fun q => q = o)) (y0 : Value) (y1 : Int32) (y2 : Int32) (y3 : Int32) (h : am_H) (o : am_O) (i0 : am_isR y0 = true) (hs : fo_35 N rc_35 rc_40 y0 y1 y2 y3 h = some o) : am_W X (d + 4) 35 0 (am_args 0 [y0, .int y1, .int y2, .int y3]) [] h (fun q => q = o) := by
  rw [am_args_R i0, am_args_I, am_args_I, am_args_I]
  exact rg_35_0 qc_35 qc_40 y0 y1 y2 y3 h o rfl rfl rfl rfl i0 hs
def fg_40_133 (N : Nat) (rc_35 : Value → Int32 → Int32 → Int32 → am_H → Option am_O) (rc_40 : Value → Int32 → Int32 → Int32 → am_H → Option am_O) (x0 : Value) (h : am_H) : Option am_O := (if am_pOk 9 x0 h then am_cI true (fm_42 x0 41 h) (fun v2 h3 => some (.inl (none, h3))) else none)
theorem rg_40_133 {X : am_X} {d : Nat} {N : Nat} {rc_35 : Value → Int32 → Int32 → Int32 → am_H → Option am_O} {rc_40 : Value → Int32 → Int32 → Int32 → am_H → Option am_O} (qc_35 : ∀ (y0 : Value) (y1 : Int32) (y2 : Int32) (y3 : Int32) (h : am_H) (o : am_O), (am_isR y0 = true) → rc_35 y0 y1 y2 y3 h = some o → am_W X (d + 3) 35 0 (am_args 0 [y0, .int y1, .int y2, .int y3]) [] h (fun q => q = o)) (qc_40 : ∀ (y0 : Value) (y1 : Int32) (y2 : Int32) (y3 : Int32) (h : am_H) (o : am_O), (am_isR y0 = true) → rc_40 y0 y1 y2 y3 h = some o → am_W X (d + 3) 40 0 (am_args 0 [y0, .int y1, .int y2, .int y3]) [] h (fun q => q = o)) {lv : am_LV} (x0 : Value) (h : am_H) (o : am_O) (l0 : lv.lookup 0 = some x0) (i0 : am_isR x0 = true) (hs : fg_40_133 N rc_35 rc_40 x0 h = some o) : am_W X (d + 4) 40 133 lv [] h (fun q => q = o) := by
  unfold fg_40_133 at hs
  refine aw_vload_n (pc1 := 134) at_40_133 l0 i0 rfl ?_
  refine aw_bipush (v := 41) (pc1 := 136) at_40_134 (by decide) rfl ?_
  obtain ⟨z1, hs1⟩ := am_ift hs
  clear hs
  refine aw_call (F := fm_42 x0 41 h) (t := true) (na := 2) (kd := 1) (as := [x0, (.int 41)]) at_40_136 (am_k3v kb_42) mn_42 mk_42 rfl rfl (am_ok_v mi_42 (am_hl rfl (am_ccR i0 (am_ccI am_cats_0)) rfl) z1) (am_hc am_cats_0 rfl) (fun _ => ⟨rfl, hh_40⟩) (fun o1 hz9 => rm_42 x0 41 h o1 i0 hz9) ?_
  rcases am_cI_s hs1 with ⟨v2, h3, f4, hs2⟩ | hs2
  · clear hs1
    refine Or.inl ⟨_, _, f4, ?_⟩
    show am_W X _ 40 139 _ [(.int v2)] h3 _
    refine aw_popi (pc1 := 140) at_40_139 rfl ?_
    cases hs2
    exact aw_vret at_40_140 rt_40 rfl
  · clear hs1
    exact Or.inr hs2
def fg_40_124 (N : Nat) (rc_35 : Value → Int32 → Int32 → Int32 → am_H → Option am_O) (rc_40 : Value → Int32 → Int32 → Int32 → am_H → Option am_O) (rec_72 : Value → Int32 → Int32 → Int32 → Int32 → am_H → Option am_O) (x0 : Value) (x2 : Int32) (x3 : Int32) (x5 : Int32) (x6 : Int32) (s0 : Value) (s1 : Int32) (s2 : Int32) (s3 : Int32) (h : am_H) : Option am_O := (if am_pOk 9 s0 h then am_cV true (rc_35 s0 s1 s2 s3 h) (fun h3 => (rec_72 x0 x2 x3 x5 ((x6 + 1)) h3)) else none)
theorem rg_40_124 {X : am_X} {d : Nat} {N : Nat} {rc_35 : Value → Int32 → Int32 → Int32 → am_H → Option am_O} {rc_40 : Value → Int32 → Int32 → Int32 → am_H → Option am_O} {rec_72 : Value → Int32 → Int32 → Int32 → Int32 → am_H → Option am_O} (q_72 : ∀ (x0 : Value) (x2 : Int32) (x3 : Int32) (x5 : Int32) (x6 : Int32) (h : am_H) (o : am_O), rec_72 x0 x2 x3 x5 x6 h = some o → ∀ lv : am_LV, (lv.lookup 0 = some x0) → (lv.lookup 2 = some (.int x2)) → (lv.lookup 3 = some (.int x3)) → (lv.lookup 5 = some (.int x5)) → (lv.lookup 6 = some (.int x6)) → (am_isR x0 = true) → am_W X (d + 4) 40 72 lv [] h (fun q => q = o)) (qc_35 : ∀ (y0 : Value) (y1 : Int32) (y2 : Int32) (y3 : Int32) (h : am_H) (o : am_O), (am_isR y0 = true) → rc_35 y0 y1 y2 y3 h = some o → am_W X (d + 3) 35 0 (am_args 0 [y0, .int y1, .int y2, .int y3]) [] h (fun q => q = o)) (qc_40 : ∀ (y0 : Value) (y1 : Int32) (y2 : Int32) (y3 : Int32) (h : am_H) (o : am_O), (am_isR y0 = true) → rc_40 y0 y1 y2 y3 h = some o → am_W X (d + 3) 40 0 (am_args 0 [y0, .int y1, .int y2, .int y3]) [] h (fun q => q = o)) {lv : am_LV} (x0 : Value) (x2 : Int32) (x3 : Int32) (x5 : Int32) (x6 : Int32) (s0 : Value) (s1 : Int32) (s2 : Int32) (s3 : Int32) (h : am_H) (o : am_O) (l0 : lv.lookup 0 = some x0) (l2 : lv.lookup 2 = some (.int x2)) (l3 : lv.lookup 3 = some (.int x3)) (l5 : lv.lookup 5 = some (.int x5)) (l6 : lv.lookup 6 = some (.int x6)) (i0 : am_isR x0 = true) (j0 : am_isR s0 = true) (hs : fg_40_124 N rc_35 rc_40 rec_72 x0 x2 x3 x5 x6 s0 s1 s2 s3 h = some o) : am_W X (d + 4) 40 124 lv [(.int s3), (.int s2), (.int s1), s0] h (fun q => q = o) := by
  unfold fg_40_124 at hs
  obtain ⟨z1, hs1⟩ := am_ift hs
  clear hs
  refine aw_call (F := rc_35 s0 s1 s2 s3 h) (t := true) (na := 4) (kd := 1) (as := [s0, (.int s1), (.int s2), (.int s3)]) at_40_124 (am_k3v kb_35) mn_35 mk_35 rfl rfl (am_ok_v mi_35 (am_hl rfl (am_ccR j0 (am_ccI (am_ccI (am_ccI am_cats_0)))) rfl) z1) (am_hc am_cats_0 rfl) (fun _ => ⟨rfl, hh_40⟩) (fun o1 hz9 => qc_35 s0 s1 s2 s3 h o1 j0 hz9) ?_
  rcases am_cV_s hs1 with ⟨h3, f4, hs2⟩ | hs2
  · clear hs1
    refine Or.inl ⟨_, _, f4, ?_⟩
    show am_W X _ 40 127 _ [] h3 _
    refine aw_iinc (v := (x6 + 1)) (c := 1) (lv1 := am_put1 _ 6 _) (pc1 := 130) at_40_127 l6 (by decide) rfl rfl rfl ?_
    refine aw_goto at_40_130 ?_
    exact q_72 x0 x2 x3 x5 ((x6 + 1)) h3 o hs2 _ (am_lk1 l0 rfl rfl) (am_lk1 l2 rfl rfl) (am_lk1 l3 rfl rfl) (am_lk1 l5 rfl rfl) am_lk0 i0
  · clear hs1
    exact Or.inr hs2
def fg_40_123 (N : Nat) (rc_35 : Value → Int32 → Int32 → Int32 → am_H → Option am_O) (rc_40 : Value → Int32 → Int32 → Int32 → am_H → Option am_O) (rec_72 : Value → Int32 → Int32 → Int32 → Int32 → am_H → Option am_O) (x0 : Value) (x2 : Int32) (x3 : Int32) (x5 : Int32) (x6 : Int32) (s0 : Value) (s1 : Int32) (s2 : Int32) (h : am_H) : Option am_O := (fg_40_124 N rc_35 rc_40 rec_72 x0 x2 x3 x5 x6 s0 s1 s2 0 h)
theorem rg_40_123 {X : am_X} {d : Nat} {N : Nat} {rc_35 : Value → Int32 → Int32 → Int32 → am_H → Option am_O} {rc_40 : Value → Int32 → Int32 → Int32 → am_H → Option am_O} {rec_72 : Value → Int32 → Int32 → Int32 → Int32 → am_H → Option am_O} (q_72 : ∀ (x0 : Value) (x2 : Int32) (x3 : Int32) (x5 : Int32) (x6 : Int32) (h : am_H) (o : am_O), rec_72 x0 x2 x3 x5 x6 h = some o → ∀ lv : am_LV, (lv.lookup 0 = some x0) → (lv.lookup 2 = some (.int x2)) → (lv.lookup 3 = some (.int x3)) → (lv.lookup 5 = some (.int x5)) → (lv.lookup 6 = some (.int x6)) → (am_isR x0 = true) → am_W X (d + 4) 40 72 lv [] h (fun q => q = o)) (qc_35 : ∀ (y0 : Value) (y1 : Int32) (y2 : Int32) (y3 : Int32) (h : am_H) (o : am_O), (am_isR y0 = true) → rc_35 y0 y1 y2 y3 h = some o → am_W X (d + 3) 35 0 (am_args 0 [y0, .int y1, .int y2, .int y3]) [] h (fun q => q = o)) (qc_40 : ∀ (y0 : Value) (y1 : Int32) (y2 : Int32) (y3 : Int32) (h : am_H) (o : am_O), (am_isR y0 = true) → rc_40 y0 y1 y2 y3 h = some o → am_W X (d + 3) 40 0 (am_args 0 [y0, .int y1, .int y2, .int y3]) [] h (fun q => q = o)) {lv : am_LV} (x0 : Value) (x2 : Int32) (x3 : Int32) (x5 : Int32) (x6 : Int32) (s0 : Value) (s1 : Int32) (s2 : Int32) (h : am_H) (o : am_O) (l0 : lv.lookup 0 = some x0) (l2 : lv.lookup 2 = some (.int x2)) (l3 : lv.lookup 3 = some (.int x3)) (l5 : lv.lookup 5 = some (.int x5)) (l6 : lv.lookup 6 = some (.int x6)) (i0 : am_isR x0 = true) (j0 : am_isR s0 = true) (hs : fg_40_123 N rc_35 rc_40 rec_72 x0 x2 x3 x5 x6 s0 s1 s2 h = some o) : am_W X (d + 4) 40 123 lv [(.int s2), (.int s1), s0] h (fun q => q = o) := by
  unfold fg_40_123 at hs
  refine aw_iconst (v := 0) (pc1 := 124) at_40_123 (by decide) rfl ?_
  exact rg_40_124 q_72 qc_35 qc_40 x0 x2 x3 x5 x6 s0 s1 s2 0 h o l0 l2 l3 l5 l6 i0 j0 hs
def fg_40_119 (N : Nat) (rc_35 : Value → Int32 → Int32 → Int32 → am_H → Option am_O) (rc_40 : Value → Int32 → Int32 → Int32 → am_H → Option am_O) (rec_72 : Value → Int32 → Int32 → Int32 → Int32 → am_H → Option am_O) (x0 : Value) (x2 : Int32) (x3 : Int32) (x5 : Int32) (x6 : Int32) (s0 : Value) (s1 : Int32) (s2 : Int32) (h : am_H) : Option am_O := (fg_40_124 N rc_35 rc_40 rec_72 x0 x2 x3 x5 x6 s0 s1 s2 1 h)
theorem rg_40_119 {X : am_X} {d : Nat} {N : Nat} {rc_35 : Value → Int32 → Int32 → Int32 → am_H → Option am_O} {rc_40 : Value → Int32 → Int32 → Int32 → am_H → Option am_O} {rec_72 : Value → Int32 → Int32 → Int32 → Int32 → am_H → Option am_O} (q_72 : ∀ (x0 : Value) (x2 : Int32) (x3 : Int32) (x5 : Int32) (x6 : Int32) (h : am_H) (o : am_O), rec_72 x0 x2 x3 x5 x6 h = some o → ∀ lv : am_LV, (lv.lookup 0 = some x0) → (lv.lookup 2 = some (.int x2)) → (lv.lookup 3 = some (.int x3)) → (lv.lookup 5 = some (.int x5)) → (lv.lookup 6 = some (.int x6)) → (am_isR x0 = true) → am_W X (d + 4) 40 72 lv [] h (fun q => q = o)) (qc_35 : ∀ (y0 : Value) (y1 : Int32) (y2 : Int32) (y3 : Int32) (h : am_H) (o : am_O), (am_isR y0 = true) → rc_35 y0 y1 y2 y3 h = some o → am_W X (d + 3) 35 0 (am_args 0 [y0, .int y1, .int y2, .int y3]) [] h (fun q => q = o)) (qc_40 : ∀ (y0 : Value) (y1 : Int32) (y2 : Int32) (y3 : Int32) (h : am_H) (o : am_O), (am_isR y0 = true) → rc_40 y0 y1 y2 y3 h = some o → am_W X (d + 3) 40 0 (am_args 0 [y0, .int y1, .int y2, .int y3]) [] h (fun q => q = o)) {lv : am_LV} (x0 : Value) (x2 : Int32) (x3 : Int32) (x5 : Int32) (x6 : Int32) (s0 : Value) (s1 : Int32) (s2 : Int32) (h : am_H) (o : am_O) (l0 : lv.lookup 0 = some x0) (l2 : lv.lookup 2 = some (.int x2)) (l3 : lv.lookup 3 = some (.int x3)) (l5 : lv.lookup 5 = some (.int x5)) (l6 : lv.lookup 6 = some (.int x6)) (i0 : am_isR x0 = true) (j0 : am_isR s0 = true) (hs : fg_40_119 N rc_35 rc_40 rec_72 x0 x2 x3 x5 x6 s0 s1 s2 h = some o) : am_W X (d + 4) 40 119 lv [(.int s2), (.int s1), s0] h (fun q => q = o) := by
  unfold fg_40_119 at hs
  refine aw_iconst (v := 1) (pc1 := 120) at_40_119 (by decide) rfl ?_
  refine aw_goto at_40_120 ?_
  exact rg_40_124 q_72 qc_35 qc_40 x0 x2 x3 x5 x6 s0 s1 s2 1 h o l0 l2 l3 l5 l6 i0 j0 hs
def fg_40_72 (N : Nat) (rc_35 : Value → Int32 → Int32 → Int32 → am_H → Option am_O) (rc_40 : Value → Int32 → Int32 → Int32 → am_H → Option am_O) : Nat → Value → Int32 → Int32 → Int32 → Int32 → am_H → Option am_O
  | 0 => fun _ _ _ _ _ _ => none
  | K + 1 => fun x0 x2 x3 x5 x6 h => am_cI false (fm_14 x5 h) (fun v1 h2 => (if v1 ≤ x6 then (fg_40_133 N rc_35 rc_40 x0 h2) else (if am_pOk 9 x0 h2 then am_cI true (fm_42 x0 32 h2) (fun v6 h7 => (if v6 = 0 then (fg_40_133 N rc_35 rc_40 x0 h7) else am_cI false (fm_13 x5 x6 h7) (fun v10 h11 => (if ¬ x3 = 0 then (fg_40_119 N rc_35 rc_40 (fg_40_72 N rc_35 rc_40 K) x0 x2 x3 x5 x6 x0 v10 ((x2 + 1)) h11) else (if ¬ x5 = 19 then (fg_40_123 N rc_35 rc_40 (fg_40_72 N rc_35 rc_40 K) x0 x2 x3 x5 x6 x0 v10 ((x2 + 1)) h11) else (if ¬ x6 = 1 then (fg_40_123 N rc_35 rc_40 (fg_40_72 N rc_35 rc_40 K) x0 x2 x3 x5 x6 x0 v10 ((x2 + 1)) h11) else (fg_40_119 N rc_35 rc_40 (fg_40_72 N rc_35 rc_40 K) x0 x2 x3 x5 x6 x0 v10 ((x2 + 1)) h11))))))) else none)))
theorem rg_40_72 {X : am_X} {d : Nat} {N : Nat} {rc_35 : Value → Int32 → Int32 → Int32 → am_H → Option am_O} {rc_40 : Value → Int32 → Int32 → Int32 → am_H → Option am_O} (qc_35 : ∀ (y0 : Value) (y1 : Int32) (y2 : Int32) (y3 : Int32) (h : am_H) (o : am_O), (am_isR y0 = true) → rc_35 y0 y1 y2 y3 h = some o → am_W X (d + 3) 35 0 (am_args 0 [y0, .int y1, .int y2, .int y3]) [] h (fun q => q = o)) (qc_40 : ∀ (y0 : Value) (y1 : Int32) (y2 : Int32) (y3 : Int32) (h : am_H) (o : am_O), (am_isR y0 = true) → rc_40 y0 y1 y2 y3 h = some o → am_W X (d + 3) 40 0 (am_args 0 [y0, .int y1, .int y2, .int y3]) [] h (fun q => q = o)) : ∀ (K : Nat) (x0 : Value) (x2 : Int32) (x3 : Int32) (x5 : Int32) (x6 : Int32) (h : am_H) (o : am_O), fg_40_72 N rc_35 rc_40 K x0 x2 x3 x5 x6 h = some o → ∀ lv : am_LV, (lv.lookup 0 = some x0) → (lv.lookup 2 = some (.int x2)) → (lv.lookup 3 = some (.int x3)) → (lv.lookup 5 = some (.int x5)) → (lv.lookup 6 = some (.int x6)) → (am_isR x0 = true) → am_W X (d + 4) 40 72 lv [] h (fun q => q = o) := by
  intro K
  induction K with
  | zero => intro x0 x2 x3 x5 x6 h o hs; cases hs
  | succ K ih =>
    intro x0 x2 x3 x5 x6 h o hs lv l0 l2 l3 l5 l6 i0
    unfold fg_40_72 at hs
    refine aw_iload (pc1 := 74) at_40_72 l6 rfl ?_
    refine aw_iload (pc1 := 76) at_40_74 l5 rfl ?_
    refine aw_call (F := fm_14 x5 h) (t := false) (na := 1) (kd := 0) (as := [(.int x5)]) at_40_76 (am_k3s kb_14) mn_14 mk_14 rfl rfl (am_ok_s mi_14 (am_hl rfl (am_ccI am_cats_0) rfl)) (am_hc (am_ccI am_cats_0) rfl) (fun hz9 => by cases hz9) (fun o1 hz9 => rm_14 x5 h o1  hz9) ?_
    rcases am_cI_s hs with ⟨v1, h2, f3, hs1⟩ | hs1
    · clear hs
      refine Or.inl ⟨_, _, f3, ?_⟩
      show am_W X _ 40 79 _ [(.int v1), (.int x6)] h2 _
      by_cases c4 : v1 ≤ x6
      · rw [if_pos c4] at hs1
        refine aw_icge_t at_40_79 c4 ?_
        exact rg_40_133 qc_35 qc_40 x0 h2 o l0 i0 hs1
      · rw [if_neg c4] at hs1
        refine aw_icge_f (pc1 := 82) at_40_79 c4 rfl ?_
        refine aw_vload_n (pc1 := 83) at_40_82 l0 i0 rfl ?_
        refine aw_bipush (v := 32) (pc1 := 85) at_40_83 (by decide) rfl ?_
        obtain ⟨z5, hs2⟩ := am_ift hs1
        clear hs1
        refine aw_call (F := fm_42 x0 32 h2) (t := true) (na := 2) (kd := 1) (as := [x0, (.int 32)]) at_40_85 (am_k3v kb_42) mn_42 mk_42 rfl rfl (am_ok_v mi_42 (am_hl rfl (am_ccR i0 (am_ccI am_cats_0)) rfl) z5) (am_hc am_cats_0 rfl) (fun _ => ⟨rfl, hh_40⟩) (fun o1 hz9 => rm_42 x0 32 h2 o1 i0 hz9) ?_
        rcases am_cI_s hs2 with ⟨v6, h7, f8, hs3⟩ | hs3
        · clear hs2
          refine Or.inl ⟨_, _, f8, ?_⟩
          show am_W X _ 40 88 _ [(.int v6)] h7 _
          by_cases c9 : v6 = 0
          · rw [if_pos c9] at hs3
            refine aw_ifeq_t at_40_88 c9 ?_
            exact rg_40_133 qc_35 qc_40 x0 h7 o l0 i0 hs3
          · rw [if_neg c9] at hs3
            refine aw_ifeq_f (pc1 := 91) at_40_88 c9 rfl ?_
            refine aw_vload_n (pc1 := 92) at_40_91 l0 i0 rfl ?_
            refine aw_iload (pc1 := 94) at_40_92 l5 rfl ?_
            refine aw_iload (pc1 := 96) at_40_94 l6 rfl ?_
            refine aw_call (F := fm_13 x5 x6 h7) (t := false) (na := 2) (kd := 0) (as := [(.int x5), (.int x6)]) at_40_96 (am_k3s kb_13) mn_13 mk_13 rfl rfl (am_ok_s mi_13 (am_hl rfl (am_ccI (am_ccI am_cats_0)) rfl)) (am_hc (am_ccR i0 am_cats_0) rfl) (fun hz9 => by cases hz9) (fun o1 hz9 => rm_13 x5 x6 h7 o1  hz9) ?_
            rcases am_cI_s hs3 with ⟨v10, h11, f12, hs4⟩ | hs4
            · clear hs3
              refine Or.inl ⟨_, _, f12, ?_⟩
              show am_W X _ 40 99 _ [(.int v10), x0] h11 _
              refine aw_iload_n (pc1 := 100) at_40_99 l2 rfl ?_
              refine aw_iconst (v := 1) (pc1 := 101) at_40_100 (by decide) rfl ?_
              refine aw_iadd (v := (x2 + 1)) (pc1 := 102) at_40_101 rfl rfl ?_
              refine aw_iload_n (pc1 := 103) at_40_102 l3 rfl ?_
              by_cases c13 : ¬ x3 = 0
              · rw [if_pos c13] at hs4
                refine aw_ifne_t at_40_103 c13 ?_
                exact rg_40_119 (fun z0 z1 z2 z3 z4 h o hs4 => ih z0 z1 z2 z3 z4 h o hs4) qc_35 qc_40 x0 x2 x3 x5 x6 x0 v10 ((x2 + 1)) h11 o l0 l2 l3 l5 l6 i0 i0 hs4
              · rw [if_neg c13] at hs4
                refine aw_ifne_f (pc1 := 106) at_40_103 c13 rfl ?_
                refine aw_iload (pc1 := 108) at_40_106 l5 rfl ?_
                refine aw_bipush (v := 19) (pc1 := 110) at_40_108 (by decide) rfl ?_
                by_cases c14 : ¬ x5 = 19
                · rw [if_pos c14] at hs4
                  refine aw_icne_t at_40_110 c14 ?_
                  exact rg_40_123 (fun z0 z1 z2 z3 z4 h o hs4 => ih z0 z1 z2 z3 z4 h o hs4) qc_35 qc_40 x0 x2 x3 x5 x6 x0 v10 ((x2 + 1)) h11 o l0 l2 l3 l5 l6 i0 i0 hs4
                · rw [if_neg c14] at hs4
                  refine aw_icne_f (pc1 := 113) at_40_110 c14 rfl ?_
                  refine aw_iload (pc1 := 115) at_40_113 l6 rfl ?_
                  refine aw_iconst (v := 1) (pc1 := 116) at_40_115 (by decide) rfl ?_
                  by_cases c15 : ¬ x6 = 1
                  · rw [if_pos c15] at hs4
                    refine aw_icne_t at_40_116 c15 ?_
                    exact rg_40_123 (fun z0 z1 z2 z3 z4 h o hs4 => ih z0 z1 z2 z3 z4 h o hs4) qc_35 qc_40 x0 x2 x3 x5 x6 x0 v10 ((x2 + 1)) h11 o l0 l2 l3 l5 l6 i0 i0 hs4
                  · rw [if_neg c15] at hs4
                    refine aw_icne_f (pc1 := 119) at_40_116 c15 rfl ?_
                    exact rg_40_119 (fun z0 z1 z2 z3 z4 h o hs4 => ih z0 z1 z2 z3 z4 h o hs4) qc_35 qc_40 x0 x2 x3 x5 x6 x0 v10 ((x2 + 1)) h11 o l0 l2 l3 l5 l6 i0 i0 hs4
            · clear hs3
              exact Or.inr hs4
        · clear hs2
          exact Or.inr hs3
    · clear hs
      exact Or.inr hs1
def fg_40_48 (N : Nat) (rc_35 : Value → Int32 → Int32 → Int32 → am_H → Option am_O) (rc_40 : Value → Int32 → Int32 → Int32 → am_H → Option am_O) (x0 : Value) (x2 : Int32) (x3 : Int32) (x5 : Int32) (h : am_H) : Option am_O := ((am_vI (am_pG 2306 x0 h)).bind fun v1 => ((am_pP 2306 x0 (.int (v1 + 1)) h).bind fun h3 => ((am_vR (am_pG 2308 x0 h3)).bind fun v5 => (if am_pOk 3 v5 h3 then am_cI true (fm_41 N v5 x5 0 h3) (fun v8 h9 => (fg_40_72 N rc_35 rc_40 N x0 x2 x3 x5 0 h9)) else none))))
theorem rg_40_48 {X : am_X} {d : Nat} {N : Nat} {rc_35 : Value → Int32 → Int32 → Int32 → am_H → Option am_O} {rc_40 : Value → Int32 → Int32 → Int32 → am_H → Option am_O} (qc_35 : ∀ (y0 : Value) (y1 : Int32) (y2 : Int32) (y3 : Int32) (h : am_H) (o : am_O), (am_isR y0 = true) → rc_35 y0 y1 y2 y3 h = some o → am_W X (d + 3) 35 0 (am_args 0 [y0, .int y1, .int y2, .int y3]) [] h (fun q => q = o)) (qc_40 : ∀ (y0 : Value) (y1 : Int32) (y2 : Int32) (y3 : Int32) (h : am_H) (o : am_O), (am_isR y0 = true) → rc_40 y0 y1 y2 y3 h = some o → am_W X (d + 3) 40 0 (am_args 0 [y0, .int y1, .int y2, .int y3]) [] h (fun q => q = o)) {lv : am_LV} (x0 : Value) (x2 : Int32) (x3 : Int32) (x5 : Int32) (h : am_H) (o : am_O) (l0 : lv.lookup 0 = some x0) (l2 : lv.lookup 2 = some (.int x2)) (l3 : lv.lookup 3 = some (.int x3)) (l5 : lv.lookup 5 = some (.int x5)) (i0 : am_isR x0 = true) (hs : fg_40_48 N rc_35 rc_40 x0 x2 x3 x5 h = some o) : am_W X (d + 4) 40 48 lv [] h (fun q => q = o) := by
  unfold fg_40_48 at hs
  refine aw_vload_n (pc1 := 49) at_40_48 l0 i0 rfl ?_
  refine aw_vdup (pc1 := 50) at_40_49 i0 rfl ?_
  obtain ⟨v1, e2, hs1⟩ := am_bind hs
  clear hs
  refine aw_pG (pc1 := 53) at_40_50 (am_vI_s e2) rfl ?_
  refine aw_iconst (v := 1) (pc1 := 54) at_40_53 (by decide) rfl ?_
  refine aw_iadd (v := (v1 + 1)) (pc1 := 55) at_40_54 rfl rfl ?_
  obtain ⟨h3, e4, hs2⟩ := am_bind hs1
  clear hs1
  refine aw_pP (pc1 := 58) at_40_55 e4 rfl ?_
  refine aw_vload_n (pc1 := 59) at_40_58 l0 i0 rfl ?_
  obtain ⟨v5, e6, hs3⟩ := am_bind hs2
  clear hs2
  refine aw_pG (pc1 := 62) at_40_59 (am_vR_s e6).1 rfl ?_
  refine aw_iload (pc1 := 64) at_40_62 l5 rfl ?_
  refine aw_iconst (v := 0) (pc1 := 65) at_40_64 (by decide) rfl ?_
  obtain ⟨z7, hs4⟩ := am_ift hs3
  clear hs3
  refine aw_call (F := fm_41 N v5 x5 0 h3) (t := true) (na := 3) (kd := 1) (as := [v5, (.int x5), (.int 0)]) at_40_65 (am_k3v kb_41) mn_41 mk_41 rfl rfl (am_ok_v mi_41 (am_hl rfl (am_ccR (am_vR_s e6).2 (am_ccI (am_ccI am_cats_0))) rfl) z7) (am_hc am_cats_0 rfl) (fun _ => ⟨rfl, hh_40⟩) (fun o1 hz9 => rm_41 v5 x5 0 h3 o1 (am_vR_s e6).2 hz9) ?_
  rcases am_cI_s hs4 with ⟨v8, h9, f10, hs5⟩ | hs5
  · clear hs4
    refine Or.inl ⟨_, _, f10, ?_⟩
    show am_W X _ 40 68 _ [(.int v8)] h9 _
    refine aw_popi (pc1 := 69) at_40_68 rfl ?_
    refine aw_iconst (v := 0) (pc1 := 70) at_40_69 (by decide) rfl ?_
    refine aw_istore (lv1 := am_put1 _ 6 _) (pc1 := 72) at_40_70 rfl rfl ?_
    exact rg_40_72 qc_35 qc_40 N x0 x2 x3 x5 0 h9 o hs5 _ (am_lk1 l0 rfl rfl) (am_lk1 l2 rfl rfl) (am_lk1 l3 rfl rfl) (am_lk1 l5 rfl rfl) am_lk0 i0
  · clear hs4
    exact Or.inr hs5
def fg_40_43 (N : Nat) (rc_35 : Value → Int32 → Int32 → Int32 → am_H → Option am_O) (rc_40 : Value → Int32 → Int32 → Int32 → am_H → Option am_O) (x0 : Value) (h : am_H) : Option am_O := (if am_pOk 9 x0 h then am_cV true (fm_39 x0 h) (fun h3 => some (.inl (none, h3))) else none)
theorem rg_40_43 {X : am_X} {d : Nat} {N : Nat} {rc_35 : Value → Int32 → Int32 → Int32 → am_H → Option am_O} {rc_40 : Value → Int32 → Int32 → Int32 → am_H → Option am_O} (qc_35 : ∀ (y0 : Value) (y1 : Int32) (y2 : Int32) (y3 : Int32) (h : am_H) (o : am_O), (am_isR y0 = true) → rc_35 y0 y1 y2 y3 h = some o → am_W X (d + 3) 35 0 (am_args 0 [y0, .int y1, .int y2, .int y3]) [] h (fun q => q = o)) (qc_40 : ∀ (y0 : Value) (y1 : Int32) (y2 : Int32) (y3 : Int32) (h : am_H) (o : am_O), (am_isR y0 = true) → rc_40 y0 y1 y2 y3 h = some o → am_W X (d + 3) 40 0 (am_args 0 [y0, .int y1, .int y2, .int y3]) [] h (fun q => q = o)) {lv : am_LV} (x0 : Value) (h : am_H) (o : am_O) (l0 : lv.lookup 0 = some x0) (i0 : am_isR x0 = true) (hs : fg_40_43 N rc_35 rc_40 x0 h = some o) : am_W X (d + 4) 40 43 lv [] h (fun q => q = o) := by
  unfold fg_40_43 at hs
  refine aw_vload_n (pc1 := 44) at_40_43 l0 i0 rfl ?_
  obtain ⟨z1, hs1⟩ := am_ift hs
  clear hs
  refine aw_call (F := fm_39 x0 h) (t := true) (na := 1) (kd := 1) (as := [x0]) at_40_44 (am_k3v kb_39) mn_39 mk_39 rfl rfl (am_ok_v mi_39 (am_hl rfl (am_ccR i0 am_cats_0) rfl) z1) (am_hc am_cats_0 rfl) (fun _ => ⟨rfl, hh_40⟩) (fun o1 hz9 => rm_39 x0 h o1 i0 hz9) ?_
  rcases am_cV_s hs1 with ⟨h3, f4, hs2⟩ | hs2
  · clear hs1
    refine Or.inl ⟨_, _, f4, ?_⟩
    show am_W X _ 40 47 _ [] h3 _
    cases hs2
    exact aw_vret at_40_47 rt_40 rfl
  · clear hs1
    exact Or.inr hs2
def fg_40_0 (N : Nat) (rc_35 : Value → Int32 → Int32 → Int32 → am_H → Option am_O) (rc_40 : Value → Int32 → Int32 → Int32 → am_H → Option am_O) (x0 : Value) (x1 : Int32) (x2 : Int32) (x3 : Int32) (h : am_H) : Option am_O := (if am_pOk 9 x0 h then am_cI true (fm_36 x0 h) (fun v2 h3 => (if (am_ixF v2 (am_txt 4) 0) < 0 then (fg_40_43 N rc_35 rc_40 x0 h3) else am_cI false (fm_11 (((am_ixF v2 (am_txt 4) 0) + 7)) h3) (fun v6 h7 => (if ¬ v6 = x1 then (fg_40_43 N rc_35 rc_40 x0 h7) else (if ¬ ((am_ixF v2 (am_txt 4) 0) + 7) = 19 then (fg_40_48 N rc_35 rc_40 x0 x2 x3 (((am_ixF v2 (am_txt 4) 0) + 7)) h7) else (if x3 = 0 then (fg_40_48 N rc_35 rc_40 x0 x2 x3 (((am_ixF v2 (am_txt 4) 0) + 7)) h7) else (fg_40_43 N rc_35 rc_40 x0 h7))))))) else none)
theorem rg_40_0 {X : am_X} {d : Nat} {N : Nat} {rc_35 : Value → Int32 → Int32 → Int32 → am_H → Option am_O} {rc_40 : Value → Int32 → Int32 → Int32 → am_H → Option am_O} (qc_35 : ∀ (y0 : Value) (y1 : Int32) (y2 : Int32) (y3 : Int32) (h : am_H) (o : am_O), (am_isR y0 = true) → rc_35 y0 y1 y2 y3 h = some o → am_W X (d + 3) 35 0 (am_args 0 [y0, .int y1, .int y2, .int y3]) [] h (fun q => q = o)) (qc_40 : ∀ (y0 : Value) (y1 : Int32) (y2 : Int32) (y3 : Int32) (h : am_H) (o : am_O), (am_isR y0 = true) → rc_40 y0 y1 y2 y3 h = some o → am_W X (d + 3) 40 0 (am_args 0 [y0, .int y1, .int y2, .int y3]) [] h (fun q => q = o)) {lv : am_LV} (x0 : Value) (x1 : Int32) (x2 : Int32) (x3 : Int32) (h : am_H) (o : am_O) (l0 : lv.lookup 0 = some x0) (l1 : lv.lookup 1 = some (.int x1)) (l2 : lv.lookup 2 = some (.int x2)) (l3 : lv.lookup 3 = some (.int x3)) (i0 : am_isR x0 = true) (hs : fg_40_0 N rc_35 rc_40 x0 x1 x2 x3 h = some o) : am_W X (d + 4) 40 0 lv [] h (fun q => q = o) := by
  unfold fg_40_0 at hs
  refine am_W.ldt at_40_0 rfl ?_
  show am_W _ _ _ 2 _ [(Value.float 4)] _ _
  refine aw_vload_n (pc1 := 3) at_40_2 l0 i0 rfl ?_
  obtain ⟨z1, hs1⟩ := am_ift hs
  clear hs
  refine aw_call (F := fm_36 x0 h) (t := true) (na := 1) (kd := 1) (as := [x0]) at_40_3 (am_k3v kb_36) mn_36 mk_36 rfl rfl (am_ok_v mi_36 (am_hl rfl (am_ccR i0 am_cats_0) rfl) z1) (am_hc (am_ccR rfl am_cats_0) rfl) (fun _ => ⟨rfl, hh_40⟩) (fun o1 hz9 => rm_36 x0 h o1 i0 hz9) ?_
  rcases am_cI_s hs1 with ⟨v2, h3, f4, hs2⟩ | hs2
  · clear hs1
    refine Or.inl ⟨_, _, f4, ?_⟩
    show am_W X _ 40 6 _ [(.int v2), (Value.float 4)] h3 _
    refine am_W.idx at_40_6 rfl rfl (am_hc am_cats_0 rfl) ?_
    show am_W _ _ _ 9 _ [(.int (am_ixF v2 (am_txt 4) 0))] _ _
    refine aw_istore (lv1 := am_put1 _ 4 _) (pc1 := 11) at_40_9 rfl rfl ?_
    refine aw_iload (pc1 := 13) at_40_11 am_lk0 rfl ?_
    refine aw_bipush (v := 7) (pc1 := 15) at_40_13 (by decide) rfl ?_
    refine aw_iadd (v := ((am_ixF v2 (am_txt 4) 0) + 7)) (pc1 := 16) at_40_15 rfl rfl ?_
    refine aw_istore (lv1 := am_put1 _ 5 _) (pc1 := 18) at_40_16 rfl rfl ?_
    refine aw_iload (pc1 := 20) at_40_18 (am_lk1 am_lk0 rfl rfl) rfl ?_
    by_cases c5 : (am_ixF v2 (am_txt 4) 0) < 0
    · rw [if_pos c5] at hs2
      refine aw_iflt_t at_40_20 c5 ?_
      exact rg_40_43 qc_35 qc_40 x0 h3 o (am_lk1 (am_lk1 l0 rfl rfl) rfl rfl) i0 hs2
    · rw [if_neg c5] at hs2
      refine aw_iflt_f (pc1 := 23) at_40_20 c5 rfl ?_
      refine aw_iload (pc1 := 25) at_40_23 am_lk0 rfl ?_
      refine aw_call (F := fm_11 (((am_ixF v2 (am_txt 4) 0) + 7)) h3) (t := false) (na := 1) (kd := 0) (as := [(.int ((am_ixF v2 (am_txt 4) 0) + 7))]) at_40_25 (am_k3s kb_11) mn_11 mk_11 rfl rfl (am_ok_s mi_11 (am_hl rfl (am_ccI am_cats_0) rfl)) (am_hc am_cats_0 rfl) (fun hz9 => by cases hz9) (fun o1 hz9 => rm_11 (((am_ixF v2 (am_txt 4) 0) + 7)) h3 o1  hz9) ?_
      rcases am_cI_s hs2 with ⟨v6, h7, f8, hs3⟩ | hs3
      · clear hs2
        refine Or.inl ⟨_, _, f8, ?_⟩
        show am_W X _ 40 28 _ [(.int v6)] h7 _
        refine aw_iload_n (pc1 := 29) at_40_28 (am_lk1 (am_lk1 l1 rfl rfl) rfl rfl) rfl ?_
        by_cases c9 : ¬ v6 = x1
        · rw [if_pos c9] at hs3
          refine aw_icne_t at_40_29 c9 ?_
          exact rg_40_43 qc_35 qc_40 x0 h7 o (am_lk1 (am_lk1 l0 rfl rfl) rfl rfl) i0 hs3
        · rw [if_neg c9] at hs3
          refine aw_icne_f (pc1 := 32) at_40_29 c9 rfl ?_
          refine aw_iload (pc1 := 34) at_40_32 am_lk0 rfl ?_
          refine aw_bipush (v := 19) (pc1 := 36) at_40_34 (by decide) rfl ?_
          by_cases c10 : ¬ ((am_ixF v2 (am_txt 4) 0) + 7) = 19
          · rw [if_pos c10] at hs3
            refine aw_icne_t at_40_36 c10 ?_
            exact rg_40_48 qc_35 qc_40 x0 x2 x3 (((am_ixF v2 (am_txt 4) 0) + 7)) h7 o (am_lk1 (am_lk1 l0 rfl rfl) rfl rfl) (am_lk1 (am_lk1 l2 rfl rfl) rfl rfl) (am_lk1 (am_lk1 l3 rfl rfl) rfl rfl) am_lk0 i0 hs3
          · rw [if_neg c10] at hs3
            refine aw_icne_f (pc1 := 39) at_40_36 c10 rfl ?_
            refine aw_iload_n (pc1 := 40) at_40_39 (am_lk1 (am_lk1 l3 rfl rfl) rfl rfl) rfl ?_
            by_cases c11 : x3 = 0
            · rw [if_pos c11] at hs3
              refine aw_ifeq_t at_40_40 c11 ?_
              exact rg_40_48 qc_35 qc_40 x0 x2 x3 (((am_ixF v2 (am_txt 4) 0) + 7)) h7 o (am_lk1 (am_lk1 l0 rfl rfl) rfl rfl) (am_lk1 (am_lk1 l2 rfl rfl) rfl rfl) (am_lk1 (am_lk1 l3 rfl rfl) rfl rfl) am_lk0 i0 hs3
            · rw [if_neg c11] at hs3
              refine aw_ifeq_f (pc1 := 43) at_40_40 c11 rfl ?_
              exact rg_40_43 qc_35 qc_40 x0 h7 o (am_lk1 (am_lk1 l0 rfl rfl) rfl rfl) i0 hs3
      · clear hs2
        exact Or.inr hs3
  · clear hs1
    exact Or.inr hs2
def fo_40 (N : Nat) (rc_35 : Value → Int32 → Int32 → Int32 → am_H → Option am_O) (rc_40 : Value → Int32 → Int32 → Int32 → am_H → Option am_O) (y0 : Value) (y1 : Int32) (y2 : Int32) (y3 : Int32) (h : am_H) : Option am_O := fg_40_0 N rc_35 rc_40 y0 y1 y2 y3 h
theorem ro_40 {X : am_X} {d : Nat} {N : Nat} {rc_35 : Value → Int32 → Int32 → Int32 → am_H → Option am_O} {rc_40 : Value → Int32 → Int32 → Int32 → am_H → Option am_O} (qc_35 : ∀ (y0 : Value) (y1 : Int32) (y2 : Int32) (y3 : Int32) (h : am_H) (o : am_O), (am_isR y0 = true) → rc_35 y0 y1 y2 y3 h = some o → am_W X (d + 3) 35 0 (am_args 0 [y0, .int y1, .int y2, .int y3]) [] h (fun q => q = o)) (qc_40 : ∀ (y0 : Value) (y1 : Int32) (y2 : Int32) (y3 : Int32) (h : am_H) (o : am_O), (am_isR y0 = true) → rc_40 y0 y1 y2 y3 h = some o → am_W X (d + 3) 40 0 (am_args 0 [y0, .int y1, .int y2, .int y3]) [] h (fun q => q = o)) (y0 : Value) (y1 : Int32) (y2 : Int32) (y3 : Int32) (h : am_H) (o : am_O) (i0 : am_isR y0 = true) (hs : fo_40 N rc_35 rc_40 y0 y1 y2 y3 h = some o) : am_W X (d + 4) 40 0 (am_args 0 [y0, .int y1, .int y2, .int y3]) [] h (fun q => q = o) := by
  rw [am_args_R i0, am_args_I, am_args_I, am_args_I]
  exact rg_40_0 qc_35 qc_40 y0 y1 y2 y3 h o rfl rfl rfl rfl i0 hs
def gr_35 (N : Nat) : Nat → Nat → List Value → am_H → Option am_O
  | 0 => fun _ _ _ => none
  | K + 1 => fun w as h => match w, as with
    | 35, [y0, .int y1, .int y2, .int y3] => fo_35 N (fun y0 y1 y2 y3 h => gr_35 N K 35 [y0, .int y1, .int y2, .int y3] h) (fun y0 y1 y2 y3 h => gr_35 N K 40 [y0, .int y1, .int y2, .int y3] h) y0 y1 y2 y3 h
    | 40, [y0, .int y1, .int y2, .int y3] => fo_40 N (fun y0 y1 y2 y3 h => gr_35 N K 35 [y0, .int y1, .int y2, .int y3] h) (fun y0 y1 y2 y3 h => gr_35 N K 40 [y0, .int y1, .int y2, .int y3] h) y0 y1 y2 y3 h
    | _, _ => none
theorem gs_35 {X : am_X} {d N : Nat} : ∀ K : Nat, (∀ (y0 : Value) (y1 : Int32) (y2 : Int32) (y3 : Int32) (h : am_H) (o : am_O), (am_isR y0 = true) → gr_35 N K 35 [y0, .int y1, .int y2, .int y3] h = some o → am_W X (d + 4 * K) 35 0 (am_args 0 [y0, .int y1, .int y2, .int y3]) [] h (fun q => q = o)) ∧ (∀ (y0 : Value) (y1 : Int32) (y2 : Int32) (y3 : Int32) (h : am_H) (o : am_O), (am_isR y0 = true) → gr_35 N K 40 [y0, .int y1, .int y2, .int y3] h = some o → am_W X (d + 4 * K) 40 0 (am_args 0 [y0, .int y1, .int y2, .int y3]) [] h (fun q => q = o)) := by
  intro K
  induction K with
  | zero => exact ⟨fun _ _ _ _ h o _ hs => (by cases hs), fun _ _ _ _ h o _ hs => (by cases hs)⟩
  | succ K ih =>
    obtain ⟨q35, q40⟩ := ih
    have up : d + 4 * K ≤ d + 4 * K + 3 := Nat.le_add_right _ _
    have eD : d + 4 * (K + 1) = d + 4 * K + 4 := by rw [Nat.mul_succ, Nat.add_assoc]
    rw [eD]
    refine ⟨?_, ?_⟩
    · intro y0 y1 y2 y3 h o i0 hs
      exact ro_35 (fun w0 w1 w2 w3 h o k0 hs => (q35 w0 w1 w2 w3 h o k0 hs).up up) (fun w0 w1 w2 w3 h o k0 hs => (q40 w0 w1 w2 w3 h o k0 hs).up up) y0 y1 y2 y3 h o i0 hs
    · intro y0 y1 y2 y3 h o i0 hs
      exact ro_40 (fun w0 w1 w2 w3 h o k0 hs => (q35 w0 w1 w2 w3 h o k0 hs).up up) (fun w0 w1 w2 w3 h o k0 hs => (q40 w0 w1 w2 w3 h o k0 hs).up up) y0 y1 y2 y3 h o i0 hs
def fm_35 (N : Nat) (y0 : Value) (y1 : Int32) (y2 : Int32) (y3 : Int32) (h : am_H) : Option am_O := gr_35 N 40 35 [y0, .int y1, .int y2, .int y3] h
theorem rm_35 {X : am_X} {d : Nat} {N : Nat} (y0 : Value) (y1 : Int32) (y2 : Int32) (y3 : Int32) (h : am_H) (o : am_O) (i0 : am_isR y0 = true) (hs : fm_35 N y0 y1 y2 y3 h = some o) : am_W X (d + 160) 35 0 (am_args 0 [y0, .int y1, .int y2, .int y3]) [] h (fun q => q = o) := (gs_35 (X := X) (d := d) (N := N) 40).1 y0 y1 y2 y3 h o i0 hs
def fm_40 (N : Nat) (y0 : Value) (y1 : Int32) (y2 : Int32) (y3 : Int32) (h : am_H) : Option am_O := gr_35 N 40 40 [y0, .int y1, .int y2, .int y3] h
theorem rm_40 {X : am_X} {d : Nat} {N : Nat} (y0 : Value) (y1 : Int32) (y2 : Int32) (y3 : Int32) (h : am_H) (o : am_O) (i0 : am_isR y0 = true) (hs : fm_40 N y0 y1 y2 y3 h = some o) : am_W X (d + 160) 40 0 (am_args 0 [y0, .int y1, .int y2, .int y3]) [] h (fun q => q = o) := (gs_35 (X := X) (d := d) (N := N) 40).2 y0 y1 y2 y3 h o i0 hs
def fg_47_25 (x0 : Value) (h : am_H) : Option am_O := (if am_pOk 9 x0 h then am_cV true (fm_39 x0 h) (fun h3 => some (.inl (some (.int 0), h3))) else none)
theorem rg_47_25 {X : am_X} {d : Nat} {lv : am_LV} (x0 : Value) (h : am_H) (o : am_O) (l0 : lv.lookup 0 = some x0) (i0 : am_isR x0 = true) (hs : fg_47_25 x0 h = some o) : am_W X (d + 1) 47 25 lv [] h (fun q => q = o) := by
  unfold fg_47_25 at hs
  refine aw_vload_n (pc1 := 26) at_47_25 l0 i0 rfl ?_
  obtain ⟨z1, hs1⟩ := am_ift hs
  clear hs
  refine aw_call (F := fm_39 x0 h) (t := true) (na := 1) (kd := 1) (as := [x0]) at_47_26 (am_k3v kb_39) mn_39 mk_39 rfl rfl (am_ok_v mi_39 (am_hl rfl (am_ccR i0 am_cats_0) rfl) z1) (am_hc am_cats_0 rfl) (fun _ => ⟨rfl, hh_47⟩) (fun o1 hz9 => rm_39 x0 h o1 i0 hz9) ?_
  rcases am_cV_s hs1 with ⟨h3, f4, hs2⟩ | hs2
  · clear hs1
    refine Or.inl ⟨_, _, f4, ?_⟩
    show am_W X _ 47 29 _ [] h3 _
    refine aw_iconst (v := 0) (pc1 := 30) at_47_29 (by decide) rfl ?_
    cases hs2
    exact aw_iret at_47_30 (by rw [rt_47]; rfl) rfl
  · clear hs1
    exact Or.inr hs2
def fg_47_0 (x0 : Value) (x1 : Int32) (x2 : Int32) (h : am_H) : Option am_O := (if am_pOk 9 x0 h then am_cI true (fm_36 x0 h) (fun v2 h3 => ((am_vI (am_pG 2307 x0 h3)).bind fun v5 => (if 0 ≤ v5 then (fg_47_25 x0 h3) else (if (v2 - 48) < x1 then (fg_47_25 x0 h3) else (if (v2 - 48) ≤ x2 then ((am_vI (am_pG 2306 x0 h3)).bind fun v10 => ((am_pP 2306 x0 (.int (v10 + 1)) h3).bind fun h12 => some (.inl (some (.int (v2 - 48)), h12)))) else (fg_47_25 x0 h3)))))) else none)
theorem rg_47_0 {X : am_X} {d : Nat} {lv : am_LV} (x0 : Value) (x1 : Int32) (x2 : Int32) (h : am_H) (o : am_O) (l0 : lv.lookup 0 = some x0) (l1 : lv.lookup 1 = some (.int x1)) (l2 : lv.lookup 2 = some (.int x2)) (i0 : am_isR x0 = true) (hs : fg_47_0 x0 x1 x2 h = some o) : am_W X (d + 1) 47 0 lv [] h (fun q => q = o) := by
  unfold fg_47_0 at hs
  refine aw_vload_n (pc1 := 1) at_47_0 l0 i0 rfl ?_
  obtain ⟨z1, hs1⟩ := am_ift hs
  clear hs
  refine aw_call (F := fm_36 x0 h) (t := true) (na := 1) (kd := 1) (as := [x0]) at_47_1 (am_k3v kb_36) mn_36 mk_36 rfl rfl (am_ok_v mi_36 (am_hl rfl (am_ccR i0 am_cats_0) rfl) z1) (am_hc am_cats_0 rfl) (fun _ => ⟨rfl, hh_47⟩) (fun o1 hz9 => rm_36 x0 h o1 i0 hz9) ?_
  rcases am_cI_s hs1 with ⟨v2, h3, f4, hs2⟩ | hs2
  · clear hs1
    refine Or.inl ⟨_, _, f4, ?_⟩
    show am_W X _ 47 4 _ [(.int v2)] h3 _
    refine aw_bipush (v := 48) (pc1 := 6) at_47_4 (by decide) rfl ?_
    refine aw_isub (v := (v2 - 48)) (pc1 := 7) at_47_6 rfl rfl ?_
    refine aw_istore_n (lv1 := am_put1 _ 3 _) (pc1 := 8) at_47_7 rfl rfl ?_
    refine aw_vload_n (pc1 := 9) at_47_8 (am_lk1 l0 rfl rfl) i0 rfl ?_
    obtain ⟨v5, e6, hs3⟩ := am_bind hs2
    clear hs2
    refine aw_pG (pc1 := 12) at_47_9 (am_vI_s e6) rfl ?_
    by_cases c7 : 0 ≤ v5
    · rw [if_pos c7] at hs3
      refine aw_ifge_t at_47_12 c7 ?_
      exact rg_47_25 x0 h3 o (am_lk1 l0 rfl rfl) i0 hs3
    · rw [if_neg c7] at hs3
      refine aw_ifge_f (pc1 := 15) at_47_12 c7 rfl ?_
      refine aw_iload_n (pc1 := 16) at_47_15 am_lk0 rfl ?_
      refine aw_iload_n (pc1 := 17) at_47_16 (am_lk1 l1 rfl rfl) rfl ?_
      by_cases c8 : (v2 - 48) < x1
      · rw [if_pos c8] at hs3
        refine aw_iclt_t at_47_17 c8 ?_
        exact rg_47_25 x0 h3 o (am_lk1 l0 rfl rfl) i0 hs3
      · rw [if_neg c8] at hs3
        refine aw_iclt_f (pc1 := 20) at_47_17 c8 rfl ?_
        refine aw_iload_n (pc1 := 21) at_47_20 am_lk0 rfl ?_
        refine aw_iload_n (pc1 := 22) at_47_21 (am_lk1 l2 rfl rfl) rfl ?_
        by_cases c9 : (v2 - 48) ≤ x2
        · rw [if_pos c9] at hs3
          refine aw_icle_t at_47_22 c9 ?_
          refine aw_vload_n (pc1 := 32) at_47_31 (am_lk1 l0 rfl rfl) i0 rfl ?_
          refine aw_vdup (pc1 := 33) at_47_32 i0 rfl ?_
          obtain ⟨v10, e11, hs4⟩ := am_bind hs3
          clear hs3
          refine aw_pG (pc1 := 36) at_47_33 (am_vI_s e11) rfl ?_
          refine aw_iconst (v := 1) (pc1 := 37) at_47_36 (by decide) rfl ?_
          refine aw_iadd (v := (v10 + 1)) (pc1 := 38) at_47_37 rfl rfl ?_
          obtain ⟨h12, e13, hs5⟩ := am_bind hs4
          clear hs4
          refine aw_pP (pc1 := 41) at_47_38 e13 rfl ?_
          refine aw_iload_n (pc1 := 42) at_47_41 am_lk0 rfl ?_
          cases hs5
          exact aw_iret at_47_42 (by rw [rt_47]; rfl) rfl
        · rw [if_neg c9] at hs3
          refine aw_icle_f (pc1 := 25) at_47_22 c9 rfl ?_
          exact rg_47_25 x0 h3 o (am_lk1 l0 rfl rfl) i0 hs3
  · clear hs1
    exact Or.inr hs2
def fm_47 (y0 : Value) (y1 : Int32) (y2 : Int32) (h : am_H) : Option am_O := fg_47_0 y0 y1 y2 h
theorem rm_47 {X : am_X} {d : Nat} (y0 : Value) (y1 : Int32) (y2 : Int32) (h : am_H) (o : am_O) (i0 : am_isR y0 = true) (hs : fm_47 y0 y1 y2 h = some o) : am_W X (d + 1) 47 0 (am_args 0 [y0, .int y1, .int y2]) [] h (fun q => q = o) := by
  rw [am_args_R i0, am_args_I, am_args_I]
  exact rg_47_0 y0 y1 y2 h o rfl rfl rfl i0 hs
def fg_46_105 (N : Nat) (h : am_H) : Option am_O := some (.inl (none, h))
theorem rg_46_105 {X : am_X} {d : Nat} {N : Nat} {lv : am_LV} (h : am_H) (o : am_O) (hs : fg_46_105 N h = some o) : am_W X (d + 2) 46 105 lv [] h (fun q => q = o) := by
  unfold fg_46_105 at hs
  cases hs
  exact aw_vret at_46_105 rt_46 rfl
def fg_46_71 (N : Nat) (rec_26 : Value → Int32 → Int32 → am_H → Option am_O) (x0 : Value) (x1 : Int32) (x2 : Int32) (h : am_H) : Option am_O := (if am_pOk 9 x0 h then am_cI true (fm_47 x0 0 ((x1 - 1)) h) (fun v2 h3 => ((am_vR (am_pG 2308 x0 h3)).bind fun v5 => (if am_pOk 9 x0 h3 then am_cI true (fm_47 x0 ((v2 + 1)) ((x1 - 1)) h3) (fun v8 h9 => (if am_pOk 3 v5 h9 then am_cI true (fm_41 N v5 v2 v8 h9) (fun v12 h13 => (rec_26 x0 x1 ((x2 + 1)) h13)) else none)) else none))) else none)
theorem rg_46_71 {X : am_X} {d : Nat} {N : Nat} {rec_26 : Value → Int32 → Int32 → am_H → Option am_O} (q_26 : ∀ (x0 : Value) (x1 : Int32) (x2 : Int32) (h : am_H) (o : am_O), rec_26 x0 x1 x2 h = some o → ∀ lv : am_LV, (lv.lookup 0 = some x0) → (lv.lookup 1 = some (.int x1)) → (lv.lookup 2 = some (.int x2)) → (am_isR x0 = true) → am_W X (d + 2) 46 26 lv [] h (fun q => q = o)) {lv : am_LV} (x0 : Value) (x1 : Int32) (x2 : Int32) (h : am_H) (o : am_O) (l0 : lv.lookup 0 = some x0) (l1 : lv.lookup 1 = some (.int x1)) (l2 : lv.lookup 2 = some (.int x2)) (i0 : am_isR x0 = true) (hs : fg_46_71 N rec_26 x0 x1 x2 h = some o) : am_W X (d + 2) 46 71 lv [] h (fun q => q = o) := by
  unfold fg_46_71 at hs
  refine aw_vload_n (pc1 := 72) at_46_71 l0 i0 rfl ?_
  refine aw_iconst (v := 0) (pc1 := 73) at_46_72 (by decide) rfl ?_
  refine aw_iload_n (pc1 := 74) at_46_73 l1 rfl ?_
  refine aw_iconst (v := 1) (pc1 := 75) at_46_74 (by decide) rfl ?_
  refine aw_isub (v := (x1 - 1)) (pc1 := 76) at_46_75 rfl rfl ?_
  obtain ⟨z1, hs1⟩ := am_ift hs
  clear hs
  refine aw_call (F := fm_47 x0 0 ((x1 - 1)) h) (t := true) (na := 3) (kd := 1) (as := [x0, (.int 0), (.int (x1 - 1))]) at_46_76 (am_k3v kb_47) mn_47 mk_47 rfl rfl (am_ok_v mi_47 (am_hl rfl (am_ccR i0 (am_ccI (am_ccI am_cats_0))) rfl) z1) (am_hc am_cats_0 rfl) (fun _ => ⟨rfl, hh_46⟩) (fun o1 hz9 => rm_47 x0 0 ((x1 - 1)) h o1 i0 hz9) ?_
  rcases am_cI_s hs1 with ⟨v2, h3, f4, hs2⟩ | hs2
  · clear hs1
    refine Or.inl ⟨_, _, f4, ?_⟩
    show am_W X _ 46 79 _ [(.int v2)] h3 _
    refine aw_istore_n (lv1 := am_put1 _ 3 _) (pc1 := 80) at_46_79 rfl rfl ?_
    refine aw_vload_n (pc1 := 81) at_46_80 (am_lk1 l0 rfl rfl) i0 rfl ?_
    obtain ⟨v5, e6, hs3⟩ := am_bind hs2
    clear hs2
    refine aw_pG (pc1 := 84) at_46_81 (am_vR_s e6).1 rfl ?_
    refine aw_iload_n (pc1 := 85) at_46_84 am_lk0 rfl ?_
    refine aw_vload_n (pc1 := 86) at_46_85 (am_lk1 l0 rfl rfl) i0 rfl ?_
    refine aw_iload_n (pc1 := 87) at_46_86 am_lk0 rfl ?_
    refine aw_iconst (v := 1) (pc1 := 88) at_46_87 (by decide) rfl ?_
    refine aw_iadd (v := (v2 + 1)) (pc1 := 89) at_46_88 rfl rfl ?_
    refine aw_iload_n (pc1 := 90) at_46_89 (am_lk1 l1 rfl rfl) rfl ?_
    refine aw_iconst (v := 1) (pc1 := 91) at_46_90 (by decide) rfl ?_
    refine aw_isub (v := (x1 - 1)) (pc1 := 92) at_46_91 rfl rfl ?_
    obtain ⟨z7, hs4⟩ := am_ift hs3
    clear hs3
    refine aw_call (F := fm_47 x0 ((v2 + 1)) ((x1 - 1)) h3) (t := true) (na := 3) (kd := 1) (as := [x0, (.int (v2 + 1)), (.int (x1 - 1))]) at_46_92 (am_k3v kb_47) mn_47 mk_47 rfl rfl (am_ok_v mi_47 (am_hl rfl (am_ccR i0 (am_ccI (am_ccI am_cats_0))) rfl) z7) (am_hc (am_ccI (am_ccR (am_vR_s e6).2 am_cats_0)) rfl) (fun _ => ⟨rfl, hh_46⟩) (fun o1 hz9 => rm_47 x0 ((v2 + 1)) ((x1 - 1)) h3 o1 i0 hz9) ?_
    rcases am_cI_s hs4 with ⟨v8, h9, f10, hs5⟩ | hs5
    · clear hs4
      refine Or.inl ⟨_, _, f10, ?_⟩
      show am_W X _ 46 95 _ [(.int v8), (.int v2), v5] h9 _
      obtain ⟨z11, hs6⟩ := am_ift hs5
      clear hs5
      refine aw_call (F := fm_41 N v5 v2 v8 h9) (t := true) (na := 3) (kd := 1) (as := [v5, (.int v2), (.int v8)]) at_46_95 (am_k3v kb_41) mn_41 mk_41 rfl rfl (am_ok_v mi_41 (am_hl rfl (am_ccR (am_vR_s e6).2 (am_ccI (am_ccI am_cats_0))) rfl) z11) (am_hc am_cats_0 rfl) (fun _ => ⟨rfl, hh_46⟩) (fun o1 hz9 => rm_41 v5 v2 v8 h9 o1 (am_vR_s e6).2 hz9) ?_
      rcases am_cI_s hs6 with ⟨v12, h13, f14, hs7⟩ | hs7
      · clear hs6
        refine Or.inl ⟨_, _, f14, ?_⟩
        show am_W X _ 46 98 _ [(.int v12)] h13 _
        refine aw_popi (pc1 := 99) at_46_98 rfl ?_
        refine aw_iinc (v := (x2 + 1)) (c := 1) (lv1 := am_put1 _ 2 _) (pc1 := 102) at_46_99 (am_lk1 l2 rfl rfl) (by decide) rfl rfl rfl ?_
        refine aw_goto at_46_102 ?_
        exact q_26 x0 x1 ((x2 + 1)) h13 o hs7 _ (am_lk1 (am_lk1 l0 rfl rfl) rfl rfl) (am_lk1 (am_lk1 l1 rfl rfl) rfl rfl) am_lk0 i0
      · clear hs6
        exact Or.inr hs7
    · clear hs4
      exact Or.inr hs5
  · clear hs1
    exact Or.inr hs2
def fg_46_61 (N : Nat) (rec_26 : Value → Int32 → Int32 → am_H → Option am_O) (x0 : Value) (x1 : Int32) (x2 : Int32) (h : am_H) : Option am_O := (if ¬ x2 = 40 then (fg_46_71 N rec_26 x0 x1 x2 h) else (if am_pOk 9 x0 h then am_cV true (fm_39 x0 h) (fun h4 => (fg_46_71 N rec_26 x0 x1 x2 h4)) else none))
theorem rg_46_61 {X : am_X} {d : Nat} {N : Nat} {rec_26 : Value → Int32 → Int32 → am_H → Option am_O} (q_26 : ∀ (x0 : Value) (x1 : Int32) (x2 : Int32) (h : am_H) (o : am_O), rec_26 x0 x1 x2 h = some o → ∀ lv : am_LV, (lv.lookup 0 = some x0) → (lv.lookup 1 = some (.int x1)) → (lv.lookup 2 = some (.int x2)) → (am_isR x0 = true) → am_W X (d + 2) 46 26 lv [] h (fun q => q = o)) {lv : am_LV} (x0 : Value) (x1 : Int32) (x2 : Int32) (h : am_H) (o : am_O) (l0 : lv.lookup 0 = some x0) (l1 : lv.lookup 1 = some (.int x1)) (l2 : lv.lookup 2 = some (.int x2)) (i0 : am_isR x0 = true) (hs : fg_46_61 N rec_26 x0 x1 x2 h = some o) : am_W X (d + 2) 46 61 lv [] h (fun q => q = o) := by
  unfold fg_46_61 at hs
  refine aw_iload_n (pc1 := 62) at_46_61 l2 rfl ?_
  refine aw_bipush (v := 40) (pc1 := 64) at_46_62 (by decide) rfl ?_
  by_cases c1 : ¬ x2 = 40
  · rw [if_pos c1] at hs
    refine aw_icne_t at_46_64 c1 ?_
    exact rg_46_71 q_26 x0 x1 x2 h o l0 l1 l2 i0 hs
  · rw [if_neg c1] at hs
    refine aw_icne_f (pc1 := 67) at_46_64 c1 rfl ?_
    refine aw_vload_n (pc1 := 68) at_46_67 l0 i0 rfl ?_
    obtain ⟨z2, hs1⟩ := am_ift hs
    clear hs
    refine aw_call (F := fm_39 x0 h) (t := true) (na := 1) (kd := 1) (as := [x0]) at_46_68 (am_k3v kb_39) mn_39 mk_39 rfl rfl (am_ok_v mi_39 (am_hl rfl (am_ccR i0 am_cats_0) rfl) z2) (am_hc am_cats_0 rfl) (fun _ => ⟨rfl, hh_46⟩) (fun o1 hz9 => rm_39 x0 h o1 i0 hz9) ?_
    rcases am_cV_s hs1 with ⟨h4, f5, hs2⟩ | hs2
    · clear hs1
      refine Or.inl ⟨_, _, f5, ?_⟩
      show am_W X _ 46 71 _ [] h4 _
      exact rg_46_71 q_26 x0 x1 x2 h4 o l0 l1 l2 i0 hs2
    · clear hs1
      exact Or.inr hs2
def fg_46_26 (N : Nat) : Nat → Value → Int32 → Int32 → am_H → Option am_O
  | 0 => fun _ _ _ _ => none
  | K + 1 => fun x0 x1 x2 h => (if 40 < x2 then (fg_46_105 N h) else ((am_vI (am_pG 2307 x0 h)).bind fun v2 => (if 0 ≤ v2 then (fg_46_105 N h) else ((am_vI (am_pG 2306 x0 h)).bind fun v5 => ((am_vI (am_pG 2305 x0 h)).bind fun v7 => (if v7 ≤ v5 then (fg_46_105 N h) else (if x2 ≤ 0 then (fg_46_61 N (fg_46_26 N K) x0 x1 x2 h) else (if am_pOk 9 x0 h then am_cI true (fm_42 x0 44 h) (fun v12 h13 => (fg_46_61 N (fg_46_26 N K) x0 x1 x2 h13)) else none))))))))
theorem rg_46_26 {X : am_X} {d : Nat} {N : Nat} : ∀ (K : Nat) (x0 : Value) (x1 : Int32) (x2 : Int32) (h : am_H) (o : am_O), fg_46_26 N K x0 x1 x2 h = some o → ∀ lv : am_LV, (lv.lookup 0 = some x0) → (lv.lookup 1 = some (.int x1)) → (lv.lookup 2 = some (.int x2)) → (am_isR x0 = true) → am_W X (d + 2) 46 26 lv [] h (fun q => q = o) := by
  intro K
  induction K with
  | zero => intro x0 x1 x2 h o hs; cases hs
  | succ K ih =>
    intro x0 x1 x2 h o hs lv l0 l1 l2 i0
    unfold fg_46_26 at hs
    refine aw_iload_n (pc1 := 27) at_46_26 l2 rfl ?_
    refine aw_bipush (v := 40) (pc1 := 29) at_46_27 (by decide) rfl ?_
    by_cases c1 : 40 < x2
    · rw [if_pos c1] at hs
      refine aw_icgt_t at_46_29 c1 ?_
      exact rg_46_105 h o   hs
    · rw [if_neg c1] at hs
      refine aw_icgt_f (pc1 := 32) at_46_29 c1 rfl ?_
      refine aw_vload_n (pc1 := 33) at_46_32 l0 i0 rfl ?_
      obtain ⟨v2, e3, hs1⟩ := am_bind hs
      clear hs
      refine aw_pG (pc1 := 36) at_46_33 (am_vI_s e3) rfl ?_
      by_cases c4 : 0 ≤ v2
      · rw [if_pos c4] at hs1
        refine aw_ifge_t at_46_36 c4 ?_
        exact rg_46_105 h o   hs1
      · rw [if_neg c4] at hs1
        refine aw_ifge_f (pc1 := 39) at_46_36 c4 rfl ?_
        refine aw_vload_n (pc1 := 40) at_46_39 l0 i0 rfl ?_
        obtain ⟨v5, e6, hs2⟩ := am_bind hs1
        clear hs1
        refine aw_pG (pc1 := 43) at_46_40 (am_vI_s e6) rfl ?_
        refine aw_vload_n (pc1 := 44) at_46_43 l0 i0 rfl ?_
        obtain ⟨v7, e8, hs3⟩ := am_bind hs2
        clear hs2
        refine aw_pG (pc1 := 47) at_46_44 (am_vI_s e8) rfl ?_
        by_cases c9 : v7 ≤ v5
        · rw [if_pos c9] at hs3
          refine aw_icge_t at_46_47 c9 ?_
          exact rg_46_105 h o   hs3
        · rw [if_neg c9] at hs3
          refine aw_icge_f (pc1 := 50) at_46_47 c9 rfl ?_
          refine aw_iload_n (pc1 := 51) at_46_50 l2 rfl ?_
          by_cases c10 : x2 ≤ 0
          · rw [if_pos c10] at hs3
            refine aw_ifle_t at_46_51 c10 ?_
            exact rg_46_61 (fun z0 z1 z2 h o hs3 => ih z0 z1 z2 h o hs3) x0 x1 x2 h o l0 l1 l2 i0 hs3
          · rw [if_neg c10] at hs3
            refine aw_ifle_f (pc1 := 54) at_46_51 c10 rfl ?_
            refine aw_vload_n (pc1 := 55) at_46_54 l0 i0 rfl ?_
            refine aw_bipush (v := 44) (pc1 := 57) at_46_55 (by decide) rfl ?_
            obtain ⟨z11, hs4⟩ := am_ift hs3
            clear hs3
            refine aw_call (F := fm_42 x0 44 h) (t := true) (na := 2) (kd := 1) (as := [x0, (.int 44)]) at_46_57 (am_k3v kb_42) mn_42 mk_42 rfl rfl (am_ok_v mi_42 (am_hl rfl (am_ccR i0 (am_ccI am_cats_0)) rfl) z11) (am_hc am_cats_0 rfl) (fun _ => ⟨rfl, hh_46⟩) (fun o1 hz9 => rm_42 x0 44 h o1 i0 hz9) ?_
            rcases am_cI_s hs4 with ⟨v12, h13, f14, hs5⟩ | hs5
            · clear hs4
              refine Or.inl ⟨_, _, f14, ?_⟩
              show am_W X _ 46 60 _ [(.int v12)] h13 _
              refine aw_popi (pc1 := 61) at_46_60 rfl ?_
              exact rg_46_61 (fun z0 z1 z2 h o hs5 => ih z0 z1 z2 h o hs5) x0 x1 x2 h13 o l0 l1 l2 i0 hs5
            · clear hs4
              exact Or.inr hs5
def fg_46_0 (N : Nat) (x0 : Value) (h : am_H) : Option am_O := (if am_pOk 9 x0 h then am_cI true (fm_47 x0 2 8 h) (fun v2 h3 => ((am_vR (am_pG 2308 x0 h3)).bind fun v5 => (if am_pOk 3 v5 h3 then am_cV true (fm_34 v5 3 v2 h3) (fun h9 => (if am_pOk 9 x0 h9 then am_cI true (fm_42 x0 58 h9) (fun v12 h13 => (fg_46_26 N N x0 v2 0 h13)) else none)) else none))) else none)
theorem rg_46_0 {X : am_X} {d : Nat} {N : Nat} {lv : am_LV} (x0 : Value) (h : am_H) (o : am_O) (l0 : lv.lookup 0 = some x0) (i0 : am_isR x0 = true) (hs : fg_46_0 N x0 h = some o) : am_W X (d + 2) 46 0 lv [] h (fun q => q = o) := by
  unfold fg_46_0 at hs
  refine aw_vload_n (pc1 := 1) at_46_0 l0 i0 rfl ?_
  refine aw_iconst (v := 2) (pc1 := 2) at_46_1 (by decide) rfl ?_
  refine aw_bipush (v := 8) (pc1 := 4) at_46_2 (by decide) rfl ?_
  obtain ⟨z1, hs1⟩ := am_ift hs
  clear hs
  refine aw_call (F := fm_47 x0 2 8 h) (t := true) (na := 3) (kd := 1) (as := [x0, (.int 2), (.int 8)]) at_46_4 (am_k3v kb_47) mn_47 mk_47 rfl rfl (am_ok_v mi_47 (am_hl rfl (am_ccR i0 (am_ccI (am_ccI am_cats_0))) rfl) z1) (am_hc am_cats_0 rfl) (fun _ => ⟨rfl, hh_46⟩) (fun o1 hz9 => rm_47 x0 2 8 h o1 i0 hz9) ?_
  rcases am_cI_s hs1 with ⟨v2, h3, f4, hs2⟩ | hs2
  · clear hs1
    refine Or.inl ⟨_, _, f4, ?_⟩
    show am_W X _ 46 7 _ [(.int v2)] h3 _
    refine aw_istore_n (lv1 := am_put1 _ 1 _) (pc1 := 8) at_46_7 rfl rfl ?_
    refine aw_vload_n (pc1 := 9) at_46_8 (am_lk1 l0 rfl (by rw [am_isRc i0]; rfl)) i0 rfl ?_
    obtain ⟨v5, e6, hs3⟩ := am_bind hs2
    clear hs2
    refine aw_pG (pc1 := 12) at_46_9 (am_vR_s e6).1 rfl ?_
    refine aw_iconst (v := 3) (pc1 := 13) at_46_12 (by decide) rfl ?_
    refine aw_iload_n (pc1 := 14) at_46_13 am_lk0 rfl ?_
    obtain ⟨z7, hs4⟩ := am_ift hs3
    clear hs3
    refine aw_call (F := fm_34 v5 3 v2 h3) (t := true) (na := 3) (kd := 1) (as := [v5, (.int 3), (.int v2)]) at_46_14 (am_k3v kb_34) mn_34 mk_34 rfl rfl (am_ok_v mi_34 (am_hl rfl (am_ccR (am_vR_s e6).2 (am_ccI (am_ccI am_cats_0))) rfl) z7) (am_hc am_cats_0 rfl) (fun _ => ⟨rfl, hh_46⟩) (fun o1 hz9 => rm_34 v5 3 v2 h3 o1 (am_vR_s e6).2 hz9) ?_
    rcases am_cV_s hs4 with ⟨h9, f10, hs5⟩ | hs5
    · clear hs4
      refine Or.inl ⟨_, _, f10, ?_⟩
      show am_W X _ 46 17 _ [] h9 _
      refine aw_vload_n (pc1 := 18) at_46_17 (am_lk1 l0 rfl (by rw [am_isRc i0]; rfl)) i0 rfl ?_
      refine aw_bipush (v := 58) (pc1 := 20) at_46_18 (by decide) rfl ?_
      obtain ⟨z11, hs6⟩ := am_ift hs5
      clear hs5
      refine aw_call (F := fm_42 x0 58 h9) (t := true) (na := 2) (kd := 1) (as := [x0, (.int 58)]) at_46_20 (am_k3v kb_42) mn_42 mk_42 rfl rfl (am_ok_v mi_42 (am_hl rfl (am_ccR i0 (am_ccI am_cats_0)) rfl) z11) (am_hc am_cats_0 rfl) (fun _ => ⟨rfl, hh_46⟩) (fun o1 hz9 => rm_42 x0 58 h9 o1 i0 hz9) ?_
      rcases am_cI_s hs6 with ⟨v12, h13, f14, hs7⟩ | hs7
      · clear hs6
        refine Or.inl ⟨_, _, f14, ?_⟩
        show am_W X _ 46 23 _ [(.int v12)] h13 _
        refine aw_popi (pc1 := 24) at_46_23 rfl ?_
        refine aw_iconst (v := 0) (pc1 := 25) at_46_24 (by decide) rfl ?_
        refine aw_istore_n (lv1 := am_put1 _ 2 _) (pc1 := 26) at_46_25 rfl rfl ?_
        exact rg_46_26 N x0 v2 0 h13 o hs7 _ (am_lk1 (am_lk1 l0 rfl (by rw [am_isRc i0]; rfl)) rfl rfl) (am_lk1 am_lk0 rfl rfl) am_lk0 i0
      · clear hs6
        exact Or.inr hs7
    · clear hs4
      exact Or.inr hs5
  · clear hs1
    exact Or.inr hs2
def fm_46 (N : Nat) (y0 : Value) (h : am_H) : Option am_O := fg_46_0 N y0 h
theorem rm_46 {X : am_X} {d : Nat} {N : Nat} (y0 : Value) (h : am_H) (o : am_O) (i0 : am_isR y0 = true) (hs : fm_46 N y0 h = some o) : am_W X (d + 2) 46 0 (am_args 0 [y0]) [] h (fun q => q = o) := by
  rw [am_args_R i0]
  exact rg_46_0 y0 h o rfl i0 hs
def fg_49_164 (N : Nat) (h : am_H) : Option am_O := some (.inl (none, h))
theorem rg_49_164 {X : am_X} {d : Nat} {N : Nat} {lv : am_LV} (h : am_H) (o : am_O) (hs : fg_49_164 N h = some o) : am_W X (d + 3) 49 164 lv [] h (fun q => q = o) := by
  unfold fg_49_164 at hs
  cases hs
  exact aw_vret at_49_164 rt_49 rfl
def fg_49_149 (N : Nat) (x0 : Value) (s0 : Value) (s1 : Int32) (h : am_H) : Option am_O := (if am_pOk 9 x0 h then am_cI true (fm_44 N x0 h) (fun v2 h3 => (if am_pOk 3 s0 h3 then am_cI true (fm_41 N s0 s1 v2 h3) (fun v6 h7 => (fg_49_164 N h7)) else none)) else none)
theorem rg_49_149 {X : am_X} {d : Nat} {N : Nat} {lv : am_LV} (x0 : Value) (s0 : Value) (s1 : Int32) (h : am_H) (o : am_O) (l0 : lv.lookup 0 = some x0) (i0 : am_isR x0 = true) (j0 : am_isR s0 = true) (hs : fg_49_149 N x0 s0 s1 h = some o) : am_W X (d + 3) 49 149 lv [(.int s1), s0] h (fun q => q = o) := by
  unfold fg_49_149 at hs
  refine aw_vload_n (pc1 := 150) at_49_149 l0 i0 rfl ?_
  obtain ⟨z1, hs1⟩ := am_ift hs
  clear hs
  refine aw_call (F := fm_44 N x0 h) (t := true) (na := 1) (kd := 1) (as := [x0]) at_49_150 (am_k3v kb_44) mn_44 mk_44 rfl rfl (am_ok_v mi_44 (am_hl rfl (am_ccR i0 am_cats_0) rfl) z1) (am_hc (am_ccI (am_ccR j0 am_cats_0)) rfl) (fun _ => ⟨rfl, hh_49⟩) (fun o1 hz9 => rm_44 x0 h o1 i0 hz9) ?_
  rcases am_cI_s hs1 with ⟨v2, h3, f4, hs2⟩ | hs2
  · clear hs1
    refine Or.inl ⟨_, _, f4, ?_⟩
    show am_W X _ 49 153 _ [(.int v2), (.int s1), s0] h3 _
    obtain ⟨z5, hs3⟩ := am_ift hs2
    clear hs2
    refine aw_call (F := fm_41 N s0 s1 v2 h3) (t := true) (na := 3) (kd := 1) (as := [s0, (.int s1), (.int v2)]) at_49_153 (am_k3v kb_41) mn_41 mk_41 rfl rfl (am_ok_v mi_41 (am_hl rfl (am_ccR j0 (am_ccI (am_ccI am_cats_0))) rfl) z5) (am_hc am_cats_0 rfl) (fun _ => ⟨rfl, hh_49⟩) (fun o1 hz9 => rm_41 s0 s1 v2 h3 o1 j0 hz9) ?_
    rcases am_cI_s hs3 with ⟨v6, h7, f8, hs4⟩ | hs4
    · clear hs3
      refine Or.inl ⟨_, _, f8, ?_⟩
      show am_W X _ 49 156 _ [(.int v6)] h7 _
      refine aw_popi (pc1 := 157) at_49_156 rfl ?_
      refine aw_goto at_49_157 ?_
      exact rg_49_164 h7 o   hs4
    · clear hs3
      exact Or.inr hs4
  · clear hs1
    exact Or.inr hs2
def fg_49_122 (N : Nat) (x0 : Value) (x1 : Int32) (h : am_H) : Option am_O := ((am_vI (am_pG 2306 x0 h)).bind fun v1 => ((am_pP 2306 x0 (.int (v1 + 1)) h).bind fun h3 => ((am_vR (am_pG 2308 x0 h3)).bind fun v5 => (if ¬ x1 = 106 then (fg_49_149 N x0 v5 18 h3) else (fg_49_149 N x0 v5 17 h3)))))
theorem rg_49_122 {X : am_X} {d : Nat} {N : Nat} {lv : am_LV} (x0 : Value) (x1 : Int32) (h : am_H) (o : am_O) (l0 : lv.lookup 0 = some x0) (l1 : lv.lookup 1 = some (.int x1)) (i0 : am_isR x0 = true) (hs : fg_49_122 N x0 x1 h = some o) : am_W X (d + 3) 49 122 lv [] h (fun q => q = o) := by
  unfold fg_49_122 at hs
  refine aw_vload_n (pc1 := 123) at_49_122 l0 i0 rfl ?_
  refine aw_vdup (pc1 := 124) at_49_123 i0 rfl ?_
  obtain ⟨v1, e2, hs1⟩ := am_bind hs
  clear hs
  refine aw_pG (pc1 := 127) at_49_124 (am_vI_s e2) rfl ?_
  refine aw_iconst (v := 1) (pc1 := 128) at_49_127 (by decide) rfl ?_
  refine aw_iadd (v := (v1 + 1)) (pc1 := 129) at_49_128 rfl rfl ?_
  obtain ⟨h3, e4, hs2⟩ := am_bind hs1
  clear hs1
  refine aw_pP (pc1 := 132) at_49_129 e4 rfl ?_
  refine aw_vload_n (pc1 := 133) at_49_132 l0 i0 rfl ?_
  obtain ⟨v5, e6, hs3⟩ := am_bind hs2
  clear hs2
  refine aw_pG (pc1 := 136) at_49_133 (am_vR_s e6).1 rfl ?_
  refine aw_iload_n (pc1 := 137) at_49_136 l1 rfl ?_
  refine aw_bipush (v := 106) (pc1 := 139) at_49_137 (by decide) rfl ?_
  by_cases c7 : ¬ x1 = 106
  · rw [if_pos c7] at hs3
    refine aw_icne_t at_49_139 c7 ?_
    refine aw_bipush (v := 18) (pc1 := 149) at_49_147 (by decide) rfl ?_
    exact rg_49_149 x0 v5 18 h3 o l0 i0 (am_vR_s e6).2 hs3
  · rw [if_neg c7] at hs3
    refine aw_icne_f (pc1 := 142) at_49_139 c7 rfl ?_
    refine aw_bipush (v := 17) (pc1 := 144) at_49_142 (by decide) rfl ?_
    refine aw_goto at_49_144 ?_
    exact rg_49_149 x0 v5 17 h3 o l0 i0 (am_vR_s e6).2 hs3
def fg_49_65 (N : Nat) (x0 : Value) (h : am_H) : Option am_O := ((am_vR (am_pG 2308 x0 h)).bind fun v1 => (if am_pOk 9 x0 h then am_cI true (fm_43 N x0 h) (fun v4 h5 => (if am_pOk 3 v1 h5 then am_cI true (fm_41 N v1 0 v4 h5) (fun v8 h9 => (fg_49_164 N h9)) else none)) else none))
theorem rg_49_65 {X : am_X} {d : Nat} {N : Nat} {lv : am_LV} (x0 : Value) (h : am_H) (o : am_O) (l0 : lv.lookup 0 = some x0) (i0 : am_isR x0 = true) (hs : fg_49_65 N x0 h = some o) : am_W X (d + 3) 49 65 lv [] h (fun q => q = o) := by
  unfold fg_49_65 at hs
  refine aw_vload_n (pc1 := 66) at_49_65 l0 i0 rfl ?_
  obtain ⟨v1, e2, hs1⟩ := am_bind hs
  clear hs
  refine aw_pG (pc1 := 69) at_49_66 (am_vR_s e2).1 rfl ?_
  refine aw_iconst (v := 0) (pc1 := 70) at_49_69 (by decide) rfl ?_
  refine aw_vload_n (pc1 := 71) at_49_70 l0 i0 rfl ?_
  obtain ⟨z3, hs2⟩ := am_ift hs1
  clear hs1
  refine aw_call (F := fm_43 N x0 h) (t := true) (na := 1) (kd := 1) (as := [x0]) at_49_71 (am_k3v kb_43) mn_43 mk_43 rfl rfl (am_ok_v mi_43 (am_hl rfl (am_ccR i0 am_cats_0) rfl) z3) (am_hc (am_ccI (am_ccR (am_vR_s e2).2 am_cats_0)) rfl) (fun _ => ⟨rfl, hh_49⟩) (fun o1 hz9 => rm_43 x0 h o1 i0 hz9) ?_
  rcases am_cI_s hs2 with ⟨v4, h5, f6, hs3⟩ | hs3
  · clear hs2
    refine Or.inl ⟨_, _, f6, ?_⟩
    show am_W X _ 49 74 _ [(.int v4), (.int 0), v1] h5 _
    obtain ⟨z7, hs4⟩ := am_ift hs3
    clear hs3
    refine aw_call (F := fm_41 N v1 0 v4 h5) (t := true) (na := 3) (kd := 1) (as := [v1, (.int 0), (.int v4)]) at_49_74 (am_k3v kb_41) mn_41 mk_41 rfl rfl (am_ok_v mi_41 (am_hl rfl (am_ccR (am_vR_s e2).2 (am_ccI (am_ccI am_cats_0))) rfl) z7) (am_hc am_cats_0 rfl) (fun _ => ⟨rfl, hh_49⟩) (fun o1 hz9 => rm_41 v1 0 v4 h5 o1 (am_vR_s e2).2 hz9) ?_
    rcases am_cI_s hs4 with ⟨v8, h9, f10, hs5⟩ | hs5
    · clear hs4
      refine Or.inl ⟨_, _, f10, ?_⟩
      show am_W X _ 49 77 _ [(.int v8)] h9 _
      refine aw_popi (pc1 := 78) at_49_77 rfl ?_
      refine aw_goto at_49_78 ?_
      exact rg_49_164 h9 o   hs5
    · clear hs4
      exact Or.inr hs5
  · clear hs2
    exact Or.inr hs3
def fg_49_46 (N : Nat) (x0 : Value) (x1 : Int32) (s0 : Int32) (h : am_H) : Option am_O := (if ¬ s0 = 0 then (fg_49_65 N x0 h) else am_cI false (fm_45 x1 h) (fun v2 h3 => (if v2 = 0 then (if (am_ixF x1 (am_txt 5) 0) < 0 then (if x1 = 106 then (fg_49_122 N x0 x1 h3) else (if ¬ x1 = 98 then (if am_pOk 9 x0 h3 then am_cV true (fm_39 x0 h3) (fun h11 => (fg_49_164 N h11)) else none) else (fg_49_122 N x0 x1 h3))) else ((am_vI (am_pG 2306 x0 h3)).bind fun v13 => ((am_pP 2306 x0 (.int (v13 + 1)) h3).bind fun h15 => ((am_vR (am_pG 2308 x0 h15)).bind fun v17 => (if am_pOk 3 v17 h15 then am_cI true (fm_41 N v17 (((am_ixF x1 (am_txt 5) 0) + 1)) 0 h15) (fun v20 h21 => (fg_49_164 N h21)) else none))))) else (fg_49_65 N x0 h3))))
theorem rg_49_46 {X : am_X} {d : Nat} {N : Nat} {lv : am_LV} (x0 : Value) (x1 : Int32) (s0 : Int32) (h : am_H) (o : am_O) (l0 : lv.lookup 0 = some x0) (l1 : lv.lookup 1 = some (.int x1)) (i0 : am_isR x0 = true) (hs : fg_49_46 N x0 x1 s0 h = some o) : am_W X (d + 3) 49 46 lv [(.int s0)] h (fun q => q = o) := by
  unfold fg_49_46 at hs
  refine aw_istore_n (lv1 := am_put1 _ 2 _) (pc1 := 47) at_49_46 rfl rfl ?_
  refine am_W.ldt at_49_47 rfl ?_
  show am_W _ _ _ 49 _ [(Value.float 5)] _ _
  refine aw_iload_n (pc1 := 50) at_49_49 (am_lk1 l1 rfl rfl) rfl ?_
  refine am_W.idx at_49_50 rfl rfl (am_hc am_cats_0 rfl) ?_
  show am_W _ _ _ 53 _ [(.int (am_ixF x1 (am_txt 5) 0))] _ _
  refine aw_istore_n (lv1 := am_put1 _ 3 _) (pc1 := 54) at_49_53 rfl rfl ?_
  refine aw_iload_n (pc1 := 55) at_49_54 (am_lk1 am_lk0 rfl rfl) rfl ?_
  by_cases c1 : ¬ s0 = 0
  · rw [if_pos c1] at hs
    refine aw_ifne_t at_49_55 c1 ?_
    exact rg_49_65 x0 h o (am_lk1 (am_lk1 l0 rfl rfl) rfl rfl) i0 hs
  · rw [if_neg c1] at hs
    refine aw_ifne_f (pc1 := 58) at_49_55 c1 rfl ?_
    refine aw_iload_n (pc1 := 59) at_49_58 (am_lk1 (am_lk1 l1 rfl rfl) rfl rfl) rfl ?_
    refine aw_call (F := fm_45 x1 h) (t := false) (na := 1) (kd := 0) (as := [(.int x1)]) at_49_59 (am_k3s kb_45) mn_45 mk_45 rfl rfl (am_ok_s mi_45 (am_hl rfl (am_ccI am_cats_0) rfl)) (am_hc am_cats_0 rfl) (fun hz9 => by cases hz9) (fun o1 hz9 => rm_45 x1 h o1  hz9) ?_
    rcases am_cI_s hs with ⟨v2, h3, f4, hs1⟩ | hs1
    · clear hs
      refine Or.inl ⟨_, _, f4, ?_⟩
      show am_W X _ 49 62 _ [(.int v2)] h3 _
      by_cases c5 : v2 = 0
      · rw [if_pos c5] at hs1
        refine aw_ifeq_t at_49_62 c5 ?_
        refine aw_iload_n (pc1 := 82) at_49_81 am_lk0 rfl ?_
        by_cases c6 : (am_ixF x1 (am_txt 5) 0) < 0
        · rw [if_pos c6] at hs1
          refine aw_iflt_t at_49_82 c6 ?_
          refine aw_iload_n (pc1 := 111) at_49_110 (am_lk1 (am_lk1 l1 rfl rfl) rfl rfl) rfl ?_
          refine aw_bipush (v := 106) (pc1 := 113) at_49_111 (by decide) rfl ?_
          by_cases c7 : x1 = 106
          · rw [if_pos c7] at hs1
            refine aw_iceq_t at_49_113 c7 ?_
            exact rg_49_122 x0 x1 h3 o (am_lk1 (am_lk1 l0 rfl rfl) rfl rfl) (am_lk1 (am_lk1 l1 rfl rfl) rfl rfl) i0 hs1
          · rw [if_neg c7] at hs1
            refine aw_iceq_f (pc1 := 116) at_49_113 c7 rfl ?_
            refine aw_iload_n (pc1 := 117) at_49_116 (am_lk1 (am_lk1 l1 rfl rfl) rfl rfl) rfl ?_
            refine aw_bipush (v := 98) (pc1 := 119) at_49_117 (by decide) rfl ?_
            by_cases c8 : ¬ x1 = 98
            · rw [if_pos c8] at hs1
              refine aw_icne_t at_49_119 c8 ?_
              refine aw_vload_n (pc1 := 161) at_49_160 (am_lk1 (am_lk1 l0 rfl rfl) rfl rfl) i0 rfl ?_
              obtain ⟨z9, hs2⟩ := am_ift hs1
              clear hs1
              refine aw_call (F := fm_39 x0 h3) (t := true) (na := 1) (kd := 1) (as := [x0]) at_49_161 (am_k3v kb_39) mn_39 mk_39 rfl rfl (am_ok_v mi_39 (am_hl rfl (am_ccR i0 am_cats_0) rfl) z9) (am_hc am_cats_0 rfl) (fun _ => ⟨rfl, hh_49⟩) (fun o1 hz9 => rm_39 x0 h3 o1 i0 hz9) ?_
              rcases am_cV_s hs2 with ⟨h11, f12, hs3⟩ | hs3
              · clear hs2
                refine Or.inl ⟨_, _, f12, ?_⟩
                show am_W X _ 49 164 _ [] h11 _
                exact rg_49_164 h11 o   hs3
              · clear hs2
                exact Or.inr hs3
            · rw [if_neg c8] at hs1
              refine aw_icne_f (pc1 := 122) at_49_119 c8 rfl ?_
              exact rg_49_122 x0 x1 h3 o (am_lk1 (am_lk1 l0 rfl rfl) rfl rfl) (am_lk1 (am_lk1 l1 rfl rfl) rfl rfl) i0 hs1
        · rw [if_neg c6] at hs1
          refine aw_iflt_f (pc1 := 85) at_49_82 c6 rfl ?_
          refine aw_vload_n (pc1 := 86) at_49_85 (am_lk1 (am_lk1 l0 rfl rfl) rfl rfl) i0 rfl ?_
          refine aw_vdup (pc1 := 87) at_49_86 i0 rfl ?_
          obtain ⟨v13, e14, hs4⟩ := am_bind hs1
          clear hs1
          refine aw_pG (pc1 := 90) at_49_87 (am_vI_s e14) rfl ?_
          refine aw_iconst (v := 1) (pc1 := 91) at_49_90 (by decide) rfl ?_
          refine aw_iadd (v := (v13 + 1)) (pc1 := 92) at_49_91 rfl rfl ?_
          obtain ⟨h15, e16, hs5⟩ := am_bind hs4
          clear hs4
          refine aw_pP (pc1 := 95) at_49_92 e16 rfl ?_
          refine aw_vload_n (pc1 := 96) at_49_95 (am_lk1 (am_lk1 l0 rfl rfl) rfl rfl) i0 rfl ?_
          obtain ⟨v17, e18, hs6⟩ := am_bind hs5
          clear hs5
          refine aw_pG (pc1 := 99) at_49_96 (am_vR_s e18).1 rfl ?_
          refine aw_iload_n (pc1 := 100) at_49_99 am_lk0 rfl ?_
          refine aw_iconst (v := 1) (pc1 := 101) at_49_100 (by decide) rfl ?_
          refine aw_iadd (v := ((am_ixF x1 (am_txt 5) 0) + 1)) (pc1 := 102) at_49_101 rfl rfl ?_
          refine aw_iconst (v := 0) (pc1 := 103) at_49_102 (by decide) rfl ?_
          obtain ⟨z19, hs7⟩ := am_ift hs6
          clear hs6
          refine aw_call (F := fm_41 N v17 (((am_ixF x1 (am_txt 5) 0) + 1)) 0 h15) (t := true) (na := 3) (kd := 1) (as := [v17, (.int ((am_ixF x1 (am_txt 5) 0) + 1)), (.int 0)]) at_49_103 (am_k3v kb_41) mn_41 mk_41 rfl rfl (am_ok_v mi_41 (am_hl rfl (am_ccR (am_vR_s e18).2 (am_ccI (am_ccI am_cats_0))) rfl) z19) (am_hc am_cats_0 rfl) (fun _ => ⟨rfl, hh_49⟩) (fun o1 hz9 => rm_41 v17 (((am_ixF x1 (am_txt 5) 0) + 1)) 0 h15 o1 (am_vR_s e18).2 hz9) ?_
          rcases am_cI_s hs7 with ⟨v20, h21, f22, hs8⟩ | hs8
          · clear hs7
            refine Or.inl ⟨_, _, f22, ?_⟩
            show am_W X _ 49 106 _ [(.int v20)] h21 _
            refine aw_popi (pc1 := 107) at_49_106 rfl ?_
            refine aw_goto at_49_107 ?_
            exact rg_49_164 h21 o   hs8
          · clear hs7
            exact Or.inr hs8
      · rw [if_neg c5] at hs1
        refine aw_ifeq_f (pc1 := 65) at_49_62 c5 rfl ?_
        exact rg_49_65 x0 h3 o (am_lk1 (am_lk1 l0 rfl rfl) rfl rfl) i0 hs1
    · clear hs
      exact Or.inr hs1
def fg_49_45 (N : Nat) (x0 : Value) (x1 : Int32) (h : am_H) : Option am_O := (fg_49_46 N x0 x1 0 h)
theorem rg_49_45 {X : am_X} {d : Nat} {N : Nat} {lv : am_LV} (x0 : Value) (x1 : Int32) (h : am_H) (o : am_O) (l0 : lv.lookup 0 = some x0) (l1 : lv.lookup 1 = some (.int x1)) (i0 : am_isR x0 = true) (hs : fg_49_45 N x0 x1 h = some o) : am_W X (d + 3) 49 45 lv [] h (fun q => q = o) := by
  unfold fg_49_45 at hs
  refine aw_iconst (v := 0) (pc1 := 46) at_49_45 (by decide) rfl ?_
  exact rg_49_46 x0 x1 0 h o l0 l1 i0 hs
def fg_49_0 (N : Nat) (x0 : Value) (h : am_H) : Option am_O := (if am_pOk 9 x0 h then am_cI true (fm_36 x0 h) (fun v2 h3 => (if ¬ v2 = 45 then (fg_49_45 N x0 v2 h3) else ((am_vI (am_pG 2306 x0 h3)).bind fun v6 => ((am_vI (am_pG 2305 x0 h3)).bind fun v8 => (if v8 ≤ (v6 + 1) then (fg_49_45 N x0 v2 h3) else ((am_vR (am_pG 2304 x0 h3)).bind fun v11 => ((am_vI (am_pG 2306 x0 h3)).bind fun v13 => ((am_pA 3 v11 (v13 + 1) h3).bind fun v15 => am_cI false (fm_45 v15 h3) (fun v17 h18 => (if v17 = 0 then (fg_49_45 N x0 v2 h18) else (fg_49_46 N x0 v2 1 h18))))))))))) else none)
theorem rg_49_0 {X : am_X} {d : Nat} {N : Nat} {lv : am_LV} (x0 : Value) (h : am_H) (o : am_O) (l0 : lv.lookup 0 = some x0) (i0 : am_isR x0 = true) (hs : fg_49_0 N x0 h = some o) : am_W X (d + 3) 49 0 lv [] h (fun q => q = o) := by
  unfold fg_49_0 at hs
  refine aw_vload_n (pc1 := 1) at_49_0 l0 i0 rfl ?_
  obtain ⟨z1, hs1⟩ := am_ift hs
  clear hs
  refine aw_call (F := fm_36 x0 h) (t := true) (na := 1) (kd := 1) (as := [x0]) at_49_1 (am_k3v kb_36) mn_36 mk_36 rfl rfl (am_ok_v mi_36 (am_hl rfl (am_ccR i0 am_cats_0) rfl) z1) (am_hc am_cats_0 rfl) (fun _ => ⟨rfl, hh_49⟩) (fun o1 hz9 => rm_36 x0 h o1 i0 hz9) ?_
  rcases am_cI_s hs1 with ⟨v2, h3, f4, hs2⟩ | hs2
  · clear hs1
    refine Or.inl ⟨_, _, f4, ?_⟩
    show am_W X _ 49 4 _ [(.int v2)] h3 _
    refine aw_istore_n (lv1 := am_put1 _ 1 _) (pc1 := 5) at_49_4 rfl rfl ?_
    refine aw_iload_n (pc1 := 6) at_49_5 am_lk0 rfl ?_
    refine aw_bipush (v := 45) (pc1 := 8) at_49_6 (by decide) rfl ?_
    by_cases c5 : ¬ v2 = 45
    · rw [if_pos c5] at hs2
      refine aw_icne_t at_49_8 c5 ?_
      exact rg_49_45 x0 v2 h3 o (am_lk1 l0 rfl (by rw [am_isRc i0]; rfl)) am_lk0 i0 hs2
    · rw [if_neg c5] at hs2
      refine aw_icne_f (pc1 := 11) at_49_8 c5 rfl ?_
      refine aw_vload_n (pc1 := 12) at_49_11 (am_lk1 l0 rfl (by rw [am_isRc i0]; rfl)) i0 rfl ?_
      obtain ⟨v6, e7, hs3⟩ := am_bind hs2
      clear hs2
      refine aw_pG (pc1 := 15) at_49_12 (am_vI_s e7) rfl ?_
      refine aw_iconst (v := 1) (pc1 := 16) at_49_15 (by decide) rfl ?_
      refine aw_iadd (v := (v6 + 1)) (pc1 := 17) at_49_16 rfl rfl ?_
      refine aw_vload_n (pc1 := 18) at_49_17 (am_lk1 l0 rfl (by rw [am_isRc i0]; rfl)) i0 rfl ?_
      obtain ⟨v8, e9, hs4⟩ := am_bind hs3
      clear hs3
      refine aw_pG (pc1 := 21) at_49_18 (am_vI_s e9) rfl ?_
      by_cases c10 : v8 ≤ (v6 + 1)
      · rw [if_pos c10] at hs4
        refine aw_icge_t at_49_21 c10 ?_
        exact rg_49_45 x0 v2 h3 o (am_lk1 l0 rfl (by rw [am_isRc i0]; rfl)) am_lk0 i0 hs4
      · rw [if_neg c10] at hs4
        refine aw_icge_f (pc1 := 24) at_49_21 c10 rfl ?_
        refine aw_vload_n (pc1 := 25) at_49_24 (am_lk1 l0 rfl (by rw [am_isRc i0]; rfl)) i0 rfl ?_
        obtain ⟨v11, e12, hs5⟩ := am_bind hs4
        clear hs4
        refine aw_pG (pc1 := 28) at_49_25 (am_vR_s e12).1 rfl ?_
        refine aw_vload_n (pc1 := 29) at_49_28 (am_lk1 l0 rfl (by rw [am_isRc i0]; rfl)) i0 rfl ?_
        obtain ⟨v13, e14, hs6⟩ := am_bind hs5
        clear hs5
        refine aw_pG (pc1 := 32) at_49_29 (am_vI_s e14) rfl ?_
        refine aw_iconst (v := 1) (pc1 := 33) at_49_32 (by decide) rfl ?_
        refine aw_iadd (v := (v13 + 1)) (pc1 := 34) at_49_33 rfl rfl ?_
        obtain ⟨v15, e16, hs7⟩ := am_bind hs6
        clear hs6
        refine aw_pA (pc1 := 35) at_49_34 (Or.inr (Or.inr ⟨rfl, rfl⟩)) e16 rfl ?_
        refine aw_call (F := fm_45 v15 h3) (t := false) (na := 1) (kd := 0) (as := [(.int v15)]) at_49_35 (am_k3s kb_45) mn_45 mk_45 rfl rfl (am_ok_s mi_45 (am_hl rfl (am_ccI am_cats_0) rfl)) (am_hc am_cats_0 rfl) (fun hz9 => by cases hz9) (fun o1 hz9 => rm_45 v15 h3 o1  hz9) ?_
        rcases am_cI_s hs7 with ⟨v17, h18, f19, hs8⟩ | hs8
        · clear hs7
          refine Or.inl ⟨_, _, f19, ?_⟩
          show am_W X _ 49 38 _ [(.int v17)] h18 _
          by_cases c20 : v17 = 0
          · rw [if_pos c20] at hs8
            refine aw_ifeq_t at_49_38 c20 ?_
            exact rg_49_45 x0 v2 h18 o (am_lk1 l0 rfl (by rw [am_isRc i0]; rfl)) am_lk0 i0 hs8
          · rw [if_neg c20] at hs8
            refine aw_ifeq_f (pc1 := 41) at_49_38 c20 rfl ?_
            refine aw_iconst (v := 1) (pc1 := 42) at_49_41 (by decide) rfl ?_
            refine aw_goto at_49_42 ?_
            exact rg_49_46 x0 v2 1 h18 o (am_lk1 l0 rfl (by rw [am_isRc i0]; rfl)) am_lk0 i0 hs8
        · clear hs7
          exact Or.inr hs8
  · clear hs1
    exact Or.inr hs2
def fm_49 (N : Nat) (y0 : Value) (h : am_H) : Option am_O := fg_49_0 N y0 h
theorem rm_49 {X : am_X} {d : Nat} {N : Nat} (y0 : Value) (h : am_H) (o : am_O) (i0 : am_isR y0 = true) (hs : fm_49 N y0 h = some o) : am_W X (d + 3) 49 0 (am_args 0 [y0]) [] h (fun q => q = o) := by
  rw [am_args_R i0]
  exact rg_49_0 y0 h o rfl i0 hs
def fg_51_38 (h : am_H) : Option am_O := some (.inl (none, h))
theorem rg_51_38 {X : am_X} {d : Nat} {lv : am_LV} (h : am_H) (o : am_O) (hs : fg_51_38 h = some o) : am_W X (d) 51 38 lv [] h (fun q => q = o) := by
  unfold fg_51_38 at hs
  cases hs
  exact aw_vret at_51_38 rt_51 rfl
def fg_51_0 (x0 : Value) (x1 : Int32) (x2 : Int32) (x3 : Int32) (h : am_H) : Option am_O := (if x1 < 0 then (fg_51_38 h) else ((am_vI (am_pG 771 x0 h)).bind fun v2 => (if v2 ≤ x1 then (fg_51_38 h) else (if x2 < 0 then (fg_51_38 h) else ((am_vI (am_pG 772 x0 h)).bind fun v6 => (if v6 ≤ x2 then (fg_51_38 h) else ((am_vR (am_pG 768 x0 h)).bind fun v9 => ((am_vI (am_pG 772 x0 h)).bind fun v11 => ((am_pS 0 v9 ((x1 * v11) + x2) x3 h).bind fun h13 => (fg_51_38 h13))))))))))
theorem rg_51_0 {X : am_X} {d : Nat} {lv : am_LV} (x0 : Value) (x1 : Int32) (x2 : Int32) (x3 : Int32) (h : am_H) (o : am_O) (l0 : lv.lookup 0 = some x0) (l1 : lv.lookup 1 = some (.int x1)) (l2 : lv.lookup 2 = some (.int x2)) (l3 : lv.lookup 3 = some (.int x3)) (i0 : am_isR x0 = true) (hs : fg_51_0 x0 x1 x2 x3 h = some o) : am_W X (d) 51 0 lv [] h (fun q => q = o) := by
  unfold fg_51_0 at hs
  refine aw_iload_n (pc1 := 1) at_51_0 l1 rfl ?_
  by_cases c1 : x1 < 0
  · rw [if_pos c1] at hs
    refine aw_iflt_t at_51_1 c1 ?_
    exact rg_51_38 h o   hs
  · rw [if_neg c1] at hs
    refine aw_iflt_f (pc1 := 4) at_51_1 c1 rfl ?_
    refine aw_iload_n (pc1 := 5) at_51_4 l1 rfl ?_
    refine aw_vload_n (pc1 := 6) at_51_5 l0 i0 rfl ?_
    obtain ⟨v2, e3, hs1⟩ := am_bind hs
    clear hs
    refine aw_pG (pc1 := 9) at_51_6 (am_vI_s e3) rfl ?_
    by_cases c4 : v2 ≤ x1
    · rw [if_pos c4] at hs1
      refine aw_icge_t at_51_9 c4 ?_
      exact rg_51_38 h o   hs1
    · rw [if_neg c4] at hs1
      refine aw_icge_f (pc1 := 12) at_51_9 c4 rfl ?_
      refine aw_iload_n (pc1 := 13) at_51_12 l2 rfl ?_
      by_cases c5 : x2 < 0
      · rw [if_pos c5] at hs1
        refine aw_iflt_t at_51_13 c5 ?_
        exact rg_51_38 h o   hs1
      · rw [if_neg c5] at hs1
        refine aw_iflt_f (pc1 := 16) at_51_13 c5 rfl ?_
        refine aw_iload_n (pc1 := 17) at_51_16 l2 rfl ?_
        refine aw_vload_n (pc1 := 18) at_51_17 l0 i0 rfl ?_
        obtain ⟨v6, e7, hs2⟩ := am_bind hs1
        clear hs1
        refine aw_pG (pc1 := 21) at_51_18 (am_vI_s e7) rfl ?_
        by_cases c8 : v6 ≤ x2
        · rw [if_pos c8] at hs2
          refine aw_icge_t at_51_21 c8 ?_
          exact rg_51_38 h o   hs2
        · rw [if_neg c8] at hs2
          refine aw_icge_f (pc1 := 24) at_51_21 c8 rfl ?_
          refine aw_vload_n (pc1 := 25) at_51_24 l0 i0 rfl ?_
          obtain ⟨v9, e10, hs3⟩ := am_bind hs2
          clear hs2
          refine aw_pG (pc1 := 28) at_51_25 (am_vR_s e10).1 rfl ?_
          refine aw_iload_n (pc1 := 29) at_51_28 l1 rfl ?_
          refine aw_vload_n (pc1 := 30) at_51_29 l0 i0 rfl ?_
          obtain ⟨v11, e12, hs4⟩ := am_bind hs3
          clear hs3
          refine aw_pG (pc1 := 33) at_51_30 (am_vI_s e12) rfl ?_
          refine aw_imul (v := (x1 * v11)) (pc1 := 34) at_51_33 rfl rfl ?_
          refine aw_iload_n (pc1 := 35) at_51_34 l2 rfl ?_
          refine aw_iadd (v := ((x1 * v11) + x2)) (pc1 := 36) at_51_35 rfl rfl ?_
          refine aw_iload_n (pc1 := 37) at_51_36 l3 rfl ?_
          obtain ⟨h13, e14, hs5⟩ := am_bind hs4
          clear hs4
          refine aw_pS (pc1 := 38) at_51_37 (Or.inl ⟨rfl, rfl⟩) e14 rfl ?_
          exact rg_51_38 h13 o   hs5
def fm_51 (y0 : Value) (y1 : Int32) (y2 : Int32) (y3 : Int32) (h : am_H) : Option am_O := fg_51_0 y0 y1 y2 y3 h
theorem rm_51 {X : am_X} {d : Nat} (y0 : Value) (y1 : Int32) (y2 : Int32) (y3 : Int32) (h : am_H) (o : am_O) (i0 : am_isR y0 = true) (hs : fm_51 y0 y1 y2 y3 h = some o) : am_W X (d) 51 0 (am_args 0 [y0, .int y1, .int y2, .int y3]) [] h (fun q => q = o) := by
  rw [am_args_R i0, am_args_I, am_args_I, am_args_I]
  exact rg_51_0 y0 y1 y2 y3 h o rfl rfl rfl rfl i0 hs
def fg_50_22 (N : Nat) : Nat → Value → Int32 → Int32 → am_H → Option am_O
  | 0 => fun _ _ _ _ => none
  | K + 1 => fun x0 x1 x2 h => (if 4 ≤ x2 then some (.inl (none, h)) else ((am_vR (am_pG 2309 x0 h)).bind fun v2 => ((am_vI (am_pG 2306 x0 h)).bind fun v4 => ((am_pS 0 v2 ((4 * x1) + x2) v4 h).bind fun h6 => ((am_vR (am_pG 2308 x0 h6)).bind fun v8 => (if am_pOk 9 x0 h6 then am_cI true (fm_47 x0 0 9 h6) (fun v11 h12 => (if am_pOk 3 v8 h12 then am_cV true (fm_51 v8 x1 ((1 + x2)) v11 h12) (fun h16 => (fg_50_22 N K x0 x1 ((x2 + 1)) h16)) else none)) else none))))))
theorem rg_50_22 {X : am_X} {d : Nat} {N : Nat} : ∀ (K : Nat) (x0 : Value) (x1 : Int32) (x2 : Int32) (h : am_H) (o : am_O), fg_50_22 N K x0 x1 x2 h = some o → ∀ lv : am_LV, (lv.lookup 0 = some x0) → (lv.lookup 1 = some (.int x1)) → (lv.lookup 2 = some (.int x2)) → (am_isR x0 = true) → am_W X (d + 3) 50 22 lv [] h (fun q => q = o) := by
  intro K
  induction K with
  | zero => intro x0 x1 x2 h o hs; cases hs
  | succ K ih =>
    intro x0 x1 x2 h o hs lv l0 l1 l2 i0
    unfold fg_50_22 at hs
    refine aw_iload_n (pc1 := 23) at_50_22 l2 rfl ?_
    refine aw_iconst (v := 4) (pc1 := 24) at_50_23 (by decide) rfl ?_
    by_cases c1 : 4 ≤ x2
    · rw [if_pos c1] at hs
      refine aw_icge_t at_50_24 c1 ?_
      cases hs
      exact aw_vret at_50_65 rt_50 rfl
    · rw [if_neg c1] at hs
      refine aw_icge_f (pc1 := 27) at_50_24 c1 rfl ?_
      refine aw_vload_n (pc1 := 28) at_50_27 l0 i0 rfl ?_
      obtain ⟨v2, e3, hs1⟩ := am_bind hs
      clear hs
      refine aw_pG (pc1 := 31) at_50_28 (am_vR_s e3).1 rfl ?_
      refine aw_iconst (v := 4) (pc1 := 32) at_50_31 (by decide) rfl ?_
      refine aw_iload_n (pc1 := 33) at_50_32 l1 rfl ?_
      refine aw_imul (v := (4 * x1)) (pc1 := 34) at_50_33 rfl rfl ?_
      refine aw_iload_n (pc1 := 35) at_50_34 l2 rfl ?_
      refine aw_iadd (v := ((4 * x1) + x2)) (pc1 := 36) at_50_35 rfl rfl ?_
      refine aw_vload_n (pc1 := 37) at_50_36 l0 i0 rfl ?_
      obtain ⟨v4, e5, hs2⟩ := am_bind hs1
      clear hs1
      refine aw_pG (pc1 := 40) at_50_37 (am_vI_s e5) rfl ?_
      obtain ⟨h6, e7, hs3⟩ := am_bind hs2
      clear hs2
      refine aw_pS (pc1 := 41) at_50_40 (Or.inl ⟨rfl, rfl⟩) e7 rfl ?_
      refine aw_vload_n (pc1 := 42) at_50_41 l0 i0 rfl ?_
      obtain ⟨v8, e9, hs4⟩ := am_bind hs3
      clear hs3
      refine aw_pG (pc1 := 45) at_50_42 (am_vR_s e9).1 rfl ?_
      refine aw_iload_n (pc1 := 46) at_50_45 l1 rfl ?_
      refine aw_iconst (v := 1) (pc1 := 47) at_50_46 (by decide) rfl ?_
      refine aw_iload_n (pc1 := 48) at_50_47 l2 rfl ?_
      refine aw_iadd (v := (1 + x2)) (pc1 := 49) at_50_48 rfl rfl ?_
      refine aw_vload_n (pc1 := 50) at_50_49 l0 i0 rfl ?_
      refine aw_iconst (v := 0) (pc1 := 51) at_50_50 (by decide) rfl ?_
      refine aw_bipush (v := 9) (pc1 := 53) at_50_51 (by decide) rfl ?_
      obtain ⟨z10, hs5⟩ := am_ift hs4
      clear hs4
      refine aw_call (F := fm_47 x0 0 9 h6) (t := true) (na := 3) (kd := 1) (as := [x0, (.int 0), (.int 9)]) at_50_53 (am_k3v kb_47) mn_47 mk_47 rfl rfl (am_ok_v mi_47 (am_hl rfl (am_ccR i0 (am_ccI (am_ccI am_cats_0))) rfl) z10) (am_hc (am_ccI (am_ccI (am_ccR (am_vR_s e9).2 am_cats_0))) rfl) (fun _ => ⟨rfl, hh_50⟩) (fun o1 hz9 => rm_47 x0 0 9 h6 o1 i0 hz9) ?_
      rcases am_cI_s hs5 with ⟨v11, h12, f13, hs6⟩ | hs6
      · clear hs5
        refine Or.inl ⟨_, _, f13, ?_⟩
        show am_W X _ 50 56 _ [(.int v11), (.int (1 + x2)), (.int x1), v8] h12 _
        obtain ⟨z14, hs7⟩ := am_ift hs6
        clear hs6
        refine aw_call (F := fm_51 v8 x1 ((1 + x2)) v11 h12) (t := true) (na := 4) (kd := 1) (as := [v8, (.int x1), (.int (1 + x2)), (.int v11)]) at_50_56 (am_k3v kb_51) mn_51 mk_51 rfl rfl (am_ok_v mi_51 (am_hl rfl (am_ccR (am_vR_s e9).2 (am_ccI (am_ccI (am_ccI am_cats_0)))) rfl) z14) (am_hc am_cats_0 rfl) (fun _ => ⟨rfl, hh_50⟩) (fun o1 hz9 => rm_51 v8 x1 ((1 + x2)) v11 h12 o1 (am_vR_s e9).2 hz9) ?_
        rcases am_cV_s hs7 with ⟨h16, f17, hs8⟩ | hs8
        · clear hs7
          refine Or.inl ⟨_, _, f17, ?_⟩
          show am_W X _ 50 59 _ [] h16 _
          refine aw_iinc (v := (x2 + 1)) (c := 1) (lv1 := am_put1 _ 2 _) (pc1 := 62) at_50_59 l2 (by decide) rfl rfl rfl ?_
          refine aw_goto at_50_62 ?_
          exact ih x0 x1 ((x2 + 1)) h16 o hs8 _ (am_lk1 l0 rfl rfl) (am_lk1 l1 rfl rfl) am_lk0 i0
        · clear hs7
          exact Or.inr hs8
      · clear hs5
        exact Or.inr hs6
def fg_50_0 (N : Nat) (x0 : Value) (x1 : Int32) (h : am_H) : Option am_O := ((am_vR (am_pG 2308 x0 h)).bind fun v1 => (if am_pOk 9 x0 h then am_cI true (fm_43 N x0 h) (fun v4 h5 => (if am_pOk 3 v1 h5 then am_cI true (fm_41 N v1 v4 0 h5) (fun v8 h9 => (if am_pOk 9 x0 h9 then am_cI true (fm_42 x0 58 h9) (fun v12 h13 => (fg_50_22 N N x0 x1 0 h13)) else none)) else none)) else none))
theorem rg_50_0 {X : am_X} {d : Nat} {N : Nat} {lv : am_LV} (x0 : Value) (x1 : Int32) (h : am_H) (o : am_O) (l0 : lv.lookup 0 = some x0) (l1 : lv.lookup 1 = some (.int x1)) (i0 : am_isR x0 = true) (hs : fg_50_0 N x0 x1 h = some o) : am_W X (d + 3) 50 0 lv [] h (fun q => q = o) := by
  unfold fg_50_0 at hs
  refine aw_vload_n (pc1 := 1) at_50_0 l0 i0 rfl ?_
  obtain ⟨v1, e2, hs1⟩ := am_bind hs
  clear hs
  refine aw_pG (pc1 := 4) at_50_1 (am_vR_s e2).1 rfl ?_
  refine aw_vload_n (pc1 := 5) at_50_4 l0 i0 rfl ?_
  obtain ⟨z3, hs2⟩ := am_ift hs1
  clear hs1
  refine aw_call (F := fm_43 N x0 h) (t := true) (na := 1) (kd := 1) (as := [x0]) at_50_5 (am_k3v kb_43) mn_43 mk_43 rfl rfl (am_ok_v mi_43 (am_hl rfl (am_ccR i0 am_cats_0) rfl) z3) (am_hc (am_ccR (am_vR_s e2).2 am_cats_0) rfl) (fun _ => ⟨rfl, hh_50⟩) (fun o1 hz9 => rm_43 x0 h o1 i0 hz9) ?_
  rcases am_cI_s hs2 with ⟨v4, h5, f6, hs3⟩ | hs3
  · clear hs2
    refine Or.inl ⟨_, _, f6, ?_⟩
    show am_W X _ 50 8 _ [(.int v4), v1] h5 _
    refine aw_iconst (v := 0) (pc1 := 9) at_50_8 (by decide) rfl ?_
    obtain ⟨z7, hs4⟩ := am_ift hs3
    clear hs3
    refine aw_call (F := fm_41 N v1 v4 0 h5) (t := true) (na := 3) (kd := 1) (as := [v1, (.int v4), (.int 0)]) at_50_9 (am_k3v kb_41) mn_41 mk_41 rfl rfl (am_ok_v mi_41 (am_hl rfl (am_ccR (am_vR_s e2).2 (am_ccI (am_ccI am_cats_0))) rfl) z7) (am_hc am_cats_0 rfl) (fun _ => ⟨rfl, hh_50⟩) (fun o1 hz9 => rm_41 v1 v4 0 h5 o1 (am_vR_s e2).2 hz9) ?_
    rcases am_cI_s hs4 with ⟨v8, h9, f10, hs5⟩ | hs5
    · clear hs4
      refine Or.inl ⟨_, _, f10, ?_⟩
      show am_W X _ 50 12 _ [(.int v8)] h9 _
      refine aw_popi (pc1 := 13) at_50_12 rfl ?_
      refine aw_vload_n (pc1 := 14) at_50_13 l0 i0 rfl ?_
      refine aw_bipush (v := 58) (pc1 := 16) at_50_14 (by decide) rfl ?_
      obtain ⟨z11, hs6⟩ := am_ift hs5
      clear hs5
      refine aw_call (F := fm_42 x0 58 h9) (t := true) (na := 2) (kd := 1) (as := [x0, (.int 58)]) at_50_16 (am_k3v kb_42) mn_42 mk_42 rfl rfl (am_ok_v mi_42 (am_hl rfl (am_ccR i0 (am_ccI am_cats_0)) rfl) z11) (am_hc am_cats_0 rfl) (fun _ => ⟨rfl, hh_50⟩) (fun o1 hz9 => rm_42 x0 58 h9 o1 i0 hz9) ?_
      rcases am_cI_s hs6 with ⟨v12, h13, f14, hs7⟩ | hs7
      · clear hs6
        refine Or.inl ⟨_, _, f14, ?_⟩
        show am_W X _ 50 19 _ [(.int v12)] h13 _
        refine aw_popi (pc1 := 20) at_50_19 rfl ?_
        refine aw_iconst (v := 0) (pc1 := 21) at_50_20 (by decide) rfl ?_
        refine aw_istore_n (lv1 := am_put1 _ 2 _) (pc1 := 22) at_50_21 rfl rfl ?_
        exact rg_50_22 N x0 x1 0 h13 o hs7 _ (am_lk1 l0 rfl rfl) (am_lk1 l1 rfl rfl) am_lk0 i0
      · clear hs6
        exact Or.inr hs7
    · clear hs4
      exact Or.inr hs5
  · clear hs2
    exact Or.inr hs3
def fm_50 (N : Nat) (y0 : Value) (y1 : Int32) (h : am_H) : Option am_O := fg_50_0 N y0 y1 h
theorem rm_50 {X : am_X} {d : Nat} {N : Nat} (y0 : Value) (y1 : Int32) (h : am_H) (o : am_O) (i0 : am_isR y0 = true) (hs : fm_50 N y0 y1 h = some o) : am_W X (d + 3) 50 0 (am_args 0 [y0, .int y1]) [] h (fun q => q = o) := by
  rw [am_args_R i0, am_args_I]
  exact rg_50_0 y0 y1 h o rfl rfl i0 hs
def fg_48_111 (N : Nat) (h : am_H) : Option am_O := some (.inl (none, h))
theorem rg_48_111 {X : am_X} {d : Nat} {N : Nat} {lv : am_LV} (h : am_H) (o : am_O) (hs : fg_48_111 N h = some o) : am_W X (d + 4) 48 111 lv [] h (fun q => q = o) := by
  unfold fg_48_111 at hs
  cases hs
  exact aw_vret at_48_111 rt_48 rfl
def fg_48_105 (N : Nat) (rec_15 : Value → Int32 → Int32 → Int32 → am_H → Option am_O) (x0 : Value) (x1 : Int32) (x2 : Int32) (x3 : Int32) (h : am_H) : Option am_O := (rec_15 x0 x1 x2 ((x3 + 1)) h)
theorem rg_48_105 {X : am_X} {d : Nat} {N : Nat} {rec_15 : Value → Int32 → Int32 → Int32 → am_H → Option am_O} (q_15 : ∀ (x0 : Value) (x1 : Int32) (x2 : Int32) (x3 : Int32) (h : am_H) (o : am_O), rec_15 x0 x1 x2 x3 h = some o → ∀ lv : am_LV, (lv.lookup 0 = some x0) → (lv.lookup 1 = some (.int x1)) → (lv.lookup 2 = some (.int x2)) → (lv.lookup 3 = some (.int x3)) → (am_isR x0 = true) → am_W X (d + 4) 48 15 lv [] h (fun q => q = o)) {lv : am_LV} (x0 : Value) (x1 : Int32) (x2 : Int32) (x3 : Int32) (h : am_H) (o : am_O) (l0 : lv.lookup 0 = some x0) (l1 : lv.lookup 1 = some (.int x1)) (l2 : lv.lookup 2 = some (.int x2)) (l3 : lv.lookup 3 = some (.int x3)) (i0 : am_isR x0 = true) (hs : fg_48_105 N rec_15 x0 x1 x2 x3 h = some o) : am_W X (d + 4) 48 105 lv [] h (fun q => q = o) := by
  unfold fg_48_105 at hs
  refine aw_iinc (v := (x3 + 1)) (c := 1) (lv1 := am_put1 _ 3 _) (pc1 := 108) at_48_105 l3 (by decide) rfl rfl rfl ?_
  refine aw_goto at_48_108 ?_
  exact q_15 x0 x1 x2 ((x3 + 1)) h o hs _ (am_lk1 l0 rfl rfl) (am_lk1 l1 rfl rfl) (am_lk1 l2 rfl rfl) am_lk0 i0
def fg_48_66 (N : Nat) (rec_15 : Value → Int32 → Int32 → Int32 → am_H → Option am_O) (x0 : Value) (x1 : Int32) (x2 : Int32) (x3 : Int32) (h : am_H) : Option am_O := (if ¬ x3 = x2 then (if ¬ x1 = 1 then (if am_pOk 9 x0 h then am_cV true (fm_50 N x0 x3 h) (fun h5 => (fg_48_105 N rec_15 x0 x1 x2 x3 h5)) else none) else ((am_vR (am_pG 2309 x0 h)).bind fun v7 => ((am_vI (am_pG 2306 x0 h)).bind fun v9 => ((am_pS 0 v7 x3 v9 h).bind fun h11 => (if am_pOk 9 x0 h11 then am_cV true (fm_49 N x0 h11) (fun h15 => (fg_48_105 N rec_15 x0 x1 x2 x3 h15)) else none))))) else (if am_pOk 9 x0 h then am_cV true (fm_39 x0 h) (fun h19 => (fg_48_105 N rec_15 x0 x1 x2 x3 h19)) else none))
theorem rg_48_66 {X : am_X} {d : Nat} {N : Nat} {rec_15 : Value → Int32 → Int32 → Int32 → am_H → Option am_O} (q_15 : ∀ (x0 : Value) (x1 : Int32) (x2 : Int32) (x3 : Int32) (h : am_H) (o : am_O), rec_15 x0 x1 x2 x3 h = some o → ∀ lv : am_LV, (lv.lookup 0 = some x0) → (lv.lookup 1 = some (.int x1)) → (lv.lookup 2 = some (.int x2)) → (lv.lookup 3 = some (.int x3)) → (am_isR x0 = true) → am_W X (d + 4) 48 15 lv [] h (fun q => q = o)) {lv : am_LV} (x0 : Value) (x1 : Int32) (x2 : Int32) (x3 : Int32) (h : am_H) (o : am_O) (l0 : lv.lookup 0 = some x0) (l1 : lv.lookup 1 = some (.int x1)) (l2 : lv.lookup 2 = some (.int x2)) (l3 : lv.lookup 3 = some (.int x3)) (i0 : am_isR x0 = true) (hs : fg_48_66 N rec_15 x0 x1 x2 x3 h = some o) : am_W X (d + 4) 48 66 lv [] h (fun q => q = o) := by
  unfold fg_48_66 at hs
  refine aw_iload_n (pc1 := 67) at_48_66 l3 rfl ?_
  refine aw_iload_n (pc1 := 68) at_48_67 l2 rfl ?_
  by_cases c1 : ¬ x3 = x2
  · rw [if_pos c1] at hs
    refine aw_icne_t at_48_68 c1 ?_
    refine aw_iload_n (pc1 := 79) at_48_78 l1 rfl ?_
    refine aw_iconst (v := 1) (pc1 := 80) at_48_79 (by decide) rfl ?_
    by_cases c2 : ¬ x1 = 1
    · rw [if_pos c2] at hs
      refine aw_icne_t at_48_80 c2 ?_
      refine aw_vload_n (pc1 := 101) at_48_100 l0 i0 rfl ?_
      refine aw_iload_n (pc1 := 102) at_48_101 l3 rfl ?_
      obtain ⟨z3, hs1⟩ := am_ift hs
      clear hs
      refine aw_call (F := fm_50 N x0 x3 h) (t := true) (na := 2) (kd := 1) (as := [x0, (.int x3)]) at_48_102 (am_k3v kb_50) mn_50 mk_50 rfl rfl (am_ok_v mi_50 (am_hl rfl (am_ccR i0 (am_ccI am_cats_0)) rfl) z3) (am_hc am_cats_0 rfl) (fun _ => ⟨rfl, hh_48⟩) (fun o1 hz9 => rm_50 x0 x3 h o1 i0 hz9) ?_
      rcases am_cV_s hs1 with ⟨h5, f6, hs2⟩ | hs2
      · clear hs1
        refine Or.inl ⟨_, _, f6, ?_⟩
        show am_W X _ 48 105 _ [] h5 _
        exact rg_48_105 q_15 x0 x1 x2 x3 h5 o l0 l1 l2 l3 i0 hs2
      · clear hs1
        exact Or.inr hs2
    · rw [if_neg c2] at hs
      refine aw_icne_f (pc1 := 83) at_48_80 c2 rfl ?_
      refine aw_vload_n (pc1 := 84) at_48_83 l0 i0 rfl ?_
      obtain ⟨v7, e8, hs3⟩ := am_bind hs
      clear hs
      refine aw_pG (pc1 := 87) at_48_84 (am_vR_s e8).1 rfl ?_
      refine aw_iload_n (pc1 := 88) at_48_87 l3 rfl ?_
      refine aw_vload_n (pc1 := 89) at_48_88 l0 i0 rfl ?_
      obtain ⟨v9, e10, hs4⟩ := am_bind hs3
      clear hs3
      refine aw_pG (pc1 := 92) at_48_89 (am_vI_s e10) rfl ?_
      obtain ⟨h11, e12, hs5⟩ := am_bind hs4
      clear hs4
      refine aw_pS (pc1 := 93) at_48_92 (Or.inl ⟨rfl, rfl⟩) e12 rfl ?_
      refine aw_vload_n (pc1 := 94) at_48_93 l0 i0 rfl ?_
      obtain ⟨z13, hs6⟩ := am_ift hs5
      clear hs5
      refine aw_call (F := fm_49 N x0 h11) (t := true) (na := 1) (kd := 1) (as := [x0]) at_48_94 (am_k3v kb_49) mn_49 mk_49 rfl rfl (am_ok_v mi_49 (am_hl rfl (am_ccR i0 am_cats_0) rfl) z13) (am_hc am_cats_0 rfl) (fun _ => ⟨rfl, hh_48⟩) (fun o1 hz9 => rm_49 x0 h11 o1 i0 hz9) ?_
      rcases am_cV_s hs6 with ⟨h15, f16, hs7⟩ | hs7
      · clear hs6
        refine Or.inl ⟨_, _, f16, ?_⟩
        show am_W X _ 48 97 _ [] h15 _
        refine aw_goto at_48_97 ?_
        exact rg_48_105 q_15 x0 x1 x2 x3 h15 o l0 l1 l2 l3 i0 hs7
      · clear hs6
        exact Or.inr hs7
  · rw [if_neg c1] at hs
    refine aw_icne_f (pc1 := 71) at_48_68 c1 rfl ?_
    refine aw_vload_n (pc1 := 72) at_48_71 l0 i0 rfl ?_
    obtain ⟨z17, hs8⟩ := am_ift hs
    clear hs
    refine aw_call (F := fm_39 x0 h) (t := true) (na := 1) (kd := 1) (as := [x0]) at_48_72 (am_k3v kb_39) mn_39 mk_39 rfl rfl (am_ok_v mi_39 (am_hl rfl (am_ccR i0 am_cats_0) rfl) z17) (am_hc am_cats_0 rfl) (fun _ => ⟨rfl, hh_48⟩) (fun o1 hz9 => rm_39 x0 h o1 i0 hz9) ?_
    rcases am_cV_s hs8 with ⟨h19, f20, hs9⟩ | hs9
    · clear hs8
      refine Or.inl ⟨_, _, f20, ?_⟩
      show am_W X _ 48 75 _ [] h19 _
      refine aw_goto at_48_75 ?_
      exact rg_48_105 q_15 x0 x1 x2 x3 h19 o l0 l1 l2 l3 i0 hs9
    · clear hs8
      exact Or.inr hs9
def fg_48_59 (N : Nat) (rec_15 : Value → Int32 → Int32 → Int32 → am_H → Option am_O) (x0 : Value) (x1 : Int32) (x2 : Int32) (x3 : Int32) (s0 : Value) (s1 : Int32) (h : am_H) : Option am_O := (if am_pOk 9 s0 h then am_cI true (fm_42 s0 s1 h) (fun v2 h3 => (if ¬ v2 = 0 then (fg_48_66 N rec_15 x0 x1 x2 x3 h3) else some (.inl (none, h3)))) else none)
theorem rg_48_59 {X : am_X} {d : Nat} {N : Nat} {rec_15 : Value → Int32 → Int32 → Int32 → am_H → Option am_O} (q_15 : ∀ (x0 : Value) (x1 : Int32) (x2 : Int32) (x3 : Int32) (h : am_H) (o : am_O), rec_15 x0 x1 x2 x3 h = some o → ∀ lv : am_LV, (lv.lookup 0 = some x0) → (lv.lookup 1 = some (.int x1)) → (lv.lookup 2 = some (.int x2)) → (lv.lookup 3 = some (.int x3)) → (am_isR x0 = true) → am_W X (d + 4) 48 15 lv [] h (fun q => q = o)) {lv : am_LV} (x0 : Value) (x1 : Int32) (x2 : Int32) (x3 : Int32) (s0 : Value) (s1 : Int32) (h : am_H) (o : am_O) (l0 : lv.lookup 0 = some x0) (l1 : lv.lookup 1 = some (.int x1)) (l2 : lv.lookup 2 = some (.int x2)) (l3 : lv.lookup 3 = some (.int x3)) (i0 : am_isR x0 = true) (j0 : am_isR s0 = true) (hs : fg_48_59 N rec_15 x0 x1 x2 x3 s0 s1 h = some o) : am_W X (d + 4) 48 59 lv [(.int s1), s0] h (fun q => q = o) := by
  unfold fg_48_59 at hs
  obtain ⟨z1, hs1⟩ := am_ift hs
  clear hs
  refine aw_call (F := fm_42 s0 s1 h) (t := true) (na := 2) (kd := 1) (as := [s0, (.int s1)]) at_48_59 (am_k3v kb_42) mn_42 mk_42 rfl rfl (am_ok_v mi_42 (am_hl rfl (am_ccR j0 (am_ccI am_cats_0)) rfl) z1) (am_hc am_cats_0 rfl) (fun _ => ⟨rfl, hh_48⟩) (fun o1 hz9 => rm_42 s0 s1 h o1 j0 hz9) ?_
  rcases am_cI_s hs1 with ⟨v2, h3, f4, hs2⟩ | hs2
  · clear hs1
    refine Or.inl ⟨_, _, f4, ?_⟩
    show am_W X _ 48 62 _ [(.int v2)] h3 _
    by_cases c5 : ¬ v2 = 0
    · rw [if_pos c5] at hs2
      refine aw_ifne_t at_48_62 c5 ?_
      exact rg_48_66 q_15 x0 x1 x2 x3 h3 o l0 l1 l2 l3 i0 hs2
    · rw [if_neg c5] at hs2
      refine aw_ifne_f (pc1 := 65) at_48_62 c5 rfl ?_
      cases hs2
      exact aw_vret at_48_65 rt_48 rfl
  · clear hs1
    exact Or.inr hs2
def fg_48_42 (N : Nat) (rec_15 : Value → Int32 → Int32 → Int32 → am_H → Option am_O) (x0 : Value) (x1 : Int32) (x2 : Int32) (x3 : Int32) (h : am_H) : Option am_O := (if x3 ≤ 0 then (fg_48_66 N rec_15 x0 x1 x2 x3 h) else (if ¬ x1 = 1 then (fg_48_59 N rec_15 x0 x1 x2 x3 x0 59 h) else (fg_48_59 N rec_15 x0 x1 x2 x3 x0 32 h)))
theorem rg_48_42 {X : am_X} {d : Nat} {N : Nat} {rec_15 : Value → Int32 → Int32 → Int32 → am_H → Option am_O} (q_15 : ∀ (x0 : Value) (x1 : Int32) (x2 : Int32) (x3 : Int32) (h : am_H) (o : am_O), rec_15 x0 x1 x2 x3 h = some o → ∀ lv : am_LV, (lv.lookup 0 = some x0) → (lv.lookup 1 = some (.int x1)) → (lv.lookup 2 = some (.int x2)) → (lv.lookup 3 = some (.int x3)) → (am_isR x0 = true) → am_W X (d + 4) 48 15 lv [] h (fun q => q = o)) {lv : am_LV} (x0 : Value) (x1 : Int32) (x2 : Int32) (x3 : Int32) (h : am_H) (o : am_O) (l0 : lv.lookup 0 = some x0) (l1 : lv.lookup 1 = some (.int x1)) (l2 : lv.lookup 2 = some (.int x2)) (l3 : lv.lookup 3 = some (.int x3)) (i0 : am_isR x0 = true) (hs : fg_48_42 N rec_15 x0 x1 x2 x3 h = some o) : am_W X (d + 4) 48 42 lv [] h (fun q => q = o) := by
  unfold fg_48_42 at hs
  refine aw_iload_n (pc1 := 43) at_48_42 l3 rfl ?_
  by_cases c1 : x3 ≤ 0
  · rw [if_pos c1] at hs
    refine aw_ifle_t at_48_43 c1 ?_
    exact rg_48_66 q_15 x0 x1 x2 x3 h o l0 l1 l2 l3 i0 hs
  · rw [if_neg c1] at hs
    refine aw_ifle_f (pc1 := 46) at_48_43 c1 rfl ?_
    refine aw_vload_n (pc1 := 47) at_48_46 l0 i0 rfl ?_
    refine aw_iload_n (pc1 := 48) at_48_47 l1 rfl ?_
    refine aw_iconst (v := 1) (pc1 := 49) at_48_48 (by decide) rfl ?_
    by_cases c2 : ¬ x1 = 1
    · rw [if_pos c2] at hs
      refine aw_icne_t at_48_49 c2 ?_
      refine aw_bipush (v := 59) (pc1 := 59) at_48_57 (by decide) rfl ?_
      exact rg_48_59 q_15 x0 x1 x2 x3 x0 59 h o l0 l1 l2 l3 i0 i0 hs
    · rw [if_neg c2] at hs
      refine aw_icne_f (pc1 := 52) at_48_49 c2 rfl ?_
      refine aw_bipush (v := 32) (pc1 := 54) at_48_52 (by decide) rfl ?_
      refine aw_goto at_48_54 ?_
      exact rg_48_59 q_15 x0 x1 x2 x3 x0 32 h o l0 l1 l2 l3 i0 i0 hs
def fg_48_15 (N : Nat) : Nat → Value → Int32 → Int32 → Int32 → am_H → Option am_O
  | 0 => fun _ _ _ _ _ => none
  | K + 1 => fun x0 x1 x2 x3 h => (if x2 < x3 then (fg_48_111 N h) else ((am_vI (am_pG 2307 x0 h)).bind fun v2 => (if 0 ≤ v2 then (fg_48_111 N h) else (if x3 = 0 then (fg_48_42 N (fg_48_15 N K) x0 x1 x2 x3 h) else ((am_vI (am_pG 2306 x0 h)).bind fun v6 => ((am_vI (am_pG 2305 x0 h)).bind fun v8 => (if v8 ≤ v6 then (fg_48_111 N h) else (fg_48_42 N (fg_48_15 N K) x0 x1 x2 x3 h))))))))
theorem rg_48_15 {X : am_X} {d : Nat} {N : Nat} : ∀ (K : Nat) (x0 : Value) (x1 : Int32) (x2 : Int32) (x3 : Int32) (h : am_H) (o : am_O), fg_48_15 N K x0 x1 x2 x3 h = some o → ∀ lv : am_LV, (lv.lookup 0 = some x0) → (lv.lookup 1 = some (.int x1)) → (lv.lookup 2 = some (.int x2)) → (lv.lookup 3 = some (.int x3)) → (am_isR x0 = true) → am_W X (d + 4) 48 15 lv [] h (fun q => q = o) := by
  intro K
  induction K with
  | zero => intro x0 x1 x2 x3 h o hs; cases hs
  | succ K ih =>
    intro x0 x1 x2 x3 h o hs lv l0 l1 l2 l3 i0
    unfold fg_48_15 at hs
    refine aw_iload_n (pc1 := 16) at_48_15 l3 rfl ?_
    refine aw_iload_n (pc1 := 17) at_48_16 l2 rfl ?_
    by_cases c1 : x2 < x3
    · rw [if_pos c1] at hs
      refine aw_icgt_t at_48_17 c1 ?_
      exact rg_48_111 h o   hs
    · rw [if_neg c1] at hs
      refine aw_icgt_f (pc1 := 20) at_48_17 c1 rfl ?_
      refine aw_vload_n (pc1 := 21) at_48_20 l0 i0 rfl ?_
      obtain ⟨v2, e3, hs1⟩ := am_bind hs
      clear hs
      refine aw_pG (pc1 := 24) at_48_21 (am_vI_s e3) rfl ?_
      by_cases c4 : 0 ≤ v2
      · rw [if_pos c4] at hs1
        refine aw_ifge_t at_48_24 c4 ?_
        exact rg_48_111 h o   hs1
      · rw [if_neg c4] at hs1
        refine aw_ifge_f (pc1 := 27) at_48_24 c4 rfl ?_
        refine aw_iload_n (pc1 := 28) at_48_27 l3 rfl ?_
        by_cases c5 : x3 = 0
        · rw [if_pos c5] at hs1
          refine aw_ifeq_t at_48_28 c5 ?_
          exact rg_48_42 (fun z0 z1 z2 z3 h o hs1 => ih z0 z1 z2 z3 h o hs1) x0 x1 x2 x3 h o l0 l1 l2 l3 i0 hs1
        · rw [if_neg c5] at hs1
          refine aw_ifeq_f (pc1 := 31) at_48_28 c5 rfl ?_
          refine aw_vload_n (pc1 := 32) at_48_31 l0 i0 rfl ?_
          obtain ⟨v6, e7, hs2⟩ := am_bind hs1
          clear hs1
          refine aw_pG (pc1 := 35) at_48_32 (am_vI_s e7) rfl ?_
          refine aw_vload_n (pc1 := 36) at_48_35 l0 i0 rfl ?_
          obtain ⟨v8, e9, hs3⟩ := am_bind hs2
          clear hs2
          refine aw_pG (pc1 := 39) at_48_36 (am_vI_s e9) rfl ?_
          by_cases c10 : v8 ≤ v6
          · rw [if_pos c10] at hs3
            refine aw_icge_t at_48_39 c10 ?_
            exact rg_48_111 h o   hs3
          · rw [if_neg c10] at hs3
            refine aw_icge_f (pc1 := 42) at_48_39 c10 rfl ?_
            exact rg_48_42 (fun z0 z1 z2 z3 h o hs3 => ih z0 z1 z2 z3 h o hs3) x0 x1 x2 x3 h o l0 l1 l2 l3 i0 hs3
def fg_48_12 (N : Nat) (x0 : Value) (x1 : Int32) (s0 : Int32) (h : am_H) : Option am_O := (fg_48_15 N N x0 x1 s0 0 h)
theorem rg_48_12 {X : am_X} {d : Nat} {N : Nat} {lv : am_LV} (x0 : Value) (x1 : Int32) (s0 : Int32) (h : am_H) (o : am_O) (l0 : lv.lookup 0 = some x0) (l1 : lv.lookup 1 = some (.int x1)) (i0 : am_isR x0 = true) (hs : fg_48_12 N x0 x1 s0 h = some o) : am_W X (d + 4) 48 12 lv [(.int s0)] h (fun q => q = o) := by
  unfold fg_48_12 at hs
  refine aw_istore_n (lv1 := am_put1 _ 2 _) (pc1 := 13) at_48_12 rfl rfl ?_
  refine aw_iconst (v := 0) (pc1 := 14) at_48_13 (by decide) rfl ?_
  refine aw_istore_n (lv1 := am_put1 _ 3 _) (pc1 := 15) at_48_14 rfl rfl ?_
  exact rg_48_15 N x0 x1 s0 0 h o hs _ (am_lk1 (am_lk1 l0 rfl rfl) rfl rfl) (am_lk1 (am_lk1 l1 rfl rfl) rfl rfl) (am_lk1 am_lk0 rfl rfl) am_lk0 i0
def fg_48_0 (N : Nat) (x0 : Value) (x1 : Int32) (h : am_H) : Option am_O := (if ¬ x1 = 1 then (fg_48_12 N x0 x1 6 h) else (fg_48_12 N x0 x1 60 h))
theorem rg_48_0 {X : am_X} {d : Nat} {N : Nat} {lv : am_LV} (x0 : Value) (x1 : Int32) (h : am_H) (o : am_O) (l0 : lv.lookup 0 = some x0) (l1 : lv.lookup 1 = some (.int x1)) (i0 : am_isR x0 = true) (hs : fg_48_0 N x0 x1 h = some o) : am_W X (d + 4) 48 0 lv [] h (fun q => q = o) := by
  unfold fg_48_0 at hs
  refine aw_iload_n (pc1 := 1) at_48_0 l1 rfl ?_
  refine aw_iconst (v := 1) (pc1 := 2) at_48_1 (by decide) rfl ?_
  by_cases c1 : ¬ x1 = 1
  · rw [if_pos c1] at hs
    refine aw_icne_t at_48_2 c1 ?_
    refine aw_bipush (v := 6) (pc1 := 12) at_48_10 (by decide) rfl ?_
    exact rg_48_12 x0 x1 6 h o l0 l1 i0 hs
  · rw [if_neg c1] at hs
    refine aw_icne_f (pc1 := 5) at_48_2 c1 rfl ?_
    refine aw_bipush (v := 60) (pc1 := 7) at_48_5 (by decide) rfl ?_
    refine aw_goto at_48_7 ?_
    exact rg_48_12 x0 x1 60 h o l0 l1 i0 hs
def fm_48 (N : Nat) (y0 : Value) (y1 : Int32) (h : am_H) : Option am_O := fg_48_0 N y0 y1 h
theorem rm_48 {X : am_X} {d : Nat} {N : Nat} (y0 : Value) (y1 : Int32) (h : am_H) (o : am_O) (i0 : am_isR y0 = true) (hs : fm_48 N y0 y1 h = some o) : am_W X (d + 4) 48 0 (am_args 0 [y0, .int y1]) [] h (fun q => q = o) := by
  rw [am_args_R i0, am_args_I]
  exact rg_48_0 y0 y1 h o rfl rfl i0 hs
def fg_53_5 (N : Nat) : Nat → Value → Int32 → Int32 → Int32 → am_H → Option am_O
  | 0 => fun _ _ _ _ _ => none
  | K + 1 => fun x0 x1 x2 x3 h => (if x3 ≤ x2 then some (.inl (none, h)) else ((am_pS 0 x0 x2 x1 h).bind fun h2 => (fg_53_5 N K x0 x1 ((x2 + 1)) x3 h2)))
theorem rg_53_5 {X : am_X} {d : Nat} {N : Nat} : ∀ (K : Nat) (x0 : Value) (x1 : Int32) (x2 : Int32) (x3 : Int32) (h : am_H) (o : am_O), fg_53_5 N K x0 x1 x2 x3 h = some o → ∀ lv : am_LV, (lv.lookup 0 = some x0) → (lv.lookup 1 = some (.int x1)) → (lv.lookup 2 = some (.int x2)) → (lv.lookup 3 = some (.int x3)) → (am_isR x0 = true) → am_W X (d) 53 5 lv [] h (fun q => q = o) := by
  intro K
  induction K with
  | zero => intro x0 x1 x2 x3 h o hs; cases hs
  | succ K ih =>
    intro x0 x1 x2 x3 h o hs lv l0 l1 l2 l3 i0
    unfold fg_53_5 at hs
    refine aw_iload_n (pc1 := 6) at_53_5 l2 rfl ?_
    refine aw_iload_n (pc1 := 7) at_53_6 l3 rfl ?_
    by_cases c1 : x3 ≤ x2
    · rw [if_pos c1] at hs
      refine aw_icge_t at_53_7 c1 ?_
      cases hs
      exact aw_vret at_53_20 rt_53 rfl
    · rw [if_neg c1] at hs
      refine aw_icge_f (pc1 := 10) at_53_7 c1 rfl ?_
      refine aw_vload_n (pc1 := 11) at_53_10 l0 i0 rfl ?_
      refine aw_iload_n (pc1 := 12) at_53_11 l2 rfl ?_
      refine aw_iload_n (pc1 := 13) at_53_12 l1 rfl ?_
      obtain ⟨h2, e3, hs1⟩ := am_bind hs
      clear hs
      refine aw_pS (pc1 := 14) at_53_13 (Or.inl ⟨rfl, rfl⟩) e3 rfl ?_
      refine aw_iinc (v := (x2 + 1)) (c := 1) (lv1 := am_put1 _ 2 _) (pc1 := 17) at_53_14 l2 (by decide) rfl rfl rfl ?_
      refine aw_goto at_53_17 ?_
      exact ih x0 x1 ((x2 + 1)) x3 h2 o hs1 _ (am_lk1 l0 rfl rfl) (am_lk1 l1 rfl rfl) am_lk0 (am_lk1 l3 rfl rfl) i0
def fg_53_0 (N : Nat) (x0 : Value) (x1 : Int32) (h : am_H) : Option am_O := ((am_pLen x0 h).bind fun v1 => (fg_53_5 N N x0 x1 0 v1 h))
theorem rg_53_0 {X : am_X} {d : Nat} {N : Nat} {lv : am_LV} (x0 : Value) (x1 : Int32) (h : am_H) (o : am_O) (l0 : lv.lookup 0 = some x0) (l1 : lv.lookup 1 = some (.int x1)) (i0 : am_isR x0 = true) (hs : fg_53_0 N x0 x1 h = some o) : am_W X (d) 53 0 lv [] h (fun q => q = o) := by
  unfold fg_53_0 at hs
  refine aw_iconst (v := 0) (pc1 := 1) at_53_0 (by decide) rfl ?_
  refine aw_istore_n (lv1 := am_put1 _ 2 _) (pc1 := 2) at_53_1 rfl rfl ?_
  refine aw_vload_n (pc1 := 3) at_53_2 (am_lk1 l0 rfl rfl) i0 rfl ?_
  obtain ⟨v1, e2, hs1⟩ := am_bind hs
  clear hs
  refine aw_pLen (pc1 := 4) at_53_3 e2 rfl ?_
  refine aw_istore_n (lv1 := am_put1 _ 3 _) (pc1 := 5) at_53_4 rfl rfl ?_
  exact rg_53_5 N x0 x1 0 v1 h o hs1 _ (am_lk1 (am_lk1 l0 rfl rfl) rfl rfl) (am_lk1 (am_lk1 l1 rfl rfl) rfl rfl) (am_lk1 am_lk0 rfl rfl) am_lk0 i0
def fm_53 (N : Nat) (y0 : Value) (y1 : Int32) (h : am_H) : Option am_O := fg_53_0 N y0 y1 h
theorem rm_53 {X : am_X} {d : Nat} {N : Nat} (y0 : Value) (y1 : Int32) (h : am_H) (o : am_O) (i0 : am_isR y0 = true) (hs : fm_53 N y0 y1 h = some o) : am_W X (d) 53 0 (am_args 0 [y0, .int y1]) [] h (fun q => q = o) := by
  rw [am_args_R i0, am_args_I]
  exact rg_53_0 y0 y1 h o rfl rfl i0 hs
def fg_54_41 (s0 : Int32) (h : am_H) : Option am_O := some (.inl (some (.int s0), h))
theorem rg_54_41 {X : am_X} {d : Nat} {lv : am_LV} (s0 : Int32) (h : am_H) (o : am_O) (hs : fg_54_41 s0 h = some o) : am_W X (d) 54 41 lv [(.int s0)] h (fun q => q = o) := by
  unfold fg_54_41 at hs
  cases hs
  exact aw_iret at_54_41 (by rw [rt_54]; rfl) rfl
def fg_54_40 (h : am_H) : Option am_O := (fg_54_41 0 h)
theorem rg_54_40 {X : am_X} {d : Nat} {lv : am_LV} (h : am_H) (o : am_O) (hs : fg_54_40 h = some o) : am_W X (d) 54 40 lv [] h (fun q => q = o) := by
  unfold fg_54_40 at hs
  refine aw_iconst (v := 0) (pc1 := 41) at_54_40 (by decide) rfl ?_
  exact rg_54_41 0 h o   hs
def fg_54_0 (x0 : Value) (x1 : Int32) (x2 : Int32) (h : am_H) : Option am_O := (if x1 < 0 then (fg_54_40 h) else ((am_vI (am_pG 771 x0 h)).bind fun v2 => (if v2 ≤ x1 then (fg_54_40 h) else (if x2 < 0 then (fg_54_40 h) else ((am_vI (am_pG 772 x0 h)).bind fun v6 => (if v6 ≤ x2 then (fg_54_40 h) else ((am_vR (am_pG 768 x0 h)).bind fun v9 => ((am_vI (am_pG 772 x0 h)).bind fun v11 => ((am_pA 0 v9 ((x1 * v11) + x2) h).bind fun v13 => (fg_54_41 v13 h))))))))))
theorem rg_54_0 {X : am_X} {d : Nat} {lv : am_LV} (x0 : Value) (x1 : Int32) (x2 : Int32) (h : am_H) (o : am_O) (l0 : lv.lookup 0 = some x0) (l1 : lv.lookup 1 = some (.int x1)) (l2 : lv.lookup 2 = some (.int x2)) (i0 : am_isR x0 = true) (hs : fg_54_0 x0 x1 x2 h = some o) : am_W X (d) 54 0 lv [] h (fun q => q = o) := by
  unfold fg_54_0 at hs
  refine aw_iload_n (pc1 := 1) at_54_0 l1 rfl ?_
  by_cases c1 : x1 < 0
  · rw [if_pos c1] at hs
    refine aw_iflt_t at_54_1 c1 ?_
    exact rg_54_40 h o   hs
  · rw [if_neg c1] at hs
    refine aw_iflt_f (pc1 := 4) at_54_1 c1 rfl ?_
    refine aw_iload_n (pc1 := 5) at_54_4 l1 rfl ?_
    refine aw_vload_n (pc1 := 6) at_54_5 l0 i0 rfl ?_
    obtain ⟨v2, e3, hs1⟩ := am_bind hs
    clear hs
    refine aw_pG (pc1 := 9) at_54_6 (am_vI_s e3) rfl ?_
    by_cases c4 : v2 ≤ x1
    · rw [if_pos c4] at hs1
      refine aw_icge_t at_54_9 c4 ?_
      exact rg_54_40 h o   hs1
    · rw [if_neg c4] at hs1
      refine aw_icge_f (pc1 := 12) at_54_9 c4 rfl ?_
      refine aw_iload_n (pc1 := 13) at_54_12 l2 rfl ?_
      by_cases c5 : x2 < 0
      · rw [if_pos c5] at hs1
        refine aw_iflt_t at_54_13 c5 ?_
        exact rg_54_40 h o   hs1
      · rw [if_neg c5] at hs1
        refine aw_iflt_f (pc1 := 16) at_54_13 c5 rfl ?_
        refine aw_iload_n (pc1 := 17) at_54_16 l2 rfl ?_
        refine aw_vload_n (pc1 := 18) at_54_17 l0 i0 rfl ?_
        obtain ⟨v6, e7, hs2⟩ := am_bind hs1
        clear hs1
        refine aw_pG (pc1 := 21) at_54_18 (am_vI_s e7) rfl ?_
        by_cases c8 : v6 ≤ x2
        · rw [if_pos c8] at hs2
          refine aw_icge_t at_54_21 c8 ?_
          exact rg_54_40 h o   hs2
        · rw [if_neg c8] at hs2
          refine aw_icge_f (pc1 := 24) at_54_21 c8 rfl ?_
          refine aw_vload_n (pc1 := 25) at_54_24 l0 i0 rfl ?_
          obtain ⟨v9, e10, hs3⟩ := am_bind hs2
          clear hs2
          refine aw_pG (pc1 := 28) at_54_25 (am_vR_s e10).1 rfl ?_
          refine aw_iload_n (pc1 := 29) at_54_28 l1 rfl ?_
          refine aw_vload_n (pc1 := 30) at_54_29 l0 i0 rfl ?_
          obtain ⟨v11, e12, hs4⟩ := am_bind hs3
          clear hs3
          refine aw_pG (pc1 := 33) at_54_30 (am_vI_s e12) rfl ?_
          refine aw_imul (v := (x1 * v11)) (pc1 := 34) at_54_33 rfl rfl ?_
          refine aw_iload_n (pc1 := 35) at_54_34 l2 rfl ?_
          refine aw_iadd (v := ((x1 * v11) + x2)) (pc1 := 36) at_54_35 rfl rfl ?_
          obtain ⟨v13, e14, hs5⟩ := am_bind hs4
          clear hs4
          refine aw_pA (pc1 := 37) at_54_36 (Or.inl ⟨rfl, rfl⟩) e14 rfl ?_
          refine aw_goto at_54_37 ?_
          exact rg_54_41 v13 h o   hs5
def fm_54 (y0 : Value) (y1 : Int32) (y2 : Int32) (h : am_H) : Option am_O := fg_54_0 y0 y1 y2 h
theorem rm_54 {X : am_X} {d : Nat} (y0 : Value) (y1 : Int32) (y2 : Int32) (h : am_H) (o : am_O) (i0 : am_isR y0 = true) (hs : fm_54 y0 y1 y2 h = some o) : am_W X (d) 54 0 (am_args 0 [y0, .int y1, .int y2]) [] h (fun q => q = o) := by
  rw [am_args_R i0, am_args_I, am_args_I]
  exact rg_54_0 y0 y1 y2 h o rfl rfl rfl i0 hs
def fg_55_42 (s0 : Int32) (h : am_H) : Option am_O := some (.inl (some (.int s0), h))
theorem rg_55_42 {X : am_X} {d : Nat} {lv : am_LV} (s0 : Int32) (h : am_H) (o : am_O) (hs : fg_55_42 s0 h = some o) : am_W X (d) 55 42 lv [(.int s0)] h (fun q => q = o) := by
  unfold fg_55_42 at hs
  cases hs
  exact aw_iret at_55_42 (by rw [rt_55]; rfl) rfl
def fg_55_37 (h : am_H) : Option am_O := (fg_55_42 ((-1)) h)
theorem rg_55_37 {X : am_X} {d : Nat} {lv : am_LV} (h : am_H) (o : am_O) (hs : fg_55_37 h = some o) : am_W X (d) 55 37 lv [] h (fun q => q = o) := by
  unfold fg_55_37 at hs
  refine aw_iconst (v := (-1)) (pc1 := 38) at_55_37 (by decide) rfl ?_
  refine aw_goto at_55_38 ?_
  exact rg_55_42 ((-1)) h o   hs
def fg_55_25 (x0 : Int32) (h : am_H) : Option am_O := (if x0 = 16 then (fg_55_37 h) else (if ¬ x0 = 18 then (fg_55_42 0 h) else (fg_55_37 h)))
theorem rg_55_25 {X : am_X} {d : Nat} {lv : am_LV} (x0 : Int32) (h : am_H) (o : am_O) (l0 : lv.lookup 0 = some (.int x0)) (hs : fg_55_25 x0 h = some o) : am_W X (d) 55 25 lv [] h (fun q => q = o) := by
  unfold fg_55_25 at hs
  refine aw_iload_n (pc1 := 26) at_55_25 l0 rfl ?_
  refine aw_bipush (v := 16) (pc1 := 28) at_55_26 (by decide) rfl ?_
  by_cases c1 : x0 = 16
  · rw [if_pos c1] at hs
    refine aw_iceq_t at_55_28 c1 ?_
    exact rg_55_37 h o   hs
  · rw [if_neg c1] at hs
    refine aw_iceq_f (pc1 := 31) at_55_28 c1 rfl ?_
    refine aw_iload_n (pc1 := 32) at_55_31 l0 rfl ?_
    refine aw_bipush (v := 18) (pc1 := 34) at_55_32 (by decide) rfl ?_
    by_cases c2 : ¬ x0 = 18
    · rw [if_pos c2] at hs
      refine aw_icne_t at_55_34 c2 ?_
      refine aw_iconst (v := 0) (pc1 := 42) at_55_41 (by decide) rfl ?_
      exact rg_55_42 0 h o   hs
    · rw [if_neg c2] at hs
      refine aw_icne_f (pc1 := 37) at_55_34 c2 rfl ?_
      exact rg_55_37 h o   hs
def fg_55_11 (h : am_H) : Option am_O := some (.inl (some (.int 1), h))
theorem rg_55_11 {X : am_X} {d : Nat} {lv : am_LV} (h : am_H) (o : am_O) (hs : fg_55_11 h = some o) : am_W X (d) 55 11 lv [] h (fun q => q = o) := by
  unfold fg_55_11 at hs
  refine aw_iconst (v := 1) (pc1 := 12) at_55_11 (by decide) rfl ?_
  cases hs
  exact aw_iret at_55_12 (by rw [rt_55]; rfl) rfl
def fg_55_0 (x0 : Int32) (h : am_H) : Option am_O := (if x0 ≤ 4 then (fg_55_11 h) else (if ¬ x0 = 14 then (if x0 < 7 then (fg_55_25 x0 h) else (if x0 ≤ 13 then (fg_55_37 h) else (fg_55_25 x0 h))) else (fg_55_11 h)))
theorem rg_55_0 {X : am_X} {d : Nat} {lv : am_LV} (x0 : Int32) (h : am_H) (o : am_O) (l0 : lv.lookup 0 = some (.int x0)) (hs : fg_55_0 x0 h = some o) : am_W X (d) 55 0 lv [] h (fun q => q = o) := by
  unfold fg_55_0 at hs
  refine aw_iload_n (pc1 := 1) at_55_0 l0 rfl ?_
  refine aw_iconst (v := 4) (pc1 := 2) at_55_1 (by decide) rfl ?_
  by_cases c1 : x0 ≤ 4
  · rw [if_pos c1] at hs
    refine aw_icle_t at_55_2 c1 ?_
    exact rg_55_11 h o   hs
  · rw [if_neg c1] at hs
    refine aw_icle_f (pc1 := 5) at_55_2 c1 rfl ?_
    refine aw_iload_n (pc1 := 6) at_55_5 l0 rfl ?_
    refine aw_bipush (v := 14) (pc1 := 8) at_55_6 (by decide) rfl ?_
    by_cases c2 : ¬ x0 = 14
    · rw [if_pos c2] at hs
      refine aw_icne_t at_55_8 c2 ?_
      refine aw_iload_n (pc1 := 14) at_55_13 l0 rfl ?_
      refine aw_bipush (v := 7) (pc1 := 16) at_55_14 (by decide) rfl ?_
      by_cases c3 : x0 < 7
      · rw [if_pos c3] at hs
        refine aw_iclt_t at_55_16 c3 ?_
        exact rg_55_25 x0 h o l0  hs
      · rw [if_neg c3] at hs
        refine aw_iclt_f (pc1 := 19) at_55_16 c3 rfl ?_
        refine aw_iload_n (pc1 := 20) at_55_19 l0 rfl ?_
        refine aw_bipush (v := 13) (pc1 := 22) at_55_20 (by decide) rfl ?_
        by_cases c4 : x0 ≤ 13
        · rw [if_pos c4] at hs
          refine aw_icle_t at_55_22 c4 ?_
          exact rg_55_37 h o   hs
        · rw [if_neg c4] at hs
          refine aw_icle_f (pc1 := 25) at_55_22 c4 rfl ?_
          exact rg_55_25 x0 h o l0  hs
    · rw [if_neg c2] at hs
      refine aw_icne_f (pc1 := 11) at_55_8 c2 rfl ?_
      exact rg_55_11 h o   hs
def fm_55 (y0 : Int32) (h : am_H) : Option am_O := fg_55_0 y0 h
theorem rm_55 {X : am_X} {d : Nat} (y0 : Int32) (h : am_H) (o : am_O) (hs : fm_55 y0 h = some o) : am_W X (d) 55 0 (am_args 0 [.int y0]) [] h (fun q => q = o) := by
  rw [am_args_I]
  exact rg_55_0 y0 h o rfl  hs
def fg_56_36 (s0 : Int32) (h : am_H) : Option am_O := some (.inl (some (.int s0), h))
theorem rg_56_36 {X : am_X} {d : Nat} {lv : am_LV} (s0 : Int32) (h : am_H) (o : am_O) (hs : fg_56_36 s0 h = some o) : am_W X (d) 56 36 lv [(.int s0)] h (fun q => q = o) := by
  unfold fg_56_36 at hs
  cases hs
  exact aw_iret at_56_36 (by rw [rt_56]; rfl) rfl
def fg_56_31 (h : am_H) : Option am_O := (fg_56_36 2 h)
theorem rg_56_31 {X : am_X} {d : Nat} {lv : am_LV} (h : am_H) (o : am_O) (hs : fg_56_31 h = some o) : am_W X (d) 56 31 lv [] h (fun q => q = o) := by
  unfold fg_56_31 at hs
  refine aw_iconst (v := 2) (pc1 := 32) at_56_31 (by decide) rfl ?_
  refine aw_goto at_56_32 ?_
  exact rg_56_36 2 h o   hs
def fg_56_25 (x0 : Int32) (h : am_H) : Option am_O := (if ¬ x0 = 15 then (fg_56_36 1 h) else (fg_56_31 h))
theorem rg_56_25 {X : am_X} {d : Nat} {lv : am_LV} (x0 : Int32) (h : am_H) (o : am_O) (l0 : lv.lookup 0 = some (.int x0)) (hs : fg_56_25 x0 h = some o) : am_W X (d) 56 25 lv [] h (fun q => q = o) := by
  unfold fg_56_25 at hs
  refine aw_iload_n (pc1 := 26) at_56_25 l0 rfl ?_
  refine aw_bipush (v := 15) (pc1 := 28) at_56_26 (by decide) rfl ?_
  by_cases c1 : ¬ x0 = 15
  · rw [if_pos c1] at hs
    refine aw_icne_t at_56_28 c1 ?_
    refine aw_iconst (v := 1) (pc1 := 36) at_56_35 (by decide) rfl ?_
    exact rg_56_36 1 h o   hs
  · rw [if_neg c1] at hs
    refine aw_icne_f (pc1 := 31) at_56_28 c1 rfl ?_
    exact rg_56_31 h o   hs
def fg_56_11 (h : am_H) : Option am_O := some (.inl (some (.int 0), h))
theorem rg_56_11 {X : am_X} {d : Nat} {lv : am_LV} (h : am_H) (o : am_O) (hs : fg_56_11 h = some o) : am_W X (d) 56 11 lv [] h (fun q => q = o) := by
  unfold fg_56_11 at hs
  refine aw_iconst (v := 0) (pc1 := 12) at_56_11 (by decide) rfl ?_
  cases hs
  exact aw_iret at_56_12 (by rw [rt_56]; rfl) rfl
def fg_56_0 (x0 : Int32) (h : am_H) : Option am_O := (if x0 ≤ 4 then (fg_56_11 h) else (if ¬ x0 = 17 then (if x0 < 7 then (fg_56_25 x0 h) else (if x0 ≤ 13 then (fg_56_31 h) else (fg_56_25 x0 h))) else (fg_56_11 h)))
theorem rg_56_0 {X : am_X} {d : Nat} {lv : am_LV} (x0 : Int32) (h : am_H) (o : am_O) (l0 : lv.lookup 0 = some (.int x0)) (hs : fg_56_0 x0 h = some o) : am_W X (d) 56 0 lv [] h (fun q => q = o) := by
  unfold fg_56_0 at hs
  refine aw_iload_n (pc1 := 1) at_56_0 l0 rfl ?_
  refine aw_iconst (v := 4) (pc1 := 2) at_56_1 (by decide) rfl ?_
  by_cases c1 : x0 ≤ 4
  · rw [if_pos c1] at hs
    refine aw_icle_t at_56_2 c1 ?_
    exact rg_56_11 h o   hs
  · rw [if_neg c1] at hs
    refine aw_icle_f (pc1 := 5) at_56_2 c1 rfl ?_
    refine aw_iload_n (pc1 := 6) at_56_5 l0 rfl ?_
    refine aw_bipush (v := 17) (pc1 := 8) at_56_6 (by decide) rfl ?_
    by_cases c2 : ¬ x0 = 17
    · rw [if_pos c2] at hs
      refine aw_icne_t at_56_8 c2 ?_
      refine aw_iload_n (pc1 := 14) at_56_13 l0 rfl ?_
      refine aw_bipush (v := 7) (pc1 := 16) at_56_14 (by decide) rfl ?_
      by_cases c3 : x0 < 7
      · rw [if_pos c3] at hs
        refine aw_iclt_t at_56_16 c3 ?_
        exact rg_56_25 x0 h o l0  hs
      · rw [if_neg c3] at hs
        refine aw_iclt_f (pc1 := 19) at_56_16 c3 rfl ?_
        refine aw_iload_n (pc1 := 20) at_56_19 l0 rfl ?_
        refine aw_bipush (v := 13) (pc1 := 22) at_56_20 (by decide) rfl ?_
        by_cases c4 : x0 ≤ 13
        · rw [if_pos c4] at hs
          refine aw_icle_t at_56_22 c4 ?_
          exact rg_56_31 h o   hs
        · rw [if_neg c4] at hs
          refine aw_icle_f (pc1 := 25) at_56_22 c4 rfl ?_
          exact rg_56_25 x0 h o l0  hs
    · rw [if_neg c2] at hs
      refine aw_icne_f (pc1 := 11) at_56_8 c2 rfl ?_
      exact rg_56_11 h o   hs
def fm_56 (y0 : Int32) (h : am_H) : Option am_O := fg_56_0 y0 h
theorem rm_56 {X : am_X} {d : Nat} (y0 : Int32) (h : am_H) (o : am_O) (hs : fm_56 y0 h = some o) : am_W X (d) 56 0 (am_args 0 [.int y0]) [] h (fun q => q = o) := by
  rw [am_args_I]
  exact rg_56_0 y0 h o rfl  hs
def fg_57_46 (x0 : Value) (x1 : Int32) (x2 : Int32) (h : am_H) : Option am_O := ((am_vR (am_pG 1798 x0 h)).bind fun v1 => ((am_pS 0 v1 x1 x2 h).bind fun h3 => some (.inl (some (.int 1), h3))))
theorem rg_57_46 {X : am_X} {d : Nat} {lv : am_LV} (x0 : Value) (x1 : Int32) (x2 : Int32) (h : am_H) (o : am_O) (l0 : lv.lookup 0 = some x0) (l1 : lv.lookup 1 = some (.int x1)) (l2 : lv.lookup 2 = some (.int x2)) (i0 : am_isR x0 = true) (hs : fg_57_46 x0 x1 x2 h = some o) : am_W X (d) 57 46 lv [] h (fun q => q = o) := by
  unfold fg_57_46 at hs
  refine aw_vload_n (pc1 := 47) at_57_46 l0 i0 rfl ?_
  obtain ⟨v1, e2, hs1⟩ := am_bind hs
  clear hs
  refine aw_pG (pc1 := 50) at_57_47 (am_vR_s e2).1 rfl ?_
  refine aw_iload_n (pc1 := 51) at_57_50 l1 rfl ?_
  refine aw_iload_n (pc1 := 52) at_57_51 l2 rfl ?_
  obtain ⟨h3, e4, hs2⟩ := am_bind hs1
  clear hs1
  refine aw_pS (pc1 := 53) at_57_52 (Or.inl ⟨rfl, rfl⟩) e4 rfl ?_
  refine aw_iconst (v := 1) (pc1 := 54) at_57_53 (by decide) rfl ?_
  cases hs2
  exact aw_iret at_57_54 (by rw [rt_57]; decide) rfl
def fg_57_44 (h : am_H) : Option am_O := some (.inl (some (.int 0), h))
theorem rg_57_44 {X : am_X} {d : Nat} {lv : am_LV} (h : am_H) (o : am_O) (hs : fg_57_44 h = some o) : am_W X (d) 57 44 lv [] h (fun q => q = o) := by
  unfold fg_57_44 at hs
  refine aw_iconst (v := 0) (pc1 := 45) at_57_44 (by decide) rfl ?_
  cases hs
  exact aw_iret at_57_45 (by rw [rt_57]; decide) rfl
def fg_57_25 (x0 : Value) (x1 : Int32) (x2 : Int32) (h : am_H) : Option am_O := ((am_vR (am_pG 1798 x0 h)).bind fun v1 => ((am_pA 0 v1 x1 h).bind fun v3 => (if v3 < 0 then (fg_57_46 x0 x1 x2 h) else ((am_vR (am_pG 1798 x0 h)).bind fun v6 => ((am_pA 0 v6 x1 h).bind fun v8 => (if v8 = x2 then (fg_57_46 x0 x1 x2 h) else (fg_57_44 h)))))))
theorem rg_57_25 {X : am_X} {d : Nat} {lv : am_LV} (x0 : Value) (x1 : Int32) (x2 : Int32) (h : am_H) (o : am_O) (l0 : lv.lookup 0 = some x0) (l1 : lv.lookup 1 = some (.int x1)) (l2 : lv.lookup 2 = some (.int x2)) (i0 : am_isR x0 = true) (hs : fg_57_25 x0 x1 x2 h = some o) : am_W X (d) 57 25 lv [] h (fun q => q = o) := by
  unfold fg_57_25 at hs
  refine aw_vload_n (pc1 := 26) at_57_25 l0 i0 rfl ?_
  obtain ⟨v1, e2, hs1⟩ := am_bind hs
  clear hs
  refine aw_pG (pc1 := 29) at_57_26 (am_vR_s e2).1 rfl ?_
  refine aw_iload_n (pc1 := 30) at_57_29 l1 rfl ?_
  obtain ⟨v3, e4, hs2⟩ := am_bind hs1
  clear hs1
  refine aw_pA (pc1 := 31) at_57_30 (Or.inl ⟨rfl, rfl⟩) e4 rfl ?_
  by_cases c5 : v3 < 0
  · rw [if_pos c5] at hs2
    refine aw_iflt_t at_57_31 c5 ?_
    exact rg_57_46 x0 x1 x2 h o l0 l1 l2 i0 hs2
  · rw [if_neg c5] at hs2
    refine aw_iflt_f (pc1 := 34) at_57_31 c5 rfl ?_
    refine aw_vload_n (pc1 := 35) at_57_34 l0 i0 rfl ?_
    obtain ⟨v6, e7, hs3⟩ := am_bind hs2
    clear hs2
    refine aw_pG (pc1 := 38) at_57_35 (am_vR_s e7).1 rfl ?_
    refine aw_iload_n (pc1 := 39) at_57_38 l1 rfl ?_
    obtain ⟨v8, e9, hs4⟩ := am_bind hs3
    clear hs3
    refine aw_pA (pc1 := 40) at_57_39 (Or.inl ⟨rfl, rfl⟩) e9 rfl ?_
    refine aw_iload_n (pc1 := 41) at_57_40 l2 rfl ?_
    by_cases c10 : v8 = x2
    · rw [if_pos c10] at hs4
      refine aw_iceq_t at_57_41 c10 ?_
      exact rg_57_46 x0 x1 x2 h o l0 l1 l2 i0 hs4
    · rw [if_neg c10] at hs4
      refine aw_iceq_f (pc1 := 44) at_57_41 c10 rfl ?_
      exact rg_57_44 h o   hs4
def fg_57_0 (x0 : Value) (x1 : Int32) (x2 : Int32) (h : am_H) : Option am_O := (if x1 < 0 then (fg_57_44 h) else ((am_vI (am_pG 1799 x0 h)).bind fun v2 => (if v2 < x1 then (fg_57_44 h) else ((am_vI (am_pG 1799 x0 h)).bind fun v5 => (if ¬ x1 = v5 then (fg_57_25 x0 x1 x2 h) else (if ¬ x2 = 1 then (fg_57_44 h) else (fg_57_25 x0 x1 x2 h)))))))
theorem rg_57_0 {X : am_X} {d : Nat} {lv : am_LV} (x0 : Value) (x1 : Int32) (x2 : Int32) (h : am_H) (o : am_O) (l0 : lv.lookup 0 = some x0) (l1 : lv.lookup 1 = some (.int x1)) (l2 : lv.lookup 2 = some (.int x2)) (i0 : am_isR x0 = true) (hs : fg_57_0 x0 x1 x2 h = some o) : am_W X (d) 57 0 lv [] h (fun q => q = o) := by
  unfold fg_57_0 at hs
  refine aw_iload_n (pc1 := 1) at_57_0 l1 rfl ?_
  by_cases c1 : x1 < 0
  · rw [if_pos c1] at hs
    refine aw_iflt_t at_57_1 c1 ?_
    exact rg_57_44 h o   hs
  · rw [if_neg c1] at hs
    refine aw_iflt_f (pc1 := 4) at_57_1 c1 rfl ?_
    refine aw_iload_n (pc1 := 5) at_57_4 l1 rfl ?_
    refine aw_vload_n (pc1 := 6) at_57_5 l0 i0 rfl ?_
    obtain ⟨v2, e3, hs1⟩ := am_bind hs
    clear hs
    refine aw_pG (pc1 := 9) at_57_6 (am_vI_s e3) rfl ?_
    by_cases c4 : v2 < x1
    · rw [if_pos c4] at hs1
      refine aw_icgt_t at_57_9 c4 ?_
      exact rg_57_44 h o   hs1
    · rw [if_neg c4] at hs1
      refine aw_icgt_f (pc1 := 12) at_57_9 c4 rfl ?_
      refine aw_iload_n (pc1 := 13) at_57_12 l1 rfl ?_
      refine aw_vload_n (pc1 := 14) at_57_13 l0 i0 rfl ?_
      obtain ⟨v5, e6, hs2⟩ := am_bind hs1
      clear hs1
      refine aw_pG (pc1 := 17) at_57_14 (am_vI_s e6) rfl ?_
      by_cases c7 : ¬ x1 = v5
      · rw [if_pos c7] at hs2
        refine aw_icne_t at_57_17 c7 ?_
        exact rg_57_25 x0 x1 x2 h o l0 l1 l2 i0 hs2
      · rw [if_neg c7] at hs2
        refine aw_icne_f (pc1 := 20) at_57_17 c7 rfl ?_
        refine aw_iload_n (pc1 := 21) at_57_20 l2 rfl ?_
        refine aw_iconst (v := 1) (pc1 := 22) at_57_21 (by decide) rfl ?_
        by_cases c8 : ¬ x2 = 1
        · rw [if_pos c8] at hs2
          refine aw_icne_t at_57_22 c8 ?_
          exact rg_57_44 h o   hs2
        · rw [if_neg c8] at hs2
          refine aw_icne_f (pc1 := 25) at_57_22 c8 rfl ?_
          exact rg_57_25 x0 x1 x2 h o l0 l1 l2 i0 hs2
def fm_57 (y0 : Value) (y1 : Int32) (y2 : Int32) (h : am_H) : Option am_O := fg_57_0 y0 y1 y2 h
theorem rm_57 {X : am_X} {d : Nat} (y0 : Value) (y1 : Int32) (y2 : Int32) (h : am_H) (o : am_O) (i0 : am_isR y0 = true) (hs : fm_57 y0 y1 y2 h = some o) : am_W X (d) 57 0 (am_args 0 [y0, .int y1, .int y2]) [] h (fun q => q = o) := by
  rw [am_args_R i0, am_args_I, am_args_I]
  exact rg_57_0 y0 y1 y2 h o rfl rfl rfl i0 hs
def fg_52_137 (N : Nat) (rec_44 : Value → Value → Int32 → am_H → Option am_O) (x0 : Value) (x1 : Value) (x2 : Int32) (h : am_H) : Option am_O := (rec_44 x0 x1 ((x2 + 1)) h)
theorem rg_52_137 {X : am_X} {d : Nat} {N : Nat} {rec_44 : Value → Value → Int32 → am_H → Option am_O} (q_44 : ∀ (x0 : Value) (x1 : Value) (x2 : Int32) (h : am_H) (o : am_O), rec_44 x0 x1 x2 h = some o → ∀ lv : am_LV, (lv.lookup 0 = some x0) → (lv.lookup 1 = some x1) → (lv.lookup 2 = some (.int x2)) → (am_isR x0 = true) → (am_isR x1 = true) → am_W X (d + 1) 52 44 lv [] h (fun q => q = o)) {lv : am_LV} (x0 : Value) (x1 : Value) (x2 : Int32) (h : am_H) (o : am_O) (l0 : lv.lookup 0 = some x0) (l1 : lv.lookup 1 = some x1) (l2 : lv.lookup 2 = some (.int x2)) (i0 : am_isR x0 = true) (i1 : am_isR x1 = true) (hs : fg_52_137 N rec_44 x0 x1 x2 h = some o) : am_W X (d + 1) 52 137 lv [] h (fun q => q = o) := by
  unfold fg_52_137 at hs
  refine aw_iinc (v := (x2 + 1)) (c := 1) (lv1 := am_put1 _ 2 _) (pc1 := 140) at_52_137 l2 (by decide) rfl rfl rfl ?_
  refine aw_goto at_52_140 ?_
  exact q_44 x0 x1 ((x2 + 1)) h o hs _ (am_lk1 l0 rfl rfl) (am_lk1 l1 rfl (by rw [am_isRc i1]; rfl)) am_lk0 i0 i1
def fg_52_135 (N : Nat) (x2 : Int32) (h : am_H) : Option am_O := some (.inl (some (.int x2), h))
theorem rg_52_135 {X : am_X} {d : Nat} {N : Nat} {lv : am_LV} (x2 : Int32) (h : am_H) (o : am_O) (l2 : lv.lookup 2 = some (.int x2)) (hs : fg_52_135 N x2 h = some o) : am_W X (d + 1) 52 135 lv [] h (fun q => q = o) := by
  unfold fg_52_135 at hs
  refine aw_iload_n (pc1 := 136) at_52_135 l2 rfl ?_
  cases hs
  exact aw_iret at_52_136 (by rw [rt_52]; rfl) rfl
def fg_52_110 (N : Nat) (rec_44 : Value → Value → Int32 → am_H → Option am_O) (x0 : Value) (x1 : Value) (x2 : Int32) (x3 : Int32) (x4 : Int32) (h : am_H) : Option am_O := (if x3 < 17 then (fg_52_137 N rec_44 x0 x1 x2 h) else (if am_pOk 3 x1 h then am_cI true (fm_54 x1 x2 1 h) (fun v3 h4 => (if am_pOk 7 x0 h4 then am_cI true (fm_57 x0 (((x2 + 1) + v3)) x4 h4) (fun v7 h8 => (if ¬ v7 = 0 then (fg_52_137 N rec_44 x0 x1 x2 h8) else (fg_52_135 N x2 h8))) else none)) else none))
theorem rg_52_110 {X : am_X} {d : Nat} {N : Nat} {rec_44 : Value → Value → Int32 → am_H → Option am_O} (q_44 : ∀ (x0 : Value) (x1 : Value) (x2 : Int32) (h : am_H) (o : am_O), rec_44 x0 x1 x2 h = some o → ∀ lv : am_LV, (lv.lookup 0 = some x0) → (lv.lookup 1 = some x1) → (lv.lookup 2 = some (.int x2)) → (am_isR x0 = true) → (am_isR x1 = true) → am_W X (d + 1) 52 44 lv [] h (fun q => q = o)) {lv : am_LV} (x0 : Value) (x1 : Value) (x2 : Int32) (x3 : Int32) (x4 : Int32) (h : am_H) (o : am_O) (l0 : lv.lookup 0 = some x0) (l1 : lv.lookup 1 = some x1) (l2 : lv.lookup 2 = some (.int x2)) (l3 : lv.lookup 3 = some (.int x3)) (l4 : lv.lookup 4 = some (.int x4)) (i0 : am_isR x0 = true) (i1 : am_isR x1 = true) (hs : fg_52_110 N rec_44 x0 x1 x2 x3 x4 h = some o) : am_W X (d + 1) 52 110 lv [] h (fun q => q = o) := by
  unfold fg_52_110 at hs
  refine aw_iload_n (pc1 := 111) at_52_110 l3 rfl ?_
  refine aw_bipush (v := 17) (pc1 := 113) at_52_111 (by decide) rfl ?_
  by_cases c1 : x3 < 17
  · rw [if_pos c1] at hs
    refine aw_iclt_t at_52_113 c1 ?_
    exact rg_52_137 q_44 x0 x1 x2 h o l0 l1 l2 i0 i1 hs
  · rw [if_neg c1] at hs
    refine aw_iclt_f (pc1 := 116) at_52_113 c1 rfl ?_
    refine aw_vload_n (pc1 := 117) at_52_116 l0 i0 rfl ?_
    refine aw_iload_n (pc1 := 118) at_52_117 l2 rfl ?_
    refine aw_iconst (v := 1) (pc1 := 119) at_52_118 (by decide) rfl ?_
    refine aw_iadd (v := (x2 + 1)) (pc1 := 120) at_52_119 rfl rfl ?_
    refine aw_vload_n (pc1 := 121) at_52_120 l1 i1 rfl ?_
    refine aw_iload_n (pc1 := 122) at_52_121 l2 rfl ?_
    refine aw_iconst (v := 1) (pc1 := 123) at_52_122 (by decide) rfl ?_
    obtain ⟨z2, hs1⟩ := am_ift hs
    clear hs
    refine aw_call (F := fm_54 x1 x2 1 h) (t := true) (na := 3) (kd := 1) (as := [x1, (.int x2), (.int 1)]) at_52_123 (am_k3v kb_54) mn_54 mk_54 rfl rfl (am_ok_v mi_54 (am_hl rfl (am_ccR i1 (am_ccI (am_ccI am_cats_0))) rfl) z2) (am_hc (am_ccI (am_ccR i0 am_cats_0)) rfl) (fun _ => ⟨rfl, hh_52⟩) (fun o1 hz9 => rm_54 x1 x2 1 h o1 i1 hz9) ?_
    rcases am_cI_s hs1 with ⟨v3, h4, f5, hs2⟩ | hs2
    · clear hs1
      refine Or.inl ⟨_, _, f5, ?_⟩
      show am_W X _ 52 126 _ [(.int v3), (.int (x2 + 1)), x0] h4 _
      refine aw_iadd (v := ((x2 + 1) + v3)) (pc1 := 127) at_52_126 rfl rfl ?_
      refine aw_iload (pc1 := 129) at_52_127 l4 rfl ?_
      obtain ⟨z6, hs3⟩ := am_ift hs2
      clear hs2
      refine aw_call (F := fm_57 x0 (((x2 + 1) + v3)) x4 h4) (t := true) (na := 3) (kd := 1) (as := [x0, (.int ((x2 + 1) + v3)), (.int x4)]) at_52_129 (am_k3v kb_57) mn_57 mk_57 rfl rfl (am_ok_v mi_57 (am_hl rfl (am_ccR i0 (am_ccI (am_ccI am_cats_0))) rfl) z6) (am_hc am_cats_0 rfl) (fun _ => ⟨rfl, hh_52⟩) (fun o1 hz9 => rm_57 x0 (((x2 + 1) + v3)) x4 h4 o1 i0 hz9) ?_
      rcases am_cI_s hs3 with ⟨v7, h8, f9, hs4⟩ | hs4
      · clear hs3
        refine Or.inl ⟨_, _, f9, ?_⟩
        show am_W X _ 52 132 _ [(.int v7)] h8 _
        by_cases c10 : ¬ v7 = 0
        · rw [if_pos c10] at hs4
          refine aw_ifne_t at_52_132 c10 ?_
          exact rg_52_137 q_44 x0 x1 x2 h8 o l0 l1 l2 i0 i1 hs4
        · rw [if_neg c10] at hs4
          refine aw_ifne_f (pc1 := 135) at_52_132 c10 rfl ?_
          exact rg_52_135 x2 h8 o l2  hs4
      · clear hs3
        exact Or.inr hs4
    · clear hs1
      exact Or.inr hs2
def fg_52_44 (N : Nat) : Nat → Value → Value → Int32 → am_H → Option am_O
  | 0 => fun _ _ _ _ => none
  | K + 1 => fun x0 x1 x2 h => ((am_vI (am_pG 1799 x0 h)).bind fun v1 => (if v1 ≤ x2 then some (.inl (some (.int (-1)), h)) else (if am_pOk 3 x1 h then am_cI true (fm_54 x1 x2 0 h) (fun v5 h6 => ((am_vR (am_pG 1798 x0 h6)).bind fun v8 => ((am_pA 0 v8 x2 h6).bind fun v10 => am_cI false (fm_55 v5 h6) (fun v12 h13 => ((am_vR (am_pG 1798 x0 h13)).bind fun v15 => ((am_pA 0 v15 x2 h13).bind fun v17 => am_cI false (fm_56 v5 h13) (fun v19 h20 => (if v17 < v19 then (fg_52_135 N x2 h20) else (if 8 < (v10 + v12) then (fg_52_135 N x2 h20) else (if v5 = 17 then (fg_52_110 N (fg_52_44 N K) x0 x1 x2 v5 ((v10 + v12)) h20) else (if am_pOk 7 x0 h20 then am_cI true (fm_57 x0 ((x2 + 1)) ((v10 + v12)) h20) (fun v26 h27 => (if v26 = 0 then (fg_52_135 N x2 h27) else (fg_52_110 N (fg_52_44 N K) x0 x1 x2 v5 ((v10 + v12)) h27))) else none))))))))))) else none)))
theorem rg_52_44 {X : am_X} {d : Nat} {N : Nat} : ∀ (K : Nat) (x0 : Value) (x1 : Value) (x2 : Int32) (h : am_H) (o : am_O), fg_52_44 N K x0 x1 x2 h = some o → ∀ lv : am_LV, (lv.lookup 0 = some x0) → (lv.lookup 1 = some x1) → (lv.lookup 2 = some (.int x2)) → (am_isR x0 = true) → (am_isR x1 = true) → am_W X (d + 1) 52 44 lv [] h (fun q => q = o) := by
  intro K
  induction K with
  | zero => intro x0 x1 x2 h o hs; cases hs
  | succ K ih =>
    intro x0 x1 x2 h o hs lv l0 l1 l2 i0 i1
    unfold fg_52_44 at hs
    refine aw_iload_n (pc1 := 45) at_52_44 l2 rfl ?_
    refine aw_vload_n (pc1 := 46) at_52_45 l0 i0 rfl ?_
    obtain ⟨v1, e2, hs1⟩ := am_bind hs
    clear hs
    refine aw_pG (pc1 := 49) at_52_46 (am_vI_s e2) rfl ?_
    by_cases c3 : v1 ≤ x2
    · rw [if_pos c3] at hs1
      refine aw_icge_t at_52_49 c3 ?_
      refine aw_iconst (v := (-1)) (pc1 := 144) at_52_143 (by decide) rfl ?_
      cases hs1
      exact aw_iret at_52_144 (by rw [rt_52]; rfl) rfl
    · rw [if_neg c3] at hs1
      refine aw_icge_f (pc1 := 52) at_52_49 c3 rfl ?_
      refine aw_vload_n (pc1 := 53) at_52_52 l1 i1 rfl ?_
      refine aw_iload_n (pc1 := 54) at_52_53 l2 rfl ?_
      refine aw_iconst (v := 0) (pc1 := 55) at_52_54 (by decide) rfl ?_
      obtain ⟨z4, hs2⟩ := am_ift hs1
      clear hs1
      refine aw_call (F := fm_54 x1 x2 0 h) (t := true) (na := 3) (kd := 1) (as := [x1, (.int x2), (.int 0)]) at_52_55 (am_k3v kb_54) mn_54 mk_54 rfl rfl (am_ok_v mi_54 (am_hl rfl (am_ccR i1 (am_ccI (am_ccI am_cats_0))) rfl) z4) (am_hc am_cats_0 rfl) (fun _ => ⟨rfl, hh_52⟩) (fun o1 hz9 => rm_54 x1 x2 0 h o1 i1 hz9) ?_
      rcases am_cI_s hs2 with ⟨v5, h6, f7, hs3⟩ | hs3
      · clear hs2
        refine Or.inl ⟨_, _, f7, ?_⟩
        show am_W X _ 52 58 _ [(.int v5)] h6 _
        refine aw_istore_n (lv1 := am_put1 _ 3 _) (pc1 := 59) at_52_58 rfl rfl ?_
        refine aw_vload_n (pc1 := 60) at_52_59 (am_lk1 l0 rfl rfl) i0 rfl ?_
        obtain ⟨v8, e9, hs4⟩ := am_bind hs3
        clear hs3
        refine aw_pG (pc1 := 63) at_52_60 (am_vR_s e9).1 rfl ?_
        refine aw_iload_n (pc1 := 64) at_52_63 (am_lk1 l2 rfl rfl) rfl ?_
        obtain ⟨v10, e11, hs5⟩ := am_bind hs4
        clear hs4
        refine aw_pA (pc1 := 65) at_52_64 (Or.inl ⟨rfl, rfl⟩) e11 rfl ?_
        refine aw_iload_n (pc1 := 66) at_52_65 am_lk0 rfl ?_
        refine aw_call (F := fm_55 v5 h6) (t := false) (na := 1) (kd := 0) (as := [(.int v5)]) at_52_66 (am_k3s kb_55) mn_55 mk_55 rfl rfl (am_ok_s mi_55 (am_hl rfl (am_ccI am_cats_0) rfl)) (am_hc (am_ccI am_cats_0) rfl) (fun hz9 => by cases hz9) (fun o1 hz9 => rm_55 v5 h6 o1  hz9) ?_
        rcases am_cI_s hs5 with ⟨v12, h13, f14, hs6⟩ | hs6
        · clear hs5
          refine Or.inl ⟨_, _, f14, ?_⟩
          show am_W X _ 52 69 _ [(.int v12), (.int v10)] h13 _
          refine aw_iadd (v := (v10 + v12)) (pc1 := 70) at_52_69 rfl rfl ?_
          refine aw_istore (lv1 := am_put1 _ 4 _) (pc1 := 72) at_52_70 rfl rfl ?_
          refine aw_vload_n (pc1 := 73) at_52_72 (am_lk1 (am_lk1 l0 rfl rfl) rfl rfl) i0 rfl ?_
          obtain ⟨v15, e16, hs7⟩ := am_bind hs6
          clear hs6
          refine aw_pG (pc1 := 76) at_52_73 (am_vR_s e16).1 rfl ?_
          refine aw_iload_n (pc1 := 77) at_52_76 (am_lk1 (am_lk1 l2 rfl rfl) rfl rfl) rfl ?_
          obtain ⟨v17, e18, hs8⟩ := am_bind hs7
          clear hs7
          refine aw_pA (pc1 := 78) at_52_77 (Or.inl ⟨rfl, rfl⟩) e18 rfl ?_
          refine aw_iload_n (pc1 := 79) at_52_78 (am_lk1 am_lk0 rfl rfl) rfl ?_
          refine aw_call (F := fm_56 v5 h13) (t := false) (na := 1) (kd := 0) (as := [(.int v5)]) at_52_79 (am_k3s kb_56) mn_56 mk_56 rfl rfl (am_ok_s mi_56 (am_hl rfl (am_ccI am_cats_0) rfl)) (am_hc (am_ccI am_cats_0) rfl) (fun hz9 => by cases hz9) (fun o1 hz9 => rm_56 v5 h13 o1  hz9) ?_
          rcases am_cI_s hs8 with ⟨v19, h20, f21, hs9⟩ | hs9
          · clear hs8
            refine Or.inl ⟨_, _, f21, ?_⟩
            show am_W X _ 52 82 _ [(.int v19), (.int v17)] h20 _
            by_cases c22 : v17 < v19
            · rw [if_pos c22] at hs9
              refine aw_iclt_t at_52_82 c22 ?_
              exact rg_52_135 x2 h20 o (am_lk1 (am_lk1 l2 rfl rfl) rfl rfl)  hs9
            · rw [if_neg c22] at hs9
              refine aw_iclt_f (pc1 := 85) at_52_82 c22 rfl ?_
              refine aw_iload (pc1 := 87) at_52_85 am_lk0 rfl ?_
              refine aw_bipush (v := 8) (pc1 := 89) at_52_87 (by decide) rfl ?_
              by_cases c23 : 8 < (v10 + v12)
              · rw [if_pos c23] at hs9
                refine aw_icgt_t at_52_89 c23 ?_
                exact rg_52_135 x2 h20 o (am_lk1 (am_lk1 l2 rfl rfl) rfl rfl)  hs9
              · rw [if_neg c23] at hs9
                refine aw_icgt_f (pc1 := 92) at_52_89 c23 rfl ?_
                refine aw_iload_n (pc1 := 93) at_52_92 (am_lk1 am_lk0 rfl rfl) rfl ?_
                refine aw_bipush (v := 17) (pc1 := 95) at_52_93 (by decide) rfl ?_
                by_cases c24 : v5 = 17
                · rw [if_pos c24] at hs9
                  refine aw_iceq_t at_52_95 c24 ?_
                  exact rg_52_110 (fun z0 z1 z2 h o hs9 => ih z0 z1 z2 h o hs9) x0 x1 x2 v5 ((v10 + v12)) h20 o (am_lk1 (am_lk1 l0 rfl rfl) rfl rfl) (am_lk1 (am_lk1 l1 rfl rfl) rfl rfl) (am_lk1 (am_lk1 l2 rfl rfl) rfl rfl) (am_lk1 am_lk0 rfl rfl) am_lk0 i0 i1 hs9
                · rw [if_neg c24] at hs9
                  refine aw_iceq_f (pc1 := 98) at_52_95 c24 rfl ?_
                  refine aw_vload_n (pc1 := 99) at_52_98 (am_lk1 (am_lk1 l0 rfl rfl) rfl rfl) i0 rfl ?_
                  refine aw_iload_n (pc1 := 100) at_52_99 (am_lk1 (am_lk1 l2 rfl rfl) rfl rfl) rfl ?_
                  refine aw_iconst (v := 1) (pc1 := 101) at_52_100 (by decide) rfl ?_
                  refine aw_iadd (v := (x2 + 1)) (pc1 := 102) at_52_101 rfl rfl ?_
                  refine aw_iload (pc1 := 104) at_52_102 am_lk0 rfl ?_
                  obtain ⟨z25, hs10⟩ := am_ift hs9
                  clear hs9
                  refine aw_call (F := fm_57 x0 ((x2 + 1)) ((v10 + v12)) h20) (t := true) (na := 3) (kd := 1) (as := [x0, (.int (x2 + 1)), (.int (v10 + v12))]) at_52_104 (am_k3v kb_57) mn_57 mk_57 rfl rfl (am_ok_v mi_57 (am_hl rfl (am_ccR i0 (am_ccI (am_ccI am_cats_0))) rfl) z25) (am_hc am_cats_0 rfl) (fun _ => ⟨rfl, hh_52⟩) (fun o1 hz9 => rm_57 x0 ((x2 + 1)) ((v10 + v12)) h20 o1 i0 hz9) ?_
                  rcases am_cI_s hs10 with ⟨v26, h27, f28, hs11⟩ | hs11
                  · clear hs10
                    refine Or.inl ⟨_, _, f28, ?_⟩
                    show am_W X _ 52 107 _ [(.int v26)] h27 _
                    by_cases c29 : v26 = 0
                    · rw [if_pos c29] at hs11
                      refine aw_ifeq_t at_52_107 c29 ?_
                      exact rg_52_135 x2 h27 o (am_lk1 (am_lk1 l2 rfl rfl) rfl rfl)  hs11
                    · rw [if_neg c29] at hs11
                      refine aw_ifeq_f (pc1 := 110) at_52_107 c29 rfl ?_
                      exact rg_52_110 (fun z0 z1 z2 h o hs11 => ih z0 z1 z2 h o hs11) x0 x1 x2 v5 ((v10 + v12)) h27 o (am_lk1 (am_lk1 l0 rfl rfl) rfl rfl) (am_lk1 (am_lk1 l1 rfl rfl) rfl rfl) (am_lk1 (am_lk1 l2 rfl rfl) rfl rfl) (am_lk1 am_lk0 rfl rfl) am_lk0 i0 i1 hs11
                  · clear hs10
                    exact Or.inr hs11
          · clear hs8
            exact Or.inr hs9
        · clear hs5
          exact Or.inr hs6
      · clear hs2
        exact Or.inr hs3
def fg_52_25 (N : Nat) (h : am_H) : Option am_O := some (.inl (some (.int 0), h))
theorem rg_52_25 {X : am_X} {d : Nat} {N : Nat} {lv : am_LV} (h : am_H) (o : am_O) (hs : fg_52_25 N h = some o) : am_W X (d + 1) 52 25 lv [] h (fun q => q = o) := by
  unfold fg_52_25 at hs
  refine aw_iconst (v := 0) (pc1 := 26) at_52_25 (by decide) rfl ?_
  cases hs
  exact aw_iret at_52_26 (by rw [rt_52]; rfl) rfl
def fg_52_0 (N : Nat) (x0 : Value) (x1 : Value) (h : am_H) : Option am_O := ((am_vI (am_pG 771 x1 h)).bind fun v1 => ((am_pP 1799 x0 (.int v1) h).bind fun h3 => ((am_vI (am_pG 1799 x0 h3)).bind fun v5 => (if v5 < 1 then (fg_52_25 N h3) else ((am_vI (am_pG 1799 x0 h3)).bind fun v8 => (if v8 ≤ 60 then ((am_vR (am_pG 1798 x0 h3)).bind fun v11 => am_cV false (fm_53 N v11 ((-1)) h3) (fun h14 => ((am_vR (am_pG 1798 x0 h14)).bind fun v16 => ((am_pS 0 v16 0 0 h14).bind fun h18 => (fg_52_44 N N x0 x1 0 h18))))) else (fg_52_25 N h3)))))))
theorem rg_52_0 {X : am_X} {d : Nat} {N : Nat} {lv : am_LV} (x0 : Value) (x1 : Value) (h : am_H) (o : am_O) (l0 : lv.lookup 0 = some x0) (l1 : lv.lookup 1 = some x1) (i0 : am_isR x0 = true) (i1 : am_isR x1 = true) (hs : fg_52_0 N x0 x1 h = some o) : am_W X (d + 1) 52 0 lv [] h (fun q => q = o) := by
  unfold fg_52_0 at hs
  refine aw_vload_n (pc1 := 1) at_52_0 l0 i0 rfl ?_
  refine aw_vload_n (pc1 := 2) at_52_1 l1 i1 rfl ?_
  obtain ⟨v1, e2, hs1⟩ := am_bind hs
  clear hs
  refine aw_pG (pc1 := 5) at_52_2 (am_vI_s e2) rfl ?_
  obtain ⟨h3, e4, hs2⟩ := am_bind hs1
  clear hs1
  refine aw_pP (pc1 := 8) at_52_5 e4 rfl ?_
  refine aw_vload_n (pc1 := 9) at_52_8 l0 i0 rfl ?_
  obtain ⟨v5, e6, hs3⟩ := am_bind hs2
  clear hs2
  refine aw_pG (pc1 := 12) at_52_9 (am_vI_s e6) rfl ?_
  refine aw_iconst (v := 1) (pc1 := 13) at_52_12 (by decide) rfl ?_
  by_cases c7 : v5 < 1
  · rw [if_pos c7] at hs3
    refine aw_iclt_t at_52_13 c7 ?_
    exact rg_52_25 h3 o   hs3
  · rw [if_neg c7] at hs3
    refine aw_iclt_f (pc1 := 16) at_52_13 c7 rfl ?_
    refine aw_vload_n (pc1 := 17) at_52_16 l0 i0 rfl ?_
    obtain ⟨v8, e9, hs4⟩ := am_bind hs3
    clear hs3
    refine aw_pG (pc1 := 20) at_52_17 (am_vI_s e9) rfl ?_
    refine aw_bipush (v := 60) (pc1 := 22) at_52_20 (by decide) rfl ?_
    by_cases c10 : v8 ≤ 60
    · rw [if_pos c10] at hs4
      refine aw_icle_t at_52_22 c10 ?_
      refine aw_vload_n (pc1 := 28) at_52_27 l0 i0 rfl ?_
      obtain ⟨v11, e12, hs5⟩ := am_bind hs4
      clear hs4
      refine aw_pG (pc1 := 31) at_52_28 (am_vR_s e12).1 rfl ?_
      refine aw_iconst (v := (-1)) (pc1 := 32) at_52_31 (by decide) rfl ?_
      refine aw_call (F := fm_53 N v11 ((-1)) h3) (t := false) (na := 2) (kd := 0) (as := [v11, (.int (-1))]) at_52_32 (am_k3s kb_53) mn_53 mk_53 rfl rfl (am_ok_s mi_53 (am_hl rfl (am_ccR (am_vR_s e12).2 (am_ccI am_cats_0)) rfl)) (am_hc am_cats_0 rfl) (fun hz9 => by cases hz9) (fun o1 hz9 => rm_53 v11 ((-1)) h3 o1 (am_vR_s e12).2 hz9) ?_
      rcases am_cV_s hs5 with ⟨h14, f15, hs6⟩ | hs6
      · clear hs5
        refine Or.inl ⟨_, _, f15, ?_⟩
        show am_W X _ 52 35 _ [] h14 _
        refine aw_vload_n (pc1 := 36) at_52_35 l0 i0 rfl ?_
        obtain ⟨v16, e17, hs7⟩ := am_bind hs6
        clear hs6
        refine aw_pG (pc1 := 39) at_52_36 (am_vR_s e17).1 rfl ?_
        refine aw_iconst (v := 0) (pc1 := 40) at_52_39 (by decide) rfl ?_
        refine aw_iconst (v := 0) (pc1 := 41) at_52_40 (by decide) rfl ?_
        obtain ⟨h18, e19, hs8⟩ := am_bind hs7
        clear hs7
        refine aw_pS (pc1 := 42) at_52_41 (Or.inl ⟨rfl, rfl⟩) e19 rfl ?_
        refine aw_iconst (v := 0) (pc1 := 43) at_52_42 (by decide) rfl ?_
        refine aw_istore_n (lv1 := am_put1 _ 2 _) (pc1 := 44) at_52_43 rfl rfl ?_
        exact rg_52_44 N x0 x1 0 h18 o hs8 _ (am_lk1 l0 rfl rfl) (am_lk1 l1 rfl (by rw [am_isRc i1]; rfl)) am_lk0 i0 i1
      · clear hs5
        exact Or.inr hs6
    · rw [if_neg c10] at hs4
      refine aw_icle_f (pc1 := 25) at_52_22 c10 rfl ?_
      exact rg_52_25 h3 o   hs4
def fm_52 (N : Nat) (y0 : Value) (y1 : Value) (h : am_H) : Option am_O := fg_52_0 N y0 y1 h
theorem rm_52 {X : am_X} {d : Nat} {N : Nat} (y0 : Value) (y1 : Value) (h : am_H) (o : am_O) (i0 : am_isR y0 = true) (i1 : am_isR y1 = true) (hs : fm_52 N y0 y1 h = some o) : am_W X (d + 1) 52 0 (am_args 0 [y0, y1]) [] h (fun q => q = o) := by
  rw [am_args_R i0, am_args_R i1]
  exact rg_52_0 y0 y1 h o rfl rfl i0 i1 hs
def fg_58_2 (N : Nat) : Nat → Value → Int32 → am_H → Option am_O
  | 0 => fun _ _ _ => none
  | K + 1 => fun x0 x1 h => ((am_vR (am_pG 2308 x0 h)).bind fun v1 => ((am_vI (am_pG 771 v1 h)).bind fun v3 => (if (4 * v3) ≤ x1 then some (.inl (some (.int (-1)), h)) else ((am_vR (am_pG 2308 x0 h)).bind fun v6 => (if am_pOk 3 v6 h then am_cI true (fm_54 v6 ((x1 / 4)) ((1 + (x1 - x1 / 4 * 4))) h) (fun v9 h10 => ((am_vR (am_pG 2308 x0 h10)).bind fun v12 => ((am_vI (am_pG 771 v12 h10)).bind fun v14 => (if v9 < v14 then (fg_58_2 N K x0 ((x1 + 1)) h10) else ((am_vR (am_pG 2309 x0 h10)).bind fun v17 => ((am_pA 0 v17 x1 h10).bind fun v19 => some (.inl (some (.int v19), h10)))))))) else none)))))
theorem rg_58_2 {X : am_X} {d : Nat} {N : Nat} : ∀ (K : Nat) (x0 : Value) (x1 : Int32) (h : am_H) (o : am_O), fg_58_2 N K x0 x1 h = some o → ∀ lv : am_LV, (lv.lookup 0 = some x0) → (lv.lookup 1 = some (.int x1)) → (am_isR x0 = true) → am_W X (d + 1) 58 2 lv [] h (fun q => q = o) := by
  intro K
  induction K with
  | zero => intro x0 x1 h o hs; cases hs
  | succ K ih =>
    intro x0 x1 h o hs lv l0 l1 i0
    unfold fg_58_2 at hs
    refine aw_iload_n (pc1 := 3) at_58_2 l1 rfl ?_
    refine aw_iconst (v := 4) (pc1 := 4) at_58_3 (by decide) rfl ?_
    refine aw_vload_n (pc1 := 5) at_58_4 l0 i0 rfl ?_
    obtain ⟨v1, e2, hs1⟩ := am_bind hs
    clear hs
    refine aw_pG (pc1 := 8) at_58_5 (am_vR_s e2).1 rfl ?_
    obtain ⟨v3, e4, hs2⟩ := am_bind hs1
    clear hs1
    refine aw_pG (pc1 := 11) at_58_8 (am_vI_s e4) rfl ?_
    refine aw_imul (v := (4 * v3)) (pc1 := 12) at_58_11 rfl rfl ?_
    by_cases c5 : (4 * v3) ≤ x1
    · rw [if_pos c5] at hs2
      refine aw_icge_t at_58_12 c5 ?_
      refine aw_iconst (v := (-1)) (pc1 := 54) at_58_53 (by decide) rfl ?_
      cases hs2
      exact aw_iret at_58_54 (by rw [rt_58]; rfl) rfl
    · rw [if_neg c5] at hs2
      refine aw_icge_f (pc1 := 15) at_58_12 c5 rfl ?_
      refine aw_vload_n (pc1 := 16) at_58_15 l0 i0 rfl ?_
      obtain ⟨v6, e7, hs3⟩ := am_bind hs2
      clear hs2
      refine aw_pG (pc1 := 19) at_58_16 (am_vR_s e7).1 rfl ?_
      refine aw_iload_n (pc1 := 20) at_58_19 l1 rfl ?_
      refine aw_iconst (v := 4) (pc1 := 21) at_58_20 (by decide) rfl ?_
      refine aw_idiv (v := (x1 / 4)) (pc1 := 22) at_58_21 (by decide) rfl rfl ?_
      refine aw_iconst (v := 1) (pc1 := 23) at_58_22 (by decide) rfl ?_
      refine aw_iload_n (pc1 := 24) at_58_23 l1 rfl ?_
      refine aw_iconst (v := 4) (pc1 := 25) at_58_24 (by decide) rfl ?_
      refine aw_irem (v := (x1 - x1 / 4 * 4)) (pc1 := 26) at_58_25 (by decide) rfl rfl ?_
      refine aw_iadd (v := (1 + (x1 - x1 / 4 * 4))) (pc1 := 27) at_58_26 rfl rfl ?_
      obtain ⟨z8, hs4⟩ := am_ift hs3
      clear hs3
      refine aw_call (F := fm_54 v6 ((x1 / 4)) ((1 + (x1 - x1 / 4 * 4))) h) (t := true) (na := 3) (kd := 1) (as := [v6, (.int (x1 / 4)), (.int (1 + (x1 - x1 / 4 * 4)))]) at_58_27 (am_k3v kb_54) mn_54 mk_54 rfl rfl (am_ok_v mi_54 (am_hl rfl (am_ccR (am_vR_s e7).2 (am_ccI (am_ccI am_cats_0))) rfl) z8) (am_hc am_cats_0 rfl) (fun _ => ⟨rfl, hh_58⟩) (fun o1 hz9 => rm_54 v6 ((x1 / 4)) ((1 + (x1 - x1 / 4 * 4))) h o1 (am_vR_s e7).2 hz9) ?_
      rcases am_cI_s hs4 with ⟨v9, h10, f11, hs5⟩ | hs5
      · clear hs4
        refine Or.inl ⟨_, _, f11, ?_⟩
        show am_W X _ 58 30 _ [(.int v9)] h10 _
        refine aw_vload_n (pc1 := 31) at_58_30 l0 i0 rfl ?_
        obtain ⟨v12, e13, hs6⟩ := am_bind hs5
        clear hs5
        refine aw_pG (pc1 := 34) at_58_31 (am_vR_s e13).1 rfl ?_
        obtain ⟨v14, e15, hs7⟩ := am_bind hs6
        clear hs6
        refine aw_pG (pc1 := 37) at_58_34 (am_vI_s e15) rfl ?_
        by_cases c16 : v9 < v14
        · rw [if_pos c16] at hs7
          refine aw_iclt_t at_58_37 c16 ?_
          refine aw_iinc (v := (x1 + 1)) (c := 1) (lv1 := am_put1 _ 1 _) (pc1 := 50) at_58_47 l1 (by decide) rfl rfl rfl ?_
          refine aw_goto at_58_50 ?_
          exact ih x0 ((x1 + 1)) h10 o hs7 _ (am_lk1 l0 rfl (by rw [am_isRc i0]; rfl)) am_lk0 i0
        · rw [if_neg c16] at hs7
          refine aw_iclt_f (pc1 := 40) at_58_37 c16 rfl ?_
          refine aw_vload_n (pc1 := 41) at_58_40 l0 i0 rfl ?_
          obtain ⟨v17, e18, hs8⟩ := am_bind hs7
          clear hs7
          refine aw_pG (pc1 := 44) at_58_41 (am_vR_s e18).1 rfl ?_
          refine aw_iload_n (pc1 := 45) at_58_44 l1 rfl ?_
          obtain ⟨v19, e20, hs9⟩ := am_bind hs8
          clear hs8
          refine aw_pA (pc1 := 46) at_58_45 (Or.inl ⟨rfl, rfl⟩) e20 rfl ?_
          cases hs9
          exact aw_iret at_58_46 (by rw [rt_58]; rfl) rfl
      · clear hs4
        exact Or.inr hs5
def fg_58_0 (N : Nat) (x0 : Value) (h : am_H) : Option am_O := (fg_58_2 N N x0 0 h)
theorem rg_58_0 {X : am_X} {d : Nat} {N : Nat} {lv : am_LV} (x0 : Value) (h : am_H) (o : am_O) (l0 : lv.lookup 0 = some x0) (i0 : am_isR x0 = true) (hs : fg_58_0 N x0 h = some o) : am_W X (d + 1) 58 0 lv [] h (fun q => q = o) := by
  unfold fg_58_0 at hs
  refine aw_iconst (v := 0) (pc1 := 1) at_58_0 (by decide) rfl ?_
  refine aw_istore_n (lv1 := am_put1 _ 1 _) (pc1 := 2) at_58_1 rfl rfl ?_
  exact rg_58_2 N x0 0 h o hs _ (am_lk1 l0 rfl (by rw [am_isRc i0]; rfl)) am_lk0 i0
def fm_58 (N : Nat) (y0 : Value) (h : am_H) : Option am_O := fg_58_0 N y0 h
theorem rm_58 {X : am_X} {d : Nat} {N : Nat} (y0 : Value) (h : am_H) (o : am_O) (i0 : am_isR y0 = true) (hs : fm_58 N y0 h = some o) : am_W X (d + 1) 58 0 (am_args 0 [y0]) [] h (fun q => q = o) := by
  rw [am_args_R i0]
  exact rg_58_0 y0 h o rfl i0 hs
def fg_33_139 (N : Nat) (x0 : Value) (h : am_H) : Option am_O := ((am_pP 2305 x0 (.int 0) h).bind fun h1 => ((am_vI (am_pG 2307 x0 h1)).bind fun v3 => some (.inl (some (.int v3), h1))))
theorem rg_33_139 {X : am_X} {d : Nat} {N : Nat} {lv : am_LV} (x0 : Value) (h : am_H) (o : am_O) (l0 : lv.lookup 0 = some x0) (i0 : am_isR x0 = true) (hs : fg_33_139 N x0 h = some o) : am_W X (d + 161) 33 139 lv [] h (fun q => q = o) := by
  unfold fg_33_139 at hs
  refine aw_vload_n (pc1 := 140) at_33_139 l0 i0 rfl ?_
  refine aw_iconst (v := 0) (pc1 := 141) at_33_140 (by decide) rfl ?_
  obtain ⟨h1, e2, hs1⟩ := am_bind hs
  clear hs
  refine aw_pP (pc1 := 144) at_33_141 e2 rfl ?_
  refine aw_vload_n (pc1 := 145) at_33_144 l0 i0 rfl ?_
  obtain ⟨v3, e4, hs2⟩ := am_bind hs1
  clear hs1
  refine aw_pG (pc1 := 148) at_33_145 (am_vI_s e4) rfl ?_
  cases hs2
  exact aw_iret at_33_148 (by rw [rt_33]; rfl) rfl
def fg_33_119 (N : Nat) (x0 : Value) (x1 : Int32) (h : am_H) : Option am_O := ((am_vI (am_pG 2307 x0 h)).bind fun v1 => (if 0 ≤ v1 then (fg_33_139 N x0 h) else (if ¬ x1 = 2 then (fg_33_139 N x0 h) else (if am_pOk 9 x0 h then am_cI true (fm_58 N x0 h) (fun v6 h7 => ((am_pP 2307 x0 (.int v6) h7).bind fun h9 => (fg_33_139 N x0 h9))) else none))))
theorem rg_33_119 {X : am_X} {d : Nat} {N : Nat} {lv : am_LV} (x0 : Value) (x1 : Int32) (h : am_H) (o : am_O) (l0 : lv.lookup 0 = some x0) (l1 : lv.lookup 1 = some (.int x1)) (i0 : am_isR x0 = true) (hs : fg_33_119 N x0 x1 h = some o) : am_W X (d + 161) 33 119 lv [] h (fun q => q = o) := by
  unfold fg_33_119 at hs
  refine aw_vload_n (pc1 := 120) at_33_119 l0 i0 rfl ?_
  obtain ⟨v1, e2, hs1⟩ := am_bind hs
  clear hs
  refine aw_pG (pc1 := 123) at_33_120 (am_vI_s e2) rfl ?_
  by_cases c3 : 0 ≤ v1
  · rw [if_pos c3] at hs1
    refine aw_ifge_t at_33_123 c3 ?_
    exact rg_33_139 x0 h o l0 i0 hs1
  · rw [if_neg c3] at hs1
    refine aw_ifge_f (pc1 := 126) at_33_123 c3 rfl ?_
    refine aw_iload_n (pc1 := 127) at_33_126 l1 rfl ?_
    refine aw_iconst (v := 2) (pc1 := 128) at_33_127 (by decide) rfl ?_
    by_cases c4 : ¬ x1 = 2
    · rw [if_pos c4] at hs1
      refine aw_icne_t at_33_128 c4 ?_
      exact rg_33_139 x0 h o l0 i0 hs1
    · rw [if_neg c4] at hs1
      refine aw_icne_f (pc1 := 131) at_33_128 c4 rfl ?_
      refine aw_vload_n (pc1 := 132) at_33_131 l0 i0 rfl ?_
      refine aw_vload_n (pc1 := 133) at_33_132 l0 i0 rfl ?_
      obtain ⟨z5, hs2⟩ := am_ift hs1
      clear hs1
      refine aw_call (F := fm_58 N x0 h) (t := true) (na := 1) (kd := 1) (as := [x0]) at_33_133 (am_k3v kb_58) mn_58 mk_58 rfl rfl (am_ok_v mi_58 (am_hl rfl (am_ccR i0 am_cats_0) rfl) z5) (am_hc (am_ccR i0 am_cats_0) rfl) (fun _ => ⟨rfl, hh_33⟩) (fun o1 hz9 => rm_58 x0 h o1 i0 hz9) ?_
      rcases am_cI_s hs2 with ⟨v6, h7, f8, hs3⟩ | hs3
      · clear hs2
        refine Or.inl ⟨_, _, f8, ?_⟩
        show am_W X _ 33 136 _ [(.int v6), x0] h7 _
        obtain ⟨h9, e10, hs4⟩ := am_bind hs3
        clear hs3
        refine aw_pP (pc1 := 139) at_33_136 e10 rfl ?_
        exact rg_33_139 x0 h9 o l0 i0 hs4
      · clear hs2
        exact Or.inr hs3
def fg_33_116 (N : Nat) (x0 : Value) (x1 : Int32) (s0 : Value) (s1 : Int32) (h : am_H) : Option am_O := ((am_pP 2307 s0 (.int s1) h).bind fun h1 => (fg_33_119 N x0 x1 h1))
theorem rg_33_116 {X : am_X} {d : Nat} {N : Nat} {lv : am_LV} (x0 : Value) (x1 : Int32) (s0 : Value) (s1 : Int32) (h : am_H) (o : am_O) (l0 : lv.lookup 0 = some x0) (l1 : lv.lookup 1 = some (.int x1)) (i0 : am_isR x0 = true) (j0 : am_isR s0 = true) (hs : fg_33_116 N x0 x1 s0 s1 h = some o) : am_W X (d + 161) 33 116 lv [(.int s1), s0] h (fun q => q = o) := by
  unfold fg_33_116 at hs
  obtain ⟨h1, e2, hs1⟩ := am_bind hs
  clear hs
  refine aw_pP (pc1 := 119) at_33_116 e2 rfl ?_
  exact rg_33_119 x0 x1 h1 o l0 l1 i0 hs1
def fg_33_77 (N : Nat) (x0 : Value) (x1 : Int32) (h : am_H) : Option am_O := ((am_vI (am_pG 2307 x0 h)).bind fun v1 => (if 0 ≤ v1 then (fg_33_119 N x0 x1 h) else (if ¬ x1 = 1 then (fg_33_119 N x0 x1 h) else ((am_vR (am_pG 2310 x0 h)).bind fun v5 => ((am_vR (am_pG 2308 x0 h)).bind fun v7 => (if am_pOk 7 v5 h then am_cI true (fm_52 N v5 v7 h) (fun v10 h11 => (if 0 ≤ v10 then ((am_vR (am_pG 2309 x0 h11)).bind fun v14 => ((am_pA 0 v14 v10 h11).bind fun v16 => (fg_33_116 N x0 x1 x0 v16 h11))) else (fg_33_116 N x0 x1 x0 ((-1)) h11))) else none))))))
theorem rg_33_77 {X : am_X} {d : Nat} {N : Nat} {lv : am_LV} (x0 : Value) (x1 : Int32) (h : am_H) (o : am_O) (l0 : lv.lookup 0 = some x0) (l1 : lv.lookup 1 = some (.int x1)) (i0 : am_isR x0 = true) (hs : fg_33_77 N x0 x1 h = some o) : am_W X (d + 161) 33 77 lv [] h (fun q => q = o) := by
  unfold fg_33_77 at hs
  refine aw_vload_n (pc1 := 78) at_33_77 l0 i0 rfl ?_
  obtain ⟨v1, e2, hs1⟩ := am_bind hs
  clear hs
  refine aw_pG (pc1 := 81) at_33_78 (am_vI_s e2) rfl ?_
  by_cases c3 : 0 ≤ v1
  · rw [if_pos c3] at hs1
    refine aw_ifge_t at_33_81 c3 ?_
    exact rg_33_119 x0 x1 h o l0 l1 i0 hs1
  · rw [if_neg c3] at hs1
    refine aw_ifge_f (pc1 := 84) at_33_81 c3 rfl ?_
    refine aw_iload_n (pc1 := 85) at_33_84 l1 rfl ?_
    refine aw_iconst (v := 1) (pc1 := 86) at_33_85 (by decide) rfl ?_
    by_cases c4 : ¬ x1 = 1
    · rw [if_pos c4] at hs1
      refine aw_icne_t at_33_86 c4 ?_
      exact rg_33_119 x0 x1 h o l0 l1 i0 hs1
    · rw [if_neg c4] at hs1
      refine aw_icne_f (pc1 := 89) at_33_86 c4 rfl ?_
      refine aw_vload_n (pc1 := 90) at_33_89 l0 i0 rfl ?_
      obtain ⟨v5, e6, hs2⟩ := am_bind hs1
      clear hs1
      refine aw_pG (pc1 := 93) at_33_90 (am_vR_s e6).1 rfl ?_
      refine aw_vload_n (pc1 := 94) at_33_93 l0 i0 rfl ?_
      obtain ⟨v7, e8, hs3⟩ := am_bind hs2
      clear hs2
      refine aw_pG (pc1 := 97) at_33_94 (am_vR_s e8).1 rfl ?_
      obtain ⟨z9, hs4⟩ := am_ift hs3
      clear hs3
      refine aw_call (F := fm_52 N v5 v7 h) (t := true) (na := 2) (kd := 1) (as := [v5, v7]) at_33_97 (am_k3v kb_52) mn_52 mk_52 rfl rfl (am_ok_v mi_52 (am_hl rfl (am_ccR (am_vR_s e6).2 (am_ccR (am_vR_s e8).2 am_cats_0)) rfl) z9) (am_hc am_cats_0 rfl) (fun _ => ⟨rfl, hh_33⟩) (fun o1 hz9 => rm_52 v5 v7 h o1 (am_vR_s e6).2 (am_vR_s e8).2 hz9) ?_
      rcases am_cI_s hs4 with ⟨v10, h11, f12, hs5⟩ | hs5
      · clear hs4
        refine Or.inl ⟨_, _, f12, ?_⟩
        show am_W X _ 33 100 _ [(.int v10)] h11 _
        refine aw_istore_n (lv1 := am_put1 _ 3 _) (pc1 := 101) at_33_100 rfl rfl ?_
        refine aw_vload_n (pc1 := 102) at_33_101 (am_lk1 l0 rfl rfl) i0 rfl ?_
        refine aw_iload_n (pc1 := 103) at_33_102 am_lk0 rfl ?_
        by_cases c13 : 0 ≤ v10
        · rw [if_pos c13] at hs5
          refine aw_ifge_t at_33_103 c13 ?_
          refine aw_vload_n (pc1 := 111) at_33_110 (am_lk1 l0 rfl rfl) i0 rfl ?_
          obtain ⟨v14, e15, hs6⟩ := am_bind hs5
          clear hs5
          refine aw_pG (pc1 := 114) at_33_111 (am_vR_s e15).1 rfl ?_
          refine aw_iload_n (pc1 := 115) at_33_114 am_lk0 rfl ?_
          obtain ⟨v16, e17, hs7⟩ := am_bind hs6
          clear hs6
          refine aw_pA (pc1 := 116) at_33_115 (Or.inl ⟨rfl, rfl⟩) e17 rfl ?_
          exact rg_33_116 x0 x1 x0 v16 h11 o (am_lk1 l0 rfl rfl) (am_lk1 l1 rfl rfl) i0 i0 hs7
        · rw [if_neg c13] at hs5
          refine aw_ifge_f (pc1 := 106) at_33_103 c13 rfl ?_
          refine aw_iconst (v := (-1)) (pc1 := 107) at_33_106 (by decide) rfl ?_
          refine aw_goto at_33_107 ?_
          exact rg_33_116 x0 x1 x0 ((-1)) h11 o (am_lk1 l0 rfl rfl) (am_lk1 l1 rfl rfl) i0 i0 hs5
      · clear hs4
        exact Or.inr hs5
def fg_33_55 (N : Nat) (x0 : Value) (x1 : Int32) (h : am_H) : Option am_O := ((am_vI (am_pG 2307 x0 h)).bind fun v1 => (if 0 ≤ v1 then (fg_33_77 N x0 x1 h) else ((am_vI (am_pG 2306 x0 h)).bind fun v4 => ((am_vI (am_pG 2305 x0 h)).bind fun v6 => (if v6 ≤ v4 then (fg_33_77 N x0 x1 h) else (if am_pOk 9 x0 h then am_cV true (fm_39 x0 h) (fun h11 => (fg_33_77 N x0 x1 h11)) else none))))))
theorem rg_33_55 {X : am_X} {d : Nat} {N : Nat} {lv : am_LV} (x0 : Value) (x1 : Int32) (h : am_H) (o : am_O) (l0 : lv.lookup 0 = some x0) (l1 : lv.lookup 1 = some (.int x1)) (i0 : am_isR x0 = true) (hs : fg_33_55 N x0 x1 h = some o) : am_W X (d + 161) 33 55 lv [] h (fun q => q = o) := by
  unfold fg_33_55 at hs
  refine aw_vload_n (pc1 := 56) at_33_55 l0 i0 rfl ?_
  obtain ⟨v1, e2, hs1⟩ := am_bind hs
  clear hs
  refine aw_pG (pc1 := 59) at_33_56 (am_vI_s e2) rfl ?_
  by_cases c3 : 0 ≤ v1
  · rw [if_pos c3] at hs1
    refine aw_ifge_t at_33_59 c3 ?_
    exact rg_33_77 x0 x1 h o l0 l1 i0 hs1
  · rw [if_neg c3] at hs1
    refine aw_ifge_f (pc1 := 62) at_33_59 c3 rfl ?_
    refine aw_vload_n (pc1 := 63) at_33_62 l0 i0 rfl ?_
    obtain ⟨v4, e5, hs2⟩ := am_bind hs1
    clear hs1
    refine aw_pG (pc1 := 66) at_33_63 (am_vI_s e5) rfl ?_
    refine aw_vload_n (pc1 := 67) at_33_66 l0 i0 rfl ?_
    obtain ⟨v6, e7, hs3⟩ := am_bind hs2
    clear hs2
    refine aw_pG (pc1 := 70) at_33_67 (am_vI_s e7) rfl ?_
    by_cases c8 : v6 ≤ v4
    · rw [if_pos c8] at hs3
      refine aw_icge_t at_33_70 c8 ?_
      exact rg_33_77 x0 x1 h o l0 l1 i0 hs3
    · rw [if_neg c8] at hs3
      refine aw_icge_f (pc1 := 73) at_33_70 c8 rfl ?_
      refine aw_vload_n (pc1 := 74) at_33_73 l0 i0 rfl ?_
      obtain ⟨z9, hs4⟩ := am_ift hs3
      clear hs3
      refine aw_call (F := fm_39 x0 h) (t := true) (na := 1) (kd := 1) (as := [x0]) at_33_74 (am_k3v kb_39) mn_39 mk_39 rfl rfl (am_ok_v mi_39 (am_hl rfl (am_ccR i0 am_cats_0) rfl) z9) (am_hc am_cats_0 rfl) (fun _ => ⟨rfl, hh_33⟩) (fun o1 hz9 => rm_39 x0 h o1 i0 hz9) ?_
      rcases am_cV_s hs4 with ⟨h11, f12, hs5⟩ | hs5
      · clear hs4
        refine Or.inl ⟨_, _, f12, ?_⟩
        show am_W X _ 33 77 _ [] h11 _
        exact rg_33_77 x0 x1 h11 o l0 l1 i0 hs5
      · clear hs4
        exact Or.inr hs5
def fg_33_0 (N : Nat) (x0 : Value) (x1 : Int32) (x2 : Value) (h : am_H) : Option am_O := ((am_pP 2308 x0 x2 h).bind fun h1 => ((am_vR (am_pG 2308 x0 h1)).bind fun v3 => (if am_pOk 3 v3 h1 then am_cV true (fm_34 v3 x1 0 h1) (fun h7 => ((am_pP 2306 x0 (.int 0) h7).bind fun h9 => ((am_pP 2307 x0 (.int (-1)) h9).bind fun h11 => (if ¬ x1 = 0 then (if ¬ x1 = 3 then (if am_pOk 9 x0 h11 then am_cV true (fm_48 N x0 x1 h11) (fun h17 => (fg_33_55 N x0 x1 h17)) else none) else (if am_pOk 9 x0 h11 then am_cV true (fm_46 N x0 h11) (fun h21 => (fg_33_55 N x0 x1 h21)) else none)) else (if am_pOk 9 x0 h11 then am_cV true (fm_35 N x0 0 1 0 h11) (fun h25 => (fg_33_55 N x0 x1 h25)) else none))))) else none)))
theorem rg_33_0 {X : am_X} {d : Nat} {N : Nat} {lv : am_LV} (x0 : Value) (x1 : Int32) (x2 : Value) (h : am_H) (o : am_O) (l0 : lv.lookup 0 = some x0) (l1 : lv.lookup 1 = some (.int x1)) (l2 : lv.lookup 2 = some x2) (i0 : am_isR x0 = true) (i2 : am_isR x2 = true) (hs : fg_33_0 N x0 x1 x2 h = some o) : am_W X (d + 161) 33 0 lv [] h (fun q => q = o) := by
  unfold fg_33_0 at hs
  refine aw_vload_n (pc1 := 1) at_33_0 l0 i0 rfl ?_
  refine aw_vload_n (pc1 := 2) at_33_1 l2 i2 rfl ?_
  obtain ⟨h1, e2, hs1⟩ := am_bind hs
  clear hs
  refine aw_pP (pc1 := 5) at_33_2 e2 rfl ?_
  refine aw_vload_n (pc1 := 6) at_33_5 l0 i0 rfl ?_
  obtain ⟨v3, e4, hs2⟩ := am_bind hs1
  clear hs1
  refine aw_pG (pc1 := 9) at_33_6 (am_vR_s e4).1 rfl ?_
  refine aw_iload_n (pc1 := 10) at_33_9 l1 rfl ?_
  refine aw_iconst (v := 0) (pc1 := 11) at_33_10 (by decide) rfl ?_
  obtain ⟨z5, hs3⟩ := am_ift hs2
  clear hs2
  refine aw_call (F := fm_34 v3 x1 0 h1) (t := true) (na := 3) (kd := 1) (as := [v3, (.int x1), (.int 0)]) at_33_11 (am_k3v kb_34) mn_34 mk_34 rfl rfl (am_ok_v mi_34 (am_hl rfl (am_ccR (am_vR_s e4).2 (am_ccI (am_ccI am_cats_0))) rfl) z5) (am_hc am_cats_0 rfl) (fun _ => ⟨rfl, hh_33⟩) (fun o1 hz9 => rm_34 v3 x1 0 h1 o1 (am_vR_s e4).2 hz9) ?_
  rcases am_cV_s hs3 with ⟨h7, f8, hs4⟩ | hs4
  · clear hs3
    refine Or.inl ⟨_, _, f8, ?_⟩
    show am_W X _ 33 14 _ [] h7 _
    refine aw_vload_n (pc1 := 15) at_33_14 l0 i0 rfl ?_
    refine aw_iconst (v := 0) (pc1 := 16) at_33_15 (by decide) rfl ?_
    obtain ⟨h9, e10, hs5⟩ := am_bind hs4
    clear hs4
    refine aw_pP (pc1 := 19) at_33_16 e10 rfl ?_
    refine aw_vload_n (pc1 := 20) at_33_19 l0 i0 rfl ?_
    refine aw_iconst (v := (-1)) (pc1 := 21) at_33_20 (by decide) rfl ?_
    obtain ⟨h11, e12, hs6⟩ := am_bind hs5
    clear hs5
    refine aw_pP (pc1 := 24) at_33_21 e12 rfl ?_
    refine aw_iload_n (pc1 := 25) at_33_24 l1 rfl ?_
    by_cases c13 : ¬ x1 = 0
    · rw [if_pos c13] at hs6
      refine aw_ifne_t at_33_25 c13 ?_
      refine aw_iload_n (pc1 := 39) at_33_38 l1 rfl ?_
      refine aw_iconst (v := 3) (pc1 := 40) at_33_39 (by decide) rfl ?_
      by_cases c14 : ¬ x1 = 3
      · rw [if_pos c14] at hs6
        refine aw_icne_t at_33_40 c14 ?_
        refine aw_vload_n (pc1 := 51) at_33_50 l0 i0 rfl ?_
        refine aw_iload_n (pc1 := 52) at_33_51 l1 rfl ?_
        obtain ⟨z15, hs7⟩ := am_ift hs6
        clear hs6
        refine aw_call (F := fm_48 N x0 x1 h11) (t := true) (na := 2) (kd := 1) (as := [x0, (.int x1)]) at_33_52 (am_k3v kb_48) mn_48 mk_48 rfl rfl (am_ok_v mi_48 (am_hl rfl (am_ccR i0 (am_ccI am_cats_0)) rfl) z15) (am_hc am_cats_0 rfl) (fun _ => ⟨rfl, hh_33⟩) (fun o1 hz9 => rm_48 x0 x1 h11 o1 i0 hz9) ?_
        rcases am_cV_s hs7 with ⟨h17, f18, hs8⟩ | hs8
        · clear hs7
          refine Or.inl ⟨_, _, f18, ?_⟩
          show am_W X _ 33 55 _ [] h17 _
          exact rg_33_55 x0 x1 h17 o l0 l1 i0 hs8
        · clear hs7
          exact Or.inr hs8
      · rw [if_neg c14] at hs6
        refine aw_icne_f (pc1 := 43) at_33_40 c14 rfl ?_
        refine aw_vload_n (pc1 := 44) at_33_43 l0 i0 rfl ?_
        obtain ⟨z19, hs9⟩ := am_ift hs6
        clear hs6
        refine aw_call (F := fm_46 N x0 h11) (t := true) (na := 1) (kd := 1) (as := [x0]) at_33_44 (am_k3v kb_46) mn_46 mk_46 rfl rfl (am_ok_v mi_46 (am_hl rfl (am_ccR i0 am_cats_0) rfl) z19) (am_hc am_cats_0 rfl) (fun _ => ⟨rfl, hh_33⟩) (fun o1 hz9 => rm_46 x0 h11 o1 i0 hz9) ?_
        rcases am_cV_s hs9 with ⟨h21, f22, hs10⟩ | hs10
        · clear hs9
          refine Or.inl ⟨_, _, f22, ?_⟩
          show am_W X _ 33 47 _ [] h21 _
          refine aw_goto at_33_47 ?_
          exact rg_33_55 x0 x1 h21 o l0 l1 i0 hs10
        · clear hs9
          exact Or.inr hs10
    · rw [if_neg c13] at hs6
      refine aw_ifne_f (pc1 := 28) at_33_25 c13 rfl ?_
      refine aw_vload_n (pc1 := 29) at_33_28 l0 i0 rfl ?_
      refine aw_iconst (v := 0) (pc1 := 30) at_33_29 (by decide) rfl ?_
      refine aw_iconst (v := 1) (pc1 := 31) at_33_30 (by decide) rfl ?_
      refine aw_iconst (v := 0) (pc1 := 32) at_33_31 (by decide) rfl ?_
      obtain ⟨z23, hs11⟩ := am_ift hs6
      clear hs6
      refine aw_call (F := fm_35 N x0 0 1 0 h11) (t := true) (na := 4) (kd := 1) (as := [x0, (.int 0), (.int 1), (.int 0)]) at_33_32 (am_k3v kb_35) mn_35 mk_35 rfl rfl (am_ok_v mi_35 (am_hl rfl (am_ccR i0 (am_ccI (am_ccI (am_ccI am_cats_0)))) rfl) z23) (am_hc am_cats_0 rfl) (fun _ => ⟨rfl, hh_33⟩) (fun o1 hz9 => rm_35 x0 0 1 0 h11 o1 i0 hz9) ?_
      rcases am_cV_s hs11 with ⟨h25, f26, hs12⟩ | hs12
      · clear hs11
        refine Or.inl ⟨_, _, f26, ?_⟩
        show am_W X _ 33 35 _ [] h25 _
        refine aw_goto at_33_35 ?_
        exact rg_33_55 x0 x1 h25 o l0 l1 i0 hs12
      · clear hs11
        exact Or.inr hs12
  · clear hs3
    exact Or.inr hs4
def fm_33 (N : Nat) (y0 : Value) (y1 : Int32) (y2 : Value) (h : am_H) : Option am_O := fg_33_0 N y0 y1 y2 h
theorem rm_33 {X : am_X} {d : Nat} {N : Nat} (y0 : Value) (y1 : Int32) (y2 : Value) (h : am_H) (o : am_O) (i0 : am_isR y0 = true) (i2 : am_isR y2 = true) (hs : fm_33 N y0 y1 y2 h = some o) : am_W X (d + 161) 33 0 (am_args 0 [y0, .int y1, y2]) [] h (fun q => q = o) := by
  rw [am_args_R i0, am_args_I, am_args_R i2]
  exact rg_33_0 y0 y1 y2 h o rfl rfl rfl i0 i2 hs
def fg_60_59 (h : am_H) : Option am_O := some (.inl (none, h))
theorem rg_60_59 {X : am_X} {d : Nat} {lv : am_LV} (h : am_H) (o : am_O) (hs : fg_60_59 h = some o) : am_W X (d + 1) 60 59 lv [] h (fun q => q = o) := by
  unfold fg_60_59 at hs
  cases hs
  exact aw_vret at_60_59 rt_60 rfl
def fg_60_0 (x0 : Value) (x1 : Value) (h : am_H) : Option am_O := ((am_vI (am_pG 769 x1 h)).bind fun v1 => ((am_vI (am_pG 770 x1 h)).bind fun v3 => (if am_pOk 3 x0 h then am_cV true (fm_34 x0 v1 v3 h) (fun h7 => ((am_vI (am_pG 771 x1 h7)).bind fun v9 => ((am_vI (am_pG 772 x0 h7)).bind fun v11 => ((am_vR (am_pG 768 x0 h7)).bind fun v13 => ((am_pLen v13 h7).bind fun v15 => (if v15 < (v9 * v11) then (fg_60_59 h7) else ((am_vI (am_pG 771 x1 h7)).bind fun v18 => ((am_pP 771 x0 (.int v18) h7).bind fun h20 => ((am_vR (am_pG 768 x1 h20)).bind fun v22 => ((am_vR (am_pG 768 x0 h20)).bind fun v24 => ((am_vI (am_pG 771 x0 h20)).bind fun v26 => ((am_vI (am_pG 772 x0 h20)).bind fun v28 => ((am_pCpy v22 0 v24 0 (v26 * v28) h20).bind fun h30 => (fg_60_59 h30)))))))))))))) else none)))
theorem rg_60_0 {X : am_X} {d : Nat} {lv : am_LV} (x0 : Value) (x1 : Value) (h : am_H) (o : am_O) (l0 : lv.lookup 0 = some x0) (l1 : lv.lookup 1 = some x1) (i0 : am_isR x0 = true) (i1 : am_isR x1 = true) (hs : fg_60_0 x0 x1 h = some o) : am_W X (d + 1) 60 0 lv [] h (fun q => q = o) := by
  unfold fg_60_0 at hs
  refine aw_vload_n (pc1 := 1) at_60_0 l0 i0 rfl ?_
  refine aw_vload_n (pc1 := 2) at_60_1 l1 i1 rfl ?_
  obtain ⟨v1, e2, hs1⟩ := am_bind hs
  clear hs
  refine aw_pG (pc1 := 5) at_60_2 (am_vI_s e2) rfl ?_
  refine aw_vload_n (pc1 := 6) at_60_5 l1 i1 rfl ?_
  obtain ⟨v3, e4, hs2⟩ := am_bind hs1
  clear hs1
  refine aw_pG (pc1 := 9) at_60_6 (am_vI_s e4) rfl ?_
  obtain ⟨z5, hs3⟩ := am_ift hs2
  clear hs2
  refine aw_call (F := fm_34 x0 v1 v3 h) (t := true) (na := 3) (kd := 1) (as := [x0, (.int v1), (.int v3)]) at_60_9 (am_k3v kb_34) mn_34 mk_34 rfl rfl (am_ok_v mi_34 (am_hl rfl (am_ccR i0 (am_ccI (am_ccI am_cats_0))) rfl) z5) (am_hc am_cats_0 rfl) (fun _ => ⟨rfl, hh_60⟩) (fun o1 hz9 => rm_34 x0 v1 v3 h o1 i0 hz9) ?_
  rcases am_cV_s hs3 with ⟨h7, f8, hs4⟩ | hs4
  · clear hs3
    refine Or.inl ⟨_, _, f8, ?_⟩
    show am_W X _ 60 12 _ [] h7 _
    refine aw_vload_n (pc1 := 13) at_60_12 l1 i1 rfl ?_
    obtain ⟨v9, e10, hs5⟩ := am_bind hs4
    clear hs4
    refine aw_pG (pc1 := 16) at_60_13 (am_vI_s e10) rfl ?_
    refine aw_vload_n (pc1 := 17) at_60_16 l0 i0 rfl ?_
    obtain ⟨v11, e12, hs6⟩ := am_bind hs5
    clear hs5
    refine aw_pG (pc1 := 20) at_60_17 (am_vI_s e12) rfl ?_
    refine aw_imul (v := (v9 * v11)) (pc1 := 21) at_60_20 rfl rfl ?_
    refine aw_vload_n (pc1 := 22) at_60_21 l0 i0 rfl ?_
    obtain ⟨v13, e14, hs7⟩ := am_bind hs6
    clear hs6
    refine aw_pG (pc1 := 25) at_60_22 (am_vR_s e14).1 rfl ?_
    obtain ⟨v15, e16, hs8⟩ := am_bind hs7
    clear hs7
    refine aw_pLen (pc1 := 26) at_60_25 e16 rfl ?_
    by_cases c17 : v15 < (v9 * v11)
    · rw [if_pos c17] at hs8
      refine aw_icgt_t at_60_26 c17 ?_
      exact rg_60_59 h7 o   hs8
    · rw [if_neg c17] at hs8
      refine aw_icgt_f (pc1 := 29) at_60_26 c17 rfl ?_
      refine aw_vload_n (pc1 := 30) at_60_29 l0 i0 rfl ?_
      refine aw_vload_n (pc1 := 31) at_60_30 l1 i1 rfl ?_
      obtain ⟨v18, e19, hs9⟩ := am_bind hs8
      clear hs8
      refine aw_pG (pc1 := 34) at_60_31 (am_vI_s e19) rfl ?_
      obtain ⟨h20, e21, hs10⟩ := am_bind hs9
      clear hs9
      refine aw_pP (pc1 := 37) at_60_34 e21 rfl ?_
      refine aw_vload_n (pc1 := 38) at_60_37 l1 i1 rfl ?_
      obtain ⟨v22, e23, hs11⟩ := am_bind hs10
      clear hs10
      refine aw_pG (pc1 := 41) at_60_38 (am_vR_s e23).1 rfl ?_
      refine aw_iconst (v := 0) (pc1 := 42) at_60_41 (by decide) rfl ?_
      refine aw_vload_n (pc1 := 43) at_60_42 l0 i0 rfl ?_
      obtain ⟨v24, e25, hs12⟩ := am_bind hs11
      clear hs11
      refine aw_pG (pc1 := 46) at_60_43 (am_vR_s e25).1 rfl ?_
      refine aw_iconst (v := 0) (pc1 := 47) at_60_46 (by decide) rfl ?_
      refine aw_vload_n (pc1 := 48) at_60_47 l0 i0 rfl ?_
      obtain ⟨v26, e27, hs13⟩ := am_bind hs12
      clear hs12
      refine aw_pG (pc1 := 51) at_60_48 (am_vI_s e27) rfl ?_
      refine aw_vload_n (pc1 := 52) at_60_51 l0 i0 rfl ?_
      obtain ⟨v28, e29, hs14⟩ := am_bind hs13
      clear hs13
      refine aw_pG (pc1 := 55) at_60_52 (am_vI_s e29) rfl ?_
      refine aw_imul (v := (v26 * v28)) (pc1 := 56) at_60_55 rfl rfl ?_
      obtain ⟨h30, e31, hs15⟩ := am_bind hs14
      clear hs14
      refine aw_pCpy at_60_56 rfl e31 (am_hc am_cats_0 rfl) ?_
      exact rg_60_59 h30 o   hs15
  · clear hs3
    exact Or.inr hs4
def fm_60 (y0 : Value) (y1 : Value) (h : am_H) : Option am_O := fg_60_0 y0 y1 h
theorem rm_60 {X : am_X} {d : Nat} (y0 : Value) (y1 : Value) (h : am_H) (o : am_O) (i0 : am_isR y0 = true) (i1 : am_isR y1 = true) (hs : fm_60 y0 y1 h = some o) : am_W X (d + 1) 60 0 (am_args 0 [y0, y1]) [] h (fun q => q = o) := by
  rw [am_args_R i0, am_args_R i1]
  exact rg_60_0 y0 y1 h o rfl rfl i0 i1 hs
def fg_59_99 (x10 : Int32) (h : am_H) : Option am_O := some (.inl (some (.int x10), h))
theorem rg_59_99 {X : am_X} {d : Nat} {lv : am_LV} (x10 : Int32) (h : am_H) (o : am_O) (l10 : lv.lookup 10 = some (.int x10)) (hs : fg_59_99 x10 h = some o) : am_W X (d + 2) 59 99 lv [] h (fun q => q = o) := by
  unfold fg_59_99 at hs
  refine aw_iload (pc1 := 101) at_59_99 l10 rfl ?_
  cases hs
  exact aw_iret at_59_101 (by rw [rt_59]; rfl) rfl
def fg_59_0 (x0 : Value) (x1 : Value) (x2 : Int32) (x3 : Int32) (x4 : Int32) (x5 : Int32) (x6 : Int32) (x7 : Int64) (h : am_H) : Option am_O := ((am_pObj 3 h).bind fun h1 => ((am_vI (am_pG 771 x1 h1)).bind fun v3 => ((am_vI (am_pG 772 x1 h1)).bind fun v5 => (if am_pOk 3 (Value.ref h.length) h1 then am_cV false (fm_18 ((Value.ref h.length)) ((v3 * v5)) h1) (fun h9 => (if am_pOk 3 (Value.ref h.length) h9 then am_cV true (fm_60 ((Value.ref h.length)) x1 h9) (fun h13 => ((am_pP 773 (Value.ref h.length) (.int x2) h13).bind fun h15 => ((am_pP 774 (Value.ref h.length) (.int x3) h15).bind fun h17 => ((am_pP 775 (Value.ref h.length) (.int x4) h17).bind fun h19 => ((am_pP 776 (Value.ref h.length) (.int x5) h19).bind fun h21 => ((am_pP 777 (Value.ref h.length) (.int x6) h21).bind fun h23 => ((am_pP 778 (Value.ref h.length) (.long x7) h23).bind fun h25 => ((am_vI (am_pG 2817 x0 h25)).bind fun v27 => ((am_vR (am_pG 2816 x0 h25)).bind fun v29 => ((am_pLen v29 h25).bind fun v31 => (if v31 ≤ v27 then (fg_59_99 v27 h25) else ((am_vR (am_pG 2816 x0 h25)).bind fun v34 => ((am_pSA v34 v27 (Value.ref h.length) h25).bind fun h36 => ((am_vI (am_pG 2817 x0 h36)).bind fun v38 => ((am_pP 2817 x0 (.int (v38 + 1)) h36).bind fun h40 => (fg_59_99 v27 h40)))))))))))))))) else none)) else none))))
theorem rg_59_0 {X : am_X} {d : Nat} {lv : am_LV} (x0 : Value) (x1 : Value) (x2 : Int32) (x3 : Int32) (x4 : Int32) (x5 : Int32) (x6 : Int32) (x7 : Int64) (h : am_H) (o : am_O) (l0 : lv.lookup 0 = some x0) (l1 : lv.lookup 1 = some x1) (l2 : lv.lookup 2 = some (.int x2)) (l3 : lv.lookup 3 = some (.int x3)) (l4 : lv.lookup 4 = some (.int x4)) (l5 : lv.lookup 5 = some (.int x5)) (l6 : lv.lookup 6 = some (.int x6)) (l7 : lv.lookup 7 = some (.long x7)) (i0 : am_isR x0 = true) (i1 : am_isR x1 = true) (hs : fg_59_0 x0 x1 x2 x3 x4 x5 x6 x7 h = some o) : am_W X (d + 2) 59 0 lv [] h (fun q => q = o) := by
  unfold fg_59_0 at hs
  obtain ⟨h1, e2, hs1⟩ := am_bind hs
  clear hs
  refine aw_pObj (pc1 := 3) at_59_0 rfl rfl e2 rfl ?_
  refine aw_vdup (pc1 := 4) at_59_3 rfl rfl ?_
  refine aw_vload_n (pc1 := 5) at_59_4 l1 i1 rfl ?_
  obtain ⟨v3, e4, hs2⟩ := am_bind hs1
  clear hs1
  refine aw_pG (pc1 := 8) at_59_5 (am_vI_s e4) rfl ?_
  refine aw_vload_n (pc1 := 9) at_59_8 l1 i1 rfl ?_
  obtain ⟨v5, e6, hs3⟩ := am_bind hs2
  clear hs2
  refine aw_pG (pc1 := 12) at_59_9 (am_vI_s e6) rfl ?_
  refine aw_imul (v := (v3 * v5)) (pc1 := 13) at_59_12 rfl rfl ?_
  obtain ⟨z7, hs4⟩ := am_ift hs3
  clear hs3
  refine aw_call (F := fm_18 ((Value.ref h.length)) ((v3 * v5)) h1) (t := false) (na := 2) (kd := 2) (as := [(Value.ref h.length), (.int (v3 * v5))]) at_59_13 (am_k3p kb_18) mn_18 mk_18 rfl rfl (am_ok_v mi_18 (am_hl rfl (am_ccR rfl (am_ccI am_cats_0)) rfl) z7) (am_hc (am_ccR rfl am_cats_0) rfl) (fun hz9 => by cases hz9) (fun o1 hz9 => rm_18 ((Value.ref h.length)) ((v3 * v5)) h1 o1 rfl hz9) ?_
  rcases am_cV_s hs4 with ⟨h9, f10, hs5⟩ | hs5
  · clear hs4
    refine Or.inl ⟨_, _, f10, ?_⟩
    show am_W X _ 59 16 _ [(Value.ref h.length)] h9 _
    refine aw_vstore (lv1 := am_put1 _ 9 _) (pc1 := 18) at_59_16 rfl rfl rfl ?_
    refine aw_vload (pc1 := 20) at_59_18 am_lk0 rfl rfl ?_
    refine aw_vload_n (pc1 := 21) at_59_20 (am_lk1 l1 rfl rfl) i1 rfl ?_
    obtain ⟨z11, hs6⟩ := am_ift hs5
    clear hs5
    refine aw_call (F := fm_60 ((Value.ref h.length)) x1 h9) (t := true) (na := 2) (kd := 1) (as := [(Value.ref h.length), x1]) at_59_21 (am_k3v kb_60) mn_60 mk_60 rfl rfl (am_ok_v mi_60 (am_hl rfl (am_ccR rfl (am_ccR i1 am_cats_0)) rfl) z11) (am_hc am_cats_0 rfl) (fun _ => ⟨rfl, hh_59⟩) (fun o1 hz9 => rm_60 ((Value.ref h.length)) x1 h9 o1 rfl i1 hz9) ?_
    rcases am_cV_s hs6 with ⟨h13, f14, hs7⟩ | hs7
    · clear hs6
      refine Or.inl ⟨_, _, f14, ?_⟩
      show am_W X _ 59 24 _ [] h13 _
      refine aw_vload (pc1 := 26) at_59_24 am_lk0 rfl rfl ?_
      refine aw_iload_n (pc1 := 27) at_59_26 (am_lk1 l2 rfl rfl) rfl ?_
      obtain ⟨h15, e16, hs8⟩ := am_bind hs7
      clear hs7
      refine aw_pP (pc1 := 30) at_59_27 e16 rfl ?_
      refine aw_vload (pc1 := 32) at_59_30 am_lk0 rfl rfl ?_
      refine aw_iload_n (pc1 := 33) at_59_32 (am_lk1 l3 rfl rfl) rfl ?_
      obtain ⟨h17, e18, hs9⟩ := am_bind hs8
      clear hs8
      refine aw_pP (pc1 := 36) at_59_33 e18 rfl ?_
      refine aw_vload (pc1 := 38) at_59_36 am_lk0 rfl rfl ?_
      refine aw_iload (pc1 := 40) at_59_38 (am_lk1 l4 rfl rfl) rfl ?_
      obtain ⟨h19, e20, hs10⟩ := am_bind hs9
      clear hs9
      refine aw_pP (pc1 := 43) at_59_40 e20 rfl ?_
      refine aw_vload (pc1 := 45) at_59_43 am_lk0 rfl rfl ?_
      refine aw_iload (pc1 := 47) at_59_45 (am_lk1 l5 rfl rfl) rfl ?_
      obtain ⟨h21, e22, hs11⟩ := am_bind hs10
      clear hs10
      refine aw_pP (pc1 := 50) at_59_47 e22 rfl ?_
      refine aw_vload (pc1 := 52) at_59_50 am_lk0 rfl rfl ?_
      refine aw_iload (pc1 := 54) at_59_52 (am_lk1 l6 rfl rfl) rfl ?_
      obtain ⟨h23, e24, hs12⟩ := am_bind hs11
      clear hs11
      refine aw_pP (pc1 := 57) at_59_54 e24 rfl ?_
      refine aw_vload (pc1 := 59) at_59_57 am_lk0 rfl rfl ?_
      refine aw_lload (pc1 := 61) at_59_59 (am_lk1 l7 rfl rfl) rfl ?_
      obtain ⟨h25, e26, hs13⟩ := am_bind hs12
      clear hs12
      refine aw_pP (pc1 := 64) at_59_61 e26 rfl ?_
      refine aw_vload_n (pc1 := 65) at_59_64 (am_lk1 l0 rfl rfl) i0 rfl ?_
      obtain ⟨v27, e28, hs14⟩ := am_bind hs13
      clear hs13
      refine aw_pG (pc1 := 68) at_59_65 (am_vI_s e28) rfl ?_
      refine aw_istore (lv1 := am_put1 _ 10 _) (pc1 := 70) at_59_68 rfl rfl ?_
      refine aw_iload (pc1 := 72) at_59_70 am_lk0 rfl ?_
      refine aw_vload_n (pc1 := 73) at_59_72 (am_lk1 (am_lk1 l0 rfl rfl) rfl rfl) i0 rfl ?_
      obtain ⟨v29, e30, hs15⟩ := am_bind hs14
      clear hs14
      refine aw_pG (pc1 := 76) at_59_73 (am_vR_s e30).1 rfl ?_
      obtain ⟨v31, e32, hs16⟩ := am_bind hs15
      clear hs15
      refine aw_pLen (pc1 := 77) at_59_76 e32 rfl ?_
      by_cases c33 : v31 ≤ v27
      · rw [if_pos c33] at hs16
        refine aw_icge_t at_59_77 c33 ?_
        exact rg_59_99 v27 h25 o am_lk0  hs16
      · rw [if_neg c33] at hs16
        refine aw_icge_f (pc1 := 80) at_59_77 c33 rfl ?_
        refine aw_vload_n (pc1 := 81) at_59_80 (am_lk1 (am_lk1 l0 rfl rfl) rfl rfl) i0 rfl ?_
        obtain ⟨v34, e35, hs17⟩ := am_bind hs16
        clear hs16
        refine aw_pG (pc1 := 84) at_59_81 (am_vR_s e35).1 rfl ?_
        refine aw_iload (pc1 := 86) at_59_84 am_lk0 rfl ?_
        refine aw_vload (pc1 := 88) at_59_86 (am_lk1 am_lk0 rfl (by rw [am_isRc rfl]; rfl)) rfl rfl ?_
        obtain ⟨h36, e37, hs18⟩ := am_bind hs17
        clear hs17
        refine aw_pSA (pc1 := 89) at_59_88 e37 rfl ?_
        refine aw_vload_n (pc1 := 90) at_59_89 (am_lk1 (am_lk1 l0 rfl rfl) rfl rfl) i0 rfl ?_
        refine aw_vdup (pc1 := 91) at_59_90 i0 rfl ?_
        obtain ⟨v38, e39, hs19⟩ := am_bind hs18
        clear hs18
        refine aw_pG (pc1 := 94) at_59_91 (am_vI_s e39) rfl ?_
        refine aw_iconst (v := 1) (pc1 := 95) at_59_94 (by decide) rfl ?_
        refine aw_iadd (v := (v38 + 1)) (pc1 := 96) at_59_95 rfl rfl ?_
        obtain ⟨h40, e41, hs20⟩ := am_bind hs19
        clear hs19
        refine aw_pP (pc1 := 99) at_59_96 e41 rfl ?_
        exact rg_59_99 v27 h40 o am_lk0  hs20
    · clear hs6
      exact Or.inr hs7
  · clear hs4
    exact Or.inr hs5
def fm_59 (y0 : Value) (y1 : Value) (y2 : Int32) (y3 : Int32) (y4 : Int32) (y5 : Int32) (y6 : Int32) (y7 : Int64) (h : am_H) : Option am_O := fg_59_0 y0 y1 y2 y3 y4 y5 y6 y7 h
theorem rm_59 {X : am_X} {d : Nat} (y0 : Value) (y1 : Value) (y2 : Int32) (y3 : Int32) (y4 : Int32) (y5 : Int32) (y6 : Int32) (y7 : Int64) (h : am_H) (o : am_O) (i0 : am_isR y0 = true) (i1 : am_isR y1 = true) (hs : fm_59 y0 y1 y2 y3 y4 y5 y6 y7 h = some o) : am_W X (d + 2) 59 0 (am_args 0 [y0, y1, .int y2, .int y3, .int y4, .int y5, .int y6, .long y7]) [] h (fun q => q = o) := by
  rw [am_args_R i0, am_args_R i1, am_args_I, am_args_I, am_args_I, am_args_I, am_args_I, am_args_L]
  exact rg_59_0 y0 y1 y2 y3 y4 y5 y6 y7 h o rfl rfl rfl rfl rfl rfl rfl rfl i0 i1 hs
def fg_31_61 (N : Nat) (s0 : Int32) (h : am_H) : Option am_O := some (.inl (some (.int s0), h))
theorem rg_31_61 {X : am_X} {d : Nat} {N : Nat} {lv : am_LV} (s0 : Int32) (h : am_H) (o : am_O) (hs : fg_31_61 N s0 h = some o) : am_W X (d + 162) 31 61 lv [(.int s0)] h (fun q => q = o) := by
  unfold fg_31_61 at hs
  cases hs
  exact aw_iret at_31_61 (by rw [rt_31]; rfl) rfl
def fg_31_9 (N : Nat) (h : am_H) : Option am_O := some (.inr (0, h ++ [am_dummy]))
theorem rg_31_9 {X : am_X} {d : Nat} {N : Nat} {lv : am_LV} (h : am_H) (o : am_O) (hs : fg_31_9 N h = some o) : am_W X (d + 162) 31 9 lv [] h (fun q => q = o) := by
  unfold fg_31_9 at hs
  cases hs
  exact aw_throw at_31_9 rfl th_31_9 (am_hc am_cats_0 rfl) rfl
def fg_31_0 (N : Nat) (x0 : Value) (x1 : Int32) (h : am_H) : Option am_O := (if x1 < 0 then (fg_31_9 N h) else (if x1 ≤ 3 then (if am_pOk 11 x0 h then am_cV true (fm_32 x0 1 h) (fun h5 => ((am_vR (am_pG 2818 x0 h5)).bind fun v7 => ((am_vR (am_pG 2831 x0 h5)).bind fun v9 => (if am_pOk 9 v7 h5 then am_cI true (fm_33 N v7 x1 v9 h5) (fun v12 h13 => (if v12 < 0 then ((am_vR (am_pG 2831 x0 h13)).bind fun v16 => (if am_pOk 11 x0 h13 then am_cI true (fm_59 x0 v16 0 ((-1)) ((-1)) ((-1)) ((-1)) 0 h13) (fun v19 h20 => (fg_31_61 N v19 h20)) else none)) else (fg_31_61 N (((-1) - v12)) h13))) else none)))) else none) else (fg_31_9 N h)))
theorem rg_31_0 {X : am_X} {d : Nat} {N : Nat} {lv : am_LV} (x0 : Value) (x1 : Int32) (h : am_H) (o : am_O) (l0 : lv.lookup 0 = some x0) (l1 : lv.lookup 1 = some (.int x1)) (i0 : am_isR x0 = true) (hs : fg_31_0 N x0 x1 h = some o) : am_W X (d + 162) 31 0 lv [] h (fun q => q = o) := by
  unfold fg_31_0 at hs
  refine aw_iload_n (pc1 := 1) at_31_0 l1 rfl ?_
  by_cases c1 : x1 < 0
  · rw [if_pos c1] at hs
    refine aw_iflt_t at_31_1 c1 ?_
    exact rg_31_9 h o   hs
  · rw [if_neg c1] at hs
    refine aw_iflt_f (pc1 := 4) at_31_1 c1 rfl ?_
    refine aw_iload_n (pc1 := 5) at_31_4 l1 rfl ?_
    refine aw_iconst (v := 3) (pc1 := 6) at_31_5 (by decide) rfl ?_
    by_cases c2 : x1 ≤ 3
    · rw [if_pos c2] at hs
      refine aw_icle_t at_31_6 c2 ?_
      refine aw_vload_n (pc1 := 20) at_31_19 l0 i0 rfl ?_
      refine aw_iconst (v := 1) (pc1 := 21) at_31_20 (by decide) rfl ?_
      obtain ⟨z3, hs1⟩ := am_ift hs
      clear hs
      refine aw_call (F := fm_32 x0 1 h) (t := true) (na := 2) (kd := 1) (as := [x0, (.int 1)]) at_31_21 (am_k3v kb_32) mn_32 mk_32 rfl rfl (am_ok_v mi_32 (am_hl rfl (am_ccR i0 (am_ccI am_cats_0)) rfl) z3) (am_hc am_cats_0 rfl) (fun _ => ⟨rfl, hh_31⟩) (fun o1 hz9 => rm_32 x0 1 h o1 i0 hz9) ?_
      rcases am_cV_s hs1 with ⟨h5, f6, hs2⟩ | hs2
      · clear hs1
        refine Or.inl ⟨_, _, f6, ?_⟩
        show am_W X _ 31 24 _ [] h5 _
        refine aw_vload_n (pc1 := 25) at_31_24 l0 i0 rfl ?_
        obtain ⟨v7, e8, hs3⟩ := am_bind hs2
        clear hs2
        refine aw_pG (pc1 := 28) at_31_25 (am_vR_s e8).1 rfl ?_
        refine aw_iload_n (pc1 := 29) at_31_28 l1 rfl ?_
        refine aw_vload_n (pc1 := 30) at_31_29 l0 i0 rfl ?_
        obtain ⟨v9, e10, hs4⟩ := am_bind hs3
        clear hs3
        refine aw_pG (pc1 := 33) at_31_30 (am_vR_s e10).1 rfl ?_
        obtain ⟨z11, hs5⟩ := am_ift hs4
        clear hs4
        refine aw_call (F := fm_33 N v7 x1 v9 h5) (t := true) (na := 3) (kd := 1) (as := [v7, (.int x1), v9]) at_31_33 (am_k3v kb_33) mn_33 mk_33 rfl rfl (am_ok_v mi_33 (am_hl rfl (am_ccR (am_vR_s e8).2 (am_ccI (am_ccR (am_vR_s e10).2 am_cats_0))) rfl) z11) (am_hc am_cats_0 rfl) (fun _ => ⟨rfl, hh_31⟩) (fun o1 hz9 => rm_33 v7 x1 v9 h5 o1 (am_vR_s e8).2 (am_vR_s e10).2 hz9) ?_
        rcases am_cI_s hs5 with ⟨v12, h13, f14, hs6⟩ | hs6
        · clear hs5
          refine Or.inl ⟨_, _, f14, ?_⟩
          show am_W X _ 31 36 _ [(.int v12)] h13 _
          refine aw_istore_n (lv1 := am_put1 _ 2 _) (pc1 := 37) at_31_36 rfl rfl ?_
          refine aw_iload_n (pc1 := 38) at_31_37 am_lk0 rfl ?_
          by_cases c15 : v12 < 0
          · rw [if_pos c15] at hs6
            refine aw_iflt_t at_31_38 c15 ?_
            refine aw_vload_n (pc1 := 48) at_31_47 (am_lk1 l0 rfl rfl) i0 rfl ?_
            refine aw_vload_n (pc1 := 49) at_31_48 (am_lk1 l0 rfl rfl) i0 rfl ?_
            obtain ⟨v16, e17, hs7⟩ := am_bind hs6
            clear hs6
            refine aw_pG (pc1 := 52) at_31_49 (am_vR_s e17).1 rfl ?_
            refine aw_iconst (v := 0) (pc1 := 53) at_31_52 (by decide) rfl ?_
            refine aw_iconst (v := (-1)) (pc1 := 54) at_31_53 (by decide) rfl ?_
            refine aw_iconst (v := (-1)) (pc1 := 55) at_31_54 (by decide) rfl ?_
            refine aw_iconst (v := (-1)) (pc1 := 56) at_31_55 (by decide) rfl ?_
            refine aw_iconst (v := (-1)) (pc1 := 57) at_31_56 (by decide) rfl ?_
            refine aw_lconst (v := 0) (pc1 := 58) at_31_57 (by decide) rfl ?_
            obtain ⟨z18, hs8⟩ := am_ift hs7
            clear hs7
            refine aw_call (F := fm_59 x0 v16 0 ((-1)) ((-1)) ((-1)) ((-1)) 0 h13) (t := true) (na := 8) (kd := 1) (as := [x0, v16, (.int 0), (.int (-1)), (.int (-1)), (.int (-1)), (.int (-1)), (.long 0)]) at_31_58 (am_k3v kb_59) mn_59 mk_59 rfl rfl (am_ok_v mi_59 (am_hl rfl (am_ccR i0 (am_ccR (am_vR_s e17).2 (am_ccI (am_ccI (am_ccI (am_ccI (am_ccI (am_ccL am_cats_0)))))))) rfl) z18) (am_hc am_cats_0 rfl) (fun _ => ⟨rfl, hh_31⟩) (fun o1 hz9 => rm_59 x0 v16 0 ((-1)) ((-1)) ((-1)) ((-1)) 0 h13 o1 i0 (am_vR_s e17).2 hz9) ?_
            rcases am_cI_s hs8 with ⟨v19, h20, f21, hs9⟩ | hs9
            · clear hs8
              refine Or.inl ⟨_, _, f21, ?_⟩
              show am_W X _ 31 61 _ [(.int v19)] h20 _
              exact rg_31_61 v19 h20 o   hs9
            · clear hs8
              exact Or.inr hs9
          · rw [if_neg c15] at hs6
            refine aw_iflt_f (pc1 := 41) at_31_38 c15 rfl ?_
            refine aw_iconst (v := (-1)) (pc1 := 42) at_31_41 (by decide) rfl ?_
            refine aw_iload_n (pc1 := 43) at_31_42 am_lk0 rfl ?_
            refine aw_isub (v := ((-1) - v12)) (pc1 := 44) at_31_43 rfl rfl ?_
            refine aw_goto at_31_44 ?_
            exact rg_31_61 (((-1) - v12)) h13 o   hs6
        · clear hs5
          exact Or.inr hs6
      · clear hs1
        exact Or.inr hs2
    · rw [if_neg c2] at hs
      refine aw_icle_f (pc1 := 9) at_31_6 c2 rfl ?_
      exact rg_31_9 h o   hs
def fm_31 (N : Nat) (y0 : Value) (y1 : Int32) (h : am_H) : Option am_O := fg_31_0 N y0 y1 h
theorem rm_31 {X : am_X} {d : Nat} {N : Nat} (y0 : Value) (y1 : Int32) (h : am_H) (o : am_O) (i0 : am_isR y0 = true) (hs : fm_31 N y0 y1 h = some o) : am_W X (d + 162) 31 0 (am_args 0 [y0, .int y1]) [] h (fun q => q = o) := by
  rw [am_args_R i0, am_args_I]
  exact rg_31_0 y0 y1 h o rfl rfl i0 hs
def fg_30_16 (N : Nat) (h : am_H) : Option am_O := some (.inl (some (.int 2), h))
theorem rg_30_16 {X : am_X} {d : Nat} {N : Nat} {lv : am_LV} (h : am_H) (o : am_O) (hs : fg_30_16 N h = some o) : am_W X (d + 163) 30 16 lv [] h (fun q => q = o) := by
  unfold fg_30_16 at hs
  refine aw_iconst (v := 2) (pc1 := 17) at_30_16 (by decide) rfl ?_
  cases hs
  exact aw_iret at_30_17 (by rw [rt_30]; rfl) rfl
def fg_30_13 (N : Nat) (h : am_H) : Option am_O := some (.inl (some (.int 1), h))
theorem rg_30_13 {X : am_X} {d : Nat} {N : Nat} {lv : am_LV} (h : am_H) (o : am_O) (hs : fg_30_13 N h = some o) : am_W X (d + 163) 30 13 lv [] h (fun q => q = o) := by
  unfold fg_30_13 at hs
  refine aw_iconst (v := 1) (pc1 := 14) at_30_13 (by decide) rfl ?_
  cases hs
  exact aw_iret at_30_14 (by rw [rt_30]; rfl) rfl
def fg_30_0 (N : Nat) (x0 : Value) (x1 : Int32) (x2 : Value) (h : am_H) : Option am_O := (if am_pOk 11 x0 h then (match fm_31 N x0 x1 h with | some (.inl (some (.int v2), h3)) => ((am_pSL x2 0 (Int32.toInt64 v2) h3).bind fun h5 => some (.inl (some (.int 0), h5))) | some (.inr (0, h7)) => (fg_30_13 N h7) | some (.inr (1, h9)) => (fg_30_16 N h9) | _ => none) else none)
theorem rg_30_0 {X : am_X} {d : Nat} {N : Nat} {lv : am_LV} (x0 : Value) (x1 : Int32) (x2 : Value) (h : am_H) (o : am_O) (l0 : lv.lookup 0 = some x0) (l1 : lv.lookup 1 = some (.int x1)) (l2 : lv.lookup 2 = some x2) (i0 : am_isR x0 = true) (i2 : am_isR x2 = true) (hs : fg_30_0 N x0 x1 x2 h = some o) : am_W X (d + 163) 30 0 lv [] h (fun q => q = o) := by
  unfold fg_30_0 at hs
  refine aw_vload_n (pc1 := 1) at_30_0 l2 i2 rfl ?_
  refine aw_iconst (v := 0) (pc1 := 2) at_30_1 (by decide) rfl ?_
  refine aw_vload_n (pc1 := 3) at_30_2 l0 i0 rfl ?_
  refine aw_iload_n (pc1 := 4) at_30_3 l1 rfl ?_
  obtain ⟨z1, hs1⟩ := am_ift hs
  clear hs
  refine aw_callH (F := fm_31 N x0 x1 h) (na := 2) (kd := 1) (as := [x0, (.int x1)]) at_30_4 (am_k3v kb_31) mn_31 mk_31 rfl rfl (am_ok_v mi_31 (am_hl rfl (am_ccR i0 (am_ccI am_cats_0)) rfl) z1) (am_hc (am_ccI (am_ccR i2 am_cats_0)) rfl) (fun o1 hz9 => rm_31 x0 x1 h o1 i0 hz9) ?_
  split at hs1
  · rename_i v2 h3 f4
    refine Or.inl ⟨_, _, f4, ?_⟩
    show am_W X _ 30 7 _ [(.int v2), (.int 0), x2] h3 _
    refine aw_i2l (v := (Int32.toInt64 v2)) (pc1 := 8) at_30_7 rfl rfl ?_
    obtain ⟨h5, e6, hs2⟩ := am_bind hs1
    clear hs1
    refine aw_pSL (pc1 := 9) at_30_8 e6 rfl ?_
    refine aw_goto at_30_9 ?_
    refine aw_iconst (v := 0) (pc1 := 19) at_30_18 (by decide) rfl ?_
    cases hs2
    exact aw_iret at_30_19 (by rw [rt_30]; rfl) rfl
  · rename_i h7 f8
    refine Or.inr ⟨_, _, 13, 3, f8, rfl, hn_30, hd_30_4_0, ?_⟩
    exact rg_30_13 h7 o   hs1
  · rename_i h9 f10
    refine Or.inr ⟨_, _, 16, 3, f10, rfl, hn_30, hd_30_4_1, ?_⟩
    exact rg_30_16 h9 o   hs1
  · cases hs1
def fm_30 (N : Nat) (y0 : Value) (y1 : Int32) (y2 : Value) (h : am_H) : Option am_O := fg_30_0 N y0 y1 y2 h
theorem rm_30 {X : am_X} {d : Nat} {N : Nat} (y0 : Value) (y1 : Int32) (y2 : Value) (h : am_H) (o : am_O) (i0 : am_isR y0 = true) (i2 : am_isR y2 = true) (hs : fm_30 N y0 y1 y2 h = some o) : am_W X (d + 163) 30 0 (am_args 0 [y0, .int y1, y2]) [] h (fun q => q = o) := by
  rw [am_args_R i0, am_args_I, am_args_R i2]
  exact rg_30_0 y0 y1 y2 h o rfl rfl rfl i0 i2 hs
def fg_327_18 (s0 : Int32) (h : am_H) : Option am_O := (if am_rfit (some FieldType.boolean) s0 then some (.inl (some (.int s0), h)) else none)
theorem rg_327_18 {X : am_X} {d : Nat} {lv : am_LV} (s0 : Int32) (h : am_H) (o : am_O) (hs : fg_327_18 s0 h = some o) : am_W X (d) 327 18 lv [(.int s0)] h (fun q => q = o) := by
  unfold fg_327_18 at hs
  obtain ⟨z1, hs1⟩ := am_ift hs
  clear hs
  cases hs1
  exact aw_iret at_327_18 (by rw [rt_327]; exact z1) rfl
def fg_327_17 (h : am_H) : Option am_O := (fg_327_18 0 h)
theorem rg_327_17 {X : am_X} {d : Nat} {lv : am_LV} (h : am_H) (o : am_O) (hs : fg_327_17 h = some o) : am_W X (d) 327 17 lv [] h (fun q => q = o) := by
  unfold fg_327_17 at hs
  refine aw_iconst (v := 0) (pc1 := 18) at_327_17 (by decide) rfl ?_
  exact rg_327_18 0 h o   hs
def fg_327_0 (x0 : Int64) (x2 : Int64) (x4 : Int64) (h : am_H) : Option am_O := (if (lg_cmp x0 x2) < 0 then (fg_327_17 h) else (if 0 < (lg_cmp x0 x4) then (fg_327_17 h) else (fg_327_18 1 h)))
theorem rg_327_0 {X : am_X} {d : Nat} {lv : am_LV} (x0 : Int64) (x2 : Int64) (x4 : Int64) (h : am_H) (o : am_O) (l0 : lv.lookup 0 = some (.long x0)) (l2 : lv.lookup 2 = some (.long x2)) (l4 : lv.lookup 4 = some (.long x4)) (hs : fg_327_0 x0 x2 x4 h = some o) : am_W X (d) 327 0 lv [] h (fun q => q = o) := by
  unfold fg_327_0 at hs
  refine aw_lload_n (pc1 := 1) at_327_0 l0 rfl ?_
  refine aw_lload_n (pc1 := 2) at_327_1 l2 rfl ?_
  refine aw_lcmp (v := (lg_cmp x0 x2)) (pc1 := 3) at_327_2 rfl rfl ?_
  by_cases c1 : (lg_cmp x0 x2) < 0
  · rw [if_pos c1] at hs
    refine aw_iflt_t at_327_3 c1 ?_
    exact rg_327_17 h o   hs
  · rw [if_neg c1] at hs
    refine aw_iflt_f (pc1 := 6) at_327_3 c1 rfl ?_
    refine aw_lload_n (pc1 := 7) at_327_6 l0 rfl ?_
    refine aw_lload (pc1 := 9) at_327_7 l4 rfl ?_
    refine aw_lcmp (v := (lg_cmp x0 x4)) (pc1 := 10) at_327_9 rfl rfl ?_
    by_cases c2 : 0 < (lg_cmp x0 x4)
    · rw [if_pos c2] at hs
      refine aw_ifgt_t at_327_10 c2 ?_
      exact rg_327_17 h o   hs
    · rw [if_neg c2] at hs
      refine aw_ifgt_f (pc1 := 13) at_327_10 c2 rfl ?_
      refine aw_iconst (v := 1) (pc1 := 14) at_327_13 (by decide) rfl ?_
      refine aw_goto at_327_14 ?_
      exact rg_327_18 1 h o   hs
def fm_327 (y0 : Int64) (y1 : Int64) (y2 : Int64) (h : am_H) : Option am_O := fg_327_0 y0 y1 y2 h
theorem rm_327 {X : am_X} {d : Nat} (y0 : Int64) (y1 : Int64) (y2 : Int64) (h : am_H) (o : am_O) (hs : fm_327 y0 y1 y2 h = some o) : am_W X (d) 327 0 (am_args 0 [.long y0, .long y1, .long y2]) [] h (fun q => q = o) := by
  rw [am_args_L, am_args_L, am_args_L]
  exact rg_327_0 y0 y1 y2 h o rfl rfl rfl  hs
def fg_330_33 (s0 : Int32) (h : am_H) : Option am_O := (if am_rfit (some FieldType.boolean) s0 then some (.inl (some (.int s0), h)) else none)
theorem rg_330_33 {X : am_X} {d : Nat} {lv : am_LV} (s0 : Int32) (h : am_H) (o : am_O) (hs : fg_330_33 s0 h = some o) : am_W X (d) 330 33 lv [(.int s0)] h (fun q => q = o) := by
  unfold fg_330_33 at hs
  obtain ⟨z1, hs1⟩ := am_ift hs
  clear hs
  cases hs1
  exact aw_iret at_330_33 (by rw [rt_330]; exact z1) rfl
def fg_330_32 (h : am_H) : Option am_O := (fg_330_33 0 h)
theorem rg_330_32 {X : am_X} {d : Nat} {lv : am_LV} (h : am_H) (o : am_O) (hs : fg_330_32 h = some o) : am_W X (d) 330 32 lv [] h (fun q => q = o) := by
  unfold fg_330_32 at hs
  refine aw_iconst (v := 0) (pc1 := 33) at_330_32 (by decide) rfl ?_
  exact rg_330_33 0 h o   hs
def fg_330_28 (h : am_H) : Option am_O := (fg_330_33 1 h)
theorem rg_330_28 {X : am_X} {d : Nat} {lv : am_LV} (h : am_H) (o : am_O) (hs : fg_330_28 h = some o) : am_W X (d) 330 28 lv [] h (fun q => q = o) := by
  unfold fg_330_28 at hs
  refine aw_iconst (v := 1) (pc1 := 29) at_330_28 (by decide) rfl ?_
  refine aw_goto at_330_29 ?_
  exact rg_330_33 1 h o   hs
def fg_330_0 (x0 : Int32) (x1 : Int32) (h : am_H) : Option am_O := (if x0 = 9 then (fg_330_28 h) else (if x0 = 17 then (fg_330_28 h) else (if x0 = 18 then (fg_330_28 h) else (if ¬ x0 = 20 then (fg_330_32 h) else (if ¬ x1 = 0 then (fg_330_32 h) else (fg_330_28 h))))))
theorem rg_330_0 {X : am_X} {d : Nat} {lv : am_LV} (x0 : Int32) (x1 : Int32) (h : am_H) (o : am_O) (l0 : lv.lookup 0 = some (.int x0)) (l1 : lv.lookup 1 = some (.int x1)) (hs : fg_330_0 x0 x1 h = some o) : am_W X (d) 330 0 lv [] h (fun q => q = o) := by
  unfold fg_330_0 at hs
  refine aw_iload_n (pc1 := 1) at_330_0 l0 rfl ?_
  refine aw_bipush (v := 9) (pc1 := 3) at_330_1 (by decide) rfl ?_
  by_cases c1 : x0 = 9
  · rw [if_pos c1] at hs
    refine aw_iceq_t at_330_3 c1 ?_
    exact rg_330_28 h o   hs
  · rw [if_neg c1] at hs
    refine aw_iceq_f (pc1 := 6) at_330_3 c1 rfl ?_
    refine aw_iload_n (pc1 := 7) at_330_6 l0 rfl ?_
    refine aw_bipush (v := 17) (pc1 := 9) at_330_7 (by decide) rfl ?_
    by_cases c2 : x0 = 17
    · rw [if_pos c2] at hs
      refine aw_iceq_t at_330_9 c2 ?_
      exact rg_330_28 h o   hs
    · rw [if_neg c2] at hs
      refine aw_iceq_f (pc1 := 12) at_330_9 c2 rfl ?_
      refine aw_iload_n (pc1 := 13) at_330_12 l0 rfl ?_
      refine aw_bipush (v := 18) (pc1 := 15) at_330_13 (by decide) rfl ?_
      by_cases c3 : x0 = 18
      · rw [if_pos c3] at hs
        refine aw_iceq_t at_330_15 c3 ?_
        exact rg_330_28 h o   hs
      · rw [if_neg c3] at hs
        refine aw_iceq_f (pc1 := 18) at_330_15 c3 rfl ?_
        refine aw_iload_n (pc1 := 19) at_330_18 l0 rfl ?_
        refine aw_bipush (v := 20) (pc1 := 21) at_330_19 (by decide) rfl ?_
        by_cases c4 : ¬ x0 = 20
        · rw [if_pos c4] at hs
          refine aw_icne_t at_330_21 c4 ?_
          exact rg_330_32 h o   hs
        · rw [if_neg c4] at hs
          refine aw_icne_f (pc1 := 24) at_330_21 c4 rfl ?_
          refine aw_iload_n (pc1 := 25) at_330_24 l1 rfl ?_
          by_cases c5 : ¬ x1 = 0
          · rw [if_pos c5] at hs
            refine aw_ifne_t at_330_25 c5 ?_
            exact rg_330_32 h o   hs
          · rw [if_neg c5] at hs
            refine aw_ifne_f (pc1 := 28) at_330_25 c5 rfl ?_
            exact rg_330_28 h o   hs
def fm_330 (y0 : Int32) (y1 : Int32) (h : am_H) : Option am_O := fg_330_0 y0 y1 h
theorem rm_330 {X : am_X} {d : Nat} (y0 : Int32) (y1 : Int32) (h : am_H) (o : am_O) (hs : fm_330 y0 y1 h = some o) : am_W X (d) 330 0 (am_args 0 [.int y0, .int y1]) [] h (fun q => q = o) := by
  rw [am_args_I, am_args_I]
  exact rg_330_0 y0 y1 h o rfl rfl  hs
def fg_334_23 (s0 : Int32) (h : am_H) : Option am_O := (if am_rfit (some FieldType.boolean) s0 then some (.inl (some (.int s0), h)) else none)
theorem rg_334_23 {X : am_X} {d : Nat} {lv : am_LV} (s0 : Int32) (h : am_H) (o : am_O) (hs : fg_334_23 s0 h = some o) : am_W X (d) 334 23 lv [(.int s0)] h (fun q => q = o) := by
  unfold fg_334_23 at hs
  obtain ⟨z1, hs1⟩ := am_ift hs
  clear hs
  cases hs1
  exact aw_iret at_334_23 (by rw [rt_334]; exact z1) rfl
def fg_334_22 (h : am_H) : Option am_O := (fg_334_23 0 h)
theorem rg_334_22 {X : am_X} {d : Nat} {lv : am_LV} (h : am_H) (o : am_O) (hs : fg_334_22 h = some o) : am_W X (d) 334 22 lv [] h (fun q => q = o) := by
  unfold fg_334_22 at hs
  refine aw_iconst (v := 0) (pc1 := 23) at_334_22 (by decide) rfl ?_
  exact rg_334_23 0 h o   hs
def fg_334_18 (h : am_H) : Option am_O := (fg_334_23 1 h)
theorem rg_334_18 {X : am_X} {d : Nat} {lv : am_LV} (h : am_H) (o : am_O) (hs : fg_334_18 h = some o) : am_W X (d) 334 18 lv [] h (fun q => q = o) := by
  unfold fg_334_18 at hs
  refine aw_iconst (v := 1) (pc1 := 19) at_334_18 (by decide) rfl ?_
  refine aw_goto at_334_19 ?_
  exact rg_334_23 1 h o   hs
def fg_334_0 (x0 : Int32) (h : am_H) : Option am_O := (if x0 = 9 then (fg_334_18 h) else (if x0 < 15 then (fg_334_22 h) else (if 18 < x0 then (fg_334_22 h) else (fg_334_18 h))))
theorem rg_334_0 {X : am_X} {d : Nat} {lv : am_LV} (x0 : Int32) (h : am_H) (o : am_O) (l0 : lv.lookup 0 = some (.int x0)) (hs : fg_334_0 x0 h = some o) : am_W X (d) 334 0 lv [] h (fun q => q = o) := by
  unfold fg_334_0 at hs
  refine aw_iload_n (pc1 := 1) at_334_0 l0 rfl ?_
  refine aw_bipush (v := 9) (pc1 := 3) at_334_1 (by decide) rfl ?_
  by_cases c1 : x0 = 9
  · rw [if_pos c1] at hs
    refine aw_iceq_t at_334_3 c1 ?_
    exact rg_334_18 h o   hs
  · rw [if_neg c1] at hs
    refine aw_iceq_f (pc1 := 6) at_334_3 c1 rfl ?_
    refine aw_iload_n (pc1 := 7) at_334_6 l0 rfl ?_
    refine aw_bipush (v := 15) (pc1 := 9) at_334_7 (by decide) rfl ?_
    by_cases c2 : x0 < 15
    · rw [if_pos c2] at hs
      refine aw_iclt_t at_334_9 c2 ?_
      exact rg_334_22 h o   hs
    · rw [if_neg c2] at hs
      refine aw_iclt_f (pc1 := 12) at_334_9 c2 rfl ?_
      refine aw_iload_n (pc1 := 13) at_334_12 l0 rfl ?_
      refine aw_bipush (v := 18) (pc1 := 15) at_334_13 (by decide) rfl ?_
      by_cases c3 : 18 < x0
      · rw [if_pos c3] at hs
        refine aw_icgt_t at_334_15 c3 ?_
        exact rg_334_22 h o   hs
      · rw [if_neg c3] at hs
        refine aw_icgt_f (pc1 := 18) at_334_15 c3 rfl ?_
        exact rg_334_18 h o   hs
def fm_334 (y0 : Int32) (h : am_H) : Option am_O := fg_334_0 y0 h
theorem rm_334 {X : am_X} {d : Nat} (y0 : Int32) (h : am_H) (o : am_O) (hs : fm_334 y0 h = some o) : am_W X (d) 334 0 (am_args 0 [.int y0]) [] h (fun q => q = o) := by
  rw [am_args_I]
  exact rg_334_0 y0 h o rfl  hs
def fg_335_0 (x0 : Value) (x1 : Int32) (x2 : Int32) (h : am_H) : Option am_O := ((am_vR (am_pG 3088 x0 h)).bind fun v1 => ((am_vI (am_pG 3086 x0 h)).bind fun v3 => ((am_pS 0 v1 v3 x1 h).bind fun h5 => ((am_vR (am_pG 3089 x0 h5)).bind fun v7 => ((am_vI (am_pG 3086 x0 h5)).bind fun v9 => ((am_pS 0 v7 v9 x2 h5).bind fun h11 => ((am_vI (am_pG 3086 x0 h11)).bind fun v13 => ((am_pP 3086 x0 (.int (v13 + 1)) h11).bind fun h15 => some (.inl (none, h15))))))))))
theorem rg_335_0 {X : am_X} {d : Nat} {lv : am_LV} (x0 : Value) (x1 : Int32) (x2 : Int32) (h : am_H) (o : am_O) (l0 : lv.lookup 0 = some x0) (l1 : lv.lookup 1 = some (.int x1)) (l2 : lv.lookup 2 = some (.int x2)) (i0 : am_isR x0 = true) (hs : fg_335_0 x0 x1 x2 h = some o) : am_W X (d) 335 0 lv [] h (fun q => q = o) := by
  unfold fg_335_0 at hs
  refine aw_vload_n (pc1 := 1) at_335_0 l0 i0 rfl ?_
  obtain ⟨v1, e2, hs1⟩ := am_bind hs
  clear hs
  refine aw_pG (pc1 := 4) at_335_1 (am_vR_s e2).1 rfl ?_
  refine aw_vload_n (pc1 := 5) at_335_4 l0 i0 rfl ?_
  obtain ⟨v3, e4, hs2⟩ := am_bind hs1
  clear hs1
  refine aw_pG (pc1 := 8) at_335_5 (am_vI_s e4) rfl ?_
  refine aw_iload_n (pc1 := 9) at_335_8 l1 rfl ?_
  obtain ⟨h5, e6, hs3⟩ := am_bind hs2
  clear hs2
  refine aw_pS (pc1 := 10) at_335_9 (Or.inl ⟨rfl, rfl⟩) e6 rfl ?_
  refine aw_vload_n (pc1 := 11) at_335_10 l0 i0 rfl ?_
  obtain ⟨v7, e8, hs4⟩ := am_bind hs3
  clear hs3
  refine aw_pG (pc1 := 14) at_335_11 (am_vR_s e8).1 rfl ?_
  refine aw_vload_n (pc1 := 15) at_335_14 l0 i0 rfl ?_
  obtain ⟨v9, e10, hs5⟩ := am_bind hs4
  clear hs4
  refine aw_pG (pc1 := 18) at_335_15 (am_vI_s e10) rfl ?_
  refine aw_iload_n (pc1 := 19) at_335_18 l2 rfl ?_
  obtain ⟨h11, e12, hs6⟩ := am_bind hs5
  clear hs5
  refine aw_pS (pc1 := 20) at_335_19 (Or.inl ⟨rfl, rfl⟩) e12 rfl ?_
  refine aw_vload_n (pc1 := 21) at_335_20 l0 i0 rfl ?_
  refine aw_vdup (pc1 := 22) at_335_21 i0 rfl ?_
  obtain ⟨v13, e14, hs7⟩ := am_bind hs6
  clear hs6
  refine aw_pG (pc1 := 25) at_335_22 (am_vI_s e14) rfl ?_
  refine aw_iconst (v := 1) (pc1 := 26) at_335_25 (by decide) rfl ?_
  refine aw_iadd (v := (v13 + 1)) (pc1 := 27) at_335_26 rfl rfl ?_
  obtain ⟨h15, e16, hs8⟩ := am_bind hs7
  clear hs7
  refine aw_pP (pc1 := 30) at_335_27 e16 rfl ?_
  cases hs8
  exact aw_vret at_335_30 rt_335 rfl
def fm_335 (y0 : Value) (y1 : Int32) (y2 : Int32) (h : am_H) : Option am_O := fg_335_0 y0 y1 y2 h
theorem rm_335 {X : am_X} {d : Nat} (y0 : Value) (y1 : Int32) (y2 : Int32) (h : am_H) (o : am_O) (i0 : am_isR y0 = true) (hs : fm_335 y0 y1 y2 h = some o) : am_W X (d) 335 0 (am_args 0 [y0, .int y1, .int y2]) [] h (fun q => q = o) := by
  rw [am_args_R i0, am_args_I, am_args_I]
  exact rg_335_0 y0 y1 y2 h o rfl rfl rfl i0 hs
def fg_343_31 (s0 : Int32) (h : am_H) : Option am_O := some (.inl (some (.int s0), h))
theorem rg_343_31 {X : am_X} {d : Nat} {lv : am_LV} (s0 : Int32) (h : am_H) (o : am_O) (hs : fg_343_31 s0 h = some o) : am_W X (d) 343 31 lv [(.int s0)] h (fun q => q = o) := by
  unfold fg_343_31 at hs
  cases hs
  exact aw_iret at_343_31 (by rw [rt_343]; rfl) rfl
def fg_343_0 (x0 : Int32) (h : am_H) : Option am_O := (if 7 ≤ x0 then (if 10 ≤ x0 then (if 20 ≤ x0 then (fg_343_31 3 h) else (fg_343_31 2 h)) else (fg_343_31 1 h)) else (fg_343_31 0 h))
theorem rg_343_0 {X : am_X} {d : Nat} {lv : am_LV} (x0 : Int32) (h : am_H) (o : am_O) (l0 : lv.lookup 0 = some (.int x0)) (hs : fg_343_0 x0 h = some o) : am_W X (d) 343 0 lv [] h (fun q => q = o) := by
  unfold fg_343_0 at hs
  refine aw_iload_n (pc1 := 1) at_343_0 l0 rfl ?_
  refine aw_bipush (v := 7) (pc1 := 3) at_343_1 (by decide) rfl ?_
  by_cases c1 : 7 ≤ x0
  · rw [if_pos c1] at hs
    refine aw_icge_t at_343_3 c1 ?_
    refine aw_iload_n (pc1 := 11) at_343_10 l0 rfl ?_
    refine aw_bipush (v := 10) (pc1 := 13) at_343_11 (by decide) rfl ?_
    by_cases c2 : 10 ≤ x0
    · rw [if_pos c2] at hs
      refine aw_icge_t at_343_13 c2 ?_
      refine aw_iload_n (pc1 := 21) at_343_20 l0 rfl ?_
      refine aw_bipush (v := 20) (pc1 := 23) at_343_21 (by decide) rfl ?_
      by_cases c3 : 20 ≤ x0
      · rw [if_pos c3] at hs
        refine aw_icge_t at_343_23 c3 ?_
        refine aw_iconst (v := 3) (pc1 := 31) at_343_30 (by decide) rfl ?_
        exact rg_343_31 3 h o   hs
      · rw [if_neg c3] at hs
        refine aw_icge_f (pc1 := 26) at_343_23 c3 rfl ?_
        refine aw_iconst (v := 2) (pc1 := 27) at_343_26 (by decide) rfl ?_
        refine aw_goto at_343_27 ?_
        exact rg_343_31 2 h o   hs
    · rw [if_neg c2] at hs
      refine aw_icge_f (pc1 := 16) at_343_13 c2 rfl ?_
      refine aw_iconst (v := 1) (pc1 := 17) at_343_16 (by decide) rfl ?_
      refine aw_goto at_343_17 ?_
      exact rg_343_31 1 h o   hs
  · rw [if_neg c1] at hs
    refine aw_icge_f (pc1 := 6) at_343_3 c1 rfl ?_
    refine aw_iconst (v := 0) (pc1 := 7) at_343_6 (by decide) rfl ?_
    refine aw_goto at_343_7 ?_
    exact rg_343_31 0 h o   hs
def fm_343 (y0 : Int32) (h : am_H) : Option am_O := fg_343_0 y0 h
theorem rm_343 {X : am_X} {d : Nat} (y0 : Int32) (h : am_H) (o : am_O) (hs : fm_343 y0 h = some o) : am_W X (d) 343 0 (am_args 0 [.int y0]) [] h (fun q => q = o) := by
  rw [am_args_I]
  exact rg_343_0 y0 h o rfl  hs
def fg_348_50 (s0 : Int32) (h : am_H) : Option am_O := some (.inl (some (.int s0), h))
theorem rg_348_50 {X : am_X} {d : Nat} {lv : am_LV} (s0 : Int32) (h : am_H) (o : am_O) (hs : fg_348_50 s0 h = some o) : am_W X (d) 348 50 lv [(.int s0)] h (fun q => q = o) := by
  unfold fg_348_50 at hs
  cases hs
  exact aw_iret at_348_50 (by rw [rt_348]; rfl) rfl
def fg_348_0 (x0 : Int32) (h : am_H) : Option am_O := (if 5 ≤ x0 then (if 7 ≤ x0 then (if 14 ≤ x0 then (if ¬ x0 = 15 then (if ¬ x0 = 17 then (fg_348_50 1 h) else (fg_348_50 0 h)) else (fg_348_50 2 h)) else (fg_348_50 2 h)) else (fg_348_50 1 h)) else (fg_348_50 0 h))
theorem rg_348_0 {X : am_X} {d : Nat} {lv : am_LV} (x0 : Int32) (h : am_H) (o : am_O) (l0 : lv.lookup 0 = some (.int x0)) (hs : fg_348_0 x0 h = some o) : am_W X (d) 348 0 lv [] h (fun q => q = o) := by
  unfold fg_348_0 at hs
  refine aw_iload_n (pc1 := 1) at_348_0 l0 rfl ?_
  refine aw_iconst (v := 5) (pc1 := 2) at_348_1 (by decide) rfl ?_
  by_cases c1 : 5 ≤ x0
  · rw [if_pos c1] at hs
    refine aw_icge_t at_348_2 c1 ?_
    refine aw_iload_n (pc1 := 10) at_348_9 l0 rfl ?_
    refine aw_bipush (v := 7) (pc1 := 12) at_348_10 (by decide) rfl ?_
    by_cases c2 : 7 ≤ x0
    · rw [if_pos c2] at hs
      refine aw_icge_t at_348_12 c2 ?_
      refine aw_iload_n (pc1 := 20) at_348_19 l0 rfl ?_
      refine aw_bipush (v := 14) (pc1 := 22) at_348_20 (by decide) rfl ?_
      by_cases c3 : 14 ≤ x0
      · rw [if_pos c3] at hs
        refine aw_icge_t at_348_22 c3 ?_
        refine aw_iload_n (pc1 := 30) at_348_29 l0 rfl ?_
        refine aw_bipush (v := 15) (pc1 := 32) at_348_30 (by decide) rfl ?_
        by_cases c4 : ¬ x0 = 15
        · rw [if_pos c4] at hs
          refine aw_icne_t at_348_32 c4 ?_
          refine aw_iload_n (pc1 := 40) at_348_39 l0 rfl ?_
          refine aw_bipush (v := 17) (pc1 := 42) at_348_40 (by decide) rfl ?_
          by_cases c5 : ¬ x0 = 17
          · rw [if_pos c5] at hs
            refine aw_icne_t at_348_42 c5 ?_
            refine aw_iconst (v := 1) (pc1 := 50) at_348_49 (by decide) rfl ?_
            exact rg_348_50 1 h o   hs
          · rw [if_neg c5] at hs
            refine aw_icne_f (pc1 := 45) at_348_42 c5 rfl ?_
            refine aw_iconst (v := 0) (pc1 := 46) at_348_45 (by decide) rfl ?_
            refine aw_goto at_348_46 ?_
            exact rg_348_50 0 h o   hs
        · rw [if_neg c4] at hs
          refine aw_icne_f (pc1 := 35) at_348_32 c4 rfl ?_
          refine aw_iconst (v := 2) (pc1 := 36) at_348_35 (by decide) rfl ?_
          refine aw_goto at_348_36 ?_
          exact rg_348_50 2 h o   hs
      · rw [if_neg c3] at hs
        refine aw_icge_f (pc1 := 25) at_348_22 c3 rfl ?_
        refine aw_iconst (v := 2) (pc1 := 26) at_348_25 (by decide) rfl ?_
        refine aw_goto at_348_26 ?_
        exact rg_348_50 2 h o   hs
    · rw [if_neg c2] at hs
      refine aw_icge_f (pc1 := 15) at_348_12 c2 rfl ?_
      refine aw_iconst (v := 1) (pc1 := 16) at_348_15 (by decide) rfl ?_
      refine aw_goto at_348_16 ?_
      exact rg_348_50 1 h o   hs
  · rw [if_neg c1] at hs
    refine aw_icge_f (pc1 := 5) at_348_2 c1 rfl ?_
    refine aw_iconst (v := 0) (pc1 := 6) at_348_5 (by decide) rfl ?_
    refine aw_goto at_348_6 ?_
    exact rg_348_50 0 h o   hs
def fm_348 (y0 : Int32) (h : am_H) : Option am_O := fg_348_0 y0 h
theorem rm_348 {X : am_X} {d : Nat} (y0 : Int32) (h : am_H) (o : am_O) (hs : fm_348 y0 h = some o) : am_W X (d) 348 0 (am_args 0 [.int y0]) [] h (fun q => q = o) := by
  rw [am_args_I]
  exact rg_348_0 y0 h o rfl  hs
def fg_349_21 (s0 : Int32) (h : am_H) : Option am_O := some (.inl (some (.int s0), h))
theorem rg_349_21 {X : am_X} {d : Nat} {lv : am_LV} (s0 : Int32) (h : am_H) (o : am_O) (hs : fg_349_21 s0 h = some o) : am_W X (d) 349 21 lv [(.int s0)] h (fun q => q = o) := by
  unfold fg_349_21 at hs
  cases hs
  exact aw_iret at_349_21 (by rw [rt_349]; rfl) rfl
def fg_349_0 (x0 : Int32) (h : am_H) : Option am_O := (if 14 ≤ x0 then (if 16 ≤ x0 then (fg_349_21 0 h) else (fg_349_21 2 h)) else (fg_349_21 1 h))
theorem rg_349_0 {X : am_X} {d : Nat} {lv : am_LV} (x0 : Int32) (h : am_H) (o : am_O) (l0 : lv.lookup 0 = some (.int x0)) (hs : fg_349_0 x0 h = some o) : am_W X (d) 349 0 lv [] h (fun q => q = o) := by
  unfold fg_349_0 at hs
  refine aw_iload_n (pc1 := 1) at_349_0 l0 rfl ?_
  refine aw_bipush (v := 14) (pc1 := 3) at_349_1 (by decide) rfl ?_
  by_cases c1 : 14 ≤ x0
  · rw [if_pos c1] at hs
    refine aw_icge_t at_349_3 c1 ?_
    refine aw_iload_n (pc1 := 11) at_349_10 l0 rfl ?_
    refine aw_bipush (v := 16) (pc1 := 13) at_349_11 (by decide) rfl ?_
    by_cases c2 : 16 ≤ x0
    · rw [if_pos c2] at hs
      refine aw_icge_t at_349_13 c2 ?_
      refine aw_iconst (v := 0) (pc1 := 21) at_349_20 (by decide) rfl ?_
      exact rg_349_21 0 h o   hs
    · rw [if_neg c2] at hs
      refine aw_icge_f (pc1 := 16) at_349_13 c2 rfl ?_
      refine aw_iconst (v := 2) (pc1 := 17) at_349_16 (by decide) rfl ?_
      refine aw_goto at_349_17 ?_
      exact rg_349_21 2 h o   hs
  · rw [if_neg c1] at hs
    refine aw_icge_f (pc1 := 6) at_349_3 c1 rfl ?_
    refine aw_iconst (v := 1) (pc1 := 7) at_349_6 (by decide) rfl ?_
    refine aw_goto at_349_7 ?_
    exact rg_349_21 1 h o   hs
def fm_349 (y0 : Int32) (h : am_H) : Option am_O := fg_349_0 y0 h
theorem rm_349 {X : am_X} {d : Nat} (y0 : Int32) (h : am_H) (o : am_O) (hs : fm_349 y0 h = some o) : am_W X (d) 349 0 (am_args 0 [.int y0]) [] h (fun q => q = o) := by
  rw [am_args_I]
  exact rg_349_0 y0 h o rfl  hs
def fg_350_55 (s0 : Int32) (h : am_H) : Option am_O := (if am_rfit (some FieldType.boolean) s0 then some (.inl (some (.int s0), h)) else none)
theorem rg_350_55 {X : am_X} {d : Nat} {lv : am_LV} (s0 : Int32) (h : am_H) (o : am_O) (hs : fg_350_55 s0 h = some o) : am_W X (d) 350 55 lv [(.int s0)] h (fun q => q = o) := by
  unfold fg_350_55 at hs
  obtain ⟨z1, hs1⟩ := am_ift hs
  clear hs
  cases hs1
  exact aw_iret at_350_55 (by rw [rt_350]; exact z1) rfl
def fg_350_40 (x0 : Value) (x1 : Int32) (x2 : Int32) (h : am_H) : Option am_O := ((am_vR (am_pG 3119 x0 h)).bind fun v1 => ((am_pA 0 v1 x1 h).bind fun v3 => (if ¬ v3 = x2 then (fg_350_55 0 h) else (fg_350_55 1 h))))
theorem rg_350_40 {X : am_X} {d : Nat} {lv : am_LV} (x0 : Value) (x1 : Int32) (x2 : Int32) (h : am_H) (o : am_O) (l0 : lv.lookup 0 = some x0) (l1 : lv.lookup 1 = some (.int x1)) (l2 : lv.lookup 2 = some (.int x2)) (i0 : am_isR x0 = true) (hs : fg_350_40 x0 x1 x2 h = some o) : am_W X (d) 350 40 lv [] h (fun q => q = o) := by
  unfold fg_350_40 at hs
  refine aw_vload_n (pc1 := 41) at_350_40 l0 i0 rfl ?_
  obtain ⟨v1, e2, hs1⟩ := am_bind hs
  clear hs
  refine aw_pG (pc1 := 44) at_350_41 (am_vR_s e2).1 rfl ?_
  refine aw_iload_n (pc1 := 45) at_350_44 l1 rfl ?_
  obtain ⟨v3, e4, hs2⟩ := am_bind hs1
  clear hs1
  refine aw_pA (pc1 := 46) at_350_45 (Or.inl ⟨rfl, rfl⟩) e4 rfl ?_
  refine aw_iload_n (pc1 := 47) at_350_46 l2 rfl ?_
  by_cases c5 : ¬ v3 = x2
  · rw [if_pos c5] at hs2
    refine aw_icne_t at_350_47 c5 ?_
    refine aw_iconst (v := 0) (pc1 := 55) at_350_54 (by decide) rfl ?_
    exact rg_350_55 0 h o   hs2
  · rw [if_neg c5] at hs2
    refine aw_icne_f (pc1 := 50) at_350_47 c5 rfl ?_
    refine aw_iconst (v := 1) (pc1 := 51) at_350_50 (by decide) rfl ?_
    refine aw_goto at_350_51 ?_
    exact rg_350_55 1 h o   hs2
def fg_350_23 (x0 : Value) (x1 : Int32) (x2 : Int32) (h : am_H) : Option am_O := ((am_vR (am_pG 3119 x0 h)).bind fun v1 => ((am_pA 0 v1 x1 h).bind fun v3 => (if ¬ v3 = (-1) then (fg_350_40 x0 x1 x2 h) else ((am_vR (am_pG 3119 x0 h)).bind fun v6 => ((am_pS 0 v6 x1 x2 h).bind fun h8 => (fg_350_40 x0 x1 x2 h8))))))
theorem rg_350_23 {X : am_X} {d : Nat} {lv : am_LV} (x0 : Value) (x1 : Int32) (x2 : Int32) (h : am_H) (o : am_O) (l0 : lv.lookup 0 = some x0) (l1 : lv.lookup 1 = some (.int x1)) (l2 : lv.lookup 2 = some (.int x2)) (i0 : am_isR x0 = true) (hs : fg_350_23 x0 x1 x2 h = some o) : am_W X (d) 350 23 lv [] h (fun q => q = o) := by
  unfold fg_350_23 at hs
  refine aw_vload_n (pc1 := 24) at_350_23 l0 i0 rfl ?_
  obtain ⟨v1, e2, hs1⟩ := am_bind hs
  clear hs
  refine aw_pG (pc1 := 27) at_350_24 (am_vR_s e2).1 rfl ?_
  refine aw_iload_n (pc1 := 28) at_350_27 l1 rfl ?_
  obtain ⟨v3, e4, hs2⟩ := am_bind hs1
  clear hs1
  refine aw_pA (pc1 := 29) at_350_28 (Or.inl ⟨rfl, rfl⟩) e4 rfl ?_
  refine aw_iconst (v := (-1)) (pc1 := 30) at_350_29 (by decide) rfl ?_
  by_cases c5 : ¬ v3 = (-1)
  · rw [if_pos c5] at hs2
    refine aw_icne_t at_350_30 c5 ?_
    exact rg_350_40 x0 x1 x2 h o l0 l1 l2 i0 hs2
  · rw [if_neg c5] at hs2
    refine aw_icne_f (pc1 := 33) at_350_30 c5 rfl ?_
    refine aw_vload_n (pc1 := 34) at_350_33 l0 i0 rfl ?_
    obtain ⟨v6, e7, hs3⟩ := am_bind hs2
    clear hs2
    refine aw_pG (pc1 := 37) at_350_34 (am_vR_s e7).1 rfl ?_
    refine aw_iload_n (pc1 := 38) at_350_37 l1 rfl ?_
    refine aw_iload_n (pc1 := 39) at_350_38 l2 rfl ?_
    obtain ⟨h8, e9, hs4⟩ := am_bind hs3
    clear hs3
    refine aw_pS (pc1 := 40) at_350_39 (Or.inl ⟨rfl, rfl⟩) e9 rfl ?_
    exact rg_350_40 x0 x1 x2 h8 o l0 l1 l2 i0 hs4
def fg_350_21 (h : am_H) : Option am_O := some (.inl (some (.int 0), h))
theorem rg_350_21 {X : am_X} {d : Nat} {lv : am_LV} (h : am_H) (o : am_O) (hs : fg_350_21 h = some o) : am_W X (d) 350 21 lv [] h (fun q => q = o) := by
  unfold fg_350_21 at hs
  refine aw_iconst (v := 0) (pc1 := 22) at_350_21 (by decide) rfl ?_
  cases hs
  exact aw_iret at_350_22 (by rw [rt_350]; decide) rfl
def fg_350_0 (x0 : Value) (x1 : Int32) (x2 : Int32) (h : am_H) : Option am_O := ((am_vI (am_pG 3086 x0 h)).bind fun v1 => (if v1 < x1 then (fg_350_21 h) else ((am_vI (am_pG 3086 x0 h)).bind fun v4 => (if ¬ x1 = v4 then (fg_350_23 x0 x1 x2 h) else (if x2 = 1 then (fg_350_23 x0 x1 x2 h) else (fg_350_21 h))))))
theorem rg_350_0 {X : am_X} {d : Nat} {lv : am_LV} (x0 : Value) (x1 : Int32) (x2 : Int32) (h : am_H) (o : am_O) (l0 : lv.lookup 0 = some x0) (l1 : lv.lookup 1 = some (.int x1)) (l2 : lv.lookup 2 = some (.int x2)) (i0 : am_isR x0 = true) (hs : fg_350_0 x0 x1 x2 h = some o) : am_W X (d) 350 0 lv [] h (fun q => q = o) := by
  unfold fg_350_0 at hs
  refine aw_iload_n (pc1 := 1) at_350_0 l1 rfl ?_
  refine aw_vload_n (pc1 := 2) at_350_1 l0 i0 rfl ?_
  obtain ⟨v1, e2, hs1⟩ := am_bind hs
  clear hs
  refine aw_pG (pc1 := 5) at_350_2 (am_vI_s e2) rfl ?_
  by_cases c3 : v1 < x1
  · rw [if_pos c3] at hs1
    refine aw_icgt_t at_350_5 c3 ?_
    exact rg_350_21 h o   hs1
  · rw [if_neg c3] at hs1
    refine aw_icgt_f (pc1 := 8) at_350_5 c3 rfl ?_
    refine aw_iload_n (pc1 := 9) at_350_8 l1 rfl ?_
    refine aw_vload_n (pc1 := 10) at_350_9 l0 i0 rfl ?_
    obtain ⟨v4, e5, hs2⟩ := am_bind hs1
    clear hs1
    refine aw_pG (pc1 := 13) at_350_10 (am_vI_s e5) rfl ?_
    by_cases c6 : ¬ x1 = v4
    · rw [if_pos c6] at hs2
      refine aw_icne_t at_350_13 c6 ?_
      exact rg_350_23 x0 x1 x2 h o l0 l1 l2 i0 hs2
    · rw [if_neg c6] at hs2
      refine aw_icne_f (pc1 := 16) at_350_13 c6 rfl ?_
      refine aw_iload_n (pc1 := 17) at_350_16 l2 rfl ?_
      refine aw_iconst (v := 1) (pc1 := 18) at_350_17 (by decide) rfl ?_
      by_cases c7 : x2 = 1
      · rw [if_pos c7] at hs2
        refine aw_iceq_t at_350_18 c7 ?_
        exact rg_350_23 x0 x1 x2 h o l0 l1 l2 i0 hs2
      · rw [if_neg c7] at hs2
        refine aw_iceq_f (pc1 := 21) at_350_18 c7 rfl ?_
        exact rg_350_21 h o   hs2
def fm_350 (y0 : Value) (y1 : Int32) (y2 : Int32) (h : am_H) : Option am_O := fg_350_0 y0 y1 y2 h
theorem rm_350 {X : am_X} {d : Nat} (y0 : Value) (y1 : Int32) (y2 : Int32) (h : am_H) (o : am_O) (i0 : am_isR y0 = true) (hs : fm_350 y0 y1 y2 h = some o) : am_W X (d) 350 0 (am_args 0 [y0, .int y1, .int y2]) [] h (fun q => q = o) := by
  rw [am_args_R i0, am_args_I, am_args_I]
  exact rg_350_0 y0 y1 y2 h o rfl rfl rfl i0 hs
def fg_347_147 (N : Nat) (rec_32 : Value → Int32 → am_H → Option am_O) (x0 : Value) (x1 : Int32) (h : am_H) : Option am_O := (rec_32 x0 ((x1 + 1)) h)
theorem rg_347_147 {X : am_X} {d : Nat} {N : Nat} {rec_32 : Value → Int32 → am_H → Option am_O} (q_32 : ∀ (x0 : Value) (x1 : Int32) (h : am_H) (o : am_O), rec_32 x0 x1 h = some o → ∀ lv : am_LV, (lv.lookup 0 = some x0) → (lv.lookup 1 = some (.int x1)) → (am_isR x0 = true) → am_W X (d + 1) 347 32 lv [] h (fun q => q = o)) {lv : am_LV} (x0 : Value) (x1 : Int32) (h : am_H) (o : am_O) (l0 : lv.lookup 0 = some x0) (l1 : lv.lookup 1 = some (.int x1)) (i0 : am_isR x0 = true) (hs : fg_347_147 N rec_32 x0 x1 h = some o) : am_W X (d + 1) 347 147 lv [] h (fun q => q = o) := by
  unfold fg_347_147 at hs
  refine aw_iinc (v := (x1 + 1)) (c := 1) (lv1 := am_put1 _ 1 _) (pc1 := 150) at_347_147 l1 (by decide) rfl rfl rfl ?_
  refine aw_goto at_347_150 ?_
  exact q_32 x0 ((x1 + 1)) h o hs _ (am_lk1 l0 rfl (by rw [am_isRc i0]; rfl)) am_lk0 i0
def fg_347_116 (N : Nat) (rec_32 : Value → Int32 → am_H → Option am_O) (x0 : Value) (x1 : Int32) (x2 : Int32) (h : am_H) : Option am_O := ((am_vR (am_pG 3088 x0 h)).bind fun v1 => ((am_pA 0 v1 x1 h).bind fun v3 => (if v3 ≤ 16 then (fg_347_147 N rec_32 x0 x1 h) else ((am_vR (am_pG 3089 x0 h)).bind fun v6 => ((am_pA 0 v6 x1 h).bind fun v8 => (if am_pOk 12 x0 h then am_cI true (fm_350 x0 (((x1 + 1) + v8)) x2 h) (fun v11 h12 => (if ¬ v11 = 0 then (fg_347_147 N rec_32 x0 x1 h12) else some (.inl (some (.int x1), h12)))) else none))))))
theorem rg_347_116 {X : am_X} {d : Nat} {N : Nat} {rec_32 : Value → Int32 → am_H → Option am_O} (q_32 : ∀ (x0 : Value) (x1 : Int32) (h : am_H) (o : am_O), rec_32 x0 x1 h = some o → ∀ lv : am_LV, (lv.lookup 0 = some x0) → (lv.lookup 1 = some (.int x1)) → (am_isR x0 = true) → am_W X (d + 1) 347 32 lv [] h (fun q => q = o)) {lv : am_LV} (x0 : Value) (x1 : Int32) (x2 : Int32) (h : am_H) (o : am_O) (l0 : lv.lookup 0 = some x0) (l1 : lv.lookup 1 = some (.int x1)) (l2 : lv.lookup 2 = some (.int x2)) (i0 : am_isR x0 = true) (hs : fg_347_116 N rec_32 x0 x1 x2 h = some o) : am_W X (d + 1) 347 116 lv [] h (fun q => q = o) := by
  unfold fg_347_116 at hs
  refine aw_vload_n (pc1 := 117) at_347_116 l0 i0 rfl ?_
  obtain ⟨v1, e2, hs1⟩ := am_bind hs
  clear hs
  refine aw_pG (pc1 := 120) at_347_117 (am_vR_s e2).1 rfl ?_
  refine aw_iload_n (pc1 := 121) at_347_120 l1 rfl ?_
  obtain ⟨v3, e4, hs2⟩ := am_bind hs1
  clear hs1
  refine aw_pA (pc1 := 122) at_347_121 (Or.inl ⟨rfl, rfl⟩) e4 rfl ?_
  refine aw_bipush (v := 16) (pc1 := 124) at_347_122 (by decide) rfl ?_
  by_cases c5 : v3 ≤ 16
  · rw [if_pos c5] at hs2
    refine aw_icle_t at_347_124 c5 ?_
    exact rg_347_147 q_32 x0 x1 h o l0 l1 i0 hs2
  · rw [if_neg c5] at hs2
    refine aw_icle_f (pc1 := 127) at_347_124 c5 rfl ?_
    refine aw_vload_n (pc1 := 128) at_347_127 l0 i0 rfl ?_
    refine aw_iload_n (pc1 := 129) at_347_128 l1 rfl ?_
    refine aw_iconst (v := 1) (pc1 := 130) at_347_129 (by decide) rfl ?_
    refine aw_iadd (v := (x1 + 1)) (pc1 := 131) at_347_130 rfl rfl ?_
    refine aw_vload_n (pc1 := 132) at_347_131 l0 i0 rfl ?_
    obtain ⟨v6, e7, hs3⟩ := am_bind hs2
    clear hs2
    refine aw_pG (pc1 := 135) at_347_132 (am_vR_s e7).1 rfl ?_
    refine aw_iload_n (pc1 := 136) at_347_135 l1 rfl ?_
    obtain ⟨v8, e9, hs4⟩ := am_bind hs3
    clear hs3
    refine aw_pA (pc1 := 137) at_347_136 (Or.inl ⟨rfl, rfl⟩) e9 rfl ?_
    refine aw_iadd (v := ((x1 + 1) + v8)) (pc1 := 138) at_347_137 rfl rfl ?_
    refine aw_iload_n (pc1 := 139) at_347_138 l2 rfl ?_
    obtain ⟨z10, hs5⟩ := am_ift hs4
    clear hs4
    refine aw_call (F := fm_350 x0 (((x1 + 1) + v8)) x2 h) (t := true) (na := 3) (kd := 1) (as := [x0, (.int ((x1 + 1) + v8)), (.int x2)]) at_347_139 (am_k3v kb_350) mn_350 mk_350 rfl rfl (am_ok_v mi_350 (am_hl rfl (am_ccR i0 (am_ccI (am_ccI am_cats_0))) rfl) z10) (am_hc am_cats_0 rfl) (fun _ => ⟨rfl, hh_347⟩) (fun o1 hz9 => rm_350 x0 (((x1 + 1) + v8)) x2 h o1 i0 hz9) ?_
    rcases am_cI_s hs5 with ⟨v11, h12, f13, hs6⟩ | hs6
    · clear hs5
      refine Or.inl ⟨_, _, f13, ?_⟩
      show am_W X _ 347 142 _ [(.int v11)] h12 _
      by_cases c14 : ¬ v11 = 0
      · rw [if_pos c14] at hs6
        refine aw_ifne_t at_347_142 c14 ?_
        exact rg_347_147 q_32 x0 x1 h12 o l0 l1 i0 hs6
      · rw [if_neg c14] at hs6
        refine aw_ifne_f (pc1 := 145) at_347_142 c14 rfl ?_
        refine aw_iload_n (pc1 := 146) at_347_145 l1 rfl ?_
        cases hs6
        exact aw_iret at_347_146 (by rw [rt_347]; rfl) rfl
    · clear hs5
      exact Or.inr hs6
def fg_347_32 (N : Nat) : Nat → Value → Int32 → am_H → Option am_O
  | 0 => fun _ _ _ => none
  | K + 1 => fun x0 x1 h => ((am_vI (am_pG 3086 x0 h)).bind fun v1 => (if v1 ≤ x1 then some (.inl (some (.int (-1)), h)) else ((am_vR (am_pG 3119 x0 h)).bind fun v4 => ((am_pA 0 v4 x1 h).bind fun v6 => ((am_vR (am_pG 3088 x0 h)).bind fun v8 => ((am_pA 0 v8 x1 h).bind fun v10 => am_cI false (fm_348 v10 h) (fun v12 h13 => (if v12 ≤ v6 then ((am_vR (am_pG 3088 x0 h13)).bind fun v16 => ((am_pA 0 v16 x1 h13).bind fun v18 => am_cI false (fm_348 v18 h13) (fun v20 h21 => ((am_vR (am_pG 3088 x0 h21)).bind fun v23 => ((am_pA 0 v23 x1 h21).bind fun v25 => am_cI false (fm_349 v25 h21) (fun v27 h28 => (if ((v6 - v20) + v27) ≤ 8 then ((am_vR (am_pG 3088 x0 h28)).bind fun v31 => ((am_pA 0 v31 x1 h28).bind fun v33 => (if v33 = 17 then (fg_347_116 N (fg_347_32 N K) x0 x1 (((v6 - v20) + v27)) h28) else (if am_pOk 12 x0 h28 then am_cI true (fm_350 x0 ((x1 + 1)) (((v6 - v20) + v27)) h28) (fun v37 h38 => (if ¬ v37 = 0 then (fg_347_116 N (fg_347_32 N K) x0 x1 (((v6 - v20) + v27)) h38) else some (.inl (some (.int x1), h38)))) else none)))) else some (.inl (some (.int x1), h28))))))))) else some (.inl (some (.int x1), h13))))))))))
theorem rg_347_32 {X : am_X} {d : Nat} {N : Nat} : ∀ (K : Nat) (x0 : Value) (x1 : Int32) (h : am_H) (o : am_O), fg_347_32 N K x0 x1 h = some o → ∀ lv : am_LV, (lv.lookup 0 = some x0) → (lv.lookup 1 = some (.int x1)) → (am_isR x0 = true) → am_W X (d + 1) 347 32 lv [] h (fun q => q = o) := by
  intro K
  induction K with
  | zero => intro x0 x1 h o hs; cases hs
  | succ K ih =>
    intro x0 x1 h o hs lv l0 l1 i0
    unfold fg_347_32 at hs
    refine aw_iload_n (pc1 := 33) at_347_32 l1 rfl ?_
    refine aw_vload_n (pc1 := 34) at_347_33 l0 i0 rfl ?_
    obtain ⟨v1, e2, hs1⟩ := am_bind hs
    clear hs
    refine aw_pG (pc1 := 37) at_347_34 (am_vI_s e2) rfl ?_
    by_cases c3 : v1 ≤ x1
    · rw [if_pos c3] at hs1
      refine aw_icge_t at_347_37 c3 ?_
      refine aw_iconst (v := (-1)) (pc1 := 154) at_347_153 (by decide) rfl ?_
      cases hs1
      exact aw_iret at_347_154 (by rw [rt_347]; rfl) rfl
    · rw [if_neg c3] at hs1
      refine aw_icge_f (pc1 := 40) at_347_37 c3 rfl ?_
      refine aw_vload_n (pc1 := 41) at_347_40 l0 i0 rfl ?_
      obtain ⟨v4, e5, hs2⟩ := am_bind hs1
      clear hs1
      refine aw_pG (pc1 := 44) at_347_41 (am_vR_s e5).1 rfl ?_
      refine aw_iload_n (pc1 := 45) at_347_44 l1 rfl ?_
      obtain ⟨v6, e7, hs3⟩ := am_bind hs2
      clear hs2
      refine aw_pA (pc1 := 46) at_347_45 (Or.inl ⟨rfl, rfl⟩) e7 rfl ?_
      refine aw_istore_n (lv1 := am_put1 _ 2 _) (pc1 := 47) at_347_46 rfl rfl ?_
      refine aw_iload_n (pc1 := 48) at_347_47 am_lk0 rfl ?_
      refine aw_vload_n (pc1 := 49) at_347_48 (am_lk1 l0 rfl rfl) i0 rfl ?_
      obtain ⟨v8, e9, hs4⟩ := am_bind hs3
      clear hs3
      refine aw_pG (pc1 := 52) at_347_49 (am_vR_s e9).1 rfl ?_
      refine aw_iload_n (pc1 := 53) at_347_52 (am_lk1 l1 rfl rfl) rfl ?_
      obtain ⟨v10, e11, hs5⟩ := am_bind hs4
      clear hs4
      refine aw_pA (pc1 := 54) at_347_53 (Or.inl ⟨rfl, rfl⟩) e11 rfl ?_
      refine aw_call (F := fm_348 v10 h) (t := false) (na := 1) (kd := 0) (as := [(.int v10)]) at_347_54 (am_k3s kb_348) mn_348 mk_348 rfl rfl (am_ok_s mi_348 (am_hl rfl (am_ccI am_cats_0) rfl)) (am_hc (am_ccI am_cats_0) rfl) (fun hz9 => by cases hz9) (fun o1 hz9 => rm_348 v10 h o1  hz9) ?_
      rcases am_cI_s hs5 with ⟨v12, h13, f14, hs6⟩ | hs6
      · clear hs5
        refine Or.inl ⟨_, _, f14, ?_⟩
        show am_W X _ 347 57 _ [(.int v12), (.int v6)] h13 _
        by_cases c15 : v12 ≤ v6
        · rw [if_pos c15] at hs6
          refine aw_icge_t at_347_57 c15 ?_
          refine aw_iload_n (pc1 := 63) at_347_62 am_lk0 rfl ?_
          refine aw_vload_n (pc1 := 64) at_347_63 (am_lk1 l0 rfl rfl) i0 rfl ?_
          obtain ⟨v16, e17, hs7⟩ := am_bind hs6
          clear hs6
          refine aw_pG (pc1 := 67) at_347_64 (am_vR_s e17).1 rfl ?_
          refine aw_iload_n (pc1 := 68) at_347_67 (am_lk1 l1 rfl rfl) rfl ?_
          obtain ⟨v18, e19, hs8⟩ := am_bind hs7
          clear hs7
          refine aw_pA (pc1 := 69) at_347_68 (Or.inl ⟨rfl, rfl⟩) e19 rfl ?_
          refine aw_call (F := fm_348 v18 h13) (t := false) (na := 1) (kd := 0) (as := [(.int v18)]) at_347_69 (am_k3s kb_348) mn_348 mk_348 rfl rfl (am_ok_s mi_348 (am_hl rfl (am_ccI am_cats_0) rfl)) (am_hc (am_ccI am_cats_0) rfl) (fun hz9 => by cases hz9) (fun o1 hz9 => rm_348 v18 h13 o1  hz9) ?_
          rcases am_cI_s hs8 with ⟨v20, h21, f22, hs9⟩ | hs9
          · clear hs8
            refine Or.inl ⟨_, _, f22, ?_⟩
            show am_W X _ 347 72 _ [(.int v20), (.int v6)] h21 _
            refine aw_isub (v := (v6 - v20)) (pc1 := 73) at_347_72 rfl rfl ?_
            refine aw_vload_n (pc1 := 74) at_347_73 (am_lk1 l0 rfl rfl) i0 rfl ?_
            obtain ⟨v23, e24, hs10⟩ := am_bind hs9
            clear hs9
            refine aw_pG (pc1 := 77) at_347_74 (am_vR_s e24).1 rfl ?_
            refine aw_iload_n (pc1 := 78) at_347_77 (am_lk1 l1 rfl rfl) rfl ?_
            obtain ⟨v25, e26, hs11⟩ := am_bind hs10
            clear hs10
            refine aw_pA (pc1 := 79) at_347_78 (Or.inl ⟨rfl, rfl⟩) e26 rfl ?_
            refine aw_call (F := fm_349 v25 h21) (t := false) (na := 1) (kd := 0) (as := [(.int v25)]) at_347_79 (am_k3s kb_349) mn_349 mk_349 rfl rfl (am_ok_s mi_349 (am_hl rfl (am_ccI am_cats_0) rfl)) (am_hc (am_ccI am_cats_0) rfl) (fun hz9 => by cases hz9) (fun o1 hz9 => rm_349 v25 h21 o1  hz9) ?_
            rcases am_cI_s hs11 with ⟨v27, h28, f29, hs12⟩ | hs12
            · clear hs11
              refine Or.inl ⟨_, _, f29, ?_⟩
              show am_W X _ 347 82 _ [(.int v27), (.int (v6 - v20))] h28 _
              refine aw_iadd (v := ((v6 - v20) + v27)) (pc1 := 83) at_347_82 rfl rfl ?_
              refine aw_istore_n (lv1 := am_put1 _ 2 _) (pc1 := 84) at_347_83 rfl rfl ?_
              refine aw_iload_n (pc1 := 85) at_347_84 am_lk0 rfl ?_
              refine aw_bipush (v := 8) (pc1 := 87) at_347_85 (by decide) rfl ?_
              by_cases c30 : ((v6 - v20) + v27) ≤ 8
              · rw [if_pos c30] at hs12
                refine aw_icle_t at_347_87 c30 ?_
                refine aw_vload_n (pc1 := 93) at_347_92 (am_lk1 (am_lk1 l0 rfl rfl) rfl rfl) i0 rfl ?_
                obtain ⟨v31, e32, hs13⟩ := am_bind hs12
                clear hs12
                refine aw_pG (pc1 := 96) at_347_93 (am_vR_s e32).1 rfl ?_
                refine aw_iload_n (pc1 := 97) at_347_96 (am_lk1 (am_lk1 l1 rfl rfl) rfl rfl) rfl ?_
                obtain ⟨v33, e34, hs14⟩ := am_bind hs13
                clear hs13
                refine aw_pA (pc1 := 98) at_347_97 (Or.inl ⟨rfl, rfl⟩) e34 rfl ?_
                refine aw_bipush (v := 17) (pc1 := 100) at_347_98 (by decide) rfl ?_
                by_cases c35 : v33 = 17
                · rw [if_pos c35] at hs14
                  refine aw_iceq_t at_347_100 c35 ?_
                  exact rg_347_116 (fun z0 z1 h o hs14 => ih z0 z1 h o hs14) x0 x1 (((v6 - v20) + v27)) h28 o (am_lk1 (am_lk1 l0 rfl rfl) rfl rfl) (am_lk1 (am_lk1 l1 rfl rfl) rfl rfl) am_lk0 i0 hs14
                · rw [if_neg c35] at hs14
                  refine aw_iceq_f (pc1 := 103) at_347_100 c35 rfl ?_
                  refine aw_vload_n (pc1 := 104) at_347_103 (am_lk1 (am_lk1 l0 rfl rfl) rfl rfl) i0 rfl ?_
                  refine aw_iload_n (pc1 := 105) at_347_104 (am_lk1 (am_lk1 l1 rfl rfl) rfl rfl) rfl ?_
                  refine aw_iconst (v := 1) (pc1 := 106) at_347_105 (by decide) rfl ?_
                  refine aw_iadd (v := (x1 + 1)) (pc1 := 107) at_347_106 rfl rfl ?_
                  refine aw_iload_n (pc1 := 108) at_347_107 am_lk0 rfl ?_
                  obtain ⟨z36, hs15⟩ := am_ift hs14
                  clear hs14
                  refine aw_call (F := fm_350 x0 ((x1 + 1)) (((v6 - v20) + v27)) h28) (t := true) (na := 3) (kd := 1) (as := [x0, (.int (x1 + 1)), (.int ((v6 - v20) + v27))]) at_347_108 (am_k3v kb_350) mn_350 mk_350 rfl rfl (am_ok_v mi_350 (am_hl rfl (am_ccR i0 (am_ccI (am_ccI am_cats_0))) rfl) z36) (am_hc am_cats_0 rfl) (fun _ => ⟨rfl, hh_347⟩) (fun o1 hz9 => rm_350 x0 ((x1 + 1)) (((v6 - v20) + v27)) h28 o1 i0 hz9) ?_
                  rcases am_cI_s hs15 with ⟨v37, h38, f39, hs16⟩ | hs16
                  · clear hs15
                    refine Or.inl ⟨_, _, f39, ?_⟩
                    show am_W X _ 347 111 _ [(.int v37)] h38 _
                    by_cases c40 : ¬ v37 = 0
                    · rw [if_pos c40] at hs16
                      refine aw_ifne_t at_347_111 c40 ?_
                      exact rg_347_116 (fun z0 z1 h o hs16 => ih z0 z1 h o hs16) x0 x1 (((v6 - v20) + v27)) h38 o (am_lk1 (am_lk1 l0 rfl rfl) rfl rfl) (am_lk1 (am_lk1 l1 rfl rfl) rfl rfl) am_lk0 i0 hs16
                    · rw [if_neg c40] at hs16
                      refine aw_ifne_f (pc1 := 114) at_347_111 c40 rfl ?_
                      refine aw_iload_n (pc1 := 115) at_347_114 (am_lk1 (am_lk1 l1 rfl rfl) rfl rfl) rfl ?_
                      cases hs16
                      exact aw_iret at_347_115 (by rw [rt_347]; rfl) rfl
                  · clear hs15
                    exact Or.inr hs16
              · rw [if_neg c30] at hs12
                refine aw_icle_f (pc1 := 90) at_347_87 c30 rfl ?_
                refine aw_iload_n (pc1 := 91) at_347_90 (am_lk1 (am_lk1 l1 rfl rfl) rfl rfl) rfl ?_
                cases hs12
                exact aw_iret at_347_91 (by rw [rt_347]; rfl) rfl
            · clear hs11
              exact Or.inr hs12
          · clear hs8
            exact Or.inr hs9
        · rw [if_neg c15] at hs6
          refine aw_icge_f (pc1 := 60) at_347_57 c15 rfl ?_
          refine aw_iload_n (pc1 := 61) at_347_60 (am_lk1 l1 rfl rfl) rfl ?_
          cases hs6
          exact aw_iret at_347_61 (by rw [rt_347]; rfl) rfl
      · clear hs5
        exact Or.inr hs6
def fg_347_2 (N : Nat) : Nat → Value → Int32 → am_H → Option am_O
  | 0 => fun _ _ _ => none
  | K + 1 => fun x0 x1 h => ((am_vI (am_pG 3086 x0 h)).bind fun v1 => (if v1 < x1 then ((am_vR (am_pG 3119 x0 h)).bind fun v4 => ((am_pS 0 v4 0 0 h).bind fun h6 => (fg_347_32 N N x0 0 h6))) else ((am_vR (am_pG 3119 x0 h)).bind fun v8 => ((am_pS 0 v8 x1 (-1) h).bind fun h10 => (fg_347_2 N K x0 ((x1 + 1)) h10)))))
theorem rg_347_2 {X : am_X} {d : Nat} {N : Nat} : ∀ (K : Nat) (x0 : Value) (x1 : Int32) (h : am_H) (o : am_O), fg_347_2 N K x0 x1 h = some o → ∀ lv : am_LV, (lv.lookup 0 = some x0) → (lv.lookup 1 = some (.int x1)) → (am_isR x0 = true) → am_W X (d + 1) 347 2 lv [] h (fun q => q = o) := by
  intro K
  induction K with
  | zero => intro x0 x1 h o hs; cases hs
  | succ K ih =>
    intro x0 x1 h o hs lv l0 l1 i0
    unfold fg_347_2 at hs
    refine aw_iload_n (pc1 := 3) at_347_2 l1 rfl ?_
    refine aw_vload_n (pc1 := 4) at_347_3 l0 i0 rfl ?_
    obtain ⟨v1, e2, hs1⟩ := am_bind hs
    clear hs
    refine aw_pG (pc1 := 7) at_347_4 (am_vI_s e2) rfl ?_
    by_cases c3 : v1 < x1
    · rw [if_pos c3] at hs1
      refine aw_icgt_t at_347_7 c3 ?_
      refine aw_vload_n (pc1 := 24) at_347_23 l0 i0 rfl ?_
      obtain ⟨v4, e5, hs2⟩ := am_bind hs1
      clear hs1
      refine aw_pG (pc1 := 27) at_347_24 (am_vR_s e5).1 rfl ?_
      refine aw_iconst (v := 0) (pc1 := 28) at_347_27 (by decide) rfl ?_
      refine aw_iconst (v := 0) (pc1 := 29) at_347_28 (by decide) rfl ?_
      obtain ⟨h6, e7, hs3⟩ := am_bind hs2
      clear hs2
      refine aw_pS (pc1 := 30) at_347_29 (Or.inl ⟨rfl, rfl⟩) e7 rfl ?_
      refine aw_iconst (v := 0) (pc1 := 31) at_347_30 (by decide) rfl ?_
      refine aw_istore_n (lv1 := am_put1 _ 1 _) (pc1 := 32) at_347_31 rfl rfl ?_
      exact rg_347_32 N x0 0 h6 o hs3 _ (am_lk1 l0 rfl (by rw [am_isRc i0]; rfl)) am_lk0 i0
    · rw [if_neg c3] at hs1
      refine aw_icgt_f (pc1 := 10) at_347_7 c3 rfl ?_
      refine aw_vload_n (pc1 := 11) at_347_10 l0 i0 rfl ?_
      obtain ⟨v8, e9, hs4⟩ := am_bind hs1
      clear hs1
      refine aw_pG (pc1 := 14) at_347_11 (am_vR_s e9).1 rfl ?_
      refine aw_iload_n (pc1 := 15) at_347_14 l1 rfl ?_
      refine aw_iconst (v := (-1)) (pc1 := 16) at_347_15 (by decide) rfl ?_
      obtain ⟨h10, e11, hs5⟩ := am_bind hs4
      clear hs4
      refine aw_pS (pc1 := 17) at_347_16 (Or.inl ⟨rfl, rfl⟩) e11 rfl ?_
      refine aw_iinc (v := (x1 + 1)) (c := 1) (lv1 := am_put1 _ 1 _) (pc1 := 20) at_347_17 l1 (by decide) rfl rfl rfl ?_
      refine aw_goto at_347_20 ?_
      exact ih x0 ((x1 + 1)) h10 o hs5 _ (am_lk1 l0 rfl (by rw [am_isRc i0]; rfl)) am_lk0 i0
def fg_347_0 (N : Nat) (x0 : Value) (h : am_H) : Option am_O := (fg_347_2 N N x0 0 h)
theorem rg_347_0 {X : am_X} {d : Nat} {N : Nat} {lv : am_LV} (x0 : Value) (h : am_H) (o : am_O) (l0 : lv.lookup 0 = some x0) (i0 : am_isR x0 = true) (hs : fg_347_0 N x0 h = some o) : am_W X (d + 1) 347 0 lv [] h (fun q => q = o) := by
  unfold fg_347_0 at hs
  refine aw_iconst (v := 0) (pc1 := 1) at_347_0 (by decide) rfl ?_
  refine aw_istore_n (lv1 := am_put1 _ 1 _) (pc1 := 2) at_347_1 rfl rfl ?_
  exact rg_347_2 N x0 0 h o hs _ (am_lk1 l0 rfl (by rw [am_isRc i0]; rfl)) am_lk0 i0
def fm_347 (N : Nat) (y0 : Value) (h : am_H) : Option am_O := fg_347_0 N y0 h
theorem rm_347 {X : am_X} {d : Nat} {N : Nat} (y0 : Value) (h : am_H) (o : am_O) (i0 : am_isR y0 = true) (hs : fm_347 N y0 h = some o) : am_W X (d + 1) 347 0 (am_args 0 [y0]) [] h (fun q => q = o) := by
  rw [am_args_R i0]
  exact rg_347_0 y0 h o rfl i0 hs
def fg_353_0 (x0 : Int32) (x1 : Int32) (x2 : Int32) (h : am_H) : Option am_O := some (.inl (some (.int ((x0 &&& ((7 <<< ((3 * x1) &&& 31)) ^^^ (-1))) ||| (x2 <<< ((3 * x1) &&& 31)))), h))
theorem rg_353_0 {X : am_X} {d : Nat} {lv : am_LV} (x0 : Int32) (x1 : Int32) (x2 : Int32) (h : am_H) (o : am_O) (l0 : lv.lookup 0 = some (.int x0)) (l1 : lv.lookup 1 = some (.int x1)) (l2 : lv.lookup 2 = some (.int x2)) (hs : fg_353_0 x0 x1 x2 h = some o) : am_W X (d) 353 0 lv [] h (fun q => q = o) := by
  unfold fg_353_0 at hs
  refine aw_iload_n (pc1 := 1) at_353_0 l0 rfl ?_
  refine aw_bipush (v := 7) (pc1 := 3) at_353_1 (by decide) rfl ?_
  refine aw_iconst (v := 3) (pc1 := 4) at_353_3 (by decide) rfl ?_
  refine aw_iload_n (pc1 := 5) at_353_4 l1 rfl ?_
  refine aw_imul (v := (3 * x1)) (pc1 := 6) at_353_5 rfl rfl ?_
  refine aw_ishl (v := (7 <<< ((3 * x1) &&& 31))) (pc1 := 7) at_353_6 rfl rfl ?_
  refine aw_iconst (v := (-1)) (pc1 := 8) at_353_7 (by decide) rfl ?_
  refine aw_ixor (v := ((7 <<< ((3 * x1) &&& 31)) ^^^ (-1))) (pc1 := 9) at_353_8 rfl rfl ?_
  refine aw_iand (v := (x0 &&& ((7 <<< ((3 * x1) &&& 31)) ^^^ (-1)))) (pc1 := 10) at_353_9 rfl rfl ?_
  refine aw_iload_n (pc1 := 11) at_353_10 l2 rfl ?_
  refine aw_iconst (v := 3) (pc1 := 12) at_353_11 (by decide) rfl ?_
  refine aw_iload_n (pc1 := 13) at_353_12 l1 rfl ?_
  refine aw_imul (v := (3 * x1)) (pc1 := 14) at_353_13 rfl rfl ?_
  refine aw_ishl (v := (x2 <<< ((3 * x1) &&& 31))) (pc1 := 15) at_353_14 rfl rfl ?_
  refine aw_ior (v := ((x0 &&& ((7 <<< ((3 * x1) &&& 31)) ^^^ (-1))) ||| (x2 <<< ((3 * x1) &&& 31)))) (pc1 := 16) at_353_15 rfl rfl ?_
  cases hs
  exact aw_iret at_353_16 (by rw [rt_353]; rfl) rfl
def fm_353 (y0 : Int32) (y1 : Int32) (y2 : Int32) (h : am_H) : Option am_O := fg_353_0 y0 y1 y2 h
theorem rm_353 {X : am_X} {d : Nat} (y0 : Int32) (y1 : Int32) (y2 : Int32) (h : am_H) (o : am_O) (hs : fm_353 y0 y1 y2 h = some o) : am_W X (d) 353 0 (am_args 0 [.int y0, .int y1, .int y2]) [] h (fun q => q = o) := by
  rw [am_args_I, am_args_I, am_args_I]
  exact rg_353_0 y0 y1 y2 h o rfl rfl rfl  hs
def fg_67_10 (s0 : Int32) (h : am_H) : Option am_O := some (.inl (some (.int s0), h))
theorem rg_67_10 {X : am_X} {d : Nat} {lv : am_LV} (s0 : Int32) (h : am_H) (o : am_O) (hs : fg_67_10 s0 h = some o) : am_W X (d) 67 10 lv [(.int s0)] h (fun q => q = o) := by
  unfold fg_67_10 at hs
  cases hs
  exact aw_iret at_67_10 (by rw [rt_67]; rfl) rfl
def fg_67_0 (x0 : Int32) (h : am_H) : Option am_O := (if 0 ≤ x0 then (fg_67_10 x0 h) else (fg_67_10 ((-x0)) h))
theorem rg_67_0 {X : am_X} {d : Nat} {lv : am_LV} (x0 : Int32) (h : am_H) (o : am_O) (l0 : lv.lookup 0 = some (.int x0)) (hs : fg_67_0 x0 h = some o) : am_W X (d) 67 0 lv [] h (fun q => q = o) := by
  unfold fg_67_0 at hs
  refine aw_iload_n (pc1 := 1) at_67_0 l0 rfl ?_
  by_cases c1 : 0 ≤ x0
  · rw [if_pos c1] at hs
    refine aw_ifge_t at_67_1 c1 ?_
    refine aw_iload_n (pc1 := 10) at_67_9 l0 rfl ?_
    exact rg_67_10 x0 h o   hs
  · rw [if_neg c1] at hs
    refine aw_ifge_f (pc1 := 4) at_67_1 c1 rfl ?_
    refine aw_iload_n (pc1 := 5) at_67_4 l0 rfl ?_
    refine aw_ineg (v := (-x0)) (pc1 := 6) at_67_5 rfl rfl ?_
    refine aw_goto at_67_6 ?_
    exact rg_67_10 ((-x0)) h o   hs
def fm_67 (y0 : Int32) (h : am_H) : Option am_O := fg_67_0 y0 h
theorem rm_67 {X : am_X} {d : Nat} (y0 : Int32) (h : am_H) (o : am_O) (hs : fm_67 y0 h = some o) : am_W X (d) 67 0 (am_args 0 [.int y0]) [] h (fun q => q = o) := by
  rw [am_args_I]
  exact rg_67_0 y0 h o rfl  hs
def fg_68_32 (h : am_H) : Option am_O := some (.inl (none, h))
theorem rg_68_32 {X : am_X} {d : Nat} {lv : am_LV} (h : am_H) (o : am_O) (hs : fg_68_32 h = some o) : am_W X (d) 68 32 lv [] h (fun q => q = o) := by
  unfold fg_68_32 at hs
  cases hs
  exact aw_vret at_68_32 rt_68 rfl
def fg_68_0 (x0 : Value) (x1 : Int32) (h : am_H) : Option am_O := ((am_vI (am_pG 2312 x0 h)).bind fun v1 => ((am_vR (am_pG 2311 x0 h)).bind fun v3 => ((am_pLen v3 h).bind fun v5 => (if v5 ≤ v1 then (fg_68_32 h) else ((am_vR (am_pG 2311 x0 h)).bind fun v8 => ((am_vI (am_pG 2312 x0 h)).bind fun v10 => ((am_pS 3 v8 v10 x1 h).bind fun h12 => ((am_vI (am_pG 2312 x0 h12)).bind fun v14 => ((am_pP 2312 x0 (.int (v14 + 1)) h12).bind fun h16 => (fg_68_32 h16))))))))))
theorem rg_68_0 {X : am_X} {d : Nat} {lv : am_LV} (x0 : Value) (x1 : Int32) (h : am_H) (o : am_O) (l0 : lv.lookup 0 = some x0) (l1 : lv.lookup 1 = some (.int x1)) (i0 : am_isR x0 = true) (hs : fg_68_0 x0 x1 h = some o) : am_W X (d) 68 0 lv [] h (fun q => q = o) := by
  unfold fg_68_0 at hs
  refine aw_vload_n (pc1 := 1) at_68_0 l0 i0 rfl ?_
  obtain ⟨v1, e2, hs1⟩ := am_bind hs
  clear hs
  refine aw_pG (pc1 := 4) at_68_1 (am_vI_s e2) rfl ?_
  refine aw_vload_n (pc1 := 5) at_68_4 l0 i0 rfl ?_
  obtain ⟨v3, e4, hs2⟩ := am_bind hs1
  clear hs1
  refine aw_pG (pc1 := 8) at_68_5 (am_vR_s e4).1 rfl ?_
  obtain ⟨v5, e6, hs3⟩ := am_bind hs2
  clear hs2
  refine aw_pLen (pc1 := 9) at_68_8 e6 rfl ?_
  by_cases c7 : v5 ≤ v1
  · rw [if_pos c7] at hs3
    refine aw_icge_t at_68_9 c7 ?_
    exact rg_68_32 h o   hs3
  · rw [if_neg c7] at hs3
    refine aw_icge_f (pc1 := 12) at_68_9 c7 rfl ?_
    refine aw_vload_n (pc1 := 13) at_68_12 l0 i0 rfl ?_
    obtain ⟨v8, e9, hs4⟩ := am_bind hs3
    clear hs3
    refine aw_pG (pc1 := 16) at_68_13 (am_vR_s e9).1 rfl ?_
    refine aw_vload_n (pc1 := 17) at_68_16 l0 i0 rfl ?_
    obtain ⟨v10, e11, hs5⟩ := am_bind hs4
    clear hs4
    refine aw_pG (pc1 := 20) at_68_17 (am_vI_s e11) rfl ?_
    refine aw_iload_n (pc1 := 21) at_68_20 l1 rfl ?_
    obtain ⟨h12, e13, hs6⟩ := am_bind hs5
    clear hs5
    refine aw_pS (pc1 := 22) at_68_21 (Or.inr (Or.inr ⟨rfl, rfl⟩)) e13 rfl ?_
    refine aw_vload_n (pc1 := 23) at_68_22 l0 i0 rfl ?_
    refine aw_vdup (pc1 := 24) at_68_23 i0 rfl ?_
    obtain ⟨v14, e15, hs7⟩ := am_bind hs6
    clear hs6
    refine aw_pG (pc1 := 27) at_68_24 (am_vI_s e15) rfl ?_
    refine aw_iconst (v := 1) (pc1 := 28) at_68_27 (by decide) rfl ?_
    refine aw_iadd (v := (v14 + 1)) (pc1 := 29) at_68_28 rfl rfl ?_
    obtain ⟨h16, e17, hs8⟩ := am_bind hs7
    clear hs7
    refine aw_pP (pc1 := 32) at_68_29 e17 rfl ?_
    exact rg_68_32 h16 o   hs8
def fm_68 (y0 : Value) (y1 : Int32) (h : am_H) : Option am_O := fg_68_0 y0 y1 h
theorem rm_68 {X : am_X} {d : Nat} (y0 : Value) (y1 : Int32) (h : am_H) (o : am_O) (i0 : am_isR y0 = true) (hs : fm_68 y0 y1 h = some o) : am_W X (d) 68 0 (am_args 0 [y0, .int y1]) [] h (fun q => q = o) := by
  rw [am_args_R i0, am_args_I]
  exact rg_68_0 y0 y1 h o rfl rfl i0 hs
def fg_66_36 (x0 : Value) (x2 : Int32) (h : am_H) : Option am_O := (if am_pOk 9 x0 h then am_cV true (fm_68 x0 (((Int32.toUInt32 (48 + (x2 - x2 / 10 * 10)) % 65536).toInt32)) h) (fun h3 => some (.inl (none, h3))) else none)
theorem rg_66_36 {X : am_X} {d : Nat} {lv : am_LV} (x0 : Value) (x2 : Int32) (h : am_H) (o : am_O) (l0 : lv.lookup 0 = some x0) (l2 : lv.lookup 2 = some (.int x2)) (i0 : am_isR x0 = true) (hs : fg_66_36 x0 x2 h = some o) : am_W X (d + 1) 66 36 lv [] h (fun q => q = o) := by
  unfold fg_66_36 at hs
  refine aw_vload_n (pc1 := 37) at_66_36 l0 i0 rfl ?_
  refine aw_bipush (v := 48) (pc1 := 39) at_66_37 (by decide) rfl ?_
  refine aw_iload_n (pc1 := 40) at_66_39 l2 rfl ?_
  refine aw_bipush (v := 10) (pc1 := 42) at_66_40 (by decide) rfl ?_
  refine aw_irem (v := (x2 - x2 / 10 * 10)) (pc1 := 43) at_66_42 (by decide) rfl rfl ?_
  refine aw_iadd (v := (48 + (x2 - x2 / 10 * 10))) (pc1 := 44) at_66_43 rfl rfl ?_
  refine aw_i2c (v := ((Int32.toUInt32 (48 + (x2 - x2 / 10 * 10)) % 65536).toInt32)) (pc1 := 45) at_66_44 rfl rfl ?_
  obtain ⟨z1, hs1⟩ := am_ift hs
  clear hs
  refine aw_call (F := fm_68 x0 (((Int32.toUInt32 (48 + (x2 - x2 / 10 * 10)) % 65536).toInt32)) h) (t := true) (na := 2) (kd := 1) (as := [x0, (.int ((Int32.toUInt32 (48 + (x2 - x2 / 10 * 10)) % 65536).toInt32))]) at_66_45 (am_k3v kb_68) mn_68 mk_68 rfl rfl (am_ok_v mi_68 (am_hl rfl (am_ccR i0 (am_ccI am_cats_0)) rfl) z1) (am_hc am_cats_0 rfl) (fun _ => ⟨rfl, hh_66⟩) (fun o1 hz9 => rm_68 x0 (((Int32.toUInt32 (48 + (x2 - x2 / 10 * 10)) % 65536).toInt32)) h o1 i0 hz9) ?_
  rcases am_cV_s hs1 with ⟨h3, f4, hs2⟩ | hs2
  · clear hs1
    refine Or.inl ⟨_, _, f4, ?_⟩
    show am_W X _ 66 48 _ [] h3 _
    cases hs2
    exact aw_vret at_66_48 rt_66 rfl
  · clear hs1
    exact Or.inr hs2
def fg_66_15 (x0 : Value) (x2 : Int32) (h : am_H) : Option am_O := (if x2 ≤ 9 then (fg_66_36 x0 x2 h) else (if am_pOk 9 x0 h then am_cV true (fm_68 x0 (((Int32.toUInt32 (48 + ((x2 / 10) - (x2 / 10) / 10 * 10)) % 65536).toInt32)) h) (fun h4 => (fg_66_36 x0 x2 h4)) else none))
theorem rg_66_15 {X : am_X} {d : Nat} {lv : am_LV} (x0 : Value) (x2 : Int32) (h : am_H) (o : am_O) (l0 : lv.lookup 0 = some x0) (l2 : lv.lookup 2 = some (.int x2)) (i0 : am_isR x0 = true) (hs : fg_66_15 x0 x2 h = some o) : am_W X (d + 1) 66 15 lv [] h (fun q => q = o) := by
  unfold fg_66_15 at hs
  refine aw_iload_n (pc1 := 16) at_66_15 l2 rfl ?_
  refine aw_bipush (v := 9) (pc1 := 18) at_66_16 (by decide) rfl ?_
  by_cases c1 : x2 ≤ 9
  · rw [if_pos c1] at hs
    refine aw_icle_t at_66_18 c1 ?_
    exact rg_66_36 x0 x2 h o l0 l2 i0 hs
  · rw [if_neg c1] at hs
    refine aw_icle_f (pc1 := 21) at_66_18 c1 rfl ?_
    refine aw_vload_n (pc1 := 22) at_66_21 l0 i0 rfl ?_
    refine aw_bipush (v := 48) (pc1 := 24) at_66_22 (by decide) rfl ?_
    refine aw_iload_n (pc1 := 25) at_66_24 l2 rfl ?_
    refine aw_bipush (v := 10) (pc1 := 27) at_66_25 (by decide) rfl ?_
    refine aw_idiv (v := (x2 / 10)) (pc1 := 28) at_66_27 (by decide) rfl rfl ?_
    refine aw_bipush (v := 10) (pc1 := 30) at_66_28 (by decide) rfl ?_
    refine aw_irem (v := ((x2 / 10) - (x2 / 10) / 10 * 10)) (pc1 := 31) at_66_30 (by decide) rfl rfl ?_
    refine aw_iadd (v := (48 + ((x2 / 10) - (x2 / 10) / 10 * 10))) (pc1 := 32) at_66_31 rfl rfl ?_
    refine aw_i2c (v := ((Int32.toUInt32 (48 + ((x2 / 10) - (x2 / 10) / 10 * 10)) % 65536).toInt32)) (pc1 := 33) at_66_32 rfl rfl ?_
    obtain ⟨z2, hs1⟩ := am_ift hs
    clear hs
    refine aw_call (F := fm_68 x0 (((Int32.toUInt32 (48 + ((x2 / 10) - (x2 / 10) / 10 * 10)) % 65536).toInt32)) h) (t := true) (na := 2) (kd := 1) (as := [x0, (.int ((Int32.toUInt32 (48 + ((x2 / 10) - (x2 / 10) / 10 * 10)) % 65536).toInt32))]) at_66_33 (am_k3v kb_68) mn_68 mk_68 rfl rfl (am_ok_v mi_68 (am_hl rfl (am_ccR i0 (am_ccI am_cats_0)) rfl) z2) (am_hc am_cats_0 rfl) (fun _ => ⟨rfl, hh_66⟩) (fun o1 hz9 => rm_68 x0 (((Int32.toUInt32 (48 + ((x2 / 10) - (x2 / 10) / 10 * 10)) % 65536).toInt32)) h o1 i0 hz9) ?_
    rcases am_cV_s hs1 with ⟨h4, f5, hs2⟩ | hs2
    · clear hs1
      refine Or.inl ⟨_, _, f5, ?_⟩
      show am_W X _ 66 36 _ [] h4 _
      exact rg_66_36 x0 x2 h4 o l0 l2 i0 hs2
    · clear hs1
      exact Or.inr hs2
def fg_66_0 (x0 : Value) (x1 : Int32) (h : am_H) : Option am_O := am_cI false (fm_67 x1 h) (fun v1 h2 => (if 0 ≤ x1 then (fg_66_15 x0 v1 h2) else (if am_pOk 9 x0 h2 then am_cV true (fm_68 x0 45 h2) (fun h7 => (fg_66_15 x0 v1 h7)) else none)))
theorem rg_66_0 {X : am_X} {d : Nat} {lv : am_LV} (x0 : Value) (x1 : Int32) (h : am_H) (o : am_O) (l0 : lv.lookup 0 = some x0) (l1 : lv.lookup 1 = some (.int x1)) (i0 : am_isR x0 = true) (hs : fg_66_0 x0 x1 h = some o) : am_W X (d + 1) 66 0 lv [] h (fun q => q = o) := by
  unfold fg_66_0 at hs
  refine aw_iload_n (pc1 := 1) at_66_0 l1 rfl ?_
  refine aw_call (F := fm_67 x1 h) (t := false) (na := 1) (kd := 0) (as := [(.int x1)]) at_66_1 (am_k3s kb_67) mn_67 mk_67 rfl rfl (am_ok_s mi_67 (am_hl rfl (am_ccI am_cats_0) rfl)) (am_hc am_cats_0 rfl) (fun hz9 => by cases hz9) (fun o1 hz9 => rm_67 x1 h o1  hz9) ?_
  rcases am_cI_s hs with ⟨v1, h2, f3, hs1⟩ | hs1
  · clear hs
    refine Or.inl ⟨_, _, f3, ?_⟩
    show am_W X _ 66 4 _ [(.int v1)] h2 _
    refine aw_istore_n (lv1 := am_put1 _ 2 _) (pc1 := 5) at_66_4 rfl rfl ?_
    refine aw_iload_n (pc1 := 6) at_66_5 (am_lk1 l1 rfl rfl) rfl ?_
    by_cases c4 : 0 ≤ x1
    · rw [if_pos c4] at hs1
      refine aw_ifge_t at_66_6 c4 ?_
      exact rg_66_15 x0 v1 h2 o (am_lk1 l0 rfl rfl) am_lk0 i0 hs1
    · rw [if_neg c4] at hs1
      refine aw_ifge_f (pc1 := 9) at_66_6 c4 rfl ?_
      refine aw_vload_n (pc1 := 10) at_66_9 (am_lk1 l0 rfl rfl) i0 rfl ?_
      refine aw_bipush (v := 45) (pc1 := 12) at_66_10 (by decide) rfl ?_
      obtain ⟨z5, hs2⟩ := am_ift hs1
      clear hs1
      refine aw_call (F := fm_68 x0 45 h2) (t := true) (na := 2) (kd := 1) (as := [x0, (.int 45)]) at_66_12 (am_k3v kb_68) mn_68 mk_68 rfl rfl (am_ok_v mi_68 (am_hl rfl (am_ccR i0 (am_ccI am_cats_0)) rfl) z5) (am_hc am_cats_0 rfl) (fun _ => ⟨rfl, hh_66⟩) (fun o1 hz9 => rm_68 x0 45 h2 o1 i0 hz9) ?_
      rcases am_cV_s hs2 with ⟨h7, f8, hs3⟩ | hs3
      · clear hs2
        refine Or.inl ⟨_, _, f8, ?_⟩
        show am_W X _ 66 15 _ [] h7 _
        exact rg_66_15 x0 v1 h7 o (am_lk1 l0 rfl rfl) am_lk0 i0 hs3
      · clear hs2
        exact Or.inr hs3
  · clear hs
    exact Or.inr hs1
def fm_66 (y0 : Value) (y1 : Int32) (h : am_H) : Option am_O := fg_66_0 y0 y1 h
theorem rm_66 {X : am_X} {d : Nat} (y0 : Value) (y1 : Int32) (h : am_H) (o : am_O) (i0 : am_isR y0 = true) (hs : fm_66 y0 y1 h = some o) : am_W X (d + 1) 66 0 (am_args 0 [y0, .int y1]) [] h (fun q => q = o) := by
  rw [am_args_R i0, am_args_I]
  exact rg_66_0 y0 y1 h o rfl rfl i0 hs
def fg_65_122 (N : Nat) (rc_65 : Value → Int32 → Int32 → am_H → Option am_O) (x4 : Int32) (h : am_H) : Option am_O := some (.inl (some (.int x4), h))
theorem rg_65_122 {X : am_X} {d : Nat} {N : Nat} {rc_65 : Value → Int32 → Int32 → am_H → Option am_O} (qc_65 : ∀ (y0 : Value) (y1 : Int32) (y2 : Int32) (h : am_H) (o : am_O), (am_isR y0 = true) → rc_65 y0 y1 y2 h = some o → am_W X (d + 2) 65 0 (am_args 0 [y0, .int y1, .int y2]) [] h (fun q => q = o)) {lv : am_LV} (x4 : Int32) (h : am_H) (o : am_O) (l4 : lv.lookup 4 = some (.int x4)) (hs : fg_65_122 N rc_65 x4 h = some o) : am_W X (d + 3) 65 122 lv [] h (fun q => q = o) := by
  unfold fg_65_122 at hs
  refine aw_iload (pc1 := 124) at_65_122 l4 rfl ?_
  cases hs
  exact aw_iret at_65_124 (by rw [rt_65]; rfl) rfl
def fg_65_116 (N : Nat) (rc_65 : Value → Int32 → Int32 → am_H → Option am_O) (x0 : Value) (x4 : Int32) (h : am_H) : Option am_O := (if am_pOk 9 x0 h then am_cV true (fm_68 x0 41 h) (fun h3 => (fg_65_122 N rc_65 x4 h3)) else none)
theorem rg_65_116 {X : am_X} {d : Nat} {N : Nat} {rc_65 : Value → Int32 → Int32 → am_H → Option am_O} (qc_65 : ∀ (y0 : Value) (y1 : Int32) (y2 : Int32) (h : am_H) (o : am_O), (am_isR y0 = true) → rc_65 y0 y1 y2 h = some o → am_W X (d + 2) 65 0 (am_args 0 [y0, .int y1, .int y2]) [] h (fun q => q = o)) {lv : am_LV} (x0 : Value) (x4 : Int32) (h : am_H) (o : am_O) (l0 : lv.lookup 0 = some x0) (l4 : lv.lookup 4 = some (.int x4)) (i0 : am_isR x0 = true) (hs : fg_65_116 N rc_65 x0 x4 h = some o) : am_W X (d + 3) 65 116 lv [] h (fun q => q = o) := by
  unfold fg_65_116 at hs
  refine aw_vload_n (pc1 := 117) at_65_116 l0 i0 rfl ?_
  refine aw_bipush (v := 41) (pc1 := 119) at_65_117 (by decide) rfl ?_
  obtain ⟨z1, hs1⟩ := am_ift hs
  clear hs
  refine aw_call (F := fm_68 x0 41 h) (t := true) (na := 2) (kd := 1) (as := [x0, (.int 41)]) at_65_119 (am_k3v kb_68) mn_68 mk_68 rfl rfl (am_ok_v mi_68 (am_hl rfl (am_ccR i0 (am_ccI am_cats_0)) rfl) z1) (am_hc am_cats_0 rfl) (fun _ => ⟨rfl, hh_65⟩) (fun o1 hz9 => rm_68 x0 41 h o1 i0 hz9) ?_
  rcases am_cV_s hs1 with ⟨h3, f4, hs2⟩ | hs2
  · clear hs1
    refine Or.inl ⟨_, _, f4, ?_⟩
    show am_W X _ 65 122 _ [] h3 _
    exact rg_65_122 qc_65 x4 h3 o l4  hs2
  · clear hs1
    exact Or.inr hs2
def fg_65_78 (N : Nat) (rc_65 : Value → Int32 → Int32 → am_H → Option am_O) : Nat → Value → Int32 → Int32 → Int32 → Int32 → am_H → Option am_O
  | 0 => fun _ _ _ _ _ _ => none
  | K + 1 => fun x0 x2 x3 x4 x5 h => am_cI false (fm_14 x3 h) (fun v1 h2 => (if v1 ≤ x5 then (fg_65_116 N rc_65 x0 x4 h2) else (if 12 < x2 then (fg_65_116 N rc_65 x0 x4 h2) else (if am_pOk 9 x0 h2 then am_cV true (fm_68 x0 32 h2) (fun h8 => (if am_pOk 9 x0 h8 then am_cI true (rc_65 x0 x4 ((x2 + 1)) h8) (fun v11 h12 => (fg_65_78 N rc_65 K x0 x2 x3 v11 ((x5 + 1)) h12)) else none)) else none))))
theorem rg_65_78 {X : am_X} {d : Nat} {N : Nat} {rc_65 : Value → Int32 → Int32 → am_H → Option am_O} (qc_65 : ∀ (y0 : Value) (y1 : Int32) (y2 : Int32) (h : am_H) (o : am_O), (am_isR y0 = true) → rc_65 y0 y1 y2 h = some o → am_W X (d + 2) 65 0 (am_args 0 [y0, .int y1, .int y2]) [] h (fun q => q = o)) : ∀ (K : Nat) (x0 : Value) (x2 : Int32) (x3 : Int32) (x4 : Int32) (x5 : Int32) (h : am_H) (o : am_O), fg_65_78 N rc_65 K x0 x2 x3 x4 x5 h = some o → ∀ lv : am_LV, (lv.lookup 0 = some x0) → (lv.lookup 2 = some (.int x2)) → (lv.lookup 3 = some (.int x3)) → (lv.lookup 4 = some (.int x4)) → (lv.lookup 5 = some (.int x5)) → (am_isR x0 = true) → am_W X (d + 3) 65 78 lv [] h (fun q => q = o) := by
  intro K
  induction K with
  | zero => intro x0 x2 x3 x4 x5 h o hs; cases hs
  | succ K ih =>
    intro x0 x2 x3 x4 x5 h o hs lv l0 l2 l3 l4 l5 i0
    unfold fg_65_78 at hs
    refine aw_iload (pc1 := 80) at_65_78 l5 rfl ?_
    refine aw_iload_n (pc1 := 81) at_65_80 l3 rfl ?_
    refine aw_call (F := fm_14 x3 h) (t := false) (na := 1) (kd := 0) (as := [(.int x3)]) at_65_81 (am_k3s kb_14) mn_14 mk_14 rfl rfl (am_ok_s mi_14 (am_hl rfl (am_ccI am_cats_0) rfl)) (am_hc (am_ccI am_cats_0) rfl) (fun hz9 => by cases hz9) (fun o1 hz9 => rm_14 x3 h o1  hz9) ?_
    rcases am_cI_s hs with ⟨v1, h2, f3, hs1⟩ | hs1
    · clear hs
      refine Or.inl ⟨_, _, f3, ?_⟩
      show am_W X _ 65 84 _ [(.int v1), (.int x5)] h2 _
      by_cases c4 : v1 ≤ x5
      · rw [if_pos c4] at hs1
        refine aw_icge_t at_65_84 c4 ?_
        exact rg_65_116 qc_65 x0 x4 h2 o l0 l4 i0 hs1
      · rw [if_neg c4] at hs1
        refine aw_icge_f (pc1 := 87) at_65_84 c4 rfl ?_
        refine aw_iload_n (pc1 := 88) at_65_87 l2 rfl ?_
        refine aw_bipush (v := 12) (pc1 := 90) at_65_88 (by decide) rfl ?_
        by_cases c5 : 12 < x2
        · rw [if_pos c5] at hs1
          refine aw_icgt_t at_65_90 c5 ?_
          exact rg_65_116 qc_65 x0 x4 h2 o l0 l4 i0 hs1
        · rw [if_neg c5] at hs1
          refine aw_icgt_f (pc1 := 93) at_65_90 c5 rfl ?_
          refine aw_vload_n (pc1 := 94) at_65_93 l0 i0 rfl ?_
          refine aw_bipush (v := 32) (pc1 := 96) at_65_94 (by decide) rfl ?_
          obtain ⟨z6, hs2⟩ := am_ift hs1
          clear hs1
          refine aw_call (F := fm_68 x0 32 h2) (t := true) (na := 2) (kd := 1) (as := [x0, (.int 32)]) at_65_96 (am_k3v kb_68) mn_68 mk_68 rfl rfl (am_ok_v mi_68 (am_hl rfl (am_ccR i0 (am_ccI am_cats_0)) rfl) z6) (am_hc am_cats_0 rfl) (fun _ => ⟨rfl, hh_65⟩) (fun o1 hz9 => rm_68 x0 32 h2 o1 i0 hz9) ?_
          rcases am_cV_s hs2 with ⟨h8, f9, hs3⟩ | hs3
          · clear hs2
            refine Or.inl ⟨_, _, f9, ?_⟩
            show am_W X _ 65 99 _ [] h8 _
            refine aw_vload_n (pc1 := 100) at_65_99 l0 i0 rfl ?_
            refine aw_iload (pc1 := 102) at_65_100 l4 rfl ?_
            refine aw_iload_n (pc1 := 103) at_65_102 l2 rfl ?_
            refine aw_iconst (v := 1) (pc1 := 104) at_65_103 (by decide) rfl ?_
            refine aw_iadd (v := (x2 + 1)) (pc1 := 105) at_65_104 rfl rfl ?_
            obtain ⟨z10, hs4⟩ := am_ift hs3
            clear hs3
            refine aw_call (F := rc_65 x0 x4 ((x2 + 1)) h8) (t := true) (na := 3) (kd := 1) (as := [x0, (.int x4), (.int (x2 + 1))]) at_65_105 (am_k3v kb_65) mn_65 mk_65 rfl rfl (am_ok_v mi_65 (am_hl rfl (am_ccR i0 (am_ccI (am_ccI am_cats_0))) rfl) z10) (am_hc am_cats_0 rfl) (fun _ => ⟨rfl, hh_65⟩) (fun o1 hz9 => qc_65 x0 x4 ((x2 + 1)) h8 o1 i0 hz9) ?_
            rcases am_cI_s hs4 with ⟨v11, h12, f13, hs5⟩ | hs5
            · clear hs4
              refine Or.inl ⟨_, _, f13, ?_⟩
              show am_W X _ 65 108 _ [(.int v11)] h12 _
              refine aw_istore (lv1 := am_put1 _ 4 _) (pc1 := 110) at_65_108 rfl rfl ?_
              refine aw_iinc (v := (x5 + 1)) (c := 1) (lv1 := am_put1 _ 5 _) (pc1 := 113) at_65_110 (am_lk1 l5 rfl rfl) (by decide) rfl rfl rfl ?_
              refine aw_goto at_65_113 ?_
              exact ih x0 x2 x3 v11 ((x5 + 1)) h12 o hs5 _ (am_lk1 (am_lk1 l0 rfl rfl) rfl rfl) (am_lk1 (am_lk1 l2 rfl rfl) rfl rfl) (am_lk1 (am_lk1 l3 rfl rfl) rfl rfl) (am_lk1 am_lk0 rfl rfl) am_lk0 i0
            · clear hs4
              exact Or.inr hs5
          · clear hs2
            exact Or.inr hs3
    · clear hs
      exact Or.inr hs1
def fg_65_0 (N : Nat) (rc_65 : Value → Int32 → Int32 → am_H → Option am_O) (x0 : Value) (x1 : Int32) (x2 : Int32) (h : am_H) : Option am_O := ((am_vR (am_pG 2308 x0 h)).bind fun v1 => (if am_pOk 3 v1 h then am_cI true (fm_54 v1 x1 0 h) (fun v4 h5 => (if ¬ v4 = 0 then (if 7 ≤ v4 then (if am_pOk 9 x0 h5 then am_cV true (fm_68 x0 40 h5) (fun h11 => ((am_pTx 4 (v4 - 7)).bind fun v13 => (if am_pOk 9 x0 h11 then am_cV true (fm_68 x0 v13 h11) (fun h17 => (fg_65_78 N rc_65 N x0 x2 v4 ((x1 + 1)) 0 h17)) else none))) else none) else ((am_pTx 3 (v4 - 1)).bind fun v19 => (if am_pOk 9 x0 h5 then am_cV true (fm_68 x0 v19 h5) (fun h23 => (fg_65_122 N rc_65 ((x1 + 1)) h23)) else none))) else ((am_vR (am_pG 2308 x0 h5)).bind fun v25 => (if am_pOk 3 v25 h5 then am_cI true (fm_54 v25 x1 1 h5) (fun v28 h29 => (if am_pOk 9 x0 h29 then am_cV true (fm_66 x0 v28 h29) (fun h33 => (fg_65_122 N rc_65 ((x1 + 1)) h33)) else none)) else none)))) else none))
theorem rg_65_0 {X : am_X} {d : Nat} {N : Nat} {rc_65 : Value → Int32 → Int32 → am_H → Option am_O} (qc_65 : ∀ (y0 : Value) (y1 : Int32) (y2 : Int32) (h : am_H) (o : am_O), (am_isR y0 = true) → rc_65 y0 y1 y2 h = some o → am_W X (d + 2) 65 0 (am_args 0 [y0, .int y1, .int y2]) [] h (fun q => q = o)) {lv : am_LV} (x0 : Value) (x1 : Int32) (x2 : Int32) (h : am_H) (o : am_O) (l0 : lv.lookup 0 = some x0) (l1 : lv.lookup 1 = some (.int x1)) (l2 : lv.lookup 2 = some (.int x2)) (i0 : am_isR x0 = true) (hs : fg_65_0 N rc_65 x0 x1 x2 h = some o) : am_W X (d + 3) 65 0 lv [] h (fun q => q = o) := by
  unfold fg_65_0 at hs
  refine aw_vload_n (pc1 := 1) at_65_0 l0 i0 rfl ?_
  obtain ⟨v1, e2, hs1⟩ := am_bind hs
  clear hs
  refine aw_pG (pc1 := 4) at_65_1 (am_vR_s e2).1 rfl ?_
  refine aw_iload_n (pc1 := 5) at_65_4 l1 rfl ?_
  refine aw_iconst (v := 0) (pc1 := 6) at_65_5 (by decide) rfl ?_
  obtain ⟨z3, hs2⟩ := am_ift hs1
  clear hs1
  refine aw_call (F := fm_54 v1 x1 0 h) (t := true) (na := 3) (kd := 1) (as := [v1, (.int x1), (.int 0)]) at_65_6 (am_k3v kb_54) mn_54 mk_54 rfl rfl (am_ok_v mi_54 (am_hl rfl (am_ccR (am_vR_s e2).2 (am_ccI (am_ccI am_cats_0))) rfl) z3) (am_hc am_cats_0 rfl) (fun _ => ⟨rfl, hh_65⟩) (fun o1 hz9 => rm_54 v1 x1 0 h o1 (am_vR_s e2).2 hz9) ?_
  rcases am_cI_s hs2 with ⟨v4, h5, f6, hs3⟩ | hs3
  · clear hs2
    refine Or.inl ⟨_, _, f6, ?_⟩
    show am_W X _ 65 9 _ [(.int v4)] h5 _
    refine aw_istore_n (lv1 := am_put1 _ 3 _) (pc1 := 10) at_65_9 rfl rfl ?_
    refine aw_iload_n (pc1 := 11) at_65_10 (am_lk1 l1 rfl rfl) rfl ?_
    refine aw_iconst (v := 1) (pc1 := 12) at_65_11 (by decide) rfl ?_
    refine aw_iadd (v := (x1 + 1)) (pc1 := 13) at_65_12 rfl rfl ?_
    refine aw_istore (lv1 := am_put1 _ 4 _) (pc1 := 15) at_65_13 rfl rfl ?_
    refine aw_iload_n (pc1 := 16) at_65_15 (am_lk1 am_lk0 rfl rfl) rfl ?_
    by_cases c7 : ¬ v4 = 0
    · rw [if_pos c7] at hs3
      refine aw_ifne_t at_65_16 c7 ?_
      refine aw_iload_n (pc1 := 36) at_65_35 (am_lk1 am_lk0 rfl rfl) rfl ?_
      refine aw_bipush (v := 7) (pc1 := 38) at_65_36 (by decide) rfl ?_
      by_cases c8 : 7 ≤ v4
      · rw [if_pos c8] at hs3
        refine aw_icge_t at_65_38 c8 ?_
        refine aw_vload_n (pc1 := 57) at_65_56 (am_lk1 (am_lk1 l0 rfl rfl) rfl rfl) i0 rfl ?_
        refine aw_bipush (v := 40) (pc1 := 59) at_65_57 (by decide) rfl ?_
        obtain ⟨z9, hs4⟩ := am_ift hs3
        clear hs3
        refine aw_call (F := fm_68 x0 40 h5) (t := true) (na := 2) (kd := 1) (as := [x0, (.int 40)]) at_65_59 (am_k3v kb_68) mn_68 mk_68 rfl rfl (am_ok_v mi_68 (am_hl rfl (am_ccR i0 (am_ccI am_cats_0)) rfl) z9) (am_hc am_cats_0 rfl) (fun _ => ⟨rfl, hh_65⟩) (fun o1 hz9 => rm_68 x0 40 h5 o1 i0 hz9) ?_
        rcases am_cV_s hs4 with ⟨h11, f12, hs5⟩ | hs5
        · clear hs4
          refine Or.inl ⟨_, _, f12, ?_⟩
          show am_W X _ 65 62 _ [] h11 _
          refine aw_vload_n (pc1 := 63) at_65_62 (am_lk1 (am_lk1 l0 rfl rfl) rfl rfl) i0 rfl ?_
          refine am_W.ldt at_65_63 rfl ?_
          show am_W _ _ _ 65 _ [(Value.float 4), x0] _ _
          refine aw_iload_n (pc1 := 66) at_65_65 (am_lk1 am_lk0 rfl rfl) rfl ?_
          refine aw_bipush (v := 7) (pc1 := 68) at_65_66 (by decide) rfl ?_
          refine aw_isub (v := (v4 - 7)) (pc1 := 69) at_65_68 rfl rfl ?_
          obtain ⟨v13, e14, hs6⟩ := am_bind hs5
          clear hs5
          refine aw_pTx (j := 4) at_65_69 rfl rfl rfl e14 (am_hc (am_ccR i0 am_cats_0) rfl) ?_
          obtain ⟨z15, hs7⟩ := am_ift hs6
          clear hs6
          refine aw_call (F := fm_68 x0 v13 h11) (t := true) (na := 2) (kd := 1) (as := [x0, (.int v13)]) at_65_72 (am_k3v kb_68) mn_68 mk_68 rfl rfl (am_ok_v mi_68 (am_hl rfl (am_ccR i0 (am_ccI am_cats_0)) rfl) z15) (am_hc am_cats_0 rfl) (fun _ => ⟨rfl, hh_65⟩) (fun o1 hz9 => rm_68 x0 v13 h11 o1 i0 hz9) ?_
          rcases am_cV_s hs7 with ⟨h17, f18, hs8⟩ | hs8
          · clear hs7
            refine Or.inl ⟨_, _, f18, ?_⟩
            show am_W X _ 65 75 _ [] h17 _
            refine aw_iconst (v := 0) (pc1 := 76) at_65_75 (by decide) rfl ?_
            refine aw_istore (lv1 := am_put1 _ 5 _) (pc1 := 78) at_65_76 rfl rfl ?_
            exact rg_65_78 qc_65 N x0 x2 v4 ((x1 + 1)) 0 h17 o hs8 _ (am_lk1 (am_lk1 (am_lk1 l0 rfl rfl) rfl rfl) rfl rfl) (am_lk1 (am_lk1 (am_lk1 l2 rfl rfl) rfl rfl) rfl rfl) (am_lk1 (am_lk1 am_lk0 rfl rfl) rfl rfl) (am_lk1 am_lk0 rfl rfl) am_lk0 i0
          · clear hs7
            exact Or.inr hs8
        · clear hs4
          exact Or.inr hs5
      · rw [if_neg c8] at hs3
        refine aw_icge_f (pc1 := 41) at_65_38 c8 rfl ?_
        refine aw_vload_n (pc1 := 42) at_65_41 (am_lk1 (am_lk1 l0 rfl rfl) rfl rfl) i0 rfl ?_
        refine am_W.ldt at_65_42 rfl ?_
        show am_W _ _ _ 44 _ [(Value.float 3), x0] _ _
        refine aw_iload_n (pc1 := 45) at_65_44 (am_lk1 am_lk0 rfl rfl) rfl ?_
        refine aw_iconst (v := 1) (pc1 := 46) at_65_45 (by decide) rfl ?_
        refine aw_isub (v := (v4 - 1)) (pc1 := 47) at_65_46 rfl rfl ?_
        obtain ⟨v19, e20, hs9⟩ := am_bind hs3
        clear hs3
        refine aw_pTx (j := 3) at_65_47 rfl rfl rfl e20 (am_hc (am_ccR i0 am_cats_0) rfl) ?_
        obtain ⟨z21, hs10⟩ := am_ift hs9
        clear hs9
        refine aw_call (F := fm_68 x0 v19 h5) (t := true) (na := 2) (kd := 1) (as := [x0, (.int v19)]) at_65_50 (am_k3v kb_68) mn_68 mk_68 rfl rfl (am_ok_v mi_68 (am_hl rfl (am_ccR i0 (am_ccI am_cats_0)) rfl) z21) (am_hc am_cats_0 rfl) (fun _ => ⟨rfl, hh_65⟩) (fun o1 hz9 => rm_68 x0 v19 h5 o1 i0 hz9) ?_
        rcases am_cV_s hs10 with ⟨h23, f24, hs11⟩ | hs11
        · clear hs10
          refine Or.inl ⟨_, _, f24, ?_⟩
          show am_W X _ 65 53 _ [] h23 _
          refine aw_goto at_65_53 ?_
          exact rg_65_122 qc_65 ((x1 + 1)) h23 o am_lk0  hs11
        · clear hs10
          exact Or.inr hs11
    · rw [if_neg c7] at hs3
      refine aw_ifne_f (pc1 := 19) at_65_16 c7 rfl ?_
      refine aw_vload_n (pc1 := 20) at_65_19 (am_lk1 (am_lk1 l0 rfl rfl) rfl rfl) i0 rfl ?_
      refine aw_vload_n (pc1 := 21) at_65_20 (am_lk1 (am_lk1 l0 rfl rfl) rfl rfl) i0 rfl ?_
      obtain ⟨v25, e26, hs12⟩ := am_bind hs3
      clear hs3
      refine aw_pG (pc1 := 24) at_65_21 (am_vR_s e26).1 rfl ?_
      refine aw_iload_n (pc1 := 25) at_65_24 (am_lk1 (am_lk1 l1 rfl rfl) rfl rfl) rfl ?_
      refine aw_iconst (v := 1) (pc1 := 26) at_65_25 (by decide) rfl ?_
      obtain ⟨z27, hs13⟩ := am_ift hs12
      clear hs12
      refine aw_call (F := fm_54 v25 x1 1 h5) (t := true) (na := 3) (kd := 1) (as := [v25, (.int x1), (.int 1)]) at_65_26 (am_k3v kb_54) mn_54 mk_54 rfl rfl (am_ok_v mi_54 (am_hl rfl (am_ccR (am_vR_s e26).2 (am_ccI (am_ccI am_cats_0))) rfl) z27) (am_hc (am_ccR i0 am_cats_0) rfl) (fun _ => ⟨rfl, hh_65⟩) (fun o1 hz9 => rm_54 v25 x1 1 h5 o1 (am_vR_s e26).2 hz9) ?_
      rcases am_cI_s hs13 with ⟨v28, h29, f30, hs14⟩ | hs14
      · clear hs13
        refine Or.inl ⟨_, _, f30, ?_⟩
        show am_W X _ 65 29 _ [(.int v28), x0] h29 _
        obtain ⟨z31, hs15⟩ := am_ift hs14
        clear hs14
        refine aw_call (F := fm_66 x0 v28 h29) (t := true) (na := 2) (kd := 1) (as := [x0, (.int v28)]) at_65_29 (am_k3v kb_66) mn_66 mk_66 rfl rfl (am_ok_v mi_66 (am_hl rfl (am_ccR i0 (am_ccI am_cats_0)) rfl) z31) (am_hc am_cats_0 rfl) (fun _ => ⟨rfl, hh_65⟩) (fun o1 hz9 => rm_66 x0 v28 h29 o1 i0 hz9) ?_
        rcases am_cV_s hs15 with ⟨h33, f34, hs16⟩ | hs16
        · clear hs15
          refine Or.inl ⟨_, _, f34, ?_⟩
          show am_W X _ 65 32 _ [] h33 _
          refine aw_goto at_65_32 ?_
          exact rg_65_122 qc_65 ((x1 + 1)) h33 o am_lk0  hs16
        · clear hs15
          exact Or.inr hs16
      · clear hs13
        exact Or.inr hs14
  · clear hs2
    exact Or.inr hs3
def fo_65 (N : Nat) (rc_65 : Value → Int32 → Int32 → am_H → Option am_O) (y0 : Value) (y1 : Int32) (y2 : Int32) (h : am_H) : Option am_O := fg_65_0 N rc_65 y0 y1 y2 h
theorem ro_65 {X : am_X} {d : Nat} {N : Nat} {rc_65 : Value → Int32 → Int32 → am_H → Option am_O} (qc_65 : ∀ (y0 : Value) (y1 : Int32) (y2 : Int32) (h : am_H) (o : am_O), (am_isR y0 = true) → rc_65 y0 y1 y2 h = some o → am_W X (d + 2) 65 0 (am_args 0 [y0, .int y1, .int y2]) [] h (fun q => q = o)) (y0 : Value) (y1 : Int32) (y2 : Int32) (h : am_H) (o : am_O) (i0 : am_isR y0 = true) (hs : fo_65 N rc_65 y0 y1 y2 h = some o) : am_W X (d + 3) 65 0 (am_args 0 [y0, .int y1, .int y2]) [] h (fun q => q = o) := by
  rw [am_args_R i0, am_args_I, am_args_I]
  exact rg_65_0 qc_65 y0 y1 y2 h o rfl rfl rfl i0 hs
def gr_65 (N : Nat) : Nat → Nat → List Value → am_H → Option am_O
  | 0 => fun _ _ _ => none
  | K + 1 => fun w as h => match w, as with
    | 65, [y0, .int y1, .int y2] => fo_65 N (fun y0 y1 y2 h => gr_65 N K 65 [y0, .int y1, .int y2] h) y0 y1 y2 h
    | _, _ => none
theorem gs_65 {X : am_X} {d N : Nat} : ∀ K : Nat, (∀ (y0 : Value) (y1 : Int32) (y2 : Int32) (h : am_H) (o : am_O), (am_isR y0 = true) → gr_65 N K 65 [y0, .int y1, .int y2] h = some o → am_W X (d + 3 * K) 65 0 (am_args 0 [y0, .int y1, .int y2]) [] h (fun q => q = o)) := by
  intro K
  induction K with
  | zero => exact fun _ _ _ h o _ hs => (by cases hs)
  | succ K ih =>
    have q65 := ih
    have up : d + 3 * K ≤ d + 3 * K + 2 := Nat.le_add_right _ _
    have eD : d + 3 * (K + 1) = d + 3 * K + 3 := by rw [Nat.mul_succ, Nat.add_assoc]
    rw [eD]
    skip
    · intro y0 y1 y2 h o i0 hs
      exact ro_65 (fun w0 w1 w2 h o k0 hs => (q65 w0 w1 w2 h o k0 hs).up up) y0 y1 y2 h o i0 hs
def fm_65 (N : Nat) (y0 : Value) (y1 : Int32) (y2 : Int32) (h : am_H) : Option am_O := gr_65 N 40 65 [y0, .int y1, .int y2] h
theorem rm_65 {X : am_X} {d : Nat} {N : Nat} (y0 : Value) (y1 : Int32) (y2 : Int32) (h : am_H) (o : am_O) (i0 : am_isR y0 = true) (hs : fm_65 N y0 y1 y2 h = some o) : am_W X (d + 120) 65 0 (am_args 0 [y0, .int y1, .int y2]) [] h (fun q => q = o) := (gs_65 (X := X) (d := d) (N := N) 40) y0 y1 y2 h o i0 hs
def fg_367_0 (x0 : Int32) (x1 : Int32) (h : am_H) : Option am_O := some (.inl (some (.int ((x0 >>> ((3 * x1) &&& 31)) &&& 7)), h))
theorem rg_367_0 {X : am_X} {d : Nat} {lv : am_LV} (x0 : Int32) (x1 : Int32) (h : am_H) (o : am_O) (l0 : lv.lookup 0 = some (.int x0)) (l1 : lv.lookup 1 = some (.int x1)) (hs : fg_367_0 x0 x1 h = some o) : am_W X (d) 367 0 lv [] h (fun q => q = o) := by
  unfold fg_367_0 at hs
  refine aw_iload_n (pc1 := 1) at_367_0 l0 rfl ?_
  refine aw_iconst (v := 3) (pc1 := 2) at_367_1 (by decide) rfl ?_
  refine aw_iload_n (pc1 := 3) at_367_2 l1 rfl ?_
  refine aw_imul (v := (3 * x1)) (pc1 := 4) at_367_3 rfl rfl ?_
  refine aw_ishr (v := (x0 >>> ((3 * x1) &&& 31))) (pc1 := 5) at_367_4 rfl rfl ?_
  refine aw_bipush (v := 7) (pc1 := 7) at_367_5 (by decide) rfl ?_
  refine aw_iand (v := ((x0 >>> ((3 * x1) &&& 31)) &&& 7)) (pc1 := 8) at_367_7 rfl rfl ?_
  cases hs
  exact aw_iret at_367_8 (by rw [rt_367]; rfl) rfl
def fm_367 (y0 : Int32) (y1 : Int32) (h : am_H) : Option am_O := fg_367_0 y0 y1 h
theorem rm_367 {X : am_X} {d : Nat} (y0 : Int32) (y1 : Int32) (h : am_H) (o : am_O) (hs : fm_367 y0 y1 h = some o) : am_W X (d) 367 0 (am_args 0 [.int y0, .int y1]) [] h (fun q => q = o) := by
  rw [am_args_I, am_args_I]
  exact rg_367_0 y0 y1 h o rfl rfl  hs
def fg_393_7 (N : Nat) : Nat → Value → Int32 → Int32 → Int32 → am_H → Option am_O
  | 0 => fun _ _ _ _ _ => none
  | K + 1 => fun x0 x2 x3 x4 h => (if x2 ≤ x4 then some (.inl (some (.int x3), h)) else ((am_vR (am_pG 3098 x0 h)).bind fun v2 => ((am_pA 0 v2 x3 h).bind fun v4 => (fg_393_7 N K x0 x2 ((x3 + v4)) ((x4 + 1)) h))))
theorem rg_393_7 {X : am_X} {d : Nat} {N : Nat} : ∀ (K : Nat) (x0 : Value) (x2 : Int32) (x3 : Int32) (x4 : Int32) (h : am_H) (o : am_O), fg_393_7 N K x0 x2 x3 x4 h = some o → ∀ lv : am_LV, (lv.lookup 0 = some x0) → (lv.lookup 2 = some (.int x2)) → (lv.lookup 3 = some (.int x3)) → (lv.lookup 4 = some (.int x4)) → (am_isR x0 = true) → am_W X (d) 393 7 lv [] h (fun q => q = o) := by
  intro K
  induction K with
  | zero => intro x0 x2 x3 x4 h o hs; cases hs
  | succ K ih =>
    intro x0 x2 x3 x4 h o hs lv l0 l2 l3 l4 i0
    unfold fg_393_7 at hs
    refine aw_iload (pc1 := 9) at_393_7 l4 rfl ?_
    refine aw_iload_n (pc1 := 10) at_393_9 l2 rfl ?_
    by_cases c1 : x2 ≤ x4
    · rw [if_pos c1] at hs
      refine aw_icge_t at_393_10 c1 ?_
      refine aw_iload_n (pc1 := 29) at_393_28 l3 rfl ?_
      cases hs
      exact aw_iret at_393_29 (by rw [rt_393]; rfl) rfl
    · rw [if_neg c1] at hs
      refine aw_icge_f (pc1 := 13) at_393_10 c1 rfl ?_
      refine aw_iload_n (pc1 := 14) at_393_13 l3 rfl ?_
      refine aw_vload_n (pc1 := 15) at_393_14 l0 i0 rfl ?_
      obtain ⟨v2, e3, hs1⟩ := am_bind hs
      clear hs
      refine aw_pG (pc1 := 18) at_393_15 (am_vR_s e3).1 rfl ?_
      refine aw_iload_n (pc1 := 19) at_393_18 l3 rfl ?_
      obtain ⟨v4, e5, hs2⟩ := am_bind hs1
      clear hs1
      refine aw_pA (pc1 := 20) at_393_19 (Or.inl ⟨rfl, rfl⟩) e5 rfl ?_
      refine aw_iadd (v := (x3 + v4)) (pc1 := 21) at_393_20 rfl rfl ?_
      refine aw_istore_n (lv1 := am_put1 _ 3 _) (pc1 := 22) at_393_21 rfl rfl ?_
      refine aw_iinc (v := (x4 + 1)) (c := 1) (lv1 := am_put1 _ 4 _) (pc1 := 25) at_393_22 (am_lk1 l4 rfl rfl) (by decide) rfl rfl rfl ?_
      refine aw_goto at_393_25 ?_
      exact ih x0 x2 ((x3 + v4)) ((x4 + 1)) h o hs2 _ (am_lk1 (am_lk1 l0 rfl rfl) rfl rfl) (am_lk1 (am_lk1 l2 rfl rfl) rfl rfl) (am_lk1 am_lk0 rfl rfl) am_lk0 i0
def fg_393_0 (N : Nat) (x0 : Value) (x1 : Int32) (x2 : Int32) (h : am_H) : Option am_O := (fg_393_7 N N x0 x2 ((x1 + 1)) 0 h)
theorem rg_393_0 {X : am_X} {d : Nat} {N : Nat} {lv : am_LV} (x0 : Value) (x1 : Int32) (x2 : Int32) (h : am_H) (o : am_O) (l0 : lv.lookup 0 = some x0) (l1 : lv.lookup 1 = some (.int x1)) (l2 : lv.lookup 2 = some (.int x2)) (i0 : am_isR x0 = true) (hs : fg_393_0 N x0 x1 x2 h = some o) : am_W X (d) 393 0 lv [] h (fun q => q = o) := by
  unfold fg_393_0 at hs
  refine aw_iload_n (pc1 := 1) at_393_0 l1 rfl ?_
  refine aw_iconst (v := 1) (pc1 := 2) at_393_1 (by decide) rfl ?_
  refine aw_iadd (v := (x1 + 1)) (pc1 := 3) at_393_2 rfl rfl ?_
  refine aw_istore_n (lv1 := am_put1 _ 3 _) (pc1 := 4) at_393_3 rfl rfl ?_
  refine aw_iconst (v := 0) (pc1 := 5) at_393_4 (by decide) rfl ?_
  refine aw_istore (lv1 := am_put1 _ 4 _) (pc1 := 7) at_393_5 rfl rfl ?_
  exact rg_393_7 N x0 x2 ((x1 + 1)) 0 h o hs _ (am_lk1 (am_lk1 l0 rfl rfl) rfl rfl) (am_lk1 (am_lk1 l2 rfl rfl) rfl rfl) (am_lk1 am_lk0 rfl rfl) am_lk0 i0
def fm_393 (N : Nat) (y0 : Value) (y1 : Int32) (y2 : Int32) (h : am_H) : Option am_O := fg_393_0 N y0 y1 y2 h
theorem rm_393 {X : am_X} {d : Nat} {N : Nat} (y0 : Value) (y1 : Int32) (y2 : Int32) (h : am_H) (o : am_O) (i0 : am_isR y0 = true) (hs : fm_393 N y0 y1 y2 h = some o) : am_W X (d) 393 0 (am_args 0 [y0, .int y1, .int y2]) [] h (fun q => q = o) := by
  rw [am_args_R i0, am_args_I, am_args_I]
  exact rg_393_0 y0 y1 y2 h o rfl rfl rfl i0 hs
def fg_108_15 (h : am_H) : Option am_O := some (.inr (2, h ++ [am_dummy]))
theorem rg_108_15 {X : am_X} {d : Nat} {lv : am_LV} (h : am_H) (o : am_O) (hs : fg_108_15 h = some o) : am_W X (d) 108 15 lv [] h (fun q => q = o) := by
  unfold fg_108_15 at hs
  cases hs
  exact aw_throw at_108_15 rfl th_108_15 (am_hc am_cats_0 rfl) rfl
def fg_108_0 (x0 : Value) (x1 : Int32) (h : am_H) : Option am_O := (if x1 < 0 then (fg_108_15 h) else ((am_vR (am_pG 2819 x0 h)).bind fun v2 => ((am_vI (am_pG 513 v2 h)).bind fun v4 => (if x1 < v4 then some (.inl (none, h)) else (fg_108_15 h)))))
theorem rg_108_0 {X : am_X} {d : Nat} {lv : am_LV} (x0 : Value) (x1 : Int32) (h : am_H) (o : am_O) (l0 : lv.lookup 0 = some x0) (l1 : lv.lookup 1 = some (.int x1)) (i0 : am_isR x0 = true) (hs : fg_108_0 x0 x1 h = some o) : am_W X (d) 108 0 lv [] h (fun q => q = o) := by
  unfold fg_108_0 at hs
  refine aw_iload_n (pc1 := 1) at_108_0 l1 rfl ?_
  by_cases c1 : x1 < 0
  · rw [if_pos c1] at hs
    refine aw_iflt_t at_108_1 c1 ?_
    exact rg_108_15 h o   hs
  · rw [if_neg c1] at hs
    refine aw_iflt_f (pc1 := 4) at_108_1 c1 rfl ?_
    refine aw_iload_n (pc1 := 5) at_108_4 l1 rfl ?_
    refine aw_vload_n (pc1 := 6) at_108_5 l0 i0 rfl ?_
    obtain ⟨v2, e3, hs1⟩ := am_bind hs
    clear hs
    refine aw_pG (pc1 := 9) at_108_6 (am_vR_s e3).1 rfl ?_
    obtain ⟨v4, e5, hs2⟩ := am_bind hs1
    clear hs1
    refine aw_pG (pc1 := 12) at_108_9 (am_vI_s e5) rfl ?_
    by_cases c6 : x1 < v4
    · rw [if_pos c6] at hs2
      refine aw_iclt_t at_108_12 c6 ?_
      cases hs2
      exact aw_vret at_108_26 rt_108 rfl
    · rw [if_neg c6] at hs2
      refine aw_iclt_f (pc1 := 15) at_108_12 c6 rfl ?_
      exact rg_108_15 h o   hs2
def fm_108 (y0 : Value) (y1 : Int32) (h : am_H) : Option am_O := fg_108_0 y0 y1 h
theorem rm_108 {X : am_X} {d : Nat} (y0 : Value) (y1 : Int32) (h : am_H) (o : am_O) (i0 : am_isR y0 = true) (hs : fm_108 y0 y1 h = some o) : am_W X (d) 108 0 (am_args 0 [y0, .int y1]) [] h (fun q => q = o) := by
  rw [am_args_R i0, am_args_I]
  exact rg_108_0 y0 y1 h o rfl rfl i0 hs
def fg_109_0 (x0 : Value) (x1 : Int32) (h : am_H) : Option am_O := ((am_vR (am_pG 512 x0 h)).bind fun v1 => ((am_vR (am_pG 512 x0 h)).bind fun v3 => ((am_vI (am_pG 513 x0 h)).bind fun v5 => ((am_pCpy v1 ((x1 + 1) * 15) v3 (x1 * 15) (((v5 - 1) - x1) * 15) h).bind fun h7 => ((am_vI (am_pG 513 x0 h7)).bind fun v9 => ((am_pP 513 x0 (.int (v9 - 1)) h7).bind fun h11 => some (.inl (none, h11))))))))
theorem rg_109_0 {X : am_X} {d : Nat} {lv : am_LV} (x0 : Value) (x1 : Int32) (h : am_H) (o : am_O) (l0 : lv.lookup 0 = some x0) (l1 : lv.lookup 1 = some (.int x1)) (i0 : am_isR x0 = true) (hs : fg_109_0 x0 x1 h = some o) : am_W X (d) 109 0 lv [] h (fun q => q = o) := by
  unfold fg_109_0 at hs
  refine aw_vload_n (pc1 := 1) at_109_0 l0 i0 rfl ?_
  obtain ⟨v1, e2, hs1⟩ := am_bind hs
  clear hs
  refine aw_pG (pc1 := 4) at_109_1 (am_vR_s e2).1 rfl ?_
  refine aw_iload_n (pc1 := 5) at_109_4 l1 rfl ?_
  refine aw_iconst (v := 1) (pc1 := 6) at_109_5 (by decide) rfl ?_
  refine aw_iadd (v := (x1 + 1)) (pc1 := 7) at_109_6 rfl rfl ?_
  refine aw_bipush (v := 15) (pc1 := 9) at_109_7 (by decide) rfl ?_
  refine aw_imul (v := ((x1 + 1) * 15)) (pc1 := 10) at_109_9 rfl rfl ?_
  refine aw_vload_n (pc1 := 11) at_109_10 l0 i0 rfl ?_
  obtain ⟨v3, e4, hs2⟩ := am_bind hs1
  clear hs1
  refine aw_pG (pc1 := 14) at_109_11 (am_vR_s e4).1 rfl ?_
  refine aw_iload_n (pc1 := 15) at_109_14 l1 rfl ?_
  refine aw_bipush (v := 15) (pc1 := 17) at_109_15 (by decide) rfl ?_
  refine aw_imul (v := (x1 * 15)) (pc1 := 18) at_109_17 rfl rfl ?_
  refine aw_vload_n (pc1 := 19) at_109_18 l0 i0 rfl ?_
  obtain ⟨v5, e6, hs3⟩ := am_bind hs2
  clear hs2
  refine aw_pG (pc1 := 22) at_109_19 (am_vI_s e6) rfl ?_
  refine aw_iconst (v := 1) (pc1 := 23) at_109_22 (by decide) rfl ?_
  refine aw_isub (v := (v5 - 1)) (pc1 := 24) at_109_23 rfl rfl ?_
  refine aw_iload_n (pc1 := 25) at_109_24 l1 rfl ?_
  refine aw_isub (v := ((v5 - 1) - x1)) (pc1 := 26) at_109_25 rfl rfl ?_
  refine aw_bipush (v := 15) (pc1 := 28) at_109_26 (by decide) rfl ?_
  refine aw_imul (v := (((v5 - 1) - x1) * 15)) (pc1 := 29) at_109_28 rfl rfl ?_
  obtain ⟨h7, e8, hs4⟩ := am_bind hs3
  clear hs3
  refine aw_pCpy at_109_29 rfl e8 (am_hc am_cats_0 rfl) ?_
  refine aw_vload_n (pc1 := 33) at_109_32 l0 i0 rfl ?_
  refine aw_vdup (pc1 := 34) at_109_33 i0 rfl ?_
  obtain ⟨v9, e10, hs5⟩ := am_bind hs4
  clear hs4
  refine aw_pG (pc1 := 37) at_109_34 (am_vI_s e10) rfl ?_
  refine aw_iconst (v := 1) (pc1 := 38) at_109_37 (by decide) rfl ?_
  refine aw_isub (v := (v9 - 1)) (pc1 := 39) at_109_38 rfl rfl ?_
  obtain ⟨h11, e12, hs6⟩ := am_bind hs5
  clear hs5
  refine aw_pP (pc1 := 42) at_109_39 e12 rfl ?_
  cases hs6
  exact aw_vret at_109_42 rt_109 rfl
def fm_109 (y0 : Value) (y1 : Int32) (h : am_H) : Option am_O := fg_109_0 y0 y1 h
theorem rm_109 {X : am_X} {d : Nat} (y0 : Value) (y1 : Int32) (h : am_H) (o : am_O) (i0 : am_isR y0 = true) (hs : fm_109 y0 y1 h = some o) : am_W X (d) 109 0 (am_args 0 [y0, .int y1]) [] h (fun q => q = o) := by
  rw [am_args_R i0, am_args_I]
  exact rg_109_0 y0 y1 h o rfl rfl i0 hs
def fg_107_0 (x0 : Value) (x1 : Int32) (h : am_H) : Option am_O := (if am_pOk 11 x0 h then am_cV true (fm_108 x0 x1 h) (fun h3 => ((am_vR (am_pG 2819 x0 h3)).bind fun v5 => (if am_pOk 2 v5 h3 then am_cV true (fm_109 v5 x1 h3) (fun h9 => ((am_vR (am_pG 2819 x0 h9)).bind fun v11 => ((am_vI (am_pG 513 v11 h9)).bind fun v13 => some (.inl (some (.int v13), h9))))) else none))) else none)
theorem rg_107_0 {X : am_X} {d : Nat} {lv : am_LV} (x0 : Value) (x1 : Int32) (h : am_H) (o : am_O) (l0 : lv.lookup 0 = some x0) (l1 : lv.lookup 1 = some (.int x1)) (i0 : am_isR x0 = true) (hs : fg_107_0 x0 x1 h = some o) : am_W X (d + 1) 107 0 lv [] h (fun q => q = o) := by
  unfold fg_107_0 at hs
  refine aw_vload_n (pc1 := 1) at_107_0 l0 i0 rfl ?_
  refine aw_iload_n (pc1 := 2) at_107_1 l1 rfl ?_
  obtain ⟨z1, hs1⟩ := am_ift hs
  clear hs
  refine aw_call (F := fm_108 x0 x1 h) (t := true) (na := 2) (kd := 1) (as := [x0, (.int x1)]) at_107_2 (am_k3v kb_108) mn_108 mk_108 rfl rfl (am_ok_v mi_108 (am_hl rfl (am_ccR i0 (am_ccI am_cats_0)) rfl) z1) (am_hc am_cats_0 rfl) (fun _ => ⟨rfl, hh_107⟩) (fun o1 hz9 => rm_108 x0 x1 h o1 i0 hz9) ?_
  rcases am_cV_s hs1 with ⟨h3, f4, hs2⟩ | hs2
  · clear hs1
    refine Or.inl ⟨_, _, f4, ?_⟩
    show am_W X _ 107 5 _ [] h3 _
    refine aw_vload_n (pc1 := 6) at_107_5 l0 i0 rfl ?_
    obtain ⟨v5, e6, hs3⟩ := am_bind hs2
    clear hs2
    refine aw_pG (pc1 := 9) at_107_6 (am_vR_s e6).1 rfl ?_
    refine aw_iload_n (pc1 := 10) at_107_9 l1 rfl ?_
    obtain ⟨z7, hs4⟩ := am_ift hs3
    clear hs3
    refine aw_call (F := fm_109 v5 x1 h3) (t := true) (na := 2) (kd := 1) (as := [v5, (.int x1)]) at_107_10 (am_k3v kb_109) mn_109 mk_109 rfl rfl (am_ok_v mi_109 (am_hl rfl (am_ccR (am_vR_s e6).2 (am_ccI am_cats_0)) rfl) z7) (am_hc am_cats_0 rfl) (fun _ => ⟨rfl, hh_107⟩) (fun o1 hz9 => rm_109 v5 x1 h3 o1 (am_vR_s e6).2 hz9) ?_
    rcases am_cV_s hs4 with ⟨h9, f10, hs5⟩ | hs5
    · clear hs4
      refine Or.inl ⟨_, _, f10, ?_⟩
      show am_W X _ 107 13 _ [] h9 _
      refine aw_vload_n (pc1 := 14) at_107_13 l0 i0 rfl ?_
      obtain ⟨v11, e12, hs6⟩ := am_bind hs5
      clear hs5
      refine aw_pG (pc1 := 17) at_107_14 (am_vR_s e12).1 rfl ?_
      obtain ⟨v13, e14, hs7⟩ := am_bind hs6
      clear hs6
      refine aw_pG (pc1 := 20) at_107_17 (am_vI_s e14) rfl ?_
      cases hs7
      exact aw_iret at_107_20 (by rw [rt_107]; rfl) rfl
    · clear hs4
      exact Or.inr hs5
  · clear hs1
    exact Or.inr hs2
def fm_107 (y0 : Value) (y1 : Int32) (h : am_H) : Option am_O := fg_107_0 y0 y1 h
theorem rm_107 {X : am_X} {d : Nat} (y0 : Value) (y1 : Int32) (h : am_H) (o : am_O) (i0 : am_isR y0 = true) (hs : fm_107 y0 y1 h = some o) : am_W X (d + 1) 107 0 (am_args 0 [y0, .int y1]) [] h (fun q => q = o) := by
  rw [am_args_R i0, am_args_I]
  exact rg_107_0 y0 y1 h o rfl rfl i0 hs
def fg_106_13 (h : am_H) : Option am_O := some (.inl (some (.int 1), h))
theorem rg_106_13 {X : am_X} {d : Nat} {lv : am_LV} (h : am_H) (o : am_O) (hs : fg_106_13 h = some o) : am_W X (d + 2) 106 13 lv [] h (fun q => q = o) := by
  unfold fg_106_13 at hs
  refine aw_iconst (v := 1) (pc1 := 14) at_106_13 (by decide) rfl ?_
  cases hs
  exact aw_iret at_106_14 (by rw [rt_106]; rfl) rfl
def fg_106_0 (x0 : Value) (x1 : Int32) (x2 : Value) (h : am_H) : Option am_O := (if am_pOk 11 x0 h then (match fm_107 x0 x1 h with | some (.inl (some (.int v2), h3)) => ((am_pSL x2 0 (Int32.toInt64 v2) h3).bind fun h5 => some (.inl (some (.int 0), h5))) | some (.inr (2, h7)) => (fg_106_13 h7) | _ => none) else none)
theorem rg_106_0 {X : am_X} {d : Nat} {lv : am_LV} (x0 : Value) (x1 : Int32) (x2 : Value) (h : am_H) (o : am_O) (l0 : lv.lookup 0 = some x0) (l1 : lv.lookup 1 = some (.int x1)) (l2 : lv.lookup 2 = some x2) (i0 : am_isR x0 = true) (i2 : am_isR x2 = true) (hs : fg_106_0 x0 x1 x2 h = some o) : am_W X (d + 2) 106 0 lv [] h (fun q => q = o) := by
  unfold fg_106_0 at hs
  refine aw_vload_n (pc1 := 1) at_106_0 l2 i2 rfl ?_
  refine aw_iconst (v := 0) (pc1 := 2) at_106_1 (by decide) rfl ?_
  refine aw_vload_n (pc1 := 3) at_106_2 l0 i0 rfl ?_
  refine aw_iload_n (pc1 := 4) at_106_3 l1 rfl ?_
  obtain ⟨z1, hs1⟩ := am_ift hs
  clear hs
  refine aw_callH (F := fm_107 x0 x1 h) (na := 2) (kd := 1) (as := [x0, (.int x1)]) at_106_4 (am_k3v kb_107) mn_107 mk_107 rfl rfl (am_ok_v mi_107 (am_hl rfl (am_ccR i0 (am_ccI am_cats_0)) rfl) z1) (am_hc (am_ccI (am_ccR i2 am_cats_0)) rfl) (fun o1 hz9 => rm_107 x0 x1 h o1 i0 hz9) ?_
  split at hs1
  · rename_i v2 h3 f4
    refine Or.inl ⟨_, _, f4, ?_⟩
    show am_W X _ 106 7 _ [(.int v2), (.int 0), x2] h3 _
    refine aw_i2l (v := (Int32.toInt64 v2)) (pc1 := 8) at_106_7 rfl rfl ?_
    obtain ⟨h5, e6, hs2⟩ := am_bind hs1
    clear hs1
    refine aw_pSL (pc1 := 9) at_106_8 e6 rfl ?_
    refine aw_goto at_106_9 ?_
    refine aw_iconst (v := 0) (pc1 := 16) at_106_15 (by decide) rfl ?_
    cases hs2
    exact aw_iret at_106_16 (by rw [rt_106]; rfl) rfl
  · rename_i h7 f8
    refine Or.inr ⟨_, _, 13, 3, f8, rfl, hn_106, hd_106_4_2, ?_⟩
    exact rg_106_13 h7 o   hs1
  · cases hs1
def fm_106 (y0 : Value) (y1 : Int32) (y2 : Value) (h : am_H) : Option am_O := fg_106_0 y0 y1 y2 h
theorem rm_106 {X : am_X} {d : Nat} (y0 : Value) (y1 : Int32) (y2 : Value) (h : am_H) (o : am_O) (i0 : am_isR y0 = true) (i2 : am_isR y2 = true) (hs : fm_106 y0 y1 y2 h = some o) : am_W X (d + 2) 106 0 (am_args 0 [y0, .int y1, y2]) [] h (fun q => q = o) := by
  rw [am_args_R i0, am_args_I, am_args_R i2]
  exact rg_106_0 y0 y1 y2 h o rfl rfl rfl i0 i2 hs
def fg_155_0 (x0 : Value) (x1 : Int32) (h : am_H) : Option am_O := ((am_vR (am_pG 514 x0 h)).bind fun v1 => ((am_pP 1536 v1 (.int x1) h).bind fun h3 => ((am_vR (am_pG 515 x0 h3)).bind fun v5 => ((am_pP 1536 v5 (.int x1) h3).bind fun h7 => some (.inl (none, h7))))))
theorem rg_155_0 {X : am_X} {d : Nat} {lv : am_LV} (x0 : Value) (x1 : Int32) (h : am_H) (o : am_O) (l0 : lv.lookup 0 = some x0) (l1 : lv.lookup 1 = some (.int x1)) (i0 : am_isR x0 = true) (hs : fg_155_0 x0 x1 h = some o) : am_W X (d) 155 0 lv [] h (fun q => q = o) := by
  unfold fg_155_0 at hs
  refine aw_vload_n (pc1 := 1) at_155_0 l0 i0 rfl ?_
  obtain ⟨v1, e2, hs1⟩ := am_bind hs
  clear hs
  refine aw_pG (pc1 := 4) at_155_1 (am_vR_s e2).1 rfl ?_
  refine aw_iload_n (pc1 := 5) at_155_4 l1 rfl ?_
  obtain ⟨h3, e4, hs2⟩ := am_bind hs1
  clear hs1
  refine aw_pP (pc1 := 8) at_155_5 e4 rfl ?_
  refine aw_vload_n (pc1 := 9) at_155_8 l0 i0 rfl ?_
  obtain ⟨v5, e6, hs3⟩ := am_bind hs2
  clear hs2
  refine aw_pG (pc1 := 12) at_155_9 (am_vR_s e6).1 rfl ?_
  refine aw_iload_n (pc1 := 13) at_155_12 l1 rfl ?_
  obtain ⟨h7, e8, hs4⟩ := am_bind hs3
  clear hs3
  refine aw_pP (pc1 := 16) at_155_13 e8 rfl ?_
  cases hs4
  exact aw_vret at_155_16 rt_155 rfl
def fm_155 (y0 : Value) (y1 : Int32) (h : am_H) : Option am_O := fg_155_0 y0 y1 h
theorem rm_155 {X : am_X} {d : Nat} (y0 : Value) (y1 : Int32) (h : am_H) (o : am_O) (i0 : am_isR y0 = true) (hs : fm_155 y0 y1 h = some o) : am_W X (d) 155 0 (am_args 0 [y0, .int y1]) [] h (fun q => q = o) := by
  rw [am_args_R i0, am_args_I]
  exact rg_155_0 y0 y1 h o rfl rfl i0 hs
def fg_154_31 (X : am_X) (h : am_H) : Option am_O := some (.inr (0, h ++ [am_dummy]))
theorem rg_154_31 {X : am_X} {d : Nat} {lv : am_LV} (h : am_H) (o : am_O) (hs : fg_154_31 X h = some o) : am_W X (d + 1) 154 31 lv [] h (fun q => q = o) := by
  unfold fg_154_31 at hs
  cases hs
  exact aw_throw at_154_31 rfl th_154_31 (am_hc am_cats_0 rfl) rfl
def fg_154_0 (X : am_X) (x0 : Value) (x1 : Int32) (x2 : Int32) (h : am_H) : Option am_O := (if x1 < 0 then (fg_154_31 X h) else ((am_vR (am_pG 2820 x0 h)).bind fun v2 => ((am_pLen v2 h).bind fun v4 => (if v4 ≤ x1 then (fg_154_31 X h) else ((am_pX X 16 x1).bind fun v7 => (if x2 < v7 then (fg_154_31 X h) else ((am_pX X 17 x1).bind fun v10 => (if x2 ≤ v10 then ((am_vR (am_pG 2820 x0 h)).bind fun v13 => ((am_pA 0 v13 x1 h).bind fun v15 => ((am_vR (am_pG 2820 x0 h)).bind fun v17 => ((am_pS 0 v17 x1 x2 h).bind fun h19 => ((am_vR (am_pG 2819 x0 h19)).bind fun v21 => ((am_vR (am_pG 2820 x0 h19)).bind fun v23 => ((am_pA 0 v23 0 h19).bind fun v25 => (if am_pOk 2 v21 h19 then am_cV true (fm_155 v21 v25 h19) (fun h29 => some (.inl (some (.int v15), h29))) else none)))))))) else (fg_154_31 X h)))))))))
theorem rg_154_0 {X : am_X} {d : Nat} {lv : am_LV} (x0 : Value) (x1 : Int32) (x2 : Int32) (h : am_H) (o : am_O) (l0 : lv.lookup 0 = some x0) (l1 : lv.lookup 1 = some (.int x1)) (l2 : lv.lookup 2 = some (.int x2)) (i0 : am_isR x0 = true) (hs : fg_154_0 X x0 x1 x2 h = some o) : am_W X (d + 1) 154 0 lv [] h (fun q => q = o) := by
  unfold fg_154_0 at hs
  refine aw_iload_n (pc1 := 1) at_154_0 l1 rfl ?_
  by_cases c1 : x1 < 0
  · rw [if_pos c1] at hs
    refine aw_iflt_t at_154_1 c1 ?_
    exact rg_154_31 h o   hs
  · rw [if_neg c1] at hs
    refine aw_iflt_f (pc1 := 4) at_154_1 c1 rfl ?_
    refine aw_iload_n (pc1 := 5) at_154_4 l1 rfl ?_
    refine aw_vload_n (pc1 := 6) at_154_5 l0 i0 rfl ?_
    obtain ⟨v2, e3, hs1⟩ := am_bind hs
    clear hs
    refine aw_pG (pc1 := 9) at_154_6 (am_vR_s e3).1 rfl ?_
    obtain ⟨v4, e5, hs2⟩ := am_bind hs1
    clear hs1
    refine aw_pLen (pc1 := 10) at_154_9 e5 rfl ?_
    by_cases c6 : v4 ≤ x1
    · rw [if_pos c6] at hs2
      refine aw_icge_t at_154_10 c6 ?_
      exact rg_154_31 h o   hs2
    · rw [if_neg c6] at hs2
      refine aw_icge_f (pc1 := 13) at_154_10 c6 rfl ?_
      refine aw_iload_n (pc1 := 14) at_154_13 l2 rfl ?_
      refine aw_gst (pc1 := 17) at_154_14 rfl rfl ?_
      show am_W _ _ _ _ _ [(Value.float 16), (.int x2)] _ _
      refine aw_iload_n (pc1 := 18) at_154_17 l1 rfl ?_
      obtain ⟨v7, e8, hs3⟩ := am_bind hs2
      clear hs2
      refine aw_pX (j := 16) (pc1 := 19) at_154_18 rfl rfl e8 rfl ?_
      by_cases c9 : x2 < v7
      · rw [if_pos c9] at hs3
        refine aw_iclt_t at_154_19 c9 ?_
        exact rg_154_31 h o   hs3
      · rw [if_neg c9] at hs3
        refine aw_iclt_f (pc1 := 22) at_154_19 c9 rfl ?_
        refine aw_iload_n (pc1 := 23) at_154_22 l2 rfl ?_
        refine aw_gst (pc1 := 26) at_154_23 rfl rfl ?_
        show am_W _ _ _ _ _ [(Value.float 17), (.int x2)] _ _
        refine aw_iload_n (pc1 := 27) at_154_26 l1 rfl ?_
        obtain ⟨v10, e11, hs4⟩ := am_bind hs3
        clear hs3
        refine aw_pX (j := 17) (pc1 := 28) at_154_27 rfl rfl e11 rfl ?_
        by_cases c12 : x2 ≤ v10
        · rw [if_pos c12] at hs4
          refine aw_icle_t at_154_28 c12 ?_
          refine aw_vload_n (pc1 := 43) at_154_42 l0 i0 rfl ?_
          obtain ⟨v13, e14, hs5⟩ := am_bind hs4
          clear hs4
          refine aw_pG (pc1 := 46) at_154_43 (am_vR_s e14).1 rfl ?_
          refine aw_iload_n (pc1 := 47) at_154_46 l1 rfl ?_
          obtain ⟨v15, e16, hs6⟩ := am_bind hs5
          clear hs5
          refine aw_pA (pc1 := 48) at_154_47 (Or.inl ⟨rfl, rfl⟩) e16 rfl ?_
          refine aw_istore_n (lv1 := am_put1 _ 3 _) (pc1 := 49) at_154_48 rfl rfl ?_
          refine aw_vload_n (pc1 := 50) at_154_49 (am_lk1 l0 rfl rfl) i0 rfl ?_
          obtain ⟨v17, e18, hs7⟩ := am_bind hs6
          clear hs6
          refine aw_pG (pc1 := 53) at_154_50 (am_vR_s e18).1 rfl ?_
          refine aw_iload_n (pc1 := 54) at_154_53 (am_lk1 l1 rfl rfl) rfl ?_
          refine aw_iload_n (pc1 := 55) at_154_54 (am_lk1 l2 rfl rfl) rfl ?_
          obtain ⟨h19, e20, hs8⟩ := am_bind hs7
          clear hs7
          refine aw_pS (pc1 := 56) at_154_55 (Or.inl ⟨rfl, rfl⟩) e20 rfl ?_
          refine aw_vload_n (pc1 := 57) at_154_56 (am_lk1 l0 rfl rfl) i0 rfl ?_
          obtain ⟨v21, e22, hs9⟩ := am_bind hs8
          clear hs8
          refine aw_pG (pc1 := 60) at_154_57 (am_vR_s e22).1 rfl ?_
          refine aw_vload_n (pc1 := 61) at_154_60 (am_lk1 l0 rfl rfl) i0 rfl ?_
          obtain ⟨v23, e24, hs10⟩ := am_bind hs9
          clear hs9
          refine aw_pG (pc1 := 64) at_154_61 (am_vR_s e24).1 rfl ?_
          refine aw_iconst (v := 0) (pc1 := 65) at_154_64 (by decide) rfl ?_
          obtain ⟨v25, e26, hs11⟩ := am_bind hs10
          clear hs10
          refine aw_pA (pc1 := 66) at_154_65 (Or.inl ⟨rfl, rfl⟩) e26 rfl ?_
          obtain ⟨z27, hs12⟩ := am_ift hs11
          clear hs11
          refine aw_call (F := fm_155 v21 v25 h19) (t := true) (na := 2) (kd := 1) (as := [v21, (.int v25)]) at_154_66 (am_k3v kb_155) mn_155 mk_155 rfl rfl (am_ok_v mi_155 (am_hl rfl (am_ccR (am_vR_s e22).2 (am_ccI am_cats_0)) rfl) z27) (am_hc am_cats_0 rfl) (fun _ => ⟨rfl, hh_154⟩) (fun o1 hz9 => rm_155 v21 v25 h19 o1 (am_vR_s e22).2 hz9) ?_
          rcases am_cV_s hs12 with ⟨h29, f30, hs13⟩ | hs13
          · clear hs12
            refine Or.inl ⟨_, _, f30, ?_⟩
            show am_W X _ 154 69 _ [] h29 _
            refine aw_iload_n (pc1 := 70) at_154_69 am_lk0 rfl ?_
            cases hs13
            exact aw_iret at_154_70 (by rw [rt_154]; rfl) rfl
          · clear hs12
            exact Or.inr hs13
        · rw [if_neg c12] at hs4
          refine aw_icle_f (pc1 := 31) at_154_28 c12 rfl ?_
          exact rg_154_31 h o   hs4
def fm_154 (X : am_X) (y0 : Value) (y1 : Int32) (y2 : Int32) (h : am_H) : Option am_O := fg_154_0 X y0 y1 y2 h
theorem rm_154 {X : am_X} {d : Nat} (y0 : Value) (y1 : Int32) (y2 : Int32) (h : am_H) (o : am_O) (i0 : am_isR y0 = true) (hs : fm_154 X y0 y1 y2 h = some o) : am_W X (d + 1) 154 0 (am_args 0 [y0, .int y1, .int y2]) [] h (fun q => q = o) := by
  rw [am_args_R i0, am_args_I, am_args_I]
  exact rg_154_0 y0 y1 y2 h o rfl rfl rfl i0 hs
def fg_160_229 (s0 : Int32) (h : am_H) : Option am_O := some (.inl (some (.int s0), h))
theorem rg_160_229 {X : am_X} {d : Nat} {lv : am_LV} (s0 : Int32) (h : am_H) (o : am_O) (hs : fg_160_229 s0 h = some o) : am_W X (d) 160 229 lv [(.int s0)] h (fun q => q = o) := by
  unfold fg_160_229 at hs
  cases hs
  exact aw_iret at_160_229 (by rw [rt_160]; rfl) rfl
def fg_160_216 (x1 : Int32) (x2 : Int32) (h : am_H) : Option am_O := (if ¬ x1 = 0 then (fg_160_229 ((x2 - 1)) h) else (fg_160_229 ((5 * x2)) h))
theorem rg_160_216 {X : am_X} {d : Nat} {lv : am_LV} (x1 : Int32) (x2 : Int32) (h : am_H) (o : am_O) (l1 : lv.lookup 1 = some (.int x1)) (l2 : lv.lookup 2 = some (.int x2)) (hs : fg_160_216 x1 x2 h = some o) : am_W X (d) 160 216 lv [] h (fun q => q = o) := by
  unfold fg_160_216 at hs
  refine aw_iload_n (pc1 := 217) at_160_216 l1 rfl ?_
  by_cases c1 : ¬ x1 = 0
  · rw [if_pos c1] at hs
    refine aw_ifne_t at_160_217 c1 ?_
    refine aw_iload_n (pc1 := 227) at_160_226 l2 rfl ?_
    refine aw_iconst (v := 1) (pc1 := 228) at_160_227 (by decide) rfl ?_
    refine aw_isub (v := (x2 - 1)) (pc1 := 229) at_160_228 rfl rfl ?_
    exact rg_160_229 ((x2 - 1)) h o   hs
  · rw [if_neg c1] at hs
    refine aw_ifne_f (pc1 := 220) at_160_217 c1 rfl ?_
    refine aw_iconst (v := 5) (pc1 := 221) at_160_220 (by decide) rfl ?_
    refine aw_iload_n (pc1 := 222) at_160_221 l2 rfl ?_
    refine aw_imul (v := (5 * x2)) (pc1 := 223) at_160_222 rfl rfl ?_
    refine aw_goto at_160_223 ?_
    exact rg_160_229 ((5 * x2)) h o   hs
def fg_160_215 (s0 : Int32) (h : am_H) : Option am_O := some (.inl (some (.int s0), h))
theorem rg_160_215 {X : am_X} {d : Nat} {lv : am_LV} (s0 : Int32) (h : am_H) (o : am_O) (hs : fg_160_215 s0 h = some o) : am_W X (d) 160 215 lv [(.int s0)] h (fun q => q = o) := by
  unfold fg_160_215 at hs
  cases hs
  exact aw_iret at_160_215 (by rw [rt_160]; rfl) rfl
def fg_160_187 (s0 : Int32) (h : am_H) : Option am_O := some (.inl (some (.int s0), h))
theorem rg_160_187 {X : am_X} {d : Nat} {lv : am_LV} (s0 : Int32) (h : am_H) (o : am_O) (hs : fg_160_187 s0 h = some o) : am_W X (d) 160 187 lv [(.int s0)] h (fun q => q = o) := by
  unfold fg_160_187 at hs
  cases hs
  exact aw_iret at_160_187 (by rw [rt_160]; rfl) rfl
def fg_160_153 (x2 : Int32) (h : am_H) : Option am_O := some (.inl (some (.int (3 * x2)), h))
theorem rg_160_153 {X : am_X} {d : Nat} {lv : am_LV} (x2 : Int32) (h : am_H) (o : am_O) (l2 : lv.lookup 2 = some (.int x2)) (hs : fg_160_153 x2 h = some o) : am_W X (d) 160 153 lv [] h (fun q => q = o) := by
  unfold fg_160_153 at hs
  refine aw_iconst (v := 3) (pc1 := 154) at_160_153 (by decide) rfl ?_
  refine aw_iload_n (pc1 := 155) at_160_154 l2 rfl ?_
  refine aw_imul (v := (3 * x2)) (pc1 := 156) at_160_155 rfl rfl ?_
  cases hs
  exact aw_iret at_160_156 (by rw [rt_160]; rfl) rfl
def fg_160_58 (x0 : Value) (x1 : Int32) (x2 : Int32) (s0 : Value) (s1 : Int32) (h : am_H) : Option am_O := ((am_pP 8 s0 (.int s1) h).bind fun h1 => ((am_vI (am_pG 7 x0 h1)).bind fun v3 => (if v3 = 1 then some (.inl (some (.int (21 * x2)), h1)) else (if v3 = 2 then (fg_160_153 x2 h1) else (if v3 = 3 then (fg_160_153 x2 h1) else (if v3 = 6 then some (.inl (some (.int (14 * x2)), h1)) else (if v3 = 7 then (fg_160_153 x2 h1) else (if v3 = 8 then some (.inl (some (.int (5 * (x2 + 1))), h1)) else (if v3 = 11 then some (.inl (some (.int ((4 * x2) * x2)), h1)) else (if v3 = 12 then (if 6 ≤ x2 then (fg_160_187 0 h1) else (fg_160_187 ((4 * x2)) h1)) else (if v3 = 15 then ((am_vI (am_pG 8 x0 h1)).bind fun v15 => some (.inl (some (.int (x2 * v15)), h1))) else (if v3 = 16 then some (.inl (some (.int x2), h1)) else (if v3 = 17 then (if 40 ≤ x2 then (fg_160_215 0 h1) else ((am_vI (am_pG 8 x0 h1)).bind fun v20 => (fg_160_215 (((x2 + 1) * v20)) h1))) else (fg_160_216 x1 x2 h1))))))))))))))
theorem rg_160_58 {X : am_X} {d : Nat} {lv : am_LV} (x0 : Value) (x1 : Int32) (x2 : Int32) (s0 : Value) (s1 : Int32) (h : am_H) (o : am_O) (l0 : lv.lookup 0 = some x0) (l1 : lv.lookup 1 = some (.int x1)) (l2 : lv.lookup 2 = some (.int x2)) (i0 : am_isR x0 = true) (j0 : am_isR s0 = true) (hs : fg_160_58 x0 x1 x2 s0 s1 h = some o) : am_W X (d) 160 58 lv [(.int s1), s0] h (fun q => q = o) := by
  unfold fg_160_58 at hs
  obtain ⟨h1, e2, hs1⟩ := am_bind hs
  clear hs
  refine aw_pP (pc1 := 61) at_160_58 e2 rfl ?_
  refine aw_vload_n (pc1 := 62) at_160_61 l0 i0 rfl ?_
  obtain ⟨v3, e4, hs2⟩ := am_bind hs1
  clear hs1
  refine aw_pG (pc1 := 65) at_160_62 (am_vI_s e4) rfl ?_
  by_cases c5 : v3 = 1
  · rw [if_pos c5] at hs2
    refine aw_tsw (t := 148) at_160_65 (by rw [c5]; rfl) ?_
    refine aw_bipush (v := 21) (pc1 := 150) at_160_148 (by decide) rfl ?_
    refine aw_iload_n (pc1 := 151) at_160_150 l2 rfl ?_
    refine aw_imul (v := (21 * x2)) (pc1 := 152) at_160_151 rfl rfl ?_
    cases hs2
    exact aw_iret at_160_152 (by rw [rt_160]; rfl) rfl
  · rw [if_neg c5] at hs2
    by_cases c6 : v3 = 2
    · rw [if_pos c6] at hs2
      refine aw_tsw (t := 153) at_160_65 (by rw [c6]; rfl) ?_
      exact rg_160_153 x2 h1 o l2  hs2
    · rw [if_neg c6] at hs2
      by_cases c7 : v3 = 3
      · rw [if_pos c7] at hs2
        refine aw_tsw (t := 153) at_160_65 (by rw [c7]; rfl) ?_
        exact rg_160_153 x2 h1 o l2  hs2
      · rw [if_neg c7] at hs2
        by_cases c8 : v3 = 6
        · rw [if_pos c8] at hs2
          refine aw_tsw (t := 157) at_160_65 (by rw [c8]; rfl) ?_
          refine aw_bipush (v := 14) (pc1 := 159) at_160_157 (by decide) rfl ?_
          refine aw_iload_n (pc1 := 160) at_160_159 l2 rfl ?_
          refine aw_imul (v := (14 * x2)) (pc1 := 161) at_160_160 rfl rfl ?_
          cases hs2
          exact aw_iret at_160_161 (by rw [rt_160]; rfl) rfl
        · rw [if_neg c8] at hs2
          by_cases c9 : v3 = 7
          · rw [if_pos c9] at hs2
            refine aw_tsw (t := 153) at_160_65 (by rw [c9]; rfl) ?_
            exact rg_160_153 x2 h1 o l2  hs2
          · rw [if_neg c9] at hs2
            by_cases c10 : v3 = 8
            · rw [if_pos c10] at hs2
              refine aw_tsw (t := 162) at_160_65 (by rw [c10]; rfl) ?_
              refine aw_iconst (v := 5) (pc1 := 163) at_160_162 (by decide) rfl ?_
              refine aw_iload_n (pc1 := 164) at_160_163 l2 rfl ?_
              refine aw_iconst (v := 1) (pc1 := 165) at_160_164 (by decide) rfl ?_
              refine aw_iadd (v := (x2 + 1)) (pc1 := 166) at_160_165 rfl rfl ?_
              refine aw_imul (v := (5 * (x2 + 1))) (pc1 := 167) at_160_166 rfl rfl ?_
              cases hs2
              exact aw_iret at_160_167 (by rw [rt_160]; rfl) rfl
            · rw [if_neg c10] at hs2
              by_cases c11 : v3 = 11
              · rw [if_pos c11] at hs2
                refine aw_tsw (t := 168) at_160_65 (by rw [c11]; rfl) ?_
                refine aw_iconst (v := 4) (pc1 := 169) at_160_168 (by decide) rfl ?_
                refine aw_iload_n (pc1 := 170) at_160_169 l2 rfl ?_
                refine aw_imul (v := (4 * x2)) (pc1 := 171) at_160_170 rfl rfl ?_
                refine aw_iload_n (pc1 := 172) at_160_171 l2 rfl ?_
                refine aw_imul (v := ((4 * x2) * x2)) (pc1 := 173) at_160_172 rfl rfl ?_
                cases hs2
                exact aw_iret at_160_173 (by rw [rt_160]; rfl) rfl
              · rw [if_neg c11] at hs2
                by_cases c12 : v3 = 12
                · rw [if_pos c12] at hs2
                  refine aw_tsw (t := 174) at_160_65 (by rw [c12]; rfl) ?_
                  refine aw_iload_n (pc1 := 175) at_160_174 l2 rfl ?_
                  refine aw_bipush (v := 6) (pc1 := 177) at_160_175 (by decide) rfl ?_
                  by_cases c13 : 6 ≤ x2
                  · rw [if_pos c13] at hs2
                    refine aw_icge_t at_160_177 c13 ?_
                    refine aw_iconst (v := 0) (pc1 := 187) at_160_186 (by decide) rfl ?_
                    exact rg_160_187 0 h1 o   hs2
                  · rw [if_neg c13] at hs2
                    refine aw_icge_f (pc1 := 180) at_160_177 c13 rfl ?_
                    refine aw_iconst (v := 4) (pc1 := 181) at_160_180 (by decide) rfl ?_
                    refine aw_iload_n (pc1 := 182) at_160_181 l2 rfl ?_
                    refine aw_imul (v := (4 * x2)) (pc1 := 183) at_160_182 rfl rfl ?_
                    refine aw_goto at_160_183 ?_
                    exact rg_160_187 ((4 * x2)) h1 o   hs2
                · rw [if_neg c12] at hs2
                  by_cases c14 : v3 = 15
                  · rw [if_pos c14] at hs2
                    refine aw_tsw (t := 188) at_160_65 (by rw [c14]; rfl) ?_
                    refine aw_iload_n (pc1 := 189) at_160_188 l2 rfl ?_
                    refine aw_vload_n (pc1 := 190) at_160_189 l0 i0 rfl ?_
                    obtain ⟨v15, e16, hs3⟩ := am_bind hs2
                    clear hs2
                    refine aw_pG (pc1 := 193) at_160_190 (am_vI_s e16) rfl ?_
                    refine aw_imul (v := (x2 * v15)) (pc1 := 194) at_160_193 rfl rfl ?_
                    cases hs3
                    exact aw_iret at_160_194 (by rw [rt_160]; rfl) rfl
                  · rw [if_neg c14] at hs2
                    by_cases c17 : v3 = 16
                    · rw [if_pos c17] at hs2
                      refine aw_tsw (t := 195) at_160_65 (by rw [c17]; rfl) ?_
                      refine aw_iload_n (pc1 := 196) at_160_195 l2 rfl ?_
                      cases hs2
                      exact aw_iret at_160_196 (by rw [rt_160]; rfl) rfl
                    · rw [if_neg c17] at hs2
                      by_cases c18 : v3 = 17
                      · rw [if_pos c18] at hs2
                        refine aw_tsw (t := 197) at_160_65 (by rw [c18]; rfl) ?_
                        refine aw_iload_n (pc1 := 198) at_160_197 l2 rfl ?_
                        refine aw_bipush (v := 40) (pc1 := 200) at_160_198 (by decide) rfl ?_
                        by_cases c19 : 40 ≤ x2
                        · rw [if_pos c19] at hs2
                          refine aw_icge_t at_160_200 c19 ?_
                          refine aw_iconst (v := 0) (pc1 := 215) at_160_214 (by decide) rfl ?_
                          exact rg_160_215 0 h1 o   hs2
                        · rw [if_neg c19] at hs2
                          refine aw_icge_f (pc1 := 203) at_160_200 c19 rfl ?_
                          refine aw_iload_n (pc1 := 204) at_160_203 l2 rfl ?_
                          refine aw_iconst (v := 1) (pc1 := 205) at_160_204 (by decide) rfl ?_
                          refine aw_iadd (v := (x2 + 1)) (pc1 := 206) at_160_205 rfl rfl ?_
                          refine aw_vload_n (pc1 := 207) at_160_206 l0 i0 rfl ?_
                          obtain ⟨v20, e21, hs4⟩ := am_bind hs2
                          clear hs2
                          refine aw_pG (pc1 := 210) at_160_207 (am_vI_s e21) rfl ?_
                          refine aw_imul (v := ((x2 + 1) * v20)) (pc1 := 211) at_160_210 rfl rfl ?_
                          refine aw_goto at_160_211 ?_
                          exact rg_160_215 (((x2 + 1) * v20)) h1 o   hs4
                      · rw [if_neg c18] at hs2
                        have tc5 : v3.toInt ≠ 1 := fun e9 => c5 (Int32.toInt_inj.mp e9)
                        have tc6 : v3.toInt ≠ 2 := fun e9 => c6 (Int32.toInt_inj.mp e9)
                        have tc7 : v3.toInt ≠ 3 := fun e9 => c7 (Int32.toInt_inj.mp e9)
                        have tc8 : v3.toInt ≠ 6 := fun e9 => c8 (Int32.toInt_inj.mp e9)
                        have tc9 : v3.toInt ≠ 7 := fun e9 => c9 (Int32.toInt_inj.mp e9)
                        have tc10 : v3.toInt ≠ 8 := fun e9 => c10 (Int32.toInt_inj.mp e9)
                        have tc11 : v3.toInt ≠ 11 := fun e9 => c11 (Int32.toInt_inj.mp e9)
                        have tc12 : v3.toInt ≠ 12 := fun e9 => c12 (Int32.toInt_inj.mp e9)
                        have tc14 : v3.toInt ≠ 15 := fun e9 => c14 (Int32.toInt_inj.mp e9)
                        have tc17 : v3.toInt ≠ 16 := fun e9 => c17 (Int32.toInt_inj.mp e9)
                        have tc18 : v3.toInt ≠ 17 := fun e9 => c18 (Int32.toInt_inj.mp e9)
                        have hw : (v3.toInt < 1 ∨ 17 < v3.toInt) ∨ v3.toInt = 4 ∨ v3.toInt = 5 ∨ v3.toInt = 9 ∨ v3.toInt = 10 ∨ v3.toInt = 13 ∨ v3.toInt = 14 := by omega
                        refine aw_tsw (t := 216) at_160_65 ?_ ?_
                        · rcases hw with hw | hw | hw | hw | hw | hw | hw
                          · exact am_tsw_d hw
                          · rw [show v3 = 4 from Int32.toInt_inj.mp hw]; rfl
                          · rw [show v3 = 5 from Int32.toInt_inj.mp hw]; rfl
                          · rw [show v3 = 9 from Int32.toInt_inj.mp hw]; rfl
                          · rw [show v3 = 10 from Int32.toInt_inj.mp hw]; rfl
                          · rw [show v3 = 13 from Int32.toInt_inj.mp hw]; rfl
                          · rw [show v3 = 14 from Int32.toInt_inj.mp hw]; rfl
                        exact rg_160_216 x1 x2 h1 o l1 l2  hs2
def fg_160_0 (x0 : Value) (x1 : Int32) (h : am_H) : Option am_O := ((am_vR (am_pG 5 x0 h)).bind fun v1 => ((am_vI (am_pG 771 v1 h)).bind fun v3 => ((am_vR (am_pG 5 x0 h)).bind fun v5 => ((am_vI (am_pG 769 v5 h)).bind fun v7 => (if ¬ v7 = 2 then ((am_vR (am_pG 5 x0 h)).bind fun v10 => ((am_vI (am_pG 769 v10 h)).bind fun v12 => (if ¬ v12 = 3 then (fg_160_58 x0 x1 v3 x0 1 h) else ((am_vR (am_pG 5 x0 h)).bind fun v15 => ((am_vI (am_pG 770 v15 h)).bind fun v17 => ((am_vR (am_pG 5 x0 h)).bind fun v19 => ((am_vI (am_pG 770 v19 h)).bind fun v21 => (fg_160_58 x0 x1 v3 x0 (((v17 * (v21 - 1)) / 2)) h)))))))) else (fg_160_58 x0 x1 v3 x0 v3 h))))))
theorem rg_160_0 {X : am_X} {d : Nat} {lv : am_LV} (x0 : Value) (x1 : Int32) (h : am_H) (o : am_O) (l0 : lv.lookup 0 = some x0) (l1 : lv.lookup 1 = some (.int x1)) (i0 : am_isR x0 = true) (hs : fg_160_0 x0 x1 h = some o) : am_W X (d) 160 0 lv [] h (fun q => q = o) := by
  unfold fg_160_0 at hs
  refine aw_vload_n (pc1 := 1) at_160_0 l0 i0 rfl ?_
  obtain ⟨v1, e2, hs1⟩ := am_bind hs
  clear hs
  refine aw_pG (pc1 := 4) at_160_1 (am_vR_s e2).1 rfl ?_
  obtain ⟨v3, e4, hs2⟩ := am_bind hs1
  clear hs1
  refine aw_pG (pc1 := 7) at_160_4 (am_vI_s e4) rfl ?_
  refine aw_istore_n (lv1 := am_put1 _ 2 _) (pc1 := 8) at_160_7 rfl rfl ?_
  refine aw_vload_n (pc1 := 9) at_160_8 (am_lk1 l0 rfl rfl) i0 rfl ?_
  refine aw_vload_n (pc1 := 10) at_160_9 (am_lk1 l0 rfl rfl) i0 rfl ?_
  obtain ⟨v5, e6, hs3⟩ := am_bind hs2
  clear hs2
  refine aw_pG (pc1 := 13) at_160_10 (am_vR_s e6).1 rfl ?_
  obtain ⟨v7, e8, hs4⟩ := am_bind hs3
  clear hs3
  refine aw_pG (pc1 := 16) at_160_13 (am_vI_s e8) rfl ?_
  refine aw_iconst (v := 2) (pc1 := 17) at_160_16 (by decide) rfl ?_
  by_cases c9 : ¬ v7 = 2
  · rw [if_pos c9] at hs4
    refine aw_icne_t at_160_17 c9 ?_
    refine aw_vload_n (pc1 := 25) at_160_24 (am_lk1 l0 rfl rfl) i0 rfl ?_
    obtain ⟨v10, e11, hs5⟩ := am_bind hs4
    clear hs4
    refine aw_pG (pc1 := 28) at_160_25 (am_vR_s e11).1 rfl ?_
    obtain ⟨v12, e13, hs6⟩ := am_bind hs5
    clear hs5
    refine aw_pG (pc1 := 31) at_160_28 (am_vI_s e13) rfl ?_
    refine aw_iconst (v := 3) (pc1 := 32) at_160_31 (by decide) rfl ?_
    by_cases c14 : ¬ v12 = 3
    · rw [if_pos c14] at hs6
      refine aw_icne_t at_160_32 c14 ?_
      refine aw_iconst (v := 1) (pc1 := 58) at_160_57 (by decide) rfl ?_
      exact rg_160_58 x0 x1 v3 x0 1 h o (am_lk1 l0 rfl rfl) (am_lk1 l1 rfl rfl) am_lk0 i0 i0 hs6
    · rw [if_neg c14] at hs6
      refine aw_icne_f (pc1 := 35) at_160_32 c14 rfl ?_
      refine aw_vload_n (pc1 := 36) at_160_35 (am_lk1 l0 rfl rfl) i0 rfl ?_
      obtain ⟨v15, e16, hs7⟩ := am_bind hs6
      clear hs6
      refine aw_pG (pc1 := 39) at_160_36 (am_vR_s e16).1 rfl ?_
      obtain ⟨v17, e18, hs8⟩ := am_bind hs7
      clear hs7
      refine aw_pG (pc1 := 42) at_160_39 (am_vI_s e18) rfl ?_
      refine aw_vload_n (pc1 := 43) at_160_42 (am_lk1 l0 rfl rfl) i0 rfl ?_
      obtain ⟨v19, e20, hs9⟩ := am_bind hs8
      clear hs8
      refine aw_pG (pc1 := 46) at_160_43 (am_vR_s e20).1 rfl ?_
      obtain ⟨v21, e22, hs10⟩ := am_bind hs9
      clear hs9
      refine aw_pG (pc1 := 49) at_160_46 (am_vI_s e22) rfl ?_
      refine aw_iconst (v := 1) (pc1 := 50) at_160_49 (by decide) rfl ?_
      refine aw_isub (v := (v21 - 1)) (pc1 := 51) at_160_50 rfl rfl ?_
      refine aw_imul (v := (v17 * (v21 - 1))) (pc1 := 52) at_160_51 rfl rfl ?_
      refine aw_iconst (v := 2) (pc1 := 53) at_160_52 (by decide) rfl ?_
      refine aw_idiv (v := ((v17 * (v21 - 1)) / 2)) (pc1 := 54) at_160_53 (by decide) rfl rfl ?_
      refine aw_goto at_160_54 ?_
      exact rg_160_58 x0 x1 v3 x0 (((v17 * (v21 - 1)) / 2)) h o (am_lk1 l0 rfl rfl) (am_lk1 l1 rfl rfl) am_lk0 i0 i0 hs10
  · rw [if_neg c9] at hs4
    refine aw_icne_f (pc1 := 20) at_160_17 c9 rfl ?_
    refine aw_iload_n (pc1 := 21) at_160_20 am_lk0 rfl ?_
    refine aw_goto at_160_21 ?_
    exact rg_160_58 x0 x1 v3 x0 v3 h o (am_lk1 l0 rfl rfl) (am_lk1 l1 rfl rfl) am_lk0 i0 i0 hs4
def fm_160 (y0 : Value) (y1 : Int32) (h : am_H) : Option am_O := fg_160_0 y0 y1 h
theorem rm_160 {X : am_X} {d : Nat} (y0 : Value) (y1 : Int32) (h : am_H) (o : am_O) (i0 : am_isR y0 = true) (hs : fm_160 y0 y1 h = some o) : am_W X (d) 160 0 (am_args 0 [y0, .int y1]) [] h (fun q => q = o) := by
  rw [am_args_R i0, am_args_I]
  exact rg_160_0 y0 y1 h o rfl rfl i0 hs
def fg_443_2 (N : Nat) : Nat → Value → Int32 → Int32 → am_H → Option am_O
  | 0 => fun _ _ _ _ => none
  | K + 1 => fun x0 x2 x3 h => (if x2 ≤ x3 then some (.inl (none, h)) else ((am_vR (am_pG 3093 x0 h)).bind fun v2 => ((am_pA 0 v2 x3 h).bind fun v4 => ((am_vR (am_pG 3094 x0 h)).bind fun v6 => ((am_pA 0 v6 x3 h).bind fun v8 => (if am_pOk 12 x0 h then am_cV true (fm_335 x0 v4 v8 h) (fun h12 => (fg_443_2 N K x0 x2 ((x3 + 1)) h12)) else none))))))
theorem rg_443_2 {X : am_X} {d : Nat} {N : Nat} : ∀ (K : Nat) (x0 : Value) (x2 : Int32) (x3 : Int32) (h : am_H) (o : am_O), fg_443_2 N K x0 x2 x3 h = some o → ∀ lv : am_LV, (lv.lookup 0 = some x0) → (lv.lookup 2 = some (.int x2)) → (lv.lookup 3 = some (.int x3)) → (am_isR x0 = true) → am_W X (d + 1) 443 2 lv [] h (fun q => q = o) := by
  intro K
  induction K with
  | zero => intro x0 x2 x3 h o hs; cases hs
  | succ K ih =>
    intro x0 x2 x3 h o hs lv l0 l2 l3 i0
    unfold fg_443_2 at hs
    refine aw_iload_n (pc1 := 3) at_443_2 l3 rfl ?_
    refine aw_iload_n (pc1 := 4) at_443_3 l2 rfl ?_
    by_cases c1 : x2 ≤ x3
    · rw [if_pos c1] at hs
      refine aw_icge_t at_443_4 c1 ?_
      cases hs
      exact aw_vret at_443_29 rt_443 rfl
    · rw [if_neg c1] at hs
      refine aw_icge_f (pc1 := 7) at_443_4 c1 rfl ?_
      refine aw_vload_n (pc1 := 8) at_443_7 l0 i0 rfl ?_
      refine aw_vload_n (pc1 := 9) at_443_8 l0 i0 rfl ?_
      obtain ⟨v2, e3, hs1⟩ := am_bind hs
      clear hs
      refine aw_pG (pc1 := 12) at_443_9 (am_vR_s e3).1 rfl ?_
      refine aw_iload_n (pc1 := 13) at_443_12 l3 rfl ?_
      obtain ⟨v4, e5, hs2⟩ := am_bind hs1
      clear hs1
      refine aw_pA (pc1 := 14) at_443_13 (Or.inl ⟨rfl, rfl⟩) e5 rfl ?_
      refine aw_vload_n (pc1 := 15) at_443_14 l0 i0 rfl ?_
      obtain ⟨v6, e7, hs3⟩ := am_bind hs2
      clear hs2
      refine aw_pG (pc1 := 18) at_443_15 (am_vR_s e7).1 rfl ?_
      refine aw_iload_n (pc1 := 19) at_443_18 l3 rfl ?_
      obtain ⟨v8, e9, hs4⟩ := am_bind hs3
      clear hs3
      refine aw_pA (pc1 := 20) at_443_19 (Or.inl ⟨rfl, rfl⟩) e9 rfl ?_
      obtain ⟨z10, hs5⟩ := am_ift hs4
      clear hs4
      refine aw_call (F := fm_335 x0 v4 v8 h) (t := true) (na := 3) (kd := 1) (as := [x0, (.int v4), (.int v8)]) at_443_20 (am_k3v kb_335) mn_335 mk_335 rfl rfl (am_ok_v mi_335 (am_hl rfl (am_ccR i0 (am_ccI (am_ccI am_cats_0))) rfl) z10) (am_hc am_cats_0 rfl) (fun _ => ⟨rfl, hh_443⟩) (fun o1 hz9 => rm_335 x0 v4 v8 h o1 i0 hz9) ?_
      rcases am_cV_s hs5 with ⟨h12, f13, hs6⟩ | hs6
      · clear hs5
        refine Or.inl ⟨_, _, f13, ?_⟩
        show am_W X _ 443 23 _ [] h12 _
        refine aw_iinc (v := (x3 + 1)) (c := 1) (lv1 := am_put1 _ 3 _) (pc1 := 26) at_443_23 l3 (by decide) rfl rfl rfl ?_
        refine aw_goto at_443_26 ?_
        exact ih x0 x2 ((x3 + 1)) h12 o hs6 _ (am_lk1 l0 rfl rfl) (am_lk1 l2 rfl rfl) am_lk0 i0
      · clear hs5
        exact Or.inr hs6
def fg_443_0 (N : Nat) (x0 : Value) (x1 : Int32) (x2 : Int32) (h : am_H) : Option am_O := (fg_443_2 N N x0 x2 x1 h)
theorem rg_443_0 {X : am_X} {d : Nat} {N : Nat} {lv : am_LV} (x0 : Value) (x1 : Int32) (x2 : Int32) (h : am_H) (o : am_O) (l0 : lv.lookup 0 = some x0) (l1 : lv.lookup 1 = some (.int x1)) (l2 : lv.lookup 2 = some (.int x2)) (i0 : am_isR x0 = true) (hs : fg_443_0 N x0 x1 x2 h = some o) : am_W X (d + 1) 443 0 lv [] h (fun q => q = o) := by
  unfold fg_443_0 at hs
  refine aw_iload_n (pc1 := 1) at_443_0 l1 rfl ?_
  refine aw_istore_n (lv1 := am_put1 _ 3 _) (pc1 := 2) at_443_1 rfl rfl ?_
  exact rg_443_2 N x0 x2 x1 h o hs _ (am_lk1 l0 rfl rfl) (am_lk1 l2 rfl rfl) am_lk0 i0
def fm_443 (N : Nat) (y0 : Value) (y1 : Int32) (y2 : Int32) (h : am_H) : Option am_O := fg_443_0 N y0 y1 y2 h
theorem rm_443 {X : am_X} {d : Nat} {N : Nat} (y0 : Value) (y1 : Int32) (y2 : Int32) (h : am_H) (o : am_O) (i0 : am_isR y0 = true) (hs : fm_443 N y0 y1 y2 h = some o) : am_W X (d + 1) 443 0 (am_args 0 [y0, .int y1, .int y2]) [] h (fun q => q = o) := by
  rw [am_args_R i0, am_args_I, am_args_I]
  exact rg_443_0 y0 y1 y2 h o rfl rfl rfl i0 hs
def fg_442_0 (N : Nat) (x0 : Value) (h : am_H) : Option am_O := ((am_vI (am_pG 3092 x0 h)).bind fun v1 => ((am_pP 3085 x0 (.int v1) h).bind fun h3 => ((am_pP 3086 x0 (.int 0) h3).bind fun h5 => ((am_vI (am_pG 3091 x0 h5)).bind fun v7 => ((am_pP 3087 x0 (.int v7) h5).bind fun h9 => ((am_vI (am_pG 3090 x0 h9)).bind fun v11 => (if am_pOk 12 x0 h9 then am_cV true (fm_443 N x0 0 v11 h9) (fun h15 => some (.inl (none, h15))) else none)))))))
theorem rg_442_0 {X : am_X} {d : Nat} {N : Nat} {lv : am_LV} (x0 : Value) (h : am_H) (o : am_O) (l0 : lv.lookup 0 = some x0) (i0 : am_isR x0 = true) (hs : fg_442_0 N x0 h = some o) : am_W X (d + 2) 442 0 lv [] h (fun q => q = o) := by
  unfold fg_442_0 at hs
  refine aw_vload_n (pc1 := 1) at_442_0 l0 i0 rfl ?_
  refine aw_vload_n (pc1 := 2) at_442_1 l0 i0 rfl ?_
  obtain ⟨v1, e2, hs1⟩ := am_bind hs
  clear hs
  refine aw_pG (pc1 := 5) at_442_2 (am_vI_s e2) rfl ?_
  obtain ⟨h3, e4, hs2⟩ := am_bind hs1
  clear hs1
  refine aw_pP (pc1 := 8) at_442_5 e4 rfl ?_
  refine aw_vload_n (pc1 := 9) at_442_8 l0 i0 rfl ?_
  refine aw_iconst (v := 0) (pc1 := 10) at_442_9 (by decide) rfl ?_
  obtain ⟨h5, e6, hs3⟩ := am_bind hs2
  clear hs2
  refine aw_pP (pc1 := 13) at_442_10 e6 rfl ?_
  refine aw_vload_n (pc1 := 14) at_442_13 l0 i0 rfl ?_
  refine aw_vload_n (pc1 := 15) at_442_14 l0 i0 rfl ?_
  obtain ⟨v7, e8, hs4⟩ := am_bind hs3
  clear hs3
  refine aw_pG (pc1 := 18) at_442_15 (am_vI_s e8) rfl ?_
  obtain ⟨h9, e10, hs5⟩ := am_bind hs4
  clear hs4
  refine aw_pP (pc1 := 21) at_442_18 e10 rfl ?_
  refine aw_vload_n (pc1 := 22) at_442_21 l0 i0 rfl ?_
  refine aw_iconst (v := 0) (pc1 := 23) at_442_22 (by decide) rfl ?_
  refine aw_vload_n (pc1 := 24) at_442_23 l0 i0 rfl ?_
  obtain ⟨v11, e12, hs6⟩ := am_bind hs5
  clear hs5
  refine aw_pG (pc1 := 27) at_442_24 (am_vI_s e12) rfl ?_
  obtain ⟨z13, hs7⟩ := am_ift hs6
  clear hs6
  refine aw_call (F := fm_443 N x0 0 v11 h9) (t := true) (na := 3) (kd := 1) (as := [x0, (.int 0), (.int v11)]) at_442_27 (am_k3v kb_443) mn_443 mk_443 rfl rfl (am_ok_v mi_443 (am_hl rfl (am_ccR i0 (am_ccI (am_ccI am_cats_0))) rfl) z13) (am_hc am_cats_0 rfl) (fun _ => ⟨rfl, hh_442⟩) (fun o1 hz9 => rm_443 x0 0 v11 h9 o1 i0 hz9) ?_
  rcases am_cV_s hs7 with ⟨h15, f16, hs8⟩ | hs8
  · clear hs7
    refine Or.inl ⟨_, _, f16, ?_⟩
    show am_W X _ 442 30 _ [] h15 _
    cases hs8
    exact aw_vret at_442_30 rt_442 rfl
  · clear hs7
    exact Or.inr hs8
def fm_442 (N : Nat) (y0 : Value) (h : am_H) : Option am_O := fg_442_0 N y0 h
theorem rm_442 {X : am_X} {d : Nat} {N : Nat} (y0 : Value) (h : am_H) (o : am_O) (i0 : am_isR y0 = true) (hs : fm_442 N y0 h = some o) : am_W X (d + 2) 442 0 (am_args 0 [y0]) [] h (fun q => q = o) := by
  rw [am_args_R i0]
  exact rg_442_0 y0 h o rfl i0 hs
def fg_446_263 (N : Nat) (s0 : Int32) (h : am_H) : Option am_O := (if am_rfit (some FieldType.boolean) s0 then some (.inl (some (.int s0), h)) else none)
theorem rg_446_263 {X : am_X} {d : Nat} {N : Nat} {lv : am_LV} (s0 : Int32) (h : am_H) (o : am_O) (hs : fg_446_263 N s0 h = some o) : am_W X (d + 1) 446 263 lv [(.int s0)] h (fun q => q = o) := by
  unfold fg_446_263 at hs
  obtain ⟨z1, hs1⟩ := am_ift hs
  clear hs
  cases hs1
  exact aw_iret at_446_263 (by rw [rt_446]; exact z1) rfl
def fg_446_238 (N : Nat) (rec_53 : Value → Int32 → Int32 → am_H → Option am_O) (rec_174 : Value → Int32 → Int32 → Int32 → Int32 → Int32 → Int32 → am_H → Option am_O) (x0 : Value) (x3 : Int32) (x4 : Int32) (x6 : Int32) (x7 : Int32) (x8 : Int32) (x9 : Int32) (s0 : Value) (s1 : Int32) (s2 : Int32) (h : am_H) : Option am_O := ((am_pS 0 s0 s1 s2 h).bind fun h1 => (rec_174 x0 ((x3 + 1)) x4 x6 x7 x8 ((x9 + (-1))) h1))
theorem rg_446_238 {X : am_X} {d : Nat} {N : Nat} {rec_53 : Value → Int32 → Int32 → am_H → Option am_O} {rec_174 : Value → Int32 → Int32 → Int32 → Int32 → Int32 → Int32 → am_H → Option am_O} (q_53 : ∀ (x0 : Value) (x3 : Int32) (x4 : Int32) (h : am_H) (o : am_O), rec_53 x0 x3 x4 h = some o → ∀ lv : am_LV, (lv.lookup 0 = some x0) → (lv.lookup 3 = some (.int x3)) → (lv.lookup 4 = some (.int x4)) → (am_isR x0 = true) → am_W X (d + 1) 446 53 lv [] h (fun q => q = o)) (q_174 : ∀ (x0 : Value) (x3 : Int32) (x4 : Int32) (x6 : Int32) (x7 : Int32) (x8 : Int32) (x9 : Int32) (h : am_H) (o : am_O), rec_174 x0 x3 x4 x6 x7 x8 x9 h = some o → ∀ lv : am_LV, (lv.lookup 0 = some x0) → (lv.lookup 3 = some (.int x3)) → (lv.lookup 4 = some (.int x4)) → (lv.lookup 6 = some (.int x6)) → (lv.lookup 7 = some (.int x7)) → (lv.lookup 8 = some (.int x8)) → (lv.lookup 9 = some (.int x9)) → (am_isR x0 = true) → am_W X (d + 1) 446 174 lv [] h (fun q => q = o)) {lv : am_LV} (x0 : Value) (x3 : Int32) (x4 : Int32) (x6 : Int32) (x7 : Int32) (x8 : Int32) (x9 : Int32) (s0 : Value) (s1 : Int32) (s2 : Int32) (h : am_H) (o : am_O) (l0 : lv.lookup 0 = some x0) (l3 : lv.lookup 3 = some (.int x3)) (l4 : lv.lookup 4 = some (.int x4)) (l6 : lv.lookup 6 = some (.int x6)) (l7 : lv.lookup 7 = some (.int x7)) (l8 : lv.lookup 8 = some (.int x8)) (l9 : lv.lookup 9 = some (.int x9)) (i0 : am_isR x0 = true) (j0 : am_isR s0 = true) (hs : fg_446_238 N rec_53 rec_174 x0 x3 x4 x6 x7 x8 x9 s0 s1 s2 h = some o) : am_W X (d + 1) 446 238 lv [(.int s2), (.int s1), s0] h (fun q => q = o) := by
  unfold fg_446_238 at hs
  obtain ⟨h1, e2, hs1⟩ := am_bind hs
  clear hs
  refine aw_pS (pc1 := 239) at_446_238 (Or.inl ⟨rfl, rfl⟩) e2 rfl ?_
  refine aw_iinc (v := (x3 + 1)) (c := 1) (lv1 := am_put1 _ 3 _) (pc1 := 242) at_446_239 l3 (by decide) rfl rfl rfl ?_
  refine aw_iinc (v := (x9 + (-1))) (c := (-1)) (lv1 := am_put1 _ 9 _) (pc1 := 245) at_446_242 (am_lk1 l9 rfl rfl) (by decide) rfl rfl rfl ?_
  refine aw_goto at_446_245 ?_
  exact q_174 x0 ((x3 + 1)) x4 x6 x7 x8 ((x9 + (-1))) h1 o hs1 _ (am_lk1 (am_lk1 l0 rfl rfl) rfl rfl) (am_lk1 am_lk0 rfl rfl) (am_lk1 (am_lk1 l4 rfl rfl) rfl rfl) (am_lk1 (am_lk1 l6 rfl rfl) rfl rfl) (am_lk1 (am_lk1 l7 rfl rfl) rfl rfl) (am_lk1 (am_lk1 l8 rfl rfl) rfl rfl) am_lk0 i0
def fg_446_237 (N : Nat) (rec_53 : Value → Int32 → Int32 → am_H → Option am_O) (rec_174 : Value → Int32 → Int32 → Int32 → Int32 → Int32 → Int32 → am_H → Option am_O) (x0 : Value) (x3 : Int32) (x4 : Int32) (x6 : Int32) (x7 : Int32) (x8 : Int32) (x9 : Int32) (s0 : Value) (s1 : Int32) (h : am_H) : Option am_O := (fg_446_238 N rec_53 rec_174 x0 x3 x4 x6 x7 x8 x9 s0 s1 0 h)
theorem rg_446_237 {X : am_X} {d : Nat} {N : Nat} {rec_53 : Value → Int32 → Int32 → am_H → Option am_O} {rec_174 : Value → Int32 → Int32 → Int32 → Int32 → Int32 → Int32 → am_H → Option am_O} (q_53 : ∀ (x0 : Value) (x3 : Int32) (x4 : Int32) (h : am_H) (o : am_O), rec_53 x0 x3 x4 h = some o → ∀ lv : am_LV, (lv.lookup 0 = some x0) → (lv.lookup 3 = some (.int x3)) → (lv.lookup 4 = some (.int x4)) → (am_isR x0 = true) → am_W X (d + 1) 446 53 lv [] h (fun q => q = o)) (q_174 : ∀ (x0 : Value) (x3 : Int32) (x4 : Int32) (x6 : Int32) (x7 : Int32) (x8 : Int32) (x9 : Int32) (h : am_H) (o : am_O), rec_174 x0 x3 x4 x6 x7 x8 x9 h = some o → ∀ lv : am_LV, (lv.lookup 0 = some x0) → (lv.lookup 3 = some (.int x3)) → (lv.lookup 4 = some (.int x4)) → (lv.lookup 6 = some (.int x6)) → (lv.lookup 7 = some (.int x7)) → (lv.lookup 8 = some (.int x8)) → (lv.lookup 9 = some (.int x9)) → (am_isR x0 = true) → am_W X (d + 1) 446 174 lv [] h (fun q => q = o)) {lv : am_LV} (x0 : Value) (x3 : Int32) (x4 : Int32) (x6 : Int32) (x7 : Int32) (x8 : Int32) (x9 : Int32) (s0 : Value) (s1 : Int32) (h : am_H) (o : am_O) (l0 : lv.lookup 0 = some x0) (l3 : lv.lookup 3 = some (.int x3)) (l4 : lv.lookup 4 = some (.int x4)) (l6 : lv.lookup 6 = some (.int x6)) (l7 : lv.lookup 7 = some (.int x7)) (l8 : lv.lookup 8 = some (.int x8)) (l9 : lv.lookup 9 = some (.int x9)) (i0 : am_isR x0 = true) (j0 : am_isR s0 = true) (hs : fg_446_237 N rec_53 rec_174 x0 x3 x4 x6 x7 x8 x9 s0 s1 h = some o) : am_W X (d + 1) 446 237 lv [(.int s1), s0] h (fun q => q = o) := by
  unfold fg_446_237 at hs
  refine aw_iconst (v := 0) (pc1 := 238) at_446_237 (by decide) rfl ?_
  exact rg_446_238 q_53 q_174 x0 x3 x4 x6 x7 x8 x9 s0 s1 0 h o l0 l3 l4 l6 l7 l8 l9 i0 j0 hs
def fg_446_233 (N : Nat) (rec_53 : Value → Int32 → Int32 → am_H → Option am_O) (rec_174 : Value → Int32 → Int32 → Int32 → Int32 → Int32 → Int32 → am_H → Option am_O) (x0 : Value) (x3 : Int32) (x4 : Int32) (x6 : Int32) (x7 : Int32) (x8 : Int32) (x9 : Int32) (s0 : Value) (s1 : Int32) (h : am_H) : Option am_O := (fg_446_238 N rec_53 rec_174 x0 x3 x4 x6 x7 x8 x9 s0 s1 1 h)
theorem rg_446_233 {X : am_X} {d : Nat} {N : Nat} {rec_53 : Value → Int32 → Int32 → am_H → Option am_O} {rec_174 : Value → Int32 → Int32 → Int32 → Int32 → Int32 → Int32 → am_H → Option am_O} (q_53 : ∀ (x0 : Value) (x3 : Int32) (x4 : Int32) (h : am_H) (o : am_O), rec_53 x0 x3 x4 h = some o → ∀ lv : am_LV, (lv.lookup 0 = some x0) → (lv.lookup 3 = some (.int x3)) → (lv.lookup 4 = some (.int x4)) → (am_isR x0 = true) → am_W X (d + 1) 446 53 lv [] h (fun q => q = o)) (q_174 : ∀ (x0 : Value) (x3 : Int32) (x4 : Int32) (x6 : Int32) (x7 : Int32) (x8 : Int32) (x9 : Int32) (h : am_H) (o : am_O), rec_174 x0 x3 x4 x6 x7 x8 x9 h = some o → ∀ lv : am_LV, (lv.lookup 0 = some x0) → (lv.lookup 3 = some (.int x3)) → (lv.lookup 4 = some (.int x4)) → (lv.lookup 6 = some (.int x6)) → (lv.lookup 7 = some (.int x7)) → (lv.lookup 8 = some (.int x8)) → (lv.lookup 9 = some (.int x9)) → (am_isR x0 = true) → am_W X (d + 1) 446 174 lv [] h (fun q => q = o)) {lv : am_LV} (x0 : Value) (x3 : Int32) (x4 : Int32) (x6 : Int32) (x7 : Int32) (x8 : Int32) (x9 : Int32) (s0 : Value) (s1 : Int32) (h : am_H) (o : am_O) (l0 : lv.lookup 0 = some x0) (l3 : lv.lookup 3 = some (.int x3)) (l4 : lv.lookup 4 = some (.int x4)) (l6 : lv.lookup 6 = some (.int x6)) (l7 : lv.lookup 7 = some (.int x7)) (l8 : lv.lookup 8 = some (.int x8)) (l9 : lv.lookup 9 = some (.int x9)) (i0 : am_isR x0 = true) (j0 : am_isR s0 = true) (hs : fg_446_233 N rec_53 rec_174 x0 x3 x4 x6 x7 x8 x9 s0 s1 h = some o) : am_W X (d + 1) 446 233 lv [(.int s1), s0] h (fun q => q = o) := by
  unfold fg_446_233 at hs
  refine aw_iconst (v := 1) (pc1 := 234) at_446_233 (by decide) rfl ?_
  refine aw_goto at_446_234 ?_
  exact rg_446_238 q_53 q_174 x0 x3 x4 x6 x7 x8 x9 s0 s1 1 h o l0 l3 l4 l6 l7 l8 l9 i0 j0 hs
def fg_446_199 (N : Nat) (rec_53 : Value → Int32 → Int32 → am_H → Option am_O) (rec_174 : Value → Int32 → Int32 → Int32 → Int32 → Int32 → Int32 → am_H → Option am_O) (x0 : Value) (x3 : Int32) (x4 : Int32) (x6 : Int32) (x7 : Int32) (x8 : Int32) (x9 : Int32) (s0 : Value) (s1 : Int32) (s2 : Int32) (h : am_H) : Option am_O := ((am_pS 0 s0 s1 s2 h).bind fun h1 => ((am_vR (am_pG 3101 x0 h1)).bind fun v3 => ((am_pS 0 v3 x3 (x6 + 1) h1).bind fun h5 => ((am_vR (am_pG 3102 x0 h5)).bind fun v7 => (if ¬ x7 = 0 then (fg_446_233 N rec_53 rec_174 x0 x3 x4 x6 x7 x8 x9 v7 x3 h5) else (if ¬ x8 = 19 then (fg_446_237 N rec_53 rec_174 x0 x3 x4 x6 x7 x8 x9 v7 x3 h5) else (if ¬ x9 = 1 then (fg_446_237 N rec_53 rec_174 x0 x3 x4 x6 x7 x8 x9 v7 x3 h5) else (fg_446_233 N rec_53 rec_174 x0 x3 x4 x6 x7 x8 x9 v7 x3 h5))))))))
theorem rg_446_199 {X : am_X} {d : Nat} {N : Nat} {rec_53 : Value → Int32 → Int32 → am_H → Option am_O} {rec_174 : Value → Int32 → Int32 → Int32 → Int32 → Int32 → Int32 → am_H → Option am_O} (q_53 : ∀ (x0 : Value) (x3 : Int32) (x4 : Int32) (h : am_H) (o : am_O), rec_53 x0 x3 x4 h = some o → ∀ lv : am_LV, (lv.lookup 0 = some x0) → (lv.lookup 3 = some (.int x3)) → (lv.lookup 4 = some (.int x4)) → (am_isR x0 = true) → am_W X (d + 1) 446 53 lv [] h (fun q => q = o)) (q_174 : ∀ (x0 : Value) (x3 : Int32) (x4 : Int32) (x6 : Int32) (x7 : Int32) (x8 : Int32) (x9 : Int32) (h : am_H) (o : am_O), rec_174 x0 x3 x4 x6 x7 x8 x9 h = some o → ∀ lv : am_LV, (lv.lookup 0 = some x0) → (lv.lookup 3 = some (.int x3)) → (lv.lookup 4 = some (.int x4)) → (lv.lookup 6 = some (.int x6)) → (lv.lookup 7 = some (.int x7)) → (lv.lookup 8 = some (.int x8)) → (lv.lookup 9 = some (.int x9)) → (am_isR x0 = true) → am_W X (d + 1) 446 174 lv [] h (fun q => q = o)) {lv : am_LV} (x0 : Value) (x3 : Int32) (x4 : Int32) (x6 : Int32) (x7 : Int32) (x8 : Int32) (x9 : Int32) (s0 : Value) (s1 : Int32) (s2 : Int32) (h : am_H) (o : am_O) (l0 : lv.lookup 0 = some x0) (l3 : lv.lookup 3 = some (.int x3)) (l4 : lv.lookup 4 = some (.int x4)) (l6 : lv.lookup 6 = some (.int x6)) (l7 : lv.lookup 7 = some (.int x7)) (l8 : lv.lookup 8 = some (.int x8)) (l9 : lv.lookup 9 = some (.int x9)) (i0 : am_isR x0 = true) (j0 : am_isR s0 = true) (hs : fg_446_199 N rec_53 rec_174 x0 x3 x4 x6 x7 x8 x9 s0 s1 s2 h = some o) : am_W X (d + 1) 446 199 lv [(.int s2), (.int s1), s0] h (fun q => q = o) := by
  unfold fg_446_199 at hs
  obtain ⟨h1, e2, hs1⟩ := am_bind hs
  clear hs
  refine aw_pS (pc1 := 200) at_446_199 (Or.inl ⟨rfl, rfl⟩) e2 rfl ?_
  refine aw_vload_n (pc1 := 201) at_446_200 l0 i0 rfl ?_
  obtain ⟨v3, e4, hs2⟩ := am_bind hs1
  clear hs1
  refine aw_pG (pc1 := 204) at_446_201 (am_vR_s e4).1 rfl ?_
  refine aw_iload_n (pc1 := 205) at_446_204 l3 rfl ?_
  refine aw_iload (pc1 := 207) at_446_205 l6 rfl ?_
  refine aw_iconst (v := 1) (pc1 := 208) at_446_207 (by decide) rfl ?_
  refine aw_iadd (v := (x6 + 1)) (pc1 := 209) at_446_208 rfl rfl ?_
  obtain ⟨h5, e6, hs3⟩ := am_bind hs2
  clear hs2
  refine aw_pS (pc1 := 210) at_446_209 (Or.inl ⟨rfl, rfl⟩) e6 rfl ?_
  refine aw_vload_n (pc1 := 211) at_446_210 l0 i0 rfl ?_
  obtain ⟨v7, e8, hs4⟩ := am_bind hs3
  clear hs3
  refine aw_pG (pc1 := 214) at_446_211 (am_vR_s e8).1 rfl ?_
  refine aw_iload_n (pc1 := 215) at_446_214 l3 rfl ?_
  refine aw_iload (pc1 := 217) at_446_215 l7 rfl ?_
  by_cases c9 : ¬ x7 = 0
  · rw [if_pos c9] at hs4
    refine aw_ifne_t at_446_217 c9 ?_
    exact rg_446_233 q_53 q_174 x0 x3 x4 x6 x7 x8 x9 v7 x3 h5 o l0 l3 l4 l6 l7 l8 l9 i0 (am_vR_s e8).2 hs4
  · rw [if_neg c9] at hs4
    refine aw_ifne_f (pc1 := 220) at_446_217 c9 rfl ?_
    refine aw_iload (pc1 := 222) at_446_220 l8 rfl ?_
    refine aw_bipush (v := 19) (pc1 := 224) at_446_222 (by decide) rfl ?_
    by_cases c10 : ¬ x8 = 19
    · rw [if_pos c10] at hs4
      refine aw_icne_t at_446_224 c10 ?_
      exact rg_446_237 q_53 q_174 x0 x3 x4 x6 x7 x8 x9 v7 x3 h5 o l0 l3 l4 l6 l7 l8 l9 i0 (am_vR_s e8).2 hs4
    · rw [if_neg c10] at hs4
      refine aw_icne_f (pc1 := 227) at_446_224 c10 rfl ?_
      refine aw_iload (pc1 := 229) at_446_227 l9 rfl ?_
      refine aw_iconst (v := 1) (pc1 := 230) at_446_229 (by decide) rfl ?_
      by_cases c11 : ¬ x9 = 1
      · rw [if_pos c11] at hs4
        refine aw_icne_t at_446_230 c11 ?_
        exact rg_446_237 q_53 q_174 x0 x3 x4 x6 x7 x8 x9 v7 x3 h5 o l0 l3 l4 l6 l7 l8 l9 i0 (am_vR_s e8).2 hs4
      · rw [if_neg c11] at hs4
        refine aw_icne_f (pc1 := 233) at_446_230 c11 rfl ?_
        exact rg_446_233 q_53 q_174 x0 x3 x4 x6 x7 x8 x9 v7 x3 h5 o l0 l3 l4 l6 l7 l8 l9 i0 (am_vR_s e8).2 hs4
def fg_446_174 (N : Nat) (rec_53 : Value → Int32 → Int32 → am_H → Option am_O) : Nat → Value → Int32 → Int32 → Int32 → Int32 → Int32 → Int32 → am_H → Option am_O
  | 0 => fun _ _ _ _ _ _ _ _ => none
  | K + 1 => fun x0 x3 x4 x6 x7 x8 x9 h => (if x9 < 0 then (rec_53 x0 x3 ((x4 + 1)) h) else ((am_vR (am_pG 3100 x0 h)).bind fun v2 => am_cI false (fm_330 x8 x9 h) (fun v4 h5 => (if v4 = 0 then (fg_446_199 N rec_53 (fg_446_174 N rec_53 K) x0 x3 x4 x6 x7 x8 x9 v2 x3 0 h5) else (fg_446_199 N rec_53 (fg_446_174 N rec_53 K) x0 x3 x4 x6 x7 x8 x9 v2 x3 1 h5)))))
theorem rg_446_174 {X : am_X} {d : Nat} {N : Nat} {rec_53 : Value → Int32 → Int32 → am_H → Option am_O} (q_53 : ∀ (x0 : Value) (x3 : Int32) (x4 : Int32) (h : am_H) (o : am_O), rec_53 x0 x3 x4 h = some o → ∀ lv : am_LV, (lv.lookup 0 = some x0) → (lv.lookup 3 = some (.int x3)) → (lv.lookup 4 = some (.int x4)) → (am_isR x0 = true) → am_W X (d + 1) 446 53 lv [] h (fun q => q = o)) : ∀ (K : Nat) (x0 : Value) (x3 : Int32) (x4 : Int32) (x6 : Int32) (x7 : Int32) (x8 : Int32) (x9 : Int32) (h : am_H) (o : am_O), fg_446_174 N rec_53 K x0 x3 x4 x6 x7 x8 x9 h = some o → ∀ lv : am_LV, (lv.lookup 0 = some x0) → (lv.lookup 3 = some (.int x3)) → (lv.lookup 4 = some (.int x4)) → (lv.lookup 6 = some (.int x6)) → (lv.lookup 7 = some (.int x7)) → (lv.lookup 8 = some (.int x8)) → (lv.lookup 9 = some (.int x9)) → (am_isR x0 = true) → am_W X (d + 1) 446 174 lv [] h (fun q => q = o) := by
  intro K
  induction K with
  | zero => intro x0 x3 x4 x6 x7 x8 x9 h o hs; cases hs
  | succ K ih =>
    intro x0 x3 x4 x6 x7 x8 x9 h o hs lv l0 l3 l4 l6 l7 l8 l9 i0
    unfold fg_446_174 at hs
    refine aw_iload (pc1 := 176) at_446_174 l9 rfl ?_
    by_cases c1 : x9 < 0
    · rw [if_pos c1] at hs
      refine aw_iflt_t at_446_176 c1 ?_
      refine aw_iinc (v := (x4 + 1)) (c := 1) (lv1 := am_put1 _ 4 _) (pc1 := 251) at_446_248 l4 (by decide) rfl rfl rfl ?_
      refine aw_goto at_446_251 ?_
      exact q_53 x0 x3 ((x4 + 1)) h o hs _ (am_lk1 l0 rfl rfl) (am_lk1 l3 rfl rfl) am_lk0 i0
    · rw [if_neg c1] at hs
      refine aw_iflt_f (pc1 := 179) at_446_176 c1 rfl ?_
      refine aw_vload_n (pc1 := 180) at_446_179 l0 i0 rfl ?_
      obtain ⟨v2, e3, hs1⟩ := am_bind hs
      clear hs
      refine aw_pG (pc1 := 183) at_446_180 (am_vR_s e3).1 rfl ?_
      refine aw_iload_n (pc1 := 184) at_446_183 l3 rfl ?_
      refine aw_iload (pc1 := 186) at_446_184 l8 rfl ?_
      refine aw_iload (pc1 := 188) at_446_186 l9 rfl ?_
      refine aw_call (F := fm_330 x8 x9 h) (t := false) (na := 2) (kd := 0) (as := [(.int x8), (.int x9)]) at_446_188 (am_k3s kb_330) mn_330 mk_330 rfl rfl (am_ok_s mi_330 (am_hl rfl (am_ccI (am_ccI am_cats_0)) rfl)) (am_hc (am_ccI (am_ccR (am_vR_s e3).2 am_cats_0)) rfl) (fun hz9 => by cases hz9) (fun o1 hz9 => rm_330 x8 x9 h o1  hz9) ?_
      rcases am_cI_s hs1 with ⟨v4, h5, f6, hs2⟩ | hs2
      · clear hs1
        refine Or.inl ⟨_, _, f6, ?_⟩
        show am_W X _ 446 191 _ [(.int v4), (.int x3), v2] h5 _
        by_cases c7 : v4 = 0
        · rw [if_pos c7] at hs2
          refine aw_ifeq_t at_446_191 c7 ?_
          refine aw_iconst (v := 0) (pc1 := 199) at_446_198 (by decide) rfl ?_
          exact rg_446_199 q_53 (fun z0 z1 z2 z3 z4 z5 z6 h o hs2 => ih z0 z1 z2 z3 z4 z5 z6 h o hs2) x0 x3 x4 x6 x7 x8 x9 v2 x3 0 h5 o l0 l3 l4 l6 l7 l8 l9 i0 (am_vR_s e3).2 hs2
        · rw [if_neg c7] at hs2
          refine aw_ifeq_f (pc1 := 194) at_446_191 c7 rfl ?_
          refine aw_iconst (v := 1) (pc1 := 195) at_446_194 (by decide) rfl ?_
          refine aw_goto at_446_195 ?_
          exact rg_446_199 q_53 (fun z0 z1 z2 z3 z4 z5 z6 h o hs2 => ih z0 z1 z2 z3 z4 z5 z6 h o hs2) x0 x3 x4 x6 x7 x8 x9 v2 x3 1 h5 o l0 l3 l4 l6 l7 l8 l9 i0 (am_vR_s e3).2 hs2
      · clear hs1
        exact Or.inr hs2
def fg_446_165 (N : Nat) (rec_53 : Value → Int32 → Int32 → am_H → Option am_O) (x0 : Value) (x3 : Int32) (x4 : Int32) (x6 : Int32) (x7 : Int32) (x8 : Int32) (h : am_H) : Option am_O := am_cI false (fm_343 x8 h) (fun v1 h2 => (fg_446_174 N rec_53 N x0 x3 x4 x6 x7 x8 ((v1 - 1)) h2))
theorem rg_446_165 {X : am_X} {d : Nat} {N : Nat} {rec_53 : Value → Int32 → Int32 → am_H → Option am_O} (q_53 : ∀ (x0 : Value) (x3 : Int32) (x4 : Int32) (h : am_H) (o : am_O), rec_53 x0 x3 x4 h = some o → ∀ lv : am_LV, (lv.lookup 0 = some x0) → (lv.lookup 3 = some (.int x3)) → (lv.lookup 4 = some (.int x4)) → (am_isR x0 = true) → am_W X (d + 1) 446 53 lv [] h (fun q => q = o)) {lv : am_LV} (x0 : Value) (x3 : Int32) (x4 : Int32) (x6 : Int32) (x7 : Int32) (x8 : Int32) (h : am_H) (o : am_O) (l0 : lv.lookup 0 = some x0) (l3 : lv.lookup 3 = some (.int x3)) (l4 : lv.lookup 4 = some (.int x4)) (l6 : lv.lookup 6 = some (.int x6)) (l7 : lv.lookup 7 = some (.int x7)) (l8 : lv.lookup 8 = some (.int x8)) (i0 : am_isR x0 = true) (hs : fg_446_165 N rec_53 x0 x3 x4 x6 x7 x8 h = some o) : am_W X (d + 1) 446 165 lv [] h (fun q => q = o) := by
  unfold fg_446_165 at hs
  refine aw_iload (pc1 := 167) at_446_165 l8 rfl ?_
  refine aw_call (F := fm_343 x8 h) (t := false) (na := 1) (kd := 0) (as := [(.int x8)]) at_446_167 (am_k3s kb_343) mn_343 mk_343 rfl rfl (am_ok_s mi_343 (am_hl rfl (am_ccI am_cats_0) rfl)) (am_hc am_cats_0 rfl) (fun hz9 => by cases hz9) (fun o1 hz9 => rm_343 x8 h o1  hz9) ?_
  rcases am_cI_s hs with ⟨v1, h2, f3, hs1⟩ | hs1
  · clear hs
    refine Or.inl ⟨_, _, f3, ?_⟩
    show am_W X _ 446 170 _ [(.int v1)] h2 _
    refine aw_iconst (v := 1) (pc1 := 171) at_446_170 (by decide) rfl ?_
    refine aw_isub (v := (v1 - 1)) (pc1 := 172) at_446_171 rfl rfl ?_
    refine aw_istore (lv1 := am_put1 _ 9 _) (pc1 := 174) at_446_172 rfl rfl ?_
    exact rg_446_174 q_53 N x0 x3 x4 x6 x7 x8 ((v1 - 1)) h2 o hs1 _ (am_lk1 l0 rfl rfl) (am_lk1 l3 rfl rfl) (am_lk1 l4 rfl rfl) (am_lk1 l6 rfl rfl) (am_lk1 l7 rfl rfl) (am_lk1 l8 rfl rfl) am_lk0 i0
  · clear hs
    exact Or.inr hs1
def fg_446_163 (N : Nat) (h : am_H) : Option am_O := some (.inl (some (.int 0), h))
theorem rg_446_163 {X : am_X} {d : Nat} {N : Nat} {lv : am_LV} (h : am_H) (o : am_O) (hs : fg_446_163 N h = some o) : am_W X (d + 1) 446 163 lv [] h (fun q => q = o) := by
  unfold fg_446_163 at hs
  refine aw_iconst (v := 0) (pc1 := 164) at_446_163 (by decide) rfl ?_
  cases hs
  exact aw_iret at_446_164 (by rw [rt_446]; decide) rfl
def fg_446_151 (N : Nat) (rec_53 : Value → Int32 → Int32 → am_H → Option am_O) (x0 : Value) (x3 : Int32) (x4 : Int32) (x6 : Int32) (x7 : Int32) (x8 : Int32) (h : am_H) : Option am_O := (if x7 = 0 then (fg_446_165 N rec_53 x0 x3 x4 x6 x7 x8 h) else (if ¬ x8 = 19 then (fg_446_165 N rec_53 x0 x3 x4 x6 x7 x8 h) else (fg_446_163 N h)))
theorem rg_446_151 {X : am_X} {d : Nat} {N : Nat} {rec_53 : Value → Int32 → Int32 → am_H → Option am_O} (q_53 : ∀ (x0 : Value) (x3 : Int32) (x4 : Int32) (h : am_H) (o : am_O), rec_53 x0 x3 x4 h = some o → ∀ lv : am_LV, (lv.lookup 0 = some x0) → (lv.lookup 3 = some (.int x3)) → (lv.lookup 4 = some (.int x4)) → (am_isR x0 = true) → am_W X (d + 1) 446 53 lv [] h (fun q => q = o)) {lv : am_LV} (x0 : Value) (x3 : Int32) (x4 : Int32) (x6 : Int32) (x7 : Int32) (x8 : Int32) (h : am_H) (o : am_O) (l0 : lv.lookup 0 = some x0) (l3 : lv.lookup 3 = some (.int x3)) (l4 : lv.lookup 4 = some (.int x4)) (l6 : lv.lookup 6 = some (.int x6)) (l7 : lv.lookup 7 = some (.int x7)) (l8 : lv.lookup 8 = some (.int x8)) (i0 : am_isR x0 = true) (hs : fg_446_151 N rec_53 x0 x3 x4 x6 x7 x8 h = some o) : am_W X (d + 1) 446 151 lv [] h (fun q => q = o) := by
  unfold fg_446_151 at hs
  refine aw_iload (pc1 := 153) at_446_151 l7 rfl ?_
  by_cases c1 : x7 = 0
  · rw [if_pos c1] at hs
    refine aw_ifeq_t at_446_153 c1 ?_
    exact rg_446_165 q_53 x0 x3 x4 x6 x7 x8 h o l0 l3 l4 l6 l7 l8 i0 hs
  · rw [if_neg c1] at hs
    refine aw_ifeq_f (pc1 := 156) at_446_153 c1 rfl ?_
    refine aw_iload (pc1 := 158) at_446_156 l8 rfl ?_
    refine aw_bipush (v := 19) (pc1 := 160) at_446_158 (by decide) rfl ?_
    by_cases c2 : ¬ x8 = 19
    · rw [if_pos c2] at hs
      refine aw_icne_t at_446_160 c2 ?_
      exact rg_446_165 q_53 x0 x3 x4 x6 x7 x8 h o l0 l3 l4 l6 l7 l8 i0 hs
    · rw [if_neg c2] at hs
      refine aw_icne_f (pc1 := 163) at_446_160 c2 rfl ?_
      exact rg_446_163 h o   hs
def fg_446_105 (N : Nat) (rec_53 : Value → Int32 → Int32 → am_H → Option am_O) (x0 : Value) (x3 : Int32) (x4 : Int32) (x5 : Int32) (x6 : Int32) (s0 : Int32) (h : am_H) : Option am_O := ((am_vR (am_pG 3088 x0 h)).bind fun v1 => ((am_pA 0 v1 x4 h).bind fun v3 => am_cI false (fm_334 v3 h) (fun v5 h6 => (if ¬ v5 = x5 then (fg_446_163 N h6) else (if 12 < x6 then (fg_446_163 N h6) else (if ¬ s0 = 0 then (fg_446_151 N rec_53 x0 x3 x4 x6 s0 v3 h6) else (if v3 = 5 then (fg_446_163 N h6) else (if v3 = 6 then (fg_446_163 N h6) else (fg_446_151 N rec_53 x0 x3 x4 x6 s0 v3 h6)))))))))
theorem rg_446_105 {X : am_X} {d : Nat} {N : Nat} {rec_53 : Value → Int32 → Int32 → am_H → Option am_O} (q_53 : ∀ (x0 : Value) (x3 : Int32) (x4 : Int32) (h : am_H) (o : am_O), rec_53 x0 x3 x4 h = some o → ∀ lv : am_LV, (lv.lookup 0 = some x0) → (lv.lookup 3 = some (.int x3)) → (lv.lookup 4 = some (.int x4)) → (am_isR x0 = true) → am_W X (d + 1) 446 53 lv [] h (fun q => q = o)) {lv : am_LV} (x0 : Value) (x3 : Int32) (x4 : Int32) (x5 : Int32) (x6 : Int32) (s0 : Int32) (h : am_H) (o : am_O) (l0 : lv.lookup 0 = some x0) (l3 : lv.lookup 3 = some (.int x3)) (l4 : lv.lookup 4 = some (.int x4)) (l5 : lv.lookup 5 = some (.int x5)) (l6 : lv.lookup 6 = some (.int x6)) (i0 : am_isR x0 = true) (hs : fg_446_105 N rec_53 x0 x3 x4 x5 x6 s0 h = some o) : am_W X (d + 1) 446 105 lv [(.int s0)] h (fun q => q = o) := by
  unfold fg_446_105 at hs
  refine aw_istore (lv1 := am_put1 _ 7 _) (pc1 := 107) at_446_105 rfl rfl ?_
  refine aw_vload_n (pc1 := 108) at_446_107 (am_lk1 l0 rfl rfl) i0 rfl ?_
  obtain ⟨v1, e2, hs1⟩ := am_bind hs
  clear hs
  refine aw_pG (pc1 := 111) at_446_108 (am_vR_s e2).1 rfl ?_
  refine aw_iload (pc1 := 113) at_446_111 (am_lk1 l4 rfl rfl) rfl ?_
  obtain ⟨v3, e4, hs2⟩ := am_bind hs1
  clear hs1
  refine aw_pA (pc1 := 114) at_446_113 (Or.inl ⟨rfl, rfl⟩) e4 rfl ?_
  refine aw_istore (lv1 := am_put1 _ 8 _) (pc1 := 116) at_446_114 rfl rfl ?_
  refine aw_iload (pc1 := 118) at_446_116 am_lk0 rfl ?_
  refine aw_call (F := fm_334 v3 h) (t := false) (na := 1) (kd := 0) (as := [(.int v3)]) at_446_118 (am_k3s kb_334) mn_334 mk_334 rfl rfl (am_ok_s mi_334 (am_hl rfl (am_ccI am_cats_0) rfl)) (am_hc am_cats_0 rfl) (fun hz9 => by cases hz9) (fun o1 hz9 => rm_334 v3 h o1  hz9) ?_
  rcases am_cI_s hs2 with ⟨v5, h6, f7, hs3⟩ | hs3
  · clear hs2
    refine Or.inl ⟨_, _, f7, ?_⟩
    show am_W X _ 446 121 _ [(.int v5)] h6 _
    refine aw_iload (pc1 := 123) at_446_121 (am_lk1 (am_lk1 l5 rfl rfl) rfl rfl) rfl ?_
    by_cases c8 : ¬ v5 = x5
    · rw [if_pos c8] at hs3
      refine aw_icne_t at_446_123 c8 ?_
      exact rg_446_163 h6 o   hs3
    · rw [if_neg c8] at hs3
      refine aw_icne_f (pc1 := 126) at_446_123 c8 rfl ?_
      refine aw_iload (pc1 := 128) at_446_126 (am_lk1 (am_lk1 l6 rfl rfl) rfl rfl) rfl ?_
      refine aw_bipush (v := 12) (pc1 := 130) at_446_128 (by decide) rfl ?_
      by_cases c9 : 12 < x6
      · rw [if_pos c9] at hs3
        refine aw_icgt_t at_446_130 c9 ?_
        exact rg_446_163 h6 o   hs3
      · rw [if_neg c9] at hs3
        refine aw_icgt_f (pc1 := 133) at_446_130 c9 rfl ?_
        refine aw_iload (pc1 := 135) at_446_133 (am_lk1 am_lk0 rfl rfl) rfl ?_
        by_cases c10 : ¬ s0 = 0
        · rw [if_pos c10] at hs3
          refine aw_ifne_t at_446_135 c10 ?_
          exact rg_446_151 q_53 x0 x3 x4 x6 s0 v3 h6 o (am_lk1 (am_lk1 l0 rfl rfl) rfl rfl) (am_lk1 (am_lk1 l3 rfl rfl) rfl rfl) (am_lk1 (am_lk1 l4 rfl rfl) rfl rfl) (am_lk1 (am_lk1 l6 rfl rfl) rfl rfl) (am_lk1 am_lk0 rfl rfl) am_lk0 i0 hs3
        · rw [if_neg c10] at hs3
          refine aw_ifne_f (pc1 := 138) at_446_135 c10 rfl ?_
          refine aw_iload (pc1 := 140) at_446_138 am_lk0 rfl ?_
          refine aw_iconst (v := 5) (pc1 := 141) at_446_140 (by decide) rfl ?_
          by_cases c11 : v3 = 5
          · rw [if_pos c11] at hs3
            refine aw_iceq_t at_446_141 c11 ?_
            exact rg_446_163 h6 o   hs3
          · rw [if_neg c11] at hs3
            refine aw_iceq_f (pc1 := 144) at_446_141 c11 rfl ?_
            refine aw_iload (pc1 := 146) at_446_144 am_lk0 rfl ?_
            refine aw_bipush (v := 6) (pc1 := 148) at_446_146 (by decide) rfl ?_
            by_cases c12 : v3 = 6
            · rw [if_pos c12] at hs3
              refine aw_iceq_t at_446_148 c12 ?_
              exact rg_446_163 h6 o   hs3
            · rw [if_neg c12] at hs3
              refine aw_iceq_f (pc1 := 151) at_446_148 c12 rfl ?_
              exact rg_446_151 q_53 x0 x3 x4 x6 s0 v3 h6 o (am_lk1 (am_lk1 l0 rfl rfl) rfl rfl) (am_lk1 (am_lk1 l3 rfl rfl) rfl rfl) (am_lk1 (am_lk1 l4 rfl rfl) rfl rfl) (am_lk1 (am_lk1 l6 rfl rfl) rfl rfl) (am_lk1 am_lk0 rfl rfl) am_lk0 i0 hs3
  · clear hs2
    exact Or.inr hs3
def fg_446_80 (N : Nat) (rec_53 : Value → Int32 → Int32 → am_H → Option am_O) (x0 : Value) (x3 : Int32) (x4 : Int32) (s0 : Int32) (h : am_H) : Option am_O := ((am_vR (am_pG 3101 x0 h)).bind fun v1 => ((am_pA 0 v1 x3 h).bind fun v3 => ((am_vR (am_pG 3102 x0 h)).bind fun v5 => ((am_pA 0 v5 x3 h).bind fun v7 => (if ¬ v7 = 1 then (fg_446_105 N rec_53 x0 x3 x4 s0 v3 0 h) else (fg_446_105 N rec_53 x0 x3 x4 s0 v3 1 h))))))
theorem rg_446_80 {X : am_X} {d : Nat} {N : Nat} {rec_53 : Value → Int32 → Int32 → am_H → Option am_O} (q_53 : ∀ (x0 : Value) (x3 : Int32) (x4 : Int32) (h : am_H) (o : am_O), rec_53 x0 x3 x4 h = some o → ∀ lv : am_LV, (lv.lookup 0 = some x0) → (lv.lookup 3 = some (.int x3)) → (lv.lookup 4 = some (.int x4)) → (am_isR x0 = true) → am_W X (d + 1) 446 53 lv [] h (fun q => q = o)) {lv : am_LV} (x0 : Value) (x3 : Int32) (x4 : Int32) (s0 : Int32) (h : am_H) (o : am_O) (l0 : lv.lookup 0 = some x0) (l3 : lv.lookup 3 = some (.int x3)) (l4 : lv.lookup 4 = some (.int x4)) (i0 : am_isR x0 = true) (hs : fg_446_80 N rec_53 x0 x3 x4 s0 h = some o) : am_W X (d + 1) 446 80 lv [(.int s0)] h (fun q => q = o) := by
  unfold fg_446_80 at hs
  refine aw_istore (lv1 := am_put1 _ 5 _) (pc1 := 82) at_446_80 rfl rfl ?_
  refine aw_vload_n (pc1 := 83) at_446_82 (am_lk1 l0 rfl rfl) i0 rfl ?_
  obtain ⟨v1, e2, hs1⟩ := am_bind hs
  clear hs
  refine aw_pG (pc1 := 86) at_446_83 (am_vR_s e2).1 rfl ?_
  refine aw_iload_n (pc1 := 87) at_446_86 (am_lk1 l3 rfl rfl) rfl ?_
  obtain ⟨v3, e4, hs2⟩ := am_bind hs1
  clear hs1
  refine aw_pA (pc1 := 88) at_446_87 (Or.inl ⟨rfl, rfl⟩) e4 rfl ?_
  refine aw_istore (lv1 := am_put1 _ 6 _) (pc1 := 90) at_446_88 rfl rfl ?_
  refine aw_vload_n (pc1 := 91) at_446_90 (am_lk1 (am_lk1 l0 rfl rfl) rfl rfl) i0 rfl ?_
  obtain ⟨v5, e6, hs3⟩ := am_bind hs2
  clear hs2
  refine aw_pG (pc1 := 94) at_446_91 (am_vR_s e6).1 rfl ?_
  refine aw_iload_n (pc1 := 95) at_446_94 (am_lk1 (am_lk1 l3 rfl rfl) rfl rfl) rfl ?_
  obtain ⟨v7, e8, hs4⟩ := am_bind hs3
  clear hs3
  refine aw_pA (pc1 := 96) at_446_95 (Or.inl ⟨rfl, rfl⟩) e8 rfl ?_
  refine aw_iconst (v := 1) (pc1 := 97) at_446_96 (by decide) rfl ?_
  by_cases c9 : ¬ v7 = 1
  · rw [if_pos c9] at hs4
    refine aw_icne_t at_446_97 c9 ?_
    refine aw_iconst (v := 0) (pc1 := 105) at_446_104 (by decide) rfl ?_
    exact rg_446_105 q_53 x0 x3 x4 s0 v3 0 h o (am_lk1 (am_lk1 l0 rfl rfl) rfl rfl) (am_lk1 (am_lk1 l3 rfl rfl) rfl rfl) (am_lk1 (am_lk1 l4 rfl rfl) rfl rfl) (am_lk1 am_lk0 rfl rfl) am_lk0 i0 hs4
  · rw [if_neg c9] at hs4
    refine aw_icne_f (pc1 := 100) at_446_97 c9 rfl ?_
    refine aw_iconst (v := 1) (pc1 := 101) at_446_100 (by decide) rfl ?_
    refine aw_goto at_446_101 ?_
    exact rg_446_105 q_53 x0 x3 x4 s0 v3 1 h o (am_lk1 (am_lk1 l0 rfl rfl) rfl rfl) (am_lk1 (am_lk1 l3 rfl rfl) rfl rfl) (am_lk1 (am_lk1 l4 rfl rfl) rfl rfl) (am_lk1 am_lk0 rfl rfl) am_lk0 i0 hs4
def fg_446_53 (N : Nat) : Nat → Value → Int32 → Int32 → am_H → Option am_O
  | 0 => fun _ _ _ _ => none
  | K + 1 => fun x0 x3 x4 h => ((am_vI (am_pG 3086 x0 h)).bind fun v1 => (if v1 ≤ x4 then (if ¬ x3 = 0 then (fg_446_263 N 0 h) else (fg_446_263 N 1 h)) else ((am_vR (am_pG 3100 x0 h)).bind fun v5 => ((am_pA 0 v5 (x3 + (-1)) h).bind fun v7 => (if ¬ v7 = 1 then (fg_446_80 N (fg_446_53 N K) x0 ((x3 + (-1))) x4 0 h) else (fg_446_80 N (fg_446_53 N K) x0 ((x3 + (-1))) x4 1 h))))))
theorem rg_446_53 {X : am_X} {d : Nat} {N : Nat} : ∀ (K : Nat) (x0 : Value) (x3 : Int32) (x4 : Int32) (h : am_H) (o : am_O), fg_446_53 N K x0 x3 x4 h = some o → ∀ lv : am_LV, (lv.lookup 0 = some x0) → (lv.lookup 3 = some (.int x3)) → (lv.lookup 4 = some (.int x4)) → (am_isR x0 = true) → am_W X (d + 1) 446 53 lv [] h (fun q => q = o) := by
  intro K
  induction K with
  | zero => intro x0 x3 x4 h o hs; cases hs
  | succ K ih =>
    intro x0 x3 x4 h o hs lv l0 l3 l4 i0
    unfold fg_446_53 at hs
    refine aw_iload (pc1 := 55) at_446_53 l4 rfl ?_
    refine aw_vload_n (pc1 := 56) at_446_55 l0 i0 rfl ?_
    obtain ⟨v1, e2, hs1⟩ := am_bind hs
    clear hs
    refine aw_pG (pc1 := 59) at_446_56 (am_vI_s e2) rfl ?_
    by_cases c3 : v1 ≤ x4
    · rw [if_pos c3] at hs1
      refine aw_icge_t at_446_59 c3 ?_
      refine aw_iload_n (pc1 := 255) at_446_254 l3 rfl ?_
      by_cases c4 : ¬ x3 = 0
      · rw [if_pos c4] at hs1
        refine aw_ifne_t at_446_255 c4 ?_
        refine aw_iconst (v := 0) (pc1 := 263) at_446_262 (by decide) rfl ?_
        exact rg_446_263 0 h o   hs1
      · rw [if_neg c4] at hs1
        refine aw_ifne_f (pc1 := 258) at_446_255 c4 rfl ?_
        refine aw_iconst (v := 1) (pc1 := 259) at_446_258 (by decide) rfl ?_
        refine aw_goto at_446_259 ?_
        exact rg_446_263 1 h o   hs1
    · rw [if_neg c3] at hs1
      refine aw_icge_f (pc1 := 62) at_446_59 c3 rfl ?_
      refine aw_iinc (v := (x3 + (-1))) (c := (-1)) (lv1 := am_put1 _ 3 _) (pc1 := 65) at_446_62 l3 (by decide) rfl rfl rfl ?_
      refine aw_vload_n (pc1 := 66) at_446_65 (am_lk1 l0 rfl rfl) i0 rfl ?_
      obtain ⟨v5, e6, hs2⟩ := am_bind hs1
      clear hs1
      refine aw_pG (pc1 := 69) at_446_66 (am_vR_s e6).1 rfl ?_
      refine aw_iload_n (pc1 := 70) at_446_69 am_lk0 rfl ?_
      obtain ⟨v7, e8, hs3⟩ := am_bind hs2
      clear hs2
      refine aw_pA (pc1 := 71) at_446_70 (Or.inl ⟨rfl, rfl⟩) e8 rfl ?_
      refine aw_iconst (v := 1) (pc1 := 72) at_446_71 (by decide) rfl ?_
      by_cases c9 : ¬ v7 = 1
      · rw [if_pos c9] at hs3
        refine aw_icne_t at_446_72 c9 ?_
        refine aw_iconst (v := 0) (pc1 := 80) at_446_79 (by decide) rfl ?_
        exact rg_446_80 (fun z0 z1 z2 h o hs3 => ih z0 z1 z2 h o hs3) x0 ((x3 + (-1))) x4 0 h o (am_lk1 l0 rfl rfl) am_lk0 (am_lk1 l4 rfl rfl) i0 hs3
      · rw [if_neg c9] at hs3
        refine aw_icne_f (pc1 := 75) at_446_72 c9 rfl ?_
        refine aw_iconst (v := 1) (pc1 := 76) at_446_75 (by decide) rfl ?_
        refine aw_goto at_446_76 ?_
        exact rg_446_80 (fun z0 z1 z2 h o hs3 => ih z0 z1 z2 h o hs3) x0 ((x3 + (-1))) x4 1 h o (am_lk1 l0 rfl rfl) am_lk0 (am_lk1 l4 rfl rfl) i0 hs3
def fg_446_49 (N : Nat) (x0 : Value) (x3 : Int32) (s0 : Value) (s1 : Int32) (s2 : Int32) (h : am_H) : Option am_O := ((am_pS 0 s0 s1 s2 h).bind fun h1 => (fg_446_53 N N x0 x3 0 h1))
theorem rg_446_49 {X : am_X} {d : Nat} {N : Nat} {lv : am_LV} (x0 : Value) (x3 : Int32) (s0 : Value) (s1 : Int32) (s2 : Int32) (h : am_H) (o : am_O) (l0 : lv.lookup 0 = some x0) (l3 : lv.lookup 3 = some (.int x3)) (i0 : am_isR x0 = true) (j0 : am_isR s0 = true) (hs : fg_446_49 N x0 x3 s0 s1 s2 h = some o) : am_W X (d + 1) 446 49 lv [(.int s2), (.int s1), s0] h (fun q => q = o) := by
  unfold fg_446_49 at hs
  obtain ⟨h1, e2, hs1⟩ := am_bind hs
  clear hs
  refine aw_pS (pc1 := 50) at_446_49 (Or.inl ⟨rfl, rfl⟩) e2 rfl ?_
  refine aw_iconst (v := 0) (pc1 := 51) at_446_50 (by decide) rfl ?_
  refine aw_istore (lv1 := am_put1 _ 4 _) (pc1 := 53) at_446_51 rfl rfl ?_
  exact rg_446_53 N x0 x3 0 h1 o hs1 _ (am_lk1 l0 rfl rfl) (am_lk1 l3 rfl rfl) am_lk0 i0
def fg_446_27 (N : Nat) (x0 : Value) (x2 : Int32) (x3 : Int32) (s0 : Value) (s1 : Int32) (s2 : Int32) (h : am_H) : Option am_O := ((am_pS 0 s0 s1 s2 h).bind fun h1 => ((am_vR (am_pG 3101 x0 h1)).bind fun v3 => ((am_pS 0 v3 0 1 h1).bind fun h5 => ((am_vR (am_pG 3102 x0 h5)).bind fun v7 => (if x2 = 0 then (fg_446_49 N x0 x3 v7 0 0 h5) else (fg_446_49 N x0 x3 v7 0 1 h5))))))
theorem rg_446_27 {X : am_X} {d : Nat} {N : Nat} {lv : am_LV} (x0 : Value) (x2 : Int32) (x3 : Int32) (s0 : Value) (s1 : Int32) (s2 : Int32) (h : am_H) (o : am_O) (l0 : lv.lookup 0 = some x0) (l2 : lv.lookup 2 = some (.int x2)) (l3 : lv.lookup 3 = some (.int x3)) (i0 : am_isR x0 = true) (j0 : am_isR s0 = true) (hs : fg_446_27 N x0 x2 x3 s0 s1 s2 h = some o) : am_W X (d + 1) 446 27 lv [(.int s2), (.int s1), s0] h (fun q => q = o) := by
  unfold fg_446_27 at hs
  obtain ⟨h1, e2, hs1⟩ := am_bind hs
  clear hs
  refine aw_pS (pc1 := 28) at_446_27 (Or.inl ⟨rfl, rfl⟩) e2 rfl ?_
  refine aw_vload_n (pc1 := 29) at_446_28 l0 i0 rfl ?_
  obtain ⟨v3, e4, hs2⟩ := am_bind hs1
  clear hs1
  refine aw_pG (pc1 := 32) at_446_29 (am_vR_s e4).1 rfl ?_
  refine aw_iconst (v := 0) (pc1 := 33) at_446_32 (by decide) rfl ?_
  refine aw_iconst (v := 1) (pc1 := 34) at_446_33 (by decide) rfl ?_
  obtain ⟨h5, e6, hs3⟩ := am_bind hs2
  clear hs2
  refine aw_pS (pc1 := 35) at_446_34 (Or.inl ⟨rfl, rfl⟩) e6 rfl ?_
  refine aw_vload_n (pc1 := 36) at_446_35 l0 i0 rfl ?_
  obtain ⟨v7, e8, hs4⟩ := am_bind hs3
  clear hs3
  refine aw_pG (pc1 := 39) at_446_36 (am_vR_s e8).1 rfl ?_
  refine aw_iconst (v := 0) (pc1 := 40) at_446_39 (by decide) rfl ?_
  refine aw_iload_n (pc1 := 41) at_446_40 l2 rfl ?_
  by_cases c9 : x2 = 0
  · rw [if_pos c9] at hs4
    refine aw_ifeq_t at_446_41 c9 ?_
    refine aw_iconst (v := 0) (pc1 := 49) at_446_48 (by decide) rfl ?_
    exact rg_446_49 x0 x3 v7 0 0 h5 o l0 l3 i0 (am_vR_s e8).2 hs4
  · rw [if_neg c9] at hs4
    refine aw_ifeq_f (pc1 := 44) at_446_41 c9 rfl ?_
    refine aw_iconst (v := 1) (pc1 := 45) at_446_44 (by decide) rfl ?_
    refine aw_goto at_446_45 ?_
    exact rg_446_49 x0 x3 v7 0 1 h5 o l0 l3 i0 (am_vR_s e8).2 hs4
def fg_446_0 (N : Nat) (x0 : Value) (x1 : Int32) (x2 : Int32) (h : am_H) : Option am_O := ((am_vI (am_pG 3086 x0 h)).bind fun v1 => (if v1 ≤ 60 then ((am_vR (am_pG 3100 x0 h)).bind fun v4 => (if x1 = 0 then (fg_446_27 N x0 x2 1 v4 0 0 h) else (fg_446_27 N x0 x2 1 v4 0 1 h))) else some (.inl (some (.int 0), h))))
theorem rg_446_0 {X : am_X} {d : Nat} {N : Nat} {lv : am_LV} (x0 : Value) (x1 : Int32) (x2 : Int32) (h : am_H) (o : am_O) (l0 : lv.lookup 0 = some x0) (l1 : lv.lookup 1 = some (.int x1)) (l2 : lv.lookup 2 = some (.int x2)) (i0 : am_isR x0 = true) (hs : fg_446_0 N x0 x1 x2 h = some o) : am_W X (d + 1) 446 0 lv [] h (fun q => q = o) := by
  unfold fg_446_0 at hs
  refine aw_vload_n (pc1 := 1) at_446_0 l0 i0 rfl ?_
  obtain ⟨v1, e2, hs1⟩ := am_bind hs
  clear hs
  refine aw_pG (pc1 := 4) at_446_1 (am_vI_s e2) rfl ?_
  refine aw_bipush (v := 60) (pc1 := 6) at_446_4 (by decide) rfl ?_
  by_cases c3 : v1 ≤ 60
  · rw [if_pos c3] at hs1
    refine aw_icle_t at_446_6 c3 ?_
    refine aw_iconst (v := 1) (pc1 := 12) at_446_11 (by decide) rfl ?_
    refine aw_istore_n (lv1 := am_put1 _ 3 _) (pc1 := 13) at_446_12 rfl rfl ?_
    refine aw_vload_n (pc1 := 14) at_446_13 (am_lk1 l0 rfl rfl) i0 rfl ?_
    obtain ⟨v4, e5, hs2⟩ := am_bind hs1
    clear hs1
    refine aw_pG (pc1 := 17) at_446_14 (am_vR_s e5).1 rfl ?_
    refine aw_iconst (v := 0) (pc1 := 18) at_446_17 (by decide) rfl ?_
    refine aw_iload_n (pc1 := 19) at_446_18 (am_lk1 l1 rfl rfl) rfl ?_
    by_cases c6 : x1 = 0
    · rw [if_pos c6] at hs2
      refine aw_ifeq_t at_446_19 c6 ?_
      refine aw_iconst (v := 0) (pc1 := 27) at_446_26 (by decide) rfl ?_
      exact rg_446_27 x0 x2 1 v4 0 0 h o (am_lk1 l0 rfl rfl) (am_lk1 l2 rfl rfl) am_lk0 i0 (am_vR_s e5).2 hs2
    · rw [if_neg c6] at hs2
      refine aw_ifeq_f (pc1 := 22) at_446_19 c6 rfl ?_
      refine aw_iconst (v := 1) (pc1 := 23) at_446_22 (by decide) rfl ?_
      refine aw_goto at_446_23 ?_
      exact rg_446_27 x0 x2 1 v4 0 1 h o (am_lk1 l0 rfl rfl) (am_lk1 l2 rfl rfl) am_lk0 i0 (am_vR_s e5).2 hs2
  · rw [if_neg c3] at hs1
    refine aw_icle_f (pc1 := 9) at_446_6 c3 rfl ?_
    refine aw_iconst (v := 0) (pc1 := 10) at_446_9 (by decide) rfl ?_
    cases hs1
    exact aw_iret at_446_10 (by rw [rt_446]; decide) rfl
def fm_446 (N : Nat) (y0 : Value) (y1 : Int32) (y2 : Int32) (h : am_H) : Option am_O := fg_446_0 N y0 y1 y2 h
theorem rm_446 {X : am_X} {d : Nat} {N : Nat} (y0 : Value) (y1 : Int32) (y2 : Int32) (h : am_H) (o : am_O) (i0 : am_isR y0 = true) (hs : fm_446 N y0 y1 y2 h = some o) : am_W X (d + 1) 446 0 (am_args 0 [y0, .int y1, .int y2]) [] h (fun q => q = o) := by
  rw [am_args_R i0, am_args_I, am_args_I]
  exact rg_446_0 y0 y1 y2 h o rfl rfl rfl i0 hs
