/-! ===== methods as functions ===== -/
def fg_334_23 (s0 : Int32) (h : am_H) : Option am_O := (if am_rfit (some FieldType.boolean) s0 then some (.inl (some (.int s0), h)) else none)
theorem rg_334_23 {X : am_X} {d : Nat} {lv : am_LV} (s0 : Int32) (h : am_H) (o : am_O) (hs : fg_334_23 s0 h = some o) : am_W X (d) 334 23 lv [(.int s0)] h (fun q => q = o) := by
  unfold fg_334_23 at hs
  obtain ⟨z1, hs1⟩ := am_ift hs
  clear hs
  cases hs1
  exact aw_iret at_334_23 (by rw [rt_334]; exact z1) rfl
def fg_334_22 (h : am_H) : Option am_O := (fg_334_23 0 h)
theorem rg_334_22 {X : am_X} {d : Nat} {lv : am_LV} (h : am_H) (o : am_O) (hs : fg_334_22 h = some o) : am_W X (d) 334 22 lv [] h (fun q => q = o) := by
  unfold fg_334_22 at hs
  refine aw_iconst (v := 0) (pc1 := 23) at_334_22 (by decide) rfl ?_
  exact rg_334_23 0 h o   hs
def fg_334_18 (h : am_H) : Option am_O := (fg_334_23 1 h)
theorem rg_334_18 {X : am_X} {d : Nat} {lv : am_LV} (h : am_H) (o : am_O) (hs : fg_334_18 h = some o) : am_W X (d) 334 18 lv [] h (fun q => q = o) := by
  unfold fg_334_18 at hs
  refine aw_iconst (v := 1) (pc1 := 19) at_334_18 (by decide) rfl ?_
  refine aw_goto at_334_19 ?_
  exact rg_334_23 1 h o   hs
def fg_334_0 (x0 : Int32) (h : am_H) : Option am_O := (if x0 = 9 then (fg_334_18 h) else (if x0 < 15 then (fg_334_22 h) else (if 18 < x0 then (fg_334_22 h) else (fg_334_18 h))))
theorem rg_334_0 {X : am_X} {d : Nat} {lv : am_LV} (x0 : Int32) (h : am_H) (o : am_O) (l0 : lv.lookup 0 = some (.int x0)) (hs : fg_334_0 x0 h = some o) : am_W X (d) 334 0 lv [] h (fun q => q = o) := by
  unfold fg_334_0 at hs
  refine aw_iload_n (pc1 := 1) at_334_0 l0 rfl ?_
  refine aw_bipush (v := 9) (pc1 := 3) at_334_1 (by decide) rfl ?_
  by_cases c1 : x0 = 9
  · rw [if_pos c1] at hs
    refine aw_iceq_t at_334_3 c1 ?_
    exact rg_334_18 h o   hs
  · rw [if_neg c1] at hs
    refine aw_iceq_f (pc1 := 6) at_334_3 c1 rfl ?_
    refine aw_iload_n (pc1 := 7) at_334_6 l0 rfl ?_
    refine aw_bipush (v := 15) (pc1 := 9) at_334_7 (by decide) rfl ?_
    by_cases c2 : x0 < 15
    · rw [if_pos c2] at hs
      refine aw_iclt_t at_334_9 c2 ?_
      exact rg_334_22 h o   hs
    · rw [if_neg c2] at hs
      refine aw_iclt_f (pc1 := 12) at_334_9 c2 rfl ?_
      refine aw_iload_n (pc1 := 13) at_334_12 l0 rfl ?_
      refine aw_bipush (v := 18) (pc1 := 15) at_334_13 (by decide) rfl ?_
      by_cases c3 : 18 < x0
      · rw [if_pos c3] at hs
        refine aw_icgt_t at_334_15 c3 ?_
        exact rg_334_22 h o   hs
      · rw [if_neg c3] at hs
        refine aw_icgt_f (pc1 := 18) at_334_15 c3 rfl ?_
        exact rg_334_18 h o   hs
def fm_334 (y0 : Int32) (h : am_H) : Option am_O := fg_334_0 y0 h
theorem rm_334 {X : am_X} {d : Nat} (y0 : Int32) (h : am_H) (o : am_O) (hs : fm_334 y0 h = some o) : am_W X (d) 334 0 (am_args 0 [.int y0]) [] h (fun q => q = o) := by
  rw [am_args_I]
  exact rg_334_0 y0 h o rfl  hs
def fg_335_0 (x0 : Value) (x1 : Int32) (x2 : Int32) (h : am_H) : Option am_O := ((am_vR (am_pG 3088 x0 h)).bind fun v1 => ((am_vI (am_pG 3086 x0 h)).bind fun v3 => ((am_pS 0 v1 v3 x1 h).bind fun h5 => ((am_vR (am_pG 3089 x0 h5)).bind fun v7 => ((am_vI (am_pG 3086 x0 h5)).bind fun v9 => ((am_pS 0 v7 v9 x2 h5).bind fun h11 => ((am_vI (am_pG 3086 x0 h11)).bind fun v13 => ((am_pP 3086 x0 (.int (v13 + 1)) h11).bind fun h15 => some (.inl (none, h15))))))))))
theorem rg_335_0 {X : am_X} {d : Nat} {lv : am_LV} (x0 : Value) (x1 : Int32) (x2 : Int32) (h : am_H) (o : am_O) (l0 : lv.lookup 0 = some x0) (l1 : lv.lookup 1 = some (.int x1)) (l2 : lv.lookup 2 = some (.int x2)) (i0 : am_isR x0 = true) (hs : fg_335_0 x0 x1 x2 h = some o) : am_W X (d) 335 0 lv [] h (fun q => q = o) := by
  unfold fg_335_0 at hs
  refine aw_vload_n (pc1 := 1) at_335_0 l0 i0 rfl ?_
  obtain ⟨v1, e2, hs1⟩ := am_bind hs
  clear hs
  refine aw_pG (pc1 := 4) at_335_1 (am_vR_s e2).1 rfl ?_
  refine aw_vload_n (pc1 := 5) at_335_4 l0 i0 rfl ?_
  obtain ⟨v3, e4, hs2⟩ := am_bind hs1
  clear hs1
  refine aw_pG (pc1 := 8) at_335_5 (am_vI_s e4) rfl ?_
  refine aw_iload_n (pc1 := 9) at_335_8 l1 rfl ?_
  obtain ⟨h5, e6, hs3⟩ := am_bind hs2
  clear hs2
  refine aw_pS (pc1 := 10) at_335_9 (Or.inl ⟨rfl, rfl⟩) e6 rfl ?_
  refine aw_vload_n (pc1 := 11) at_335_10 l0 i0 rfl ?_
  obtain ⟨v7, e8, hs4⟩ := am_bind hs3
  clear hs3
  refine aw_pG (pc1 := 14) at_335_11 (am_vR_s e8).1 rfl ?_
  refine aw_vload_n (pc1 := 15) at_335_14 l0 i0 rfl ?_
  obtain ⟨v9, e10, hs5⟩ := am_bind hs4
  clear hs4
  refine aw_pG (pc1 := 18) at_335_15 (am_vI_s e10) rfl ?_
  refine aw_iload_n (pc1 := 19) at_335_18 l2 rfl ?_
  obtain ⟨h11, e12, hs6⟩ := am_bind hs5
  clear hs5
  refine aw_pS (pc1 := 20) at_335_19 (Or.inl ⟨rfl, rfl⟩) e12 rfl ?_
  refine aw_vload_n (pc1 := 21) at_335_20 l0 i0 rfl ?_
  refine aw_vdup (pc1 := 22) at_335_21 i0 rfl ?_
  obtain ⟨v13, e14, hs7⟩ := am_bind hs6
  clear hs6
  refine aw_pG (pc1 := 25) at_335_22 (am_vI_s e14) rfl ?_
  refine aw_iconst (v := 1) (pc1 := 26) at_335_25 (by decide) rfl ?_
  refine aw_iadd (v := (v13 + 1)) (pc1 := 27) at_335_26 rfl rfl ?_
  obtain ⟨h15, e16, hs8⟩ := am_bind hs7
  clear hs7
  refine aw_pP (pc1 := 30) at_335_27 e16 rfl ?_
  cases hs8
  exact aw_vret at_335_30 rt_335 rfl
def fm_335 (y0 : Value) (y1 : Int32) (y2 : Int32) (h : am_H) : Option am_O := fg_335_0 y0 y1 y2 h
theorem rm_335 {X : am_X} {d : Nat} (y0 : Value) (y1 : Int32) (y2 : Int32) (h : am_H) (o : am_O) (i0 : am_isR y0 = true) (hs : fm_335 y0 y1 y2 h = some o) : am_W X (d) 335 0 (am_args 0 [y0, .int y1, .int y2]) [] h (fun q => q = o) := by
  rw [am_args_R i0, am_args_I, am_args_I]
  exact rg_335_0 y0 y1 y2 h o rfl rfl rfl i0 hs
def fg_336_0 (x0 : Value) (x1 : Int32) (h : am_H) : Option am_O := ((am_vI (am_pG 3141 x0 h)).bind fun v1 => (if am_pOk 12 x0 h then am_cI true (fm_332 x0 v1 h) (fun v4 h5 => (if v4 = x1 then ((am_vI (am_pG 3141 x0 h5)).bind fun v8 => ((am_pP 3141 x0 (.int (v8 + 1)) h5).bind fun h10 => some (.inl (some (.int 1), h10)))) else ((am_vI (am_pG 3141 x0 h5)).bind fun v12 => (if am_pOk 12 x0 h5 then am_cI true (fm_331 x0 v12 h5) (fun v15 h16 => (if am_rfit (some FieldType.boolean) v15 then some (.inl (some (.int v15), h16)) else none)) else none)))) else none))
theorem rg_336_0 {X : am_X} {d : Nat} {lv : am_LV} (x0 : Value) (x1 : Int32) (h : am_H) (o : am_O) (l0 : lv.lookup 0 = some x0) (l1 : lv.lookup 1 = some (.int x1)) (i0 : am_isR x0 = true) (hs : fg_336_0 x0 x1 h = some o) : am_W X (d + 1) 336 0 lv [] h (fun q => q = o) := by
  unfold fg_336_0 at hs
  refine aw_vload_n (pc1 := 1) at_336_0 l0 i0 rfl ?_
  refine aw_vload_n (pc1 := 2) at_336_1 l0 i0 rfl ?_
  obtain ⟨v1, e2, hs1⟩ := am_bind hs
  clear hs
  refine aw_pG (pc1 := 5) at_336_2 (am_vI_s e2) rfl ?_
  obtain ⟨z3, hs2⟩ := am_ift hs1
  clear hs1
  refine aw_call (F := fm_332 x0 v1 h) (t := true) (na := 2) (kd := 1) (as := [x0, (.int v1)]) at_336_5 (am_k3v kb_332) mn_332 mk_332 rfl rfl (am_ok_v mi_332 (am_hl rfl (am_ccR i0 (am_ccI am_cats_0)) rfl) z3) (am_hc am_cats_0 rfl) (fun _ => ⟨rfl, hh_336⟩) (fun o1 hz9 => rm_332 x0 v1 h o1 i0 hz9) ?_
  rcases am_cI_s hs2 with ⟨v4, h5, f6, hs3⟩ | hs3
  · clear hs2
    refine Or.inl ⟨_, _, f6, ?_⟩
    show am_W X _ 336 8 _ [(.int v4)] h5 _
    refine aw_iload_n (pc1 := 9) at_336_8 l1 rfl ?_
    by_cases c7 : v4 = x1
    · rw [if_pos c7] at hs3
      refine aw_iceq_t at_336_9 c7 ?_
      refine aw_vload_n (pc1 := 22) at_336_21 l0 i0 rfl ?_
      refine aw_vdup (pc1 := 23) at_336_22 i0 rfl ?_
      obtain ⟨v8, e9, hs4⟩ := am_bind hs3
      clear hs3
      refine aw_pG (pc1 := 26) at_336_23 (am_vI_s e9) rfl ?_
      refine aw_iconst (v := 1) (pc1 := 27) at_336_26 (by decide) rfl ?_
      refine aw_iadd (v := (v8 + 1)) (pc1 := 28) at_336_27 rfl rfl ?_
      obtain ⟨h10, e11, hs5⟩ := am_bind hs4
      clear hs4
      refine aw_pP (pc1 := 31) at_336_28 e11 rfl ?_
      refine aw_iconst (v := 1) (pc1 := 32) at_336_31 (by decide) rfl ?_
      cases hs5
      exact aw_iret at_336_32 (by rw [rt_336]; decide) rfl
    · rw [if_neg c7] at hs3
      refine aw_iceq_f (pc1 := 12) at_336_9 c7 rfl ?_
      refine aw_vload_n (pc1 := 13) at_336_12 l0 i0 rfl ?_
      refine aw_vload_n (pc1 := 14) at_336_13 l0 i0 rfl ?_
      obtain ⟨v12, e13, hs6⟩ := am_bind hs3
      clear hs3
      refine aw_pG (pc1 := 17) at_336_14 (am_vI_s e13) rfl ?_
      obtain ⟨z14, hs7⟩ := am_ift hs6
      clear hs6
      refine aw_call (F := fm_331 x0 v12 h5) (t := true) (na := 2) (kd := 1) (as := [x0, (.int v12)]) at_336_17 (am_k3v kb_331) mn_331 mk_331 rfl rfl (am_ok_v mi_331 (am_hl rfl (am_ccR i0 (am_ccI am_cats_0)) rfl) z14) (am_hc am_cats_0 rfl) (fun _ => ⟨rfl, hh_336⟩) (fun o1 hz9 => rm_331 x0 v12 h5 o1 i0 hz9) ?_
      rcases am_cI_s hs7 with ⟨v15, h16, f17, hs8⟩ | hs8
      · clear hs7
        refine Or.inl ⟨_, _, f17, ?_⟩
        show am_W X _ 336 20 _ [(.int v15)] h16 _
        obtain ⟨z18, hs9⟩ := am_ift hs8
        clear hs8
        cases hs9
        exact aw_iret at_336_20 (by rw [rt_336]; exact z18) rfl
      · clear hs7
        exact Or.inr hs8
  · clear hs2
    exact Or.inr hs3
def fm_336 (y0 : Value) (y1 : Int32) (h : am_H) : Option am_O := fg_336_0 y0 y1 h
theorem rm_336 {X : am_X} {d : Nat} (y0 : Value) (y1 : Int32) (h : am_H) (o : am_O) (i0 : am_isR y0 = true) (hs : fm_336 y0 y1 h = some o) : am_W X (d + 1) 336 0 (am_args 0 [y0, .int y1]) [] h (fun q => q = o) := by
  rw [am_args_R i0, am_args_I]
  exact rg_336_0 y0 y1 h o rfl rfl i0 hs
def fg_337_0 (x0 : Value) (h : am_H) : Option am_O := ((am_pP 3149 x0 (.int 1) h).bind fun h1 => some (.inl (some (.int 1), h1)))
theorem rg_337_0 {X : am_X} {d : Nat} {lv : am_LV} (x0 : Value) (h : am_H) (o : am_O) (l0 : lv.lookup 0 = some x0) (i0 : am_isR x0 = true) (hs : fg_337_0 x0 h = some o) : am_W X (d) 337 0 lv [] h (fun q => q = o) := by
  unfold fg_337_0 at hs
  refine aw_vload_n (pc1 := 1) at_337_0 l0 i0 rfl ?_
  refine aw_iconst (v := 1) (pc1 := 2) at_337_1 (by decide) rfl ?_
  obtain ⟨h1, e2, hs1⟩ := am_bind hs
  clear hs
  refine aw_pP (pc1 := 5) at_337_2 e2 rfl ?_
  refine aw_iconst (v := 1) (pc1 := 6) at_337_5 (by decide) rfl ?_
  cases hs1
  exact aw_iret at_337_6 (by rw [rt_337]; decide) rfl
def fm_337 (y0 : Value) (h : am_H) : Option am_O := fg_337_0 y0 h
theorem rm_337 {X : am_X} {d : Nat} (y0 : Value) (h : am_H) (o : am_O) (i0 : am_isR y0 = true) (hs : fm_337 y0 h = some o) : am_W X (d) 337 0 (am_args 0 [y0]) [] h (fun q => q = o) := by
  rw [am_args_R i0]
  exact rg_337_0 y0 h o rfl i0 hs
def fg_338_62 (s0 : Int32) (h : am_H) : Option am_O := some (.inl (some (.int s0), h))
theorem rg_338_62 {X : am_X} {d : Nat} {lv : am_LV} (s0 : Int32) (h : am_H) (o : am_O) (hs : fg_338_62 s0 h = some o) : am_W X (d) 338 62 lv [(.int s0)] h (fun q => q = o) := by
  unfold fg_338_62 at hs
  cases hs
  exact aw_iret at_338_62 (by rw [rt_338]; rfl) rfl
def fg_338_0 (x0 : Int32) (h : am_H) : Option am_O := (if ¬ x0 = 120 then (if ¬ x0 = 121 then (if ¬ x0 = 122 then (if ¬ x0 = 110 then (if ¬ x0 = 115 then (if ¬ x0 = 101 then (fg_338_62 ((-1)) h) else (fg_338_62 6 h)) else (fg_338_62 5 h)) else (fg_338_62 4 h)) else (fg_338_62 3 h)) else (fg_338_62 2 h)) else (fg_338_62 1 h))
theorem rg_338_0 {X : am_X} {d : Nat} {lv : am_LV} (x0 : Int32) (h : am_H) (o : am_O) (l0 : lv.lookup 0 = some (.int x0)) (hs : fg_338_0 x0 h = some o) : am_W X (d) 338 0 lv [] h (fun q => q = o) := by
  unfold fg_338_0 at hs
  refine aw_iload_n (pc1 := 1) at_338_0 l0 rfl ?_
  refine aw_bipush (v := 120) (pc1 := 3) at_338_1 (by decide) rfl ?_
  by_cases c1 : ¬ x0 = 120
  · rw [if_pos c1] at hs
    refine aw_icne_t at_338_3 c1 ?_
    refine aw_iload_n (pc1 := 11) at_338_10 l0 rfl ?_
    refine aw_bipush (v := 121) (pc1 := 13) at_338_11 (by decide) rfl ?_
    by_cases c2 : ¬ x0 = 121
    · rw [if_pos c2] at hs
      refine aw_icne_t at_338_13 c2 ?_
      refine aw_iload_n (pc1 := 21) at_338_20 l0 rfl ?_
      refine aw_bipush (v := 122) (pc1 := 23) at_338_21 (by decide) rfl ?_
      by_cases c3 : ¬ x0 = 122
      · rw [if_pos c3] at hs
        refine aw_icne_t at_338_23 c3 ?_
        refine aw_iload_n (pc1 := 31) at_338_30 l0 rfl ?_
        refine aw_bipush (v := 110) (pc1 := 33) at_338_31 (by decide) rfl ?_
        by_cases c4 : ¬ x0 = 110
        · rw [if_pos c4] at hs
          refine aw_icne_t at_338_33 c4 ?_
          refine aw_iload_n (pc1 := 41) at_338_40 l0 rfl ?_
          refine aw_bipush (v := 115) (pc1 := 43) at_338_41 (by decide) rfl ?_
          by_cases c5 : ¬ x0 = 115
          · rw [if_pos c5] at hs
            refine aw_icne_t at_338_43 c5 ?_
            refine aw_iload_n (pc1 := 51) at_338_50 l0 rfl ?_
            refine aw_bipush (v := 101) (pc1 := 53) at_338_51 (by decide) rfl ?_
            by_cases c6 : ¬ x0 = 101
            · rw [if_pos c6] at hs
              refine aw_icne_t at_338_53 c6 ?_
              refine aw_iconst (v := (-1)) (pc1 := 62) at_338_61 (by decide) rfl ?_
              exact rg_338_62 ((-1)) h o   hs
            · rw [if_neg c6] at hs
              refine aw_icne_f (pc1 := 56) at_338_53 c6 rfl ?_
              refine aw_bipush (v := 6) (pc1 := 58) at_338_56 (by decide) rfl ?_
              refine aw_goto at_338_58 ?_
              exact rg_338_62 6 h o   hs
          · rw [if_neg c5] at hs
            refine aw_icne_f (pc1 := 46) at_338_43 c5 rfl ?_
            refine aw_iconst (v := 5) (pc1 := 47) at_338_46 (by decide) rfl ?_
            refine aw_goto at_338_47 ?_
            exact rg_338_62 5 h o   hs
        · rw [if_neg c4] at hs
          refine aw_icne_f (pc1 := 36) at_338_33 c4 rfl ?_
          refine aw_iconst (v := 4) (pc1 := 37) at_338_36 (by decide) rfl ?_
          refine aw_goto at_338_37 ?_
          exact rg_338_62 4 h o   hs
      · rw [if_neg c3] at hs
        refine aw_icne_f (pc1 := 26) at_338_23 c3 rfl ?_
        refine aw_iconst (v := 3) (pc1 := 27) at_338_26 (by decide) rfl ?_
        refine aw_goto at_338_27 ?_
        exact rg_338_62 3 h o   hs
    · rw [if_neg c2] at hs
      refine aw_icne_f (pc1 := 16) at_338_13 c2 rfl ?_
      refine aw_iconst (v := 2) (pc1 := 17) at_338_16 (by decide) rfl ?_
      refine aw_goto at_338_17 ?_
      exact rg_338_62 2 h o   hs
  · rw [if_neg c1] at hs
    refine aw_icne_f (pc1 := 6) at_338_3 c1 rfl ?_
    refine aw_iconst (v := 1) (pc1 := 7) at_338_6 (by decide) rfl ?_
    refine aw_goto at_338_7 ?_
    exact rg_338_62 1 h o   hs
def fm_338 (y0 : Int32) (h : am_H) : Option am_O := fg_338_0 y0 h
theorem rm_338 {X : am_X} {d : Nat} (y0 : Int32) (h : am_H) (o : am_O) (hs : fm_338 y0 h = some o) : am_W X (d) 338 0 (am_args 0 [.int y0]) [] h (fun q => q = o) := by
  rw [am_args_I]
  exact rg_338_0 y0 h o rfl  hs
def fg_339_0 (x0 : Value) (x1 : Int32) (h : am_H) : Option am_O := (if am_pOk 12 x0 h then am_cI true (fm_332 x0 x1 h) (fun v2 h3 => am_cI false (fm_327 ((Int32.toInt64 v2)) 48 57 h3) (fun v5 h6 => (if am_rfit (some FieldType.boolean) v5 then some (.inl (some (.int v5), h6)) else none))) else none)
theorem rg_339_0 {X : am_X} {d : Nat} {lv : am_LV} (x0 : Value) (x1 : Int32) (h : am_H) (o : am_O) (l0 : lv.lookup 0 = some x0) (l1 : lv.lookup 1 = some (.int x1)) (i0 : am_isR x0 = true) (hs : fg_339_0 x0 x1 h = some o) : am_W X (d + 1) 339 0 lv [] h (fun q => q = o) := by
  unfold fg_339_0 at hs
  refine aw_vload_n (pc1 := 1) at_339_0 l0 i0 rfl ?_
  refine aw_iload_n (pc1 := 2) at_339_1 l1 rfl ?_
  obtain ⟨z1, hs1⟩ := am_ift hs
  clear hs
  refine aw_call (F := fm_332 x0 x1 h) (t := true) (na := 2) (kd := 1) (as := [x0, (.int x1)]) at_339_2 (am_k3v kb_332) mn_332 mk_332 rfl rfl (am_ok_v mi_332 (am_hl rfl (am_ccR i0 (am_ccI am_cats_0)) rfl) z1) (am_hc am_cats_0 rfl) (fun _ => ⟨rfl, hh_339⟩) (fun o1 hz9 => rm_332 x0 x1 h o1 i0 hz9) ?_
  rcases am_cI_s hs1 with ⟨v2, h3, f4, hs2⟩ | hs2
  · clear hs1
    refine Or.inl ⟨_, _, f4, ?_⟩
    show am_W X _ 339 5 _ [(.int v2)] h3 _
    refine aw_i2l (v := (Int32.toInt64 v2)) (pc1 := 6) at_339_5 rfl rfl ?_
    refine aw_ldc2 (v := 48) (pc1 := 9) at_339_6 rfl rfl ?_
    refine aw_ldc2 (v := 57) (pc1 := 12) at_339_9 rfl rfl ?_
    refine aw_call (F := fm_327 ((Int32.toInt64 v2)) 48 57 h3) (t := false) (na := 3) (kd := 0) (as := [(.long (Int32.toInt64 v2)), (.long 48), (.long 57)]) at_339_12 (am_k3s kb_327) mn_327 mk_327 rfl rfl (am_ok_s mi_327 (am_hl rfl (am_ccL (am_ccL (am_ccL am_cats_0))) rfl)) (am_hc am_cats_0 rfl) (fun hz9 => by cases hz9) (fun o1 hz9 => rm_327 ((Int32.toInt64 v2)) 48 57 h3 o1  hz9) ?_
    rcases am_cI_s hs2 with ⟨v5, h6, f7, hs3⟩ | hs3
    · clear hs2
      refine Or.inl ⟨_, _, f7, ?_⟩
      show am_W X _ 339 15 _ [(.int v5)] h6 _
      obtain ⟨z8, hs4⟩ := am_ift hs3
      clear hs3
      cases hs4
      exact aw_iret at_339_15 (by rw [rt_339]; exact z8) rfl
    · clear hs2
      exact Or.inr hs3
  · clear hs1
    exact Or.inr hs2
def fm_339 (y0 : Value) (y1 : Int32) (h : am_H) : Option am_O := fg_339_0 y0 y1 h
theorem rm_339 {X : am_X} {d : Nat} (y0 : Value) (y1 : Int32) (h : am_H) (o : am_O) (i0 : am_isR y0 = true) (hs : fm_339 y0 y1 h = some o) : am_W X (d + 1) 339 0 (am_args 0 [y0, .int y1]) [] h (fun q => q = o) := by
  rw [am_args_R i0, am_args_I]
  exact rg_339_0 y0 y1 h o rfl rfl i0 hs
def fg_341_91 (h : am_H) : Option am_O := some (.inl (some (.int 1), h))
theorem rg_341_91 {X : am_X} {d : Nat} {lv : am_LV} (h : am_H) (o : am_O) (hs : fg_341_91 h = some o) : am_W X (d + 2) 341 91 lv [] h (fun q => q = o) := by
  unfold fg_341_91 at hs
  refine aw_iconst (v := 1) (pc1 := 92) at_341_91 (by decide) rfl ?_
  cases hs
  exact aw_iret at_341_92 (by rw [rt_341]; decide) rfl
def fg_341_0 (x0 : Value) (h : am_H) : Option am_O := ((am_vI (am_pG 3141 x0 h)).bind fun v1 => (if am_pOk 12 x0 h then am_cI true (fm_339 x0 v1 h) (fun v4 h5 => (if ¬ v4 = 0 then ((am_vR (am_pG 3139 x0 h5)).bind fun v8 => ((am_vI (am_pG 3141 x0 h5)).bind fun v10 => ((am_pA 0 v8 v10 h5).bind fun v12 => ((am_pP 3144 x0 (.int (v12 - 48)) h5).bind fun h14 => ((am_vI (am_pG 3141 x0 h14)).bind fun v16 => ((am_pP 3141 x0 (.int (v16 + 1)) h14).bind fun h18 => ((am_vI (am_pG 3141 x0 h18)).bind fun v20 => (if am_pOk 12 x0 h18 then am_cI true (fm_339 x0 v20 h18) (fun v23 h24 => (if v23 = 0 then (fg_341_91 h24) else ((am_vI (am_pG 3144 x0 h24)).bind fun v27 => ((am_vR (am_pG 3139 x0 h24)).bind fun v29 => ((am_vI (am_pG 3141 x0 h24)).bind fun v31 => ((am_pA 0 v29 v31 h24).bind fun v33 => ((am_pP 3144 x0 (.int (((10 * v27) + v33) - 48)) h24).bind fun h35 => ((am_vI (am_pG 3141 x0 h35)).bind fun v37 => ((am_pP 3141 x0 (.int (v37 + 1)) h35).bind fun h39 => (fg_341_91 h39)))))))))) else none)))))))) else ((am_vI (am_pG 3141 x0 h5)).bind fun v41 => (if am_pOk 12 x0 h5 then am_cI true (fm_331 x0 v41 h5) (fun v44 h45 => (if am_rfit (some FieldType.boolean) v44 then some (.inl (some (.int v44), h45)) else none)) else none)))) else none))
theorem rg_341_0 {X : am_X} {d : Nat} {lv : am_LV} (x0 : Value) (h : am_H) (o : am_O) (l0 : lv.lookup 0 = some x0) (i0 : am_isR x0 = true) (hs : fg_341_0 x0 h = some o) : am_W X (d + 2) 341 0 lv [] h (fun q => q = o) := by
  unfold fg_341_0 at hs
  refine aw_vload_n (pc1 := 1) at_341_0 l0 i0 rfl ?_
  refine aw_vload_n (pc1 := 2) at_341_1 l0 i0 rfl ?_
  obtain ⟨v1, e2, hs1⟩ := am_bind hs
  clear hs
  refine aw_pG (pc1 := 5) at_341_2 (am_vI_s e2) rfl ?_
  obtain ⟨z3, hs2⟩ := am_ift hs1
  clear hs1
  refine aw_call (F := fm_339 x0 v1 h) (t := true) (na := 2) (kd := 1) (as := [x0, (.int v1)]) at_341_5 (am_k3v kb_339) mn_339 mk_339 rfl rfl (am_ok_v mi_339 (am_hl rfl (am_ccR i0 (am_ccI am_cats_0)) rfl) z3) (am_hc am_cats_0 rfl) (fun _ => ⟨rfl, hh_341⟩) (fun o1 hz9 => rm_339 x0 v1 h o1 i0 hz9) ?_
  rcases am_cI_s hs2 with ⟨v4, h5, f6, hs3⟩ | hs3
  · clear hs2
    refine Or.inl ⟨_, _, f6, ?_⟩
    show am_W X _ 341 8 _ [(.int v4)] h5 _
    by_cases c7 : ¬ v4 = 0
    · rw [if_pos c7] at hs3
      refine aw_ifne_t at_341_8 c7 ?_
      refine aw_vload_n (pc1 := 21) at_341_20 l0 i0 rfl ?_
      refine aw_vload_n (pc1 := 22) at_341_21 l0 i0 rfl ?_
      obtain ⟨v8, e9, hs4⟩ := am_bind hs3
      clear hs3
      refine aw_pG (pc1 := 25) at_341_22 (am_vR_s e9).1 rfl ?_
      refine aw_vload_n (pc1 := 26) at_341_25 l0 i0 rfl ?_
      obtain ⟨v10, e11, hs5⟩ := am_bind hs4
      clear hs4
      refine aw_pG (pc1 := 29) at_341_26 (am_vI_s e11) rfl ?_
      obtain ⟨v12, e13, hs6⟩ := am_bind hs5
      clear hs5
      refine aw_pA (pc1 := 30) at_341_29 (Or.inl ⟨rfl, rfl⟩) e13 rfl ?_
      refine aw_bipush (v := 48) (pc1 := 32) at_341_30 (by decide) rfl ?_
      refine aw_isub (v := (v12 - 48)) (pc1 := 33) at_341_32 rfl rfl ?_
      obtain ⟨h14, e15, hs7⟩ := am_bind hs6
      clear hs6
      refine aw_pP (pc1 := 36) at_341_33 e15 rfl ?_
      refine aw_vload_n (pc1 := 37) at_341_36 l0 i0 rfl ?_
      refine aw_vdup (pc1 := 38) at_341_37 i0 rfl ?_
      obtain ⟨v16, e17, hs8⟩ := am_bind hs7
      clear hs7
      refine aw_pG (pc1 := 41) at_341_38 (am_vI_s e17) rfl ?_
      refine aw_iconst (v := 1) (pc1 := 42) at_341_41 (by decide) rfl ?_
      refine aw_iadd (v := (v16 + 1)) (pc1 := 43) at_341_42 rfl rfl ?_
      obtain ⟨h18, e19, hs9⟩ := am_bind hs8
      clear hs8
      refine aw_pP (pc1 := 46) at_341_43 e19 rfl ?_
      refine aw_vload_n (pc1 := 47) at_341_46 l0 i0 rfl ?_
      refine aw_vload_n (pc1 := 48) at_341_47 l0 i0 rfl ?_
      obtain ⟨v20, e21, hs10⟩ := am_bind hs9
      clear hs9
      refine aw_pG (pc1 := 51) at_341_48 (am_vI_s e21) rfl ?_
      obtain ⟨z22, hs11⟩ := am_ift hs10
      clear hs10
      refine aw_call (F := fm_339 x0 v20 h18) (t := true) (na := 2) (kd := 1) (as := [x0, (.int v20)]) at_341_51 (am_k3v kb_339) mn_339 mk_339 rfl rfl (am_ok_v mi_339 (am_hl rfl (am_ccR i0 (am_ccI am_cats_0)) rfl) z22) (am_hc am_cats_0 rfl) (fun _ => ⟨rfl, hh_341⟩) (fun o1 hz9 => rm_339 x0 v20 h18 o1 i0 hz9) ?_
      rcases am_cI_s hs11 with ⟨v23, h24, f25, hs12⟩ | hs12
      · clear hs11
        refine Or.inl ⟨_, _, f25, ?_⟩
        show am_W X _ 341 54 _ [(.int v23)] h24 _
        by_cases c26 : v23 = 0
        · rw [if_pos c26] at hs12
          refine aw_ifeq_t at_341_54 c26 ?_
          exact rg_341_91 h24 o   hs12
        · rw [if_neg c26] at hs12
          refine aw_ifeq_f (pc1 := 57) at_341_54 c26 rfl ?_
          refine aw_vload_n (pc1 := 58) at_341_57 l0 i0 rfl ?_
          refine aw_bipush (v := 10) (pc1 := 60) at_341_58 (by decide) rfl ?_
          refine aw_vload_n (pc1 := 61) at_341_60 l0 i0 rfl ?_
          obtain ⟨v27, e28, hs13⟩ := am_bind hs12
          clear hs12
          refine aw_pG (pc1 := 64) at_341_61 (am_vI_s e28) rfl ?_
          refine aw_imul (v := (10 * v27)) (pc1 := 65) at_341_64 rfl rfl ?_
          refine aw_vload_n (pc1 := 66) at_341_65 l0 i0 rfl ?_
          obtain ⟨v29, e30, hs14⟩ := am_bind hs13
          clear hs13
          refine aw_pG (pc1 := 69) at_341_66 (am_vR_s e30).1 rfl ?_
          refine aw_vload_n (pc1 := 70) at_341_69 l0 i0 rfl ?_
          obtain ⟨v31, e32, hs15⟩ := am_bind hs14
          clear hs14
          refine aw_pG (pc1 := 73) at_341_70 (am_vI_s e32) rfl ?_
          obtain ⟨v33, e34, hs16⟩ := am_bind hs15
          clear hs15
          refine aw_pA (pc1 := 74) at_341_73 (Or.inl ⟨rfl, rfl⟩) e34 rfl ?_
          refine aw_iadd (v := ((10 * v27) + v33)) (pc1 := 75) at_341_74 rfl rfl ?_
          refine aw_bipush (v := 48) (pc1 := 77) at_341_75 (by decide) rfl ?_
          refine aw_isub (v := (((10 * v27) + v33) - 48)) (pc1 := 78) at_341_77 rfl rfl ?_
          obtain ⟨h35, e36, hs17⟩ := am_bind hs16
          clear hs16
          refine aw_pP (pc1 := 81) at_341_78 e36 rfl ?_
          refine aw_vload_n (pc1 := 82) at_341_81 l0 i0 rfl ?_
          refine aw_vdup (pc1 := 83) at_341_82 i0 rfl ?_
          obtain ⟨v37, e38, hs18⟩ := am_bind hs17
          clear hs17
          refine aw_pG (pc1 := 86) at_341_83 (am_vI_s e38) rfl ?_
          refine aw_iconst (v := 1) (pc1 := 87) at_341_86 (by decide) rfl ?_
          refine aw_iadd (v := (v37 + 1)) (pc1 := 88) at_341_87 rfl rfl ?_
          obtain ⟨h39, e40, hs19⟩ := am_bind hs18
          clear hs18
          refine aw_pP (pc1 := 91) at_341_88 e40 rfl ?_
          exact rg_341_91 h39 o   hs19
      · clear hs11
        exact Or.inr hs12
    · rw [if_neg c7] at hs3
      refine aw_ifne_f (pc1 := 11) at_341_8 c7 rfl ?_
      refine aw_vload_n (pc1 := 12) at_341_11 l0 i0 rfl ?_
      refine aw_vload_n (pc1 := 13) at_341_12 l0 i0 rfl ?_
      obtain ⟨v41, e42, hs20⟩ := am_bind hs3
      clear hs3
      refine aw_pG (pc1 := 16) at_341_13 (am_vI_s e42) rfl ?_
      obtain ⟨z43, hs21⟩ := am_ift hs20
      clear hs20
      refine aw_call (F := fm_331 x0 v41 h5) (t := true) (na := 2) (kd := 1) (as := [x0, (.int v41)]) at_341_16 (am_k3v kb_331) mn_331 mk_331 rfl rfl (am_ok_v mi_331 (am_hl rfl (am_ccR i0 (am_ccI am_cats_0)) rfl) z43) (am_hc am_cats_0 rfl) (fun _ => ⟨rfl, hh_341⟩) (fun o1 hz9 => rm_331 x0 v41 h5 o1 i0 hz9) ?_
      rcases am_cI_s hs21 with ⟨v44, h45, f46, hs22⟩ | hs22
      · clear hs21
        refine Or.inl ⟨_, _, f46, ?_⟩
        show am_W X _ 341 19 _ [(.int v44)] h45 _
        obtain ⟨z47, hs23⟩ := am_ift hs22
        clear hs22
        cases hs23
        exact aw_iret at_341_19 (by rw [rt_341]; exact z47) rfl
      · clear hs21
        exact Or.inr hs22
  · clear hs2
    exact Or.inr hs3
def fm_341 (y0 : Value) (h : am_H) : Option am_O := fg_341_0 y0 h
theorem rm_341 {X : am_X} {d : Nat} (y0 : Value) (h : am_H) (o : am_O) (i0 : am_isR y0 = true) (hs : fm_341 y0 h = some o) : am_W X (d + 2) 341 0 (am_args 0 [y0]) [] h (fun q => q = o) := by
  rw [am_args_R i0]
  exact rg_341_0 y0 h o rfl i0 hs
def fg_340_66 (s0 : Value) (s1 : Int32) (h : am_H) : Option am_O := ((am_pP 3144 s0 (.int s1) h).bind fun h1 => some (.inl (some (.int 1), h1)))
theorem rg_340_66 {X : am_X} {d : Nat} {lv : am_LV} (s0 : Value) (s1 : Int32) (h : am_H) (o : am_O) (j0 : am_isR s0 = true) (hs : fg_340_66 s0 s1 h = some o) : am_W X (d + 3) 340 66 lv [(.int s1), s0] h (fun q => q = o) := by
  unfold fg_340_66 at hs
  obtain ⟨h1, e2, hs1⟩ := am_bind hs
  clear hs
  refine aw_pP (pc1 := 69) at_340_66 e2 rfl ?_
  refine aw_iconst (v := 1) (pc1 := 70) at_340_69 (by decide) rfl ?_
  cases hs1
  exact aw_iret at_340_70 (by rw [rt_340]; decide) rfl
def fg_340_37 (x0 : Value) (x1 : Int32) (s0 : Value) (s1 : Int32) (h : am_H) : Option am_O := ((am_pP 3141 s0 (.int s1) h).bind fun h1 => (if am_pOk 12 x0 h1 then am_cI true (fm_341 x0 h1) (fun v4 h5 => (if ¬ v4 = 0 then (if x1 = 0 then ((am_vI (am_pG 3144 x0 h5)).bind fun v9 => (fg_340_66 x0 v9 h5)) else ((am_vI (am_pG 3144 x0 h5)).bind fun v11 => (fg_340_66 x0 ((-v11)) h5))) else some (.inl (some (.int 0), h5)))) else none))
theorem rg_340_37 {X : am_X} {d : Nat} {lv : am_LV} (x0 : Value) (x1 : Int32) (s0 : Value) (s1 : Int32) (h : am_H) (o : am_O) (l0 : lv.lookup 0 = some x0) (l1 : lv.lookup 1 = some (.int x1)) (i0 : am_isR x0 = true) (j0 : am_isR s0 = true) (hs : fg_340_37 x0 x1 s0 s1 h = some o) : am_W X (d + 3) 340 37 lv [(.int s1), s0] h (fun q => q = o) := by
  unfold fg_340_37 at hs
  obtain ⟨h1, e2, hs1⟩ := am_bind hs
  clear hs
  refine aw_pP (pc1 := 40) at_340_37 e2 rfl ?_
  refine aw_vload_n (pc1 := 41) at_340_40 l0 i0 rfl ?_
  obtain ⟨z3, hs2⟩ := am_ift hs1
  clear hs1
  refine aw_call (F := fm_341 x0 h1) (t := true) (na := 1) (kd := 1) (as := [x0]) at_340_41 (am_k3v kb_341) mn_341 mk_341 rfl rfl (am_ok_v mi_341 (am_hl rfl (am_ccR i0 am_cats_0) rfl) z3) (am_hc am_cats_0 rfl) (fun _ => ⟨rfl, hh_340⟩) (fun o1 hz9 => rm_341 x0 h1 o1 i0 hz9) ?_
  rcases am_cI_s hs2 with ⟨v4, h5, f6, hs3⟩ | hs3
  · clear hs2
    refine Or.inl ⟨_, _, f6, ?_⟩
    show am_W X _ 340 44 _ [(.int v4)] h5 _
    by_cases c7 : ¬ v4 = 0
    · rw [if_pos c7] at hs3
      refine aw_ifne_t at_340_44 c7 ?_
      refine aw_vload_n (pc1 := 50) at_340_49 l0 i0 rfl ?_
      refine aw_iload_n (pc1 := 51) at_340_50 l1 rfl ?_
      by_cases c8 : x1 = 0
      · rw [if_pos c8] at hs3
        refine aw_ifeq_t at_340_51 c8 ?_
        refine aw_vload_n (pc1 := 63) at_340_62 l0 i0 rfl ?_
        obtain ⟨v9, e10, hs4⟩ := am_bind hs3
        clear hs3
        refine aw_pG (pc1 := 66) at_340_63 (am_vI_s e10) rfl ?_
        exact rg_340_66 x0 v9 h5 o  i0 hs4
      · rw [if_neg c8] at hs3
        refine aw_ifeq_f (pc1 := 54) at_340_51 c8 rfl ?_
        refine aw_vload_n (pc1 := 55) at_340_54 l0 i0 rfl ?_
        obtain ⟨v11, e12, hs5⟩ := am_bind hs3
        clear hs3
        refine aw_pG (pc1 := 58) at_340_55 (am_vI_s e12) rfl ?_
        refine aw_ineg (v := (-v11)) (pc1 := 59) at_340_58 rfl rfl ?_
        refine aw_goto at_340_59 ?_
        exact rg_340_66 x0 ((-v11)) h5 o  i0 hs5
    · rw [if_neg c7] at hs3
      refine aw_ifne_f (pc1 := 47) at_340_44 c7 rfl ?_
      refine aw_iconst (v := 0) (pc1 := 48) at_340_47 (by decide) rfl ?_
      cases hs3
      exact aw_iret at_340_48 (by rw [rt_340]; decide) rfl
  · clear hs2
    exact Or.inr hs3
def fg_340_18 (x0 : Value) (s0 : Int32) (h : am_H) : Option am_O := (if s0 = 0 then ((am_vI (am_pG 3141 x0 h)).bind fun v2 => (fg_340_37 x0 s0 x0 v2 h)) else ((am_vI (am_pG 3141 x0 h)).bind fun v4 => (fg_340_37 x0 s0 x0 ((v4 + 1)) h)))
theorem rg_340_18 {X : am_X} {d : Nat} {lv : am_LV} (x0 : Value) (s0 : Int32) (h : am_H) (o : am_O) (l0 : lv.lookup 0 = some x0) (i0 : am_isR x0 = true) (hs : fg_340_18 x0 s0 h = some o) : am_W X (d + 3) 340 18 lv [(.int s0)] h (fun q => q = o) := by
  unfold fg_340_18 at hs
  refine aw_istore_n (lv1 := am_put1 _ 1 _) (pc1 := 19) at_340_18 rfl rfl ?_
  refine aw_vload_n (pc1 := 20) at_340_19 (am_lk1 l0 rfl (by rw [am_isRc i0]; rfl)) i0 rfl ?_
  refine aw_iload_n (pc1 := 21) at_340_20 am_lk0 rfl ?_
  by_cases c1 : s0 = 0
  · rw [if_pos c1] at hs
    refine aw_ifeq_t at_340_21 c1 ?_
    refine aw_vload_n (pc1 := 34) at_340_33 (am_lk1 l0 rfl (by rw [am_isRc i0]; rfl)) i0 rfl ?_
    obtain ⟨v2, e3, hs1⟩ := am_bind hs
    clear hs
    refine aw_pG (pc1 := 37) at_340_34 (am_vI_s e3) rfl ?_
    exact rg_340_37 x0 s0 x0 v2 h o (am_lk1 l0 rfl (by rw [am_isRc i0]; rfl)) am_lk0 i0 i0 hs1
  · rw [if_neg c1] at hs
    refine aw_ifeq_f (pc1 := 24) at_340_21 c1 rfl ?_
    refine aw_vload_n (pc1 := 25) at_340_24 (am_lk1 l0 rfl (by rw [am_isRc i0]; rfl)) i0 rfl ?_
    obtain ⟨v4, e5, hs2⟩ := am_bind hs
    clear hs
    refine aw_pG (pc1 := 28) at_340_25 (am_vI_s e5) rfl ?_
    refine aw_iconst (v := 1) (pc1 := 29) at_340_28 (by decide) rfl ?_
    refine aw_iadd (v := (v4 + 1)) (pc1 := 30) at_340_29 rfl rfl ?_
    refine aw_goto at_340_30 ?_
    exact rg_340_37 x0 s0 x0 ((v4 + 1)) h o (am_lk1 l0 rfl (by rw [am_isRc i0]; rfl)) am_lk0 i0 i0 hs2
def fg_340_0 (x0 : Value) (h : am_H) : Option am_O := ((am_vI (am_pG 3141 x0 h)).bind fun v1 => (if am_pOk 12 x0 h then am_cI true (fm_332 x0 v1 h) (fun v4 h5 => (if ¬ v4 = 45 then (fg_340_18 x0 0 h5) else (fg_340_18 x0 1 h5))) else none))
theorem rg_340_0 {X : am_X} {d : Nat} {lv : am_LV} (x0 : Value) (h : am_H) (o : am_O) (l0 : lv.lookup 0 = some x0) (i0 : am_isR x0 = true) (hs : fg_340_0 x0 h = some o) : am_W X (d + 3) 340 0 lv [] h (fun q => q = o) := by
  unfold fg_340_0 at hs
  refine aw_vload_n (pc1 := 1) at_340_0 l0 i0 rfl ?_
  refine aw_vload_n (pc1 := 2) at_340_1 l0 i0 rfl ?_
  obtain ⟨v1, e2, hs1⟩ := am_bind hs
  clear hs
  refine aw_pG (pc1 := 5) at_340_2 (am_vI_s e2) rfl ?_
  obtain ⟨z3, hs2⟩ := am_ift hs1
  clear hs1
  refine aw_call (F := fm_332 x0 v1 h) (t := true) (na := 2) (kd := 1) (as := [x0, (.int v1)]) at_340_5 (am_k3v kb_332) mn_332 mk_332 rfl rfl (am_ok_v mi_332 (am_hl rfl (am_ccR i0 (am_ccI am_cats_0)) rfl) z3) (am_hc am_cats_0 rfl) (fun _ => ⟨rfl, hh_340⟩) (fun o1 hz9 => rm_332 x0 v1 h o1 i0 hz9) ?_
  rcases am_cI_s hs2 with ⟨v4, h5, f6, hs3⟩ | hs3
  · clear hs2
    refine Or.inl ⟨_, _, f6, ?_⟩
    show am_W X _ 340 8 _ [(.int v4)] h5 _
    refine aw_bipush (v := 45) (pc1 := 10) at_340_8 (by decide) rfl ?_
    by_cases c7 : ¬ v4 = 45
    · rw [if_pos c7] at hs3
      refine aw_icne_t at_340_10 c7 ?_
      refine aw_iconst (v := 0) (pc1 := 18) at_340_17 (by decide) rfl ?_
      exact rg_340_18 x0 0 h5 o l0 i0 hs3
    · rw [if_neg c7] at hs3
      refine aw_icne_f (pc1 := 13) at_340_10 c7 rfl ?_
      refine aw_iconst (v := 1) (pc1 := 14) at_340_13 (by decide) rfl ?_
      refine aw_goto at_340_14 ?_
      exact rg_340_18 x0 1 h5 o l0 i0 hs3
  · clear hs2
    exact Or.inr hs3
def fm_340 (y0 : Value) (h : am_H) : Option am_O := fg_340_0 y0 h
theorem rm_340 {X : am_X} {d : Nat} (y0 : Value) (h : am_H) (o : am_O) (i0 : am_isR y0 = true) (hs : fm_340 y0 h = some o) : am_W X (d + 3) 340 0 (am_args 0 [y0]) [] h (fun q => q = o) := by
  rw [am_args_R i0]
  exact rg_340_0 y0 h o rfl i0 hs
def fg_329_353 (x0 : Value) (h : am_H) : Option am_O := (if am_pOk 12 x0 h then am_cI true (fm_340 x0 h) (fun v2 h3 => (if ¬ v2 = 0 then ((am_vI (am_pG 3144 x0 h3)).bind fun v6 => (if am_pOk 12 x0 h3 then am_cV true (fm_335 x0 0 v6 h3) (fun h10 => some (.inl (some (.int 1), h10))) else none)) else some (.inl (some (.int 0), h3)))) else none)
theorem rg_329_353 {X : am_X} {d : Nat} {lv : am_LV} (x0 : Value) (h : am_H) (o : am_O) (l0 : lv.lookup 0 = some x0) (i0 : am_isR x0 = true) (hs : fg_329_353 x0 h = some o) : am_W X (d + 4) 329 353 lv [] h (fun q => q = o) := by
  unfold fg_329_353 at hs
  refine aw_vload_n (pc1 := 354) at_329_353 l0 i0 rfl ?_
  obtain ⟨z1, hs1⟩ := am_ift hs
  clear hs
  refine aw_call (F := fm_340 x0 h) (t := true) (na := 1) (kd := 1) (as := [x0]) at_329_354 (am_k3v kb_340) mn_340 mk_340 rfl rfl (am_ok_v mi_340 (am_hl rfl (am_ccR i0 am_cats_0) rfl) z1) (am_hc am_cats_0 rfl) (fun _ => ⟨rfl, hh_329⟩) (fun o1 hz9 => rm_340 x0 h o1 i0 hz9) ?_
  rcases am_cI_s hs1 with ⟨v2, h3, f4, hs2⟩ | hs2
  · clear hs1
    refine Or.inl ⟨_, _, f4, ?_⟩
    show am_W X _ 329 357 _ [(.int v2)] h3 _
    by_cases c5 : ¬ v2 = 0
    · rw [if_pos c5] at hs2
      refine aw_ifne_t at_329_357 c5 ?_
      refine aw_vload_n (pc1 := 363) at_329_362 l0 i0 rfl ?_
      refine aw_iconst (v := 0) (pc1 := 364) at_329_363 (by decide) rfl ?_
      refine aw_vload_n (pc1 := 365) at_329_364 l0 i0 rfl ?_
      obtain ⟨v6, e7, hs3⟩ := am_bind hs2
      clear hs2
      refine aw_pG (pc1 := 368) at_329_365 (am_vI_s e7) rfl ?_
      obtain ⟨z8, hs4⟩ := am_ift hs3
      clear hs3
      refine aw_call (F := fm_335 x0 0 v6 h3) (t := true) (na := 3) (kd := 1) (as := [x0, (.int 0), (.int v6)]) at_329_368 (am_k3v kb_335) mn_335 mk_335 rfl rfl (am_ok_v mi_335 (am_hl rfl (am_ccR i0 (am_ccI (am_ccI am_cats_0))) rfl) z8) (am_hc am_cats_0 rfl) (fun _ => ⟨rfl, hh_329⟩) (fun o1 hz9 => rm_335 x0 0 v6 h3 o1 i0 hz9) ?_
      rcases am_cV_s hs4 with ⟨h10, f11, hs5⟩ | hs5
      · clear hs4
        refine Or.inl ⟨_, _, f11, ?_⟩
        show am_W X _ 329 371 _ [] h10 _
        refine aw_iconst (v := 1) (pc1 := 372) at_329_371 (by decide) rfl ?_
        cases hs5
        exact aw_iret at_329_372 (by rw [rt_329]; decide) rfl
      · clear hs4
        exact Or.inr hs5
    · rw [if_neg c5] at hs2
      refine aw_ifne_f (pc1 := 360) at_329_357 c5 rfl ?_
      refine aw_iconst (v := 0) (pc1 := 361) at_329_360 (by decide) rfl ?_
      cases hs2
      exact aw_iret at_329_361 (by rw [rt_329]; decide) rfl
  · clear hs1
    exact Or.inr hs2
def fg_329_298 (x0 : Value) (x3 : Int32) (h : am_H) : Option am_O := (if x3 ≤ 0 then ((am_vI (am_pG 3141 x0 h)).bind fun v2 => (if am_pOk 12 x0 h then am_cI true (fm_332 x0 v2 h) (fun v5 h6 => (if v5 = 45 then (fg_329_353 x0 h6) else ((am_vI (am_pG 3141 x0 h6)).bind fun v9 => (if am_pOk 12 x0 h6 then am_cI true (fm_339 x0 v9 h6) (fun v12 h13 => (if ¬ v12 = 0 then (fg_329_353 x0 h13) else ((am_vI (am_pG 3141 x0 h13)).bind fun v16 => (if am_pOk 12 x0 h13 then am_cI true (fm_331 x0 v16 h13) (fun v19 h20 => (if am_rfit (some FieldType.boolean) v19 then some (.inl (some (.int v19), h20)) else none)) else none)))) else none)))) else none)) else (if am_pOk 12 x0 h then am_cV true (fm_335 x0 x3 0 h) (fun h25 => ((am_vI (am_pG 3141 x0 h25)).bind fun v27 => ((am_pP 3141 x0 (.int (v27 + 1)) h25).bind fun h29 => some (.inl (some (.int 1), h29))))) else none))
theorem rg_329_298 {X : am_X} {d : Nat} {lv : am_LV} (x0 : Value) (x3 : Int32) (h : am_H) (o : am_O) (l0 : lv.lookup 0 = some x0) (l3 : lv.lookup 3 = some (.int x3)) (i0 : am_isR x0 = true) (hs : fg_329_298 x0 x3 h = some o) : am_W X (d + 4) 329 298 lv [] h (fun q => q = o) := by
  unfold fg_329_298 at hs
  refine aw_iload_n (pc1 := 299) at_329_298 l3 rfl ?_
  by_cases c1 : x3 ≤ 0
  · rw [if_pos c1] at hs
    refine aw_ifle_t at_329_299 c1 ?_
    refine aw_vload_n (pc1 := 321) at_329_320 l0 i0 rfl ?_
    refine aw_vload_n (pc1 := 322) at_329_321 l0 i0 rfl ?_
    obtain ⟨v2, e3, hs1⟩ := am_bind hs
    clear hs
    refine aw_pG (pc1 := 325) at_329_322 (am_vI_s e3) rfl ?_
    obtain ⟨z4, hs2⟩ := am_ift hs1
    clear hs1
    refine aw_call (F := fm_332 x0 v2 h) (t := true) (na := 2) (kd := 1) (as := [x0, (.int v2)]) at_329_325 (am_k3v kb_332) mn_332 mk_332 rfl rfl (am_ok_v mi_332 (am_hl rfl (am_ccR i0 (am_ccI am_cats_0)) rfl) z4) (am_hc am_cats_0 rfl) (fun _ => ⟨rfl, hh_329⟩) (fun o1 hz9 => rm_332 x0 v2 h o1 i0 hz9) ?_
    rcases am_cI_s hs2 with ⟨v5, h6, f7, hs3⟩ | hs3
    · clear hs2
      refine Or.inl ⟨_, _, f7, ?_⟩
      show am_W X _ 329 328 _ [(.int v5)] h6 _
      refine aw_bipush (v := 45) (pc1 := 330) at_329_328 (by decide) rfl ?_
      by_cases c8 : v5 = 45
      · rw [if_pos c8] at hs3
        refine aw_iceq_t at_329_330 c8 ?_
        exact rg_329_353 x0 h6 o l0 i0 hs3
      · rw [if_neg c8] at hs3
        refine aw_iceq_f (pc1 := 333) at_329_330 c8 rfl ?_
        refine aw_vload_n (pc1 := 334) at_329_333 l0 i0 rfl ?_
        refine aw_vload_n (pc1 := 335) at_329_334 l0 i0 rfl ?_
        obtain ⟨v9, e10, hs4⟩ := am_bind hs3
        clear hs3
        refine aw_pG (pc1 := 338) at_329_335 (am_vI_s e10) rfl ?_
        obtain ⟨z11, hs5⟩ := am_ift hs4
        clear hs4
        refine aw_call (F := fm_339 x0 v9 h6) (t := true) (na := 2) (kd := 1) (as := [x0, (.int v9)]) at_329_338 (am_k3v kb_339) mn_339 mk_339 rfl rfl (am_ok_v mi_339 (am_hl rfl (am_ccR i0 (am_ccI am_cats_0)) rfl) z11) (am_hc am_cats_0 rfl) (fun _ => ⟨rfl, hh_329⟩) (fun o1 hz9 => rm_339 x0 v9 h6 o1 i0 hz9) ?_
        rcases am_cI_s hs5 with ⟨v12, h13, f14, hs6⟩ | hs6
        · clear hs5
          refine Or.inl ⟨_, _, f14, ?_⟩
          show am_W X _ 329 341 _ [(.int v12)] h13 _
          by_cases c15 : ¬ v12 = 0
          · rw [if_pos c15] at hs6
            refine aw_ifne_t at_329_341 c15 ?_
            exact rg_329_353 x0 h13 o l0 i0 hs6
          · rw [if_neg c15] at hs6
            refine aw_ifne_f (pc1 := 344) at_329_341 c15 rfl ?_
            refine aw_vload_n (pc1 := 345) at_329_344 l0 i0 rfl ?_
            refine aw_vload_n (pc1 := 346) at_329_345 l0 i0 rfl ?_
            obtain ⟨v16, e17, hs7⟩ := am_bind hs6
            clear hs6
            refine aw_pG (pc1 := 349) at_329_346 (am_vI_s e17) rfl ?_
            obtain ⟨z18, hs8⟩ := am_ift hs7
            clear hs7
            refine aw_call (F := fm_331 x0 v16 h13) (t := true) (na := 2) (kd := 1) (as := [x0, (.int v16)]) at_329_349 (am_k3v kb_331) mn_331 mk_331 rfl rfl (am_ok_v mi_331 (am_hl rfl (am_ccR i0 (am_ccI am_cats_0)) rfl) z18) (am_hc am_cats_0 rfl) (fun _ => ⟨rfl, hh_329⟩) (fun o1 hz9 => rm_331 x0 v16 h13 o1 i0 hz9) ?_
            rcases am_cI_s hs8 with ⟨v19, h20, f21, hs9⟩ | hs9
            · clear hs8
              refine Or.inl ⟨_, _, f21, ?_⟩
              show am_W X _ 329 352 _ [(.int v19)] h20 _
              obtain ⟨z22, hs10⟩ := am_ift hs9
              clear hs9
              cases hs10
              exact aw_iret at_329_352 (by rw [rt_329]; exact z22) rfl
            · clear hs8
              exact Or.inr hs9
        · clear hs5
          exact Or.inr hs6
    · clear hs2
      exact Or.inr hs3
  · rw [if_neg c1] at hs
    refine aw_ifle_f (pc1 := 302) at_329_299 c1 rfl ?_
    refine aw_vload_n (pc1 := 303) at_329_302 l0 i0 rfl ?_
    refine aw_iload_n (pc1 := 304) at_329_303 l3 rfl ?_
    refine aw_iconst (v := 0) (pc1 := 305) at_329_304 (by decide) rfl ?_
    obtain ⟨z23, hs11⟩ := am_ift hs
    clear hs
    refine aw_call (F := fm_335 x0 x3 0 h) (t := true) (na := 3) (kd := 1) (as := [x0, (.int x3), (.int 0)]) at_329_305 (am_k3v kb_335) mn_335 mk_335 rfl rfl (am_ok_v mi_335 (am_hl rfl (am_ccR i0 (am_ccI (am_ccI am_cats_0))) rfl) z23) (am_hc am_cats_0 rfl) (fun _ => ⟨rfl, hh_329⟩) (fun o1 hz9 => rm_335 x0 x3 0 h o1 i0 hz9) ?_
    rcases am_cV_s hs11 with ⟨h25, f26, hs12⟩ | hs12
    · clear hs11
      refine Or.inl ⟨_, _, f26, ?_⟩
      show am_W X _ 329 308 _ [] h25 _
      refine aw_vload_n (pc1 := 309) at_329_308 l0 i0 rfl ?_
      refine aw_vdup (pc1 := 310) at_329_309 i0 rfl ?_
      obtain ⟨v27, e28, hs13⟩ := am_bind hs12
      clear hs12
      refine aw_pG (pc1 := 313) at_329_310 (am_vI_s e28) rfl ?_
      refine aw_iconst (v := 1) (pc1 := 314) at_329_313 (by decide) rfl ?_
      refine aw_iadd (v := (v27 + 1)) (pc1 := 315) at_329_314 rfl rfl ?_
      obtain ⟨h29, e30, hs14⟩ := am_bind hs13
      clear hs13
      refine aw_pP (pc1 := 318) at_329_315 e30 rfl ?_
      refine aw_iconst (v := 1) (pc1 := 319) at_329_318 (by decide) rfl ?_
      cases hs14
      exact aw_iret at_329_319 (by rw [rt_329]; decide) rfl
    · clear hs11
      exact Or.inr hs12
def fg_329_289 (x0 : Value) (h : am_H) : Option am_O := ((am_vI (am_pG 3141 x0 h)).bind fun v1 => (if am_pOk 12 x0 h then am_cI true (fm_331 x0 v1 h) (fun v4 h5 => (if am_rfit (some FieldType.boolean) v4 then some (.inl (some (.int v4), h5)) else none)) else none))
theorem rg_329_289 {X : am_X} {d : Nat} {lv : am_LV} (x0 : Value) (h : am_H) (o : am_O) (l0 : lv.lookup 0 = some x0) (i0 : am_isR x0 = true) (hs : fg_329_289 x0 h = some o) : am_W X (d + 4) 329 289 lv [] h (fun q => q = o) := by
  unfold fg_329_289 at hs
  refine aw_vload_n (pc1 := 290) at_329_289 l0 i0 rfl ?_
  refine aw_vload_n (pc1 := 291) at_329_290 l0 i0 rfl ?_
  obtain ⟨v1, e2, hs1⟩ := am_bind hs
  clear hs
  refine aw_pG (pc1 := 294) at_329_291 (am_vI_s e2) rfl ?_
  obtain ⟨z3, hs2⟩ := am_ift hs1
  clear hs1
  refine aw_call (F := fm_331 x0 v1 h) (t := true) (na := 2) (kd := 1) (as := [x0, (.int v1)]) at_329_294 (am_k3v kb_331) mn_331 mk_331 rfl rfl (am_ok_v mi_331 (am_hl rfl (am_ccR i0 (am_ccI am_cats_0)) rfl) z3) (am_hc am_cats_0 rfl) (fun _ => ⟨rfl, hh_329⟩) (fun o1 hz9 => rm_331 x0 v1 h o1 i0 hz9) ?_
  rcases am_cI_s hs2 with ⟨v4, h5, f6, hs3⟩ | hs3
  · clear hs2
    refine Or.inl ⟨_, _, f6, ?_⟩
    show am_W X _ 329 297 _ [(.int v4)] h5 _
    obtain ⟨z7, hs4⟩ := am_ift hs3
    clear hs3
    cases hs4
    exact aw_iret at_329_297 (by rw [rt_329]; exact z7) rfl
  · clear hs2
    exact Or.inr hs3
def fg_329_263 (s0 : Int32) (h : am_H) : Option am_O := (if am_rfit (some FieldType.boolean) s0 then some (.inl (some (.int s0), h)) else none)
theorem rg_329_263 {X : am_X} {d : Nat} {lv : am_LV} (s0 : Int32) (h : am_H) (o : am_O) (hs : fg_329_263 s0 h = some o) : am_W X (d + 4) 329 263 lv [(.int s0)] h (fun q => q = o) := by
  unfold fg_329_263 at hs
  obtain ⟨z1, hs1⟩ := am_ift hs
  clear hs
  cases hs1
  exact aw_iret at_329_263 (by rw [rt_329]; exact z1) rfl
def fg_329_262 (h : am_H) : Option am_O := (fg_329_263 0 h)
theorem rg_329_262 {X : am_X} {d : Nat} {lv : am_LV} (h : am_H) (o : am_O) (hs : fg_329_262 h = some o) : am_W X (d + 4) 329 262 lv [] h (fun q => q = o) := by
  unfold fg_329_262 at hs
  refine aw_iconst (v := 0) (pc1 := 263) at_329_262 (by decide) rfl ?_
  exact rg_329_263 0 h o   hs
def fg_329_186 (x0 : Value) (x2 : Int32) (x3 : Int32) (h : am_H) : Option am_O := (if am_pOk 12 x0 h then am_cV true (fm_335 x0 x3 0 h) (fun h3 => ((am_vI (am_pG 3141 x0 h3)).bind fun v5 => ((am_pP 3141 x0 (.int (v5 + 2)) h3).bind fun h7 => ((am_vR (am_pG 3146 x0 h7)).bind fun v9 => ((am_vI (am_pG 3145 x0 h7)).bind fun v11 => ((am_pS 0 v9 v11 x3 h7).bind fun h13 => ((am_vR (am_pG 3147 x0 h13)).bind fun v15 => ((am_vI (am_pG 3145 x0 h13)).bind fun v17 => ((am_pS 0 v15 v17 0 h13).bind fun h19 => ((am_vR (am_pG 3148 x0 h19)).bind fun v21 => ((am_vI (am_pG 3145 x0 h19)).bind fun v23 => ((am_pS 2 v21 v23 x2 h19).bind fun h25 => ((am_vI (am_pG 3145 x0 h25)).bind fun v27 => ((am_pP 3145 x0 (.int (v27 + 1)) h25).bind fun h29 => (if am_pOk 12 x0 h29 then am_cI true (fm_336 x0 32 h29) (fun v32 h33 => (if v32 = 0 then (fg_329_262 h33) else (if am_pOk 12 x0 h33 then am_cI true (fm_337 x0 h33) (fun v37 h38 => (if v37 = 0 then (fg_329_262 h38) else (fg_329_263 1 h38))) else none))) else none))))))))))))))) else none)
theorem rg_329_186 {X : am_X} {d : Nat} {lv : am_LV} (x0 : Value) (x2 : Int32) (x3 : Int32) (h : am_H) (o : am_O) (l0 : lv.lookup 0 = some x0) (l2 : lv.lookup 2 = some (.int x2)) (l3 : lv.lookup 3 = some (.int x3)) (i0 : am_isR x0 = true) (hs : fg_329_186 x0 x2 x3 h = some o) : am_W X (d + 4) 329 186 lv [] h (fun q => q = o) := by
  unfold fg_329_186 at hs
  refine aw_vload_n (pc1 := 187) at_329_186 l0 i0 rfl ?_
  refine aw_iload_n (pc1 := 188) at_329_187 l3 rfl ?_
  refine aw_iconst (v := 0) (pc1 := 189) at_329_188 (by decide) rfl ?_
  obtain ⟨z1, hs1⟩ := am_ift hs
  clear hs
  refine aw_call (F := fm_335 x0 x3 0 h) (t := true) (na := 3) (kd := 1) (as := [x0, (.int x3), (.int 0)]) at_329_189 (am_k3v kb_335) mn_335 mk_335 rfl rfl (am_ok_v mi_335 (am_hl rfl (am_ccR i0 (am_ccI (am_ccI am_cats_0))) rfl) z1) (am_hc am_cats_0 rfl) (fun _ => ⟨rfl, hh_329⟩) (fun o1 hz9 => rm_335 x0 x3 0 h o1 i0 hz9) ?_
  rcases am_cV_s hs1 with ⟨h3, f4, hs2⟩ | hs2
  · clear hs1
    refine Or.inl ⟨_, _, f4, ?_⟩
    show am_W X _ 329 192 _ [] h3 _
    refine aw_vload_n (pc1 := 193) at_329_192 l0 i0 rfl ?_
    refine aw_vdup (pc1 := 194) at_329_193 i0 rfl ?_
    obtain ⟨v5, e6, hs3⟩ := am_bind hs2
    clear hs2
    refine aw_pG (pc1 := 197) at_329_194 (am_vI_s e6) rfl ?_
    refine aw_iconst (v := 2) (pc1 := 198) at_329_197 (by decide) rfl ?_
    refine aw_iadd (v := (v5 + 2)) (pc1 := 199) at_329_198 rfl rfl ?_
    obtain ⟨h7, e8, hs4⟩ := am_bind hs3
    clear hs3
    refine aw_pP (pc1 := 202) at_329_199 e8 rfl ?_
    refine aw_vload_n (pc1 := 203) at_329_202 l0 i0 rfl ?_
    obtain ⟨v9, e10, hs5⟩ := am_bind hs4
    clear hs4
    refine aw_pG (pc1 := 206) at_329_203 (am_vR_s e10).1 rfl ?_
    refine aw_vload_n (pc1 := 207) at_329_206 l0 i0 rfl ?_
    obtain ⟨v11, e12, hs6⟩ := am_bind hs5
    clear hs5
    refine aw_pG (pc1 := 210) at_329_207 (am_vI_s e12) rfl ?_
    refine aw_iload_n (pc1 := 211) at_329_210 l3 rfl ?_
    obtain ⟨h13, e14, hs7⟩ := am_bind hs6
    clear hs6
    refine aw_pS (pc1 := 212) at_329_211 (Or.inl ⟨rfl, rfl⟩) e14 rfl ?_
    refine aw_vload_n (pc1 := 213) at_329_212 l0 i0 rfl ?_
    obtain ⟨v15, e16, hs8⟩ := am_bind hs7
    clear hs7
    refine aw_pG (pc1 := 216) at_329_213 (am_vR_s e16).1 rfl ?_
    refine aw_vload_n (pc1 := 217) at_329_216 l0 i0 rfl ?_
    obtain ⟨v17, e18, hs9⟩ := am_bind hs8
    clear hs8
    refine aw_pG (pc1 := 220) at_329_217 (am_vI_s e18) rfl ?_
    refine aw_iconst (v := 0) (pc1 := 221) at_329_220 (by decide) rfl ?_
    obtain ⟨h19, e20, hs10⟩ := am_bind hs9
    clear hs9
    refine aw_pS (pc1 := 222) at_329_221 (Or.inl ⟨rfl, rfl⟩) e20 rfl ?_
    refine aw_vload_n (pc1 := 223) at_329_222 l0 i0 rfl ?_
    obtain ⟨v21, e22, hs11⟩ := am_bind hs10
    clear hs10
    refine aw_pG (pc1 := 226) at_329_223 (am_vR_s e22).1 rfl ?_
    refine aw_vload_n (pc1 := 227) at_329_226 l0 i0 rfl ?_
    obtain ⟨v23, e24, hs12⟩ := am_bind hs11
    clear hs11
    refine aw_pG (pc1 := 230) at_329_227 (am_vI_s e24) rfl ?_
    refine aw_iload_n (pc1 := 231) at_329_230 l2 rfl ?_
    obtain ⟨h25, e26, hs13⟩ := am_bind hs12
    clear hs12
    refine aw_pS (pc1 := 232) at_329_231 (Or.inr (Or.inl ⟨rfl, rfl⟩)) e26 rfl ?_
    refine aw_vload_n (pc1 := 233) at_329_232 l0 i0 rfl ?_
    refine aw_vdup (pc1 := 234) at_329_233 i0 rfl ?_
    obtain ⟨v27, e28, hs14⟩ := am_bind hs13
    clear hs13
    refine aw_pG (pc1 := 237) at_329_234 (am_vI_s e28) rfl ?_
    refine aw_iconst (v := 1) (pc1 := 238) at_329_237 (by decide) rfl ?_
    refine aw_iadd (v := (v27 + 1)) (pc1 := 239) at_329_238 rfl rfl ?_
    obtain ⟨h29, e30, hs15⟩ := am_bind hs14
    clear hs14
    refine aw_pP (pc1 := 242) at_329_239 e30 rfl ?_
    refine aw_vload_n (pc1 := 243) at_329_242 l0 i0 rfl ?_
    refine aw_bipush (v := 32) (pc1 := 245) at_329_243 (by decide) rfl ?_
    obtain ⟨z31, hs16⟩ := am_ift hs15
    clear hs15
    refine aw_call (F := fm_336 x0 32 h29) (t := true) (na := 2) (kd := 1) (as := [x0, (.int 32)]) at_329_245 (am_k3v kb_336) mn_336 mk_336 rfl rfl (am_ok_v mi_336 (am_hl rfl (am_ccR i0 (am_ccI am_cats_0)) rfl) z31) (am_hc am_cats_0 rfl) (fun _ => ⟨rfl, hh_329⟩) (fun o1 hz9 => rm_336 x0 32 h29 o1 i0 hz9) ?_
    rcases am_cI_s hs16 with ⟨v32, h33, f34, hs17⟩ | hs17
    · clear hs16
      refine Or.inl ⟨_, _, f34, ?_⟩
      show am_W X _ 329 248 _ [(.int v32)] h33 _
      by_cases c35 : v32 = 0
      · rw [if_pos c35] at hs17
        refine aw_ifeq_t at_329_248 c35 ?_
        exact rg_329_262 h33 o   hs17
      · rw [if_neg c35] at hs17
        refine aw_ifeq_f (pc1 := 251) at_329_248 c35 rfl ?_
        refine aw_vload_n (pc1 := 252) at_329_251 l0 i0 rfl ?_
        obtain ⟨z36, hs18⟩ := am_ift hs17
        clear hs17
        refine aw_call (F := fm_337 x0 h33) (t := true) (na := 1) (kd := 1) (as := [x0]) at_329_252 (am_k3v kb_337) mn_337 mk_337 rfl rfl (am_ok_v mi_337 (am_hl rfl (am_ccR i0 am_cats_0) rfl) z36) (am_hc am_cats_0 rfl) (fun _ => ⟨rfl, hh_329⟩) (fun o1 hz9 => rm_337 x0 h33 o1 i0 hz9) ?_
        rcases am_cI_s hs18 with ⟨v37, h38, f39, hs19⟩ | hs19
        · clear hs18
          refine Or.inl ⟨_, _, f39, ?_⟩
          show am_W X _ 329 255 _ [(.int v37)] h38 _
          by_cases c40 : v37 = 0
          · rw [if_pos c40] at hs19
            refine aw_ifeq_t at_329_255 c40 ?_
            exact rg_329_262 h38 o   hs19
          · rw [if_neg c40] at hs19
            refine aw_ifeq_f (pc1 := 258) at_329_255 c40 rfl ?_
            refine aw_iconst (v := 1) (pc1 := 259) at_329_258 (by decide) rfl ?_
            refine aw_goto at_329_259 ?_
            exact rg_329_263 1 h38 o   hs19
        · clear hs18
          exact Or.inr hs19
    · clear hs16
      exact Or.inr hs17
  · clear hs1
    exact Or.inr hs2
def fg_329_175 (x0 : Value) (h : am_H) : Option am_O := ((am_vI (am_pG 3141 x0 h)).bind fun v1 => (if am_pOk 12 x0 h then am_cI true (fm_331 x0 ((v1 + 1)) h) (fun v4 h5 => (if am_rfit (some FieldType.boolean) v4 then some (.inl (some (.int v4), h5)) else none)) else none))
theorem rg_329_175 {X : am_X} {d : Nat} {lv : am_LV} (x0 : Value) (h : am_H) (o : am_O) (l0 : lv.lookup 0 = some x0) (i0 : am_isR x0 = true) (hs : fg_329_175 x0 h = some o) : am_W X (d + 4) 329 175 lv [] h (fun q => q = o) := by
  unfold fg_329_175 at hs
  refine aw_vload_n (pc1 := 176) at_329_175 l0 i0 rfl ?_
  refine aw_vload_n (pc1 := 177) at_329_176 l0 i0 rfl ?_
  obtain ⟨v1, e2, hs1⟩ := am_bind hs
  clear hs
  refine aw_pG (pc1 := 180) at_329_177 (am_vI_s e2) rfl ?_
  refine aw_iconst (v := 1) (pc1 := 181) at_329_180 (by decide) rfl ?_
  refine aw_iadd (v := (v1 + 1)) (pc1 := 182) at_329_181 rfl rfl ?_
  obtain ⟨z3, hs2⟩ := am_ift hs1
  clear hs1
  refine aw_call (F := fm_331 x0 ((v1 + 1)) h) (t := true) (na := 2) (kd := 1) (as := [x0, (.int (v1 + 1))]) at_329_182 (am_k3v kb_331) mn_331 mk_331 rfl rfl (am_ok_v mi_331 (am_hl rfl (am_ccR i0 (am_ccI am_cats_0)) rfl) z3) (am_hc am_cats_0 rfl) (fun _ => ⟨rfl, hh_329⟩) (fun o1 hz9 => rm_331 x0 ((v1 + 1)) h o1 i0 hz9) ?_
  rcases am_cI_s hs2 with ⟨v4, h5, f6, hs3⟩ | hs3
  · clear hs2
    refine Or.inl ⟨_, _, f6, ?_⟩
    show am_W X _ 329 185 _ [(.int v4)] h5 _
    obtain ⟨z7, hs4⟩ := am_ift hs3
    clear hs3
    cases hs4
    exact aw_iret at_329_185 (by rw [rt_329]; exact z7) rfl
  · clear hs2
    exact Or.inr hs3
def fg_329_117 (x0 : Value) (h : am_H) : Option am_O := ((am_vI (am_pG 3141 x0 h)).bind fun v1 => (if am_pOk 12 x0 h then am_cI true (fm_331 x0 v1 h) (fun v4 h5 => (if am_rfit (some FieldType.boolean) v4 then some (.inl (some (.int v4), h5)) else none)) else none))
theorem rg_329_117 {X : am_X} {d : Nat} {lv : am_LV} (x0 : Value) (h : am_H) (o : am_O) (l0 : lv.lookup 0 = some x0) (i0 : am_isR x0 = true) (hs : fg_329_117 x0 h = some o) : am_W X (d + 4) 329 117 lv [] h (fun q => q = o) := by
  unfold fg_329_117 at hs
  refine aw_vload_n (pc1 := 118) at_329_117 l0 i0 rfl ?_
  refine aw_vload_n (pc1 := 119) at_329_118 l0 i0 rfl ?_
  obtain ⟨v1, e2, hs1⟩ := am_bind hs
  clear hs
  refine aw_pG (pc1 := 122) at_329_119 (am_vI_s e2) rfl ?_
  obtain ⟨z3, hs2⟩ := am_ift hs1
  clear hs1
  refine aw_call (F := fm_331 x0 v1 h) (t := true) (na := 2) (kd := 1) (as := [x0, (.int v1)]) at_329_122 (am_k3v kb_331) mn_331 mk_331 rfl rfl (am_ok_v mi_331 (am_hl rfl (am_ccR i0 (am_ccI am_cats_0)) rfl) z3) (am_hc am_cats_0 rfl) (fun _ => ⟨rfl, hh_329⟩) (fun o1 hz9 => rm_331 x0 v1 h o1 i0 hz9) ?_
  rcases am_cI_s hs2 with ⟨v4, h5, f6, hs3⟩ | hs3
  · clear hs2
    refine Or.inl ⟨_, _, f6, ?_⟩
    show am_W X _ 329 125 _ [(.int v4)] h5 _
    obtain ⟨z7, hs4⟩ := am_ift hs3
    clear hs3
    cases hs4
    exact aw_iret at_329_125 (by rw [rt_329]; exact z7) rfl
  · clear hs2
    exact Or.inr hs3
def fg_329_98 (x0 : Value) (x1 : Int32) (s0 : Int32) (h : am_H) : Option am_O := ((am_vI (am_pG 3086 x0 h)).bind fun v1 => (if v1 = 60 then (fg_329_117 x0 h) else ((am_vI (am_pG 3145 x0 h)).bind fun v4 => (if ¬ v4 = 12 then ((am_vI (am_pG 3141 x0 h)).bind fun v7 => (if am_pOk 12 x0 h then am_cI true (fm_332 x0 v7 h) (fun v10 h11 => (if ¬ v10 = 40 then ((am_vI (am_pG 3141 x0 h11)).bind fun v14 => (if am_pOk 12 x0 h11 then am_cI true (fm_332 x0 v14 h11) (fun v17 h18 => am_cI false (fm_338 v17 h18) (fun v20 h21 => (if ¬ x1 = 0 then (fg_329_289 x0 h21) else (if ¬ s0 = 0 then (fg_329_298 x0 v20 h21) else (if v20 ≤ 4 then (fg_329_298 x0 v20 h21) else (fg_329_289 x0 h21)))))) else none)) else ((am_vI (am_pG 3141 x0 h11)).bind fun v26 => (if am_pOk 12 x0 h11 then am_cI true (fm_332 x0 ((v26 + 1)) h11) (fun v29 h30 => am_cI false (fm_333 v29 h30) (fun v32 h33 => (if v32 < 0 then (fg_329_175 x0 h33) else am_cI false (fm_334 v32 h33) (fun v36 h37 => (if ¬ v36 = x1 then (fg_329_175 x0 h37) else (if s0 = 0 then (fg_329_186 x0 s0 v32 h37) else (if ¬ v32 = 19 then (fg_329_186 x0 s0 v32 h37) else (fg_329_175 x0 h37)))))))) else none)))) else none)) else (fg_329_117 x0 h)))))
theorem rg_329_98 {X : am_X} {d : Nat} {lv : am_LV} (x0 : Value) (x1 : Int32) (s0 : Int32) (h : am_H) (o : am_O) (l0 : lv.lookup 0 = some x0) (l1 : lv.lookup 1 = some (.int x1)) (i0 : am_isR x0 = true) (hs : fg_329_98 x0 x1 s0 h = some o) : am_W X (d + 4) 329 98 lv [(.int s0)] h (fun q => q = o) := by
  unfold fg_329_98 at hs
  refine aw_istore_n (lv1 := am_put1 _ 2 _) (pc1 := 99) at_329_98 rfl rfl ?_
  refine aw_vload_n (pc1 := 100) at_329_99 (am_lk1 l0 rfl rfl) i0 rfl ?_
  obtain ⟨v1, e2, hs1⟩ := am_bind hs
  clear hs
  refine aw_pG (pc1 := 103) at_329_100 (am_vI_s e2) rfl ?_
  refine aw_bipush (v := 60) (pc1 := 105) at_329_103 (by decide) rfl ?_
  by_cases c3 : v1 = 60
  · rw [if_pos c3] at hs1
    refine aw_iceq_t at_329_105 c3 ?_
    exact rg_329_117 x0 h o (am_lk1 l0 rfl rfl) i0 hs1
  · rw [if_neg c3] at hs1
    refine aw_iceq_f (pc1 := 108) at_329_105 c3 rfl ?_
    refine aw_vload_n (pc1 := 109) at_329_108 (am_lk1 l0 rfl rfl) i0 rfl ?_
    obtain ⟨v4, e5, hs2⟩ := am_bind hs1
    clear hs1
    refine aw_pG (pc1 := 112) at_329_109 (am_vI_s e5) rfl ?_
    refine aw_bipush (v := 12) (pc1 := 114) at_329_112 (by decide) rfl ?_
    by_cases c6 : ¬ v4 = 12
    · rw [if_pos c6] at hs2
      refine aw_icne_t at_329_114 c6 ?_
      refine aw_vload_n (pc1 := 127) at_329_126 (am_lk1 l0 rfl rfl) i0 rfl ?_
      refine aw_vload_n (pc1 := 128) at_329_127 (am_lk1 l0 rfl rfl) i0 rfl ?_
      obtain ⟨v7, e8, hs3⟩ := am_bind hs2
      clear hs2
      refine aw_pG (pc1 := 131) at_329_128 (am_vI_s e8) rfl ?_
      obtain ⟨z9, hs4⟩ := am_ift hs3
      clear hs3
      refine aw_call (F := fm_332 x0 v7 h) (t := true) (na := 2) (kd := 1) (as := [x0, (.int v7)]) at_329_131 (am_k3v kb_332) mn_332 mk_332 rfl rfl (am_ok_v mi_332 (am_hl rfl (am_ccR i0 (am_ccI am_cats_0)) rfl) z9) (am_hc am_cats_0 rfl) (fun _ => ⟨rfl, hh_329⟩) (fun o1 hz9 => rm_332 x0 v7 h o1 i0 hz9) ?_
      rcases am_cI_s hs4 with ⟨v10, h11, f12, hs5⟩ | hs5
      · clear hs4
        refine Or.inl ⟨_, _, f12, ?_⟩
        show am_W X _ 329 134 _ [(.int v10)] h11 _
        refine aw_bipush (v := 40) (pc1 := 136) at_329_134 (by decide) rfl ?_
        by_cases c13 : ¬ v10 = 40
        · rw [if_pos c13] at hs5
          refine aw_icne_t at_329_136 c13 ?_
          refine aw_vload_n (pc1 := 265) at_329_264 (am_lk1 l0 rfl rfl) i0 rfl ?_
          refine aw_vload_n (pc1 := 266) at_329_265 (am_lk1 l0 rfl rfl) i0 rfl ?_
          obtain ⟨v14, e15, hs6⟩ := am_bind hs5
          clear hs5
          refine aw_pG (pc1 := 269) at_329_266 (am_vI_s e15) rfl ?_
          obtain ⟨z16, hs7⟩ := am_ift hs6
          clear hs6
          refine aw_call (F := fm_332 x0 v14 h11) (t := true) (na := 2) (kd := 1) (as := [x0, (.int v14)]) at_329_269 (am_k3v kb_332) mn_332 mk_332 rfl rfl (am_ok_v mi_332 (am_hl rfl (am_ccR i0 (am_ccI am_cats_0)) rfl) z16) (am_hc am_cats_0 rfl) (fun _ => ⟨rfl, hh_329⟩) (fun o1 hz9 => rm_332 x0 v14 h11 o1 i0 hz9) ?_
          rcases am_cI_s hs7 with ⟨v17, h18, f19, hs8⟩ | hs8
          · clear hs7
            refine Or.inl ⟨_, _, f19, ?_⟩
            show am_W X _ 329 272 _ [(.int v17)] h18 _
            refine aw_call (F := fm_338 v17 h18) (t := false) (na := 1) (kd := 0) (as := [(.int v17)]) at_329_272 (am_k3s kb_338) mn_338 mk_338 rfl rfl (am_ok_s mi_338 (am_hl rfl (am_ccI am_cats_0) rfl)) (am_hc am_cats_0 rfl) (fun hz9 => by cases hz9) (fun o1 hz9 => rm_338 v17 h18 o1  hz9) ?_
            rcases am_cI_s hs8 with ⟨v20, h21, f22, hs9⟩ | hs9
            · clear hs8
              refine Or.inl ⟨_, _, f22, ?_⟩
              show am_W X _ 329 275 _ [(.int v20)] h21 _
              refine aw_istore_n (lv1 := am_put1 _ 3 _) (pc1 := 276) at_329_275 rfl rfl ?_
              refine aw_iload_n (pc1 := 277) at_329_276 (am_lk1 (am_lk1 l1 rfl rfl) rfl rfl) rfl ?_
              by_cases c23 : ¬ x1 = 0
              · rw [if_pos c23] at hs9
                refine aw_ifne_t at_329_277 c23 ?_
                exact rg_329_289 x0 h21 o (am_lk1 (am_lk1 l0 rfl rfl) rfl rfl) i0 hs9
              · rw [if_neg c23] at hs9
                refine aw_ifne_f (pc1 := 280) at_329_277 c23 rfl ?_
                refine aw_iload_n (pc1 := 281) at_329_280 (am_lk1 am_lk0 rfl rfl) rfl ?_
                by_cases c24 : ¬ s0 = 0
                · rw [if_pos c24] at hs9
                  refine aw_ifne_t at_329_281 c24 ?_
                  exact rg_329_298 x0 v20 h21 o (am_lk1 (am_lk1 l0 rfl rfl) rfl rfl) am_lk0 i0 hs9
                · rw [if_neg c24] at hs9
                  refine aw_ifne_f (pc1 := 284) at_329_281 c24 rfl ?_
                  refine aw_iload_n (pc1 := 285) at_329_284 am_lk0 rfl ?_
                  refine aw_iconst (v := 4) (pc1 := 286) at_329_285 (by decide) rfl ?_
                  by_cases c25 : v20 ≤ 4
                  · rw [if_pos c25] at hs9
                    refine aw_icle_t at_329_286 c25 ?_
                    exact rg_329_298 x0 v20 h21 o (am_lk1 (am_lk1 l0 rfl rfl) rfl rfl) am_lk0 i0 hs9
                  · rw [if_neg c25] at hs9
                    refine aw_icle_f (pc1 := 289) at_329_286 c25 rfl ?_
                    exact rg_329_289 x0 h21 o (am_lk1 (am_lk1 l0 rfl rfl) rfl rfl) i0 hs9
            · clear hs8
              exact Or.inr hs9
          · clear hs7
            exact Or.inr hs8
        · rw [if_neg c13] at hs5
          refine aw_icne_f (pc1 := 139) at_329_136 c13 rfl ?_
          refine aw_vload_n (pc1 := 140) at_329_139 (am_lk1 l0 rfl rfl) i0 rfl ?_
          refine aw_vload_n (pc1 := 141) at_329_140 (am_lk1 l0 rfl rfl) i0 rfl ?_
          obtain ⟨v26, e27, hs10⟩ := am_bind hs5
          clear hs5
          refine aw_pG (pc1 := 144) at_329_141 (am_vI_s e27) rfl ?_
          refine aw_iconst (v := 1) (pc1 := 145) at_329_144 (by decide) rfl ?_
          refine aw_iadd (v := (v26 + 1)) (pc1 := 146) at_329_145 rfl rfl ?_
          obtain ⟨z28, hs11⟩ := am_ift hs10
          clear hs10
          refine aw_call (F := fm_332 x0 ((v26 + 1)) h11) (t := true) (na := 2) (kd := 1) (as := [x0, (.int (v26 + 1))]) at_329_146 (am_k3v kb_332) mn_332 mk_332 rfl rfl (am_ok_v mi_332 (am_hl rfl (am_ccR i0 (am_ccI am_cats_0)) rfl) z28) (am_hc am_cats_0 rfl) (fun _ => ⟨rfl, hh_329⟩) (fun o1 hz9 => rm_332 x0 ((v26 + 1)) h11 o1 i0 hz9) ?_
          rcases am_cI_s hs11 with ⟨v29, h30, f31, hs12⟩ | hs12
          · clear hs11
            refine Or.inl ⟨_, _, f31, ?_⟩
            show am_W X _ 329 149 _ [(.int v29)] h30 _
            refine aw_call (F := fm_333 v29 h30) (t := false) (na := 1) (kd := 0) (as := [(.int v29)]) at_329_149 (am_k3s kb_333) mn_333 mk_333 rfl rfl (am_ok_s mi_333 (am_hl rfl (am_ccI am_cats_0) rfl)) (am_hc am_cats_0 rfl) (fun hz9 => by cases hz9) (fun o1 hz9 => rm_333 v29 h30 o1  hz9) ?_
            rcases am_cI_s hs12 with ⟨v32, h33, f34, hs13⟩ | hs13
            · clear hs12
              refine Or.inl ⟨_, _, f34, ?_⟩
              show am_W X _ 329 152 _ [(.int v32)] h33 _
              refine aw_istore_n (lv1 := am_put1 _ 3 _) (pc1 := 153) at_329_152 rfl rfl ?_
              refine aw_iload_n (pc1 := 154) at_329_153 am_lk0 rfl ?_
              by_cases c35 : v32 < 0
              · rw [if_pos c35] at hs13
                refine aw_iflt_t at_329_154 c35 ?_
                exact rg_329_175 x0 h33 o (am_lk1 (am_lk1 l0 rfl rfl) rfl rfl) i0 hs13
              · rw [if_neg c35] at hs13
                refine aw_iflt_f (pc1 := 157) at_329_154 c35 rfl ?_
                refine aw_iload_n (pc1 := 158) at_329_157 am_lk0 rfl ?_
                refine aw_call (F := fm_334 v32 h33) (t := false) (na := 1) (kd := 0) (as := [(.int v32)]) at_329_158 (am_k3s kb_334) mn_334 mk_334 rfl rfl (am_ok_s mi_334 (am_hl rfl (am_ccI am_cats_0) rfl)) (am_hc am_cats_0 rfl) (fun hz9 => by cases hz9) (fun o1 hz9 => rm_334 v32 h33 o1  hz9) ?_
                rcases am_cI_s hs13 with ⟨v36, h37, f38, hs14⟩ | hs14
                · clear hs13
                  refine Or.inl ⟨_, _, f38, ?_⟩
                  show am_W X _ 329 161 _ [(.int v36)] h37 _
                  refine aw_iload_n (pc1 := 162) at_329_161 (am_lk1 (am_lk1 l1 rfl rfl) rfl rfl) rfl ?_
                  by_cases c39 : ¬ v36 = x1
                  · rw [if_pos c39] at hs14
                    refine aw_icne_t at_329_162 c39 ?_
                    exact rg_329_175 x0 h37 o (am_lk1 (am_lk1 l0 rfl rfl) rfl rfl) i0 hs14
                  · rw [if_neg c39] at hs14
                    refine aw_icne_f (pc1 := 165) at_329_162 c39 rfl ?_
                    refine aw_iload_n (pc1 := 166) at_329_165 (am_lk1 am_lk0 rfl rfl) rfl ?_
                    by_cases c40 : s0 = 0
                    · rw [if_pos c40] at hs14
                      refine aw_ifeq_t at_329_166 c40 ?_
                      exact rg_329_186 x0 s0 v32 h37 o (am_lk1 (am_lk1 l0 rfl rfl) rfl rfl) (am_lk1 am_lk0 rfl rfl) am_lk0 i0 hs14
                    · rw [if_neg c40] at hs14
                      refine aw_ifeq_f (pc1 := 169) at_329_166 c40 rfl ?_
                      refine aw_iload_n (pc1 := 170) at_329_169 am_lk0 rfl ?_
                      refine aw_bipush (v := 19) (pc1 := 172) at_329_170 (by decide) rfl ?_
                      by_cases c41 : ¬ v32 = 19
                      · rw [if_pos c41] at hs14
                        refine aw_icne_t at_329_172 c41 ?_
                        exact rg_329_186 x0 s0 v32 h37 o (am_lk1 (am_lk1 l0 rfl rfl) rfl rfl) (am_lk1 am_lk0 rfl rfl) am_lk0 i0 hs14
                      · rw [if_neg c41] at hs14
                        refine aw_icne_f (pc1 := 175) at_329_172 c41 rfl ?_
                        exact rg_329_175 x0 h37 o (am_lk1 (am_lk1 l0 rfl rfl) rfl rfl) i0 hs14
                · clear hs13
                  exact Or.inr hs14
            · clear hs12
              exact Or.inr hs13
          · clear hs11
            exact Or.inr hs12
      · clear hs4
        exact Or.inr hs5
    · rw [if_neg c6] at hs2
      refine aw_icne_f (pc1 := 117) at_329_114 c6 rfl ?_
      exact rg_329_117 x0 h o (am_lk1 l0 rfl rfl) i0 hs2
def fg_329_97 (x0 : Value) (x1 : Int32) (h : am_H) : Option am_O := (fg_329_98 x0 x1 0 h)
theorem rg_329_97 {X : am_X} {d : Nat} {lv : am_LV} (x0 : Value) (x1 : Int32) (h : am_H) (o : am_O) (l0 : lv.lookup 0 = some x0) (l1 : lv.lookup 1 = some (.int x1)) (i0 : am_isR x0 = true) (hs : fg_329_97 x0 x1 h = some o) : am_W X (d + 4) 329 97 lv [] h (fun q => q = o) := by
  unfold fg_329_97 at hs
  refine aw_iconst (v := 0) (pc1 := 98) at_329_97 (by decide) rfl ?_
  exact rg_329_98 x0 x1 0 h o l0 l1 i0 hs
def fg_329_93 (x0 : Value) (x1 : Int32) (h : am_H) : Option am_O := (fg_329_98 x0 x1 1 h)
theorem rg_329_93 {X : am_X} {d : Nat} {lv : am_LV} (x0 : Value) (x1 : Int32) (h : am_H) (o : am_O) (l0 : lv.lookup 0 = some x0) (l1 : lv.lookup 1 = some (.int x1)) (i0 : am_isR x0 = true) (hs : fg_329_93 x0 x1 h = some o) : am_W X (d + 4) 329 93 lv [] h (fun q => q = o) := by
  unfold fg_329_93 at hs
  refine aw_iconst (v := 1) (pc1 := 94) at_329_93 (by decide) rfl ?_
  refine aw_goto at_329_94 ?_
  exact rg_329_98 x0 x1 1 h o l0 l1 i0 hs
def fg_329_40 (x0 : Value) (s0 : Int32) (h : am_H) : Option am_O := ((am_vI (am_pG 3145 x0 h)).bind fun v1 => (if v1 ≤ 0 then (fg_329_97 x0 s0 h) else ((am_vR (am_pG 3148 x0 h)).bind fun v4 => ((am_vI (am_pG 3145 x0 h)).bind fun v6 => ((am_pA 2 v4 (v6 - 1) h).bind fun v8 => (if ¬ v8 = 0 then (fg_329_93 x0 s0 h) else ((am_vR (am_pG 3146 x0 h)).bind fun v11 => ((am_vI (am_pG 3145 x0 h)).bind fun v13 => ((am_pA 0 v11 (v13 - 1) h).bind fun v15 => (if ¬ v15 = 19 then (fg_329_97 x0 s0 h) else ((am_vR (am_pG 3147 x0 h)).bind fun v18 => ((am_vI (am_pG 3145 x0 h)).bind fun v20 => ((am_pA 0 v18 (v20 - 1) h).bind fun v22 => (if ¬ v22 = 1 then (fg_329_97 x0 s0 h) else (fg_329_93 x0 s0 h)))))))))))))))
theorem rg_329_40 {X : am_X} {d : Nat} {lv : am_LV} (x0 : Value) (s0 : Int32) (h : am_H) (o : am_O) (l0 : lv.lookup 0 = some x0) (i0 : am_isR x0 = true) (hs : fg_329_40 x0 s0 h = some o) : am_W X (d + 4) 329 40 lv [(.int s0)] h (fun q => q = o) := by
  unfold fg_329_40 at hs
  refine aw_istore_n (lv1 := am_put1 _ 1 _) (pc1 := 41) at_329_40 rfl rfl ?_
  refine aw_vload_n (pc1 := 42) at_329_41 (am_lk1 l0 rfl (by rw [am_isRc i0]; rfl)) i0 rfl ?_
  obtain ⟨v1, e2, hs1⟩ := am_bind hs
  clear hs
  refine aw_pG (pc1 := 45) at_329_42 (am_vI_s e2) rfl ?_
  by_cases c3 : v1 ≤ 0
  · rw [if_pos c3] at hs1
    refine aw_ifle_t at_329_45 c3 ?_
    exact rg_329_97 x0 s0 h o (am_lk1 l0 rfl (by rw [am_isRc i0]; rfl)) am_lk0 i0 hs1
  · rw [if_neg c3] at hs1
    refine aw_ifle_f (pc1 := 48) at_329_45 c3 rfl ?_
    refine aw_vload_n (pc1 := 49) at_329_48 (am_lk1 l0 rfl (by rw [am_isRc i0]; rfl)) i0 rfl ?_
    obtain ⟨v4, e5, hs2⟩ := am_bind hs1
    clear hs1
    refine aw_pG (pc1 := 52) at_329_49 (am_vR_s e5).1 rfl ?_
    refine aw_vload_n (pc1 := 53) at_329_52 (am_lk1 l0 rfl (by rw [am_isRc i0]; rfl)) i0 rfl ?_
    obtain ⟨v6, e7, hs3⟩ := am_bind hs2
    clear hs2
    refine aw_pG (pc1 := 56) at_329_53 (am_vI_s e7) rfl ?_
    refine aw_iconst (v := 1) (pc1 := 57) at_329_56 (by decide) rfl ?_
    refine aw_isub (v := (v6 - 1)) (pc1 := 58) at_329_57 rfl rfl ?_
    obtain ⟨v8, e9, hs4⟩ := am_bind hs3
    clear hs3
    refine aw_pA (pc1 := 59) at_329_58 (Or.inr (Or.inl ⟨rfl, rfl⟩)) e9 rfl ?_
    by_cases c10 : ¬ v8 = 0
    · rw [if_pos c10] at hs4
      refine aw_ifne_t at_329_59 c10 ?_
      exact rg_329_93 x0 s0 h o (am_lk1 l0 rfl (by rw [am_isRc i0]; rfl)) am_lk0 i0 hs4
    · rw [if_neg c10] at hs4
      refine aw_ifne_f (pc1 := 62) at_329_59 c10 rfl ?_
      refine aw_vload_n (pc1 := 63) at_329_62 (am_lk1 l0 rfl (by rw [am_isRc i0]; rfl)) i0 rfl ?_
      obtain ⟨v11, e12, hs5⟩ := am_bind hs4
      clear hs4
      refine aw_pG (pc1 := 66) at_329_63 (am_vR_s e12).1 rfl ?_
      refine aw_vload_n (pc1 := 67) at_329_66 (am_lk1 l0 rfl (by rw [am_isRc i0]; rfl)) i0 rfl ?_
      obtain ⟨v13, e14, hs6⟩ := am_bind hs5
      clear hs5
      refine aw_pG (pc1 := 70) at_329_67 (am_vI_s e14) rfl ?_
      refine aw_iconst (v := 1) (pc1 := 71) at_329_70 (by decide) rfl ?_
      refine aw_isub (v := (v13 - 1)) (pc1 := 72) at_329_71 rfl rfl ?_
      obtain ⟨v15, e16, hs7⟩ := am_bind hs6
      clear hs6
      refine aw_pA (pc1 := 73) at_329_72 (Or.inl ⟨rfl, rfl⟩) e16 rfl ?_
      refine aw_bipush (v := 19) (pc1 := 75) at_329_73 (by decide) rfl ?_
      by_cases c17 : ¬ v15 = 19
      · rw [if_pos c17] at hs7
        refine aw_icne_t at_329_75 c17 ?_
        exact rg_329_97 x0 s0 h o (am_lk1 l0 rfl (by rw [am_isRc i0]; rfl)) am_lk0 i0 hs7
      · rw [if_neg c17] at hs7
        refine aw_icne_f (pc1 := 78) at_329_75 c17 rfl ?_
        refine aw_vload_n (pc1 := 79) at_329_78 (am_lk1 l0 rfl (by rw [am_isRc i0]; rfl)) i0 rfl ?_
        obtain ⟨v18, e19, hs8⟩ := am_bind hs7
        clear hs7
        refine aw_pG (pc1 := 82) at_329_79 (am_vR_s e19).1 rfl ?_
        refine aw_vload_n (pc1 := 83) at_329_82 (am_lk1 l0 rfl (by rw [am_isRc i0]; rfl)) i0 rfl ?_
        obtain ⟨v20, e21, hs9⟩ := am_bind hs8
        clear hs8
        refine aw_pG (pc1 := 86) at_329_83 (am_vI_s e21) rfl ?_
        refine aw_iconst (v := 1) (pc1 := 87) at_329_86 (by decide) rfl ?_
        refine aw_isub (v := (v20 - 1)) (pc1 := 88) at_329_87 rfl rfl ?_
        obtain ⟨v22, e23, hs10⟩ := am_bind hs9
        clear hs9
        refine aw_pA (pc1 := 89) at_329_88 (Or.inl ⟨rfl, rfl⟩) e23 rfl ?_
        refine aw_iconst (v := 1) (pc1 := 90) at_329_89 (by decide) rfl ?_
        by_cases c24 : ¬ v22 = 1
        · rw [if_pos c24] at hs10
          refine aw_icne_t at_329_90 c24 ?_
          exact rg_329_97 x0 s0 h o (am_lk1 l0 rfl (by rw [am_isRc i0]; rfl)) am_lk0 i0 hs10
        · rw [if_neg c24] at hs10
          refine aw_icne_f (pc1 := 93) at_329_90 c24 rfl ?_
          exact rg_329_93 x0 s0 h o (am_lk1 l0 rfl (by rw [am_isRc i0]; rfl)) am_lk0 i0 hs10
def fg_329_39 (x0 : Value) (h : am_H) : Option am_O := (fg_329_40 x0 0 h)
theorem rg_329_39 {X : am_X} {d : Nat} {lv : am_LV} (x0 : Value) (h : am_H) (o : am_O) (l0 : lv.lookup 0 = some x0) (i0 : am_isR x0 = true) (hs : fg_329_39 x0 h = some o) : am_W X (d + 4) 329 39 lv [] h (fun q => q = o) := by
  unfold fg_329_39 at hs
  refine aw_iconst (v := 0) (pc1 := 40) at_329_39 (by decide) rfl ?_
  exact rg_329_40 x0 0 h o l0 i0 hs
def fg_329_0 (x0 : Value) (h : am_H) : Option am_O := ((am_vI (am_pG 3145 x0 h)).bind fun v1 => (if v1 ≤ 0 then (fg_329_39 x0 h) else ((am_vR (am_pG 3146 x0 h)).bind fun v4 => ((am_vI (am_pG 3145 x0 h)).bind fun v6 => ((am_pA 0 v4 (v6 - 1) h).bind fun v8 => ((am_vR (am_pG 3147 x0 h)).bind fun v10 => ((am_vI (am_pG 3145 x0 h)).bind fun v12 => ((am_pA 0 v10 (v12 - 1) h).bind fun v14 => am_cI false (fm_330 v8 v14 h) (fun v16 h17 => (if v16 = 0 then (fg_329_39 x0 h17) else (fg_329_40 x0 1 h17)))))))))))
theorem rg_329_0 {X : am_X} {d : Nat} {lv : am_LV} (x0 : Value) (h : am_H) (o : am_O) (l0 : lv.lookup 0 = some x0) (i0 : am_isR x0 = true) (hs : fg_329_0 x0 h = some o) : am_W X (d + 4) 329 0 lv [] h (fun q => q = o) := by
  unfold fg_329_0 at hs
  refine aw_vload_n (pc1 := 1) at_329_0 l0 i0 rfl ?_
  obtain ⟨v1, e2, hs1⟩ := am_bind hs
  clear hs
  refine aw_pG (pc1 := 4) at_329_1 (am_vI_s e2) rfl ?_
  by_cases c3 : v1 ≤ 0
  · rw [if_pos c3] at hs1
    refine aw_ifle_t at_329_4 c3 ?_
    exact rg_329_39 x0 h o l0 i0 hs1
  · rw [if_neg c3] at hs1
    refine aw_ifle_f (pc1 := 7) at_329_4 c3 rfl ?_
    refine aw_vload_n (pc1 := 8) at_329_7 l0 i0 rfl ?_
    obtain ⟨v4, e5, hs2⟩ := am_bind hs1
    clear hs1
    refine aw_pG (pc1 := 11) at_329_8 (am_vR_s e5).1 rfl ?_
    refine aw_vload_n (pc1 := 12) at_329_11 l0 i0 rfl ?_
    obtain ⟨v6, e7, hs3⟩ := am_bind hs2
    clear hs2
    refine aw_pG (pc1 := 15) at_329_12 (am_vI_s e7) rfl ?_
    refine aw_iconst (v := 1) (pc1 := 16) at_329_15 (by decide) rfl ?_
    refine aw_isub (v := (v6 - 1)) (pc1 := 17) at_329_16 rfl rfl ?_
    obtain ⟨v8, e9, hs4⟩ := am_bind hs3
    clear hs3
    refine aw_pA (pc1 := 18) at_329_17 (Or.inl ⟨rfl, rfl⟩) e9 rfl ?_
    refine aw_vload_n (pc1 := 19) at_329_18 l0 i0 rfl ?_
    obtain ⟨v10, e11, hs5⟩ := am_bind hs4
    clear hs4
    refine aw_pG (pc1 := 22) at_329_19 (am_vR_s e11).1 rfl ?_
    refine aw_vload_n (pc1 := 23) at_329_22 l0 i0 rfl ?_
    obtain ⟨v12, e13, hs6⟩ := am_bind hs5
    clear hs5
    refine aw_pG (pc1 := 26) at_329_23 (am_vI_s e13) rfl ?_
    refine aw_iconst (v := 1) (pc1 := 27) at_329_26 (by decide) rfl ?_
    refine aw_isub (v := (v12 - 1)) (pc1 := 28) at_329_27 rfl rfl ?_
    obtain ⟨v14, e15, hs7⟩ := am_bind hs6
    clear hs6
    refine aw_pA (pc1 := 29) at_329_28 (Or.inl ⟨rfl, rfl⟩) e15 rfl ?_
    refine aw_call (F := fm_330 v8 v14 h) (t := false) (na := 2) (kd := 0) (as := [(.int v8), (.int v14)]) at_329_29 (am_k3s kb_330) mn_330 mk_330 rfl rfl (am_ok_s mi_330 (am_hl rfl (am_ccI (am_ccI am_cats_0)) rfl)) (am_hc am_cats_0 rfl) (fun hz9 => by cases hz9) (fun o1 hz9 => rm_330 v8 v14 h o1  hz9) ?_
    rcases am_cI_s hs7 with ⟨v16, h17, f18, hs8⟩ | hs8
    · clear hs7
      refine Or.inl ⟨_, _, f18, ?_⟩
      show am_W X _ 329 32 _ [(.int v16)] h17 _
      by_cases c19 : v16 = 0
      · rw [if_pos c19] at hs8
        refine aw_ifeq_t at_329_32 c19 ?_
        exact rg_329_39 x0 h17 o l0 i0 hs8
      · rw [if_neg c19] at hs8
        refine aw_ifeq_f (pc1 := 35) at_329_32 c19 rfl ?_
        refine aw_iconst (v := 1) (pc1 := 36) at_329_35 (by decide) rfl ?_
        refine aw_goto at_329_36 ?_
        exact rg_329_40 x0 1 h17 o l0 i0 hs8
    · clear hs7
      exact Or.inr hs8
def fm_329 (y0 : Value) (h : am_H) : Option am_O := fg_329_0 y0 h
theorem rm_329 {X : am_X} {d : Nat} (y0 : Value) (h : am_H) (o : am_O) (i0 : am_isR y0 = true) (hs : fm_329 y0 h = some o) : am_W X (d + 4) 329 0 (am_args 0 [y0]) [] h (fun q => q = o) := by
  rw [am_args_R i0]
  exact rg_329_0 y0 h o rfl i0 hs
def fg_343_31 (s0 : Int32) (h : am_H) : Option am_O := some (.inl (some (.int s0), h))
theorem rg_343_31 {X : am_X} {d : Nat} {lv : am_LV} (s0 : Int32) (h : am_H) (o : am_O) (hs : fg_343_31 s0 h = some o) : am_W X (d) 343 31 lv [(.int s0)] h (fun q => q = o) := by
  unfold fg_343_31 at hs
  cases hs
  exact aw_iret at_343_31 (by rw [rt_343]; rfl) rfl
def fg_343_0 (x0 : Int32) (h : am_H) : Option am_O := (if 7 ≤ x0 then (if 10 ≤ x0 then (if 20 ≤ x0 then (fg_343_31 3 h) else (fg_343_31 2 h)) else (fg_343_31 1 h)) else (fg_343_31 0 h))
theorem rg_343_0 {X : am_X} {d : Nat} {lv : am_LV} (x0 : Int32) (h : am_H) (o : am_O) (l0 : lv.lookup 0 = some (.int x0)) (hs : fg_343_0 x0 h = some o) : am_W X (d) 343 0 lv [] h (fun q => q = o) := by
  unfold fg_343_0 at hs
  refine aw_iload_n (pc1 := 1) at_343_0 l0 rfl ?_
  refine aw_bipush (v := 7) (pc1 := 3) at_343_1 (by decide) rfl ?_
  by_cases c1 : 7 ≤ x0
  · rw [if_pos c1] at hs
    refine aw_icge_t at_343_3 c1 ?_
    refine aw_iload_n (pc1 := 11) at_343_10 l0 rfl ?_
    refine aw_bipush (v := 10) (pc1 := 13) at_343_11 (by decide) rfl ?_
    by_cases c2 : 10 ≤ x0
    · rw [if_pos c2] at hs
      refine aw_icge_t at_343_13 c2 ?_
      refine aw_iload_n (pc1 := 21) at_343_20 l0 rfl ?_
      refine aw_bipush (v := 20) (pc1 := 23) at_343_21 (by decide) rfl ?_
      by_cases c3 : 20 ≤ x0
      · rw [if_pos c3] at hs
        refine aw_icge_t at_343_23 c3 ?_
        refine aw_iconst (v := 3) (pc1 := 31) at_343_30 (by decide) rfl ?_
        exact rg_343_31 3 h o   hs
      · rw [if_neg c3] at hs
        refine aw_icge_f (pc1 := 26) at_343_23 c3 rfl ?_
        refine aw_iconst (v := 2) (pc1 := 27) at_343_26 (by decide) rfl ?_
        refine aw_goto at_343_27 ?_
        exact rg_343_31 2 h o   hs
    · rw [if_neg c2] at hs
      refine aw_icge_f (pc1 := 16) at_343_13 c2 rfl ?_
      refine aw_iconst (v := 1) (pc1 := 17) at_343_16 (by decide) rfl ?_
      refine aw_goto at_343_17 ?_
      exact rg_343_31 1 h o   hs
  · rw [if_neg c1] at hs
    refine aw_icge_f (pc1 := 6) at_343_3 c1 rfl ?_
    refine aw_iconst (v := 0) (pc1 := 7) at_343_6 (by decide) rfl ?_
    refine aw_goto at_343_7 ?_
    exact rg_343_31 0 h o   hs
def fm_343 (y0 : Int32) (h : am_H) : Option am_O := fg_343_0 y0 h
theorem rm_343 {X : am_X} {d : Nat} (y0 : Int32) (h : am_H) (o : am_O) (hs : fm_343 y0 h = some o) : am_W X (d) 343 0 (am_args 0 [.int y0]) [] h (fun q => q = o) := by
  rw [am_args_I]
  exact rg_343_0 y0 h o rfl  hs
def fg_342_14 (N : Nat) : Nat → Value → am_H → Option am_O
  | 0 => fun _ _ => none
  | K + 1 => fun x0 h => ((am_vI (am_pG 3145 x0 h)).bind fun v1 => (if v1 ≤ 0 then some (.inl (some (.int 0), h)) else ((am_vR (am_pG 3147 x0 h)).bind fun v4 => ((am_vI (am_pG 3145 x0 h)).bind fun v6 => ((am_pA 0 v4 (v6 - 1) h).bind fun v8 => ((am_pS 0 v4 (v6 - 1) (v8 + 1) h).bind fun h10 => ((am_vR (am_pG 3147 x0 h10)).bind fun v12 => ((am_vI (am_pG 3145 x0 h10)).bind fun v14 => ((am_pA 0 v12 (v14 - 1) h10).bind fun v16 => ((am_vR (am_pG 3146 x0 h10)).bind fun v18 => ((am_vI (am_pG 3145 x0 h10)).bind fun v20 => ((am_pA 0 v18 (v20 - 1) h10).bind fun v22 => am_cI false (fm_343 v22 h10) (fun v24 h25 => (if v24 ≤ v16 then (if am_pOk 12 x0 h25 then am_cI true (fm_336 x0 41 h25) (fun v29 h30 => (if ¬ v29 = 0 then ((am_vI (am_pG 3145 x0 h30)).bind fun v33 => ((am_pP 3145 x0 (.int (v33 - 1)) h30).bind fun h35 => (fg_342_14 N K x0 h35))) else some (.inl (some (.int 0), h30)))) else none) else (if am_pOk 12 x0 h25 then am_cI true (fm_336 x0 32 h25) (fun v38 h39 => (if am_rfit (some FieldType.boolean) v38 then some (.inl (some (.int v38), h39)) else none)) else none)))))))))))))))
theorem rg_342_14 {X : am_X} {d : Nat} {N : Nat} : ∀ (K : Nat) (x0 : Value) (h : am_H) (o : am_O), fg_342_14 N K x0 h = some o → ∀ lv : am_LV, (lv.lookup 0 = some x0) → (am_isR x0 = true) → am_W X (d + 2) 342 14 lv [] h (fun q => q = o) := by
  intro K
  induction K with
  | zero => intro x0 h o hs; cases hs
  | succ K ih =>
    intro x0 h o hs lv l0 i0
    unfold fg_342_14 at hs
    refine aw_vload_n (pc1 := 15) at_342_14 l0 i0 rfl ?_
    obtain ⟨v1, e2, hs1⟩ := am_bind hs
    clear hs
    refine aw_pG (pc1 := 18) at_342_15 (am_vI_s e2) rfl ?_
    by_cases c3 : v1 ≤ 0
    · rw [if_pos c3] at hs1
      refine aw_ifle_t at_342_18 c3 ?_
      refine aw_iconst (v := 0) (pc1 := 96) at_342_95 (by decide) rfl ?_
      cases hs1
      exact aw_iret at_342_96 (by rw [rt_342]; decide) rfl
    · rw [if_neg c3] at hs1
      refine aw_ifle_f (pc1 := 21) at_342_18 c3 rfl ?_
      refine aw_vload_n (pc1 := 22) at_342_21 l0 i0 rfl ?_
      obtain ⟨v4, e5, hs2⟩ := am_bind hs1
      clear hs1
      refine aw_pG (pc1 := 25) at_342_22 (am_vR_s e5).1 rfl ?_
      refine aw_vload_n (pc1 := 26) at_342_25 l0 i0 rfl ?_
      obtain ⟨v6, e7, hs3⟩ := am_bind hs2
      clear hs2
      refine aw_pG (pc1 := 29) at_342_26 (am_vI_s e7) rfl ?_
      refine aw_iconst (v := 1) (pc1 := 30) at_342_29 (by decide) rfl ?_
      refine aw_isub (v := (v6 - 1)) (pc1 := 31) at_342_30 rfl rfl ?_
      refine aw_vdup2 (pc1 := 32) at_342_31 (am_vR_s e5).2 rfl ?_
      obtain ⟨v8, e9, hs4⟩ := am_bind hs3
      clear hs3
      refine aw_pA (pc1 := 33) at_342_32 (Or.inl ⟨rfl, rfl⟩) e9 rfl ?_
      refine aw_iconst (v := 1) (pc1 := 34) at_342_33 (by decide) rfl ?_
      refine aw_iadd (v := (v8 + 1)) (pc1 := 35) at_342_34 rfl rfl ?_
      obtain ⟨h10, e11, hs5⟩ := am_bind hs4
      clear hs4
      refine aw_pS (pc1 := 36) at_342_35 (Or.inl ⟨rfl, rfl⟩) e11 rfl ?_
      refine aw_vload_n (pc1 := 37) at_342_36 l0 i0 rfl ?_
      obtain ⟨v12, e13, hs6⟩ := am_bind hs5
      clear hs5
      refine aw_pG (pc1 := 40) at_342_37 (am_vR_s e13).1 rfl ?_
      refine aw_vload_n (pc1 := 41) at_342_40 l0 i0 rfl ?_
      obtain ⟨v14, e15, hs7⟩ := am_bind hs6
      clear hs6
      refine aw_pG (pc1 := 44) at_342_41 (am_vI_s e15) rfl ?_
      refine aw_iconst (v := 1) (pc1 := 45) at_342_44 (by decide) rfl ?_
      refine aw_isub (v := (v14 - 1)) (pc1 := 46) at_342_45 rfl rfl ?_
      obtain ⟨v16, e17, hs8⟩ := am_bind hs7
      clear hs7
      refine aw_pA (pc1 := 47) at_342_46 (Or.inl ⟨rfl, rfl⟩) e17 rfl ?_
      refine aw_vload_n (pc1 := 48) at_342_47 l0 i0 rfl ?_
      obtain ⟨v18, e19, hs9⟩ := am_bind hs8
      clear hs8
      refine aw_pG (pc1 := 51) at_342_48 (am_vR_s e19).1 rfl ?_
      refine aw_vload_n (pc1 := 52) at_342_51 l0 i0 rfl ?_
      obtain ⟨v20, e21, hs10⟩ := am_bind hs9
      clear hs9
      refine aw_pG (pc1 := 55) at_342_52 (am_vI_s e21) rfl ?_
      refine aw_iconst (v := 1) (pc1 := 56) at_342_55 (by decide) rfl ?_
      refine aw_isub (v := (v20 - 1)) (pc1 := 57) at_342_56 rfl rfl ?_
      obtain ⟨v22, e23, hs11⟩ := am_bind hs10
      clear hs10
      refine aw_pA (pc1 := 58) at_342_57 (Or.inl ⟨rfl, rfl⟩) e23 rfl ?_
      refine aw_call (F := fm_343 v22 h10) (t := false) (na := 1) (kd := 0) (as := [(.int v22)]) at_342_58 (am_k3s kb_343) mn_343 mk_343 rfl rfl (am_ok_s mi_343 (am_hl rfl (am_ccI am_cats_0) rfl)) (am_hc (am_ccI am_cats_0) rfl) (fun hz9 => by cases hz9) (fun o1 hz9 => rm_343 v22 h10 o1  hz9) ?_
      rcases am_cI_s hs11 with ⟨v24, h25, f26, hs12⟩ | hs12
      · clear hs11
        refine Or.inl ⟨_, _, f26, ?_⟩
        show am_W X _ 342 61 _ [(.int v24), (.int v16)] h25 _
        by_cases c27 : v24 ≤ v16
        · rw [if_pos c27] at hs12
          refine aw_icge_t at_342_61 c27 ?_
          refine aw_vload_n (pc1 := 72) at_342_71 l0 i0 rfl ?_
          refine aw_bipush (v := 41) (pc1 := 74) at_342_72 (by decide) rfl ?_
          obtain ⟨z28, hs13⟩ := am_ift hs12
          clear hs12
          refine aw_call (F := fm_336 x0 41 h25) (t := true) (na := 2) (kd := 1) (as := [x0, (.int 41)]) at_342_74 (am_k3v kb_336) mn_336 mk_336 rfl rfl (am_ok_v mi_336 (am_hl rfl (am_ccR i0 (am_ccI am_cats_0)) rfl) z28) (am_hc am_cats_0 rfl) (fun _ => ⟨rfl, hh_342⟩) (fun o1 hz9 => rm_336 x0 41 h25 o1 i0 hz9) ?_
          rcases am_cI_s hs13 with ⟨v29, h30, f31, hs14⟩ | hs14
          · clear hs13
            refine Or.inl ⟨_, _, f31, ?_⟩
            show am_W X _ 342 77 _ [(.int v29)] h30 _
            by_cases c32 : ¬ v29 = 0
            · rw [if_pos c32] at hs14
              refine aw_ifne_t at_342_77 c32 ?_
              refine aw_vload_n (pc1 := 83) at_342_82 l0 i0 rfl ?_
              refine aw_vdup (pc1 := 84) at_342_83 i0 rfl ?_
              obtain ⟨v33, e34, hs15⟩ := am_bind hs14
              clear hs14
              refine aw_pG (pc1 := 87) at_342_84 (am_vI_s e34) rfl ?_
              refine aw_iconst (v := 1) (pc1 := 88) at_342_87 (by decide) rfl ?_
              refine aw_isub (v := (v33 - 1)) (pc1 := 89) at_342_88 rfl rfl ?_
              obtain ⟨h35, e36, hs16⟩ := am_bind hs15
              clear hs15
              refine aw_pP (pc1 := 92) at_342_89 e36 rfl ?_
              refine aw_goto at_342_92 ?_
              exact ih x0 h35 o hs16 _ l0 i0
            · rw [if_neg c32] at hs14
              refine aw_ifne_f (pc1 := 80) at_342_77 c32 rfl ?_
              refine aw_iconst (v := 0) (pc1 := 81) at_342_80 (by decide) rfl ?_
              cases hs14
              exact aw_iret at_342_81 (by rw [rt_342]; decide) rfl
          · clear hs13
            exact Or.inr hs14
        · rw [if_neg c27] at hs12
          refine aw_icge_f (pc1 := 64) at_342_61 c27 rfl ?_
          refine aw_vload_n (pc1 := 65) at_342_64 l0 i0 rfl ?_
          refine aw_bipush (v := 32) (pc1 := 67) at_342_65 (by decide) rfl ?_
          obtain ⟨z37, hs17⟩ := am_ift hs12
          clear hs12
          refine aw_call (F := fm_336 x0 32 h25) (t := true) (na := 2) (kd := 1) (as := [x0, (.int 32)]) at_342_67 (am_k3v kb_336) mn_336 mk_336 rfl rfl (am_ok_v mi_336 (am_hl rfl (am_ccR i0 (am_ccI am_cats_0)) rfl) z37) (am_hc am_cats_0 rfl) (fun _ => ⟨rfl, hh_342⟩) (fun o1 hz9 => rm_336 x0 32 h25 o1 i0 hz9) ?_
          rcases am_cI_s hs17 with ⟨v38, h39, f40, hs18⟩ | hs18
          · clear hs17
            refine Or.inl ⟨_, _, f40, ?_⟩
            show am_W X _ 342 70 _ [(.int v38)] h39 _
            obtain ⟨z41, hs19⟩ := am_ift hs18
            clear hs18
            cases hs19
            exact aw_iret at_342_70 (by rw [rt_342]; exact z41) rfl
          · clear hs17
            exact Or.inr hs18
      · clear hs11
        exact Or.inr hs12
def fg_342_0 (N : Nat) (x0 : Value) (h : am_H) : Option am_O := ((am_vI (am_pG 3149 x0 h)).bind fun v1 => (if v1 = 0 then (fg_342_14 N N x0 h) else ((am_pP 3149 x0 (.int 0) h).bind fun h4 => some (.inl (some (.int 1), h4)))))
theorem rg_342_0 {X : am_X} {d : Nat} {N : Nat} {lv : am_LV} (x0 : Value) (h : am_H) (o : am_O) (l0 : lv.lookup 0 = some x0) (i0 : am_isR x0 = true) (hs : fg_342_0 N x0 h = some o) : am_W X (d + 2) 342 0 lv [] h (fun q => q = o) := by
  unfold fg_342_0 at hs
  refine aw_vload_n (pc1 := 1) at_342_0 l0 i0 rfl ?_
  obtain ⟨v1, e2, hs1⟩ := am_bind hs
  clear hs
  refine aw_pG (pc1 := 4) at_342_1 (am_vI_s e2) rfl ?_
  by_cases c3 : v1 = 0
  · rw [if_pos c3] at hs1
    refine aw_ifeq_t at_342_4 c3 ?_
    exact rg_342_14 N x0 h o hs1 _ l0 i0
  · rw [if_neg c3] at hs1
    refine aw_ifeq_f (pc1 := 7) at_342_4 c3 rfl ?_
    refine aw_vload_n (pc1 := 8) at_342_7 l0 i0 rfl ?_
    refine aw_iconst (v := 0) (pc1 := 9) at_342_8 (by decide) rfl ?_
    obtain ⟨h4, e5, hs2⟩ := am_bind hs1
    clear hs1
    refine aw_pP (pc1 := 12) at_342_9 e5 rfl ?_
    refine aw_iconst (v := 1) (pc1 := 13) at_342_12 (by decide) rfl ?_
    cases hs2
    exact aw_iret at_342_13 (by rw [rt_342]; decide) rfl
def fm_342 (N : Nat) (y0 : Value) (h : am_H) : Option am_O := fg_342_0 N y0 h
theorem rm_342 {X : am_X} {d : Nat} {N : Nat} (y0 : Value) (h : am_H) (o : am_O) (i0 : am_isR y0 = true) (hs : fm_342 N y0 h = some o) : am_W X (d + 2) 342 0 (am_args 0 [y0]) [] h (fun q => q = o) := by
  rw [am_args_R i0]
  exact rg_342_0 y0 h o rfl i0 hs
def fg_328_68 (N : Nat) (h : am_H) : Option am_O := some (.inl (none, h))
theorem rg_328_68 {X : am_X} {d : Nat} {N : Nat} {lv : am_LV} (h : am_H) (o : am_O) (hs : fg_328_68 N h = some o) : am_W X (d + 5) 328 68 lv [] h (fun q => q = o) := by
  unfold fg_328_68 at hs
  cases hs
  exact aw_vret at_328_68 rt_328 rfl
def fg_328_41 (N : Nat) (x0 : Value) (h : am_H) : Option am_O := ((am_vI (am_pG 3142 x0 h)).bind fun v1 => (if 0 ≤ v1 then (fg_328_68 N h) else ((am_vI (am_pG 3141 x0 h)).bind fun v4 => ((am_vI (am_pG 3140 x0 h)).bind fun v6 => (if v6 ≤ v4 then (fg_328_68 N h) else ((am_vI (am_pG 3141 x0 h)).bind fun v9 => (if am_pOk 12 x0 h then am_cI true (fm_331 x0 v9 h) (fun v12 h13 => (fg_328_68 N h13)) else none)))))))
theorem rg_328_41 {X : am_X} {d : Nat} {N : Nat} {lv : am_LV} (x0 : Value) (h : am_H) (o : am_O) (l0 : lv.lookup 0 = some x0) (i0 : am_isR x0 = true) (hs : fg_328_41 N x0 h = some o) : am_W X (d + 5) 328 41 lv [] h (fun q => q = o) := by
  unfold fg_328_41 at hs
  refine aw_vload_n (pc1 := 42) at_328_41 l0 i0 rfl ?_
  obtain ⟨v1, e2, hs1⟩ := am_bind hs
  clear hs
  refine aw_pG (pc1 := 45) at_328_42 (am_vI_s e2) rfl ?_
  by_cases c3 : 0 ≤ v1
  · rw [if_pos c3] at hs1
    refine aw_ifge_t at_328_45 c3 ?_
    exact rg_328_68 h o   hs1
  · rw [if_neg c3] at hs1
    refine aw_ifge_f (pc1 := 48) at_328_45 c3 rfl ?_
    refine aw_vload_n (pc1 := 49) at_328_48 l0 i0 rfl ?_
    obtain ⟨v4, e5, hs2⟩ := am_bind hs1
    clear hs1
    refine aw_pG (pc1 := 52) at_328_49 (am_vI_s e5) rfl ?_
    refine aw_vload_n (pc1 := 53) at_328_52 l0 i0 rfl ?_
    obtain ⟨v6, e7, hs3⟩ := am_bind hs2
    clear hs2
    refine aw_pG (pc1 := 56) at_328_53 (am_vI_s e7) rfl ?_
    by_cases c8 : v6 ≤ v4
    · rw [if_pos c8] at hs3
      refine aw_icge_t at_328_56 c8 ?_
      exact rg_328_68 h o   hs3
    · rw [if_neg c8] at hs3
      refine aw_icge_f (pc1 := 59) at_328_56 c8 rfl ?_
      refine aw_vload_n (pc1 := 60) at_328_59 l0 i0 rfl ?_
      refine aw_vload_n (pc1 := 61) at_328_60 l0 i0 rfl ?_
      obtain ⟨v9, e10, hs4⟩ := am_bind hs3
      clear hs3
      refine aw_pG (pc1 := 64) at_328_61 (am_vI_s e10) rfl ?_
      obtain ⟨z11, hs5⟩ := am_ift hs4
      clear hs4
      refine aw_call (F := fm_331 x0 v9 h) (t := true) (na := 2) (kd := 1) (as := [x0, (.int v9)]) at_328_64 (am_k3v kb_331) mn_331 mk_331 rfl rfl (am_ok_v mi_331 (am_hl rfl (am_ccR i0 (am_ccI am_cats_0)) rfl) z11) (am_hc am_cats_0 rfl) (fun _ => ⟨rfl, hh_328⟩) (fun o1 hz9 => rm_331 x0 v9 h o1 i0 hz9) ?_
      rcases am_cI_s hs5 with ⟨v12, h13, f14, hs6⟩ | hs6
      · clear hs5
        refine Or.inl ⟨_, _, f14, ?_⟩
        show am_W X _ 328 67 _ [(.int v12)] h13 _
        refine aw_popi (pc1 := 68) at_328_67 rfl ?_
        exact rg_328_68 h13 o   hs6
      · clear hs5
        exact Or.inr hs6
def fg_328_37 (N : Nat) (rec_7 : Value → Int32 → am_H → Option am_O) (x0 : Value) (s0 : Int32) (h : am_H) : Option am_O := (rec_7 x0 s0 h)
theorem rg_328_37 {X : am_X} {d : Nat} {N : Nat} {rec_7 : Value → Int32 → am_H → Option am_O} (q_7 : ∀ (x0 : Value) (x1 : Int32) (h : am_H) (o : am_O), rec_7 x0 x1 h = some o → ∀ lv : am_LV, (lv.lookup 0 = some x0) → (lv.lookup 1 = some (.int x1)) → (am_isR x0 = true) → am_W X (d + 5) 328 7 lv [] h (fun q => q = o)) {lv : am_LV} (x0 : Value) (s0 : Int32) (h : am_H) (o : am_O) (l0 : lv.lookup 0 = some x0) (i0 : am_isR x0 = true) (hs : fg_328_37 N rec_7 x0 s0 h = some o) : am_W X (d + 5) 328 37 lv [(.int s0)] h (fun q => q = o) := by
  unfold fg_328_37 at hs
  refine aw_istore_n (lv1 := am_put1 _ 1 _) (pc1 := 38) at_328_37 rfl rfl ?_
  refine aw_goto at_328_38 ?_
  exact q_7 x0 s0 h o hs _ (am_lk1 l0 rfl (by rw [am_isRc i0]; rfl)) am_lk0 i0
def fg_328_36 (N : Nat) (rec_7 : Value → Int32 → am_H → Option am_O) (x0 : Value) (h : am_H) : Option am_O := (fg_328_37 N rec_7 x0 0 h)
theorem rg_328_36 {X : am_X} {d : Nat} {N : Nat} {rec_7 : Value → Int32 → am_H → Option am_O} (q_7 : ∀ (x0 : Value) (x1 : Int32) (h : am_H) (o : am_O), rec_7 x0 x1 h = some o → ∀ lv : am_LV, (lv.lookup 0 = some x0) → (lv.lookup 1 = some (.int x1)) → (am_isR x0 = true) → am_W X (d + 5) 328 7 lv [] h (fun q => q = o)) {lv : am_LV} (x0 : Value) (h : am_H) (o : am_O) (l0 : lv.lookup 0 = some x0) (i0 : am_isR x0 = true) (hs : fg_328_36 N rec_7 x0 h = some o) : am_W X (d + 5) 328 36 lv [] h (fun q => q = o) := by
  unfold fg_328_36 at hs
  refine aw_iconst (v := 0) (pc1 := 37) at_328_36 (by decide) rfl ?_
  exact rg_328_37 q_7 x0 0 h o l0 i0 hs
def fg_328_7 (N : Nat) : Nat → Value → Int32 → am_H → Option am_O
  | 0 => fun _ _ _ => none
  | K + 1 => fun x0 x1 h => (if x1 = 0 then (fg_328_41 N x0 h) else ((am_vI (am_pG 3142 x0 h)).bind fun v2 => (if 0 ≤ v2 then (fg_328_41 N x0 h) else (if am_pOk 12 x0 h then am_cI true (fm_329 x0 h) (fun v6 h7 => (if v6 = 0 then (fg_328_36 N (fg_328_7 N K) x0 h7) else (if am_pOk 12 x0 h7 then am_cI true (fm_342 N x0 h7) (fun v11 h12 => (if v11 = 0 then (fg_328_36 N (fg_328_7 N K) x0 h12) else (fg_328_37 N (fg_328_7 N K) x0 1 h12))) else none))) else none))))
theorem rg_328_7 {X : am_X} {d : Nat} {N : Nat} : ∀ (K : Nat) (x0 : Value) (x1 : Int32) (h : am_H) (o : am_O), fg_328_7 N K x0 x1 h = some o → ∀ lv : am_LV, (lv.lookup 0 = some x0) → (lv.lookup 1 = some (.int x1)) → (am_isR x0 = true) → am_W X (d + 5) 328 7 lv [] h (fun q => q = o) := by
  intro K
  induction K with
  | zero => intro x0 x1 h o hs; cases hs
  | succ K ih =>
    intro x0 x1 h o hs lv l0 l1 i0
    unfold fg_328_7 at hs
    refine aw_iload_n (pc1 := 8) at_328_7 l1 rfl ?_
    by_cases c1 : x1 = 0
    · rw [if_pos c1] at hs
      refine aw_ifeq_t at_328_8 c1 ?_
      exact rg_328_41 x0 h o l0 i0 hs
    · rw [if_neg c1] at hs
      refine aw_ifeq_f (pc1 := 11) at_328_8 c1 rfl ?_
      refine aw_vload_n (pc1 := 12) at_328_11 l0 i0 rfl ?_
      obtain ⟨v2, e3, hs1⟩ := am_bind hs
      clear hs
      refine aw_pG (pc1 := 15) at_328_12 (am_vI_s e3) rfl ?_
      by_cases c4 : 0 ≤ v2
      · rw [if_pos c4] at hs1
        refine aw_ifge_t at_328_15 c4 ?_
        exact rg_328_41 x0 h o l0 i0 hs1
      · rw [if_neg c4] at hs1
        refine aw_ifge_f (pc1 := 18) at_328_15 c4 rfl ?_
        refine aw_vload_n (pc1 := 19) at_328_18 l0 i0 rfl ?_
        obtain ⟨z5, hs2⟩ := am_ift hs1
        clear hs1
        refine aw_call (F := fm_329 x0 h) (t := true) (na := 1) (kd := 1) (as := [x0]) at_328_19 (am_k3v kb_329) mn_329 mk_329 rfl rfl (am_ok_v mi_329 (am_hl rfl (am_ccR i0 am_cats_0) rfl) z5) (am_hc am_cats_0 rfl) (fun _ => ⟨rfl, hh_328⟩) (fun o1 hz9 => rm_329 x0 h o1 i0 hz9) ?_
        rcases am_cI_s hs2 with ⟨v6, h7, f8, hs3⟩ | hs3
        · clear hs2
          refine Or.inl ⟨_, _, f8, ?_⟩
          show am_W X _ 328 22 _ [(.int v6)] h7 _
          by_cases c9 : v6 = 0
          · rw [if_pos c9] at hs3
            refine aw_ifeq_t at_328_22 c9 ?_
            exact rg_328_36 (fun z0 z1 h o hs3 => ih z0 z1 h o hs3) x0 h7 o l0 i0 hs3
          · rw [if_neg c9] at hs3
            refine aw_ifeq_f (pc1 := 25) at_328_22 c9 rfl ?_
            refine aw_vload_n (pc1 := 26) at_328_25 l0 i0 rfl ?_
            obtain ⟨z10, hs4⟩ := am_ift hs3
            clear hs3
            refine aw_call (F := fm_342 N x0 h7) (t := true) (na := 1) (kd := 1) (as := [x0]) at_328_26 (am_k3v kb_342) mn_342 mk_342 rfl rfl (am_ok_v mi_342 (am_hl rfl (am_ccR i0 am_cats_0) rfl) z10) (am_hc am_cats_0 rfl) (fun _ => ⟨rfl, hh_328⟩) (fun o1 hz9 => rm_342 x0 h7 o1 i0 hz9) ?_
            rcases am_cI_s hs4 with ⟨v11, h12, f13, hs5⟩ | hs5
            · clear hs4
              refine Or.inl ⟨_, _, f13, ?_⟩
              show am_W X _ 328 29 _ [(.int v11)] h12 _
              by_cases c14 : v11 = 0
              · rw [if_pos c14] at hs5
                refine aw_ifeq_t at_328_29 c14 ?_
                exact rg_328_36 (fun z0 z1 h o hs5 => ih z0 z1 h o hs5) x0 h12 o l0 i0 hs5
              · rw [if_neg c14] at hs5
                refine aw_ifeq_f (pc1 := 32) at_328_29 c14 rfl ?_
                refine aw_iconst (v := 1) (pc1 := 33) at_328_32 (by decide) rfl ?_
                refine aw_goto at_328_33 ?_
                exact rg_328_37 (fun z0 z1 h o hs5 => ih z0 z1 h o hs5) x0 1 h12 o l0 i0 hs5
            · clear hs4
              exact Or.inr hs5
        · clear hs2
          exact Or.inr hs3
def fg_328_0 (N : Nat) (x0 : Value) (h : am_H) : Option am_O := ((am_pP 3145 x0 (.int 0) h).bind fun h1 => (fg_328_7 N N x0 1 h1))
theorem rg_328_0 {X : am_X} {d : Nat} {N : Nat} {lv : am_LV} (x0 : Value) (h : am_H) (o : am_O) (l0 : lv.lookup 0 = some x0) (i0 : am_isR x0 = true) (hs : fg_328_0 N x0 h = some o) : am_W X (d + 5) 328 0 lv [] h (fun q => q = o) := by
  unfold fg_328_0 at hs
  refine aw_vload_n (pc1 := 1) at_328_0 l0 i0 rfl ?_
  refine aw_iconst (v := 0) (pc1 := 2) at_328_1 (by decide) rfl ?_
  obtain ⟨h1, e2, hs1⟩ := am_bind hs
  clear hs
  refine aw_pP (pc1 := 5) at_328_2 e2 rfl ?_
  refine aw_iconst (v := 1) (pc1 := 6) at_328_5 (by decide) rfl ?_
  refine aw_istore_n (lv1 := am_put1 _ 1 _) (pc1 := 7) at_328_6 rfl rfl ?_
  exact rg_328_7 N x0 1 h1 o hs1 _ (am_lk1 l0 rfl (by rw [am_isRc i0]; rfl)) am_lk0 i0
def fm_328 (N : Nat) (y0 : Value) (h : am_H) : Option am_O := fg_328_0 N y0 h
theorem rm_328 {X : am_X} {d : Nat} {N : Nat} (y0 : Value) (h : am_H) (o : am_O) (i0 : am_isR y0 = true) (hs : fm_328 N y0 h = some o) : am_W X (d + 5) 328 0 (am_args 0 [y0]) [] h (fun q => q = o) := by
  rw [am_args_R i0]
  exact rg_328_0 y0 h o rfl i0 hs
def fg_346_0 (x0 : Int32) (h : am_H) : Option am_O := (if x0 = 35 then some (.inl (some (.int 6), h)) else (if x0 = 37 then some (.inl (some (.int 11), h)) else (if x0 = 42 then some (.inl (some (.int 9), h)) else (if x0 = 43 then some (.inl (some (.int 7), h)) else (if x0 = 45 then some (.inl (some (.int 8), h)) else (if x0 = 47 then some (.inl (some (.int 10), h)) else (if x0 = 60 then some (.inl (some (.int 12), h)) else (if x0 = 61 then some (.inl (some (.int 13), h)) else (if x0 = 98 then some (.inl (some (.int 18), h)) else (if x0 = 100 then some (.inl (some (.int 14), h)) else (if x0 = 106 then some (.inl (some (.int 17), h)) else (if x0 = 110 then some (.inl (some (.int 4), h)) else (if x0 = 111 then some (.inl (some (.int 16), h)) else (if x0 = 119 then some (.inl (some (.int 15), h)) else (if x0 = 120 then some (.inl (some (.int 1), h)) else (if x0 = 121 then some (.inl (some (.int 2), h)) else (if x0 = 122 then some (.inl (some (.int 3), h)) else (if x0 = 126 then some (.inl (some (.int 5), h)) else some (.inl (some (.int (-1)), h))))))))))))))))))))
theorem rg_346_0 {X : am_X} {d : Nat} {lv : am_LV} (x0 : Int32) (h : am_H) (o : am_O) (l0 : lv.lookup 0 = some (.int x0)) (hs : fg_346_0 x0 h = some o) : am_W X (d) 346 0 lv [] h (fun q => q = o) := by
  unfold fg_346_0 at hs
  refine aw_iload_n (pc1 := 1) at_346_0 l0 rfl ?_
  by_cases c1 : x0 = 35
  · rw [if_pos c1] at hs
    refine aw_lsw (t := 166) at_346_1 (by rw [c1]; rfl) ?_
    refine aw_bipush (v := 6) (pc1 := 168) at_346_166 (by decide) rfl ?_
    cases hs
    exact aw_iret at_346_168 (by rw [rt_346]; rfl) rfl
  · rw [if_neg c1] at hs
    by_cases c2 : x0 = 37
    · rw [if_pos c2] at hs
      refine aw_lsw (t := 181) at_346_1 (by rw [c2]; rfl) ?_
      refine aw_bipush (v := 11) (pc1 := 183) at_346_181 (by decide) rfl ?_
      cases hs
      exact aw_iret at_346_183 (by rw [rt_346]; rfl) rfl
    · rw [if_neg c2] at hs
      by_cases c3 : x0 = 42
      · rw [if_pos c3] at hs
        refine aw_lsw (t := 175) at_346_1 (by rw [c3]; rfl) ?_
        refine aw_bipush (v := 9) (pc1 := 177) at_346_175 (by decide) rfl ?_
        cases hs
        exact aw_iret at_346_177 (by rw [rt_346]; rfl) rfl
      · rw [if_neg c3] at hs
        by_cases c4 : x0 = 43
        · rw [if_pos c4] at hs
          refine aw_lsw (t := 169) at_346_1 (by rw [c4]; rfl) ?_
          refine aw_bipush (v := 7) (pc1 := 171) at_346_169 (by decide) rfl ?_
          cases hs
          exact aw_iret at_346_171 (by rw [rt_346]; rfl) rfl
        · rw [if_neg c4] at hs
          by_cases c5 : x0 = 45
          · rw [if_pos c5] at hs
            refine aw_lsw (t := 172) at_346_1 (by rw [c5]; rfl) ?_
            refine aw_bipush (v := 8) (pc1 := 174) at_346_172 (by decide) rfl ?_
            cases hs
            exact aw_iret at_346_174 (by rw [rt_346]; rfl) rfl
          · rw [if_neg c5] at hs
            by_cases c6 : x0 = 47
            · rw [if_pos c6] at hs
              refine aw_lsw (t := 178) at_346_1 (by rw [c6]; rfl) ?_
              refine aw_bipush (v := 10) (pc1 := 180) at_346_178 (by decide) rfl ?_
              cases hs
              exact aw_iret at_346_180 (by rw [rt_346]; rfl) rfl
            · rw [if_neg c6] at hs
              by_cases c7 : x0 = 60
              · rw [if_pos c7] at hs
                refine aw_lsw (t := 184) at_346_1 (by rw [c7]; rfl) ?_
                refine aw_bipush (v := 12) (pc1 := 186) at_346_184 (by decide) rfl ?_
                cases hs
                exact aw_iret at_346_186 (by rw [rt_346]; rfl) rfl
              · rw [if_neg c7] at hs
                by_cases c8 : x0 = 61
                · rw [if_pos c8] at hs
                  refine aw_lsw (t := 187) at_346_1 (by rw [c8]; rfl) ?_
                  refine aw_bipush (v := 13) (pc1 := 189) at_346_187 (by decide) rfl ?_
                  cases hs
                  exact aw_iret at_346_189 (by rw [rt_346]; rfl) rfl
                · rw [if_neg c8] at hs
                  by_cases c9 : x0 = 98
                  · rw [if_pos c9] at hs
                    refine aw_lsw (t := 202) at_346_1 (by rw [c9]; rfl) ?_
                    refine aw_bipush (v := 18) (pc1 := 204) at_346_202 (by decide) rfl ?_
                    cases hs
                    exact aw_iret at_346_204 (by rw [rt_346]; rfl) rfl
                  · rw [if_neg c9] at hs
                    by_cases c10 : x0 = 100
                    · rw [if_pos c10] at hs
                      refine aw_lsw (t := 190) at_346_1 (by rw [c10]; rfl) ?_
                      refine aw_bipush (v := 14) (pc1 := 192) at_346_190 (by decide) rfl ?_
                      cases hs
                      exact aw_iret at_346_192 (by rw [rt_346]; rfl) rfl
                    · rw [if_neg c10] at hs
                      by_cases c11 : x0 = 106
                      · rw [if_pos c11] at hs
                        refine aw_lsw (t := 199) at_346_1 (by rw [c11]; rfl) ?_
                        refine aw_bipush (v := 17) (pc1 := 201) at_346_199 (by decide) rfl ?_
                        cases hs
                        exact aw_iret at_346_201 (by rw [rt_346]; rfl) rfl
                      · rw [if_neg c11] at hs
                        by_cases c12 : x0 = 110
                        · rw [if_pos c12] at hs
                          refine aw_lsw (t := 162) at_346_1 (by rw [c12]; rfl) ?_
                          refine aw_iconst (v := 4) (pc1 := 163) at_346_162 (by decide) rfl ?_
                          cases hs
                          exact aw_iret at_346_163 (by rw [rt_346]; rfl) rfl
                        · rw [if_neg c12] at hs
                          by_cases c13 : x0 = 111
                          · rw [if_pos c13] at hs
                            refine aw_lsw (t := 196) at_346_1 (by rw [c13]; rfl) ?_
                            refine aw_bipush (v := 16) (pc1 := 198) at_346_196 (by decide) rfl ?_
                            cases hs
                            exact aw_iret at_346_198 (by rw [rt_346]; rfl) rfl
                          · rw [if_neg c13] at hs
                            by_cases c14 : x0 = 119
                            · rw [if_pos c14] at hs
                              refine aw_lsw (t := 193) at_346_1 (by rw [c14]; rfl) ?_
                              refine aw_bipush (v := 15) (pc1 := 195) at_346_193 (by decide) rfl ?_
                              cases hs
                              exact aw_iret at_346_195 (by rw [rt_346]; rfl) rfl
                            · rw [if_neg c14] at hs
                              by_cases c15 : x0 = 120
                              · rw [if_pos c15] at hs
                                refine aw_lsw (t := 156) at_346_1 (by rw [c15]; rfl) ?_
                                refine aw_iconst (v := 1) (pc1 := 157) at_346_156 (by decide) rfl ?_
                                cases hs
                                exact aw_iret at_346_157 (by rw [rt_346]; rfl) rfl
                              · rw [if_neg c15] at hs
                                by_cases c16 : x0 = 121
                                · rw [if_pos c16] at hs
                                  refine aw_lsw (t := 158) at_346_1 (by rw [c16]; rfl) ?_
                                  refine aw_iconst (v := 2) (pc1 := 159) at_346_158 (by decide) rfl ?_
                                  cases hs
                                  exact aw_iret at_346_159 (by rw [rt_346]; rfl) rfl
                                · rw [if_neg c16] at hs
                                  by_cases c17 : x0 = 122
                                  · rw [if_pos c17] at hs
                                    refine aw_lsw (t := 160) at_346_1 (by rw [c17]; rfl) ?_
                                    refine aw_iconst (v := 3) (pc1 := 161) at_346_160 (by decide) rfl ?_
                                    cases hs
                                    exact aw_iret at_346_161 (by rw [rt_346]; rfl) rfl
                                  · rw [if_neg c17] at hs
                                    by_cases c18 : x0 = 126
                                    · rw [if_pos c18] at hs
                                      refine aw_lsw (t := 164) at_346_1 (by rw [c18]; rfl) ?_
                                      refine aw_iconst (v := 5) (pc1 := 165) at_346_164 (by decide) rfl ?_
                                      cases hs
                                      exact aw_iret at_346_165 (by rw [rt_346]; rfl) rfl
                                    · rw [if_neg c18] at hs
                                      refine aw_lswD (l := [(35, 165), (37, 180), (42, 174), (43, 168), (45, 171), (47, 177), (60, 183), (61, 186), (98, 201), (100, 189), (106, 198), (110, 161), (111, 195), (119, 192), (120, 155), (121, 157), (122, 159), (126, 163)]) (off := 204) (t := 205) at_346_1 rfl (by rw [lv_osw (k := 35) c1 (by decide), lv_osw (k := 37) c2 (by decide), lv_osw (k := 42) c3 (by decide), lv_osw (k := 43) c4 (by decide), lv_osw (k := 45) c5 (by decide), lv_osw (k := 47) c6 (by decide), lv_osw (k := 60) c7 (by decide), lv_osw (k := 61) c8 (by decide), lv_osw (k := 98) c9 (by decide), lv_osw (k := 100) c10 (by decide), lv_osw (k := 106) c11 (by decide), lv_osw (k := 110) c12 (by decide), lv_osw (k := 111) c13 (by decide), lv_osw (k := 119) c14 (by decide), lv_osw (k := 120) c15 (by decide), lv_osw (k := 121) c16 (by decide), lv_osw (k := 122) c17 (by decide), lv_osw (k := 126) c18 (by decide)]; rfl) rfl ?_
                                      refine aw_iconst (v := (-1)) (pc1 := 206) at_346_205 (by decide) rfl ?_
                                      cases hs
                                      exact aw_iret at_346_206 (by rw [rt_346]; rfl) rfl
def fm_346 (y0 : Int32) (h : am_H) : Option am_O := fg_346_0 y0 h
theorem rm_346 {X : am_X} {d : Nat} (y0 : Int32) (h : am_H) (o : am_O) (hs : fm_346 y0 h = some o) : am_W X (d) 346 0 (am_args 0 [.int y0]) [] h (fun q => q = o) := by
  rw [am_args_I]
  exact rg_346_0 y0 h o rfl  hs
def fg_345_154 (s0 : Value) (s1 : Int32) (s2 : Int32) (h : am_H) : Option am_O := (if am_pOk 12 s0 h then am_cV true (fm_335 s0 s1 s2 h) (fun h3 => some (.inl (some (.int 1), h3))) else none)
theorem rg_345_154 {X : am_X} {d : Nat} {lv : am_LV} (s0 : Value) (s1 : Int32) (s2 : Int32) (h : am_H) (o : am_O) (j0 : am_isR s0 = true) (hs : fg_345_154 s0 s1 s2 h = some o) : am_W X (d + 4) 345 154 lv [(.int s2), (.int s1), s0] h (fun q => q = o) := by
  unfold fg_345_154 at hs
  obtain ⟨z1, hs1⟩ := am_ift hs
  clear hs
  refine aw_call (F := fm_335 s0 s1 s2 h) (t := true) (na := 3) (kd := 1) (as := [s0, (.int s1), (.int s2)]) at_345_154 (am_k3v kb_335) mn_335 mk_335 rfl rfl (am_ok_v mi_335 (am_hl rfl (am_ccR j0 (am_ccI (am_ccI am_cats_0))) rfl) z1) (am_hc am_cats_0 rfl) (fun _ => ⟨rfl, hh_345⟩) (fun o1 hz9 => rm_335 s0 s1 s2 h o1 j0 hz9) ?_
  rcases am_cV_s hs1 with ⟨h3, f4, hs2⟩ | hs2
  · clear hs1
    refine Or.inl ⟨_, _, f4, ?_⟩
    show am_W X _ 345 157 _ [] h3 _
    refine aw_iconst (v := 1) (pc1 := 158) at_345_157 (by decide) rfl ?_
    cases hs2
    exact aw_iret at_345_158 (by rw [rt_345]; decide) rfl
  · clear hs1
    exact Or.inr hs2
def fg_345_138 (x0 : Value) (x2 : Int32) (h : am_H) : Option am_O := (if x2 ≤ 16 then (fg_345_154 x0 x2 0 h) else ((am_vI (am_pG 3144 x0 h)).bind fun v2 => (fg_345_154 x0 x2 v2 h)))
theorem rg_345_138 {X : am_X} {d : Nat} {lv : am_LV} (x0 : Value) (x2 : Int32) (h : am_H) (o : am_O) (l0 : lv.lookup 0 = some x0) (l2 : lv.lookup 2 = some (.int x2)) (i0 : am_isR x0 = true) (hs : fg_345_138 x0 x2 h = some o) : am_W X (d + 4) 345 138 lv [] h (fun q => q = o) := by
  unfold fg_345_138 at hs
  refine aw_vload_n (pc1 := 139) at_345_138 l0 i0 rfl ?_
  refine aw_iload_n (pc1 := 140) at_345_139 l2 rfl ?_
  refine aw_iload_n (pc1 := 141) at_345_140 l2 rfl ?_
  refine aw_bipush (v := 16) (pc1 := 143) at_345_141 (by decide) rfl ?_
  by_cases c1 : x2 ≤ 16
  · rw [if_pos c1] at hs
    refine aw_icle_t at_345_143 c1 ?_
    refine aw_iconst (v := 0) (pc1 := 154) at_345_153 (by decide) rfl ?_
    exact rg_345_154 x0 x2 0 h o  i0 hs
  · rw [if_neg c1] at hs
    refine aw_icle_f (pc1 := 146) at_345_143 c1 rfl ?_
    refine aw_vload_n (pc1 := 147) at_345_146 l0 i0 rfl ?_
    obtain ⟨v2, e3, hs1⟩ := am_bind hs
    clear hs
    refine aw_pG (pc1 := 150) at_345_147 (am_vI_s e3) rfl ?_
    refine aw_goto at_345_150 ?_
    exact rg_345_154 x0 x2 v2 h o  i0 hs1
def fg_345_90 (x0 : Value) (x1 : Int32) (h : am_H) : Option am_O := am_cI false (fm_346 x1 h) (fun v1 h2 => (if 0 ≤ v1 then ((am_vI (am_pG 3141 x0 h2)).bind fun v5 => ((am_pP 3141 x0 (.int (v5 + 1)) h2).bind fun h7 => ((am_pP 3144 x0 (.int 0) h7).bind fun h9 => (if v1 ≤ 16 then (fg_345_138 x0 v1 h9) else (if am_pOk 12 x0 h9 then am_cI true (fm_341 x0 h9) (fun v13 h14 => (if ¬ v13 = 0 then (fg_345_138 x0 v1 h14) else some (.inl (some (.int 0), h14)))) else none))))) else ((am_vI (am_pG 3141 x0 h2)).bind fun v17 => (if am_pOk 12 x0 h2 then am_cI true (fm_331 x0 v17 h2) (fun v20 h21 => (if am_rfit (some FieldType.boolean) v20 then some (.inl (some (.int v20), h21)) else none)) else none))))
theorem rg_345_90 {X : am_X} {d : Nat} {lv : am_LV} (x0 : Value) (x1 : Int32) (h : am_H) (o : am_O) (l0 : lv.lookup 0 = some x0) (l1 : lv.lookup 1 = some (.int x1)) (i0 : am_isR x0 = true) (hs : fg_345_90 x0 x1 h = some o) : am_W X (d + 4) 345 90 lv [] h (fun q => q = o) := by
  unfold fg_345_90 at hs
  refine aw_iload_n (pc1 := 91) at_345_90 l1 rfl ?_
  refine aw_call (F := fm_346 x1 h) (t := false) (na := 1) (kd := 0) (as := [(.int x1)]) at_345_91 (am_k3s kb_346) mn_346 mk_346 rfl rfl (am_ok_s mi_346 (am_hl rfl (am_ccI am_cats_0) rfl)) (am_hc am_cats_0 rfl) (fun hz9 => by cases hz9) (fun o1 hz9 => rm_346 x1 h o1  hz9) ?_
  rcases am_cI_s hs with ⟨v1, h2, f3, hs1⟩ | hs1
  · clear hs
    refine Or.inl ⟨_, _, f3, ?_⟩
    show am_W X _ 345 94 _ [(.int v1)] h2 _
    refine aw_istore_n (lv1 := am_put1 _ 2 _) (pc1 := 95) at_345_94 rfl rfl ?_
    refine aw_iload_n (pc1 := 96) at_345_95 am_lk0 rfl ?_
    by_cases c4 : 0 ≤ v1
    · rw [if_pos c4] at hs1
      refine aw_ifge_t at_345_96 c4 ?_
      refine aw_vload_n (pc1 := 109) at_345_108 (am_lk1 l0 rfl rfl) i0 rfl ?_
      refine aw_vdup (pc1 := 110) at_345_109 i0 rfl ?_
      obtain ⟨v5, e6, hs2⟩ := am_bind hs1
      clear hs1
      refine aw_pG (pc1 := 113) at_345_110 (am_vI_s e6) rfl ?_
      refine aw_iconst (v := 1) (pc1 := 114) at_345_113 (by decide) rfl ?_
      refine aw_iadd (v := (v5 + 1)) (pc1 := 115) at_345_114 rfl rfl ?_
      obtain ⟨h7, e8, hs3⟩ := am_bind hs2
      clear hs2
      refine aw_pP (pc1 := 118) at_345_115 e8 rfl ?_
      refine aw_vload_n (pc1 := 119) at_345_118 (am_lk1 l0 rfl rfl) i0 rfl ?_
      refine aw_iconst (v := 0) (pc1 := 120) at_345_119 (by decide) rfl ?_
      obtain ⟨h9, e10, hs4⟩ := am_bind hs3
      clear hs3
      refine aw_pP (pc1 := 123) at_345_120 e10 rfl ?_
      refine aw_iload_n (pc1 := 124) at_345_123 am_lk0 rfl ?_
      refine aw_bipush (v := 16) (pc1 := 126) at_345_124 (by decide) rfl ?_
      by_cases c11 : v1 ≤ 16
      · rw [if_pos c11] at hs4
        refine aw_icle_t at_345_126 c11 ?_
        exact rg_345_138 x0 v1 h9 o (am_lk1 l0 rfl rfl) am_lk0 i0 hs4
      · rw [if_neg c11] at hs4
        refine aw_icle_f (pc1 := 129) at_345_126 c11 rfl ?_
        refine aw_vload_n (pc1 := 130) at_345_129 (am_lk1 l0 rfl rfl) i0 rfl ?_
        obtain ⟨z12, hs5⟩ := am_ift hs4
        clear hs4
        refine aw_call (F := fm_341 x0 h9) (t := true) (na := 1) (kd := 1) (as := [x0]) at_345_130 (am_k3v kb_341) mn_341 mk_341 rfl rfl (am_ok_v mi_341 (am_hl rfl (am_ccR i0 am_cats_0) rfl) z12) (am_hc am_cats_0 rfl) (fun _ => ⟨rfl, hh_345⟩) (fun o1 hz9 => rm_341 x0 h9 o1 i0 hz9) ?_
        rcases am_cI_s hs5 with ⟨v13, h14, f15, hs6⟩ | hs6
        · clear hs5
          refine Or.inl ⟨_, _, f15, ?_⟩
          show am_W X _ 345 133 _ [(.int v13)] h14 _
          by_cases c16 : ¬ v13 = 0
          · rw [if_pos c16] at hs6
            refine aw_ifne_t at_345_133 c16 ?_
            exact rg_345_138 x0 v1 h14 o (am_lk1 l0 rfl rfl) am_lk0 i0 hs6
          · rw [if_neg c16] at hs6
            refine aw_ifne_f (pc1 := 136) at_345_133 c16 rfl ?_
            refine aw_iconst (v := 0) (pc1 := 137) at_345_136 (by decide) rfl ?_
            cases hs6
            exact aw_iret at_345_137 (by rw [rt_345]; decide) rfl
        · clear hs5
          exact Or.inr hs6
    · rw [if_neg c4] at hs1
      refine aw_ifge_f (pc1 := 99) at_345_96 c4 rfl ?_
      refine aw_vload_n (pc1 := 100) at_345_99 (am_lk1 l0 rfl rfl) i0 rfl ?_
      refine aw_vload_n (pc1 := 101) at_345_100 (am_lk1 l0 rfl rfl) i0 rfl ?_
      obtain ⟨v17, e18, hs7⟩ := am_bind hs1
      clear hs1
      refine aw_pG (pc1 := 104) at_345_101 (am_vI_s e18) rfl ?_
      obtain ⟨z19, hs8⟩ := am_ift hs7
      clear hs7
      refine aw_call (F := fm_331 x0 v17 h2) (t := true) (na := 2) (kd := 1) (as := [x0, (.int v17)]) at_345_104 (am_k3v kb_331) mn_331 mk_331 rfl rfl (am_ok_v mi_331 (am_hl rfl (am_ccR i0 (am_ccI am_cats_0)) rfl) z19) (am_hc am_cats_0 rfl) (fun _ => ⟨rfl, hh_345⟩) (fun o1 hz9 => rm_331 x0 v17 h2 o1 i0 hz9) ?_
      rcases am_cI_s hs8 with ⟨v20, h21, f22, hs9⟩ | hs9
      · clear hs8
        refine Or.inl ⟨_, _, f22, ?_⟩
        show am_W X _ 345 107 _ [(.int v20)] h21 _
        obtain ⟨z23, hs10⟩ := am_ift hs9
        clear hs9
        cases hs10
        exact aw_iret at_345_107 (by rw [rt_345]; exact z23) rfl
      · clear hs8
        exact Or.inr hs9
  · clear hs
    exact Or.inr hs1
def fg_345_70 (x0 : Value) (h : am_H) : Option am_O := (if am_pOk 12 x0 h then am_cI true (fm_340 x0 h) (fun v2 h3 => (if ¬ v2 = 0 then ((am_vI (am_pG 3144 x0 h3)).bind fun v6 => (if am_pOk 12 x0 h3 then am_cV true (fm_335 x0 0 v6 h3) (fun h10 => some (.inl (some (.int 1), h10))) else none)) else some (.inl (some (.int 0), h3)))) else none)
theorem rg_345_70 {X : am_X} {d : Nat} {lv : am_LV} (x0 : Value) (h : am_H) (o : am_O) (l0 : lv.lookup 0 = some x0) (i0 : am_isR x0 = true) (hs : fg_345_70 x0 h = some o) : am_W X (d + 4) 345 70 lv [] h (fun q => q = o) := by
  unfold fg_345_70 at hs
  refine aw_vload_n (pc1 := 71) at_345_70 l0 i0 rfl ?_
  obtain ⟨z1, hs1⟩ := am_ift hs
  clear hs
  refine aw_call (F := fm_340 x0 h) (t := true) (na := 1) (kd := 1) (as := [x0]) at_345_71 (am_k3v kb_340) mn_340 mk_340 rfl rfl (am_ok_v mi_340 (am_hl rfl (am_ccR i0 am_cats_0) rfl) z1) (am_hc am_cats_0 rfl) (fun _ => ⟨rfl, hh_345⟩) (fun o1 hz9 => rm_340 x0 h o1 i0 hz9) ?_
  rcases am_cI_s hs1 with ⟨v2, h3, f4, hs2⟩ | hs2
  · clear hs1
    refine Or.inl ⟨_, _, f4, ?_⟩
    show am_W X _ 345 74 _ [(.int v2)] h3 _
    by_cases c5 : ¬ v2 = 0
    · rw [if_pos c5] at hs2
      refine aw_ifne_t at_345_74 c5 ?_
      refine aw_vload_n (pc1 := 80) at_345_79 l0 i0 rfl ?_
      refine aw_iconst (v := 0) (pc1 := 81) at_345_80 (by decide) rfl ?_
      refine aw_vload_n (pc1 := 82) at_345_81 l0 i0 rfl ?_
      obtain ⟨v6, e7, hs3⟩ := am_bind hs2
      clear hs2
      refine aw_pG (pc1 := 85) at_345_82 (am_vI_s e7) rfl ?_
      obtain ⟨z8, hs4⟩ := am_ift hs3
      clear hs3
      refine aw_call (F := fm_335 x0 0 v6 h3) (t := true) (na := 3) (kd := 1) (as := [x0, (.int 0), (.int v6)]) at_345_85 (am_k3v kb_335) mn_335 mk_335 rfl rfl (am_ok_v mi_335 (am_hl rfl (am_ccR i0 (am_ccI (am_ccI am_cats_0))) rfl) z8) (am_hc am_cats_0 rfl) (fun _ => ⟨rfl, hh_345⟩) (fun o1 hz9 => rm_335 x0 0 v6 h3 o1 i0 hz9) ?_
      rcases am_cV_s hs4 with ⟨h10, f11, hs5⟩ | hs5
      · clear hs4
        refine Or.inl ⟨_, _, f11, ?_⟩
        show am_W X _ 345 88 _ [] h10 _
        refine aw_iconst (v := 1) (pc1 := 89) at_345_88 (by decide) rfl ?_
        cases hs5
        exact aw_iret at_345_89 (by rw [rt_345]; decide) rfl
      · clear hs4
        exact Or.inr hs5
    · rw [if_neg c5] at hs2
      refine aw_ifne_f (pc1 := 77) at_345_74 c5 rfl ?_
      refine aw_iconst (v := 0) (pc1 := 78) at_345_77 (by decide) rfl ?_
      cases hs2
      exact aw_iret at_345_78 (by rw [rt_345]; decide) rfl
  · clear hs1
    exact Or.inr hs2
def fg_345_0 (x0 : Value) (h : am_H) : Option am_O := ((am_vI (am_pG 3086 x0 h)).bind fun v1 => (if ¬ v1 = 60 then ((am_vR (am_pG 3143 x0 h)).bind fun v4 => ((am_vI (am_pG 3086 x0 h)).bind fun v6 => ((am_vI (am_pG 3141 x0 h)).bind fun v8 => ((am_pS 0 v4 v6 v8 h).bind fun h10 => ((am_vI (am_pG 3141 x0 h10)).bind fun v12 => (if am_pOk 12 x0 h10 then am_cI true (fm_332 x0 v12 h10) (fun v15 h16 => ((am_vI (am_pG 3141 x0 h16)).bind fun v18 => (if am_pOk 12 x0 h16 then am_cI true (fm_339 x0 v18 h16) (fun v21 h22 => (if ¬ v21 = 0 then (fg_345_70 x0 h22) else (if ¬ v15 = 45 then (fg_345_90 x0 v15 h22) else ((am_vI (am_pG 3141 x0 h22)).bind fun v26 => (if am_pOk 12 x0 h22 then am_cI true (fm_339 x0 ((v26 + 1)) h22) (fun v29 h30 => (if v29 = 0 then (fg_345_90 x0 v15 h30) else (fg_345_70 x0 h30))) else none))))) else none))) else none)))))) else ((am_vI (am_pG 3141 x0 h)).bind fun v33 => (if am_pOk 12 x0 h then am_cI true (fm_331 x0 v33 h) (fun v36 h37 => (if am_rfit (some FieldType.boolean) v36 then some (.inl (some (.int v36), h37)) else none)) else none))))
theorem rg_345_0 {X : am_X} {d : Nat} {lv : am_LV} (x0 : Value) (h : am_H) (o : am_O) (l0 : lv.lookup 0 = some x0) (i0 : am_isR x0 = true) (hs : fg_345_0 x0 h = some o) : am_W X (d + 4) 345 0 lv [] h (fun q => q = o) := by
  unfold fg_345_0 at hs
  refine aw_vload_n (pc1 := 1) at_345_0 l0 i0 rfl ?_
  obtain ⟨v1, e2, hs1⟩ := am_bind hs
  clear hs
  refine aw_pG (pc1 := 4) at_345_1 (am_vI_s e2) rfl ?_
  refine aw_bipush (v := 60) (pc1 := 6) at_345_4 (by decide) rfl ?_
  by_cases c3 : ¬ v1 = 60
  · rw [if_pos c3] at hs1
    refine aw_icne_t at_345_6 c3 ?_
    refine aw_vload_n (pc1 := 19) at_345_18 l0 i0 rfl ?_
    obtain ⟨v4, e5, hs2⟩ := am_bind hs1
    clear hs1
    refine aw_pG (pc1 := 22) at_345_19 (am_vR_s e5).1 rfl ?_
    refine aw_vload_n (pc1 := 23) at_345_22 l0 i0 rfl ?_
    obtain ⟨v6, e7, hs3⟩ := am_bind hs2
    clear hs2
    refine aw_pG (pc1 := 26) at_345_23 (am_vI_s e7) rfl ?_
    refine aw_vload_n (pc1 := 27) at_345_26 l0 i0 rfl ?_
    obtain ⟨v8, e9, hs4⟩ := am_bind hs3
    clear hs3
    refine aw_pG (pc1 := 30) at_345_27 (am_vI_s e9) rfl ?_
    obtain ⟨h10, e11, hs5⟩ := am_bind hs4
    clear hs4
    refine aw_pS (pc1 := 31) at_345_30 (Or.inl ⟨rfl, rfl⟩) e11 rfl ?_
    refine aw_vload_n (pc1 := 32) at_345_31 l0 i0 rfl ?_
    refine aw_vload_n (pc1 := 33) at_345_32 l0 i0 rfl ?_
    obtain ⟨v12, e13, hs6⟩ := am_bind hs5
    clear hs5
    refine aw_pG (pc1 := 36) at_345_33 (am_vI_s e13) rfl ?_
    obtain ⟨z14, hs7⟩ := am_ift hs6
    clear hs6
    refine aw_call (F := fm_332 x0 v12 h10) (t := true) (na := 2) (kd := 1) (as := [x0, (.int v12)]) at_345_36 (am_k3v kb_332) mn_332 mk_332 rfl rfl (am_ok_v mi_332 (am_hl rfl (am_ccR i0 (am_ccI am_cats_0)) rfl) z14) (am_hc am_cats_0 rfl) (fun _ => ⟨rfl, hh_345⟩) (fun o1 hz9 => rm_332 x0 v12 h10 o1 i0 hz9) ?_
    rcases am_cI_s hs7 with ⟨v15, h16, f17, hs8⟩ | hs8
    · clear hs7
      refine Or.inl ⟨_, _, f17, ?_⟩
      show am_W X _ 345 39 _ [(.int v15)] h16 _
      refine aw_istore_n (lv1 := am_put1 _ 1 _) (pc1 := 40) at_345_39 rfl rfl ?_
      refine aw_vload_n (pc1 := 41) at_345_40 (am_lk1 l0 rfl (by rw [am_isRc i0]; rfl)) i0 rfl ?_
      refine aw_vload_n (pc1 := 42) at_345_41 (am_lk1 l0 rfl (by rw [am_isRc i0]; rfl)) i0 rfl ?_
      obtain ⟨v18, e19, hs9⟩ := am_bind hs8
      clear hs8
      refine aw_pG (pc1 := 45) at_345_42 (am_vI_s e19) rfl ?_
      obtain ⟨z20, hs10⟩ := am_ift hs9
      clear hs9
      refine aw_call (F := fm_339 x0 v18 h16) (t := true) (na := 2) (kd := 1) (as := [x0, (.int v18)]) at_345_45 (am_k3v kb_339) mn_339 mk_339 rfl rfl (am_ok_v mi_339 (am_hl rfl (am_ccR i0 (am_ccI am_cats_0)) rfl) z20) (am_hc am_cats_0 rfl) (fun _ => ⟨rfl, hh_345⟩) (fun o1 hz9 => rm_339 x0 v18 h16 o1 i0 hz9) ?_
      rcases am_cI_s hs10 with ⟨v21, h22, f23, hs11⟩ | hs11
      · clear hs10
        refine Or.inl ⟨_, _, f23, ?_⟩
        show am_W X _ 345 48 _ [(.int v21)] h22 _
        by_cases c24 : ¬ v21 = 0
        · rw [if_pos c24] at hs11
          refine aw_ifne_t at_345_48 c24 ?_
          exact rg_345_70 x0 h22 o (am_lk1 l0 rfl (by rw [am_isRc i0]; rfl)) i0 hs11
        · rw [if_neg c24] at hs11
          refine aw_ifne_f (pc1 := 51) at_345_48 c24 rfl ?_
          refine aw_iload_n (pc1 := 52) at_345_51 am_lk0 rfl ?_
          refine aw_bipush (v := 45) (pc1 := 54) at_345_52 (by decide) rfl ?_
          by_cases c25 : ¬ v15 = 45
          · rw [if_pos c25] at hs11
            refine aw_icne_t at_345_54 c25 ?_
            exact rg_345_90 x0 v15 h22 o (am_lk1 l0 rfl (by rw [am_isRc i0]; rfl)) am_lk0 i0 hs11
          · rw [if_neg c25] at hs11
            refine aw_icne_f (pc1 := 57) at_345_54 c25 rfl ?_
            refine aw_vload_n (pc1 := 58) at_345_57 (am_lk1 l0 rfl (by rw [am_isRc i0]; rfl)) i0 rfl ?_
            refine aw_vload_n (pc1 := 59) at_345_58 (am_lk1 l0 rfl (by rw [am_isRc i0]; rfl)) i0 rfl ?_
            obtain ⟨v26, e27, hs12⟩ := am_bind hs11
            clear hs11
            refine aw_pG (pc1 := 62) at_345_59 (am_vI_s e27) rfl ?_
            refine aw_iconst (v := 1) (pc1 := 63) at_345_62 (by decide) rfl ?_
            refine aw_iadd (v := (v26 + 1)) (pc1 := 64) at_345_63 rfl rfl ?_
            obtain ⟨z28, hs13⟩ := am_ift hs12
            clear hs12
            refine aw_call (F := fm_339 x0 ((v26 + 1)) h22) (t := true) (na := 2) (kd := 1) (as := [x0, (.int (v26 + 1))]) at_345_64 (am_k3v kb_339) mn_339 mk_339 rfl rfl (am_ok_v mi_339 (am_hl rfl (am_ccR i0 (am_ccI am_cats_0)) rfl) z28) (am_hc am_cats_0 rfl) (fun _ => ⟨rfl, hh_345⟩) (fun o1 hz9 => rm_339 x0 ((v26 + 1)) h22 o1 i0 hz9) ?_
            rcases am_cI_s hs13 with ⟨v29, h30, f31, hs14⟩ | hs14
            · clear hs13
              refine Or.inl ⟨_, _, f31, ?_⟩
              show am_W X _ 345 67 _ [(.int v29)] h30 _
              by_cases c32 : v29 = 0
              · rw [if_pos c32] at hs14
                refine aw_ifeq_t at_345_67 c32 ?_
                exact rg_345_90 x0 v15 h30 o (am_lk1 l0 rfl (by rw [am_isRc i0]; rfl)) am_lk0 i0 hs14
              · rw [if_neg c32] at hs14
                refine aw_ifeq_f (pc1 := 70) at_345_67 c32 rfl ?_
                exact rg_345_70 x0 h30 o (am_lk1 l0 rfl (by rw [am_isRc i0]; rfl)) i0 hs14
            · clear hs13
              exact Or.inr hs14
      · clear hs10
        exact Or.inr hs11
    · clear hs7
      exact Or.inr hs8
  · rw [if_neg c3] at hs1
    refine aw_icne_f (pc1 := 9) at_345_6 c3 rfl ?_
    refine aw_vload_n (pc1 := 10) at_345_9 l0 i0 rfl ?_
    refine aw_vload_n (pc1 := 11) at_345_10 l0 i0 rfl ?_
    obtain ⟨v33, e34, hs15⟩ := am_bind hs1
    clear hs1
    refine aw_pG (pc1 := 14) at_345_11 (am_vI_s e34) rfl ?_
    obtain ⟨z35, hs16⟩ := am_ift hs15
    clear hs15
    refine aw_call (F := fm_331 x0 v33 h) (t := true) (na := 2) (kd := 1) (as := [x0, (.int v33)]) at_345_14 (am_k3v kb_331) mn_331 mk_331 rfl rfl (am_ok_v mi_331 (am_hl rfl (am_ccR i0 (am_ccI am_cats_0)) rfl) z35) (am_hc am_cats_0 rfl) (fun _ => ⟨rfl, hh_345⟩) (fun o1 hz9 => rm_331 x0 v33 h o1 i0 hz9) ?_
    rcases am_cI_s hs16 with ⟨v36, h37, f38, hs17⟩ | hs17
    · clear hs16
      refine Or.inl ⟨_, _, f38, ?_⟩
      show am_W X _ 345 17 _ [(.int v36)] h37 _
      obtain ⟨z39, hs18⟩ := am_ift hs17
      clear hs17
      cases hs18
      exact aw_iret at_345_17 (by rw [rt_345]; exact z39) rfl
    · clear hs16
      exact Or.inr hs17
def fm_345 (y0 : Value) (h : am_H) : Option am_O := fg_345_0 y0 h
theorem rm_345 {X : am_X} {d : Nat} (y0 : Value) (h : am_H) (o : am_O) (i0 : am_isR y0 = true) (hs : fm_345 y0 h = some o) : am_W X (d + 4) 345 0 (am_args 0 [y0]) [] h (fun q => q = o) := by
  rw [am_args_R i0]
  exact rg_345_0 y0 h o rfl i0 hs
def fg_348_50 (s0 : Int32) (h : am_H) : Option am_O := some (.inl (some (.int s0), h))
theorem rg_348_50 {X : am_X} {d : Nat} {lv : am_LV} (s0 : Int32) (h : am_H) (o : am_O) (hs : fg_348_50 s0 h = some o) : am_W X (d) 348 50 lv [(.int s0)] h (fun q => q = o) := by
  unfold fg_348_50 at hs
  cases hs
  exact aw_iret at_348_50 (by rw [rt_348]; rfl) rfl
def fg_348_0 (x0 : Int32) (h : am_H) : Option am_O := (if 5 ≤ x0 then (if 7 ≤ x0 then (if 14 ≤ x0 then (if ¬ x0 = 15 then (if ¬ x0 = 17 then (fg_348_50 1 h) else (fg_348_50 0 h)) else (fg_348_50 2 h)) else (fg_348_50 2 h)) else (fg_348_50 1 h)) else (fg_348_50 0 h))
theorem rg_348_0 {X : am_X} {d : Nat} {lv : am_LV} (x0 : Int32) (h : am_H) (o : am_O) (l0 : lv.lookup 0 = some (.int x0)) (hs : fg_348_0 x0 h = some o) : am_W X (d) 348 0 lv [] h (fun q => q = o) := by
  unfold fg_348_0 at hs
  refine aw_iload_n (pc1 := 1) at_348_0 l0 rfl ?_
  refine aw_iconst (v := 5) (pc1 := 2) at_348_1 (by decide) rfl ?_
  by_cases c1 : 5 ≤ x0
  · rw [if_pos c1] at hs
    refine aw_icge_t at_348_2 c1 ?_
    refine aw_iload_n (pc1 := 10) at_348_9 l0 rfl ?_
    refine aw_bipush (v := 7) (pc1 := 12) at_348_10 (by decide) rfl ?_
    by_cases c2 : 7 ≤ x0
    · rw [if_pos c2] at hs
      refine aw_icge_t at_348_12 c2 ?_
      refine aw_iload_n (pc1 := 20) at_348_19 l0 rfl ?_
      refine aw_bipush (v := 14) (pc1 := 22) at_348_20 (by decide) rfl ?_
      by_cases c3 : 14 ≤ x0
      · rw [if_pos c3] at hs
        refine aw_icge_t at_348_22 c3 ?_
        refine aw_iload_n (pc1 := 30) at_348_29 l0 rfl ?_
        refine aw_bipush (v := 15) (pc1 := 32) at_348_30 (by decide) rfl ?_
        by_cases c4 : ¬ x0 = 15
        · rw [if_pos c4] at hs
          refine aw_icne_t at_348_32 c4 ?_
          refine aw_iload_n (pc1 := 40) at_348_39 l0 rfl ?_
          refine aw_bipush (v := 17) (pc1 := 42) at_348_40 (by decide) rfl ?_
          by_cases c5 : ¬ x0 = 17
          · rw [if_pos c5] at hs
            refine aw_icne_t at_348_42 c5 ?_
            refine aw_iconst (v := 1) (pc1 := 50) at_348_49 (by decide) rfl ?_
            exact rg_348_50 1 h o   hs
          · rw [if_neg c5] at hs
            refine aw_icne_f (pc1 := 45) at_348_42 c5 rfl ?_
            refine aw_iconst (v := 0) (pc1 := 46) at_348_45 (by decide) rfl ?_
            refine aw_goto at_348_46 ?_
            exact rg_348_50 0 h o   hs
        · rw [if_neg c4] at hs
          refine aw_icne_f (pc1 := 35) at_348_32 c4 rfl ?_
          refine aw_iconst (v := 2) (pc1 := 36) at_348_35 (by decide) rfl ?_
          refine aw_goto at_348_36 ?_
          exact rg_348_50 2 h o   hs
      · rw [if_neg c3] at hs
        refine aw_icge_f (pc1 := 25) at_348_22 c3 rfl ?_
        refine aw_iconst (v := 2) (pc1 := 26) at_348_25 (by decide) rfl ?_
        refine aw_goto at_348_26 ?_
        exact rg_348_50 2 h o   hs
    · rw [if_neg c2] at hs
      refine aw_icge_f (pc1 := 15) at_348_12 c2 rfl ?_
      refine aw_iconst (v := 1) (pc1 := 16) at_348_15 (by decide) rfl ?_
      refine aw_goto at_348_16 ?_
      exact rg_348_50 1 h o   hs
  · rw [if_neg c1] at hs
    refine aw_icge_f (pc1 := 5) at_348_2 c1 rfl ?_
    refine aw_iconst (v := 0) (pc1 := 6) at_348_5 (by decide) rfl ?_
    refine aw_goto at_348_6 ?_
    exact rg_348_50 0 h o   hs
def fm_348 (y0 : Int32) (h : am_H) : Option am_O := fg_348_0 y0 h
theorem rm_348 {X : am_X} {d : Nat} (y0 : Int32) (h : am_H) (o : am_O) (hs : fm_348 y0 h = some o) : am_W X (d) 348 0 (am_args 0 [.int y0]) [] h (fun q => q = o) := by
  rw [am_args_I]
  exact rg_348_0 y0 h o rfl  hs
def fg_349_21 (s0 : Int32) (h : am_H) : Option am_O := some (.inl (some (.int s0), h))
theorem rg_349_21 {X : am_X} {d : Nat} {lv : am_LV} (s0 : Int32) (h : am_H) (o : am_O) (hs : fg_349_21 s0 h = some o) : am_W X (d) 349 21 lv [(.int s0)] h (fun q => q = o) := by
  unfold fg_349_21 at hs
  cases hs
  exact aw_iret at_349_21 (by rw [rt_349]; rfl) rfl
def fg_349_0 (x0 : Int32) (h : am_H) : Option am_O := (if 14 ≤ x0 then (if 16 ≤ x0 then (fg_349_21 0 h) else (fg_349_21 2 h)) else (fg_349_21 1 h))
theorem rg_349_0 {X : am_X} {d : Nat} {lv : am_LV} (x0 : Int32) (h : am_H) (o : am_O) (l0 : lv.lookup 0 = some (.int x0)) (hs : fg_349_0 x0 h = some o) : am_W X (d) 349 0 lv [] h (fun q => q = o) := by
  unfold fg_349_0 at hs
  refine aw_iload_n (pc1 := 1) at_349_0 l0 rfl ?_
  refine aw_bipush (v := 14) (pc1 := 3) at_349_1 (by decide) rfl ?_
  by_cases c1 : 14 ≤ x0
  · rw [if_pos c1] at hs
    refine aw_icge_t at_349_3 c1 ?_
    refine aw_iload_n (pc1 := 11) at_349_10 l0 rfl ?_
    refine aw_bipush (v := 16) (pc1 := 13) at_349_11 (by decide) rfl ?_
    by_cases c2 : 16 ≤ x0
    · rw [if_pos c2] at hs
      refine aw_icge_t at_349_13 c2 ?_
      refine aw_iconst (v := 0) (pc1 := 21) at_349_20 (by decide) rfl ?_
      exact rg_349_21 0 h o   hs
    · rw [if_neg c2] at hs
      refine aw_icge_f (pc1 := 16) at_349_13 c2 rfl ?_
      refine aw_iconst (v := 2) (pc1 := 17) at_349_16 (by decide) rfl ?_
      refine aw_goto at_349_17 ?_
      exact rg_349_21 2 h o   hs
  · rw [if_neg c1] at hs
    refine aw_icge_f (pc1 := 6) at_349_3 c1 rfl ?_
    refine aw_iconst (v := 1) (pc1 := 7) at_349_6 (by decide) rfl ?_
    refine aw_goto at_349_7 ?_
    exact rg_349_21 1 h o   hs
def fm_349 (y0 : Int32) (h : am_H) : Option am_O := fg_349_0 y0 h
theorem rm_349 {X : am_X} {d : Nat} (y0 : Int32) (h : am_H) (o : am_O) (hs : fm_349 y0 h = some o) : am_W X (d) 349 0 (am_args 0 [.int y0]) [] h (fun q => q = o) := by
  rw [am_args_I]
  exact rg_349_0 y0 h o rfl  hs
def fg_350_55 (s0 : Int32) (h : am_H) : Option am_O := (if am_rfit (some FieldType.boolean) s0 then some (.inl (some (.int s0), h)) else none)
theorem rg_350_55 {X : am_X} {d : Nat} {lv : am_LV} (s0 : Int32) (h : am_H) (o : am_O) (hs : fg_350_55 s0 h = some o) : am_W X (d) 350 55 lv [(.int s0)] h (fun q => q = o) := by
  unfold fg_350_55 at hs
  obtain ⟨z1, hs1⟩ := am_ift hs
  clear hs
  cases hs1
  exact aw_iret at_350_55 (by rw [rt_350]; exact z1) rfl
def fg_350_40 (x0 : Value) (x1 : Int32) (x2 : Int32) (h : am_H) : Option am_O := ((am_vR (am_pG 3119 x0 h)).bind fun v1 => ((am_pA 0 v1 x1 h).bind fun v3 => (if ¬ v3 = x2 then (fg_350_55 0 h) else (fg_350_55 1 h))))
theorem rg_350_40 {X : am_X} {d : Nat} {lv : am_LV} (x0 : Value) (x1 : Int32) (x2 : Int32) (h : am_H) (o : am_O) (l0 : lv.lookup 0 = some x0) (l1 : lv.lookup 1 = some (.int x1)) (l2 : lv.lookup 2 = some (.int x2)) (i0 : am_isR x0 = true) (hs : fg_350_40 x0 x1 x2 h = some o) : am_W X (d) 350 40 lv [] h (fun q => q = o) := by
  unfold fg_350_40 at hs
  refine aw_vload_n (pc1 := 41) at_350_40 l0 i0 rfl ?_
  obtain ⟨v1, e2, hs1⟩ := am_bind hs
  clear hs
  refine aw_pG (pc1 := 44) at_350_41 (am_vR_s e2).1 rfl ?_
  refine aw_iload_n (pc1 := 45) at_350_44 l1 rfl ?_
  obtain ⟨v3, e4, hs2⟩ := am_bind hs1
  clear hs1
  refine aw_pA (pc1 := 46) at_350_45 (Or.inl ⟨rfl, rfl⟩) e4 rfl ?_
  refine aw_iload_n (pc1 := 47) at_350_46 l2 rfl ?_
  by_cases c5 : ¬ v3 = x2
  · rw [if_pos c5] at hs2
    refine aw_icne_t at_350_47 c5 ?_
    refine aw_iconst (v := 0) (pc1 := 55) at_350_54 (by decide) rfl ?_
    exact rg_350_55 0 h o   hs2
  · rw [if_neg c5] at hs2
    refine aw_icne_f (pc1 := 50) at_350_47 c5 rfl ?_
    refine aw_iconst (v := 1) (pc1 := 51) at_350_50 (by decide) rfl ?_
    refine aw_goto at_350_51 ?_
    exact rg_350_55 1 h o   hs2
def fg_350_23 (x0 : Value) (x1 : Int32) (x2 : Int32) (h : am_H) : Option am_O := ((am_vR (am_pG 3119 x0 h)).bind fun v1 => ((am_pA 0 v1 x1 h).bind fun v3 => (if ¬ v3 = (-1) then (fg_350_40 x0 x1 x2 h) else ((am_vR (am_pG 3119 x0 h)).bind fun v6 => ((am_pS 0 v6 x1 x2 h).bind fun h8 => (fg_350_40 x0 x1 x2 h8))))))
theorem rg_350_23 {X : am_X} {d : Nat} {lv : am_LV} (x0 : Value) (x1 : Int32) (x2 : Int32) (h : am_H) (o : am_O) (l0 : lv.lookup 0 = some x0) (l1 : lv.lookup 1 = some (.int x1)) (l2 : lv.lookup 2 = some (.int x2)) (i0 : am_isR x0 = true) (hs : fg_350_23 x0 x1 x2 h = some o) : am_W X (d) 350 23 lv [] h (fun q => q = o) := by
  unfold fg_350_23 at hs
  refine aw_vload_n (pc1 := 24) at_350_23 l0 i0 rfl ?_
  obtain ⟨v1, e2, hs1⟩ := am_bind hs
  clear hs
  refine aw_pG (pc1 := 27) at_350_24 (am_vR_s e2).1 rfl ?_
  refine aw_iload_n (pc1 := 28) at_350_27 l1 rfl ?_
  obtain ⟨v3, e4, hs2⟩ := am_bind hs1
  clear hs1
  refine aw_pA (pc1 := 29) at_350_28 (Or.inl ⟨rfl, rfl⟩) e4 rfl ?_
  refine aw_iconst (v := (-1)) (pc1 := 30) at_350_29 (by decide) rfl ?_
  by_cases c5 : ¬ v3 = (-1)
  · rw [if_pos c5] at hs2
    refine aw_icne_t at_350_30 c5 ?_
    exact rg_350_40 x0 x1 x2 h o l0 l1 l2 i0 hs2
  · rw [if_neg c5] at hs2
    refine aw_icne_f (pc1 := 33) at_350_30 c5 rfl ?_
    refine aw_vload_n (pc1 := 34) at_350_33 l0 i0 rfl ?_
    obtain ⟨v6, e7, hs3⟩ := am_bind hs2
    clear hs2
    refine aw_pG (pc1 := 37) at_350_34 (am_vR_s e7).1 rfl ?_
    refine aw_iload_n (pc1 := 38) at_350_37 l1 rfl ?_
    refine aw_iload_n (pc1 := 39) at_350_38 l2 rfl ?_
    obtain ⟨h8, e9, hs4⟩ := am_bind hs3
    clear hs3
    refine aw_pS (pc1 := 40) at_350_39 (Or.inl ⟨rfl, rfl⟩) e9 rfl ?_
    exact rg_350_40 x0 x1 x2 h8 o l0 l1 l2 i0 hs4
def fg_350_21 (h : am_H) : Option am_O := some (.inl (some (.int 0), h))
theorem rg_350_21 {X : am_X} {d : Nat} {lv : am_LV} (h : am_H) (o : am_O) (hs : fg_350_21 h = some o) : am_W X (d) 350 21 lv [] h (fun q => q = o) := by
  unfold fg_350_21 at hs
  refine aw_iconst (v := 0) (pc1 := 22) at_350_21 (by decide) rfl ?_
  cases hs
  exact aw_iret at_350_22 (by rw [rt_350]; decide) rfl
def fg_350_0 (x0 : Value) (x1 : Int32) (x2 : Int32) (h : am_H) : Option am_O := ((am_vI (am_pG 3086 x0 h)).bind fun v1 => (if v1 < x1 then (fg_350_21 h) else ((am_vI (am_pG 3086 x0 h)).bind fun v4 => (if ¬ x1 = v4 then (fg_350_23 x0 x1 x2 h) else (if x2 = 1 then (fg_350_23 x0 x1 x2 h) else (fg_350_21 h))))))
theorem rg_350_0 {X : am_X} {d : Nat} {lv : am_LV} (x0 : Value) (x1 : Int32) (x2 : Int32) (h : am_H) (o : am_O) (l0 : lv.lookup 0 = some x0) (l1 : lv.lookup 1 = some (.int x1)) (l2 : lv.lookup 2 = some (.int x2)) (i0 : am_isR x0 = true) (hs : fg_350_0 x0 x1 x2 h = some o) : am_W X (d) 350 0 lv [] h (fun q => q = o) := by
  unfold fg_350_0 at hs
  refine aw_iload_n (pc1 := 1) at_350_0 l1 rfl ?_
  refine aw_vload_n (pc1 := 2) at_350_1 l0 i0 rfl ?_
  obtain ⟨v1, e2, hs1⟩ := am_bind hs
  clear hs
  refine aw_pG (pc1 := 5) at_350_2 (am_vI_s e2) rfl ?_
  by_cases c3 : v1 < x1
  · rw [if_pos c3] at hs1
    refine aw_icgt_t at_350_5 c3 ?_
    exact rg_350_21 h o   hs1
  · rw [if_neg c3] at hs1
    refine aw_icgt_f (pc1 := 8) at_350_5 c3 rfl ?_
    refine aw_iload_n (pc1 := 9) at_350_8 l1 rfl ?_
    refine aw_vload_n (pc1 := 10) at_350_9 l0 i0 rfl ?_
    obtain ⟨v4, e5, hs2⟩ := am_bind hs1
    clear hs1
    refine aw_pG (pc1 := 13) at_350_10 (am_vI_s e5) rfl ?_
    by_cases c6 : ¬ x1 = v4
    · rw [if_pos c6] at hs2
      refine aw_icne_t at_350_13 c6 ?_
      exact rg_350_23 x0 x1 x2 h o l0 l1 l2 i0 hs2
    · rw [if_neg c6] at hs2
      refine aw_icne_f (pc1 := 16) at_350_13 c6 rfl ?_
      refine aw_iload_n (pc1 := 17) at_350_16 l2 rfl ?_
      refine aw_iconst (v := 1) (pc1 := 18) at_350_17 (by decide) rfl ?_
      by_cases c7 : x2 = 1
      · rw [if_pos c7] at hs2
        refine aw_iceq_t at_350_18 c7 ?_
        exact rg_350_23 x0 x1 x2 h o l0 l1 l2 i0 hs2
      · rw [if_neg c7] at hs2
        refine aw_iceq_f (pc1 := 21) at_350_18 c7 rfl ?_
        exact rg_350_21 h o   hs2
def fm_350 (y0 : Value) (y1 : Int32) (y2 : Int32) (h : am_H) : Option am_O := fg_350_0 y0 y1 y2 h
theorem rm_350 {X : am_X} {d : Nat} (y0 : Value) (y1 : Int32) (y2 : Int32) (h : am_H) (o : am_O) (i0 : am_isR y0 = true) (hs : fm_350 y0 y1 y2 h = some o) : am_W X (d) 350 0 (am_args 0 [y0, .int y1, .int y2]) [] h (fun q => q = o) := by
  rw [am_args_R i0, am_args_I, am_args_I]
  exact rg_350_0 y0 y1 y2 h o rfl rfl rfl i0 hs
def fg_347_147 (N : Nat) (rec_32 : Value → Int32 → am_H → Option am_O) (x0 : Value) (x1 : Int32) (h : am_H) : Option am_O := (rec_32 x0 ((x1 + 1)) h)
theorem rg_347_147 {X : am_X} {d : Nat} {N : Nat} {rec_32 : Value → Int32 → am_H → Option am_O} (q_32 : ∀ (x0 : Value) (x1 : Int32) (h : am_H) (o : am_O), rec_32 x0 x1 h = some o → ∀ lv : am_LV, (lv.lookup 0 = some x0) → (lv.lookup 1 = some (.int x1)) → (am_isR x0 = true) → am_W X (d + 1) 347 32 lv [] h (fun q => q = o)) {lv : am_LV} (x0 : Value) (x1 : Int32) (h : am_H) (o : am_O) (l0 : lv.lookup 0 = some x0) (l1 : lv.lookup 1 = some (.int x1)) (i0 : am_isR x0 = true) (hs : fg_347_147 N rec_32 x0 x1 h = some o) : am_W X (d + 1) 347 147 lv [] h (fun q => q = o) := by
  unfold fg_347_147 at hs
  refine aw_iinc (v := (x1 + 1)) (c := 1) (lv1 := am_put1 _ 1 _) (pc1 := 150) at_347_147 l1 (by decide) rfl rfl rfl ?_
  refine aw_goto at_347_150 ?_
  exact q_32 x0 ((x1 + 1)) h o hs _ (am_lk1 l0 rfl (by rw [am_isRc i0]; rfl)) am_lk0 i0
def fg_347_116 (N : Nat) (rec_32 : Value → Int32 → am_H → Option am_O) (x0 : Value) (x1 : Int32) (x2 : Int32) (h : am_H) : Option am_O := ((am_vR (am_pG 3088 x0 h)).bind fun v1 => ((am_pA 0 v1 x1 h).bind fun v3 => (if v3 ≤ 16 then (fg_347_147 N rec_32 x0 x1 h) else ((am_vR (am_pG 3089 x0 h)).bind fun v6 => ((am_pA 0 v6 x1 h).bind fun v8 => (if am_pOk 12 x0 h then am_cI true (fm_350 x0 (((x1 + 1) + v8)) x2 h) (fun v11 h12 => (if ¬ v11 = 0 then (fg_347_147 N rec_32 x0 x1 h12) else some (.inl (some (.int x1), h12)))) else none))))))
theorem rg_347_116 {X : am_X} {d : Nat} {N : Nat} {rec_32 : Value → Int32 → am_H → Option am_O} (q_32 : ∀ (x0 : Value) (x1 : Int32) (h : am_H) (o : am_O), rec_32 x0 x1 h = some o → ∀ lv : am_LV, (lv.lookup 0 = some x0) → (lv.lookup 1 = some (.int x1)) → (am_isR x0 = true) → am_W X (d + 1) 347 32 lv [] h (fun q => q = o)) {lv : am_LV} (x0 : Value) (x1 : Int32) (x2 : Int32) (h : am_H) (o : am_O) (l0 : lv.lookup 0 = some x0) (l1 : lv.lookup 1 = some (.int x1)) (l2 : lv.lookup 2 = some (.int x2)) (i0 : am_isR x0 = true) (hs : fg_347_116 N rec_32 x0 x1 x2 h = some o) : am_W X (d + 1) 347 116 lv [] h (fun q => q = o) := by
  unfold fg_347_116 at hs
  refine aw_vload_n (pc1 := 117) at_347_116 l0 i0 rfl ?_
  obtain ⟨v1, e2, hs1⟩ := am_bind hs
  clear hs
  refine aw_pG (pc1 := 120) at_347_117 (am_vR_s e2).1 rfl ?_
  refine aw_iload_n (pc1 := 121) at_347_120 l1 rfl ?_
  obtain ⟨v3, e4, hs2⟩ := am_bind hs1
  clear hs1
  refine aw_pA (pc1 := 122) at_347_121 (Or.inl ⟨rfl, rfl⟩) e4 rfl ?_
  refine aw_bipush (v := 16) (pc1 := 124) at_347_122 (by decide) rfl ?_
  by_cases c5 : v3 ≤ 16
  · rw [if_pos c5] at hs2
    refine aw_icle_t at_347_124 c5 ?_
    exact rg_347_147 q_32 x0 x1 h o l0 l1 i0 hs2
  · rw [if_neg c5] at hs2
    refine aw_icle_f (pc1 := 127) at_347_124 c5 rfl ?_
    refine aw_vload_n (pc1 := 128) at_347_127 l0 i0 rfl ?_
    refine aw_iload_n (pc1 := 129) at_347_128 l1 rfl ?_
    refine aw_iconst (v := 1) (pc1 := 130) at_347_129 (by decide) rfl ?_
    refine aw_iadd (v := (x1 + 1)) (pc1 := 131) at_347_130 rfl rfl ?_
    refine aw_vload_n (pc1 := 132) at_347_131 l0 i0 rfl ?_
    obtain ⟨v6, e7, hs3⟩ := am_bind hs2
    clear hs2
    refine aw_pG (pc1 := 135) at_347_132 (am_vR_s e7).1 rfl ?_
    refine aw_iload_n (pc1 := 136) at_347_135 l1 rfl ?_
    obtain ⟨v8, e9, hs4⟩ := am_bind hs3
    clear hs3
    refine aw_pA (pc1 := 137) at_347_136 (Or.inl ⟨rfl, rfl⟩) e9 rfl ?_
    refine aw_iadd (v := ((x1 + 1) + v8)) (pc1 := 138) at_347_137 rfl rfl ?_
    refine aw_iload_n (pc1 := 139) at_347_138 l2 rfl ?_
    obtain ⟨z10, hs5⟩ := am_ift hs4
    clear hs4
    refine aw_call (F := fm_350 x0 (((x1 + 1) + v8)) x2 h) (t := true) (na := 3) (kd := 1) (as := [x0, (.int ((x1 + 1) + v8)), (.int x2)]) at_347_139 (am_k3v kb_350) mn_350 mk_350 rfl rfl (am_ok_v mi_350 (am_hl rfl (am_ccR i0 (am_ccI (am_ccI am_cats_0))) rfl) z10) (am_hc am_cats_0 rfl) (fun _ => ⟨rfl, hh_347⟩) (fun o1 hz9 => rm_350 x0 (((x1 + 1) + v8)) x2 h o1 i0 hz9) ?_
    rcases am_cI_s hs5 with ⟨v11, h12, f13, hs6⟩ | hs6
    · clear hs5
      refine Or.inl ⟨_, _, f13, ?_⟩
      show am_W X _ 347 142 _ [(.int v11)] h12 _
      by_cases c14 : ¬ v11 = 0
      · rw [if_pos c14] at hs6
        refine aw_ifne_t at_347_142 c14 ?_
        exact rg_347_147 q_32 x0 x1 h12 o l0 l1 i0 hs6
      · rw [if_neg c14] at hs6
        refine aw_ifne_f (pc1 := 145) at_347_142 c14 rfl ?_
        refine aw_iload_n (pc1 := 146) at_347_145 l1 rfl ?_
        cases hs6
        exact aw_iret at_347_146 (by rw [rt_347]; rfl) rfl
    · clear hs5
      exact Or.inr hs6
def fg_347_32 (N : Nat) : Nat → Value → Int32 → am_H → Option am_O
  | 0 => fun _ _ _ => none
  | K + 1 => fun x0 x1 h => ((am_vI (am_pG 3086 x0 h)).bind fun v1 => (if v1 ≤ x1 then some (.inl (some (.int (-1)), h)) else ((am_vR (am_pG 3119 x0 h)).bind fun v4 => ((am_pA 0 v4 x1 h).bind fun v6 => ((am_vR (am_pG 3088 x0 h)).bind fun v8 => ((am_pA 0 v8 x1 h).bind fun v10 => am_cI false (fm_348 v10 h) (fun v12 h13 => (if v12 ≤ v6 then ((am_vR (am_pG 3088 x0 h13)).bind fun v16 => ((am_pA 0 v16 x1 h13).bind fun v18 => am_cI false (fm_348 v18 h13) (fun v20 h21 => ((am_vR (am_pG 3088 x0 h21)).bind fun v23 => ((am_pA 0 v23 x1 h21).bind fun v25 => am_cI false (fm_349 v25 h21) (fun v27 h28 => (if ((v6 - v20) + v27) ≤ 8 then ((am_vR (am_pG 3088 x0 h28)).bind fun v31 => ((am_pA 0 v31 x1 h28).bind fun v33 => (if v33 = 17 then (fg_347_116 N (fg_347_32 N K) x0 x1 (((v6 - v20) + v27)) h28) else (if am_pOk 12 x0 h28 then am_cI true (fm_350 x0 ((x1 + 1)) (((v6 - v20) + v27)) h28) (fun v37 h38 => (if ¬ v37 = 0 then (fg_347_116 N (fg_347_32 N K) x0 x1 (((v6 - v20) + v27)) h38) else some (.inl (some (.int x1), h38)))) else none)))) else some (.inl (some (.int x1), h28))))))))) else some (.inl (some (.int x1), h13))))))))))
theorem rg_347_32 {X : am_X} {d : Nat} {N : Nat} : ∀ (K : Nat) (x0 : Value) (x1 : Int32) (h : am_H) (o : am_O), fg_347_32 N K x0 x1 h = some o → ∀ lv : am_LV, (lv.lookup 0 = some x0) → (lv.lookup 1 = some (.int x1)) → (am_isR x0 = true) → am_W X (d + 1) 347 32 lv [] h (fun q => q = o) := by
  intro K
  induction K with
  | zero => intro x0 x1 h o hs; cases hs
  | succ K ih =>
    intro x0 x1 h o hs lv l0 l1 i0
    unfold fg_347_32 at hs
    refine aw_iload_n (pc1 := 33) at_347_32 l1 rfl ?_
    refine aw_vload_n (pc1 := 34) at_347_33 l0 i0 rfl ?_
    obtain ⟨v1, e2, hs1⟩ := am_bind hs
    clear hs
    refine aw_pG (pc1 := 37) at_347_34 (am_vI_s e2) rfl ?_
    by_cases c3 : v1 ≤ x1
    · rw [if_pos c3] at hs1
      refine aw_icge_t at_347_37 c3 ?_
      refine aw_iconst (v := (-1)) (pc1 := 154) at_347_153 (by decide) rfl ?_
      cases hs1
      exact aw_iret at_347_154 (by rw [rt_347]; rfl) rfl
    · rw [if_neg c3] at hs1
      refine aw_icge_f (pc1 := 40) at_347_37 c3 rfl ?_
      refine aw_vload_n (pc1 := 41) at_347_40 l0 i0 rfl ?_
      obtain ⟨v4, e5, hs2⟩ := am_bind hs1
      clear hs1
      refine aw_pG (pc1 := 44) at_347_41 (am_vR_s e5).1 rfl ?_
      refine aw_iload_n (pc1 := 45) at_347_44 l1 rfl ?_
      obtain ⟨v6, e7, hs3⟩ := am_bind hs2
      clear hs2
      refine aw_pA (pc1 := 46) at_347_45 (Or.inl ⟨rfl, rfl⟩) e7 rfl ?_
      refine aw_istore_n (lv1 := am_put1 _ 2 _) (pc1 := 47) at_347_46 rfl rfl ?_
      refine aw_iload_n (pc1 := 48) at_347_47 am_lk0 rfl ?_
      refine aw_vload_n (pc1 := 49) at_347_48 (am_lk1 l0 rfl rfl) i0 rfl ?_
      obtain ⟨v8, e9, hs4⟩ := am_bind hs3
      clear hs3
      refine aw_pG (pc1 := 52) at_347_49 (am_vR_s e9).1 rfl ?_
      refine aw_iload_n (pc1 := 53) at_347_52 (am_lk1 l1 rfl rfl) rfl ?_
      obtain ⟨v10, e11, hs5⟩ := am_bind hs4
      clear hs4
      refine aw_pA (pc1 := 54) at_347_53 (Or.inl ⟨rfl, rfl⟩) e11 rfl ?_
      refine aw_call (F := fm_348 v10 h) (t := false) (na := 1) (kd := 0) (as := [(.int v10)]) at_347_54 (am_k3s kb_348) mn_348 mk_348 rfl rfl (am_ok_s mi_348 (am_hl rfl (am_ccI am_cats_0) rfl)) (am_hc (am_ccI am_cats_0) rfl) (fun hz9 => by cases hz9) (fun o1 hz9 => rm_348 v10 h o1  hz9) ?_
      rcases am_cI_s hs5 with ⟨v12, h13, f14, hs6⟩ | hs6
      · clear hs5
        refine Or.inl ⟨_, _, f14, ?_⟩
        show am_W X _ 347 57 _ [(.int v12), (.int v6)] h13 _
        by_cases c15 : v12 ≤ v6
        · rw [if_pos c15] at hs6
          refine aw_icge_t at_347_57 c15 ?_
          refine aw_iload_n (pc1 := 63) at_347_62 am_lk0 rfl ?_
          refine aw_vload_n (pc1 := 64) at_347_63 (am_lk1 l0 rfl rfl) i0 rfl ?_
          obtain ⟨v16, e17, hs7⟩ := am_bind hs6
          clear hs6
          refine aw_pG (pc1 := 67) at_347_64 (am_vR_s e17).1 rfl ?_
          refine aw_iload_n (pc1 := 68) at_347_67 (am_lk1 l1 rfl rfl) rfl ?_
          obtain ⟨v18, e19, hs8⟩ := am_bind hs7
          clear hs7
          refine aw_pA (pc1 := 69) at_347_68 (Or.inl ⟨rfl, rfl⟩) e19 rfl ?_
          refine aw_call (F := fm_348 v18 h13) (t := false) (na := 1) (kd := 0) (as := [(.int v18)]) at_347_69 (am_k3s kb_348) mn_348 mk_348 rfl rfl (am_ok_s mi_348 (am_hl rfl (am_ccI am_cats_0) rfl)) (am_hc (am_ccI am_cats_0) rfl) (fun hz9 => by cases hz9) (fun o1 hz9 => rm_348 v18 h13 o1  hz9) ?_
          rcases am_cI_s hs8 with ⟨v20, h21, f22, hs9⟩ | hs9
          · clear hs8
            refine Or.inl ⟨_, _, f22, ?_⟩
            show am_W X _ 347 72 _ [(.int v20), (.int v6)] h21 _
            refine aw_isub (v := (v6 - v20)) (pc1 := 73) at_347_72 rfl rfl ?_
            refine aw_vload_n (pc1 := 74) at_347_73 (am_lk1 l0 rfl rfl) i0 rfl ?_
            obtain ⟨v23, e24, hs10⟩ := am_bind hs9
            clear hs9
            refine aw_pG (pc1 := 77) at_347_74 (am_vR_s e24).1 rfl ?_
            refine aw_iload_n (pc1 := 78) at_347_77 (am_lk1 l1 rfl rfl) rfl ?_
            obtain ⟨v25, e26, hs11⟩ := am_bind hs10
            clear hs10
            refine aw_pA (pc1 := 79) at_347_78 (Or.inl ⟨rfl, rfl⟩) e26 rfl ?_
            refine aw_call (F := fm_349 v25 h21) (t := false) (na := 1) (kd := 0) (as := [(.int v25)]) at_347_79 (am_k3s kb_349) mn_349 mk_349 rfl rfl (am_ok_s mi_349 (am_hl rfl (am_ccI am_cats_0) rfl)) (am_hc (am_ccI am_cats_0) rfl) (fun hz9 => by cases hz9) (fun o1 hz9 => rm_349 v25 h21 o1  hz9) ?_
            rcases am_cI_s hs11 with ⟨v27, h28, f29, hs12⟩ | hs12
            · clear hs11
              refine Or.inl ⟨_, _, f29, ?_⟩
              show am_W X _ 347 82 _ [(.int v27), (.int (v6 - v20))] h28 _
              refine aw_iadd (v := ((v6 - v20) + v27)) (pc1 := 83) at_347_82 rfl rfl ?_
              refine aw_istore_n (lv1 := am_put1 _ 2 _) (pc1 := 84) at_347_83 rfl rfl ?_
              refine aw_iload_n (pc1 := 85) at_347_84 am_lk0 rfl ?_
              refine aw_bipush (v := 8) (pc1 := 87) at_347_85 (by decide) rfl ?_
              by_cases c30 : ((v6 - v20) + v27) ≤ 8
              · rw [if_pos c30] at hs12
                refine aw_icle_t at_347_87 c30 ?_
                refine aw_vload_n (pc1 := 93) at_347_92 (am_lk1 (am_lk1 l0 rfl rfl) rfl rfl) i0 rfl ?_
                obtain ⟨v31, e32, hs13⟩ := am_bind hs12
                clear hs12
                refine aw_pG (pc1 := 96) at_347_93 (am_vR_s e32).1 rfl ?_
                refine aw_iload_n (pc1 := 97) at_347_96 (am_lk1 (am_lk1 l1 rfl rfl) rfl rfl) rfl ?_
                obtain ⟨v33, e34, hs14⟩ := am_bind hs13
                clear hs13
                refine aw_pA (pc1 := 98) at_347_97 (Or.inl ⟨rfl, rfl⟩) e34 rfl ?_
                refine aw_bipush (v := 17) (pc1 := 100) at_347_98 (by decide) rfl ?_
                by_cases c35 : v33 = 17
                · rw [if_pos c35] at hs14
                  refine aw_iceq_t at_347_100 c35 ?_
                  exact rg_347_116 (fun z0 z1 h o hs14 => ih z0 z1 h o hs14) x0 x1 (((v6 - v20) + v27)) h28 o (am_lk1 (am_lk1 l0 rfl rfl) rfl rfl) (am_lk1 (am_lk1 l1 rfl rfl) rfl rfl) am_lk0 i0 hs14
                · rw [if_neg c35] at hs14
                  refine aw_iceq_f (pc1 := 103) at_347_100 c35 rfl ?_
                  refine aw_vload_n (pc1 := 104) at_347_103 (am_lk1 (am_lk1 l0 rfl rfl) rfl rfl) i0 rfl ?_
                  refine aw_iload_n (pc1 := 105) at_347_104 (am_lk1 (am_lk1 l1 rfl rfl) rfl rfl) rfl ?_
                  refine aw_iconst (v := 1) (pc1 := 106) at_347_105 (by decide) rfl ?_
                  refine aw_iadd (v := (x1 + 1)) (pc1 := 107) at_347_106 rfl rfl ?_
                  refine aw_iload_n (pc1 := 108) at_347_107 am_lk0 rfl ?_
                  obtain ⟨z36, hs15⟩ := am_ift hs14
                  clear hs14
                  refine aw_call (F := fm_350 x0 ((x1 + 1)) (((v6 - v20) + v27)) h28) (t := true) (na := 3) (kd := 1) (as := [x0, (.int (x1 + 1)), (.int ((v6 - v20) + v27))]) at_347_108 (am_k3v kb_350) mn_350 mk_350 rfl rfl (am_ok_v mi_350 (am_hl rfl (am_ccR i0 (am_ccI (am_ccI am_cats_0))) rfl) z36) (am_hc am_cats_0 rfl) (fun _ => ⟨rfl, hh_347⟩) (fun o1 hz9 => rm_350 x0 ((x1 + 1)) (((v6 - v20) + v27)) h28 o1 i0 hz9) ?_
                  rcases am_cI_s hs15 with ⟨v37, h38, f39, hs16⟩ | hs16
                  · clear hs15
                    refine Or.inl ⟨_, _, f39, ?_⟩
                    show am_W X _ 347 111 _ [(.int v37)] h38 _
                    by_cases c40 : ¬ v37 = 0
                    · rw [if_pos c40] at hs16
                      refine aw_ifne_t at_347_111 c40 ?_
                      exact rg_347_116 (fun z0 z1 h o hs16 => ih z0 z1 h o hs16) x0 x1 (((v6 - v20) + v27)) h38 o (am_lk1 (am_lk1 l0 rfl rfl) rfl rfl) (am_lk1 (am_lk1 l1 rfl rfl) rfl rfl) am_lk0 i0 hs16
                    · rw [if_neg c40] at hs16
                      refine aw_ifne_f (pc1 := 114) at_347_111 c40 rfl ?_
                      refine aw_iload_n (pc1 := 115) at_347_114 (am_lk1 (am_lk1 l1 rfl rfl) rfl rfl) rfl ?_
                      cases hs16
                      exact aw_iret at_347_115 (by rw [rt_347]; rfl) rfl
                  · clear hs15
                    exact Or.inr hs16
              · rw [if_neg c30] at hs12
                refine aw_icle_f (pc1 := 90) at_347_87 c30 rfl ?_
                refine aw_iload_n (pc1 := 91) at_347_90 (am_lk1 (am_lk1 l1 rfl rfl) rfl rfl) rfl ?_
                cases hs12
                exact aw_iret at_347_91 (by rw [rt_347]; rfl) rfl
            · clear hs11
              exact Or.inr hs12
          · clear hs8
            exact Or.inr hs9
        · rw [if_neg c15] at hs6
          refine aw_icge_f (pc1 := 60) at_347_57 c15 rfl ?_
          refine aw_iload_n (pc1 := 61) at_347_60 (am_lk1 l1 rfl rfl) rfl ?_
          cases hs6
          exact aw_iret at_347_61 (by rw [rt_347]; rfl) rfl
      · clear hs5
        exact Or.inr hs6
def fg_347_2 (N : Nat) : Nat → Value → Int32 → am_H → Option am_O
  | 0 => fun _ _ _ => none
  | K + 1 => fun x0 x1 h => ((am_vI (am_pG 3086 x0 h)).bind fun v1 => (if v1 < x1 then ((am_vR (am_pG 3119 x0 h)).bind fun v4 => ((am_pS 0 v4 0 0 h).bind fun h6 => (fg_347_32 N N x0 0 h6))) else ((am_vR (am_pG 3119 x0 h)).bind fun v8 => ((am_pS 0 v8 x1 (-1) h).bind fun h10 => (fg_347_2 N K x0 ((x1 + 1)) h10)))))
theorem rg_347_2 {X : am_X} {d : Nat} {N : Nat} : ∀ (K : Nat) (x0 : Value) (x1 : Int32) (h : am_H) (o : am_O), fg_347_2 N K x0 x1 h = some o → ∀ lv : am_LV, (lv.lookup 0 = some x0) → (lv.lookup 1 = some (.int x1)) → (am_isR x0 = true) → am_W X (d + 1) 347 2 lv [] h (fun q => q = o) := by
  intro K
  induction K with
  | zero => intro x0 x1 h o hs; cases hs
  | succ K ih =>
    intro x0 x1 h o hs lv l0 l1 i0
    unfold fg_347_2 at hs
    refine aw_iload_n (pc1 := 3) at_347_2 l1 rfl ?_
    refine aw_vload_n (pc1 := 4) at_347_3 l0 i0 rfl ?_
    obtain ⟨v1, e2, hs1⟩ := am_bind hs
    clear hs
    refine aw_pG (pc1 := 7) at_347_4 (am_vI_s e2) rfl ?_
    by_cases c3 : v1 < x1
    · rw [if_pos c3] at hs1
      refine aw_icgt_t at_347_7 c3 ?_
      refine aw_vload_n (pc1 := 24) at_347_23 l0 i0 rfl ?_
      obtain ⟨v4, e5, hs2⟩ := am_bind hs1
      clear hs1
      refine aw_pG (pc1 := 27) at_347_24 (am_vR_s e5).1 rfl ?_
      refine aw_iconst (v := 0) (pc1 := 28) at_347_27 (by decide) rfl ?_
      refine aw_iconst (v := 0) (pc1 := 29) at_347_28 (by decide) rfl ?_
      obtain ⟨h6, e7, hs3⟩ := am_bind hs2
      clear hs2
      refine aw_pS (pc1 := 30) at_347_29 (Or.inl ⟨rfl, rfl⟩) e7 rfl ?_
      refine aw_iconst (v := 0) (pc1 := 31) at_347_30 (by decide) rfl ?_
      refine aw_istore_n (lv1 := am_put1 _ 1 _) (pc1 := 32) at_347_31 rfl rfl ?_
      exact rg_347_32 N x0 0 h6 o hs3 _ (am_lk1 l0 rfl (by rw [am_isRc i0]; rfl)) am_lk0 i0
    · rw [if_neg c3] at hs1
      refine aw_icgt_f (pc1 := 10) at_347_7 c3 rfl ?_
      refine aw_vload_n (pc1 := 11) at_347_10 l0 i0 rfl ?_
      obtain ⟨v8, e9, hs4⟩ := am_bind hs1
      clear hs1
      refine aw_pG (pc1 := 14) at_347_11 (am_vR_s e9).1 rfl ?_
      refine aw_iload_n (pc1 := 15) at_347_14 l1 rfl ?_
      refine aw_iconst (v := (-1)) (pc1 := 16) at_347_15 (by decide) rfl ?_
      obtain ⟨h10, e11, hs5⟩ := am_bind hs4
      clear hs4
      refine aw_pS (pc1 := 17) at_347_16 (Or.inl ⟨rfl, rfl⟩) e11 rfl ?_
      refine aw_iinc (v := (x1 + 1)) (c := 1) (lv1 := am_put1 _ 1 _) (pc1 := 20) at_347_17 l1 (by decide) rfl rfl rfl ?_
      refine aw_goto at_347_20 ?_
      exact ih x0 ((x1 + 1)) h10 o hs5 _ (am_lk1 l0 rfl (by rw [am_isRc i0]; rfl)) am_lk0 i0
def fg_347_0 (N : Nat) (x0 : Value) (h : am_H) : Option am_O := (fg_347_2 N N x0 0 h)
theorem rg_347_0 {X : am_X} {d : Nat} {N : Nat} {lv : am_LV} (x0 : Value) (h : am_H) (o : am_O) (l0 : lv.lookup 0 = some x0) (i0 : am_isR x0 = true) (hs : fg_347_0 N x0 h = some o) : am_W X (d + 1) 347 0 lv [] h (fun q => q = o) := by
  unfold fg_347_0 at hs
  refine aw_iconst (v := 0) (pc1 := 1) at_347_0 (by decide) rfl ?_
  refine aw_istore_n (lv1 := am_put1 _ 1 _) (pc1 := 2) at_347_1 rfl rfl ?_
  exact rg_347_2 N x0 0 h o hs _ (am_lk1 l0 rfl (by rw [am_isRc i0]; rfl)) am_lk0 i0
def fm_347 (N : Nat) (y0 : Value) (h : am_H) : Option am_O := fg_347_0 N y0 h
theorem rm_347 {X : am_X} {d : Nat} {N : Nat} (y0 : Value) (h : am_H) (o : am_O) (i0 : am_isR y0 = true) (hs : fm_347 N y0 h = some o) : am_W X (d + 1) 347 0 (am_args 0 [y0]) [] h (fun q => q = o) := by
  rw [am_args_R i0]
  exact rg_347_0 y0 h o rfl i0 hs
def fg_344_92 (N : Nat) (h : am_H) : Option am_O := some (.inl (none, h))
theorem rg_344_92 {X : am_X} {d : Nat} {N : Nat} {lv : am_LV} (h : am_H) (o : am_O) (hs : fg_344_92 N h = some o) : am_W X (d + 5) 344 92 lv [] h (fun q => q = o) := by
  unfold fg_344_92 at hs
  cases hs
  exact aw_vret at_344_92 rt_344 rfl
def fg_344_76 (N : Nat) (x0 : Value) (s0 : Int32) (h : am_H) : Option am_O := (if s0 < 0 then (fg_344_92 N h) else ((am_vR (am_pG 3143 x0 h)).bind fun v2 => ((am_pA 0 v2 s0 h).bind fun v4 => (if am_pOk 12 x0 h then am_cI true (fm_331 x0 v4 h) (fun v7 h8 => (fg_344_92 N h8)) else none))))
theorem rg_344_76 {X : am_X} {d : Nat} {N : Nat} {lv : am_LV} (x0 : Value) (s0 : Int32) (h : am_H) (o : am_O) (l0 : lv.lookup 0 = some x0) (i0 : am_isR x0 = true) (hs : fg_344_76 N x0 s0 h = some o) : am_W X (d + 5) 344 76 lv [(.int s0)] h (fun q => q = o) := by
  unfold fg_344_76 at hs
  refine aw_istore_n (lv1 := am_put1 _ 2 _) (pc1 := 77) at_344_76 rfl rfl ?_
  refine aw_iload_n (pc1 := 78) at_344_77 am_lk0 rfl ?_
  by_cases c1 : s0 < 0
  · rw [if_pos c1] at hs
    refine aw_iflt_t at_344_78 c1 ?_
    exact rg_344_92 h o   hs
  · rw [if_neg c1] at hs
    refine aw_iflt_f (pc1 := 81) at_344_78 c1 rfl ?_
    refine aw_vload_n (pc1 := 82) at_344_81 (am_lk1 l0 rfl rfl) i0 rfl ?_
    refine aw_vload_n (pc1 := 83) at_344_82 (am_lk1 l0 rfl rfl) i0 rfl ?_
    obtain ⟨v2, e3, hs1⟩ := am_bind hs
    clear hs
    refine aw_pG (pc1 := 86) at_344_83 (am_vR_s e3).1 rfl ?_
    refine aw_iload_n (pc1 := 87) at_344_86 am_lk0 rfl ?_
    obtain ⟨v4, e5, hs2⟩ := am_bind hs1
    clear hs1
    refine aw_pA (pc1 := 88) at_344_87 (Or.inl ⟨rfl, rfl⟩) e5 rfl ?_
    obtain ⟨z6, hs3⟩ := am_ift hs2
    clear hs2
    refine aw_call (F := fm_331 x0 v4 h) (t := true) (na := 2) (kd := 1) (as := [x0, (.int v4)]) at_344_88 (am_k3v kb_331) mn_331 mk_331 rfl rfl (am_ok_v mi_331 (am_hl rfl (am_ccR i0 (am_ccI am_cats_0)) rfl) z6) (am_hc am_cats_0 rfl) (fun _ => ⟨rfl, hh_344⟩) (fun o1 hz9 => rm_331 x0 v4 h o1 i0 hz9) ?_
    rcases am_cI_s hs3 with ⟨v7, h8, f9, hs4⟩ | hs4
    · clear hs3
      refine Or.inl ⟨_, _, f9, ?_⟩
      show am_W X _ 344 91 _ [(.int v7)] h8 _
      refine aw_popi (pc1 := 92) at_344_91 rfl ?_
      exact rg_344_92 h8 o   hs4
    · clear hs3
      exact Or.inr hs4
def fg_344_61 (N : Nat) (x0 : Value) (h : am_H) : Option am_O := ((am_vI (am_pG 3142 x0 h)).bind fun v1 => (if 0 ≤ v1 then (fg_344_76 N x0 ((-1)) h) else (if am_pOk 12 x0 h then am_cI true (fm_347 N x0 h) (fun v5 h6 => (fg_344_76 N x0 v5 h6)) else none)))
theorem rg_344_61 {X : am_X} {d : Nat} {N : Nat} {lv : am_LV} (x0 : Value) (h : am_H) (o : am_O) (l0 : lv.lookup 0 = some x0) (i0 : am_isR x0 = true) (hs : fg_344_61 N x0 h = some o) : am_W X (d + 5) 344 61 lv [] h (fun q => q = o) := by
  unfold fg_344_61 at hs
  refine aw_vload_n (pc1 := 62) at_344_61 l0 i0 rfl ?_
  obtain ⟨v1, e2, hs1⟩ := am_bind hs
  clear hs
  refine aw_pG (pc1 := 65) at_344_62 (am_vI_s e2) rfl ?_
  by_cases c3 : 0 ≤ v1
  · rw [if_pos c3] at hs1
    refine aw_ifge_t at_344_65 c3 ?_
    refine aw_iconst (v := (-1)) (pc1 := 76) at_344_75 (by decide) rfl ?_
    exact rg_344_76 x0 ((-1)) h o l0 i0 hs1
  · rw [if_neg c3] at hs1
    refine aw_ifge_f (pc1 := 68) at_344_65 c3 rfl ?_
    refine aw_vload_n (pc1 := 69) at_344_68 l0 i0 rfl ?_
    obtain ⟨z4, hs2⟩ := am_ift hs1
    clear hs1
    refine aw_call (F := fm_347 N x0 h) (t := true) (na := 1) (kd := 1) (as := [x0]) at_344_69 (am_k3v kb_347) mn_347 mk_347 rfl rfl (am_ok_v mi_347 (am_hl rfl (am_ccR i0 am_cats_0) rfl) z4) (am_hc am_cats_0 rfl) (fun _ => ⟨rfl, hh_344⟩) (fun o1 hz9 => rm_347 x0 h o1 i0 hz9) ?_
    rcases am_cI_s hs2 with ⟨v5, h6, f7, hs3⟩ | hs3
    · clear hs2
      refine Or.inl ⟨_, _, f7, ?_⟩
      show am_W X _ 344 72 _ [(.int v5)] h6 _
      refine aw_goto at_344_72 ?_
      exact rg_344_76 x0 v5 h6 o l0 i0 hs3
    · clear hs2
      exact Or.inr hs3
def fg_344_57 (N : Nat) (rec_2 : Value → Int32 → am_H → Option am_O) (x0 : Value) (s0 : Int32) (h : am_H) : Option am_O := (rec_2 x0 s0 h)
theorem rg_344_57 {X : am_X} {d : Nat} {N : Nat} {rec_2 : Value → Int32 → am_H → Option am_O} (q_2 : ∀ (x0 : Value) (x1 : Int32) (h : am_H) (o : am_O), rec_2 x0 x1 h = some o → ∀ lv : am_LV, (lv.lookup 0 = some x0) → (lv.lookup 1 = some (.int x1)) → (am_isR x0 = true) → am_W X (d + 5) 344 2 lv [] h (fun q => q = o)) {lv : am_LV} (x0 : Value) (s0 : Int32) (h : am_H) (o : am_O) (l0 : lv.lookup 0 = some x0) (i0 : am_isR x0 = true) (hs : fg_344_57 N rec_2 x0 s0 h = some o) : am_W X (d + 5) 344 57 lv [(.int s0)] h (fun q => q = o) := by
  unfold fg_344_57 at hs
  refine aw_istore_n (lv1 := am_put1 _ 1 _) (pc1 := 58) at_344_57 rfl rfl ?_
  refine aw_goto at_344_58 ?_
  exact q_2 x0 s0 h o hs _ (am_lk1 l0 rfl (by rw [am_isRc i0]; rfl)) am_lk0 i0
def fg_344_56 (N : Nat) (rec_2 : Value → Int32 → am_H → Option am_O) (x0 : Value) (h : am_H) : Option am_O := (fg_344_57 N rec_2 x0 0 h)
theorem rg_344_56 {X : am_X} {d : Nat} {N : Nat} {rec_2 : Value → Int32 → am_H → Option am_O} (q_2 : ∀ (x0 : Value) (x1 : Int32) (h : am_H) (o : am_O), rec_2 x0 x1 h = some o → ∀ lv : am_LV, (lv.lookup 0 = some x0) → (lv.lookup 1 = some (.int x1)) → (am_isR x0 = true) → am_W X (d + 5) 344 2 lv [] h (fun q => q = o)) {lv : am_LV} (x0 : Value) (h : am_H) (o : am_O) (l0 : lv.lookup 0 = some x0) (i0 : am_isR x0 = true) (hs : fg_344_56 N rec_2 x0 h = some o) : am_W X (d + 5) 344 56 lv [] h (fun q => q = o) := by
  unfold fg_344_56 at hs
  refine aw_iconst (v := 0) (pc1 := 57) at_344_56 (by decide) rfl ?_
  exact rg_344_57 q_2 x0 0 h o l0 i0 hs
def fg_344_41 (N : Nat) (rec_2 : Value → Int32 → am_H → Option am_O) (x0 : Value) (x1 : Int32) (h : am_H) : Option am_O := (if x1 = 0 then (fg_344_56 N rec_2 x0 h) else ((am_vI (am_pG 3142 x0 h)).bind fun v2 => (if 0 ≤ v2 then (fg_344_56 N rec_2 x0 h) else (fg_344_57 N rec_2 x0 1 h))))
theorem rg_344_41 {X : am_X} {d : Nat} {N : Nat} {rec_2 : Value → Int32 → am_H → Option am_O} (q_2 : ∀ (x0 : Value) (x1 : Int32) (h : am_H) (o : am_O), rec_2 x0 x1 h = some o → ∀ lv : am_LV, (lv.lookup 0 = some x0) → (lv.lookup 1 = some (.int x1)) → (am_isR x0 = true) → am_W X (d + 5) 344 2 lv [] h (fun q => q = o)) {lv : am_LV} (x0 : Value) (x1 : Int32) (h : am_H) (o : am_O) (l0 : lv.lookup 0 = some x0) (l1 : lv.lookup 1 = some (.int x1)) (i0 : am_isR x0 = true) (hs : fg_344_41 N rec_2 x0 x1 h = some o) : am_W X (d + 5) 344 41 lv [] h (fun q => q = o) := by
  unfold fg_344_41 at hs
  refine aw_iload_n (pc1 := 42) at_344_41 l1 rfl ?_
  by_cases c1 : x1 = 0
  · rw [if_pos c1] at hs
    refine aw_ifeq_t at_344_42 c1 ?_
    exact rg_344_56 q_2 x0 h o l0 i0 hs
  · rw [if_neg c1] at hs
    refine aw_ifeq_f (pc1 := 45) at_344_42 c1 rfl ?_
    refine aw_vload_n (pc1 := 46) at_344_45 l0 i0 rfl ?_
    obtain ⟨v2, e3, hs1⟩ := am_bind hs
    clear hs
    refine aw_pG (pc1 := 49) at_344_46 (am_vI_s e3) rfl ?_
    by_cases c4 : 0 ≤ v2
    · rw [if_pos c4] at hs1
      refine aw_ifge_t at_344_49 c4 ?_
      exact rg_344_56 q_2 x0 h o l0 i0 hs1
    · rw [if_neg c4] at hs1
      refine aw_ifge_f (pc1 := 52) at_344_49 c4 rfl ?_
      refine aw_iconst (v := 1) (pc1 := 53) at_344_52 (by decide) rfl ?_
      refine aw_goto at_344_53 ?_
      exact rg_344_57 q_2 x0 1 h o l0 i0 hs1
def fg_344_29 (N : Nat) (rec_2 : Value → Int32 → am_H → Option am_O) (x0 : Value) (s0 : Int32) (h : am_H) : Option am_O := (if s0 = 0 then (fg_344_41 N rec_2 x0 s0 h) else (if am_pOk 12 x0 h then am_cI true (fm_336 x0 32 h) (fun v3 h4 => (fg_344_41 N rec_2 x0 s0 h4)) else none))
theorem rg_344_29 {X : am_X} {d : Nat} {N : Nat} {rec_2 : Value → Int32 → am_H → Option am_O} (q_2 : ∀ (x0 : Value) (x1 : Int32) (h : am_H) (o : am_O), rec_2 x0 x1 h = some o → ∀ lv : am_LV, (lv.lookup 0 = some x0) → (lv.lookup 1 = some (.int x1)) → (am_isR x0 = true) → am_W X (d + 5) 344 2 lv [] h (fun q => q = o)) {lv : am_LV} (x0 : Value) (s0 : Int32) (h : am_H) (o : am_O) (l0 : lv.lookup 0 = some x0) (i0 : am_isR x0 = true) (hs : fg_344_29 N rec_2 x0 s0 h = some o) : am_W X (d + 5) 344 29 lv [(.int s0)] h (fun q => q = o) := by
  unfold fg_344_29 at hs
  refine aw_istore_n (lv1 := am_put1 _ 1 _) (pc1 := 30) at_344_29 rfl rfl ?_
  refine aw_iload_n (pc1 := 31) at_344_30 am_lk0 rfl ?_
  by_cases c1 : s0 = 0
  · rw [if_pos c1] at hs
    refine aw_ifeq_t at_344_31 c1 ?_
    exact rg_344_41 q_2 x0 s0 h o (am_lk1 l0 rfl (by rw [am_isRc i0]; rfl)) am_lk0 i0 hs
  · rw [if_neg c1] at hs
    refine aw_ifeq_f (pc1 := 34) at_344_31 c1 rfl ?_
    refine aw_vload_n (pc1 := 35) at_344_34 (am_lk1 l0 rfl (by rw [am_isRc i0]; rfl)) i0 rfl ?_
    refine aw_bipush (v := 32) (pc1 := 37) at_344_35 (by decide) rfl ?_
    obtain ⟨z2, hs1⟩ := am_ift hs
    clear hs
    refine aw_call (F := fm_336 x0 32 h) (t := true) (na := 2) (kd := 1) (as := [x0, (.int 32)]) at_344_37 (am_k3v kb_336) mn_336 mk_336 rfl rfl (am_ok_v mi_336 (am_hl rfl (am_ccR i0 (am_ccI am_cats_0)) rfl) z2) (am_hc am_cats_0 rfl) (fun _ => ⟨rfl, hh_344⟩) (fun o1 hz9 => rm_336 x0 32 h o1 i0 hz9) ?_
    rcases am_cI_s hs1 with ⟨v3, h4, f5, hs2⟩ | hs2
    · clear hs1
      refine Or.inl ⟨_, _, f5, ?_⟩
      show am_W X _ 344 40 _ [(.int v3)] h4 _
      refine aw_popi (pc1 := 41) at_344_40 rfl ?_
      exact rg_344_41 q_2 x0 s0 h4 o (am_lk1 l0 rfl (by rw [am_isRc i0]; rfl)) am_lk0 i0 hs2
    · clear hs1
      exact Or.inr hs2
def fg_344_2 (N : Nat) : Nat → Value → Int32 → am_H → Option am_O
  | 0 => fun _ _ _ => none
  | K + 1 => fun x0 x1 h => (if x1 = 0 then (fg_344_61 N x0 h) else (if am_pOk 12 x0 h then am_cI true (fm_345 x0 h) (fun v3 h4 => (if v3 = 0 then (fg_344_61 N x0 h4) else ((am_vI (am_pG 3141 x0 h4)).bind fun v7 => ((am_vI (am_pG 3140 x0 h4)).bind fun v9 => (if v9 ≤ v7 then (fg_344_29 N (fg_344_2 N K) x0 0 h4) else (fg_344_29 N (fg_344_2 N K) x0 1 h4)))))) else none))
theorem rg_344_2 {X : am_X} {d : Nat} {N : Nat} : ∀ (K : Nat) (x0 : Value) (x1 : Int32) (h : am_H) (o : am_O), fg_344_2 N K x0 x1 h = some o → ∀ lv : am_LV, (lv.lookup 0 = some x0) → (lv.lookup 1 = some (.int x1)) → (am_isR x0 = true) → am_W X (d + 5) 344 2 lv [] h (fun q => q = o) := by
  intro K
  induction K with
  | zero => intro x0 x1 h o hs; cases hs
  | succ K ih =>
    intro x0 x1 h o hs lv l0 l1 i0
    unfold fg_344_2 at hs
    refine aw_iload_n (pc1 := 3) at_344_2 l1 rfl ?_
    by_cases c1 : x1 = 0
    · rw [if_pos c1] at hs
      refine aw_ifeq_t at_344_3 c1 ?_
      exact rg_344_61 x0 h o l0 i0 hs
    · rw [if_neg c1] at hs
      refine aw_ifeq_f (pc1 := 6) at_344_3 c1 rfl ?_
      refine aw_vload_n (pc1 := 7) at_344_6 l0 i0 rfl ?_
      obtain ⟨z2, hs1⟩ := am_ift hs
      clear hs
      refine aw_call (F := fm_345 x0 h) (t := true) (na := 1) (kd := 1) (as := [x0]) at_344_7 (am_k3v kb_345) mn_345 mk_345 rfl rfl (am_ok_v mi_345 (am_hl rfl (am_ccR i0 am_cats_0) rfl) z2) (am_hc am_cats_0 rfl) (fun _ => ⟨rfl, hh_344⟩) (fun o1 hz9 => rm_345 x0 h o1 i0 hz9) ?_
      rcases am_cI_s hs1 with ⟨v3, h4, f5, hs2⟩ | hs2
      · clear hs1
        refine Or.inl ⟨_, _, f5, ?_⟩
        show am_W X _ 344 10 _ [(.int v3)] h4 _
        by_cases c6 : v3 = 0
        · rw [if_pos c6] at hs2
          refine aw_ifeq_t at_344_10 c6 ?_
          exact rg_344_61 x0 h4 o l0 i0 hs2
        · rw [if_neg c6] at hs2
          refine aw_ifeq_f (pc1 := 13) at_344_10 c6 rfl ?_
          refine aw_vload_n (pc1 := 14) at_344_13 l0 i0 rfl ?_
          obtain ⟨v7, e8, hs3⟩ := am_bind hs2
          clear hs2
          refine aw_pG (pc1 := 17) at_344_14 (am_vI_s e8) rfl ?_
          refine aw_vload_n (pc1 := 18) at_344_17 l0 i0 rfl ?_
          obtain ⟨v9, e10, hs4⟩ := am_bind hs3
          clear hs3
          refine aw_pG (pc1 := 21) at_344_18 (am_vI_s e10) rfl ?_
          by_cases c11 : v9 ≤ v7
          · rw [if_pos c11] at hs4
            refine aw_icge_t at_344_21 c11 ?_
            refine aw_iconst (v := 0) (pc1 := 29) at_344_28 (by decide) rfl ?_
            exact rg_344_29 (fun z0 z1 h o hs4 => ih z0 z1 h o hs4) x0 0 h4 o l0 i0 hs4
          · rw [if_neg c11] at hs4
            refine aw_icge_f (pc1 := 24) at_344_21 c11 rfl ?_
            refine aw_iconst (v := 1) (pc1 := 25) at_344_24 (by decide) rfl ?_
            refine aw_goto at_344_25 ?_
            exact rg_344_29 (fun z0 z1 h o hs4 => ih z0 z1 h o hs4) x0 1 h4 o l0 i0 hs4
      · clear hs1
        exact Or.inr hs2
def fg_344_0 (N : Nat) (x0 : Value) (h : am_H) : Option am_O := (fg_344_2 N N x0 1 h)
theorem rg_344_0 {X : am_X} {d : Nat} {N : Nat} {lv : am_LV} (x0 : Value) (h : am_H) (o : am_O) (l0 : lv.lookup 0 = some x0) (i0 : am_isR x0 = true) (hs : fg_344_0 N x0 h = some o) : am_W X (d + 5) 344 0 lv [] h (fun q => q = o) := by
  unfold fg_344_0 at hs
  refine aw_iconst (v := 1) (pc1 := 1) at_344_0 (by decide) rfl ?_
  refine aw_istore_n (lv1 := am_put1 _ 1 _) (pc1 := 2) at_344_1 rfl rfl ?_
  exact rg_344_2 N x0 1 h o hs _ (am_lk1 l0 rfl (by rw [am_isRc i0]; rfl)) am_lk0 i0
def fm_344 (N : Nat) (y0 : Value) (h : am_H) : Option am_O := fg_344_0 N y0 h
theorem rm_344 {X : am_X} {d : Nat} {N : Nat} (y0 : Value) (h : am_H) (o : am_O) (i0 : am_isR y0 = true) (hs : fm_344 N y0 h = some o) : am_W X (d + 5) 344 0 (am_args 0 [y0]) [] h (fun q => q = o) := by
  rw [am_args_R i0]
  exact rg_344_0 y0 h o rfl i0 hs
def fg_353_0 (x0 : Int32) (x1 : Int32) (x2 : Int32) (h : am_H) : Option am_O := some (.inl (some (.int ((x0 &&& ((7 <<< ((3 * x1) &&& 31)) ^^^ (-1))) ||| (x2 <<< ((3 * x1) &&& 31)))), h))
theorem rg_353_0 {X : am_X} {d : Nat} {lv : am_LV} (x0 : Int32) (x1 : Int32) (x2 : Int32) (h : am_H) (o : am_O) (l0 : lv.lookup 0 = some (.int x0)) (l1 : lv.lookup 1 = some (.int x1)) (l2 : lv.lookup 2 = some (.int x2)) (hs : fg_353_0 x0 x1 x2 h = some o) : am_W X (d) 353 0 lv [] h (fun q => q = o) := by
  unfold fg_353_0 at hs
  refine aw_iload_n (pc1 := 1) at_353_0 l0 rfl ?_
  refine aw_bipush (v := 7) (pc1 := 3) at_353_1 (by decide) rfl ?_
  refine aw_iconst (v := 3) (pc1 := 4) at_353_3 (by decide) rfl ?_
  refine aw_iload_n (pc1 := 5) at_353_4 l1 rfl ?_
  refine aw_imul (v := (3 * x1)) (pc1 := 6) at_353_5 rfl rfl ?_
  refine aw_ishl (v := (7 <<< ((3 * x1) &&& 31))) (pc1 := 7) at_353_6 rfl rfl ?_
  refine aw_iconst (v := (-1)) (pc1 := 8) at_353_7 (by decide) rfl ?_
  refine aw_ixor (v := ((7 <<< ((3 * x1) &&& 31)) ^^^ (-1))) (pc1 := 9) at_353_8 rfl rfl ?_
  refine aw_iand (v := (x0 &&& ((7 <<< ((3 * x1) &&& 31)) ^^^ (-1)))) (pc1 := 10) at_353_9 rfl rfl ?_
  refine aw_iload_n (pc1 := 11) at_353_10 l2 rfl ?_
  refine aw_iconst (v := 3) (pc1 := 12) at_353_11 (by decide) rfl ?_
  refine aw_iload_n (pc1 := 13) at_353_12 l1 rfl ?_
  refine aw_imul (v := (3 * x1)) (pc1 := 14) at_353_13 rfl rfl ?_
  refine aw_ishl (v := (x2 <<< ((3 * x1) &&& 31))) (pc1 := 15) at_353_14 rfl rfl ?_
  refine aw_ior (v := ((x0 &&& ((7 <<< ((3 * x1) &&& 31)) ^^^ (-1))) ||| (x2 <<< ((3 * x1) &&& 31)))) (pc1 := 16) at_353_15 rfl rfl ?_
  cases hs
  exact aw_iret at_353_16 (by rw [rt_353]; rfl) rfl
def fm_353 (y0 : Int32) (y1 : Int32) (y2 : Int32) (h : am_H) : Option am_O := fg_353_0 y0 y1 y2 h
theorem rm_353 {X : am_X} {d : Nat} (y0 : Int32) (y1 : Int32) (y2 : Int32) (h : am_H) (o : am_O) (hs : fm_353 y0 y1 y2 h = some o) : am_W X (d) 353 0 (am_args 0 [.int y0, .int y1, .int y2]) [] h (fun q => q = o) := by
  rw [am_args_I, am_args_I, am_args_I]
  exact rg_353_0 y0 y1 y2 h o rfl rfl rfl  hs
def fg_352_60 (N : Nat) : Nat → Value → Int32 → Int32 → Int32 → am_H → Option am_O
  | 0 => fun _ _ _ _ _ => none
  | K + 1 => fun x0 x1 x2 x3 h => (if 4 ≤ x3 then (if am_pOk 12 x0 h then am_cV true (fm_335 x0 x1 x2 h) (fun h4 => some (.inl (some (.int 1), h4))) else none) else ((am_vI (am_pG 3141 x0 h)).bind fun v6 => (if am_pOk 12 x0 h then am_cI true (fm_339 x0 v6 h) (fun v9 h10 => (if ¬ v9 = 0 then ((am_vR (am_pG 3100 x0 h10)).bind fun v13 => ((am_vI (am_pG 3086 x0 h10)).bind fun v15 => ((am_vR (am_pG 3139 x0 h10)).bind fun v17 => ((am_vI (am_pG 3141 x0 h10)).bind fun v19 => ((am_pA 0 v17 v19 h10).bind fun v21 => ((am_pS 0 v13 ((4 * v15) + x3) (v21 - 48) h10).bind fun h23 => ((am_vR (am_pG 3139 x0 h23)).bind fun v25 => ((am_vI (am_pG 3141 x0 h23)).bind fun v27 => ((am_pA 0 v25 v27 h23).bind fun v29 => am_cI false (fm_353 x2 x3 (((v29 - 48) &&& 7)) h23) (fun v31 h32 => ((am_vI (am_pG 3141 x0 h32)).bind fun v34 => ((am_pP 3141 x0 (.int (v34 + 1)) h32).bind fun h36 => (fg_352_60 N K x0 x1 v31 ((x3 + 1)) h36))))))))))))) else ((am_vI (am_pG 3141 x0 h10)).bind fun v38 => (if am_pOk 12 x0 h10 then am_cI true (fm_331 x0 v38 h10) (fun v41 h42 => (if am_rfit (some FieldType.boolean) v41 then some (.inl (some (.int v41), h42)) else none)) else none)))) else none)))
theorem rg_352_60 {X : am_X} {d : Nat} {N : Nat} : ∀ (K : Nat) (x0 : Value) (x1 : Int32) (x2 : Int32) (x3 : Int32) (h : am_H) (o : am_O), fg_352_60 N K x0 x1 x2 x3 h = some o → ∀ lv : am_LV, (lv.lookup 0 = some x0) → (lv.lookup 1 = some (.int x1)) → (lv.lookup 2 = some (.int x2)) → (lv.lookup 3 = some (.int x3)) → (am_isR x0 = true) → am_W X (d + 4) 352 60 lv [] h (fun q => q = o) := by
  intro K
  induction K with
  | zero => intro x0 x1 x2 x3 h o hs; cases hs
  | succ K ih =>
    intro x0 x1 x2 x3 h o hs lv l0 l1 l2 l3 i0
    unfold fg_352_60 at hs
    refine aw_iload_n (pc1 := 61) at_352_60 l3 rfl ?_
    refine aw_iconst (v := 4) (pc1 := 62) at_352_61 (by decide) rfl ?_
    by_cases c1 : 4 ≤ x3
    · rw [if_pos c1] at hs
      refine aw_icge_t at_352_62 c1 ?_
      refine aw_vload_n (pc1 := 148) at_352_147 l0 i0 rfl ?_
      refine aw_iload_n (pc1 := 149) at_352_148 l1 rfl ?_
      refine aw_iload_n (pc1 := 150) at_352_149 l2 rfl ?_
      obtain ⟨z2, hs1⟩ := am_ift hs
      clear hs
      refine aw_call (F := fm_335 x0 x1 x2 h) (t := true) (na := 3) (kd := 1) (as := [x0, (.int x1), (.int x2)]) at_352_150 (am_k3v kb_335) mn_335 mk_335 rfl rfl (am_ok_v mi_335 (am_hl rfl (am_ccR i0 (am_ccI (am_ccI am_cats_0))) rfl) z2) (am_hc am_cats_0 rfl) (fun _ => ⟨rfl, hh_352⟩) (fun o1 hz9 => rm_335 x0 x1 x2 h o1 i0 hz9) ?_
      rcases am_cV_s hs1 with ⟨h4, f5, hs2⟩ | hs2
      · clear hs1
        refine Or.inl ⟨_, _, f5, ?_⟩
        show am_W X _ 352 153 _ [] h4 _
        refine aw_iconst (v := 1) (pc1 := 154) at_352_153 (by decide) rfl ?_
        cases hs2
        exact aw_iret at_352_154 (by rw [rt_352]; decide) rfl
      · clear hs1
        exact Or.inr hs2
    · rw [if_neg c1] at hs
      refine aw_icge_f (pc1 := 65) at_352_62 c1 rfl ?_
      refine aw_vload_n (pc1 := 66) at_352_65 l0 i0 rfl ?_
      refine aw_vload_n (pc1 := 67) at_352_66 l0 i0 rfl ?_
      obtain ⟨v6, e7, hs3⟩ := am_bind hs
      clear hs
      refine aw_pG (pc1 := 70) at_352_67 (am_vI_s e7) rfl ?_
      obtain ⟨z8, hs4⟩ := am_ift hs3
      clear hs3
      refine aw_call (F := fm_339 x0 v6 h) (t := true) (na := 2) (kd := 1) (as := [x0, (.int v6)]) at_352_70 (am_k3v kb_339) mn_339 mk_339 rfl rfl (am_ok_v mi_339 (am_hl rfl (am_ccR i0 (am_ccI am_cats_0)) rfl) z8) (am_hc am_cats_0 rfl) (fun _ => ⟨rfl, hh_352⟩) (fun o1 hz9 => rm_339 x0 v6 h o1 i0 hz9) ?_
      rcases am_cI_s hs4 with ⟨v9, h10, f11, hs5⟩ | hs5
      · clear hs4
        refine Or.inl ⟨_, _, f11, ?_⟩
        show am_W X _ 352 73 _ [(.int v9)] h10 _
        by_cases c12 : ¬ v9 = 0
        · rw [if_pos c12] at hs5
          refine aw_ifne_t at_352_73 c12 ?_
          refine aw_vload_n (pc1 := 86) at_352_85 l0 i0 rfl ?_
          obtain ⟨v13, e14, hs6⟩ := am_bind hs5
          clear hs5
          refine aw_pG (pc1 := 89) at_352_86 (am_vR_s e14).1 rfl ?_
          refine aw_iconst (v := 4) (pc1 := 90) at_352_89 (by decide) rfl ?_
          refine aw_vload_n (pc1 := 91) at_352_90 l0 i0 rfl ?_
          obtain ⟨v15, e16, hs7⟩ := am_bind hs6
          clear hs6
          refine aw_pG (pc1 := 94) at_352_91 (am_vI_s e16) rfl ?_
          refine aw_imul (v := (4 * v15)) (pc1 := 95) at_352_94 rfl rfl ?_
          refine aw_iload_n (pc1 := 96) at_352_95 l3 rfl ?_
          refine aw_iadd (v := ((4 * v15) + x3)) (pc1 := 97) at_352_96 rfl rfl ?_
          refine aw_vload_n (pc1 := 98) at_352_97 l0 i0 rfl ?_
          obtain ⟨v17, e18, hs8⟩ := am_bind hs7
          clear hs7
          refine aw_pG (pc1 := 101) at_352_98 (am_vR_s e18).1 rfl ?_
          refine aw_vload_n (pc1 := 102) at_352_101 l0 i0 rfl ?_
          obtain ⟨v19, e20, hs9⟩ := am_bind hs8
          clear hs8
          refine aw_pG (pc1 := 105) at_352_102 (am_vI_s e20) rfl ?_
          obtain ⟨v21, e22, hs10⟩ := am_bind hs9
          clear hs9
          refine aw_pA (pc1 := 106) at_352_105 (Or.inl ⟨rfl, rfl⟩) e22 rfl ?_
          refine aw_bipush (v := 48) (pc1 := 108) at_352_106 (by decide) rfl ?_
          refine aw_isub (v := (v21 - 48)) (pc1 := 109) at_352_108 rfl rfl ?_
          obtain ⟨h23, e24, hs11⟩ := am_bind hs10
          clear hs10
          refine aw_pS (pc1 := 110) at_352_109 (Or.inl ⟨rfl, rfl⟩) e24 rfl ?_
          refine aw_iload_n (pc1 := 111) at_352_110 l2 rfl ?_
          refine aw_iload_n (pc1 := 112) at_352_111 l3 rfl ?_
          refine aw_vload_n (pc1 := 113) at_352_112 l0 i0 rfl ?_
          obtain ⟨v25, e26, hs12⟩ := am_bind hs11
          clear hs11
          refine aw_pG (pc1 := 116) at_352_113 (am_vR_s e26).1 rfl ?_
          refine aw_vload_n (pc1 := 117) at_352_116 l0 i0 rfl ?_
          obtain ⟨v27, e28, hs13⟩ := am_bind hs12
          clear hs12
          refine aw_pG (pc1 := 120) at_352_117 (am_vI_s e28) rfl ?_
          obtain ⟨v29, e30, hs14⟩ := am_bind hs13
          clear hs13
          refine aw_pA (pc1 := 121) at_352_120 (Or.inl ⟨rfl, rfl⟩) e30 rfl ?_
          refine aw_bipush (v := 48) (pc1 := 123) at_352_121 (by decide) rfl ?_
          refine aw_isub (v := (v29 - 48)) (pc1 := 124) at_352_123 rfl rfl ?_
          refine aw_bipush (v := 7) (pc1 := 126) at_352_124 (by decide) rfl ?_
          refine aw_iand (v := ((v29 - 48) &&& 7)) (pc1 := 127) at_352_126 rfl rfl ?_
          refine aw_call (F := fm_353 x2 x3 (((v29 - 48) &&& 7)) h23) (t := false) (na := 3) (kd := 0) (as := [(.int x2), (.int x3), (.int ((v29 - 48) &&& 7))]) at_352_127 (am_k3s kb_353) mn_353 mk_353 rfl rfl (am_ok_s mi_353 (am_hl rfl (am_ccI (am_ccI (am_ccI am_cats_0))) rfl)) (am_hc am_cats_0 rfl) (fun hz9 => by cases hz9) (fun o1 hz9 => rm_353 x2 x3 (((v29 - 48) &&& 7)) h23 o1  hz9) ?_
          rcases am_cI_s hs14 with ⟨v31, h32, f33, hs15⟩ | hs15
          · clear hs14
            refine Or.inl ⟨_, _, f33, ?_⟩
            show am_W X _ 352 130 _ [(.int v31)] h32 _
            refine aw_istore_n (lv1 := am_put1 _ 2 _) (pc1 := 131) at_352_130 rfl rfl ?_
            refine aw_vload_n (pc1 := 132) at_352_131 (am_lk1 l0 rfl rfl) i0 rfl ?_
            refine aw_vdup (pc1 := 133) at_352_132 i0 rfl ?_
            obtain ⟨v34, e35, hs16⟩ := am_bind hs15
            clear hs15
            refine aw_pG (pc1 := 136) at_352_133 (am_vI_s e35) rfl ?_
            refine aw_iconst (v := 1) (pc1 := 137) at_352_136 (by decide) rfl ?_
            refine aw_iadd (v := (v34 + 1)) (pc1 := 138) at_352_137 rfl rfl ?_
            obtain ⟨h36, e37, hs17⟩ := am_bind hs16
            clear hs16
            refine aw_pP (pc1 := 141) at_352_138 e37 rfl ?_
            refine aw_iinc (v := (x3 + 1)) (c := 1) (lv1 := am_put1 _ 3 _) (pc1 := 144) at_352_141 (am_lk1 l3 rfl rfl) (by decide) rfl rfl rfl ?_
            refine aw_goto at_352_144 ?_
            exact ih x0 x1 v31 ((x3 + 1)) h36 o hs17 _ (am_lk1 (am_lk1 l0 rfl rfl) rfl rfl) (am_lk1 (am_lk1 l1 rfl rfl) rfl rfl) (am_lk1 am_lk0 rfl rfl) am_lk0 i0
          · clear hs14
            exact Or.inr hs15
        · rw [if_neg c12] at hs5
          refine aw_ifne_f (pc1 := 76) at_352_73 c12 rfl ?_
          refine aw_vload_n (pc1 := 77) at_352_76 l0 i0 rfl ?_
          refine aw_vload_n (pc1 := 78) at_352_77 l0 i0 rfl ?_
          obtain ⟨v38, e39, hs18⟩ := am_bind hs5
          clear hs5
          refine aw_pG (pc1 := 81) at_352_78 (am_vI_s e39) rfl ?_
          obtain ⟨z40, hs19⟩ := am_ift hs18
          clear hs18
          refine aw_call (F := fm_331 x0 v38 h10) (t := true) (na := 2) (kd := 1) (as := [x0, (.int v38)]) at_352_81 (am_k3v kb_331) mn_331 mk_331 rfl rfl (am_ok_v mi_331 (am_hl rfl (am_ccR i0 (am_ccI am_cats_0)) rfl) z40) (am_hc am_cats_0 rfl) (fun _ => ⟨rfl, hh_352⟩) (fun o1 hz9 => rm_331 x0 v38 h10 o1 i0 hz9) ?_
          rcases am_cI_s hs19 with ⟨v41, h42, f43, hs20⟩ | hs20
          · clear hs19
            refine Or.inl ⟨_, _, f43, ?_⟩
            show am_W X _ 352 84 _ [(.int v41)] h42 _
            obtain ⟨z44, hs21⟩ := am_ift hs20
            clear hs20
            cases hs21
            exact aw_iret at_352_84 (by rw [rt_352]; exact z44) rfl
          · clear hs19
            exact Or.inr hs20
      · clear hs4
        exact Or.inr hs5
def fg_352_0 (N : Nat) (x0 : Value) (h : am_H) : Option am_O := ((am_vI (am_pG 3086 x0 h)).bind fun v1 => (if ¬ v1 = 6 then (if am_pOk 12 x0 h then am_cI true (fm_340 x0 h) (fun v5 h6 => (if ¬ v5 = 0 then ((am_vI (am_pG 3144 x0 h6)).bind fun v9 => (if am_pOk 12 x0 h6 then am_cI true (fm_336 x0 58 h6) (fun v12 h13 => (if ¬ v12 = 0 then ((am_vR (am_pG 3143 x0 h13)).bind fun v16 => ((am_vI (am_pG 3086 x0 h13)).bind fun v18 => ((am_vI (am_pG 3141 x0 h13)).bind fun v20 => ((am_pS 0 v16 v18 v20 h13).bind fun h22 => (fg_352_60 N N x0 v9 0 0 h22))))) else some (.inl (some (.int 0), h13)))) else none)) else some (.inl (some (.int 0), h6)))) else none) else ((am_vI (am_pG 3141 x0 h)).bind fun v24 => (if am_pOk 12 x0 h then am_cI true (fm_331 x0 v24 h) (fun v27 h28 => (if am_rfit (some FieldType.boolean) v27 then some (.inl (some (.int v27), h28)) else none)) else none))))
theorem rg_352_0 {X : am_X} {d : Nat} {N : Nat} {lv : am_LV} (x0 : Value) (h : am_H) (o : am_O) (l0 : lv.lookup 0 = some x0) (i0 : am_isR x0 = true) (hs : fg_352_0 N x0 h = some o) : am_W X (d + 4) 352 0 lv [] h (fun q => q = o) := by
  unfold fg_352_0 at hs
  refine aw_vload_n (pc1 := 1) at_352_0 l0 i0 rfl ?_
  obtain ⟨v1, e2, hs1⟩ := am_bind hs
  clear hs
  refine aw_pG (pc1 := 4) at_352_1 (am_vI_s e2) rfl ?_
  refine aw_bipush (v := 6) (pc1 := 6) at_352_4 (by decide) rfl ?_
  by_cases c3 : ¬ v1 = 6
  · rw [if_pos c3] at hs1
    refine aw_icne_t at_352_6 c3 ?_
    refine aw_vload_n (pc1 := 19) at_352_18 l0 i0 rfl ?_
    obtain ⟨z4, hs2⟩ := am_ift hs1
    clear hs1
    refine aw_call (F := fm_340 x0 h) (t := true) (na := 1) (kd := 1) (as := [x0]) at_352_19 (am_k3v kb_340) mn_340 mk_340 rfl rfl (am_ok_v mi_340 (am_hl rfl (am_ccR i0 am_cats_0) rfl) z4) (am_hc am_cats_0 rfl) (fun _ => ⟨rfl, hh_352⟩) (fun o1 hz9 => rm_340 x0 h o1 i0 hz9) ?_
    rcases am_cI_s hs2 with ⟨v5, h6, f7, hs3⟩ | hs3
    · clear hs2
      refine Or.inl ⟨_, _, f7, ?_⟩
      show am_W X _ 352 22 _ [(.int v5)] h6 _
      by_cases c8 : ¬ v5 = 0
      · rw [if_pos c8] at hs3
        refine aw_ifne_t at_352_22 c8 ?_
        refine aw_vload_n (pc1 := 28) at_352_27 l0 i0 rfl ?_
        obtain ⟨v9, e10, hs4⟩ := am_bind hs3
        clear hs3
        refine aw_pG (pc1 := 31) at_352_28 (am_vI_s e10) rfl ?_
        refine aw_istore_n (lv1 := am_put1 _ 1 _) (pc1 := 32) at_352_31 rfl rfl ?_
        refine aw_vload_n (pc1 := 33) at_352_32 (am_lk1 l0 rfl (by rw [am_isRc i0]; rfl)) i0 rfl ?_
        refine aw_bipush (v := 58) (pc1 := 35) at_352_33 (by decide) rfl ?_
        obtain ⟨z11, hs5⟩ := am_ift hs4
        clear hs4
        refine aw_call (F := fm_336 x0 58 h6) (t := true) (na := 2) (kd := 1) (as := [x0, (.int 58)]) at_352_35 (am_k3v kb_336) mn_336 mk_336 rfl rfl (am_ok_v mi_336 (am_hl rfl (am_ccR i0 (am_ccI am_cats_0)) rfl) z11) (am_hc am_cats_0 rfl) (fun _ => ⟨rfl, hh_352⟩) (fun o1 hz9 => rm_336 x0 58 h6 o1 i0 hz9) ?_
        rcases am_cI_s hs5 with ⟨v12, h13, f14, hs6⟩ | hs6
        · clear hs5
          refine Or.inl ⟨_, _, f14, ?_⟩
          show am_W X _ 352 38 _ [(.int v12)] h13 _
          by_cases c15 : ¬ v12 = 0
          · rw [if_pos c15] at hs6
            refine aw_ifne_t at_352_38 c15 ?_
            refine aw_vload_n (pc1 := 44) at_352_43 (am_lk1 l0 rfl (by rw [am_isRc i0]; rfl)) i0 rfl ?_
            obtain ⟨v16, e17, hs7⟩ := am_bind hs6
            clear hs6
            refine aw_pG (pc1 := 47) at_352_44 (am_vR_s e17).1 rfl ?_
            refine aw_vload_n (pc1 := 48) at_352_47 (am_lk1 l0 rfl (by rw [am_isRc i0]; rfl)) i0 rfl ?_
            obtain ⟨v18, e19, hs8⟩ := am_bind hs7
            clear hs7
            refine aw_pG (pc1 := 51) at_352_48 (am_vI_s e19) rfl ?_
            refine aw_vload_n (pc1 := 52) at_352_51 (am_lk1 l0 rfl (by rw [am_isRc i0]; rfl)) i0 rfl ?_
            obtain ⟨v20, e21, hs9⟩ := am_bind hs8
            clear hs8
            refine aw_pG (pc1 := 55) at_352_52 (am_vI_s e21) rfl ?_
            obtain ⟨h22, e23, hs10⟩ := am_bind hs9
            clear hs9
            refine aw_pS (pc1 := 56) at_352_55 (Or.inl ⟨rfl, rfl⟩) e23 rfl ?_
            refine aw_iconst (v := 0) (pc1 := 57) at_352_56 (by decide) rfl ?_
            refine aw_istore_n (lv1 := am_put1 _ 2 _) (pc1 := 58) at_352_57 rfl rfl ?_
            refine aw_iconst (v := 0) (pc1 := 59) at_352_58 (by decide) rfl ?_
            refine aw_istore_n (lv1 := am_put1 _ 3 _) (pc1 := 60) at_352_59 rfl rfl ?_
            exact rg_352_60 N x0 v9 0 0 h22 o hs10 _ (am_lk1 (am_lk1 (am_lk1 l0 rfl (by rw [am_isRc i0]; rfl)) rfl rfl) rfl rfl) (am_lk1 (am_lk1 am_lk0 rfl rfl) rfl rfl) (am_lk1 am_lk0 rfl rfl) am_lk0 i0
          · rw [if_neg c15] at hs6
            refine aw_ifne_f (pc1 := 41) at_352_38 c15 rfl ?_
            refine aw_iconst (v := 0) (pc1 := 42) at_352_41 (by decide) rfl ?_
            cases hs6
            exact aw_iret at_352_42 (by rw [rt_352]; decide) rfl
        · clear hs5
          exact Or.inr hs6
      · rw [if_neg c8] at hs3
        refine aw_ifne_f (pc1 := 25) at_352_22 c8 rfl ?_
        refine aw_iconst (v := 0) (pc1 := 26) at_352_25 (by decide) rfl ?_
        cases hs3
        exact aw_iret at_352_26 (by rw [rt_352]; decide) rfl
    · clear hs2
      exact Or.inr hs3
  · rw [if_neg c3] at hs1
    refine aw_icne_f (pc1 := 9) at_352_6 c3 rfl ?_
    refine aw_vload_n (pc1 := 10) at_352_9 l0 i0 rfl ?_
    refine aw_vload_n (pc1 := 11) at_352_10 l0 i0 rfl ?_
    obtain ⟨v24, e25, hs11⟩ := am_bind hs1
    clear hs1
    refine aw_pG (pc1 := 14) at_352_11 (am_vI_s e25) rfl ?_
    obtain ⟨z26, hs12⟩ := am_ift hs11
    clear hs11
    refine aw_call (F := fm_331 x0 v24 h) (t := true) (na := 2) (kd := 1) (as := [x0, (.int v24)]) at_352_14 (am_k3v kb_331) mn_331 mk_331 rfl rfl (am_ok_v mi_331 (am_hl rfl (am_ccR i0 (am_ccI am_cats_0)) rfl) z26) (am_hc am_cats_0 rfl) (fun _ => ⟨rfl, hh_352⟩) (fun o1 hz9 => rm_331 x0 v24 h o1 i0 hz9) ?_
    rcases am_cI_s hs12 with ⟨v27, h28, f29, hs13⟩ | hs13
    · clear hs12
      refine Or.inl ⟨_, _, f29, ?_⟩
      show am_W X _ 352 17 _ [(.int v27)] h28 _
      obtain ⟨z30, hs14⟩ := am_ift hs13
      clear hs13
      cases hs14
      exact aw_iret at_352_17 (by rw [rt_352]; exact z30) rfl
    · clear hs12
      exact Or.inr hs13
def fm_352 (N : Nat) (y0 : Value) (h : am_H) : Option am_O := fg_352_0 N y0 h
theorem rm_352 {X : am_X} {d : Nat} {N : Nat} (y0 : Value) (h : am_H) (o : am_O) (i0 : am_isR y0 = true) (hs : fm_352 N y0 h = some o) : am_W X (d + 4) 352 0 (am_args 0 [y0]) [] h (fun q => q = o) := by
  rw [am_args_R i0]
  exact rg_352_0 y0 h o rfl i0 hs
def fg_351_116 (N : Nat) (h : am_H) : Option am_O := some (.inl (none, h))
theorem rg_351_116 {X : am_X} {d : Nat} {N : Nat} {lv : am_LV} (h : am_H) (o : am_O) (hs : fg_351_116 N h = some o) : am_W X (d + 5) 351 116 lv [] h (fun q => q = o) := by
  unfold fg_351_116 at hs
  cases hs
  exact aw_vret at_351_116 rt_351 rfl
def fg_351_110 (N : Nat) (rec_63 : Value → Int32 → am_H → Option am_O) (x0 : Value) (x2 : Int32) (h : am_H) : Option am_O := (rec_63 x0 ((x2 + 1)) h)
theorem rg_351_110 {X : am_X} {d : Nat} {N : Nat} {rec_63 : Value → Int32 → am_H → Option am_O} (q_63 : ∀ (x0 : Value) (x2 : Int32) (h : am_H) (o : am_O), rec_63 x0 x2 h = some o → ∀ lv : am_LV, (lv.lookup 0 = some x0) → (lv.lookup 2 = some (.int x2)) → (am_isR x0 = true) → am_W X (d + 5) 351 63 lv [] h (fun q => q = o)) {lv : am_LV} (x0 : Value) (x2 : Int32) (h : am_H) (o : am_O) (l0 : lv.lookup 0 = some x0) (l2 : lv.lookup 2 = some (.int x2)) (i0 : am_isR x0 = true) (hs : fg_351_110 N rec_63 x0 x2 h = some o) : am_W X (d + 5) 351 110 lv [] h (fun q => q = o) := by
  unfold fg_351_110 at hs
  refine aw_iinc (v := (x2 + 1)) (c := 1) (lv1 := am_put1 _ 2 _) (pc1 := 113) at_351_110 l2 (by decide) rfl rfl rfl ?_
  refine aw_goto at_351_113 ?_
  exact q_63 x0 ((x2 + 1)) h o hs _ (am_lk1 l0 rfl rfl) am_lk0 i0
def fg_351_63 (N : Nat) : Nat → Value → Int32 → am_H → Option am_O
  | 0 => fun _ _ _ => none
  | K + 1 => fun x0 x2 h => ((am_vI (am_pG 3086 x0 h)).bind fun v1 => (if (4 * v1) ≤ x2 then (fg_351_116 N h) else ((am_vI (am_pG 3142 x0 h)).bind fun v4 => (if 0 ≤ v4 then (fg_351_116 N h) else ((am_vR (am_pG 3100 x0 h)).bind fun v7 => ((am_pA 0 v7 x2 h).bind fun v9 => ((am_vI (am_pG 3086 x0 h)).bind fun v11 => (if v9 < v11 then (fg_351_110 N (fg_351_63 N K) x0 x2 h) else ((am_vR (am_pG 3143 x0 h)).bind fun v14 => ((am_pA 0 v14 (x2 / 4) h).bind fun v16 => (if am_pOk 12 x0 h then am_cI true (fm_331 x0 ((v16 + (x2 - x2 / 4 * 4))) h) (fun v19 h20 => (fg_351_110 N (fg_351_63 N K) x0 x2 h20)) else none)))))))))))
theorem rg_351_63 {X : am_X} {d : Nat} {N : Nat} : ∀ (K : Nat) (x0 : Value) (x2 : Int32) (h : am_H) (o : am_O), fg_351_63 N K x0 x2 h = some o → ∀ lv : am_LV, (lv.lookup 0 = some x0) → (lv.lookup 2 = some (.int x2)) → (am_isR x0 = true) → am_W X (d + 5) 351 63 lv [] h (fun q => q = o) := by
  intro K
  induction K with
  | zero => intro x0 x2 h o hs; cases hs
  | succ K ih =>
    intro x0 x2 h o hs lv l0 l2 i0
    unfold fg_351_63 at hs
    refine aw_iload_n (pc1 := 64) at_351_63 l2 rfl ?_
    refine aw_iconst (v := 4) (pc1 := 65) at_351_64 (by decide) rfl ?_
    refine aw_vload_n (pc1 := 66) at_351_65 l0 i0 rfl ?_
    obtain ⟨v1, e2, hs1⟩ := am_bind hs
    clear hs
    refine aw_pG (pc1 := 69) at_351_66 (am_vI_s e2) rfl ?_
    refine aw_imul (v := (4 * v1)) (pc1 := 70) at_351_69 rfl rfl ?_
    by_cases c3 : (4 * v1) ≤ x2
    · rw [if_pos c3] at hs1
      refine aw_icge_t at_351_70 c3 ?_
      exact rg_351_116 h o   hs1
    · rw [if_neg c3] at hs1
      refine aw_icge_f (pc1 := 73) at_351_70 c3 rfl ?_
      refine aw_vload_n (pc1 := 74) at_351_73 l0 i0 rfl ?_
      obtain ⟨v4, e5, hs2⟩ := am_bind hs1
      clear hs1
      refine aw_pG (pc1 := 77) at_351_74 (am_vI_s e5) rfl ?_
      by_cases c6 : 0 ≤ v4
      · rw [if_pos c6] at hs2
        refine aw_ifge_t at_351_77 c6 ?_
        exact rg_351_116 h o   hs2
      · rw [if_neg c6] at hs2
        refine aw_ifge_f (pc1 := 80) at_351_77 c6 rfl ?_
        refine aw_vload_n (pc1 := 81) at_351_80 l0 i0 rfl ?_
        obtain ⟨v7, e8, hs3⟩ := am_bind hs2
        clear hs2
        refine aw_pG (pc1 := 84) at_351_81 (am_vR_s e8).1 rfl ?_
        refine aw_iload_n (pc1 := 85) at_351_84 l2 rfl ?_
        obtain ⟨v9, e10, hs4⟩ := am_bind hs3
        clear hs3
        refine aw_pA (pc1 := 86) at_351_85 (Or.inl ⟨rfl, rfl⟩) e10 rfl ?_
        refine aw_vload_n (pc1 := 87) at_351_86 l0 i0 rfl ?_
        obtain ⟨v11, e12, hs5⟩ := am_bind hs4
        clear hs4
        refine aw_pG (pc1 := 90) at_351_87 (am_vI_s e12) rfl ?_
        by_cases c13 : v9 < v11
        · rw [if_pos c13] at hs5
          refine aw_iclt_t at_351_90 c13 ?_
          exact rg_351_110 (fun z0 z1 h o hs5 => ih z0 z1 h o hs5) x0 x2 h o l0 l2 i0 hs5
        · rw [if_neg c13] at hs5
          refine aw_iclt_f (pc1 := 93) at_351_90 c13 rfl ?_
          refine aw_vload_n (pc1 := 94) at_351_93 l0 i0 rfl ?_
          refine aw_vload_n (pc1 := 95) at_351_94 l0 i0 rfl ?_
          obtain ⟨v14, e15, hs6⟩ := am_bind hs5
          clear hs5
          refine aw_pG (pc1 := 98) at_351_95 (am_vR_s e15).1 rfl ?_
          refine aw_iload_n (pc1 := 99) at_351_98 l2 rfl ?_
          refine aw_iconst (v := 4) (pc1 := 100) at_351_99 (by decide) rfl ?_
          refine aw_idiv (v := (x2 / 4)) (pc1 := 101) at_351_100 (by decide) rfl rfl ?_
          obtain ⟨v16, e17, hs7⟩ := am_bind hs6
          clear hs6
          refine aw_pA (pc1 := 102) at_351_101 (Or.inl ⟨rfl, rfl⟩) e17 rfl ?_
          refine aw_iload_n (pc1 := 103) at_351_102 l2 rfl ?_
          refine aw_iconst (v := 4) (pc1 := 104) at_351_103 (by decide) rfl ?_
          refine aw_irem (v := (x2 - x2 / 4 * 4)) (pc1 := 105) at_351_104 (by decide) rfl rfl ?_
          refine aw_iadd (v := (v16 + (x2 - x2 / 4 * 4))) (pc1 := 106) at_351_105 rfl rfl ?_
          obtain ⟨z18, hs8⟩ := am_ift hs7
          clear hs7
          refine aw_call (F := fm_331 x0 ((v16 + (x2 - x2 / 4 * 4))) h) (t := true) (na := 2) (kd := 1) (as := [x0, (.int (v16 + (x2 - x2 / 4 * 4)))]) at_351_106 (am_k3v kb_331) mn_331 mk_331 rfl rfl (am_ok_v mi_331 (am_hl rfl (am_ccR i0 (am_ccI am_cats_0)) rfl) z18) (am_hc am_cats_0 rfl) (fun _ => ⟨rfl, hh_351⟩) (fun o1 hz9 => rm_331 x0 ((v16 + (x2 - x2 / 4 * 4))) h o1 i0 hz9) ?_
          rcases am_cI_s hs8 with ⟨v19, h20, f21, hs9⟩ | hs9
          · clear hs8
            refine Or.inl ⟨_, _, f21, ?_⟩
            show am_W X _ 351 109 _ [(.int v19)] h20 _
            refine aw_popi (pc1 := 110) at_351_109 rfl ?_
            exact rg_351_110 (fun z0 z1 h o hs9 => ih z0 z1 h o hs9) x0 x2 h20 o l0 l2 i0 hs9
          · clear hs8
            exact Or.inr hs9
def fg_351_61 (N : Nat) (x0 : Value) (h : am_H) : Option am_O := (fg_351_63 N N x0 0 h)
theorem rg_351_61 {X : am_X} {d : Nat} {N : Nat} {lv : am_LV} (x0 : Value) (h : am_H) (o : am_O) (l0 : lv.lookup 0 = some x0) (i0 : am_isR x0 = true) (hs : fg_351_61 N x0 h = some o) : am_W X (d + 5) 351 61 lv [] h (fun q => q = o) := by
  unfold fg_351_61 at hs
  refine aw_iconst (v := 0) (pc1 := 62) at_351_61 (by decide) rfl ?_
  refine aw_istore_n (lv1 := am_put1 _ 2 _) (pc1 := 63) at_351_62 rfl rfl ?_
  exact rg_351_63 N x0 0 h o hs _ (am_lk1 l0 rfl rfl) am_lk0 i0
def fg_351_57 (N : Nat) (rec_2 : Value → Int32 → am_H → Option am_O) (x0 : Value) (s0 : Int32) (h : am_H) : Option am_O := (rec_2 x0 s0 h)
theorem rg_351_57 {X : am_X} {d : Nat} {N : Nat} {rec_2 : Value → Int32 → am_H → Option am_O} (q_2 : ∀ (x0 : Value) (x1 : Int32) (h : am_H) (o : am_O), rec_2 x0 x1 h = some o → ∀ lv : am_LV, (lv.lookup 0 = some x0) → (lv.lookup 1 = some (.int x1)) → (am_isR x0 = true) → am_W X (d + 5) 351 2 lv [] h (fun q => q = o)) {lv : am_LV} (x0 : Value) (s0 : Int32) (h : am_H) (o : am_O) (l0 : lv.lookup 0 = some x0) (i0 : am_isR x0 = true) (hs : fg_351_57 N rec_2 x0 s0 h = some o) : am_W X (d + 5) 351 57 lv [(.int s0)] h (fun q => q = o) := by
  unfold fg_351_57 at hs
  refine aw_istore_n (lv1 := am_put1 _ 1 _) (pc1 := 58) at_351_57 rfl rfl ?_
  refine aw_goto at_351_58 ?_
  exact q_2 x0 s0 h o hs _ (am_lk1 l0 rfl (by rw [am_isRc i0]; rfl)) am_lk0 i0
def fg_351_56 (N : Nat) (rec_2 : Value → Int32 → am_H → Option am_O) (x0 : Value) (h : am_H) : Option am_O := (fg_351_57 N rec_2 x0 0 h)
theorem rg_351_56 {X : am_X} {d : Nat} {N : Nat} {rec_2 : Value → Int32 → am_H → Option am_O} (q_2 : ∀ (x0 : Value) (x1 : Int32) (h : am_H) (o : am_O), rec_2 x0 x1 h = some o → ∀ lv : am_LV, (lv.lookup 0 = some x0) → (lv.lookup 1 = some (.int x1)) → (am_isR x0 = true) → am_W X (d + 5) 351 2 lv [] h (fun q => q = o)) {lv : am_LV} (x0 : Value) (h : am_H) (o : am_O) (l0 : lv.lookup 0 = some x0) (i0 : am_isR x0 = true) (hs : fg_351_56 N rec_2 x0 h = some o) : am_W X (d + 5) 351 56 lv [] h (fun q => q = o) := by
  unfold fg_351_56 at hs
  refine aw_iconst (v := 0) (pc1 := 57) at_351_56 (by decide) rfl ?_
  exact rg_351_57 q_2 x0 0 h o l0 i0 hs
def fg_351_41 (N : Nat) (rec_2 : Value → Int32 → am_H → Option am_O) (x0 : Value) (x1 : Int32) (h : am_H) : Option am_O := (if x1 = 0 then (fg_351_56 N rec_2 x0 h) else ((am_vI (am_pG 3142 x0 h)).bind fun v2 => (if 0 ≤ v2 then (fg_351_56 N rec_2 x0 h) else (fg_351_57 N rec_2 x0 1 h))))
theorem rg_351_41 {X : am_X} {d : Nat} {N : Nat} {rec_2 : Value → Int32 → am_H → Option am_O} (q_2 : ∀ (x0 : Value) (x1 : Int32) (h : am_H) (o : am_O), rec_2 x0 x1 h = some o → ∀ lv : am_LV, (lv.lookup 0 = some x0) → (lv.lookup 1 = some (.int x1)) → (am_isR x0 = true) → am_W X (d + 5) 351 2 lv [] h (fun q => q = o)) {lv : am_LV} (x0 : Value) (x1 : Int32) (h : am_H) (o : am_O) (l0 : lv.lookup 0 = some x0) (l1 : lv.lookup 1 = some (.int x1)) (i0 : am_isR x0 = true) (hs : fg_351_41 N rec_2 x0 x1 h = some o) : am_W X (d + 5) 351 41 lv [] h (fun q => q = o) := by
  unfold fg_351_41 at hs
  refine aw_iload_n (pc1 := 42) at_351_41 l1 rfl ?_
  by_cases c1 : x1 = 0
  · rw [if_pos c1] at hs
    refine aw_ifeq_t at_351_42 c1 ?_
    exact rg_351_56 q_2 x0 h o l0 i0 hs
  · rw [if_neg c1] at hs
    refine aw_ifeq_f (pc1 := 45) at_351_42 c1 rfl ?_
    refine aw_vload_n (pc1 := 46) at_351_45 l0 i0 rfl ?_
    obtain ⟨v2, e3, hs1⟩ := am_bind hs
    clear hs
    refine aw_pG (pc1 := 49) at_351_46 (am_vI_s e3) rfl ?_
    by_cases c4 : 0 ≤ v2
    · rw [if_pos c4] at hs1
      refine aw_ifge_t at_351_49 c4 ?_
      exact rg_351_56 q_2 x0 h o l0 i0 hs1
    · rw [if_neg c4] at hs1
      refine aw_ifge_f (pc1 := 52) at_351_49 c4 rfl ?_
      refine aw_iconst (v := 1) (pc1 := 53) at_351_52 (by decide) rfl ?_
      refine aw_goto at_351_53 ?_
      exact rg_351_57 q_2 x0 1 h o l0 i0 hs1
def fg_351_29 (N : Nat) (rec_2 : Value → Int32 → am_H → Option am_O) (x0 : Value) (s0 : Int32) (h : am_H) : Option am_O := (if s0 = 0 then (fg_351_41 N rec_2 x0 s0 h) else (if am_pOk 12 x0 h then am_cI true (fm_336 x0 59 h) (fun v3 h4 => (fg_351_41 N rec_2 x0 s0 h4)) else none))
theorem rg_351_29 {X : am_X} {d : Nat} {N : Nat} {rec_2 : Value → Int32 → am_H → Option am_O} (q_2 : ∀ (x0 : Value) (x1 : Int32) (h : am_H) (o : am_O), rec_2 x0 x1 h = some o → ∀ lv : am_LV, (lv.lookup 0 = some x0) → (lv.lookup 1 = some (.int x1)) → (am_isR x0 = true) → am_W X (d + 5) 351 2 lv [] h (fun q => q = o)) {lv : am_LV} (x0 : Value) (s0 : Int32) (h : am_H) (o : am_O) (l0 : lv.lookup 0 = some x0) (i0 : am_isR x0 = true) (hs : fg_351_29 N rec_2 x0 s0 h = some o) : am_W X (d + 5) 351 29 lv [(.int s0)] h (fun q => q = o) := by
  unfold fg_351_29 at hs
  refine aw_istore_n (lv1 := am_put1 _ 1 _) (pc1 := 30) at_351_29 rfl rfl ?_
  refine aw_iload_n (pc1 := 31) at_351_30 am_lk0 rfl ?_
  by_cases c1 : s0 = 0
  · rw [if_pos c1] at hs
    refine aw_ifeq_t at_351_31 c1 ?_
    exact rg_351_41 q_2 x0 s0 h o (am_lk1 l0 rfl (by rw [am_isRc i0]; rfl)) am_lk0 i0 hs
  · rw [if_neg c1] at hs
    refine aw_ifeq_f (pc1 := 34) at_351_31 c1 rfl ?_
    refine aw_vload_n (pc1 := 35) at_351_34 (am_lk1 l0 rfl (by rw [am_isRc i0]; rfl)) i0 rfl ?_
    refine aw_bipush (v := 59) (pc1 := 37) at_351_35 (by decide) rfl ?_
    obtain ⟨z2, hs1⟩ := am_ift hs
    clear hs
    refine aw_call (F := fm_336 x0 59 h) (t := true) (na := 2) (kd := 1) (as := [x0, (.int 59)]) at_351_37 (am_k3v kb_336) mn_336 mk_336 rfl rfl (am_ok_v mi_336 (am_hl rfl (am_ccR i0 (am_ccI am_cats_0)) rfl) z2) (am_hc am_cats_0 rfl) (fun _ => ⟨rfl, hh_351⟩) (fun o1 hz9 => rm_336 x0 59 h o1 i0 hz9) ?_
    rcases am_cI_s hs1 with ⟨v3, h4, f5, hs2⟩ | hs2
    · clear hs1
      refine Or.inl ⟨_, _, f5, ?_⟩
      show am_W X _ 351 40 _ [(.int v3)] h4 _
      refine aw_popi (pc1 := 41) at_351_40 rfl ?_
      exact rg_351_41 q_2 x0 s0 h4 o (am_lk1 l0 rfl (by rw [am_isRc i0]; rfl)) am_lk0 i0 hs2
    · clear hs1
      exact Or.inr hs2
def fg_351_2 (N : Nat) : Nat → Value → Int32 → am_H → Option am_O
  | 0 => fun _ _ _ => none
  | K + 1 => fun x0 x1 h => (if x1 = 0 then (fg_351_61 N x0 h) else (if am_pOk 12 x0 h then am_cI true (fm_352 N x0 h) (fun v3 h4 => (if v3 = 0 then (fg_351_61 N x0 h4) else ((am_vI (am_pG 3141 x0 h4)).bind fun v7 => ((am_vI (am_pG 3140 x0 h4)).bind fun v9 => (if v9 ≤ v7 then (fg_351_29 N (fg_351_2 N K) x0 0 h4) else (fg_351_29 N (fg_351_2 N K) x0 1 h4)))))) else none))
theorem rg_351_2 {X : am_X} {d : Nat} {N : Nat} : ∀ (K : Nat) (x0 : Value) (x1 : Int32) (h : am_H) (o : am_O), fg_351_2 N K x0 x1 h = some o → ∀ lv : am_LV, (lv.lookup 0 = some x0) → (lv.lookup 1 = some (.int x1)) → (am_isR x0 = true) → am_W X (d + 5) 351 2 lv [] h (fun q => q = o) := by
  intro K
  induction K with
  | zero => intro x0 x1 h o hs; cases hs
  | succ K ih =>
    intro x0 x1 h o hs lv l0 l1 i0
    unfold fg_351_2 at hs
    refine aw_iload_n (pc1 := 3) at_351_2 l1 rfl ?_
    by_cases c1 : x1 = 0
    · rw [if_pos c1] at hs
      refine aw_ifeq_t at_351_3 c1 ?_
      exact rg_351_61 x0 h o l0 i0 hs
    · rw [if_neg c1] at hs
      refine aw_ifeq_f (pc1 := 6) at_351_3 c1 rfl ?_
      refine aw_vload_n (pc1 := 7) at_351_6 l0 i0 rfl ?_
      obtain ⟨z2, hs1⟩ := am_ift hs
      clear hs
      refine aw_call (F := fm_352 N x0 h) (t := true) (na := 1) (kd := 1) (as := [x0]) at_351_7 (am_k3v kb_352) mn_352 mk_352 rfl rfl (am_ok_v mi_352 (am_hl rfl (am_ccR i0 am_cats_0) rfl) z2) (am_hc am_cats_0 rfl) (fun _ => ⟨rfl, hh_351⟩) (fun o1 hz9 => rm_352 x0 h o1 i0 hz9) ?_
      rcases am_cI_s hs1 with ⟨v3, h4, f5, hs2⟩ | hs2
      · clear hs1
        refine Or.inl ⟨_, _, f5, ?_⟩
        show am_W X _ 351 10 _ [(.int v3)] h4 _
        by_cases c6 : v3 = 0
        · rw [if_pos c6] at hs2
          refine aw_ifeq_t at_351_10 c6 ?_
          exact rg_351_61 x0 h4 o l0 i0 hs2
        · rw [if_neg c6] at hs2
          refine aw_ifeq_f (pc1 := 13) at_351_10 c6 rfl ?_
          refine aw_vload_n (pc1 := 14) at_351_13 l0 i0 rfl ?_
          obtain ⟨v7, e8, hs3⟩ := am_bind hs2
          clear hs2
          refine aw_pG (pc1 := 17) at_351_14 (am_vI_s e8) rfl ?_
          refine aw_vload_n (pc1 := 18) at_351_17 l0 i0 rfl ?_
          obtain ⟨v9, e10, hs4⟩ := am_bind hs3
          clear hs3
          refine aw_pG (pc1 := 21) at_351_18 (am_vI_s e10) rfl ?_
          by_cases c11 : v9 ≤ v7
          · rw [if_pos c11] at hs4
            refine aw_icge_t at_351_21 c11 ?_
            refine aw_iconst (v := 0) (pc1 := 29) at_351_28 (by decide) rfl ?_
            exact rg_351_29 (fun z0 z1 h o hs4 => ih z0 z1 h o hs4) x0 0 h4 o l0 i0 hs4
          · rw [if_neg c11] at hs4
            refine aw_icge_f (pc1 := 24) at_351_21 c11 rfl ?_
            refine aw_iconst (v := 1) (pc1 := 25) at_351_24 (by decide) rfl ?_
            refine aw_goto at_351_25 ?_
            exact rg_351_29 (fun z0 z1 h o hs4 => ih z0 z1 h o hs4) x0 1 h4 o l0 i0 hs4
      · clear hs1
        exact Or.inr hs2
def fg_351_0 (N : Nat) (x0 : Value) (h : am_H) : Option am_O := (fg_351_2 N N x0 1 h)
theorem rg_351_0 {X : am_X} {d : Nat} {N : Nat} {lv : am_LV} (x0 : Value) (h : am_H) (o : am_O) (l0 : lv.lookup 0 = some x0) (i0 : am_isR x0 = true) (hs : fg_351_0 N x0 h = some o) : am_W X (d + 5) 351 0 lv [] h (fun q => q = o) := by
  unfold fg_351_0 at hs
  refine aw_iconst (v := 1) (pc1 := 1) at_351_0 (by decide) rfl ?_
  refine aw_istore_n (lv1 := am_put1 _ 1 _) (pc1 := 2) at_351_1 rfl rfl ?_
  exact rg_351_2 N x0 1 h o hs _ (am_lk1 l0 rfl (by rw [am_isRc i0]; rfl)) am_lk0 i0
def fm_351 (N : Nat) (y0 : Value) (h : am_H) : Option am_O := fg_351_0 N y0 h
theorem rm_351 {X : am_X} {d : Nat} {N : Nat} (y0 : Value) (h : am_H) (o : am_O) (i0 : am_isR y0 = true) (hs : fm_351 N y0 h = some o) : am_W X (d + 5) 351 0 (am_args 0 [y0]) [] h (fun q => q = o) := by
  rw [am_args_R i0]
  exact rg_351_0 y0 h o rfl i0 hs
def fg_355_126 (x0 : Value) (h : am_H) : Option am_O := ((am_vI (am_pG 3141 x0 h)).bind fun v1 => (if am_pOk 12 x0 h then am_cI true (fm_331 x0 v1 h) (fun v4 h5 => (if am_rfit (some FieldType.boolean) v4 then some (.inl (some (.int v4), h5)) else none)) else none))
theorem rg_355_126 {X : am_X} {d : Nat} {lv : am_LV} (x0 : Value) (h : am_H) (o : am_O) (l0 : lv.lookup 0 = some x0) (i0 : am_isR x0 = true) (hs : fg_355_126 x0 h = some o) : am_W X (d + 2) 355 126 lv [] h (fun q => q = o) := by
  unfold fg_355_126 at hs
  refine aw_vload_n (pc1 := 127) at_355_126 l0 i0 rfl ?_
  refine aw_vload_n (pc1 := 128) at_355_127 l0 i0 rfl ?_
  obtain ⟨v1, e2, hs1⟩ := am_bind hs
  clear hs
  refine aw_pG (pc1 := 131) at_355_128 (am_vI_s e2) rfl ?_
  obtain ⟨z3, hs2⟩ := am_ift hs1
  clear hs1
  refine aw_call (F := fm_331 x0 v1 h) (t := true) (na := 2) (kd := 1) (as := [x0, (.int v1)]) at_355_131 (am_k3v kb_331) mn_331 mk_331 rfl rfl (am_ok_v mi_331 (am_hl rfl (am_ccR i0 (am_ccI am_cats_0)) rfl) z3) (am_hc am_cats_0 rfl) (fun _ => ⟨rfl, hh_355⟩) (fun o1 hz9 => rm_331 x0 v1 h o1 i0 hz9) ?_
  rcases am_cI_s hs2 with ⟨v4, h5, f6, hs3⟩ | hs3
  · clear hs2
    refine Or.inl ⟨_, _, f6, ?_⟩
    show am_W X _ 355 134 _ [(.int v4)] h5 _
    obtain ⟨z7, hs4⟩ := am_ift hs3
    clear hs3
    cases hs4
    exact aw_iret at_355_134 (by rw [rt_355]; exact z7) rfl
  · clear hs2
    exact Or.inr hs3
def fg_355_48 (x0 : Value) (h : am_H) : Option am_O := ((am_vI (am_pG 3141 x0 h)).bind fun v1 => (if am_pOk 12 x0 h then am_cI true (fm_331 x0 v1 h) (fun v4 h5 => (if am_rfit (some FieldType.boolean) v4 then some (.inl (some (.int v4), h5)) else none)) else none))
theorem rg_355_48 {X : am_X} {d : Nat} {lv : am_LV} (x0 : Value) (h : am_H) (o : am_O) (l0 : lv.lookup 0 = some x0) (i0 : am_isR x0 = true) (hs : fg_355_48 x0 h = some o) : am_W X (d + 2) 355 48 lv [] h (fun q => q = o) := by
  unfold fg_355_48 at hs
  refine aw_vload_n (pc1 := 49) at_355_48 l0 i0 rfl ?_
  refine aw_vload_n (pc1 := 50) at_355_49 l0 i0 rfl ?_
  obtain ⟨v1, e2, hs1⟩ := am_bind hs
  clear hs
  refine aw_pG (pc1 := 53) at_355_50 (am_vI_s e2) rfl ?_
  obtain ⟨z3, hs2⟩ := am_ift hs1
  clear hs1
  refine aw_call (F := fm_331 x0 v1 h) (t := true) (na := 2) (kd := 1) (as := [x0, (.int v1)]) at_355_53 (am_k3v kb_331) mn_331 mk_331 rfl rfl (am_ok_v mi_331 (am_hl rfl (am_ccR i0 (am_ccI am_cats_0)) rfl) z3) (am_hc am_cats_0 rfl) (fun _ => ⟨rfl, hh_355⟩) (fun o1 hz9 => rm_331 x0 v1 h o1 i0 hz9) ?_
  rcases am_cI_s hs2 with ⟨v4, h5, f6, hs3⟩ | hs3
  · clear hs2
    refine Or.inl ⟨_, _, f6, ?_⟩
    show am_W X _ 355 56 _ [(.int v4)] h5 _
    obtain ⟨z7, hs4⟩ := am_ift hs3
    clear hs3
    cases hs4
    exact aw_iret at_355_56 (by rw [rt_355]; exact z7) rfl
  · clear hs2
    exact Or.inr hs3
def fg_355_0 (x0 : Value) (h : am_H) : Option am_O := ((am_vI (am_pG 3086 x0 h)).bind fun v1 => (if ¬ v1 = 40 then ((am_vI (am_pG 3141 x0 h)).bind fun v4 => (if am_pOk 12 x0 h then am_cI true (fm_339 x0 v4 h) (fun v7 h8 => (if v7 = 0 then (fg_355_48 x0 h8) else ((am_vR (am_pG 3139 x0 h8)).bind fun v11 => ((am_vI (am_pG 3141 x0 h8)).bind fun v13 => ((am_pA 0 v11 v13 h8).bind fun v15 => ((am_vI (am_pG 3087 x0 h8)).bind fun v17 => (if (v15 - 48) < v17 then ((am_vR (am_pG 3139 x0 h8)).bind fun v20 => ((am_vI (am_pG 3141 x0 h8)).bind fun v22 => ((am_pA 0 v20 v22 h8).bind fun v24 => ((am_vI (am_pG 3141 x0 h8)).bind fun v26 => ((am_pP 3141 x0 (.int (v26 + 1)) h8).bind fun h28 => ((am_vI (am_pG 3141 x0 h28)).bind fun v30 => (if am_pOk 12 x0 h28 then am_cI true (fm_339 x0 v30 h28) (fun v33 h34 => (if v33 = 0 then (fg_355_126 x0 h34) else ((am_vR (am_pG 3139 x0 h34)).bind fun v37 => ((am_vI (am_pG 3141 x0 h34)).bind fun v39 => ((am_pA 0 v37 v39 h34).bind fun v41 => ((am_vI (am_pG 3087 x0 h34)).bind fun v43 => (if v43 ≤ (v41 - 48) then (fg_355_126 x0 h34) else ((am_vR (am_pG 3139 x0 h34)).bind fun v46 => ((am_vI (am_pG 3141 x0 h34)).bind fun v48 => ((am_pA 0 v46 v48 h34).bind fun v50 => (if (v24 - 48) < (v50 - 48) then ((am_vR (am_pG 3139 x0 h34)).bind fun v53 => ((am_vI (am_pG 3141 x0 h34)).bind fun v55 => ((am_pA 0 v53 v55 h34).bind fun v57 => (if am_pOk 12 x0 h34 then am_cV true (fm_335 x0 ((v24 - 48)) ((v57 - 48)) h34) (fun h61 => ((am_vI (am_pG 3141 x0 h61)).bind fun v63 => ((am_pP 3141 x0 (.int (v63 + 1)) h61).bind fun h65 => some (.inl (some (.int 1), h65))))) else none)))) else (fg_355_126 x0 h34)))))))))))) else none))))))) else (fg_355_48 x0 h8)))))))) else none)) else ((am_vI (am_pG 3141 x0 h)).bind fun v67 => (if am_pOk 12 x0 h then am_cI true (fm_331 x0 v67 h) (fun v70 h71 => (if am_rfit (some FieldType.boolean) v70 then some (.inl (some (.int v70), h71)) else none)) else none))))
theorem rg_355_0 {X : am_X} {d : Nat} {lv : am_LV} (x0 : Value) (h : am_H) (o : am_O) (l0 : lv.lookup 0 = some x0) (i0 : am_isR x0 = true) (hs : fg_355_0 x0 h = some o) : am_W X (d + 2) 355 0 lv [] h (fun q => q = o) := by
  unfold fg_355_0 at hs
  refine aw_vload_n (pc1 := 1) at_355_0 l0 i0 rfl ?_
  obtain ⟨v1, e2, hs1⟩ := am_bind hs
  clear hs
  refine aw_pG (pc1 := 4) at_355_1 (am_vI_s e2) rfl ?_
  refine aw_bipush (v := 40) (pc1 := 6) at_355_4 (by decide) rfl ?_
  by_cases c3 : ¬ v1 = 40
  · rw [if_pos c3] at hs1
    refine aw_icne_t at_355_6 c3 ?_
    refine aw_vload_n (pc1 := 19) at_355_18 l0 i0 rfl ?_
    refine aw_vload_n (pc1 := 20) at_355_19 l0 i0 rfl ?_
    obtain ⟨v4, e5, hs2⟩ := am_bind hs1
    clear hs1
    refine aw_pG (pc1 := 23) at_355_20 (am_vI_s e5) rfl ?_
    obtain ⟨z6, hs3⟩ := am_ift hs2
    clear hs2
    refine aw_call (F := fm_339 x0 v4 h) (t := true) (na := 2) (kd := 1) (as := [x0, (.int v4)]) at_355_23 (am_k3v kb_339) mn_339 mk_339 rfl rfl (am_ok_v mi_339 (am_hl rfl (am_ccR i0 (am_ccI am_cats_0)) rfl) z6) (am_hc am_cats_0 rfl) (fun _ => ⟨rfl, hh_355⟩) (fun o1 hz9 => rm_339 x0 v4 h o1 i0 hz9) ?_
    rcases am_cI_s hs3 with ⟨v7, h8, f9, hs4⟩ | hs4
    · clear hs3
      refine Or.inl ⟨_, _, f9, ?_⟩
      show am_W X _ 355 26 _ [(.int v7)] h8 _
      by_cases c10 : v7 = 0
      · rw [if_pos c10] at hs4
        refine aw_ifeq_t at_355_26 c10 ?_
        exact rg_355_48 x0 h8 o l0 i0 hs4
      · rw [if_neg c10] at hs4
        refine aw_ifeq_f (pc1 := 29) at_355_26 c10 rfl ?_
        refine aw_vload_n (pc1 := 30) at_355_29 l0 i0 rfl ?_
        obtain ⟨v11, e12, hs5⟩ := am_bind hs4
        clear hs4
        refine aw_pG (pc1 := 33) at_355_30 (am_vR_s e12).1 rfl ?_
        refine aw_vload_n (pc1 := 34) at_355_33 l0 i0 rfl ?_
        obtain ⟨v13, e14, hs6⟩ := am_bind hs5
        clear hs5
        refine aw_pG (pc1 := 37) at_355_34 (am_vI_s e14) rfl ?_
        obtain ⟨v15, e16, hs7⟩ := am_bind hs6
        clear hs6
        refine aw_pA (pc1 := 38) at_355_37 (Or.inl ⟨rfl, rfl⟩) e16 rfl ?_
        refine aw_bipush (v := 48) (pc1 := 40) at_355_38 (by decide) rfl ?_
        refine aw_isub (v := (v15 - 48)) (pc1 := 41) at_355_40 rfl rfl ?_
        refine aw_vload_n (pc1 := 42) at_355_41 l0 i0 rfl ?_
        obtain ⟨v17, e18, hs8⟩ := am_bind hs7
        clear hs7
        refine aw_pG (pc1 := 45) at_355_42 (am_vI_s e18) rfl ?_
        by_cases c19 : (v15 - 48) < v17
        · rw [if_pos c19] at hs8
          refine aw_iclt_t at_355_45 c19 ?_
          refine aw_vload_n (pc1 := 58) at_355_57 l0 i0 rfl ?_
          obtain ⟨v20, e21, hs9⟩ := am_bind hs8
          clear hs8
          refine aw_pG (pc1 := 61) at_355_58 (am_vR_s e21).1 rfl ?_
          refine aw_vload_n (pc1 := 62) at_355_61 l0 i0 rfl ?_
          obtain ⟨v22, e23, hs10⟩ := am_bind hs9
          clear hs9
          refine aw_pG (pc1 := 65) at_355_62 (am_vI_s e23) rfl ?_
          obtain ⟨v24, e25, hs11⟩ := am_bind hs10
          clear hs10
          refine aw_pA (pc1 := 66) at_355_65 (Or.inl ⟨rfl, rfl⟩) e25 rfl ?_
          refine aw_bipush (v := 48) (pc1 := 68) at_355_66 (by decide) rfl ?_
          refine aw_isub (v := (v24 - 48)) (pc1 := 69) at_355_68 rfl rfl ?_
          refine aw_istore_n (lv1 := am_put1 _ 1 _) (pc1 := 70) at_355_69 rfl rfl ?_
          refine aw_vload_n (pc1 := 71) at_355_70 (am_lk1 l0 rfl (by rw [am_isRc i0]; rfl)) i0 rfl ?_
          refine aw_vdup (pc1 := 72) at_355_71 i0 rfl ?_
          obtain ⟨v26, e27, hs12⟩ := am_bind hs11
          clear hs11
          refine aw_pG (pc1 := 75) at_355_72 (am_vI_s e27) rfl ?_
          refine aw_iconst (v := 1) (pc1 := 76) at_355_75 (by decide) rfl ?_
          refine aw_iadd (v := (v26 + 1)) (pc1 := 77) at_355_76 rfl rfl ?_
          obtain ⟨h28, e29, hs13⟩ := am_bind hs12
          clear hs12
          refine aw_pP (pc1 := 80) at_355_77 e29 rfl ?_
          refine aw_vload_n (pc1 := 81) at_355_80 (am_lk1 l0 rfl (by rw [am_isRc i0]; rfl)) i0 rfl ?_
          refine aw_vload_n (pc1 := 82) at_355_81 (am_lk1 l0 rfl (by rw [am_isRc i0]; rfl)) i0 rfl ?_
          obtain ⟨v30, e31, hs14⟩ := am_bind hs13
          clear hs13
          refine aw_pG (pc1 := 85) at_355_82 (am_vI_s e31) rfl ?_
          obtain ⟨z32, hs15⟩ := am_ift hs14
          clear hs14
          refine aw_call (F := fm_339 x0 v30 h28) (t := true) (na := 2) (kd := 1) (as := [x0, (.int v30)]) at_355_85 (am_k3v kb_339) mn_339 mk_339 rfl rfl (am_ok_v mi_339 (am_hl rfl (am_ccR i0 (am_ccI am_cats_0)) rfl) z32) (am_hc am_cats_0 rfl) (fun _ => ⟨rfl, hh_355⟩) (fun o1 hz9 => rm_339 x0 v30 h28 o1 i0 hz9) ?_
          rcases am_cI_s hs15 with ⟨v33, h34, f35, hs16⟩ | hs16
          · clear hs15
            refine Or.inl ⟨_, _, f35, ?_⟩
            show am_W X _ 355 88 _ [(.int v33)] h34 _
            by_cases c36 : v33 = 0
            · rw [if_pos c36] at hs16
              refine aw_ifeq_t at_355_88 c36 ?_
              exact rg_355_126 x0 h34 o (am_lk1 l0 rfl (by rw [am_isRc i0]; rfl)) i0 hs16
            · rw [if_neg c36] at hs16
              refine aw_ifeq_f (pc1 := 91) at_355_88 c36 rfl ?_
              refine aw_vload_n (pc1 := 92) at_355_91 (am_lk1 l0 rfl (by rw [am_isRc i0]; rfl)) i0 rfl ?_
              obtain ⟨v37, e38, hs17⟩ := am_bind hs16
              clear hs16
              refine aw_pG (pc1 := 95) at_355_92 (am_vR_s e38).1 rfl ?_
              refine aw_vload_n (pc1 := 96) at_355_95 (am_lk1 l0 rfl (by rw [am_isRc i0]; rfl)) i0 rfl ?_
              obtain ⟨v39, e40, hs18⟩ := am_bind hs17
              clear hs17
              refine aw_pG (pc1 := 99) at_355_96 (am_vI_s e40) rfl ?_
              obtain ⟨v41, e42, hs19⟩ := am_bind hs18
              clear hs18
              refine aw_pA (pc1 := 100) at_355_99 (Or.inl ⟨rfl, rfl⟩) e42 rfl ?_
              refine aw_bipush (v := 48) (pc1 := 102) at_355_100 (by decide) rfl ?_
              refine aw_isub (v := (v41 - 48)) (pc1 := 103) at_355_102 rfl rfl ?_
              refine aw_vload_n (pc1 := 104) at_355_103 (am_lk1 l0 rfl (by rw [am_isRc i0]; rfl)) i0 rfl ?_
              obtain ⟨v43, e44, hs20⟩ := am_bind hs19
              clear hs19
              refine aw_pG (pc1 := 107) at_355_104 (am_vI_s e44) rfl ?_
              by_cases c45 : v43 ≤ (v41 - 48)
              · rw [if_pos c45] at hs20
                refine aw_icge_t at_355_107 c45 ?_
                exact rg_355_126 x0 h34 o (am_lk1 l0 rfl (by rw [am_isRc i0]; rfl)) i0 hs20
              · rw [if_neg c45] at hs20
                refine aw_icge_f (pc1 := 110) at_355_107 c45 rfl ?_
                refine aw_vload_n (pc1 := 111) at_355_110 (am_lk1 l0 rfl (by rw [am_isRc i0]; rfl)) i0 rfl ?_
                obtain ⟨v46, e47, hs21⟩ := am_bind hs20
                clear hs20
                refine aw_pG (pc1 := 114) at_355_111 (am_vR_s e47).1 rfl ?_
                refine aw_vload_n (pc1 := 115) at_355_114 (am_lk1 l0 rfl (by rw [am_isRc i0]; rfl)) i0 rfl ?_
                obtain ⟨v48, e49, hs22⟩ := am_bind hs21
                clear hs21
                refine aw_pG (pc1 := 118) at_355_115 (am_vI_s e49) rfl ?_
                obtain ⟨v50, e51, hs23⟩ := am_bind hs22
                clear hs22
                refine aw_pA (pc1 := 119) at_355_118 (Or.inl ⟨rfl, rfl⟩) e51 rfl ?_
                refine aw_bipush (v := 48) (pc1 := 121) at_355_119 (by decide) rfl ?_
                refine aw_isub (v := (v50 - 48)) (pc1 := 122) at_355_121 rfl rfl ?_
                refine aw_iload_n (pc1 := 123) at_355_122 am_lk0 rfl ?_
                by_cases c52 : (v24 - 48) < (v50 - 48)
                · rw [if_pos c52] at hs23
                  refine aw_icgt_t at_355_123 c52 ?_
                  refine aw_vload_n (pc1 := 136) at_355_135 (am_lk1 l0 rfl (by rw [am_isRc i0]; rfl)) i0 rfl ?_
                  refine aw_iload_n (pc1 := 137) at_355_136 am_lk0 rfl ?_
                  refine aw_vload_n (pc1 := 138) at_355_137 (am_lk1 l0 rfl (by rw [am_isRc i0]; rfl)) i0 rfl ?_
                  obtain ⟨v53, e54, hs24⟩ := am_bind hs23
                  clear hs23
                  refine aw_pG (pc1 := 141) at_355_138 (am_vR_s e54).1 rfl ?_
                  refine aw_vload_n (pc1 := 142) at_355_141 (am_lk1 l0 rfl (by rw [am_isRc i0]; rfl)) i0 rfl ?_
                  obtain ⟨v55, e56, hs25⟩ := am_bind hs24
                  clear hs24
                  refine aw_pG (pc1 := 145) at_355_142 (am_vI_s e56) rfl ?_
                  obtain ⟨v57, e58, hs26⟩ := am_bind hs25
                  clear hs25
                  refine aw_pA (pc1 := 146) at_355_145 (Or.inl ⟨rfl, rfl⟩) e58 rfl ?_
                  refine aw_bipush (v := 48) (pc1 := 148) at_355_146 (by decide) rfl ?_
                  refine aw_isub (v := (v57 - 48)) (pc1 := 149) at_355_148 rfl rfl ?_
                  obtain ⟨z59, hs27⟩ := am_ift hs26
                  clear hs26
                  refine aw_call (F := fm_335 x0 ((v24 - 48)) ((v57 - 48)) h34) (t := true) (na := 3) (kd := 1) (as := [x0, (.int (v24 - 48)), (.int (v57 - 48))]) at_355_149 (am_k3v kb_335) mn_335 mk_335 rfl rfl (am_ok_v mi_335 (am_hl rfl (am_ccR i0 (am_ccI (am_ccI am_cats_0))) rfl) z59) (am_hc am_cats_0 rfl) (fun _ => ⟨rfl, hh_355⟩) (fun o1 hz9 => rm_335 x0 ((v24 - 48)) ((v57 - 48)) h34 o1 i0 hz9) ?_
                  rcases am_cV_s hs27 with ⟨h61, f62, hs28⟩ | hs28
                  · clear hs27
                    refine Or.inl ⟨_, _, f62, ?_⟩
                    show am_W X _ 355 152 _ [] h61 _
                    refine aw_vload_n (pc1 := 153) at_355_152 (am_lk1 l0 rfl (by rw [am_isRc i0]; rfl)) i0 rfl ?_
                    refine aw_vdup (pc1 := 154) at_355_153 i0 rfl ?_
                    obtain ⟨v63, e64, hs29⟩ := am_bind hs28
                    clear hs28
                    refine aw_pG (pc1 := 157) at_355_154 (am_vI_s e64) rfl ?_
                    refine aw_iconst (v := 1) (pc1 := 158) at_355_157 (by decide) rfl ?_
                    refine aw_iadd (v := (v63 + 1)) (pc1 := 159) at_355_158 rfl rfl ?_
                    obtain ⟨h65, e66, hs30⟩ := am_bind hs29
                    clear hs29
                    refine aw_pP (pc1 := 162) at_355_159 e66 rfl ?_
                    refine aw_iconst (v := 1) (pc1 := 163) at_355_162 (by decide) rfl ?_
                    cases hs30
                    exact aw_iret at_355_163 (by rw [rt_355]; decide) rfl
                  · clear hs27
                    exact Or.inr hs28
                · rw [if_neg c52] at hs23
                  refine aw_icgt_f (pc1 := 126) at_355_123 c52 rfl ?_
                  exact rg_355_126 x0 h34 o (am_lk1 l0 rfl (by rw [am_isRc i0]; rfl)) i0 hs23
          · clear hs15
            exact Or.inr hs16
        · rw [if_neg c19] at hs8
          refine aw_iclt_f (pc1 := 48) at_355_45 c19 rfl ?_
          exact rg_355_48 x0 h8 o l0 i0 hs8
    · clear hs3
      exact Or.inr hs4
  · rw [if_neg c3] at hs1
    refine aw_icne_f (pc1 := 9) at_355_6 c3 rfl ?_
    refine aw_vload_n (pc1 := 10) at_355_9 l0 i0 rfl ?_
    refine aw_vload_n (pc1 := 11) at_355_10 l0 i0 rfl ?_
    obtain ⟨v67, e68, hs31⟩ := am_bind hs1
    clear hs1
    refine aw_pG (pc1 := 14) at_355_11 (am_vI_s e68) rfl ?_
    obtain ⟨z69, hs32⟩ := am_ift hs31
    clear hs31
    refine aw_call (F := fm_331 x0 v67 h) (t := true) (na := 2) (kd := 1) (as := [x0, (.int v67)]) at_355_14 (am_k3v kb_331) mn_331 mk_331 rfl rfl (am_ok_v mi_331 (am_hl rfl (am_ccR i0 (am_ccI am_cats_0)) rfl) z69) (am_hc am_cats_0 rfl) (fun _ => ⟨rfl, hh_355⟩) (fun o1 hz9 => rm_331 x0 v67 h o1 i0 hz9) ?_
    rcases am_cI_s hs32 with ⟨v70, h71, f72, hs33⟩ | hs33
    · clear hs32
      refine Or.inl ⟨_, _, f72, ?_⟩
      show am_W X _ 355 17 _ [(.int v70)] h71 _
      obtain ⟨z73, hs34⟩ := am_ift hs33
      clear hs33
      cases hs34
      exact aw_iret at_355_17 (by rw [rt_355]; exact z73) rfl
    · clear hs32
      exact Or.inr hs33
def fm_355 (y0 : Value) (h : am_H) : Option am_O := fg_355_0 y0 h
theorem rm_355 {X : am_X} {d : Nat} (y0 : Value) (h : am_H) (o : am_O) (i0 : am_isR y0 = true) (hs : fm_355 y0 h = some o) : am_W X (d + 2) 355 0 (am_args 0 [y0]) [] h (fun q => q = o) := by
  rw [am_args_R i0]
  exact rg_355_0 y0 h o rfl i0 hs
def fg_354_157 (N : Nat) (h : am_H) : Option am_O := some (.inl (none, h))
theorem rg_354_157 {X : am_X} {d : Nat} {N : Nat} {lv : am_LV} (h : am_H) (o : am_O) (hs : fg_354_157 N h = some o) : am_W X (d + 3) 354 157 lv [] h (fun q => q = o) := by
  unfold fg_354_157 at hs
  cases hs
  exact aw_vret at_354_157 rt_354 rfl
def fg_354_153 (N : Nat) (rec_98 : Value → Int32 → am_H → Option am_O) (x0 : Value) (s0 : Int32) (h : am_H) : Option am_O := (rec_98 x0 s0 h)
theorem rg_354_153 {X : am_X} {d : Nat} {N : Nat} {rec_98 : Value → Int32 → am_H → Option am_O} (q_98 : ∀ (x0 : Value) (x1 : Int32) (h : am_H) (o : am_O), rec_98 x0 x1 h = some o → ∀ lv : am_LV, (lv.lookup 0 = some x0) → (lv.lookup 1 = some (.int x1)) → (am_isR x0 = true) → am_W X (d + 3) 354 98 lv [] h (fun q => q = o)) {lv : am_LV} (x0 : Value) (s0 : Int32) (h : am_H) (o : am_O) (l0 : lv.lookup 0 = some x0) (i0 : am_isR x0 = true) (hs : fg_354_153 N rec_98 x0 s0 h = some o) : am_W X (d + 3) 354 153 lv [(.int s0)] h (fun q => q = o) := by
  unfold fg_354_153 at hs
  refine aw_istore_n (lv1 := am_put1 _ 1 _) (pc1 := 154) at_354_153 rfl rfl ?_
  refine aw_goto at_354_154 ?_
  exact q_98 x0 s0 h o hs _ (am_lk1 l0 rfl (by rw [am_isRc i0]; rfl)) am_lk0 i0
def fg_354_152 (N : Nat) (rec_98 : Value → Int32 → am_H → Option am_O) (x0 : Value) (h : am_H) : Option am_O := (fg_354_153 N rec_98 x0 0 h)
theorem rg_354_152 {X : am_X} {d : Nat} {N : Nat} {rec_98 : Value → Int32 → am_H → Option am_O} (q_98 : ∀ (x0 : Value) (x1 : Int32) (h : am_H) (o : am_O), rec_98 x0 x1 h = some o → ∀ lv : am_LV, (lv.lookup 0 = some x0) → (lv.lookup 1 = some (.int x1)) → (am_isR x0 = true) → am_W X (d + 3) 354 98 lv [] h (fun q => q = o)) {lv : am_LV} (x0 : Value) (h : am_H) (o : am_O) (l0 : lv.lookup 0 = some x0) (i0 : am_isR x0 = true) (hs : fg_354_152 N rec_98 x0 h = some o) : am_W X (d + 3) 354 152 lv [] h (fun q => q = o) := by
  unfold fg_354_152 at hs
  refine aw_iconst (v := 0) (pc1 := 153) at_354_152 (by decide) rfl ?_
  exact rg_354_153 q_98 x0 0 h o l0 i0 hs
def fg_354_137 (N : Nat) (rec_98 : Value → Int32 → am_H → Option am_O) (x0 : Value) (x1 : Int32) (h : am_H) : Option am_O := (if x1 = 0 then (fg_354_152 N rec_98 x0 h) else ((am_vI (am_pG 3142 x0 h)).bind fun v2 => (if 0 ≤ v2 then (fg_354_152 N rec_98 x0 h) else (fg_354_153 N rec_98 x0 1 h))))
theorem rg_354_137 {X : am_X} {d : Nat} {N : Nat} {rec_98 : Value → Int32 → am_H → Option am_O} (q_98 : ∀ (x0 : Value) (x1 : Int32) (h : am_H) (o : am_O), rec_98 x0 x1 h = some o → ∀ lv : am_LV, (lv.lookup 0 = some x0) → (lv.lookup 1 = some (.int x1)) → (am_isR x0 = true) → am_W X (d + 3) 354 98 lv [] h (fun q => q = o)) {lv : am_LV} (x0 : Value) (x1 : Int32) (h : am_H) (o : am_O) (l0 : lv.lookup 0 = some x0) (l1 : lv.lookup 1 = some (.int x1)) (i0 : am_isR x0 = true) (hs : fg_354_137 N rec_98 x0 x1 h = some o) : am_W X (d + 3) 354 137 lv [] h (fun q => q = o) := by
  unfold fg_354_137 at hs
  refine aw_iload_n (pc1 := 138) at_354_137 l1 rfl ?_
  by_cases c1 : x1 = 0
  · rw [if_pos c1] at hs
    refine aw_ifeq_t at_354_138 c1 ?_
    exact rg_354_152 q_98 x0 h o l0 i0 hs
  · rw [if_neg c1] at hs
    refine aw_ifeq_f (pc1 := 141) at_354_138 c1 rfl ?_
    refine aw_vload_n (pc1 := 142) at_354_141 l0 i0 rfl ?_
    obtain ⟨v2, e3, hs1⟩ := am_bind hs
    clear hs
    refine aw_pG (pc1 := 145) at_354_142 (am_vI_s e3) rfl ?_
    by_cases c4 : 0 ≤ v2
    · rw [if_pos c4] at hs1
      refine aw_ifge_t at_354_145 c4 ?_
      exact rg_354_152 q_98 x0 h o l0 i0 hs1
    · rw [if_neg c4] at hs1
      refine aw_ifge_f (pc1 := 148) at_354_145 c4 rfl ?_
      refine aw_iconst (v := 1) (pc1 := 149) at_354_148 (by decide) rfl ?_
      refine aw_goto at_354_149 ?_
      exact rg_354_153 q_98 x0 1 h o l0 i0 hs1
def fg_354_125 (N : Nat) (rec_98 : Value → Int32 → am_H → Option am_O) (x0 : Value) (s0 : Int32) (h : am_H) : Option am_O := (if s0 = 0 then (fg_354_137 N rec_98 x0 s0 h) else (if am_pOk 12 x0 h then am_cI true (fm_336 x0 44 h) (fun v3 h4 => (fg_354_137 N rec_98 x0 s0 h4)) else none))
theorem rg_354_125 {X : am_X} {d : Nat} {N : Nat} {rec_98 : Value → Int32 → am_H → Option am_O} (q_98 : ∀ (x0 : Value) (x1 : Int32) (h : am_H) (o : am_O), rec_98 x0 x1 h = some o → ∀ lv : am_LV, (lv.lookup 0 = some x0) → (lv.lookup 1 = some (.int x1)) → (am_isR x0 = true) → am_W X (d + 3) 354 98 lv [] h (fun q => q = o)) {lv : am_LV} (x0 : Value) (s0 : Int32) (h : am_H) (o : am_O) (l0 : lv.lookup 0 = some x0) (i0 : am_isR x0 = true) (hs : fg_354_125 N rec_98 x0 s0 h = some o) : am_W X (d + 3) 354 125 lv [(.int s0)] h (fun q => q = o) := by
  unfold fg_354_125 at hs
  refine aw_istore_n (lv1 := am_put1 _ 1 _) (pc1 := 126) at_354_125 rfl rfl ?_
  refine aw_iload_n (pc1 := 127) at_354_126 am_lk0 rfl ?_
  by_cases c1 : s0 = 0
  · rw [if_pos c1] at hs
    refine aw_ifeq_t at_354_127 c1 ?_
    exact rg_354_137 q_98 x0 s0 h o (am_lk1 l0 rfl (by rw [am_isRc i0]; rfl)) am_lk0 i0 hs
  · rw [if_neg c1] at hs
    refine aw_ifeq_f (pc1 := 130) at_354_127 c1 rfl ?_
    refine aw_vload_n (pc1 := 131) at_354_130 (am_lk1 l0 rfl (by rw [am_isRc i0]; rfl)) i0 rfl ?_
    refine aw_bipush (v := 44) (pc1 := 133) at_354_131 (by decide) rfl ?_
    obtain ⟨z2, hs1⟩ := am_ift hs
    clear hs
    refine aw_call (F := fm_336 x0 44 h) (t := true) (na := 2) (kd := 1) (as := [x0, (.int 44)]) at_354_133 (am_k3v kb_336) mn_336 mk_336 rfl rfl (am_ok_v mi_336 (am_hl rfl (am_ccR i0 (am_ccI am_cats_0)) rfl) z2) (am_hc am_cats_0 rfl) (fun _ => ⟨rfl, hh_354⟩) (fun o1 hz9 => rm_336 x0 44 h o1 i0 hz9) ?_
    rcases am_cI_s hs1 with ⟨v3, h4, f5, hs2⟩ | hs2
    · clear hs1
      refine Or.inl ⟨_, _, f5, ?_⟩
      show am_W X _ 354 136 _ [(.int v3)] h4 _
      refine aw_popi (pc1 := 137) at_354_136 rfl ?_
      exact rg_354_137 q_98 x0 s0 h4 o (am_lk1 l0 rfl (by rw [am_isRc i0]; rfl)) am_lk0 i0 hs2
    · clear hs1
      exact Or.inr hs2
def fg_354_98 (N : Nat) : Nat → Value → Int32 → am_H → Option am_O
  | 0 => fun _ _ _ => none
  | K + 1 => fun x0 x1 h => (if x1 = 0 then (fg_354_157 N h) else (if am_pOk 12 x0 h then am_cI true (fm_355 x0 h) (fun v3 h4 => (if v3 = 0 then (fg_354_157 N h4) else ((am_vI (am_pG 3141 x0 h4)).bind fun v7 => ((am_vI (am_pG 3140 x0 h4)).bind fun v9 => (if v9 ≤ v7 then (fg_354_125 N (fg_354_98 N K) x0 0 h4) else (fg_354_125 N (fg_354_98 N K) x0 1 h4)))))) else none))
theorem rg_354_98 {X : am_X} {d : Nat} {N : Nat} : ∀ (K : Nat) (x0 : Value) (x1 : Int32) (h : am_H) (o : am_O), fg_354_98 N K x0 x1 h = some o → ∀ lv : am_LV, (lv.lookup 0 = some x0) → (lv.lookup 1 = some (.int x1)) → (am_isR x0 = true) → am_W X (d + 3) 354 98 lv [] h (fun q => q = o) := by
  intro K
  induction K with
  | zero => intro x0 x1 h o hs; cases hs
  | succ K ih =>
    intro x0 x1 h o hs lv l0 l1 i0
    unfold fg_354_98 at hs
    refine aw_iload_n (pc1 := 99) at_354_98 l1 rfl ?_
    by_cases c1 : x1 = 0
    · rw [if_pos c1] at hs
      refine aw_ifeq_t at_354_99 c1 ?_
      exact rg_354_157 h o   hs
    · rw [if_neg c1] at hs
      refine aw_ifeq_f (pc1 := 102) at_354_99 c1 rfl ?_
      refine aw_vload_n (pc1 := 103) at_354_102 l0 i0 rfl ?_
      obtain ⟨z2, hs1⟩ := am_ift hs
      clear hs
      refine aw_call (F := fm_355 x0 h) (t := true) (na := 1) (kd := 1) (as := [x0]) at_354_103 (am_k3v kb_355) mn_355 mk_355 rfl rfl (am_ok_v mi_355 (am_hl rfl (am_ccR i0 am_cats_0) rfl) z2) (am_hc am_cats_0 rfl) (fun _ => ⟨rfl, hh_354⟩) (fun o1 hz9 => rm_355 x0 h o1 i0 hz9) ?_
      rcases am_cI_s hs1 with ⟨v3, h4, f5, hs2⟩ | hs2
      · clear hs1
        refine Or.inl ⟨_, _, f5, ?_⟩
        show am_W X _ 354 106 _ [(.int v3)] h4 _
        by_cases c6 : v3 = 0
        · rw [if_pos c6] at hs2
          refine aw_ifeq_t at_354_106 c6 ?_
          exact rg_354_157 h4 o   hs2
        · rw [if_neg c6] at hs2
          refine aw_ifeq_f (pc1 := 109) at_354_106 c6 rfl ?_
          refine aw_vload_n (pc1 := 110) at_354_109 l0 i0 rfl ?_
          obtain ⟨v7, e8, hs3⟩ := am_bind hs2
          clear hs2
          refine aw_pG (pc1 := 113) at_354_110 (am_vI_s e8) rfl ?_
          refine aw_vload_n (pc1 := 114) at_354_113 l0 i0 rfl ?_
          obtain ⟨v9, e10, hs4⟩ := am_bind hs3
          clear hs3
          refine aw_pG (pc1 := 117) at_354_114 (am_vI_s e10) rfl ?_
          by_cases c11 : v9 ≤ v7
          · rw [if_pos c11] at hs4
            refine aw_icge_t at_354_117 c11 ?_
            refine aw_iconst (v := 0) (pc1 := 125) at_354_124 (by decide) rfl ?_
            exact rg_354_125 (fun z0 z1 h o hs4 => ih z0 z1 h o hs4) x0 0 h4 o l0 i0 hs4
          · rw [if_neg c11] at hs4
            refine aw_icge_f (pc1 := 120) at_354_117 c11 rfl ?_
            refine aw_iconst (v := 1) (pc1 := 121) at_354_120 (by decide) rfl ?_
            refine aw_goto at_354_121 ?_
            exact rg_354_125 (fun z0 z1 h o hs4 => ih z0 z1 h o hs4) x0 1 h4 o l0 i0 hs4
      · clear hs1
        exact Or.inr hs2
def fg_354_97 (N : Nat) (x0 : Value) (s0 : Int32) (h : am_H) : Option am_O := (fg_354_98 N N x0 s0 h)
theorem rg_354_97 {X : am_X} {d : Nat} {N : Nat} {lv : am_LV} (x0 : Value) (s0 : Int32) (h : am_H) (o : am_O) (l0 : lv.lookup 0 = some x0) (i0 : am_isR x0 = true) (hs : fg_354_97 N x0 s0 h = some o) : am_W X (d + 3) 354 97 lv [(.int s0)] h (fun q => q = o) := by
  unfold fg_354_97 at hs
  refine aw_istore_n (lv1 := am_put1 _ 1 _) (pc1 := 98) at_354_97 rfl rfl ?_
  exact rg_354_98 N x0 s0 h o hs _ (am_lk1 l0 rfl (by rw [am_isRc i0]; rfl)) am_lk0 i0
def fg_354_96 (N : Nat) (x0 : Value) (h : am_H) : Option am_O := (fg_354_97 N x0 0 h)
theorem rg_354_96 {X : am_X} {d : Nat} {N : Nat} {lv : am_LV} (x0 : Value) (h : am_H) (o : am_O) (l0 : lv.lookup 0 = some x0) (i0 : am_isR x0 = true) (hs : fg_354_96 N x0 h = some o) : am_W X (d + 3) 354 96 lv [] h (fun q => q = o) := by
  unfold fg_354_96 at hs
  refine aw_iconst (v := 0) (pc1 := 97) at_354_96 (by decide) rfl ?_
  exact rg_354_97 x0 0 h o l0 i0 hs
def fg_354_36 (N : Nat) (x0 : Value) (h : am_H) : Option am_O := ((am_vI (am_pG 3141 x0 h)).bind fun v1 => (if am_pOk 12 x0 h then am_cI true (fm_331 x0 v1 h) (fun v4 h5 => some (.inl (none, h5))) else none))
theorem rg_354_36 {X : am_X} {d : Nat} {N : Nat} {lv : am_LV} (x0 : Value) (h : am_H) (o : am_O) (l0 : lv.lookup 0 = some x0) (i0 : am_isR x0 = true) (hs : fg_354_36 N x0 h = some o) : am_W X (d + 3) 354 36 lv [] h (fun q => q = o) := by
  unfold fg_354_36 at hs
  refine aw_vload_n (pc1 := 37) at_354_36 l0 i0 rfl ?_
  refine aw_vload_n (pc1 := 38) at_354_37 l0 i0 rfl ?_
  obtain ⟨v1, e2, hs1⟩ := am_bind hs
  clear hs
  refine aw_pG (pc1 := 41) at_354_38 (am_vI_s e2) rfl ?_
  obtain ⟨z3, hs2⟩ := am_ift hs1
  clear hs1
  refine aw_call (F := fm_331 x0 v1 h) (t := true) (na := 2) (kd := 1) (as := [x0, (.int v1)]) at_354_41 (am_k3v kb_331) mn_331 mk_331 rfl rfl (am_ok_v mi_331 (am_hl rfl (am_ccR i0 (am_ccI am_cats_0)) rfl) z3) (am_hc am_cats_0 rfl) (fun _ => ⟨rfl, hh_354⟩) (fun o1 hz9 => rm_331 x0 v1 h o1 i0 hz9) ?_
  rcases am_cI_s hs2 with ⟨v4, h5, f6, hs3⟩ | hs3
  · clear hs2
    refine Or.inl ⟨_, _, f6, ?_⟩
    show am_W X _ 354 44 _ [(.int v4)] h5 _
    refine aw_popi (pc1 := 45) at_354_44 rfl ?_
    cases hs3
    exact aw_vret at_354_45 rt_354 rfl
  · clear hs2
    exact Or.inr hs3
def fg_354_0 (N : Nat) (x0 : Value) (h : am_H) : Option am_O := ((am_vI (am_pG 3141 x0 h)).bind fun v1 => (if am_pOk 12 x0 h then am_cI true (fm_339 x0 v1 h) (fun v4 h5 => (if v4 = 0 then (fg_354_36 N x0 h5) else ((am_vR (am_pG 3139 x0 h5)).bind fun v8 => ((am_vI (am_pG 3141 x0 h5)).bind fun v10 => ((am_pA 0 v8 v10 h5).bind fun v12 => am_cI false (fm_327 ((Int32.toInt64 (v12 - 48))) 2 8 h5) (fun v14 h15 => (if ¬ v14 = 0 then ((am_vR (am_pG 3139 x0 h15)).bind fun v18 => ((am_vI (am_pG 3141 x0 h15)).bind fun v20 => ((am_pA 0 v18 v20 h15).bind fun v22 => ((am_pP 3087 x0 (.int (v22 - 48)) h15).bind fun h24 => ((am_vI (am_pG 3141 x0 h24)).bind fun v26 => ((am_pP 3141 x0 (.int (v26 + 1)) h24).bind fun h28 => (if am_pOk 12 x0 h28 then am_cI true (fm_336 x0 58 h28) (fun v31 h32 => (if v31 = 0 then (fg_354_96 N x0 h32) else ((am_vI (am_pG 3141 x0 h32)).bind fun v35 => ((am_vI (am_pG 3140 x0 h32)).bind fun v37 => (if v37 ≤ v35 then (fg_354_96 N x0 h32) else (fg_354_97 N x0 1 h32)))))) else none))))))) else (fg_354_36 N x0 h15)))))))) else none))
theorem rg_354_0 {X : am_X} {d : Nat} {N : Nat} {lv : am_LV} (x0 : Value) (h : am_H) (o : am_O) (l0 : lv.lookup 0 = some x0) (i0 : am_isR x0 = true) (hs : fg_354_0 N x0 h = some o) : am_W X (d + 3) 354 0 lv [] h (fun q => q = o) := by
  unfold fg_354_0 at hs
  refine aw_vload_n (pc1 := 1) at_354_0 l0 i0 rfl ?_
  refine aw_vload_n (pc1 := 2) at_354_1 l0 i0 rfl ?_
  obtain ⟨v1, e2, hs1⟩ := am_bind hs
  clear hs
  refine aw_pG (pc1 := 5) at_354_2 (am_vI_s e2) rfl ?_
  obtain ⟨z3, hs2⟩ := am_ift hs1
  clear hs1
  refine aw_call (F := fm_339 x0 v1 h) (t := true) (na := 2) (kd := 1) (as := [x0, (.int v1)]) at_354_5 (am_k3v kb_339) mn_339 mk_339 rfl rfl (am_ok_v mi_339 (am_hl rfl (am_ccR i0 (am_ccI am_cats_0)) rfl) z3) (am_hc am_cats_0 rfl) (fun _ => ⟨rfl, hh_354⟩) (fun o1 hz9 => rm_339 x0 v1 h o1 i0 hz9) ?_
  rcases am_cI_s hs2 with ⟨v4, h5, f6, hs3⟩ | hs3
  · clear hs2
    refine Or.inl ⟨_, _, f6, ?_⟩
    show am_W X _ 354 8 _ [(.int v4)] h5 _
    by_cases c7 : v4 = 0
    · rw [if_pos c7] at hs3
      refine aw_ifeq_t at_354_8 c7 ?_
      exact rg_354_36 x0 h5 o l0 i0 hs3
    · rw [if_neg c7] at hs3
      refine aw_ifeq_f (pc1 := 11) at_354_8 c7 rfl ?_
      refine aw_vload_n (pc1 := 12) at_354_11 l0 i0 rfl ?_
      obtain ⟨v8, e9, hs4⟩ := am_bind hs3
      clear hs3
      refine aw_pG (pc1 := 15) at_354_12 (am_vR_s e9).1 rfl ?_
      refine aw_vload_n (pc1 := 16) at_354_15 l0 i0 rfl ?_
      obtain ⟨v10, e11, hs5⟩ := am_bind hs4
      clear hs4
      refine aw_pG (pc1 := 19) at_354_16 (am_vI_s e11) rfl ?_
      obtain ⟨v12, e13, hs6⟩ := am_bind hs5
      clear hs5
      refine aw_pA (pc1 := 20) at_354_19 (Or.inl ⟨rfl, rfl⟩) e13 rfl ?_
      refine aw_bipush (v := 48) (pc1 := 22) at_354_20 (by decide) rfl ?_
      refine aw_isub (v := (v12 - 48)) (pc1 := 23) at_354_22 rfl rfl ?_
      refine aw_i2l (v := (Int32.toInt64 (v12 - 48))) (pc1 := 24) at_354_23 rfl rfl ?_
      refine aw_ldc2 (v := 2) (pc1 := 27) at_354_24 rfl rfl ?_
      refine aw_ldc2 (v := 8) (pc1 := 30) at_354_27 rfl rfl ?_
      refine aw_call (F := fm_327 ((Int32.toInt64 (v12 - 48))) 2 8 h5) (t := false) (na := 3) (kd := 0) (as := [(.long (Int32.toInt64 (v12 - 48))), (.long 2), (.long 8)]) at_354_30 (am_k3s kb_327) mn_327 mk_327 rfl rfl (am_ok_s mi_327 (am_hl rfl (am_ccL (am_ccL (am_ccL am_cats_0))) rfl)) (am_hc am_cats_0 rfl) (fun hz9 => by cases hz9) (fun o1 hz9 => rm_327 ((Int32.toInt64 (v12 - 48))) 2 8 h5 o1  hz9) ?_
      rcases am_cI_s hs6 with ⟨v14, h15, f16, hs7⟩ | hs7
      · clear hs6
        refine Or.inl ⟨_, _, f16, ?_⟩
        show am_W X _ 354 33 _ [(.int v14)] h15 _
        by_cases c17 : ¬ v14 = 0
        · rw [if_pos c17] at hs7
          refine aw_ifne_t at_354_33 c17 ?_
          refine aw_vload_n (pc1 := 47) at_354_46 l0 i0 rfl ?_
          refine aw_vload_n (pc1 := 48) at_354_47 l0 i0 rfl ?_
          obtain ⟨v18, e19, hs8⟩ := am_bind hs7
          clear hs7
          refine aw_pG (pc1 := 51) at_354_48 (am_vR_s e19).1 rfl ?_
          refine aw_vload_n (pc1 := 52) at_354_51 l0 i0 rfl ?_
          obtain ⟨v20, e21, hs9⟩ := am_bind hs8
          clear hs8
          refine aw_pG (pc1 := 55) at_354_52 (am_vI_s e21) rfl ?_
          obtain ⟨v22, e23, hs10⟩ := am_bind hs9
          clear hs9
          refine aw_pA (pc1 := 56) at_354_55 (Or.inl ⟨rfl, rfl⟩) e23 rfl ?_
          refine aw_bipush (v := 48) (pc1 := 58) at_354_56 (by decide) rfl ?_
          refine aw_isub (v := (v22 - 48)) (pc1 := 59) at_354_58 rfl rfl ?_
          obtain ⟨h24, e25, hs11⟩ := am_bind hs10
          clear hs10
          refine aw_pP (pc1 := 62) at_354_59 e25 rfl ?_
          refine aw_vload_n (pc1 := 63) at_354_62 l0 i0 rfl ?_
          refine aw_vdup (pc1 := 64) at_354_63 i0 rfl ?_
          obtain ⟨v26, e27, hs12⟩ := am_bind hs11
          clear hs11
          refine aw_pG (pc1 := 67) at_354_64 (am_vI_s e27) rfl ?_
          refine aw_iconst (v := 1) (pc1 := 68) at_354_67 (by decide) rfl ?_
          refine aw_iadd (v := (v26 + 1)) (pc1 := 69) at_354_68 rfl rfl ?_
          obtain ⟨h28, e29, hs13⟩ := am_bind hs12
          clear hs12
          refine aw_pP (pc1 := 72) at_354_69 e29 rfl ?_
          refine aw_vload_n (pc1 := 73) at_354_72 l0 i0 rfl ?_
          refine aw_bipush (v := 58) (pc1 := 75) at_354_73 (by decide) rfl ?_
          obtain ⟨z30, hs14⟩ := am_ift hs13
          clear hs13
          refine aw_call (F := fm_336 x0 58 h28) (t := true) (na := 2) (kd := 1) (as := [x0, (.int 58)]) at_354_75 (am_k3v kb_336) mn_336 mk_336 rfl rfl (am_ok_v mi_336 (am_hl rfl (am_ccR i0 (am_ccI am_cats_0)) rfl) z30) (am_hc am_cats_0 rfl) (fun _ => ⟨rfl, hh_354⟩) (fun o1 hz9 => rm_336 x0 58 h28 o1 i0 hz9) ?_
          rcases am_cI_s hs14 with ⟨v31, h32, f33, hs15⟩ | hs15
          · clear hs14
            refine Or.inl ⟨_, _, f33, ?_⟩
            show am_W X _ 354 78 _ [(.int v31)] h32 _
            by_cases c34 : v31 = 0
            · rw [if_pos c34] at hs15
              refine aw_ifeq_t at_354_78 c34 ?_
              exact rg_354_96 x0 h32 o l0 i0 hs15
            · rw [if_neg c34] at hs15
              refine aw_ifeq_f (pc1 := 81) at_354_78 c34 rfl ?_
              refine aw_vload_n (pc1 := 82) at_354_81 l0 i0 rfl ?_
              obtain ⟨v35, e36, hs16⟩ := am_bind hs15
              clear hs15
              refine aw_pG (pc1 := 85) at_354_82 (am_vI_s e36) rfl ?_
              refine aw_vload_n (pc1 := 86) at_354_85 l0 i0 rfl ?_
              obtain ⟨v37, e38, hs17⟩ := am_bind hs16
              clear hs16
              refine aw_pG (pc1 := 89) at_354_86 (am_vI_s e38) rfl ?_
              by_cases c39 : v37 ≤ v35
              · rw [if_pos c39] at hs17
                refine aw_icge_t at_354_89 c39 ?_
                exact rg_354_96 x0 h32 o l0 i0 hs17
              · rw [if_neg c39] at hs17
                refine aw_icge_f (pc1 := 92) at_354_89 c39 rfl ?_
                refine aw_iconst (v := 1) (pc1 := 93) at_354_92 (by decide) rfl ?_
                refine aw_goto at_354_93 ?_
                exact rg_354_97 x0 1 h32 o l0 i0 hs17
          · clear hs14
            exact Or.inr hs15
        · rw [if_neg c17] at hs7
          refine aw_ifne_f (pc1 := 36) at_354_33 c17 rfl ?_
          exact rg_354_36 x0 h15 o l0 i0 hs7
      · clear hs6
        exact Or.inr hs7
  · clear hs2
    exact Or.inr hs3
def fm_354 (N : Nat) (y0 : Value) (h : am_H) : Option am_O := fg_354_0 N y0 h
theorem rm_354 {X : am_X} {d : Nat} {N : Nat} (y0 : Value) (h : am_H) (o : am_O) (i0 : am_isR y0 = true) (hs : fm_354 N y0 h = some o) : am_W X (d + 3) 354 0 (am_args 0 [y0]) [] h (fun q => q = o) := by
  rw [am_args_R i0]
  exact rg_354_0 y0 h o rfl i0 hs
def fg_356_105 (N : Nat) : Nat → Value → Int32 → Int32 → am_H → Option am_O
  | 0 => fun _ _ _ _ => none
  | K + 1 => fun x0 x8 x9 h => ((am_vI (am_pG 3086 x0 h)).bind fun v1 => (if v1 ≤ x9 then ((am_vI (am_pG 3073 x0 h)).bind fun v4 => ((am_pP 3073 x0 (.int (v4 + 1)) h).bind fun h6 => some (.inl (some (.int x8), h6)))) else ((am_vR (am_pG 3083 x0 h)).bind fun v8 => ((am_vR (am_pG 3088 x0 h)).bind fun v10 => ((am_pA 0 v10 x9 h).bind fun v12 => ((am_pS 0 v8 ((60 * x8) + x9) v12 h).bind fun h14 => ((am_vR (am_pG 3084 x0 h14)).bind fun v16 => ((am_vR (am_pG 3089 x0 h14)).bind fun v18 => ((am_pA 0 v18 x9 h14).bind fun v20 => ((am_pS 0 v16 ((60 * x8) + x9) v20 h14).bind fun h22 => (fg_356_105 N K x0 x8 ((x9 + 1)) h22)))))))))))
theorem rg_356_105 {X : am_X} {d : Nat} {N : Nat} : ∀ (K : Nat) (x0 : Value) (x8 : Int32) (x9 : Int32) (h : am_H) (o : am_O), fg_356_105 N K x0 x8 x9 h = some o → ∀ lv : am_LV, (lv.lookup 0 = some x0) → (lv.lookup 8 = some (.int x8)) → (lv.lookup 9 = some (.int x9)) → (am_isR x0 = true) → am_W X (d) 356 105 lv [] h (fun q => q = o) := by
  intro K
  induction K with
  | zero => intro x0 x8 x9 h o hs; cases hs
  | succ K ih =>
    intro x0 x8 x9 h o hs lv l0 l8 l9 i0
    unfold fg_356_105 at hs
    refine aw_iload (pc1 := 107) at_356_105 l9 rfl ?_
    refine aw_vload_n (pc1 := 108) at_356_107 l0 i0 rfl ?_
    obtain ⟨v1, e2, hs1⟩ := am_bind hs
    clear hs
    refine aw_pG (pc1 := 111) at_356_108 (am_vI_s e2) rfl ?_
    by_cases c3 : v1 ≤ x9
    · rw [if_pos c3] at hs1
      refine aw_icge_t at_356_111 c3 ?_
      refine aw_vload_n (pc1 := 161) at_356_160 l0 i0 rfl ?_
      refine aw_vdup (pc1 := 162) at_356_161 i0 rfl ?_
      obtain ⟨v4, e5, hs2⟩ := am_bind hs1
      clear hs1
      refine aw_pG (pc1 := 165) at_356_162 (am_vI_s e5) rfl ?_
      refine aw_iconst (v := 1) (pc1 := 166) at_356_165 (by decide) rfl ?_
      refine aw_iadd (v := (v4 + 1)) (pc1 := 167) at_356_166 rfl rfl ?_
      obtain ⟨h6, e7, hs3⟩ := am_bind hs2
      clear hs2
      refine aw_pP (pc1 := 170) at_356_167 e7 rfl ?_
      refine aw_iload (pc1 := 172) at_356_170 l8 rfl ?_
      cases hs3
      exact aw_iret at_356_172 (by rw [rt_356]; rfl) rfl
    · rw [if_neg c3] at hs1
      refine aw_icge_f (pc1 := 114) at_356_111 c3 rfl ?_
      refine aw_vload_n (pc1 := 115) at_356_114 l0 i0 rfl ?_
      obtain ⟨v8, e9, hs4⟩ := am_bind hs1
      clear hs1
      refine aw_pG (pc1 := 118) at_356_115 (am_vR_s e9).1 rfl ?_
      refine aw_bipush (v := 60) (pc1 := 120) at_356_118 (by decide) rfl ?_
      refine aw_iload (pc1 := 122) at_356_120 l8 rfl ?_
      refine aw_imul (v := (60 * x8)) (pc1 := 123) at_356_122 rfl rfl ?_
      refine aw_iload (pc1 := 125) at_356_123 l9 rfl ?_
      refine aw_iadd (v := ((60 * x8) + x9)) (pc1 := 126) at_356_125 rfl rfl ?_
      refine aw_vload_n (pc1 := 127) at_356_126 l0 i0 rfl ?_
      obtain ⟨v10, e11, hs5⟩ := am_bind hs4
      clear hs4
      refine aw_pG (pc1 := 130) at_356_127 (am_vR_s e11).1 rfl ?_
      refine aw_iload (pc1 := 132) at_356_130 l9 rfl ?_
      obtain ⟨v12, e13, hs6⟩ := am_bind hs5
      clear hs5
      refine aw_pA (pc1 := 133) at_356_132 (Or.inl ⟨rfl, rfl⟩) e13 rfl ?_
      obtain ⟨h14, e15, hs7⟩ := am_bind hs6
      clear hs6
      refine aw_pS (pc1 := 134) at_356_133 (Or.inl ⟨rfl, rfl⟩) e15 rfl ?_
      refine aw_vload_n (pc1 := 135) at_356_134 l0 i0 rfl ?_
      obtain ⟨v16, e17, hs8⟩ := am_bind hs7
      clear hs7
      refine aw_pG (pc1 := 138) at_356_135 (am_vR_s e17).1 rfl ?_
      refine aw_bipush (v := 60) (pc1 := 140) at_356_138 (by decide) rfl ?_
      refine aw_iload (pc1 := 142) at_356_140 l8 rfl ?_
      refine aw_imul (v := (60 * x8)) (pc1 := 143) at_356_142 rfl rfl ?_
      refine aw_iload (pc1 := 145) at_356_143 l9 rfl ?_
      refine aw_iadd (v := ((60 * x8) + x9)) (pc1 := 146) at_356_145 rfl rfl ?_
      refine aw_vload_n (pc1 := 147) at_356_146 l0 i0 rfl ?_
      obtain ⟨v18, e19, hs9⟩ := am_bind hs8
      clear hs8
      refine aw_pG (pc1 := 150) at_356_147 (am_vR_s e19).1 rfl ?_
      refine aw_iload (pc1 := 152) at_356_150 l9 rfl ?_
      obtain ⟨v20, e21, hs10⟩ := am_bind hs9
      clear hs9
      refine aw_pA (pc1 := 153) at_356_152 (Or.inl ⟨rfl, rfl⟩) e21 rfl ?_
      obtain ⟨h22, e23, hs11⟩ := am_bind hs10
      clear hs10
      refine aw_pS (pc1 := 154) at_356_153 (Or.inl ⟨rfl, rfl⟩) e23 rfl ?_
      refine aw_iinc (v := (x9 + 1)) (c := 1) (lv1 := am_put1 _ 9 _) (pc1 := 157) at_356_154 l9 (by decide) rfl rfl rfl ?_
      refine aw_goto at_356_157 ?_
      exact ih x0 x8 ((x9 + 1)) h22 o hs11 _ (am_lk1 l0 rfl rfl) (am_lk1 l8 rfl rfl) am_lk0 i0
def fg_356_50 (N : Nat) (x0 : Value) (x1 : Int32) (x2 : Int32) (x3 : Int32) (x4 : Int32) (x5 : Int32) (x6 : Int64) (x8 : Int32) (s0 : Value) (s1 : Int32) (s2 : Int32) (h : am_H) : Option am_O := ((am_pS 0 s0 s1 s2 h).bind fun h1 => ((am_vR (am_pG 3077 x0 h1)).bind fun v3 => ((am_pS 0 v3 x8 x1 h1).bind fun h5 => ((am_vR (am_pG 3078 x0 h5)).bind fun v7 => ((am_pS 0 v7 x8 x2 h5).bind fun h9 => ((am_vR (am_pG 3079 x0 h9)).bind fun v11 => ((am_pS 0 v11 x8 x3 h9).bind fun h13 => ((am_vR (am_pG 3080 x0 h13)).bind fun v15 => ((am_pS 0 v15 x8 x4 h13).bind fun h17 => ((am_vR (am_pG 3081 x0 h17)).bind fun v19 => ((am_pS 0 v19 x8 x5 h17).bind fun h21 => ((am_vR (am_pG 3082 x0 h21)).bind fun v23 => ((am_pSL v23 x8 x6 h21).bind fun h25 => (fg_356_105 N N x0 x8 0 h25))))))))))))))
theorem rg_356_50 {X : am_X} {d : Nat} {N : Nat} {lv : am_LV} (x0 : Value) (x1 : Int32) (x2 : Int32) (x3 : Int32) (x4 : Int32) (x5 : Int32) (x6 : Int64) (x8 : Int32) (s0 : Value) (s1 : Int32) (s2 : Int32) (h : am_H) (o : am_O) (l0 : lv.lookup 0 = some x0) (l1 : lv.lookup 1 = some (.int x1)) (l2 : lv.lookup 2 = some (.int x2)) (l3 : lv.lookup 3 = some (.int x3)) (l4 : lv.lookup 4 = some (.int x4)) (l5 : lv.lookup 5 = some (.int x5)) (l6 : lv.lookup 6 = some (.long x6)) (l8 : lv.lookup 8 = some (.int x8)) (i0 : am_isR x0 = true) (j0 : am_isR s0 = true) (hs : fg_356_50 N x0 x1 x2 x3 x4 x5 x6 x8 s0 s1 s2 h = some o) : am_W X (d) 356 50 lv [(.int s2), (.int s1), s0] h (fun q => q = o) := by
  unfold fg_356_50 at hs
  obtain ⟨h1, e2, hs1⟩ := am_bind hs
  clear hs
  refine aw_pS (pc1 := 51) at_356_50 (Or.inl ⟨rfl, rfl⟩) e2 rfl ?_
  refine aw_vload_n (pc1 := 52) at_356_51 l0 i0 rfl ?_
  obtain ⟨v3, e4, hs2⟩ := am_bind hs1
  clear hs1
  refine aw_pG (pc1 := 55) at_356_52 (am_vR_s e4).1 rfl ?_
  refine aw_iload (pc1 := 57) at_356_55 l8 rfl ?_
  refine aw_iload_n (pc1 := 58) at_356_57 l1 rfl ?_
  obtain ⟨h5, e6, hs3⟩ := am_bind hs2
  clear hs2
  refine aw_pS (pc1 := 59) at_356_58 (Or.inl ⟨rfl, rfl⟩) e6 rfl ?_
  refine aw_vload_n (pc1 := 60) at_356_59 l0 i0 rfl ?_
  obtain ⟨v7, e8, hs4⟩ := am_bind hs3
  clear hs3
  refine aw_pG (pc1 := 63) at_356_60 (am_vR_s e8).1 rfl ?_
  refine aw_iload (pc1 := 65) at_356_63 l8 rfl ?_
  refine aw_iload_n (pc1 := 66) at_356_65 l2 rfl ?_
  obtain ⟨h9, e10, hs5⟩ := am_bind hs4
  clear hs4
  refine aw_pS (pc1 := 67) at_356_66 (Or.inl ⟨rfl, rfl⟩) e10 rfl ?_
  refine aw_vload_n (pc1 := 68) at_356_67 l0 i0 rfl ?_
  obtain ⟨v11, e12, hs6⟩ := am_bind hs5
  clear hs5
  refine aw_pG (pc1 := 71) at_356_68 (am_vR_s e12).1 rfl ?_
  refine aw_iload (pc1 := 73) at_356_71 l8 rfl ?_
  refine aw_iload_n (pc1 := 74) at_356_73 l3 rfl ?_
  obtain ⟨h13, e14, hs7⟩ := am_bind hs6
  clear hs6
  refine aw_pS (pc1 := 75) at_356_74 (Or.inl ⟨rfl, rfl⟩) e14 rfl ?_
  refine aw_vload_n (pc1 := 76) at_356_75 l0 i0 rfl ?_
  obtain ⟨v15, e16, hs8⟩ := am_bind hs7
  clear hs7
  refine aw_pG (pc1 := 79) at_356_76 (am_vR_s e16).1 rfl ?_
  refine aw_iload (pc1 := 81) at_356_79 l8 rfl ?_
  refine aw_iload (pc1 := 83) at_356_81 l4 rfl ?_
  obtain ⟨h17, e18, hs9⟩ := am_bind hs8
  clear hs8
  refine aw_pS (pc1 := 84) at_356_83 (Or.inl ⟨rfl, rfl⟩) e18 rfl ?_
  refine aw_vload_n (pc1 := 85) at_356_84 l0 i0 rfl ?_
  obtain ⟨v19, e20, hs10⟩ := am_bind hs9
  clear hs9
  refine aw_pG (pc1 := 88) at_356_85 (am_vR_s e20).1 rfl ?_
  refine aw_iload (pc1 := 90) at_356_88 l8 rfl ?_
  refine aw_iload (pc1 := 92) at_356_90 l5 rfl ?_
  obtain ⟨h21, e22, hs11⟩ := am_bind hs10
  clear hs10
  refine aw_pS (pc1 := 93) at_356_92 (Or.inl ⟨rfl, rfl⟩) e22 rfl ?_
  refine aw_vload_n (pc1 := 94) at_356_93 l0 i0 rfl ?_
  obtain ⟨v23, e24, hs12⟩ := am_bind hs11
  clear hs11
  refine aw_pG (pc1 := 97) at_356_94 (am_vR_s e24).1 rfl ?_
  refine aw_iload (pc1 := 99) at_356_97 l8 rfl ?_
  refine aw_lload (pc1 := 101) at_356_99 l6 rfl ?_
  obtain ⟨h25, e26, hs13⟩ := am_bind hs12
  clear hs12
  refine aw_pSL (pc1 := 102) at_356_101 e26 rfl ?_
  refine aw_iconst (v := 0) (pc1 := 103) at_356_102 (by decide) rfl ?_
  refine aw_istore (lv1 := am_put1 _ 9 _) (pc1 := 105) at_356_103 rfl rfl ?_
  exact rg_356_105 N x0 x8 0 h25 o hs13 _ (am_lk1 l0 rfl rfl) (am_lk1 l8 rfl rfl) am_lk0 i0
def fg_356_0 (N : Nat) (x0 : Value) (x1 : Int32) (x2 : Int32) (x3 : Int32) (x4 : Int32) (x5 : Int32) (x6 : Int64) (h : am_H) : Option am_O := ((am_vI (am_pG 3073 x0 h)).bind fun v1 => ((am_vR (am_pG 3074 x0 h)).bind fun v3 => ((am_vI (am_pG 3085 x0 h)).bind fun v5 => ((am_pS 0 v3 v1 v5 h).bind fun h7 => ((am_vR (am_pG 3075 x0 h7)).bind fun v9 => ((am_vI (am_pG 3086 x0 h7)).bind fun v11 => ((am_pS 0 v9 v1 v11 h7).bind fun h13 => ((am_vR (am_pG 3076 x0 h13)).bind fun v15 => ((am_vI (am_pG 3085 x0 h13)).bind fun v17 => (if ¬ v17 = 3 then (fg_356_50 N x0 x1 x2 x3 x4 x5 x6 v1 v15 v1 0 h13) else ((am_vI (am_pG 3087 x0 h13)).bind fun v20 => (fg_356_50 N x0 x1 x2 x3 x4 x5 x6 v1 v15 v1 v20 h13))))))))))))
theorem rg_356_0 {X : am_X} {d : Nat} {N : Nat} {lv : am_LV} (x0 : Value) (x1 : Int32) (x2 : Int32) (x3 : Int32) (x4 : Int32) (x5 : Int32) (x6 : Int64) (h : am_H) (o : am_O) (l0 : lv.lookup 0 = some x0) (l1 : lv.lookup 1 = some (.int x1)) (l2 : lv.lookup 2 = some (.int x2)) (l3 : lv.lookup 3 = some (.int x3)) (l4 : lv.lookup 4 = some (.int x4)) (l5 : lv.lookup 5 = some (.int x5)) (l6 : lv.lookup 6 = some (.long x6)) (i0 : am_isR x0 = true) (hs : fg_356_0 N x0 x1 x2 x3 x4 x5 x6 h = some o) : am_W X (d) 356 0 lv [] h (fun q => q = o) := by
  unfold fg_356_0 at hs
  refine aw_vload_n (pc1 := 1) at_356_0 l0 i0 rfl ?_
  obtain ⟨v1, e2, hs1⟩ := am_bind hs
  clear hs
  refine aw_pG (pc1 := 4) at_356_1 (am_vI_s e2) rfl ?_
  refine aw_istore (lv1 := am_put1 _ 8 _) (pc1 := 6) at_356_4 rfl rfl ?_
  refine aw_vload_n (pc1 := 7) at_356_6 (am_lk1 l0 rfl rfl) i0 rfl ?_
  obtain ⟨v3, e4, hs2⟩ := am_bind hs1
  clear hs1
  refine aw_pG (pc1 := 10) at_356_7 (am_vR_s e4).1 rfl ?_
  refine aw_iload (pc1 := 12) at_356_10 am_lk0 rfl ?_
  refine aw_vload_n (pc1 := 13) at_356_12 (am_lk1 l0 rfl rfl) i0 rfl ?_
  obtain ⟨v5, e6, hs3⟩ := am_bind hs2
  clear hs2
  refine aw_pG (pc1 := 16) at_356_13 (am_vI_s e6) rfl ?_
  obtain ⟨h7, e8, hs4⟩ := am_bind hs3
  clear hs3
  refine aw_pS (pc1 := 17) at_356_16 (Or.inl ⟨rfl, rfl⟩) e8 rfl ?_
  refine aw_vload_n (pc1 := 18) at_356_17 (am_lk1 l0 rfl rfl) i0 rfl ?_
  obtain ⟨v9, e10, hs5⟩ := am_bind hs4
  clear hs4
  refine aw_pG (pc1 := 21) at_356_18 (am_vR_s e10).1 rfl ?_
  refine aw_iload (pc1 := 23) at_356_21 am_lk0 rfl ?_
  refine aw_vload_n (pc1 := 24) at_356_23 (am_lk1 l0 rfl rfl) i0 rfl ?_
  obtain ⟨v11, e12, hs6⟩ := am_bind hs5
  clear hs5
  refine aw_pG (pc1 := 27) at_356_24 (am_vI_s e12) rfl ?_
  obtain ⟨h13, e14, hs7⟩ := am_bind hs6
  clear hs6
  refine aw_pS (pc1 := 28) at_356_27 (Or.inl ⟨rfl, rfl⟩) e14 rfl ?_
  refine aw_vload_n (pc1 := 29) at_356_28 (am_lk1 l0 rfl rfl) i0 rfl ?_
  obtain ⟨v15, e16, hs8⟩ := am_bind hs7
  clear hs7
  refine aw_pG (pc1 := 32) at_356_29 (am_vR_s e16).1 rfl ?_
  refine aw_iload (pc1 := 34) at_356_32 am_lk0 rfl ?_
  refine aw_vload_n (pc1 := 35) at_356_34 (am_lk1 l0 rfl rfl) i0 rfl ?_
  obtain ⟨v17, e18, hs9⟩ := am_bind hs8
  clear hs8
  refine aw_pG (pc1 := 38) at_356_35 (am_vI_s e18) rfl ?_
  refine aw_iconst (v := 3) (pc1 := 39) at_356_38 (by decide) rfl ?_
  by_cases c19 : ¬ v17 = 3
  · rw [if_pos c19] at hs9
    refine aw_icne_t at_356_39 c19 ?_
    refine aw_iconst (v := 0) (pc1 := 50) at_356_49 (by decide) rfl ?_
    exact rg_356_50 x0 x1 x2 x3 x4 x5 x6 v1 v15 v1 0 h13 o (am_lk1 l0 rfl rfl) (am_lk1 l1 rfl rfl) (am_lk1 l2 rfl rfl) (am_lk1 l3 rfl rfl) (am_lk1 l4 rfl rfl) (am_lk1 l5 rfl rfl) (am_lk1 l6 rfl rfl) am_lk0 i0 (am_vR_s e16).2 hs9
  · rw [if_neg c19] at hs9
    refine aw_icne_f (pc1 := 42) at_356_39 c19 rfl ?_
    refine aw_vload_n (pc1 := 43) at_356_42 (am_lk1 l0 rfl rfl) i0 rfl ?_
    obtain ⟨v20, e21, hs10⟩ := am_bind hs9
    clear hs9
    refine aw_pG (pc1 := 46) at_356_43 (am_vI_s e21) rfl ?_
    refine aw_goto at_356_46 ?_
    exact rg_356_50 x0 x1 x2 x3 x4 x5 x6 v1 v15 v1 v20 h13 o (am_lk1 l0 rfl rfl) (am_lk1 l1 rfl rfl) (am_lk1 l2 rfl rfl) (am_lk1 l3 rfl rfl) (am_lk1 l4 rfl rfl) (am_lk1 l5 rfl rfl) (am_lk1 l6 rfl rfl) am_lk0 i0 (am_vR_s e16).2 hs10
def fm_356 (N : Nat) (y0 : Value) (y1 : Int32) (y2 : Int32) (y3 : Int32) (y4 : Int32) (y5 : Int32) (y6 : Int64) (h : am_H) : Option am_O := fg_356_0 N y0 y1 y2 y3 y4 y5 y6 h
theorem rm_356 {X : am_X} {d : Nat} {N : Nat} (y0 : Value) (y1 : Int32) (y2 : Int32) (y3 : Int32) (y4 : Int32) (y5 : Int32) (y6 : Int64) (h : am_H) (o : am_O) (i0 : am_isR y0 = true) (hs : fm_356 N y0 y1 y2 y3 y4 y5 y6 h = some o) : am_W X (d) 356 0 (am_args 0 [y0, .int y1, .int y2, .int y3, .int y4, .int y5, .long y6]) [] h (fun q => q = o) := by
  rw [am_args_R i0, am_args_I, am_args_I, am_args_I, am_args_I, am_args_I, am_args_L]
  exact rg_356_0 y0 y1 y2 y3 y4 y5 y6 h o rfl rfl rfl rfl rfl rfl rfl i0 hs
def fg_326_144 (N : Nat) (s0 : Int32) (h : am_H) : Option am_O := some (.inl (some (.int s0), h))
theorem rg_326_144 {X : am_X} {d : Nat} {N : Nat} {lv : am_LV} (s0 : Int32) (h : am_H) (o : am_O) (hs : fg_326_144 N s0 h = some o) : am_W X (d + 6) 326 144 lv [(.int s0)] h (fun q => q = o) := by
  unfold fg_326_144 at hs
  cases hs
  exact aw_iret at_326_144 (by rw [rt_326]; rfl) rfl
def fg_326_113 (N : Nat) (x0 : Value) (h : am_H) : Option am_O := ((am_pP 3140 x0 (.int 0) h).bind fun h1 => ((am_vI (am_pG 3142 x0 h1)).bind fun v3 => (if v3 < 0 then (if am_pOk 12 x0 h1 then am_cI true (fm_356 N x0 0 ((-1)) ((-1)) ((-1)) ((-1)) 0 h1) (fun v7 h8 => (fg_326_144 N v7 h8)) else none) else ((am_vI (am_pG 3142 x0 h1)).bind fun v10 => (fg_326_144 N (((-1) - v10)) h1)))))
theorem rg_326_113 {X : am_X} {d : Nat} {N : Nat} {lv : am_LV} (x0 : Value) (h : am_H) (o : am_O) (l0 : lv.lookup 0 = some x0) (i0 : am_isR x0 = true) (hs : fg_326_113 N x0 h = some o) : am_W X (d + 6) 326 113 lv [] h (fun q => q = o) := by
  unfold fg_326_113 at hs
  refine aw_vload_n (pc1 := 114) at_326_113 l0 i0 rfl ?_
  refine aw_iconst (v := 0) (pc1 := 115) at_326_114 (by decide) rfl ?_
  obtain ⟨h1, e2, hs1⟩ := am_bind hs
  clear hs
  refine aw_pP (pc1 := 118) at_326_115 e2 rfl ?_
  refine aw_vload_n (pc1 := 119) at_326_118 l0 i0 rfl ?_
  obtain ⟨v3, e4, hs2⟩ := am_bind hs1
  clear hs1
  refine aw_pG (pc1 := 122) at_326_119 (am_vI_s e4) rfl ?_
  by_cases c5 : v3 < 0
  · rw [if_pos c5] at hs2
    refine aw_iflt_t at_326_122 c5 ?_
    refine aw_vload_n (pc1 := 135) at_326_134 l0 i0 rfl ?_
    refine aw_iconst (v := 0) (pc1 := 136) at_326_135 (by decide) rfl ?_
    refine aw_iconst (v := (-1)) (pc1 := 137) at_326_136 (by decide) rfl ?_
    refine aw_iconst (v := (-1)) (pc1 := 138) at_326_137 (by decide) rfl ?_
    refine aw_iconst (v := (-1)) (pc1 := 139) at_326_138 (by decide) rfl ?_
    refine aw_iconst (v := (-1)) (pc1 := 140) at_326_139 (by decide) rfl ?_
    refine aw_lconst (v := 0) (pc1 := 141) at_326_140 (by decide) rfl ?_
    obtain ⟨z6, hs3⟩ := am_ift hs2
    clear hs2
    refine aw_call (F := fm_356 N x0 0 ((-1)) ((-1)) ((-1)) ((-1)) 0 h1) (t := true) (na := 7) (kd := 1) (as := [x0, (.int 0), (.int (-1)), (.int (-1)), (.int (-1)), (.int (-1)), (.long 0)]) at_326_141 (am_k3v kb_356) mn_356 mk_356 rfl rfl (am_ok_v mi_356 (am_hl rfl (am_ccR i0 (am_ccI (am_ccI (am_ccI (am_ccI (am_ccI (am_ccL am_cats_0))))))) rfl) z6) (am_hc am_cats_0 rfl) (fun _ => ⟨rfl, hh_326⟩) (fun o1 hz9 => rm_356 x0 0 ((-1)) ((-1)) ((-1)) ((-1)) 0 h1 o1 i0 hz9) ?_
    rcases am_cI_s hs3 with ⟨v7, h8, f9, hs4⟩ | hs4
    · clear hs3
      refine Or.inl ⟨_, _, f9, ?_⟩
      show am_W X _ 326 144 _ [(.int v7)] h8 _
      exact rg_326_144 v7 h8 o   hs4
    · clear hs3
      exact Or.inr hs4
  · rw [if_neg c5] at hs2
    refine aw_iflt_f (pc1 := 125) at_326_122 c5 rfl ?_
    refine aw_iconst (v := (-1)) (pc1 := 126) at_326_125 (by decide) rfl ?_
    refine aw_vload_n (pc1 := 127) at_326_126 l0 i0 rfl ?_
    obtain ⟨v10, e11, hs5⟩ := am_bind hs2
    clear hs2
    refine aw_pG (pc1 := 130) at_326_127 (am_vI_s e11) rfl ?_
    refine aw_isub (v := ((-1) - v10)) (pc1 := 131) at_326_130 rfl rfl ?_
    refine aw_goto at_326_131 ?_
    exact rg_326_144 (((-1) - v10)) h1 o   hs5
def fg_326_32 (N : Nat) (x0 : Value) (x1 : Int32) (s0 : Value) (s1 : Int32) (h : am_H) : Option am_O := ((am_pP 3072 s0 (.int s1) h).bind fun h1 => ((am_vI (am_pG 3072 x0 h1)).bind fun v3 => (if v3 ≤ 0 then ((am_pP 3085 x0 (.int x1) h1).bind fun h6 => ((am_pP 3086 x0 (.int 0) h6).bind fun h8 => ((am_pP 3087 x0 (.int 0) h8).bind fun h10 => ((am_pP 3141 x0 (.int 0) h10).bind fun h12 => ((am_pP 3142 x0 (.int (-1)) h12).bind fun h14 => ((am_pP 3149 x0 (.int 0) h14).bind fun h16 => (if ¬ x1 = 0 then (if ¬ x1 = 1 then (if ¬ x1 = 2 then (if am_pOk 12 x0 h16 then am_cV true (fm_354 N x0 h16) (fun h23 => (fg_326_113 N x0 h23)) else none) else (if am_pOk 12 x0 h16 then am_cV true (fm_351 N x0 h16) (fun h27 => (fg_326_113 N x0 h27)) else none)) else (if am_pOk 12 x0 h16 then am_cV true (fm_344 N x0 h16) (fun h31 => (fg_326_113 N x0 h31)) else none)) else (if am_pOk 12 x0 h16 then am_cV true (fm_328 N x0 h16) (fun h35 => (fg_326_113 N x0 h35)) else none)))))))) else some (.inl (some (.int 0), h1)))))
theorem rg_326_32 {X : am_X} {d : Nat} {N : Nat} {lv : am_LV} (x0 : Value) (x1 : Int32) (s0 : Value) (s1 : Int32) (h : am_H) (o : am_O) (l0 : lv.lookup 0 = some x0) (l1 : lv.lookup 1 = some (.int x1)) (i0 : am_isR x0 = true) (j0 : am_isR s0 = true) (hs : fg_326_32 N x0 x1 s0 s1 h = some o) : am_W X (d + 6) 326 32 lv [(.int s1), s0] h (fun q => q = o) := by
  unfold fg_326_32 at hs
  obtain ⟨h1, e2, hs1⟩ := am_bind hs
  clear hs
  refine aw_pP (pc1 := 35) at_326_32 e2 rfl ?_
  refine aw_vload_n (pc1 := 36) at_326_35 l0 i0 rfl ?_
  obtain ⟨v3, e4, hs2⟩ := am_bind hs1
  clear hs1
  refine aw_pG (pc1 := 39) at_326_36 (am_vI_s e4) rfl ?_
  by_cases c5 : v3 ≤ 0
  · rw [if_pos c5] at hs2
    refine aw_ifle_t at_326_39 c5 ?_
    refine aw_vload_n (pc1 := 45) at_326_44 l0 i0 rfl ?_
    refine aw_iload_n (pc1 := 46) at_326_45 l1 rfl ?_
    obtain ⟨h6, e7, hs3⟩ := am_bind hs2
    clear hs2
    refine aw_pP (pc1 := 49) at_326_46 e7 rfl ?_
    refine aw_vload_n (pc1 := 50) at_326_49 l0 i0 rfl ?_
    refine aw_iconst (v := 0) (pc1 := 51) at_326_50 (by decide) rfl ?_
    obtain ⟨h8, e9, hs4⟩ := am_bind hs3
    clear hs3
    refine aw_pP (pc1 := 54) at_326_51 e9 rfl ?_
    refine aw_vload_n (pc1 := 55) at_326_54 l0 i0 rfl ?_
    refine aw_iconst (v := 0) (pc1 := 56) at_326_55 (by decide) rfl ?_
    obtain ⟨h10, e11, hs5⟩ := am_bind hs4
    clear hs4
    refine aw_pP (pc1 := 59) at_326_56 e11 rfl ?_
    refine aw_vload_n (pc1 := 60) at_326_59 l0 i0 rfl ?_
    refine aw_iconst (v := 0) (pc1 := 61) at_326_60 (by decide) rfl ?_
    obtain ⟨h12, e13, hs6⟩ := am_bind hs5
    clear hs5
    refine aw_pP (pc1 := 64) at_326_61 e13 rfl ?_
    refine aw_vload_n (pc1 := 65) at_326_64 l0 i0 rfl ?_
    refine aw_iconst (v := (-1)) (pc1 := 66) at_326_65 (by decide) rfl ?_
    obtain ⟨h14, e15, hs7⟩ := am_bind hs6
    clear hs6
    refine aw_pP (pc1 := 69) at_326_66 e15 rfl ?_
    refine aw_vload_n (pc1 := 70) at_326_69 l0 i0 rfl ?_
    refine aw_iconst (v := 0) (pc1 := 71) at_326_70 (by decide) rfl ?_
    obtain ⟨h16, e17, hs8⟩ := am_bind hs7
    clear hs7
    refine aw_pP (pc1 := 74) at_326_71 e17 rfl ?_
    refine aw_iload_n (pc1 := 75) at_326_74 l1 rfl ?_
    by_cases c18 : ¬ x1 = 0
    · rw [if_pos c18] at hs8
      refine aw_ifne_t at_326_75 c18 ?_
      refine aw_iload_n (pc1 := 86) at_326_85 l1 rfl ?_
      refine aw_iconst (v := 1) (pc1 := 87) at_326_86 (by decide) rfl ?_
      by_cases c19 : ¬ x1 = 1
      · rw [if_pos c19] at hs8
        refine aw_icne_t at_326_87 c19 ?_
        refine aw_iload_n (pc1 := 98) at_326_97 l1 rfl ?_
        refine aw_iconst (v := 2) (pc1 := 99) at_326_98 (by decide) rfl ?_
        by_cases c20 : ¬ x1 = 2
        · rw [if_pos c20] at hs8
          refine aw_icne_t at_326_99 c20 ?_
          refine aw_vload_n (pc1 := 110) at_326_109 l0 i0 rfl ?_
          obtain ⟨z21, hs9⟩ := am_ift hs8
          clear hs8
          refine aw_call (F := fm_354 N x0 h16) (t := true) (na := 1) (kd := 1) (as := [x0]) at_326_110 (am_k3v kb_354) mn_354 mk_354 rfl rfl (am_ok_v mi_354 (am_hl rfl (am_ccR i0 am_cats_0) rfl) z21) (am_hc am_cats_0 rfl) (fun _ => ⟨rfl, hh_326⟩) (fun o1 hz9 => rm_354 x0 h16 o1 i0 hz9) ?_
          rcases am_cV_s hs9 with ⟨h23, f24, hs10⟩ | hs10
          · clear hs9
            refine Or.inl ⟨_, _, f24, ?_⟩
            show am_W X _ 326 113 _ [] h23 _
            exact rg_326_113 x0 h23 o l0 i0 hs10
          · clear hs9
            exact Or.inr hs10
        · rw [if_neg c20] at hs8
          refine aw_icne_f (pc1 := 102) at_326_99 c20 rfl ?_
          refine aw_vload_n (pc1 := 103) at_326_102 l0 i0 rfl ?_
          obtain ⟨z25, hs11⟩ := am_ift hs8
          clear hs8
          refine aw_call (F := fm_351 N x0 h16) (t := true) (na := 1) (kd := 1) (as := [x0]) at_326_103 (am_k3v kb_351) mn_351 mk_351 rfl rfl (am_ok_v mi_351 (am_hl rfl (am_ccR i0 am_cats_0) rfl) z25) (am_hc am_cats_0 rfl) (fun _ => ⟨rfl, hh_326⟩) (fun o1 hz9 => rm_351 x0 h16 o1 i0 hz9) ?_
          rcases am_cV_s hs11 with ⟨h27, f28, hs12⟩ | hs12
          · clear hs11
            refine Or.inl ⟨_, _, f28, ?_⟩
            show am_W X _ 326 106 _ [] h27 _
            refine aw_goto at_326_106 ?_
            exact rg_326_113 x0 h27 o l0 i0 hs12
          · clear hs11
            exact Or.inr hs12
      · rw [if_neg c19] at hs8
        refine aw_icne_f (pc1 := 90) at_326_87 c19 rfl ?_
        refine aw_vload_n (pc1 := 91) at_326_90 l0 i0 rfl ?_
        obtain ⟨z29, hs13⟩ := am_ift hs8
        clear hs8
        refine aw_call (F := fm_344 N x0 h16) (t := true) (na := 1) (kd := 1) (as := [x0]) at_326_91 (am_k3v kb_344) mn_344 mk_344 rfl rfl (am_ok_v mi_344 (am_hl rfl (am_ccR i0 am_cats_0) rfl) z29) (am_hc am_cats_0 rfl) (fun _ => ⟨rfl, hh_326⟩) (fun o1 hz9 => rm_344 x0 h16 o1 i0 hz9) ?_
        rcases am_cV_s hs13 with ⟨h31, f32, hs14⟩ | hs14
        · clear hs13
          refine Or.inl ⟨_, _, f32, ?_⟩
          show am_W X _ 326 94 _ [] h31 _
          refine aw_goto at_326_94 ?_
          exact rg_326_113 x0 h31 o l0 i0 hs14
        · clear hs13
          exact Or.inr hs14
    · rw [if_neg c18] at hs8
      refine aw_ifne_f (pc1 := 78) at_326_75 c18 rfl ?_
      refine aw_vload_n (pc1 := 79) at_326_78 l0 i0 rfl ?_
      obtain ⟨z33, hs15⟩ := am_ift hs8
      clear hs8
      refine aw_call (F := fm_328 N x0 h16) (t := true) (na := 1) (kd := 1) (as := [x0]) at_326_79 (am_k3v kb_328) mn_328 mk_328 rfl rfl (am_ok_v mi_328 (am_hl rfl (am_ccR i0 am_cats_0) rfl) z33) (am_hc am_cats_0 rfl) (fun _ => ⟨rfl, hh_326⟩) (fun o1 hz9 => rm_328 x0 h16 o1 i0 hz9) ?_
      rcases am_cV_s hs15 with ⟨h35, f36, hs16⟩ | hs16
      · clear hs15
        refine Or.inl ⟨_, _, f36, ?_⟩
        show am_W X _ 326 82 _ [] h35 _
        refine aw_goto at_326_82 ?_
        exact rg_326_113 x0 h35 o l0 i0 hs16
      · clear hs15
        exact Or.inr hs16
  · rw [if_neg c5] at hs2
    refine aw_ifle_f (pc1 := 42) at_326_39 c5 rfl ?_
    refine aw_iconst (v := 0) (pc1 := 43) at_326_42 (by decide) rfl ?_
    cases hs2
    exact aw_iret at_326_43 (by rw [rt_326]; rfl) rfl
def fg_326_0 (N : Nat) (x0 : Value) (x1 : Int32) (h : am_H) : Option am_O := am_cI false (fm_327 ((Int32.toInt64 x1)) 0 3 h) (fun v1 h2 => (if ¬ v1 = 0 then ((am_vI (am_pG 3073 x0 h2)).bind fun v5 => (if ¬ v5 = 600 then (fg_326_32 N x0 x1 x0 0 h2) else (fg_326_32 N x0 x1 x0 2 h2))) else (fg_326_32 N x0 x1 x0 1 h2)))
theorem rg_326_0 {X : am_X} {d : Nat} {N : Nat} {lv : am_LV} (x0 : Value) (x1 : Int32) (h : am_H) (o : am_O) (l0 : lv.lookup 0 = some x0) (l1 : lv.lookup 1 = some (.int x1)) (i0 : am_isR x0 = true) (hs : fg_326_0 N x0 x1 h = some o) : am_W X (d + 6) 326 0 lv [] h (fun q => q = o) := by
  unfold fg_326_0 at hs
  refine aw_vload_n (pc1 := 1) at_326_0 l0 i0 rfl ?_
  refine aw_iload_n (pc1 := 2) at_326_1 l1 rfl ?_
  refine aw_i2l (v := (Int32.toInt64 x1)) (pc1 := 3) at_326_2 rfl rfl ?_
  refine aw_lconst (v := 0) (pc1 := 4) at_326_3 (by decide) rfl ?_
  refine aw_ldc2 (v := 3) (pc1 := 7) at_326_4 rfl rfl ?_
  refine aw_call (F := fm_327 ((Int32.toInt64 x1)) 0 3 h) (t := false) (na := 3) (kd := 0) (as := [(.long (Int32.toInt64 x1)), (.long 0), (.long 3)]) at_326_7 (am_k3s kb_327) mn_327 mk_327 rfl rfl (am_ok_s mi_327 (am_hl rfl (am_ccL (am_ccL (am_ccL am_cats_0))) rfl)) (am_hc (am_ccR i0 am_cats_0) rfl) (fun hz9 => by cases hz9) (fun o1 hz9 => rm_327 ((Int32.toInt64 x1)) 0 3 h o1  hz9) ?_
  rcases am_cI_s hs with ⟨v1, h2, f3, hs1⟩ | hs1
  · clear hs
    refine Or.inl ⟨_, _, f3, ?_⟩
    show am_W X _ 326 10 _ [(.int v1), x0] h2 _
    by_cases c4 : ¬ v1 = 0
    · rw [if_pos c4] at hs1
      refine aw_ifne_t at_326_10 c4 ?_
      refine aw_vload_n (pc1 := 18) at_326_17 l0 i0 rfl ?_
      obtain ⟨v5, e6, hs2⟩ := am_bind hs1
      clear hs1
      refine aw_pG (pc1 := 21) at_326_18 (am_vI_s e6) rfl ?_
      refine aw_sipush (v := 600) (pc1 := 24) at_326_21 (by decide) rfl ?_
      by_cases c7 : ¬ v5 = 600
      · rw [if_pos c7] at hs2
        refine aw_icne_t at_326_24 c7 ?_
        refine aw_iconst (v := 0) (pc1 := 32) at_326_31 (by decide) rfl ?_
        exact rg_326_32 x0 x1 x0 0 h2 o l0 l1 i0 i0 hs2
      · rw [if_neg c7] at hs2
        refine aw_icne_f (pc1 := 27) at_326_24 c7 rfl ?_
        refine aw_iconst (v := 2) (pc1 := 28) at_326_27 (by decide) rfl ?_
        refine aw_goto at_326_28 ?_
        exact rg_326_32 x0 x1 x0 2 h2 o l0 l1 i0 i0 hs2
    · rw [if_neg c4] at hs1
      refine aw_ifne_f (pc1 := 13) at_326_10 c4 rfl ?_
      refine aw_iconst (v := 1) (pc1 := 14) at_326_13 (by decide) rfl ?_
      refine aw_goto at_326_14 ?_
      exact rg_326_32 x0 x1 x0 1 h2 o l0 l1 i0 i0 hs1
  · clear hs
    exact Or.inr hs1
def fm_326 (N : Nat) (y0 : Value) (y1 : Int32) (h : am_H) : Option am_O := fg_326_0 N y0 y1 h
theorem rm_326 {X : am_X} {d : Nat} {N : Nat} (y0 : Value) (y1 : Int32) (h : am_H) (o : am_O) (i0 : am_isR y0 = true) (hs : fm_326 N y0 y1 h = some o) : am_W X (d + 6) 326 0 (am_args 0 [y0, .int y1]) [] h (fun q => q = o) := by
  rw [am_args_R i0, am_args_I]
  exact rg_326_0 y0 y1 h o rfl rfl i0 hs
def fg_324_0 (x0 : Value) (h : am_H) : Option am_O := ((am_vI (am_pG 3072 x0 h)).bind fun v1 => some (.inl (some (.int v1), h)))
theorem rg_324_0 {X : am_X} {d : Nat} {lv : am_LV} (x0 : Value) (h : am_H) (o : am_O) (l0 : lv.lookup 0 = some x0) (i0 : am_isR x0 = true) (hs : fg_324_0 x0 h = some o) : am_W X (d) 324 0 lv [] h (fun q => q = o) := by
  unfold fg_324_0 at hs
  refine aw_vload_n (pc1 := 1) at_324_0 l0 i0 rfl ?_
  obtain ⟨v1, e2, hs1⟩ := am_bind hs
  clear hs
  refine aw_pG (pc1 := 4) at_324_1 (am_vI_s e2) rfl ?_
  cases hs1
  exact aw_iret at_324_4 (by rw [rt_324]; rfl) rfl
def fm_324 (y0 : Value) (h : am_H) : Option am_O := fg_324_0 y0 h
theorem rm_324 {X : am_X} {d : Nat} (y0 : Value) (h : am_H) (o : am_O) (i0 : am_isR y0 = true) (hs : fm_324 y0 h = some o) : am_W X (d) 324 0 (am_args 0 [y0]) [] h (fun q => q = o) := by
  rw [am_args_R i0]
  exact rg_324_0 y0 h o rfl i0 hs
def fg_63_21 (h : am_H) : Option am_O := some (.inr (2, h ++ [am_dummy]))
theorem rg_63_21 {X : am_X} {d : Nat} {lv : am_LV} (h : am_H) (o : am_O) (hs : fg_63_21 h = some o) : am_W X (d) 63 21 lv [] h (fun q => q = o) := by
  unfold fg_63_21 at hs
  cases hs
  exact aw_throw at_63_21 rfl th_63_21 (am_hc am_cats_0 rfl) rfl
def fg_63_0 (x0 : Value) (x1 : Int32) (h : am_H) : Option am_O := (if x1 < 0 then (fg_63_21 h) else ((am_vI (am_pG 2817 x0 h)).bind fun v2 => (if v2 ≤ x1 then (fg_63_21 h) else ((am_vR (am_pG 2816 x0 h)).bind fun v5 => ((am_pAA v5 x1 h).bind fun v7 => ((am_pZ v7).bind fun b9 => if b9 = true then (fg_63_21 h) else ((am_vR (am_pG 2816 x0 h)).bind fun v11 => ((am_pAA v11 x1 h).bind fun v13 => am_pRet v13 h))))))))
theorem rg_63_0 {X : am_X} {d : Nat} {lv : am_LV} (x0 : Value) (x1 : Int32) (h : am_H) (o : am_O) (l0 : lv.lookup 0 = some x0) (l1 : lv.lookup 1 = some (.int x1)) (i0 : am_isR x0 = true) (hs : fg_63_0 x0 x1 h = some o) : am_W X (d) 63 0 lv [] h (fun q => q = o) := by
  unfold fg_63_0 at hs
  refine aw_iload_n (pc1 := 1) at_63_0 l1 rfl ?_
  by_cases c1 : x1 < 0
  · rw [if_pos c1] at hs
    refine aw_iflt_t at_63_1 c1 ?_
    exact rg_63_21 h o   hs
  · rw [if_neg c1] at hs
    refine aw_iflt_f (pc1 := 4) at_63_1 c1 rfl ?_
    refine aw_iload_n (pc1 := 5) at_63_4 l1 rfl ?_
    refine aw_vload_n (pc1 := 6) at_63_5 l0 i0 rfl ?_
    obtain ⟨v2, e3, hs1⟩ := am_bind hs
    clear hs
    refine aw_pG (pc1 := 9) at_63_6 (am_vI_s e3) rfl ?_
    by_cases c4 : v2 ≤ x1
    · rw [if_pos c4] at hs1
      refine aw_icge_t at_63_9 c4 ?_
      exact rg_63_21 h o   hs1
    · rw [if_neg c4] at hs1
      refine aw_icge_f (pc1 := 12) at_63_9 c4 rfl ?_
      refine aw_vload_n (pc1 := 13) at_63_12 l0 i0 rfl ?_
      obtain ⟨v5, e6, hs2⟩ := am_bind hs1
      clear hs1
      refine aw_pG (pc1 := 16) at_63_13 (am_vR_s e6).1 rfl ?_
      refine aw_iload_n (pc1 := 17) at_63_16 l1 rfl ?_
      obtain ⟨v7, e8, hs3⟩ := am_bind hs2
      clear hs2
      refine aw_pAA (pc1 := 18) at_63_17 e8 rfl ?_
      obtain ⟨b9, e10, hs4⟩ := am_bind hs3
      clear hs3
      cases b9
      · rw [if_neg (by decide)] at hs4
        refine aw_pYt at_63_18 e10 ?_
        refine aw_vload_n (pc1 := 33) at_63_32 l0 i0 rfl ?_
        obtain ⟨v11, e12, hs5⟩ := am_bind hs4
        clear hs4
        refine aw_pG (pc1 := 36) at_63_33 (am_vR_s e12).1 rfl ?_
        refine aw_iload_n (pc1 := 37) at_63_36 l1 rfl ?_
        obtain ⟨v13, e14, hs6⟩ := am_bind hs5
        clear hs5
        refine aw_pAA (pc1 := 38) at_63_37 e14 rfl ?_
        exact aw_pRet at_63_38 rt_63 hs6
      · rw [if_pos rfl] at hs4
        refine aw_pYf (pc1 := 21) at_63_18 e10 rfl ?_
        exact rg_63_21 h o   hs4
def fm_63 (y0 : Value) (y1 : Int32) (h : am_H) : Option am_O := fg_63_0 y0 y1 h
theorem rm_63 {X : am_X} {d : Nat} (y0 : Value) (y1 : Int32) (h : am_H) (o : am_O) (i0 : am_isR y0 = true) (hs : fm_63 y0 y1 h = some o) : am_W X (d) 63 0 (am_args 0 [y0, .int y1]) [] h (fun q => q = o) := by
  rw [am_args_R i0, am_args_I]
  exact rg_63_0 y0 y1 h o rfl rfl i0 hs
def fg_67_10 (s0 : Int32) (h : am_H) : Option am_O := some (.inl (some (.int s0), h))
theorem rg_67_10 {X : am_X} {d : Nat} {lv : am_LV} (s0 : Int32) (h : am_H) (o : am_O) (hs : fg_67_10 s0 h = some o) : am_W X (d) 67 10 lv [(.int s0)] h (fun q => q = o) := by
  unfold fg_67_10 at hs
  cases hs
  exact aw_iret at_67_10 (by rw [rt_67]; rfl) rfl
def fg_67_0 (x0 : Int32) (h : am_H) : Option am_O := (if 0 ≤ x0 then (fg_67_10 x0 h) else (fg_67_10 ((-x0)) h))
theorem rg_67_0 {X : am_X} {d : Nat} {lv : am_LV} (x0 : Int32) (h : am_H) (o : am_O) (l0 : lv.lookup 0 = some (.int x0)) (hs : fg_67_0 x0 h = some o) : am_W X (d) 67 0 lv [] h (fun q => q = o) := by
  unfold fg_67_0 at hs
  refine aw_iload_n (pc1 := 1) at_67_0 l0 rfl ?_
  by_cases c1 : 0 ≤ x0
  · rw [if_pos c1] at hs
    refine aw_ifge_t at_67_1 c1 ?_
    refine aw_iload_n (pc1 := 10) at_67_9 l0 rfl ?_
    exact rg_67_10 x0 h o   hs
  · rw [if_neg c1] at hs
    refine aw_ifge_f (pc1 := 4) at_67_1 c1 rfl ?_
    refine aw_iload_n (pc1 := 5) at_67_4 l0 rfl ?_
    refine aw_ineg (v := (-x0)) (pc1 := 6) at_67_5 rfl rfl ?_
    refine aw_goto at_67_6 ?_
    exact rg_67_10 ((-x0)) h o   hs
def fm_67 (y0 : Int32) (h : am_H) : Option am_O := fg_67_0 y0 h
theorem rm_67 {X : am_X} {d : Nat} (y0 : Int32) (h : am_H) (o : am_O) (hs : fm_67 y0 h = some o) : am_W X (d) 67 0 (am_args 0 [.int y0]) [] h (fun q => q = o) := by
  rw [am_args_I]
  exact rg_67_0 y0 h o rfl  hs
def fg_68_32 (h : am_H) : Option am_O := some (.inl (none, h))
theorem rg_68_32 {X : am_X} {d : Nat} {lv : am_LV} (h : am_H) (o : am_O) (hs : fg_68_32 h = some o) : am_W X (d) 68 32 lv [] h (fun q => q = o) := by
  unfold fg_68_32 at hs
  cases hs
  exact aw_vret at_68_32 rt_68 rfl
def fg_68_0 (x0 : Value) (x1 : Int32) (h : am_H) : Option am_O := ((am_vI (am_pG 2312 x0 h)).bind fun v1 => ((am_vR (am_pG 2311 x0 h)).bind fun v3 => ((am_pLen v3 h).bind fun v5 => (if v5 ≤ v1 then (fg_68_32 h) else ((am_vR (am_pG 2311 x0 h)).bind fun v8 => ((am_vI (am_pG 2312 x0 h)).bind fun v10 => ((am_pS 3 v8 v10 x1 h).bind fun h12 => ((am_vI (am_pG 2312 x0 h12)).bind fun v14 => ((am_pP 2312 x0 (.int (v14 + 1)) h12).bind fun h16 => (fg_68_32 h16))))))))))
theorem rg_68_0 {X : am_X} {d : Nat} {lv : am_LV} (x0 : Value) (x1 : Int32) (h : am_H) (o : am_O) (l0 : lv.lookup 0 = some x0) (l1 : lv.lookup 1 = some (.int x1)) (i0 : am_isR x0 = true) (hs : fg_68_0 x0 x1 h = some o) : am_W X (d) 68 0 lv [] h (fun q => q = o) := by
  unfold fg_68_0 at hs
  refine aw_vload_n (pc1 := 1) at_68_0 l0 i0 rfl ?_
  obtain ⟨v1, e2, hs1⟩ := am_bind hs
  clear hs
  refine aw_pG (pc1 := 4) at_68_1 (am_vI_s e2) rfl ?_
  refine aw_vload_n (pc1 := 5) at_68_4 l0 i0 rfl ?_
  obtain ⟨v3, e4, hs2⟩ := am_bind hs1
  clear hs1
  refine aw_pG (pc1 := 8) at_68_5 (am_vR_s e4).1 rfl ?_
  obtain ⟨v5, e6, hs3⟩ := am_bind hs2
  clear hs2
  refine aw_pLen (pc1 := 9) at_68_8 e6 rfl ?_
  by_cases c7 : v5 ≤ v1
  · rw [if_pos c7] at hs3
    refine aw_icge_t at_68_9 c7 ?_
    exact rg_68_32 h o   hs3
  · rw [if_neg c7] at hs3
    refine aw_icge_f (pc1 := 12) at_68_9 c7 rfl ?_
    refine aw_vload_n (pc1 := 13) at_68_12 l0 i0 rfl ?_
    obtain ⟨v8, e9, hs4⟩ := am_bind hs3
    clear hs3
    refine aw_pG (pc1 := 16) at_68_13 (am_vR_s e9).1 rfl ?_
    refine aw_vload_n (pc1 := 17) at_68_16 l0 i0 rfl ?_
    obtain ⟨v10, e11, hs5⟩ := am_bind hs4
    clear hs4
    refine aw_pG (pc1 := 20) at_68_17 (am_vI_s e11) rfl ?_
    refine aw_iload_n (pc1 := 21) at_68_20 l1 rfl ?_
    obtain ⟨h12, e13, hs6⟩ := am_bind hs5
    clear hs5
    refine aw_pS (pc1 := 22) at_68_21 (Or.inr (Or.inr ⟨rfl, rfl⟩)) e13 rfl ?_
    refine aw_vload_n (pc1 := 23) at_68_22 l0 i0 rfl ?_
    refine aw_vdup (pc1 := 24) at_68_23 i0 rfl ?_
    obtain ⟨v14, e15, hs7⟩ := am_bind hs6
    clear hs6
    refine aw_pG (pc1 := 27) at_68_24 (am_vI_s e15) rfl ?_
    refine aw_iconst (v := 1) (pc1 := 28) at_68_27 (by decide) rfl ?_
    refine aw_iadd (v := (v14 + 1)) (pc1 := 29) at_68_28 rfl rfl ?_
    obtain ⟨h16, e17, hs8⟩ := am_bind hs7
    clear hs7
    refine aw_pP (pc1 := 32) at_68_29 e17 rfl ?_
    exact rg_68_32 h16 o   hs8
def fm_68 (y0 : Value) (y1 : Int32) (h : am_H) : Option am_O := fg_68_0 y0 y1 h
theorem rm_68 {X : am_X} {d : Nat} (y0 : Value) (y1 : Int32) (h : am_H) (o : am_O) (i0 : am_isR y0 = true) (hs : fm_68 y0 y1 h = some o) : am_W X (d) 68 0 (am_args 0 [y0, .int y1]) [] h (fun q => q = o) := by
  rw [am_args_R i0, am_args_I]
  exact rg_68_0 y0 y1 h o rfl rfl i0 hs
def fg_66_36 (x0 : Value) (x2 : Int32) (h : am_H) : Option am_O := (if am_pOk 9 x0 h then am_cV true (fm_68 x0 (((Int32.toUInt32 (48 + (x2 - x2 / 10 * 10)) % 65536).toInt32)) h) (fun h3 => some (.inl (none, h3))) else none)
theorem rg_66_36 {X : am_X} {d : Nat} {lv : am_LV} (x0 : Value) (x2 : Int32) (h : am_H) (o : am_O) (l0 : lv.lookup 0 = some x0) (l2 : lv.lookup 2 = some (.int x2)) (i0 : am_isR x0 = true) (hs : fg_66_36 x0 x2 h = some o) : am_W X (d + 1) 66 36 lv [] h (fun q => q = o) := by
  unfold fg_66_36 at hs
  refine aw_vload_n (pc1 := 37) at_66_36 l0 i0 rfl ?_
  refine aw_bipush (v := 48) (pc1 := 39) at_66_37 (by decide) rfl ?_
  refine aw_iload_n (pc1 := 40) at_66_39 l2 rfl ?_
  refine aw_bipush (v := 10) (pc1 := 42) at_66_40 (by decide) rfl ?_
  refine aw_irem (v := (x2 - x2 / 10 * 10)) (pc1 := 43) at_66_42 (by decide) rfl rfl ?_
  refine aw_iadd (v := (48 + (x2 - x2 / 10 * 10))) (pc1 := 44) at_66_43 rfl rfl ?_
  refine aw_i2c (v := ((Int32.toUInt32 (48 + (x2 - x2 / 10 * 10)) % 65536).toInt32)) (pc1 := 45) at_66_44 rfl rfl ?_
  obtain ⟨z1, hs1⟩ := am_ift hs
  clear hs
  refine aw_call (F := fm_68 x0 (((Int32.toUInt32 (48 + (x2 - x2 / 10 * 10)) % 65536).toInt32)) h) (t := true) (na := 2) (kd := 1) (as := [x0, (.int ((Int32.toUInt32 (48 + (x2 - x2 / 10 * 10)) % 65536).toInt32))]) at_66_45 (am_k3v kb_68) mn_68 mk_68 rfl rfl (am_ok_v mi_68 (am_hl rfl (am_ccR i0 (am_ccI am_cats_0)) rfl) z1) (am_hc am_cats_0 rfl) (fun _ => ⟨rfl, hh_66⟩) (fun o1 hz9 => rm_68 x0 (((Int32.toUInt32 (48 + (x2 - x2 / 10 * 10)) % 65536).toInt32)) h o1 i0 hz9) ?_
  rcases am_cV_s hs1 with ⟨h3, f4, hs2⟩ | hs2
  · clear hs1
    refine Or.inl ⟨_, _, f4, ?_⟩
    show am_W X _ 66 48 _ [] h3 _
    cases hs2
    exact aw_vret at_66_48 rt_66 rfl
  · clear hs1
    exact Or.inr hs2
def fg_66_15 (x0 : Value) (x2 : Int32) (h : am_H) : Option am_O := (if x2 ≤ 9 then (fg_66_36 x0 x2 h) else (if am_pOk 9 x0 h then am_cV true (fm_68 x0 (((Int32.toUInt32 (48 + ((x2 / 10) - (x2 / 10) / 10 * 10)) % 65536).toInt32)) h) (fun h4 => (fg_66_36 x0 x2 h4)) else none))
theorem rg_66_15 {X : am_X} {d : Nat} {lv : am_LV} (x0 : Value) (x2 : Int32) (h : am_H) (o : am_O) (l0 : lv.lookup 0 = some x0) (l2 : lv.lookup 2 = some (.int x2)) (i0 : am_isR x0 = true) (hs : fg_66_15 x0 x2 h = some o) : am_W X (d + 1) 66 15 lv [] h (fun q => q = o) := by
  unfold fg_66_15 at hs
  refine aw_iload_n (pc1 := 16) at_66_15 l2 rfl ?_
  refine aw_bipush (v := 9) (pc1 := 18) at_66_16 (by decide) rfl ?_
  by_cases c1 : x2 ≤ 9
  · rw [if_pos c1] at hs
    refine aw_icle_t at_66_18 c1 ?_
    exact rg_66_36 x0 x2 h o l0 l2 i0 hs
  · rw [if_neg c1] at hs
    refine aw_icle_f (pc1 := 21) at_66_18 c1 rfl ?_
    refine aw_vload_n (pc1 := 22) at_66_21 l0 i0 rfl ?_
    refine aw_bipush (v := 48) (pc1 := 24) at_66_22 (by decide) rfl ?_
    refine aw_iload_n (pc1 := 25) at_66_24 l2 rfl ?_
    refine aw_bipush (v := 10) (pc1 := 27) at_66_25 (by decide) rfl ?_
    refine aw_idiv (v := (x2 / 10)) (pc1 := 28) at_66_27 (by decide) rfl rfl ?_
    refine aw_bipush (v := 10) (pc1 := 30) at_66_28 (by decide) rfl ?_
    refine aw_irem (v := ((x2 / 10) - (x2 / 10) / 10 * 10)) (pc1 := 31) at_66_30 (by decide) rfl rfl ?_
    refine aw_iadd (v := (48 + ((x2 / 10) - (x2 / 10) / 10 * 10))) (pc1 := 32) at_66_31 rfl rfl ?_
    refine aw_i2c (v := ((Int32.toUInt32 (48 + ((x2 / 10) - (x2 / 10) / 10 * 10)) % 65536).toInt32)) (pc1 := 33) at_66_32 rfl rfl ?_
    obtain ⟨z2, hs1⟩ := am_ift hs
    clear hs
    refine aw_call (F := fm_68 x0 (((Int32.toUInt32 (48 + ((x2 / 10) - (x2 / 10) / 10 * 10)) % 65536).toInt32)) h) (t := true) (na := 2) (kd := 1) (as := [x0, (.int ((Int32.toUInt32 (48 + ((x2 / 10) - (x2 / 10) / 10 * 10)) % 65536).toInt32))]) at_66_33 (am_k3v kb_68) mn_68 mk_68 rfl rfl (am_ok_v mi_68 (am_hl rfl (am_ccR i0 (am_ccI am_cats_0)) rfl) z2) (am_hc am_cats_0 rfl) (fun _ => ⟨rfl, hh_66⟩) (fun o1 hz9 => rm_68 x0 (((Int32.toUInt32 (48 + ((x2 / 10) - (x2 / 10) / 10 * 10)) % 65536).toInt32)) h o1 i0 hz9) ?_
    rcases am_cV_s hs1 with ⟨h4, f5, hs2⟩ | hs2
    · clear hs1
      refine Or.inl ⟨_, _, f5, ?_⟩
      show am_W X _ 66 36 _ [] h4 _
      exact rg_66_36 x0 x2 h4 o l0 l2 i0 hs2
    · clear hs1
      exact Or.inr hs2
def fg_66_0 (x0 : Value) (x1 : Int32) (h : am_H) : Option am_O := am_cI false (fm_67 x1 h) (fun v1 h2 => (if 0 ≤ x1 then (fg_66_15 x0 v1 h2) else (if am_pOk 9 x0 h2 then am_cV true (fm_68 x0 45 h2) (fun h7 => (fg_66_15 x0 v1 h7)) else none)))
theorem rg_66_0 {X : am_X} {d : Nat} {lv : am_LV} (x0 : Value) (x1 : Int32) (h : am_H) (o : am_O) (l0 : lv.lookup 0 = some x0) (l1 : lv.lookup 1 = some (.int x1)) (i0 : am_isR x0 = true) (hs : fg_66_0 x0 x1 h = some o) : am_W X (d + 1) 66 0 lv [] h (fun q => q = o) := by
  unfold fg_66_0 at hs
  refine aw_iload_n (pc1 := 1) at_66_0 l1 rfl ?_
  refine aw_call (F := fm_67 x1 h) (t := false) (na := 1) (kd := 0) (as := [(.int x1)]) at_66_1 (am_k3s kb_67) mn_67 mk_67 rfl rfl (am_ok_s mi_67 (am_hl rfl (am_ccI am_cats_0) rfl)) (am_hc am_cats_0 rfl) (fun hz9 => by cases hz9) (fun o1 hz9 => rm_67 x1 h o1  hz9) ?_
  rcases am_cI_s hs with ⟨v1, h2, f3, hs1⟩ | hs1
  · clear hs
    refine Or.inl ⟨_, _, f3, ?_⟩
    show am_W X _ 66 4 _ [(.int v1)] h2 _
    refine aw_istore_n (lv1 := am_put1 _ 2 _) (pc1 := 5) at_66_4 rfl rfl ?_
    refine aw_iload_n (pc1 := 6) at_66_5 (am_lk1 l1 rfl rfl) rfl ?_
    by_cases c4 : 0 ≤ x1
    · rw [if_pos c4] at hs1
      refine aw_ifge_t at_66_6 c4 ?_
      exact rg_66_15 x0 v1 h2 o (am_lk1 l0 rfl rfl) am_lk0 i0 hs1
    · rw [if_neg c4] at hs1
      refine aw_ifge_f (pc1 := 9) at_66_6 c4 rfl ?_
      refine aw_vload_n (pc1 := 10) at_66_9 (am_lk1 l0 rfl rfl) i0 rfl ?_
      refine aw_bipush (v := 45) (pc1 := 12) at_66_10 (by decide) rfl ?_
      obtain ⟨z5, hs2⟩ := am_ift hs1
      clear hs1
      refine aw_call (F := fm_68 x0 45 h2) (t := true) (na := 2) (kd := 1) (as := [x0, (.int 45)]) at_66_12 (am_k3v kb_68) mn_68 mk_68 rfl rfl (am_ok_v mi_68 (am_hl rfl (am_ccR i0 (am_ccI am_cats_0)) rfl) z5) (am_hc am_cats_0 rfl) (fun _ => ⟨rfl, hh_66⟩) (fun o1 hz9 => rm_68 x0 45 h2 o1 i0 hz9) ?_
      rcases am_cV_s hs2 with ⟨h7, f8, hs3⟩ | hs3
      · clear hs2
        refine Or.inl ⟨_, _, f8, ?_⟩
        show am_W X _ 66 15 _ [] h7 _
        exact rg_66_15 x0 v1 h7 o (am_lk1 l0 rfl rfl) am_lk0 i0 hs3
      · clear hs2
        exact Or.inr hs3
  · clear hs
    exact Or.inr hs1
def fm_66 (y0 : Value) (y1 : Int32) (h : am_H) : Option am_O := fg_66_0 y0 y1 h
theorem rm_66 {X : am_X} {d : Nat} (y0 : Value) (y1 : Int32) (h : am_H) (o : am_O) (i0 : am_isR y0 = true) (hs : fm_66 y0 y1 h = some o) : am_W X (d + 1) 66 0 (am_args 0 [y0, .int y1]) [] h (fun q => q = o) := by
  rw [am_args_R i0, am_args_I]
  exact rg_66_0 y0 y1 h o rfl rfl i0 hs
def fg_65_122 (N : Nat) (rc_65 : Value → Int32 → Int32 → am_H → Option am_O) (x4 : Int32) (h : am_H) : Option am_O := some (.inl (some (.int x4), h))
theorem rg_65_122 {X : am_X} {d : Nat} {N : Nat} {rc_65 : Value → Int32 → Int32 → am_H → Option am_O} (qc_65 : ∀ (y0 : Value) (y1 : Int32) (y2 : Int32) (h : am_H) (o : am_O), (am_isR y0 = true) → rc_65 y0 y1 y2 h = some o → am_W X (d + 2) 65 0 (am_args 0 [y0, .int y1, .int y2]) [] h (fun q => q = o)) {lv : am_LV} (x4 : Int32) (h : am_H) (o : am_O) (l4 : lv.lookup 4 = some (.int x4)) (hs : fg_65_122 N rc_65 x4 h = some o) : am_W X (d + 3) 65 122 lv [] h (fun q => q = o) := by
  unfold fg_65_122 at hs
  refine aw_iload (pc1 := 124) at_65_122 l4 rfl ?_
  cases hs
  exact aw_iret at_65_124 (by rw [rt_65]; rfl) rfl
def fg_65_116 (N : Nat) (rc_65 : Value → Int32 → Int32 → am_H → Option am_O) (x0 : Value) (x4 : Int32) (h : am_H) : Option am_O := (if am_pOk 9 x0 h then am_cV true (fm_68 x0 41 h) (fun h3 => (fg_65_122 N rc_65 x4 h3)) else none)
theorem rg_65_116 {X : am_X} {d : Nat} {N : Nat} {rc_65 : Value → Int32 → Int32 → am_H → Option am_O} (qc_65 : ∀ (y0 : Value) (y1 : Int32) (y2 : Int32) (h : am_H) (o : am_O), (am_isR y0 = true) → rc_65 y0 y1 y2 h = some o → am_W X (d + 2) 65 0 (am_args 0 [y0, .int y1, .int y2]) [] h (fun q => q = o)) {lv : am_LV} (x0 : Value) (x4 : Int32) (h : am_H) (o : am_O) (l0 : lv.lookup 0 = some x0) (l4 : lv.lookup 4 = some (.int x4)) (i0 : am_isR x0 = true) (hs : fg_65_116 N rc_65 x0 x4 h = some o) : am_W X (d + 3) 65 116 lv [] h (fun q => q = o) := by
  unfold fg_65_116 at hs
  refine aw_vload_n (pc1 := 117) at_65_116 l0 i0 rfl ?_
  refine aw_bipush (v := 41) (pc1 := 119) at_65_117 (by decide) rfl ?_
  obtain ⟨z1, hs1⟩ := am_ift hs
  clear hs
  refine aw_call (F := fm_68 x0 41 h) (t := true) (na := 2) (kd := 1) (as := [x0, (.int 41)]) at_65_119 (am_k3v kb_68) mn_68 mk_68 rfl rfl (am_ok_v mi_68 (am_hl rfl (am_ccR i0 (am_ccI am_cats_0)) rfl) z1) (am_hc am_cats_0 rfl) (fun _ => ⟨rfl, hh_65⟩) (fun o1 hz9 => rm_68 x0 41 h o1 i0 hz9) ?_
  rcases am_cV_s hs1 with ⟨h3, f4, hs2⟩ | hs2
  · clear hs1
    refine Or.inl ⟨_, _, f4, ?_⟩
    show am_W X _ 65 122 _ [] h3 _
    exact rg_65_122 qc_65 x4 h3 o l4  hs2
  · clear hs1
    exact Or.inr hs2
def fg_65_78 (N : Nat) (rc_65 : Value → Int32 → Int32 → am_H → Option am_O) : Nat → Value → Int32 → Int32 → Int32 → Int32 → am_H → Option am_O
  | 0 => fun _ _ _ _ _ _ => none
  | K + 1 => fun x0 x2 x3 x4 x5 h => am_cI false (fm_14 x3 h) (fun v1 h2 => (if v1 ≤ x5 then (fg_65_116 N rc_65 x0 x4 h2) else (if 12 < x2 then (fg_65_116 N rc_65 x0 x4 h2) else (if am_pOk 9 x0 h2 then am_cV true (fm_68 x0 32 h2) (fun h8 => (if am_pOk 9 x0 h8 then am_cI true (rc_65 x0 x4 ((x2 + 1)) h8) (fun v11 h12 => (fg_65_78 N rc_65 K x0 x2 x3 v11 ((x5 + 1)) h12)) else none)) else none))))
theorem rg_65_78 {X : am_X} {d : Nat} {N : Nat} {rc_65 : Value → Int32 → Int32 → am_H → Option am_O} (qc_65 : ∀ (y0 : Value) (y1 : Int32) (y2 : Int32) (h : am_H) (o : am_O), (am_isR y0 = true) → rc_65 y0 y1 y2 h = some o → am_W X (d + 2) 65 0 (am_args 0 [y0, .int y1, .int y2]) [] h (fun q => q = o)) : ∀ (K : Nat) (x0 : Value) (x2 : Int32) (x3 : Int32) (x4 : Int32) (x5 : Int32) (h : am_H) (o : am_O), fg_65_78 N rc_65 K x0 x2 x3 x4 x5 h = some o → ∀ lv : am_LV, (lv.lookup 0 = some x0) → (lv.lookup 2 = some (.int x2)) → (lv.lookup 3 = some (.int x3)) → (lv.lookup 4 = some (.int x4)) → (lv.lookup 5 = some (.int x5)) → (am_isR x0 = true) → am_W X (d + 3) 65 78 lv [] h (fun q => q = o) := by
  intro K
  induction K with
  | zero => intro x0 x2 x3 x4 x5 h o hs; cases hs
  | succ K ih =>
    intro x0 x2 x3 x4 x5 h o hs lv l0 l2 l3 l4 l5 i0
    unfold fg_65_78 at hs
    refine aw_iload (pc1 := 80) at_65_78 l5 rfl ?_
    refine aw_iload_n (pc1 := 81) at_65_80 l3 rfl ?_
    refine aw_call (F := fm_14 x3 h) (t := false) (na := 1) (kd := 0) (as := [(.int x3)]) at_65_81 (am_k3s kb_14) mn_14 mk_14 rfl rfl (am_ok_s mi_14 (am_hl rfl (am_ccI am_cats_0) rfl)) (am_hc (am_ccI am_cats_0) rfl) (fun hz9 => by cases hz9) (fun o1 hz9 => rm_14 x3 h o1  hz9) ?_
    rcases am_cI_s hs with ⟨v1, h2, f3, hs1⟩ | hs1
    · clear hs
      refine Or.inl ⟨_, _, f3, ?_⟩
      show am_W X _ 65 84 _ [(.int v1), (.int x5)] h2 _
      by_cases c4 : v1 ≤ x5
      · rw [if_pos c4] at hs1
        refine aw_icge_t at_65_84 c4 ?_
        exact rg_65_116 qc_65 x0 x4 h2 o l0 l4 i0 hs1
      · rw [if_neg c4] at hs1
        refine aw_icge_f (pc1 := 87) at_65_84 c4 rfl ?_
        refine aw_iload_n (pc1 := 88) at_65_87 l2 rfl ?_
        refine aw_bipush (v := 12) (pc1 := 90) at_65_88 (by decide) rfl ?_
        by_cases c5 : 12 < x2
        · rw [if_pos c5] at hs1
          refine aw_icgt_t at_65_90 c5 ?_
          exact rg_65_116 qc_65 x0 x4 h2 o l0 l4 i0 hs1
        · rw [if_neg c5] at hs1
          refine aw_icgt_f (pc1 := 93) at_65_90 c5 rfl ?_
          refine aw_vload_n (pc1 := 94) at_65_93 l0 i0 rfl ?_
          refine aw_bipush (v := 32) (pc1 := 96) at_65_94 (by decide) rfl ?_
          obtain ⟨z6, hs2⟩ := am_ift hs1
          clear hs1
          refine aw_call (F := fm_68 x0 32 h2) (t := true) (na := 2) (kd := 1) (as := [x0, (.int 32)]) at_65_96 (am_k3v kb_68) mn_68 mk_68 rfl rfl (am_ok_v mi_68 (am_hl rfl (am_ccR i0 (am_ccI am_cats_0)) rfl) z6) (am_hc am_cats_0 rfl) (fun _ => ⟨rfl, hh_65⟩) (fun o1 hz9 => rm_68 x0 32 h2 o1 i0 hz9) ?_
          rcases am_cV_s hs2 with ⟨h8, f9, hs3⟩ | hs3
          · clear hs2
            refine Or.inl ⟨_, _, f9, ?_⟩
            show am_W X _ 65 99 _ [] h8 _
            refine aw_vload_n (pc1 := 100) at_65_99 l0 i0 rfl ?_
            refine aw_iload (pc1 := 102) at_65_100 l4 rfl ?_
            refine aw_iload_n (pc1 := 103) at_65_102 l2 rfl ?_
            refine aw_iconst (v := 1) (pc1 := 104) at_65_103 (by decide) rfl ?_
            refine aw_iadd (v := (x2 + 1)) (pc1 := 105) at_65_104 rfl rfl ?_
            obtain ⟨z10, hs4⟩ := am_ift hs3
            clear hs3
            refine aw_call (F := rc_65 x0 x4 ((x2 + 1)) h8) (t := true) (na := 3) (kd := 1) (as := [x0, (.int x4), (.int (x2 + 1))]) at_65_105 (am_k3v kb_65) mn_65 mk_65 rfl rfl (am_ok_v mi_65 (am_hl rfl (am_ccR i0 (am_ccI (am_ccI am_cats_0))) rfl) z10) (am_hc am_cats_0 rfl) (fun _ => ⟨rfl, hh_65⟩) (fun o1 hz9 => qc_65 x0 x4 ((x2 + 1)) h8 o1 i0 hz9) ?_
            rcases am_cI_s hs4 with ⟨v11, h12, f13, hs5⟩ | hs5
            · clear hs4
              refine Or.inl ⟨_, _, f13, ?_⟩
              show am_W X _ 65 108 _ [(.int v11)] h12 _
              refine aw_istore (lv1 := am_put1 _ 4 _) (pc1 := 110) at_65_108 rfl rfl ?_
              refine aw_iinc (v := (x5 + 1)) (c := 1) (lv1 := am_put1 _ 5 _) (pc1 := 113) at_65_110 (am_lk1 l5 rfl rfl) (by decide) rfl rfl rfl ?_
              refine aw_goto at_65_113 ?_
              exact ih x0 x2 x3 v11 ((x5 + 1)) h12 o hs5 _ (am_lk1 (am_lk1 l0 rfl rfl) rfl rfl) (am_lk1 (am_lk1 l2 rfl rfl) rfl rfl) (am_lk1 (am_lk1 l3 rfl rfl) rfl rfl) (am_lk1 am_lk0 rfl rfl) am_lk0 i0
            · clear hs4
              exact Or.inr hs5
          · clear hs2
            exact Or.inr hs3
    · clear hs
      exact Or.inr hs1
def fg_65_0 (N : Nat) (rc_65 : Value → Int32 → Int32 → am_H → Option am_O) (x0 : Value) (x1 : Int32) (x2 : Int32) (h : am_H) : Option am_O := ((am_vR (am_pG 2308 x0 h)).bind fun v1 => (if am_pOk 3 v1 h then am_cI true (fm_54 v1 x1 0 h) (fun v4 h5 => (if ¬ v4 = 0 then (if 7 ≤ v4 then (if am_pOk 9 x0 h5 then am_cV true (fm_68 x0 40 h5) (fun h11 => ((am_pTx 4 (v4 - 7)).bind fun v13 => (if am_pOk 9 x0 h11 then am_cV true (fm_68 x0 v13 h11) (fun h17 => (fg_65_78 N rc_65 N x0 x2 v4 ((x1 + 1)) 0 h17)) else none))) else none) else ((am_pTx 3 (v4 - 1)).bind fun v19 => (if am_pOk 9 x0 h5 then am_cV true (fm_68 x0 v19 h5) (fun h23 => (fg_65_122 N rc_65 ((x1 + 1)) h23)) else none))) else ((am_vR (am_pG 2308 x0 h5)).bind fun v25 => (if am_pOk 3 v25 h5 then am_cI true (fm_54 v25 x1 1 h5) (fun v28 h29 => (if am_pOk 9 x0 h29 then am_cV true (fm_66 x0 v28 h29) (fun h33 => (fg_65_122 N rc_65 ((x1 + 1)) h33)) else none)) else none)))) else none))
theorem rg_65_0 {X : am_X} {d : Nat} {N : Nat} {rc_65 : Value → Int32 → Int32 → am_H → Option am_O} (qc_65 : ∀ (y0 : Value) (y1 : Int32) (y2 : Int32) (h : am_H) (o : am_O), (am_isR y0 = true) → rc_65 y0 y1 y2 h = some o → am_W X (d + 2) 65 0 (am_args 0 [y0, .int y1, .int y2]) [] h (fun q => q = o)) {lv : am_LV} (x0 : Value) (x1 : Int32) (x2 : Int32) (h : am_H) (o : am_O) (l0 : lv.lookup 0 = some x0) (l1 : lv.lookup 1 = some (.int x1)) (l2 : lv.lookup 2 = some (.int x2)) (i0 : am_isR x0 = true) (hs : fg_65_0 N rc_65 x0 x1 x2 h = some o) : am_W X (d + 3) 65 0 lv [] h (fun q => q = o) := by
  unfold fg_65_0 at hs
  refine aw_vload_n (pc1 := 1) at_65_0 l0 i0 rfl ?_
  obtain ⟨v1, e2, hs1⟩ := am_bind hs
  clear hs
  refine aw_pG (pc1 := 4) at_65_1 (am_vR_s e2).1 rfl ?_
  refine aw_iload_n (pc1 := 5) at_65_4 l1 rfl ?_
  refine aw_iconst (v := 0) (pc1 := 6) at_65_5 (by decide) rfl ?_
  obtain ⟨z3, hs2⟩ := am_ift hs1
  clear hs1
  refine aw_call (F := fm_54 v1 x1 0 h) (t := true) (na := 3) (kd := 1) (as := [v1, (.int x1), (.int 0)]) at_65_6 (am_k3v kb_54) mn_54 mk_54 rfl rfl (am_ok_v mi_54 (am_hl rfl (am_ccR (am_vR_s e2).2 (am_ccI (am_ccI am_cats_0))) rfl) z3) (am_hc am_cats_0 rfl) (fun _ => ⟨rfl, hh_65⟩) (fun o1 hz9 => rm_54 v1 x1 0 h o1 (am_vR_s e2).2 hz9) ?_
  rcases am_cI_s hs2 with ⟨v4, h5, f6, hs3⟩ | hs3
  · clear hs2
    refine Or.inl ⟨_, _, f6, ?_⟩
    show am_W X _ 65 9 _ [(.int v4)] h5 _
    refine aw_istore_n (lv1 := am_put1 _ 3 _) (pc1 := 10) at_65_9 rfl rfl ?_
    refine aw_iload_n (pc1 := 11) at_65_10 (am_lk1 l1 rfl rfl) rfl ?_
    refine aw_iconst (v := 1) (pc1 := 12) at_65_11 (by decide) rfl ?_
    refine aw_iadd (v := (x1 + 1)) (pc1 := 13) at_65_12 rfl rfl ?_
    refine aw_istore (lv1 := am_put1 _ 4 _) (pc1 := 15) at_65_13 rfl rfl ?_
    refine aw_iload_n (pc1 := 16) at_65_15 (am_lk1 am_lk0 rfl rfl) rfl ?_
    by_cases c7 : ¬ v4 = 0
    · rw [if_pos c7] at hs3
      refine aw_ifne_t at_65_16 c7 ?_
      refine aw_iload_n (pc1 := 36) at_65_35 (am_lk1 am_lk0 rfl rfl) rfl ?_
      refine aw_bipush (v := 7) (pc1 := 38) at_65_36 (by decide) rfl ?_
      by_cases c8 : 7 ≤ v4
      · rw [if_pos c8] at hs3
        refine aw_icge_t at_65_38 c8 ?_
        refine aw_vload_n (pc1 := 57) at_65_56 (am_lk1 (am_lk1 l0 rfl rfl) rfl rfl) i0 rfl ?_
        refine aw_bipush (v := 40) (pc1 := 59) at_65_57 (by decide) rfl ?_
        obtain ⟨z9, hs4⟩ := am_ift hs3
        clear hs3
        refine aw_call (F := fm_68 x0 40 h5) (t := true) (na := 2) (kd := 1) (as := [x0, (.int 40)]) at_65_59 (am_k3v kb_68) mn_68 mk_68 rfl rfl (am_ok_v mi_68 (am_hl rfl (am_ccR i0 (am_ccI am_cats_0)) rfl) z9) (am_hc am_cats_0 rfl) (fun _ => ⟨rfl, hh_65⟩) (fun o1 hz9 => rm_68 x0 40 h5 o1 i0 hz9) ?_
        rcases am_cV_s hs4 with ⟨h11, f12, hs5⟩ | hs5
        · clear hs4
          refine Or.inl ⟨_, _, f12, ?_⟩
          show am_W X _ 65 62 _ [] h11 _
          refine aw_vload_n (pc1 := 63) at_65_62 (am_lk1 (am_lk1 l0 rfl rfl) rfl rfl) i0 rfl ?_
          refine am_W.ldt at_65_63 rfl ?_
          show am_W _ _ _ 65 _ [(Value.float 4), x0] _ _
          refine aw_iload_n (pc1 := 66) at_65_65 (am_lk1 am_lk0 rfl rfl) rfl ?_
          refine aw_bipush (v := 7) (pc1 := 68) at_65_66 (by decide) rfl ?_
          refine aw_isub (v := (v4 - 7)) (pc1 := 69) at_65_68 rfl rfl ?_
          obtain ⟨v13, e14, hs6⟩ := am_bind hs5
          clear hs5
          refine aw_pTx (j := 4) at_65_69 rfl rfl rfl e14 (am_hc (am_ccR i0 am_cats_0) rfl) ?_
          obtain ⟨z15, hs7⟩ := am_ift hs6
          clear hs6
          refine aw_call (F := fm_68 x0 v13 h11) (t := true) (na := 2) (kd := 1) (as := [x0, (.int v13)]) at_65_72 (am_k3v kb_68) mn_68 mk_68 rfl rfl (am_ok_v mi_68 (am_hl rfl (am_ccR i0 (am_ccI am_cats_0)) rfl) z15) (am_hc am_cats_0 rfl) (fun _ => ⟨rfl, hh_65⟩) (fun o1 hz9 => rm_68 x0 v13 h11 o1 i0 hz9) ?_
          rcases am_cV_s hs7 with ⟨h17, f18, hs8⟩ | hs8
          · clear hs7
            refine Or.inl ⟨_, _, f18, ?_⟩
            show am_W X _ 65 75 _ [] h17 _
            refine aw_iconst (v := 0) (pc1 := 76) at_65_75 (by decide) rfl ?_
            refine aw_istore (lv1 := am_put1 _ 5 _) (pc1 := 78) at_65_76 rfl rfl ?_
            exact rg_65_78 qc_65 N x0 x2 v4 ((x1 + 1)) 0 h17 o hs8 _ (am_lk1 (am_lk1 (am_lk1 l0 rfl rfl) rfl rfl) rfl rfl) (am_lk1 (am_lk1 (am_lk1 l2 rfl rfl) rfl rfl) rfl rfl) (am_lk1 (am_lk1 am_lk0 rfl rfl) rfl rfl) (am_lk1 am_lk0 rfl rfl) am_lk0 i0
          · clear hs7
            exact Or.inr hs8
        · clear hs4
          exact Or.inr hs5
      · rw [if_neg c8] at hs3
        refine aw_icge_f (pc1 := 41) at_65_38 c8 rfl ?_
        refine aw_vload_n (pc1 := 42) at_65_41 (am_lk1 (am_lk1 l0 rfl rfl) rfl rfl) i0 rfl ?_
        refine am_W.ldt at_65_42 rfl ?_
        show am_W _ _ _ 44 _ [(Value.float 3), x0] _ _
        refine aw_iload_n (pc1 := 45) at_65_44 (am_lk1 am_lk0 rfl rfl) rfl ?_
        refine aw_iconst (v := 1) (pc1 := 46) at_65_45 (by decide) rfl ?_
        refine aw_isub (v := (v4 - 1)) (pc1 := 47) at_65_46 rfl rfl ?_
        obtain ⟨v19, e20, hs9⟩ := am_bind hs3
        clear hs3
        refine aw_pTx (j := 3) at_65_47 rfl rfl rfl e20 (am_hc (am_ccR i0 am_cats_0) rfl) ?_
        obtain ⟨z21, hs10⟩ := am_ift hs9
        clear hs9
        refine aw_call (F := fm_68 x0 v19 h5) (t := true) (na := 2) (kd := 1) (as := [x0, (.int v19)]) at_65_50 (am_k3v kb_68) mn_68 mk_68 rfl rfl (am_ok_v mi_68 (am_hl rfl (am_ccR i0 (am_ccI am_cats_0)) rfl) z21) (am_hc am_cats_0 rfl) (fun _ => ⟨rfl, hh_65⟩) (fun o1 hz9 => rm_68 x0 v19 h5 o1 i0 hz9) ?_
        rcases am_cV_s hs10 with ⟨h23, f24, hs11⟩ | hs11
        · clear hs10
          refine Or.inl ⟨_, _, f24, ?_⟩
          show am_W X _ 65 53 _ [] h23 _
          refine aw_goto at_65_53 ?_
          exact rg_65_122 qc_65 ((x1 + 1)) h23 o am_lk0  hs11
        · clear hs10
          exact Or.inr hs11
    · rw [if_neg c7] at hs3
      refine aw_ifne_f (pc1 := 19) at_65_16 c7 rfl ?_
      refine aw_vload_n (pc1 := 20) at_65_19 (am_lk1 (am_lk1 l0 rfl rfl) rfl rfl) i0 rfl ?_
      refine aw_vload_n (pc1 := 21) at_65_20 (am_lk1 (am_lk1 l0 rfl rfl) rfl rfl) i0 rfl ?_
      obtain ⟨v25, e26, hs12⟩ := am_bind hs3
      clear hs3
      refine aw_pG (pc1 := 24) at_65_21 (am_vR_s e26).1 rfl ?_
      refine aw_iload_n (pc1 := 25) at_65_24 (am_lk1 (am_lk1 l1 rfl rfl) rfl rfl) rfl ?_
      refine aw_iconst (v := 1) (pc1 := 26) at_65_25 (by decide) rfl ?_
      obtain ⟨z27, hs13⟩ := am_ift hs12
      clear hs12
      refine aw_call (F := fm_54 v25 x1 1 h5) (t := true) (na := 3) (kd := 1) (as := [v25, (.int x1), (.int 1)]) at_65_26 (am_k3v kb_54) mn_54 mk_54 rfl rfl (am_ok_v mi_54 (am_hl rfl (am_ccR (am_vR_s e26).2 (am_ccI (am_ccI am_cats_0))) rfl) z27) (am_hc (am_ccR i0 am_cats_0) rfl) (fun _ => ⟨rfl, hh_65⟩) (fun o1 hz9 => rm_54 v25 x1 1 h5 o1 (am_vR_s e26).2 hz9) ?_
      rcases am_cI_s hs13 with ⟨v28, h29, f30, hs14⟩ | hs14
      · clear hs13
        refine Or.inl ⟨_, _, f30, ?_⟩
        show am_W X _ 65 29 _ [(.int v28), x0] h29 _
        obtain ⟨z31, hs15⟩ := am_ift hs14
        clear hs14
        refine aw_call (F := fm_66 x0 v28 h29) (t := true) (na := 2) (kd := 1) (as := [x0, (.int v28)]) at_65_29 (am_k3v kb_66) mn_66 mk_66 rfl rfl (am_ok_v mi_66 (am_hl rfl (am_ccR i0 (am_ccI am_cats_0)) rfl) z31) (am_hc am_cats_0 rfl) (fun _ => ⟨rfl, hh_65⟩) (fun o1 hz9 => rm_66 x0 v28 h29 o1 i0 hz9) ?_
        rcases am_cV_s hs15 with ⟨h33, f34, hs16⟩ | hs16
        · clear hs15
          refine Or.inl ⟨_, _, f34, ?_⟩
          show am_W X _ 65 32 _ [] h33 _
          refine aw_goto at_65_32 ?_
          exact rg_65_122 qc_65 ((x1 + 1)) h33 o am_lk0  hs16
        · clear hs15
          exact Or.inr hs16
      · clear hs13
        exact Or.inr hs14
  · clear hs2
    exact Or.inr hs3
def fo_65 (N : Nat) (rc_65 : Value → Int32 → Int32 → am_H → Option am_O) (y0 : Value) (y1 : Int32) (y2 : Int32) (h : am_H) : Option am_O := fg_65_0 N rc_65 y0 y1 y2 h
theorem ro_65 {X : am_X} {d : Nat} {N : Nat} {rc_65 : Value → Int32 → Int32 → am_H → Option am_O} (qc_65 : ∀ (y0 : Value) (y1 : Int32) (y2 : Int32) (h : am_H) (o : am_O), (am_isR y0 = true) → rc_65 y0 y1 y2 h = some o → am_W X (d + 2) 65 0 (am_args 0 [y0, .int y1, .int y2]) [] h (fun q => q = o)) (y0 : Value) (y1 : Int32) (y2 : Int32) (h : am_H) (o : am_O) (i0 : am_isR y0 = true) (hs : fo_65 N rc_65 y0 y1 y2 h = some o) : am_W X (d + 3) 65 0 (am_args 0 [y0, .int y1, .int y2]) [] h (fun q => q = o) := by
  rw [am_args_R i0, am_args_I, am_args_I]
  exact rg_65_0 qc_65 y0 y1 y2 h o rfl rfl rfl i0 hs
def gr_65 (N : Nat) : Nat → Nat → List Value → am_H → Option am_O
  | 0 => fun _ _ _ => none
  | K + 1 => fun w as h => match w, as with
    | 65, [y0, .int y1, .int y2] => fo_65 N (fun y0 y1 y2 h => gr_65 N K 65 [y0, .int y1, .int y2] h) y0 y1 y2 h
    | _, _ => none
theorem gs_65 {X : am_X} {d N : Nat} : ∀ K : Nat, (∀ (y0 : Value) (y1 : Int32) (y2 : Int32) (h : am_H) (o : am_O), (am_isR y0 = true) → gr_65 N K 65 [y0, .int y1, .int y2] h = some o → am_W X (d + 3 * K) 65 0 (am_args 0 [y0, .int y1, .int y2]) [] h (fun q => q = o)) := by
  intro K
  induction K with
  | zero => exact fun _ _ _ h o _ hs => (by cases hs)
  | succ K ih =>
    have q65 := ih
    have up : d + 3 * K ≤ d + 3 * K + 2 := Nat.le_add_right _ _
    have eD : d + 3 * (K + 1) = d + 3 * K + 3 := by rw [Nat.mul_succ, Nat.add_assoc]
    rw [eD]
    skip
    · intro y0 y1 y2 h o i0 hs
      exact ro_65 (fun w0 w1 w2 h o k0 hs => (q65 w0 w1 w2 h o k0 hs).up up) y0 y1 y2 h o i0 hs
def fm_65 (N : Nat) (y0 : Value) (y1 : Int32) (y2 : Int32) (h : am_H) : Option am_O := gr_65 N 40 65 [y0, .int y1, .int y2] h
theorem rm_65 {X : am_X} {d : Nat} {N : Nat} (y0 : Value) (y1 : Int32) (y2 : Int32) (h : am_H) (o : am_O) (i0 : am_isR y0 = true) (hs : fm_65 N y0 y1 y2 h = some o) : am_W X (d + 120) 65 0 (am_args 0 [y0, .int y1, .int y2]) [] h (fun q => q = o) := (gs_65 (X := X) (d := d) (N := N) 40) y0 y1 y2 h o i0 hs
def fg_69_159 (N : Nat) (h : am_H) : Option am_O := some (.inl (none, h))
theorem rg_69_159 {X : am_X} {d : Nat} {N : Nat} {lv : am_LV} (h : am_H) (o : am_O) (hs : fg_69_159 N h = some o) : am_W X (d + 2) 69 159 lv [] h (fun q => q = o) := by
  unfold fg_69_159 at hs
  cases hs
  exact aw_vret at_69_159 rt_69 rfl
def fg_69_150 (N : Nat) (x0 : Value) (x4 : Int32) (s0 : Value) (s1 : Int32) (h : am_H) : Option am_O := (if am_pOk 9 s0 h then am_cV true (fm_68 s0 s1 h) (fun h3 => (if am_pOk 9 x0 h3 then am_cV true (fm_66 x0 x4 h3) (fun h7 => (fg_69_159 N h7)) else none)) else none)
theorem rg_69_150 {X : am_X} {d : Nat} {N : Nat} {lv : am_LV} (x0 : Value) (x4 : Int32) (s0 : Value) (s1 : Int32) (h : am_H) (o : am_O) (l0 : lv.lookup 0 = some x0) (l4 : lv.lookup 4 = some (.int x4)) (i0 : am_isR x0 = true) (j0 : am_isR s0 = true) (hs : fg_69_150 N x0 x4 s0 s1 h = some o) : am_W X (d + 2) 69 150 lv [(.int s1), s0] h (fun q => q = o) := by
  unfold fg_69_150 at hs
  obtain ⟨z1, hs1⟩ := am_ift hs
  clear hs
  refine aw_call (F := fm_68 s0 s1 h) (t := true) (na := 2) (kd := 1) (as := [s0, (.int s1)]) at_69_150 (am_k3v kb_68) mn_68 mk_68 rfl rfl (am_ok_v mi_68 (am_hl rfl (am_ccR j0 (am_ccI am_cats_0)) rfl) z1) (am_hc am_cats_0 rfl) (fun _ => ⟨rfl, hh_69⟩) (fun o1 hz9 => rm_68 s0 s1 h o1 j0 hz9) ?_
  rcases am_cV_s hs1 with ⟨h3, f4, hs2⟩ | hs2
  · clear hs1
    refine Or.inl ⟨_, _, f4, ?_⟩
    show am_W X _ 69 153 _ [] h3 _
    refine aw_vload_n (pc1 := 154) at_69_153 l0 i0 rfl ?_
    refine aw_iload (pc1 := 156) at_69_154 l4 rfl ?_
    obtain ⟨z5, hs3⟩ := am_ift hs2
    clear hs2
    refine aw_call (F := fm_66 x0 x4 h3) (t := true) (na := 2) (kd := 1) (as := [x0, (.int x4)]) at_69_156 (am_k3v kb_66) mn_66 mk_66 rfl rfl (am_ok_v mi_66 (am_hl rfl (am_ccR i0 (am_ccI am_cats_0)) rfl) z5) (am_hc am_cats_0 rfl) (fun _ => ⟨rfl, hh_69⟩) (fun o1 hz9 => rm_66 x0 x4 h3 o1 i0 hz9) ?_
    rcases am_cV_s hs3 with ⟨h7, f8, hs4⟩ | hs4
    · clear hs3
      refine Or.inl ⟨_, _, f8, ?_⟩
      show am_W X _ 69 159 _ [] h7 _
      exact rg_69_159 h7 o   hs4
    · clear hs3
      exact Or.inr hs4
  · clear hs1
    exact Or.inr hs2
def fg_69_67 (N : Nat) : Nat → Value → Int32 → Int32 → am_H → Option am_O
  | 0 => fun _ _ _ _ => none
  | K + 1 => fun x0 x2 x5 h => (if 4 ≤ x5 then (fg_69_159 N h) else ((am_vR (am_pG 2308 x0 h)).bind fun v2 => (if am_pOk 3 v2 h then am_cI true (fm_54 v2 x2 ((1 + x5)) h) (fun v5 h6 => (if am_pOk 9 x0 h6 then am_cV true (fm_68 x0 (((Int32.toUInt32 (48 + v5) % 65536).toInt32)) h6) (fun h10 => (fg_69_67 N K x0 x2 ((x5 + 1)) h10)) else none)) else none)))
theorem rg_69_67 {X : am_X} {d : Nat} {N : Nat} : ∀ (K : Nat) (x0 : Value) (x2 : Int32) (x5 : Int32) (h : am_H) (o : am_O), fg_69_67 N K x0 x2 x5 h = some o → ∀ lv : am_LV, (lv.lookup 0 = some x0) → (lv.lookup 2 = some (.int x2)) → (lv.lookup 5 = some (.int x5)) → (am_isR x0 = true) → am_W X (d + 2) 69 67 lv [] h (fun q => q = o) := by
  intro K
  induction K with
  | zero => intro x0 x2 x5 h o hs; cases hs
  | succ K ih =>
    intro x0 x2 x5 h o hs lv l0 l2 l5 i0
    unfold fg_69_67 at hs
    refine aw_iload (pc1 := 69) at_69_67 l5 rfl ?_
    refine aw_iconst (v := 4) (pc1 := 70) at_69_69 (by decide) rfl ?_
    by_cases c1 : 4 ≤ x5
    · rw [if_pos c1] at hs
      refine aw_icge_t at_69_70 c1 ?_
      refine aw_goto at_69_99 ?_
      exact rg_69_159 h o   hs
    · rw [if_neg c1] at hs
      refine aw_icge_f (pc1 := 73) at_69_70 c1 rfl ?_
      refine aw_vload_n (pc1 := 74) at_69_73 l0 i0 rfl ?_
      refine aw_bipush (v := 48) (pc1 := 76) at_69_74 (by decide) rfl ?_
      refine aw_vload_n (pc1 := 77) at_69_76 l0 i0 rfl ?_
      obtain ⟨v2, e3, hs1⟩ := am_bind hs
      clear hs
      refine aw_pG (pc1 := 80) at_69_77 (am_vR_s e3).1 rfl ?_
      refine aw_iload_n (pc1 := 81) at_69_80 l2 rfl ?_
      refine aw_iconst (v := 1) (pc1 := 82) at_69_81 (by decide) rfl ?_
      refine aw_iload (pc1 := 84) at_69_82 l5 rfl ?_
      refine aw_iadd (v := (1 + x5)) (pc1 := 85) at_69_84 rfl rfl ?_
      obtain ⟨z4, hs2⟩ := am_ift hs1
      clear hs1
      refine aw_call (F := fm_54 v2 x2 ((1 + x5)) h) (t := true) (na := 3) (kd := 1) (as := [v2, (.int x2), (.int (1 + x5))]) at_69_85 (am_k3v kb_54) mn_54 mk_54 rfl rfl (am_ok_v mi_54 (am_hl rfl (am_ccR (am_vR_s e3).2 (am_ccI (am_ccI am_cats_0))) rfl) z4) (am_hc (am_ccI (am_ccR i0 am_cats_0)) rfl) (fun _ => ⟨rfl, hh_69⟩) (fun o1 hz9 => rm_54 v2 x2 ((1 + x5)) h o1 (am_vR_s e3).2 hz9) ?_
      rcases am_cI_s hs2 with ⟨v5, h6, f7, hs3⟩ | hs3
      · clear hs2
        refine Or.inl ⟨_, _, f7, ?_⟩
        show am_W X _ 69 88 _ [(.int v5), (.int 48), x0] h6 _
        refine aw_iadd (v := (48 + v5)) (pc1 := 89) at_69_88 rfl rfl ?_
        refine aw_i2c (v := ((Int32.toUInt32 (48 + v5) % 65536).toInt32)) (pc1 := 90) at_69_89 rfl rfl ?_
        obtain ⟨z8, hs4⟩ := am_ift hs3
        clear hs3
        refine aw_call (F := fm_68 x0 (((Int32.toUInt32 (48 + v5) % 65536).toInt32)) h6) (t := true) (na := 2) (kd := 1) (as := [x0, (.int ((Int32.toUInt32 (48 + v5) % 65536).toInt32))]) at_69_90 (am_k3v kb_68) mn_68 mk_68 rfl rfl (am_ok_v mi_68 (am_hl rfl (am_ccR i0 (am_ccI am_cats_0)) rfl) z8) (am_hc am_cats_0 rfl) (fun _ => ⟨rfl, hh_69⟩) (fun o1 hz9 => rm_68 x0 (((Int32.toUInt32 (48 + v5) % 65536).toInt32)) h6 o1 i0 hz9) ?_
        rcases am_cV_s hs4 with ⟨h10, f11, hs5⟩ | hs5
        · clear hs4
          refine Or.inl ⟨_, _, f11, ?_⟩
          show am_W X _ 69 93 _ [] h10 _
          refine aw_iinc (v := (x5 + 1)) (c := 1) (lv1 := am_put1 _ 5 _) (pc1 := 96) at_69_93 l5 (by decide) rfl rfl rfl ?_
          refine aw_goto at_69_96 ?_
          exact ih x0 x2 ((x5 + 1)) h10 o hs5 _ (am_lk1 l0 rfl rfl) (am_lk1 l2 rfl rfl) am_lk0 i0
        · clear hs4
          exact Or.inr hs5
      · clear hs2
        exact Or.inr hs3
def fg_69_0 (N : Nat) (x0 : Value) (x1 : Int32) (x2 : Int32) (h : am_H) : Option am_O := ((am_vR (am_pG 2308 x0 h)).bind fun v1 => (if am_pOk 3 v1 h then am_cI true (fm_54 v1 x2 0 h) (fun v4 h5 => ((am_vR (am_pG 2308 x0 h5)).bind fun v7 => (if am_pOk 3 v7 h5 then am_cI true (fm_54 v7 x2 1 h5) (fun v10 h11 => (if ¬ x1 = 3 then (if ¬ x1 = 2 then (if ¬ v4 = 0 then (if 17 ≤ v4 then (if ¬ v4 = 17 then (fg_69_150 N x0 v10 x0 98 h11) else (fg_69_150 N x0 v10 x0 106 h11)) else ((am_pTx 5 (v4 - 1)).bind fun v18 => (if am_pOk 9 x0 h11 then am_cV true (fm_68 x0 v18 h11) (fun h22 => (fg_69_159 N h22)) else none))) else (if am_pOk 9 x0 h11 then am_cV true (fm_66 x0 v10 h11) (fun h26 => (fg_69_159 N h26)) else none)) else (if am_pOk 9 x0 h11 then am_cV true (fm_66 x0 v4 h11) (fun h30 => (if am_pOk 9 x0 h30 then am_cV true (fm_68 x0 58 h30) (fun h34 => (fg_69_67 N N x0 x2 0 h34)) else none)) else none)) else (if am_pOk 9 x0 h11 then am_cV true (fm_68 x0 (((Int32.toUInt32 (48 + v4) % 65536).toInt32)) h11) (fun h38 => (if am_pOk 9 x0 h38 then am_cV true (fm_68 x0 (((Int32.toUInt32 (48 + v10) % 65536).toInt32)) h38) (fun h42 => (fg_69_159 N h42)) else none)) else none))) else none))) else none))
theorem rg_69_0 {X : am_X} {d : Nat} {N : Nat} {lv : am_LV} (x0 : Value) (x1 : Int32) (x2 : Int32) (h : am_H) (o : am_O) (l0 : lv.lookup 0 = some x0) (l1 : lv.lookup 1 = some (.int x1)) (l2 : lv.lookup 2 = some (.int x2)) (i0 : am_isR x0 = true) (hs : fg_69_0 N x0 x1 x2 h = some o) : am_W X (d + 2) 69 0 lv [] h (fun q => q = o) := by
  unfold fg_69_0 at hs
  refine aw_vload_n (pc1 := 1) at_69_0 l0 i0 rfl ?_
  obtain ⟨v1, e2, hs1⟩ := am_bind hs
  clear hs
  refine aw_pG (pc1 := 4) at_69_1 (am_vR_s e2).1 rfl ?_
  refine aw_iload_n (pc1 := 5) at_69_4 l2 rfl ?_
  refine aw_iconst (v := 0) (pc1 := 6) at_69_5 (by decide) rfl ?_
  obtain ⟨z3, hs2⟩ := am_ift hs1
  clear hs1
  refine aw_call (F := fm_54 v1 x2 0 h) (t := true) (na := 3) (kd := 1) (as := [v1, (.int x2), (.int 0)]) at_69_6 (am_k3v kb_54) mn_54 mk_54 rfl rfl (am_ok_v mi_54 (am_hl rfl (am_ccR (am_vR_s e2).2 (am_ccI (am_ccI am_cats_0))) rfl) z3) (am_hc am_cats_0 rfl) (fun _ => ⟨rfl, hh_69⟩) (fun o1 hz9 => rm_54 v1 x2 0 h o1 (am_vR_s e2).2 hz9) ?_
  rcases am_cI_s hs2 with ⟨v4, h5, f6, hs3⟩ | hs3
  · clear hs2
    refine Or.inl ⟨_, _, f6, ?_⟩
    show am_W X _ 69 9 _ [(.int v4)] h5 _
    refine aw_istore_n (lv1 := am_put1 _ 3 _) (pc1 := 10) at_69_9 rfl rfl ?_
    refine aw_vload_n (pc1 := 11) at_69_10 (am_lk1 l0 rfl rfl) i0 rfl ?_
    obtain ⟨v7, e8, hs4⟩ := am_bind hs3
    clear hs3
    refine aw_pG (pc1 := 14) at_69_11 (am_vR_s e8).1 rfl ?_
    refine aw_iload_n (pc1 := 15) at_69_14 (am_lk1 l2 rfl rfl) rfl ?_
    refine aw_iconst (v := 1) (pc1 := 16) at_69_15 (by decide) rfl ?_
    obtain ⟨z9, hs5⟩ := am_ift hs4
    clear hs4
    refine aw_call (F := fm_54 v7 x2 1 h5) (t := true) (na := 3) (kd := 1) (as := [v7, (.int x2), (.int 1)]) at_69_16 (am_k3v kb_54) mn_54 mk_54 rfl rfl (am_ok_v mi_54 (am_hl rfl (am_ccR (am_vR_s e8).2 (am_ccI (am_ccI am_cats_0))) rfl) z9) (am_hc am_cats_0 rfl) (fun _ => ⟨rfl, hh_69⟩) (fun o1 hz9 => rm_54 v7 x2 1 h5 o1 (am_vR_s e8).2 hz9) ?_
    rcases am_cI_s hs5 with ⟨v10, h11, f12, hs6⟩ | hs6
    · clear hs5
      refine Or.inl ⟨_, _, f12, ?_⟩
      show am_W X _ 69 19 _ [(.int v10)] h11 _
      refine aw_istore (lv1 := am_put1 _ 4 _) (pc1 := 21) at_69_19 rfl rfl ?_
      refine aw_iload_n (pc1 := 22) at_69_21 (am_lk1 (am_lk1 l1 rfl rfl) rfl rfl) rfl ?_
      refine aw_iconst (v := 3) (pc1 := 23) at_69_22 (by decide) rfl ?_
      by_cases c13 : ¬ x1 = 3
      · rw [if_pos c13] at hs6
        refine aw_icne_t at_69_23 c13 ?_
        refine aw_iload_n (pc1 := 49) at_69_48 (am_lk1 (am_lk1 l1 rfl rfl) rfl rfl) rfl ?_
        refine aw_iconst (v := 2) (pc1 := 50) at_69_49 (by decide) rfl ?_
        by_cases c14 : ¬ x1 = 2
        · rw [if_pos c14] at hs6
          refine aw_icne_t at_69_50 c14 ?_
          refine aw_iload_n (pc1 := 103) at_69_102 (am_lk1 am_lk0 rfl rfl) rfl ?_
          by_cases c15 : ¬ v4 = 0
          · rw [if_pos c15] at hs6
            refine aw_ifne_t at_69_103 c15 ?_
            refine aw_iload_n (pc1 := 116) at_69_115 (am_lk1 am_lk0 rfl rfl) rfl ?_
            refine aw_bipush (v := 17) (pc1 := 118) at_69_116 (by decide) rfl ?_
            by_cases c16 : 17 ≤ v4
            · rw [if_pos c16] at hs6
              refine aw_icge_t at_69_118 c16 ?_
              refine aw_vload_n (pc1 := 137) at_69_136 (am_lk1 (am_lk1 l0 rfl rfl) rfl rfl) i0 rfl ?_
              refine aw_iload_n (pc1 := 138) at_69_137 (am_lk1 am_lk0 rfl rfl) rfl ?_
              refine aw_bipush (v := 17) (pc1 := 140) at_69_138 (by decide) rfl ?_
              by_cases c17 : ¬ v4 = 17
              · rw [if_pos c17] at hs6
                refine aw_icne_t at_69_140 c17 ?_
                refine aw_bipush (v := 98) (pc1 := 150) at_69_148 (by decide) rfl ?_
                exact rg_69_150 x0 v10 x0 98 h11 o (am_lk1 (am_lk1 l0 rfl rfl) rfl rfl) am_lk0 i0 i0 hs6
              · rw [if_neg c17] at hs6
                refine aw_icne_f (pc1 := 143) at_69_140 c17 rfl ?_
                refine aw_bipush (v := 106) (pc1 := 145) at_69_143 (by decide) rfl ?_
                refine aw_goto at_69_145 ?_
                exact rg_69_150 x0 v10 x0 106 h11 o (am_lk1 (am_lk1 l0 rfl rfl) rfl rfl) am_lk0 i0 i0 hs6
            · rw [if_neg c16] at hs6
              refine aw_icge_f (pc1 := 121) at_69_118 c16 rfl ?_
              refine aw_vload_n (pc1 := 122) at_69_121 (am_lk1 (am_lk1 l0 rfl rfl) rfl rfl) i0 rfl ?_
              refine am_W.ldt at_69_122 rfl ?_
              show am_W _ _ _ 124 _ [(Value.float 5), x0] _ _
              refine aw_iload_n (pc1 := 125) at_69_124 (am_lk1 am_lk0 rfl rfl) rfl ?_
              refine aw_iconst (v := 1) (pc1 := 126) at_69_125 (by decide) rfl ?_
              refine aw_isub (v := (v4 - 1)) (pc1 := 127) at_69_126 rfl rfl ?_
              obtain ⟨v18, e19, hs7⟩ := am_bind hs6
              clear hs6
              refine aw_pTx (j := 5) at_69_127 rfl rfl rfl e19 (am_hc (am_ccR i0 am_cats_0) rfl) ?_
              obtain ⟨z20, hs8⟩ := am_ift hs7
              clear hs7
              refine aw_call (F := fm_68 x0 v18 h11) (t := true) (na := 2) (kd := 1) (as := [x0, (.int v18)]) at_69_130 (am_k3v kb_68) mn_68 mk_68 rfl rfl (am_ok_v mi_68 (am_hl rfl (am_ccR i0 (am_ccI am_cats_0)) rfl) z20) (am_hc am_cats_0 rfl) (fun _ => ⟨rfl, hh_69⟩) (fun o1 hz9 => rm_68 x0 v18 h11 o1 i0 hz9) ?_
              rcases am_cV_s hs8 with ⟨h22, f23, hs9⟩ | hs9
              · clear hs8
                refine Or.inl ⟨_, _, f23, ?_⟩
                show am_W X _ 69 133 _ [] h22 _
                refine aw_goto at_69_133 ?_
                exact rg_69_159 h22 o   hs9
              · clear hs8
                exact Or.inr hs9
          · rw [if_neg c15] at hs6
            refine aw_ifne_f (pc1 := 106) at_69_103 c15 rfl ?_
            refine aw_vload_n (pc1 := 107) at_69_106 (am_lk1 (am_lk1 l0 rfl rfl) rfl rfl) i0 rfl ?_
            refine aw_iload (pc1 := 109) at_69_107 am_lk0 rfl ?_
            obtain ⟨z24, hs10⟩ := am_ift hs6
            clear hs6
            refine aw_call (F := fm_66 x0 v10 h11) (t := true) (na := 2) (kd := 1) (as := [x0, (.int v10)]) at_69_109 (am_k3v kb_66) mn_66 mk_66 rfl rfl (am_ok_v mi_66 (am_hl rfl (am_ccR i0 (am_ccI am_cats_0)) rfl) z24) (am_hc am_cats_0 rfl) (fun _ => ⟨rfl, hh_69⟩) (fun o1 hz9 => rm_66 x0 v10 h11 o1 i0 hz9) ?_
            rcases am_cV_s hs10 with ⟨h26, f27, hs11⟩ | hs11
            · clear hs10
              refine Or.inl ⟨_, _, f27, ?_⟩
              show am_W X _ 69 112 _ [] h26 _
              refine aw_goto at_69_112 ?_
              exact rg_69_159 h26 o   hs11
            · clear hs10
              exact Or.inr hs11
        · rw [if_neg c14] at hs6
          refine aw_icne_f (pc1 := 53) at_69_50 c14 rfl ?_
          refine aw_vload_n (pc1 := 54) at_69_53 (am_lk1 (am_lk1 l0 rfl rfl) rfl rfl) i0 rfl ?_
          refine aw_iload_n (pc1 := 55) at_69_54 (am_lk1 am_lk0 rfl rfl) rfl ?_
          obtain ⟨z28, hs12⟩ := am_ift hs6
          clear hs6
          refine aw_call (F := fm_66 x0 v4 h11) (t := true) (na := 2) (kd := 1) (as := [x0, (.int v4)]) at_69_55 (am_k3v kb_66) mn_66 mk_66 rfl rfl (am_ok_v mi_66 (am_hl rfl (am_ccR i0 (am_ccI am_cats_0)) rfl) z28) (am_hc am_cats_0 rfl) (fun _ => ⟨rfl, hh_69⟩) (fun o1 hz9 => rm_66 x0 v4 h11 o1 i0 hz9) ?_
          rcases am_cV_s hs12 with ⟨h30, f31, hs13⟩ | hs13
          · clear hs12
            refine Or.inl ⟨_, _, f31, ?_⟩
            show am_W X _ 69 58 _ [] h30 _
            refine aw_vload_n (pc1 := 59) at_69_58 (am_lk1 (am_lk1 l0 rfl rfl) rfl rfl) i0 rfl ?_
            refine aw_bipush (v := 58) (pc1 := 61) at_69_59 (by decide) rfl ?_
            obtain ⟨z32, hs14⟩ := am_ift hs13
            clear hs13
            refine aw_call (F := fm_68 x0 58 h30) (t := true) (na := 2) (kd := 1) (as := [x0, (.int 58)]) at_69_61 (am_k3v kb_68) mn_68 mk_68 rfl rfl (am_ok_v mi_68 (am_hl rfl (am_ccR i0 (am_ccI am_cats_0)) rfl) z32) (am_hc am_cats_0 rfl) (fun _ => ⟨rfl, hh_69⟩) (fun o1 hz9 => rm_68 x0 58 h30 o1 i0 hz9) ?_
            rcases am_cV_s hs14 with ⟨h34, f35, hs15⟩ | hs15
            · clear hs14
              refine Or.inl ⟨_, _, f35, ?_⟩
              show am_W X _ 69 64 _ [] h34 _
              refine aw_iconst (v := 0) (pc1 := 65) at_69_64 (by decide) rfl ?_
              refine aw_istore (lv1 := am_put1 _ 5 _) (pc1 := 67) at_69_65 rfl rfl ?_
              exact rg_69_67 N x0 x2 0 h34 o hs15 _ (am_lk1 (am_lk1 (am_lk1 l0 rfl rfl) rfl rfl) rfl rfl) (am_lk1 (am_lk1 (am_lk1 l2 rfl rfl) rfl rfl) rfl rfl) am_lk0 i0
            · clear hs14
              exact Or.inr hs15
          · clear hs12
            exact Or.inr hs13
      · rw [if_neg c13] at hs6
        refine aw_icne_f (pc1 := 26) at_69_23 c13 rfl ?_
        refine aw_vload_n (pc1 := 27) at_69_26 (am_lk1 (am_lk1 l0 rfl rfl) rfl rfl) i0 rfl ?_
        refine aw_bipush (v := 48) (pc1 := 29) at_69_27 (by decide) rfl ?_
        refine aw_iload_n (pc1 := 30) at_69_29 (am_lk1 am_lk0 rfl rfl) rfl ?_
        refine aw_iadd (v := (48 + v4)) (pc1 := 31) at_69_30 rfl rfl ?_
        refine aw_i2c (v := ((Int32.toUInt32 (48 + v4) % 65536).toInt32)) (pc1 := 32) at_69_31 rfl rfl ?_
        obtain ⟨z36, hs16⟩ := am_ift hs6
        clear hs6
        refine aw_call (F := fm_68 x0 (((Int32.toUInt32 (48 + v4) % 65536).toInt32)) h11) (t := true) (na := 2) (kd := 1) (as := [x0, (.int ((Int32.toUInt32 (48 + v4) % 65536).toInt32))]) at_69_32 (am_k3v kb_68) mn_68 mk_68 rfl rfl (am_ok_v mi_68 (am_hl rfl (am_ccR i0 (am_ccI am_cats_0)) rfl) z36) (am_hc am_cats_0 rfl) (fun _ => ⟨rfl, hh_69⟩) (fun o1 hz9 => rm_68 x0 (((Int32.toUInt32 (48 + v4) % 65536).toInt32)) h11 o1 i0 hz9) ?_
        rcases am_cV_s hs16 with ⟨h38, f39, hs17⟩ | hs17
        · clear hs16
          refine Or.inl ⟨_, _, f39, ?_⟩
          show am_W X _ 69 35 _ [] h38 _
          refine aw_vload_n (pc1 := 36) at_69_35 (am_lk1 (am_lk1 l0 rfl rfl) rfl rfl) i0 rfl ?_
          refine aw_bipush (v := 48) (pc1 := 38) at_69_36 (by decide) rfl ?_
          refine aw_iload (pc1 := 40) at_69_38 am_lk0 rfl ?_
          refine aw_iadd (v := (48 + v10)) (pc1 := 41) at_69_40 rfl rfl ?_
          refine aw_i2c (v := ((Int32.toUInt32 (48 + v10) % 65536).toInt32)) (pc1 := 42) at_69_41 rfl rfl ?_
          obtain ⟨z40, hs18⟩ := am_ift hs17
          clear hs17
          refine aw_call (F := fm_68 x0 (((Int32.toUInt32 (48 + v10) % 65536).toInt32)) h38) (t := true) (na := 2) (kd := 1) (as := [x0, (.int ((Int32.toUInt32 (48 + v10) % 65536).toInt32))]) at_69_42 (am_k3v kb_68) mn_68 mk_68 rfl rfl (am_ok_v mi_68 (am_hl rfl (am_ccR i0 (am_ccI am_cats_0)) rfl) z40) (am_hc am_cats_0 rfl) (fun _ => ⟨rfl, hh_69⟩) (fun o1 hz9 => rm_68 x0 (((Int32.toUInt32 (48 + v10) % 65536).toInt32)) h38 o1 i0 hz9) ?_
          rcases am_cV_s hs18 with ⟨h42, f43, hs19⟩ | hs19
          · clear hs18
            refine Or.inl ⟨_, _, f43, ?_⟩
            show am_W X _ 69 45 _ [] h42 _
            refine aw_goto at_69_45 ?_
            exact rg_69_159 h42 o   hs19
          · clear hs18
            exact Or.inr hs19
        · clear hs16
          exact Or.inr hs17
    · clear hs5
      exact Or.inr hs6
  · clear hs2
    exact Or.inr hs3
def fm_69 (N : Nat) (y0 : Value) (y1 : Int32) (y2 : Int32) (h : am_H) : Option am_O := fg_69_0 N y0 y1 y2 h
theorem rm_69 {X : am_X} {d : Nat} {N : Nat} (y0 : Value) (y1 : Int32) (y2 : Int32) (h : am_H) (o : am_O) (i0 : am_isR y0 = true) (hs : fm_69 N y0 y1 y2 h = some o) : am_W X (d + 2) 69 0 (am_args 0 [y0, .int y1, .int y2]) [] h (fun q => q = o) := by
  rw [am_args_R i0, am_args_I, am_args_I]
  exact rg_69_0 y0 y1 y2 h o rfl rfl rfl i0 hs
def fg_64_121 (N : Nat) (x0 : Value) (h : am_H) : Option am_O := ((am_vI (am_pG 2312 x0 h)).bind fun v1 => some (.inl (some (.int v1), h)))
theorem rg_64_121 {X : am_X} {d : Nat} {N : Nat} {lv : am_LV} (x0 : Value) (h : am_H) (o : am_O) (l0 : lv.lookup 0 = some x0) (i0 : am_isR x0 = true) (hs : fg_64_121 N x0 h = some o) : am_W X (d + 121) 64 121 lv [] h (fun q => q = o) := by
  unfold fg_64_121 at hs
  refine aw_vload_n (pc1 := 122) at_64_121 l0 i0 rfl ?_
  obtain ⟨v1, e2, hs1⟩ := am_bind hs
  clear hs
  refine aw_pG (pc1 := 125) at_64_122 (am_vI_s e2) rfl ?_
  cases hs1
  exact aw_iret at_64_125 (by rw [rt_64]; rfl) rfl
def fg_64_106 (N : Nat) (rec_55 : Value → Value → Int32 → am_H → Option am_O) (x0 : Value) (x1 : Value) (x2 : Int32) (h : am_H) : Option am_O := ((am_vI (am_pG 769 x1 h)).bind fun v1 => (if am_pOk 9 x0 h then am_cV true (fm_69 N x0 v1 x2 h) (fun h5 => (rec_55 x0 x1 ((x2 + 1)) h5)) else none))
theorem rg_64_106 {X : am_X} {d : Nat} {N : Nat} {rec_55 : Value → Value → Int32 → am_H → Option am_O} (q_55 : ∀ (x0 : Value) (x1 : Value) (x2 : Int32) (h : am_H) (o : am_O), rec_55 x0 x1 x2 h = some o → ∀ lv : am_LV, (lv.lookup 0 = some x0) → (lv.lookup 1 = some x1) → (lv.lookup 2 = some (.int x2)) → (am_isR x0 = true) → (am_isR x1 = true) → am_W X (d + 121) 64 55 lv [] h (fun q => q = o)) {lv : am_LV} (x0 : Value) (x1 : Value) (x2 : Int32) (h : am_H) (o : am_O) (l0 : lv.lookup 0 = some x0) (l1 : lv.lookup 1 = some x1) (l2 : lv.lookup 2 = some (.int x2)) (i0 : am_isR x0 = true) (i1 : am_isR x1 = true) (hs : fg_64_106 N rec_55 x0 x1 x2 h = some o) : am_W X (d + 121) 64 106 lv [] h (fun q => q = o) := by
  unfold fg_64_106 at hs
  refine aw_vload_n (pc1 := 107) at_64_106 l0 i0 rfl ?_
  refine aw_vload_n (pc1 := 108) at_64_107 l1 i1 rfl ?_
  obtain ⟨v1, e2, hs1⟩ := am_bind hs
  clear hs
  refine aw_pG (pc1 := 111) at_64_108 (am_vI_s e2) rfl ?_
  refine aw_iload_n (pc1 := 112) at_64_111 l2 rfl ?_
  obtain ⟨z3, hs2⟩ := am_ift hs1
  clear hs1
  refine aw_call (F := fm_69 N x0 v1 x2 h) (t := true) (na := 3) (kd := 1) (as := [x0, (.int v1), (.int x2)]) at_64_112 (am_k3v kb_69) mn_69 mk_69 rfl rfl (am_ok_v mi_69 (am_hl rfl (am_ccR i0 (am_ccI (am_ccI am_cats_0))) rfl) z3) (am_hc am_cats_0 rfl) (fun _ => ⟨rfl, hh_64⟩) (fun o1 hz9 => rm_69 x0 v1 x2 h o1 i0 hz9) ?_
  rcases am_cV_s hs2 with ⟨h5, f6, hs3⟩ | hs3
  · clear hs2
    refine Or.inl ⟨_, _, f6, ?_⟩
    show am_W X _ 64 115 _ [] h5 _
    refine aw_iinc (v := (x2 + 1)) (c := 1) (lv1 := am_put1 _ 2 _) (pc1 := 118) at_64_115 l2 (by decide) rfl rfl rfl ?_
    refine aw_goto at_64_118 ?_
    exact q_55 x0 x1 ((x2 + 1)) h5 o hs3 _ (am_lk1 l0 rfl rfl) (am_lk1 l1 rfl (by rw [am_isRc i1]; rfl)) am_lk0 i0 i1
  · clear hs2
    exact Or.inr hs3
def fg_64_103 (N : Nat) (rec_55 : Value → Value → Int32 → am_H → Option am_O) (x0 : Value) (x1 : Value) (x2 : Int32) (s0 : Value) (s1 : Int32) (h : am_H) : Option am_O := (if am_pOk 9 s0 h then am_cV true (fm_68 s0 s1 h) (fun h3 => (fg_64_106 N rec_55 x0 x1 x2 h3)) else none)
theorem rg_64_103 {X : am_X} {d : Nat} {N : Nat} {rec_55 : Value → Value → Int32 → am_H → Option am_O} (q_55 : ∀ (x0 : Value) (x1 : Value) (x2 : Int32) (h : am_H) (o : am_O), rec_55 x0 x1 x2 h = some o → ∀ lv : am_LV, (lv.lookup 0 = some x0) → (lv.lookup 1 = some x1) → (lv.lookup 2 = some (.int x2)) → (am_isR x0 = true) → (am_isR x1 = true) → am_W X (d + 121) 64 55 lv [] h (fun q => q = o)) {lv : am_LV} (x0 : Value) (x1 : Value) (x2 : Int32) (s0 : Value) (s1 : Int32) (h : am_H) (o : am_O) (l0 : lv.lookup 0 = some x0) (l1 : lv.lookup 1 = some x1) (l2 : lv.lookup 2 = some (.int x2)) (i0 : am_isR x0 = true) (i1 : am_isR x1 = true) (j0 : am_isR s0 = true) (hs : fg_64_103 N rec_55 x0 x1 x2 s0 s1 h = some o) : am_W X (d + 121) 64 103 lv [(.int s1), s0] h (fun q => q = o) := by
  unfold fg_64_103 at hs
  obtain ⟨z1, hs1⟩ := am_ift hs
  clear hs
  refine aw_call (F := fm_68 s0 s1 h) (t := true) (na := 2) (kd := 1) (as := [s0, (.int s1)]) at_64_103 (am_k3v kb_68) mn_68 mk_68 rfl rfl (am_ok_v mi_68 (am_hl rfl (am_ccR j0 (am_ccI am_cats_0)) rfl) z1) (am_hc am_cats_0 rfl) (fun _ => ⟨rfl, hh_64⟩) (fun o1 hz9 => rm_68 s0 s1 h o1 j0 hz9) ?_
  rcases am_cV_s hs1 with ⟨h3, f4, hs2⟩ | hs2
  · clear hs1
    refine Or.inl ⟨_, _, f4, ?_⟩
    show am_W X _ 64 106 _ [] h3 _
    exact rg_64_106 q_55 x0 x1 x2 h3 o l0 l1 l2 i0 i1 hs2
  · clear hs1
    exact Or.inr hs2
def fg_64_55 (N : Nat) : Nat → Value → Value → Int32 → am_H → Option am_O
  | 0 => fun _ _ _ _ => none
  | K + 1 => fun x0 x1 x2 h => ((am_vI (am_pG 769 x1 h)).bind fun v1 => (if v1 = 0 then (fg_64_121 N x0 h) else ((am_vI (am_pG 771 x1 h)).bind fun v4 => (if v4 ≤ x2 then (fg_64_121 N x0 h) else (if x2 ≤ 0 then (fg_64_106 N (fg_64_55 N K) x0 x1 x2 h) else ((am_vI (am_pG 769 x1 h)).bind fun v8 => (if ¬ v8 = 1 then ((am_vI (am_pG 769 x1 h)).bind fun v11 => (if ¬ v11 = 2 then (fg_64_103 N (fg_64_55 N K) x0 x1 x2 x0 44 h) else (fg_64_103 N (fg_64_55 N K) x0 x1 x2 x0 59 h))) else (fg_64_103 N (fg_64_55 N K) x0 x1 x2 x0 32 h))))))))
theorem rg_64_55 {X : am_X} {d : Nat} {N : Nat} : ∀ (K : Nat) (x0 : Value) (x1 : Value) (x2 : Int32) (h : am_H) (o : am_O), fg_64_55 N K x0 x1 x2 h = some o → ∀ lv : am_LV, (lv.lookup 0 = some x0) → (lv.lookup 1 = some x1) → (lv.lookup 2 = some (.int x2)) → (am_isR x0 = true) → (am_isR x1 = true) → am_W X (d + 121) 64 55 lv [] h (fun q => q = o) := by
  intro K
  induction K with
  | zero => intro x0 x1 x2 h o hs; cases hs
  | succ K ih =>
    intro x0 x1 x2 h o hs lv l0 l1 l2 i0 i1
    unfold fg_64_55 at hs
    refine aw_vload_n (pc1 := 56) at_64_55 l1 i1 rfl ?_
    obtain ⟨v1, e2, hs1⟩ := am_bind hs
    clear hs
    refine aw_pG (pc1 := 59) at_64_56 (am_vI_s e2) rfl ?_
    by_cases c3 : v1 = 0
    · rw [if_pos c3] at hs1
      refine aw_ifeq_t at_64_59 c3 ?_
      exact rg_64_121 x0 h o l0 i0 hs1
    · rw [if_neg c3] at hs1
      refine aw_ifeq_f (pc1 := 62) at_64_59 c3 rfl ?_
      refine aw_iload_n (pc1 := 63) at_64_62 l2 rfl ?_
      refine aw_vload_n (pc1 := 64) at_64_63 l1 i1 rfl ?_
      obtain ⟨v4, e5, hs2⟩ := am_bind hs1
      clear hs1
      refine aw_pG (pc1 := 67) at_64_64 (am_vI_s e5) rfl ?_
      by_cases c6 : v4 ≤ x2
      · rw [if_pos c6] at hs2
        refine aw_icge_t at_64_67 c6 ?_
        exact rg_64_121 x0 h o l0 i0 hs2
      · rw [if_neg c6] at hs2
        refine aw_icge_f (pc1 := 70) at_64_67 c6 rfl ?_
        refine aw_iload_n (pc1 := 71) at_64_70 l2 rfl ?_
        by_cases c7 : x2 ≤ 0
        · rw [if_pos c7] at hs2
          refine aw_ifle_t at_64_71 c7 ?_
          exact rg_64_106 (fun z0 z1 z2 h o hs2 => ih z0 z1 z2 h o hs2) x0 x1 x2 h o l0 l1 l2 i0 i1 hs2
        · rw [if_neg c7] at hs2
          refine aw_ifle_f (pc1 := 74) at_64_71 c7 rfl ?_
          refine aw_vload_n (pc1 := 75) at_64_74 l0 i0 rfl ?_
          refine aw_vload_n (pc1 := 76) at_64_75 l1 i1 rfl ?_
          obtain ⟨v8, e9, hs3⟩ := am_bind hs2
          clear hs2
          refine aw_pG (pc1 := 79) at_64_76 (am_vI_s e9) rfl ?_
          refine aw_iconst (v := 1) (pc1 := 80) at_64_79 (by decide) rfl ?_
          by_cases c10 : ¬ v8 = 1
          · rw [if_pos c10] at hs3
            refine aw_icne_t at_64_80 c10 ?_
            refine aw_vload_n (pc1 := 89) at_64_88 l1 i1 rfl ?_
            obtain ⟨v11, e12, hs4⟩ := am_bind hs3
            clear hs3
            refine aw_pG (pc1 := 92) at_64_89 (am_vI_s e12) rfl ?_
            refine aw_iconst (v := 2) (pc1 := 93) at_64_92 (by decide) rfl ?_
            by_cases c13 : ¬ v11 = 2
            · rw [if_pos c13] at hs4
              refine aw_icne_t at_64_93 c13 ?_
              refine aw_bipush (v := 44) (pc1 := 103) at_64_101 (by decide) rfl ?_
              exact rg_64_103 (fun z0 z1 z2 h o hs4 => ih z0 z1 z2 h o hs4) x0 x1 x2 x0 44 h o l0 l1 l2 i0 i1 i0 hs4
            · rw [if_neg c13] at hs4
              refine aw_icne_f (pc1 := 96) at_64_93 c13 rfl ?_
              refine aw_bipush (v := 59) (pc1 := 98) at_64_96 (by decide) rfl ?_
              refine aw_goto at_64_98 ?_
              exact rg_64_103 (fun z0 z1 z2 h o hs4 => ih z0 z1 z2 h o hs4) x0 x1 x2 x0 59 h o l0 l1 l2 i0 i1 i0 hs4
          · rw [if_neg c10] at hs3
            refine aw_icne_f (pc1 := 83) at_64_80 c10 rfl ?_
            refine aw_bipush (v := 32) (pc1 := 85) at_64_83 (by decide) rfl ?_
            refine aw_goto at_64_85 ?_
            exact rg_64_103 (fun z0 z1 z2 h o hs3 => ih z0 z1 z2 h o hs3) x0 x1 x2 x0 32 h o l0 l1 l2 i0 i1 i0 hs3
def fg_64_53 (N : Nat) (x0 : Value) (x1 : Value) (h : am_H) : Option am_O := (fg_64_55 N N x0 x1 0 h)
theorem rg_64_53 {X : am_X} {d : Nat} {N : Nat} {lv : am_LV} (x0 : Value) (x1 : Value) (h : am_H) (o : am_O) (l0 : lv.lookup 0 = some x0) (l1 : lv.lookup 1 = some x1) (i0 : am_isR x0 = true) (i1 : am_isR x1 = true) (hs : fg_64_53 N x0 x1 h = some o) : am_W X (d + 121) 64 53 lv [] h (fun q => q = o) := by
  unfold fg_64_53 at hs
  refine aw_iconst (v := 0) (pc1 := 54) at_64_53 (by decide) rfl ?_
  refine aw_istore_n (lv1 := am_put1 _ 2 _) (pc1 := 55) at_64_54 rfl rfl ?_
  exact rg_64_55 N x0 x1 0 h o hs _ (am_lk1 l0 rfl rfl) (am_lk1 l1 rfl (by rw [am_isRc i1]; rfl)) am_lk0 i0 i1
def fg_64_0 (N : Nat) (x0 : Value) (x1 : Value) (h : am_H) : Option am_O := ((am_pP 2312 x0 (.int 0) h).bind fun h1 => ((am_pP 2308 x0 x1 h1).bind fun h3 => ((am_vI (am_pG 769 x1 h3)).bind fun v5 => (if ¬ v5 = 0 then ((am_vI (am_pG 769 x1 h3)).bind fun v8 => (if ¬ v8 = 3 then (fg_64_53 N x0 x1 h3) else ((am_vI (am_pG 770 x1 h3)).bind fun v11 => (if am_pOk 9 x0 h3 then am_cV true (fm_68 x0 (((Int32.toUInt32 (48 + v11) % 65536).toInt32)) h3) (fun h15 => (if am_pOk 9 x0 h15 then am_cV true (fm_68 x0 58 h15) (fun h19 => (fg_64_53 N x0 x1 h19)) else none)) else none)))) else (if am_pOk 9 x0 h3 then am_cI true (fm_65 N x0 0 1 h3) (fun v22 h23 => (fg_64_53 N x0 x1 h23)) else none)))))
theorem rg_64_0 {X : am_X} {d : Nat} {N : Nat} {lv : am_LV} (x0 : Value) (x1 : Value) (h : am_H) (o : am_O) (l0 : lv.lookup 0 = some x0) (l1 : lv.lookup 1 = some x1) (i0 : am_isR x0 = true) (i1 : am_isR x1 = true) (hs : fg_64_0 N x0 x1 h = some o) : am_W X (d + 121) 64 0 lv [] h (fun q => q = o) := by
  unfold fg_64_0 at hs
  refine aw_vload_n (pc1 := 1) at_64_0 l0 i0 rfl ?_
  refine aw_iconst (v := 0) (pc1 := 2) at_64_1 (by decide) rfl ?_
  obtain ⟨h1, e2, hs1⟩ := am_bind hs
  clear hs
  refine aw_pP (pc1 := 5) at_64_2 e2 rfl ?_
  refine aw_vload_n (pc1 := 6) at_64_5 l0 i0 rfl ?_
  refine aw_vload_n (pc1 := 7) at_64_6 l1 i1 rfl ?_
  obtain ⟨h3, e4, hs2⟩ := am_bind hs1
  clear hs1
  refine aw_pP (pc1 := 10) at_64_7 e4 rfl ?_
  refine aw_vload_n (pc1 := 11) at_64_10 l1 i1 rfl ?_
  obtain ⟨v5, e6, hs3⟩ := am_bind hs2
  clear hs2
  refine aw_pG (pc1 := 14) at_64_11 (am_vI_s e6) rfl ?_
  by_cases c7 : ¬ v5 = 0
  · rw [if_pos c7] at hs3
    refine aw_ifne_t at_64_14 c7 ?_
    refine aw_vload_n (pc1 := 28) at_64_27 l1 i1 rfl ?_
    obtain ⟨v8, e9, hs4⟩ := am_bind hs3
    clear hs3
    refine aw_pG (pc1 := 31) at_64_28 (am_vI_s e9) rfl ?_
    refine aw_iconst (v := 3) (pc1 := 32) at_64_31 (by decide) rfl ?_
    by_cases c10 : ¬ v8 = 3
    · rw [if_pos c10] at hs4
      refine aw_icne_t at_64_32 c10 ?_
      exact rg_64_53 x0 x1 h3 o l0 l1 i0 i1 hs4
    · rw [if_neg c10] at hs4
      refine aw_icne_f (pc1 := 35) at_64_32 c10 rfl ?_
      refine aw_vload_n (pc1 := 36) at_64_35 l0 i0 rfl ?_
      refine aw_bipush (v := 48) (pc1 := 38) at_64_36 (by decide) rfl ?_
      refine aw_vload_n (pc1 := 39) at_64_38 l1 i1 rfl ?_
      obtain ⟨v11, e12, hs5⟩ := am_bind hs4
      clear hs4
      refine aw_pG (pc1 := 42) at_64_39 (am_vI_s e12) rfl ?_
      refine aw_iadd (v := (48 + v11)) (pc1 := 43) at_64_42 rfl rfl ?_
      refine aw_i2c (v := ((Int32.toUInt32 (48 + v11) % 65536).toInt32)) (pc1 := 44) at_64_43 rfl rfl ?_
      obtain ⟨z13, hs6⟩ := am_ift hs5
      clear hs5
      refine aw_call (F := fm_68 x0 (((Int32.toUInt32 (48 + v11) % 65536).toInt32)) h3) (t := true) (na := 2) (kd := 1) (as := [x0, (.int ((Int32.toUInt32 (48 + v11) % 65536).toInt32))]) at_64_44 (am_k3v kb_68) mn_68 mk_68 rfl rfl (am_ok_v mi_68 (am_hl rfl (am_ccR i0 (am_ccI am_cats_0)) rfl) z13) (am_hc am_cats_0 rfl) (fun _ => ⟨rfl, hh_64⟩) (fun o1 hz9 => rm_68 x0 (((Int32.toUInt32 (48 + v11) % 65536).toInt32)) h3 o1 i0 hz9) ?_
      rcases am_cV_s hs6 with ⟨h15, f16, hs7⟩ | hs7
      · clear hs6
        refine Or.inl ⟨_, _, f16, ?_⟩
        show am_W X _ 64 47 _ [] h15 _
        refine aw_vload_n (pc1 := 48) at_64_47 l0 i0 rfl ?_
        refine aw_bipush (v := 58) (pc1 := 50) at_64_48 (by decide) rfl ?_
        obtain ⟨z17, hs8⟩ := am_ift hs7
        clear hs7
        refine aw_call (F := fm_68 x0 58 h15) (t := true) (na := 2) (kd := 1) (as := [x0, (.int 58)]) at_64_50 (am_k3v kb_68) mn_68 mk_68 rfl rfl (am_ok_v mi_68 (am_hl rfl (am_ccR i0 (am_ccI am_cats_0)) rfl) z17) (am_hc am_cats_0 rfl) (fun _ => ⟨rfl, hh_64⟩) (fun o1 hz9 => rm_68 x0 58 h15 o1 i0 hz9) ?_
        rcases am_cV_s hs8 with ⟨h19, f20, hs9⟩ | hs9
        · clear hs8
          refine Or.inl ⟨_, _, f20, ?_⟩
          show am_W X _ 64 53 _ [] h19 _
          exact rg_64_53 x0 x1 h19 o l0 l1 i0 i1 hs9
        · clear hs8
          exact Or.inr hs9
      · clear hs6
        exact Or.inr hs7
  · rw [if_neg c7] at hs3
    refine aw_ifne_f (pc1 := 17) at_64_14 c7 rfl ?_
    refine aw_vload_n (pc1 := 18) at_64_17 l0 i0 rfl ?_
    refine aw_iconst (v := 0) (pc1 := 19) at_64_18 (by decide) rfl ?_
    refine aw_iconst (v := 1) (pc1 := 20) at_64_19 (by decide) rfl ?_
    obtain ⟨z21, hs10⟩ := am_ift hs3
    clear hs3
    refine aw_call (F := fm_65 N x0 0 1 h3) (t := true) (na := 3) (kd := 1) (as := [x0, (.int 0), (.int 1)]) at_64_20 (am_k3v kb_65) mn_65 mk_65 rfl rfl (am_ok_v mi_65 (am_hl rfl (am_ccR i0 (am_ccI (am_ccI am_cats_0))) rfl) z21) (am_hc am_cats_0 rfl) (fun _ => ⟨rfl, hh_64⟩) (fun o1 hz9 => rm_65 x0 0 1 h3 o1 i0 hz9) ?_
    rcases am_cI_s hs10 with ⟨v22, h23, f24, hs11⟩ | hs11
    · clear hs10
      refine Or.inl ⟨_, _, f24, ?_⟩
      show am_W X _ 64 23 _ [(.int v22)] h23 _
      refine aw_popi (pc1 := 24) at_64_23 rfl ?_
      refine aw_goto at_64_24 ?_
      exact rg_64_53 x0 x1 h23 o l0 l1 i0 i1 hs11
    · clear hs10
      exact Or.inr hs11
def fm_64 (N : Nat) (y0 : Value) (y1 : Value) (h : am_H) : Option am_O := fg_64_0 N y0 y1 h
theorem rm_64 {X : am_X} {d : Nat} {N : Nat} (y0 : Value) (y1 : Value) (h : am_H) (o : am_O) (i0 : am_isR y0 = true) (i1 : am_isR y1 = true) (hs : fm_64 N y0 y1 h = some o) : am_W X (d + 121) 64 0 (am_args 0 [y0, y1]) [] h (fun q => q = o) := by
  rw [am_args_R i0, am_args_R i1]
  exact rg_64_0 y0 y1 h o rfl rfl i0 i1 hs
def fg_62_0 (N : Nat) (x0 : Value) (x1 : Int32) (h : am_H) : Option am_O := ((am_vR (am_pG 2818 x0 h)).bind fun v1 => (if am_pOk 11 x0 h then am_cR true (fm_63 x0 x1 h) (fun v4 h5 => (if am_pOk 9 v1 h5 then am_cI true (fm_64 N v1 v4 h5) (fun v8 h9 => some (.inl (some (.int v8), h9))) else none)) else none))
theorem rg_62_0 {X : am_X} {d : Nat} {N : Nat} {lv : am_LV} (x0 : Value) (x1 : Int32) (h : am_H) (o : am_O) (l0 : lv.lookup 0 = some x0) (l1 : lv.lookup 1 = some (.int x1)) (i0 : am_isR x0 = true) (hs : fg_62_0 N x0 x1 h = some o) : am_W X (d + 122) 62 0 lv [] h (fun q => q = o) := by
  unfold fg_62_0 at hs
  refine aw_vload_n (pc1 := 1) at_62_0 l0 i0 rfl ?_
  obtain ⟨v1, e2, hs1⟩ := am_bind hs
  clear hs
  refine aw_pG (pc1 := 4) at_62_1 (am_vR_s e2).1 rfl ?_
  refine aw_vload_n (pc1 := 5) at_62_4 l0 i0 rfl ?_
  refine aw_iload_n (pc1 := 6) at_62_5 l1 rfl ?_
  obtain ⟨z3, hs2⟩ := am_ift hs1
  clear hs1
  refine aw_call (F := fm_63 x0 x1 h) (t := true) (na := 2) (kd := 1) (as := [x0, (.int x1)]) at_62_6 (am_k3v kb_63) mn_63 mk_63 rfl rfl (am_ok_v mi_63 (am_hl rfl (am_ccR i0 (am_ccI am_cats_0)) rfl) z3) (am_hc (am_ccR (am_vR_s e2).2 am_cats_0) rfl) (fun _ => ⟨rfl, hh_62⟩) (fun o1 hz9 => rm_63 x0 x1 h o1 i0 hz9) ?_
  rcases am_cR_s hs2 with ⟨v4, h5, f6, iv4, hs3⟩ | hs3
  · clear hs2
    refine Or.inl ⟨_, _, f6, ?_⟩
    show am_W X _ 62 9 _ [v4, v1] h5 _
    obtain ⟨z7, hs4⟩ := am_ift hs3
    clear hs3
    refine aw_call (F := fm_64 N v1 v4 h5) (t := true) (na := 2) (kd := 1) (as := [v1, v4]) at_62_9 (am_k3v kb_64) mn_64 mk_64 rfl rfl (am_ok_v mi_64 (am_hl rfl (am_ccR (am_vR_s e2).2 (am_ccR iv4 am_cats_0)) rfl) z7) (am_hc am_cats_0 rfl) (fun _ => ⟨rfl, hh_62⟩) (fun o1 hz9 => rm_64 v1 v4 h5 o1 (am_vR_s e2).2 iv4 hz9) ?_
    rcases am_cI_s hs4 with ⟨v8, h9, f10, hs5⟩ | hs5
    · clear hs4
      refine Or.inl ⟨_, _, f10, ?_⟩
      show am_W X _ 62 12 _ [(.int v8)] h9 _
      cases hs5
      exact aw_iret at_62_12 (by rw [rt_62]; rfl) rfl
    · clear hs4
      exact Or.inr hs5
  · clear hs2
    exact Or.inr hs3
def fm_62 (N : Nat) (y0 : Value) (y1 : Int32) (h : am_H) : Option am_O := fg_62_0 N y0 y1 h
theorem rm_62 {X : am_X} {d : Nat} {N : Nat} (y0 : Value) (y1 : Int32) (h : am_H) (o : am_O) (i0 : am_isR y0 = true) (hs : fm_62 N y0 y1 h = some o) : am_W X (d + 122) 62 0 (am_args 0 [y0, .int y1]) [] h (fun q => q = o) := by
  rw [am_args_R i0, am_args_I]
  exact rg_62_0 y0 y1 h o rfl rfl i0 hs
def fg_61_13 (N : Nat) (h : am_H) : Option am_O := some (.inl (some (.int 1), h))
theorem rg_61_13 {X : am_X} {d : Nat} {N : Nat} {lv : am_LV} (h : am_H) (o : am_O) (hs : fg_61_13 N h = some o) : am_W X (d + 123) 61 13 lv [] h (fun q => q = o) := by
  unfold fg_61_13 at hs
  refine aw_iconst (v := 1) (pc1 := 14) at_61_13 (by decide) rfl ?_
  cases hs
  exact aw_iret at_61_14 (by rw [rt_61]; rfl) rfl
def fg_61_0 (N : Nat) (x0 : Value) (x1 : Int32) (x2 : Value) (h : am_H) : Option am_O := (if am_pOk 11 x0 h then (match fm_62 N x0 x1 h with | some (.inl (some (.int v2), h3)) => ((am_pSL x2 0 (Int32.toInt64 v2) h3).bind fun h5 => some (.inl (some (.int 0), h5))) | some (.inr (2, h7)) => (fg_61_13 N h7) | _ => none) else none)
theorem rg_61_0 {X : am_X} {d : Nat} {N : Nat} {lv : am_LV} (x0 : Value) (x1 : Int32) (x2 : Value) (h : am_H) (o : am_O) (l0 : lv.lookup 0 = some x0) (l1 : lv.lookup 1 = some (.int x1)) (l2 : lv.lookup 2 = some x2) (i0 : am_isR x0 = true) (i2 : am_isR x2 = true) (hs : fg_61_0 N x0 x1 x2 h = some o) : am_W X (d + 123) 61 0 lv [] h (fun q => q = o) := by
  unfold fg_61_0 at hs
  refine aw_vload_n (pc1 := 1) at_61_0 l2 i2 rfl ?_
  refine aw_iconst (v := 0) (pc1 := 2) at_61_1 (by decide) rfl ?_
  refine aw_vload_n (pc1 := 3) at_61_2 l0 i0 rfl ?_
  refine aw_iload_n (pc1 := 4) at_61_3 l1 rfl ?_
  obtain ⟨z1, hs1⟩ := am_ift hs
  clear hs
  refine aw_callH (F := fm_62 N x0 x1 h) (na := 2) (kd := 1) (as := [x0, (.int x1)]) at_61_4 (am_k3v kb_62) mn_62 mk_62 rfl rfl (am_ok_v mi_62 (am_hl rfl (am_ccR i0 (am_ccI am_cats_0)) rfl) z1) (am_hc (am_ccI (am_ccR i2 am_cats_0)) rfl) (fun o1 hz9 => rm_62 x0 x1 h o1 i0 hz9) ?_
  split at hs1
  · rename_i v2 h3 f4
    refine Or.inl ⟨_, _, f4, ?_⟩
    show am_W X _ 61 7 _ [(.int v2), (.int 0), x2] h3 _
    refine aw_i2l (v := (Int32.toInt64 v2)) (pc1 := 8) at_61_7 rfl rfl ?_
    obtain ⟨h5, e6, hs2⟩ := am_bind hs1
    clear hs1
    refine aw_pSL (pc1 := 9) at_61_8 e6 rfl ?_
    refine aw_goto at_61_9 ?_
    refine aw_iconst (v := 0) (pc1 := 16) at_61_15 (by decide) rfl ?_
    cases hs2
    exact aw_iret at_61_16 (by rw [rt_61]; rfl) rfl
  · rename_i h7 f8
    refine Or.inr ⟨_, _, 13, 3, f8, rfl, hn_61, hd_61_4_2, ?_⟩
    exact rg_61_13 h7 o   hs1
  · cases hs1
def fm_61 (N : Nat) (y0 : Value) (y1 : Int32) (y2 : Value) (h : am_H) : Option am_O := fg_61_0 N y0 y1 y2 h
theorem rm_61 {X : am_X} {d : Nat} {N : Nat} (y0 : Value) (y1 : Int32) (y2 : Value) (h : am_H) (o : am_O) (i0 : am_isR y0 = true) (i2 : am_isR y2 = true) (hs : fm_61 N y0 y1 y2 h = some o) : am_W X (d + 123) 61 0 (am_args 0 [y0, .int y1, y2]) [] h (fun q => q = o) := by
  rw [am_args_R i0, am_args_I, am_args_R i2]
  exact rg_61_0 y0 y1 y2 h o rfl rfl rfl i0 i2 hs
def fg_358_0 (x0 : Value) (x1 : Int32) (h : am_H) : Option am_O := ((am_vI (am_pG 3073 x0 h)).bind fun v1 => am_cI false (fm_327 ((Int32.toInt64 x1)) 0 (((Int32.toInt64 v1) - 1)) h) (fun v3 h4 => (if am_rfit (some FieldType.boolean) v3 then some (.inl (some (.int v3), h4)) else none)))
theorem rg_358_0 {X : am_X} {d : Nat} {lv : am_LV} (x0 : Value) (x1 : Int32) (h : am_H) (o : am_O) (l0 : lv.lookup 0 = some x0) (l1 : lv.lookup 1 = some (.int x1)) (i0 : am_isR x0 = true) (hs : fg_358_0 x0 x1 h = some o) : am_W X (d + 1) 358 0 lv [] h (fun q => q = o) := by
  unfold fg_358_0 at hs
  refine aw_iload_n (pc1 := 1) at_358_0 l1 rfl ?_
  refine aw_i2l (v := (Int32.toInt64 x1)) (pc1 := 2) at_358_1 rfl rfl ?_
  refine aw_lconst (v := 0) (pc1 := 3) at_358_2 (by decide) rfl ?_
  refine aw_vload_n (pc1 := 4) at_358_3 l0 i0 rfl ?_
  obtain ⟨v1, e2, hs1⟩ := am_bind hs
  clear hs
  refine aw_pG (pc1 := 7) at_358_4 (am_vI_s e2) rfl ?_
  refine aw_i2l (v := (Int32.toInt64 v1)) (pc1 := 8) at_358_7 rfl rfl ?_
  refine aw_lconst (v := 1) (pc1 := 9) at_358_8 (by decide) rfl ?_
  refine aw_lsub (v := ((Int32.toInt64 v1) - 1)) (pc1 := 10) at_358_9 rfl rfl ?_
  refine aw_call (F := fm_327 ((Int32.toInt64 x1)) 0 (((Int32.toInt64 v1) - 1)) h) (t := false) (na := 3) (kd := 0) (as := [(.long (Int32.toInt64 x1)), (.long 0), (.long ((Int32.toInt64 v1) - 1))]) at_358_10 (am_k3s kb_327) mn_327 mk_327 rfl rfl (am_ok_s mi_327 (am_hl rfl (am_ccL (am_ccL (am_ccL am_cats_0))) rfl)) (am_hc am_cats_0 rfl) (fun hz9 => by cases hz9) (fun o1 hz9 => rm_327 ((Int32.toInt64 x1)) 0 (((Int32.toInt64 v1) - 1)) h o1  hz9) ?_
  rcases am_cI_s hs1 with ⟨v3, h4, f5, hs2⟩ | hs2
  · clear hs1
    refine Or.inl ⟨_, _, f5, ?_⟩
    show am_W X _ 358 13 _ [(.int v3)] h4 _
    obtain ⟨z6, hs3⟩ := am_ift hs2
    clear hs2
    cases hs3
    exact aw_iret at_358_13 (by rw [rt_358]; exact z6) rfl
  · clear hs1
    exact Or.inr hs2
def fm_358 (y0 : Value) (y1 : Int32) (h : am_H) : Option am_O := fg_358_0 y0 y1 h
theorem rm_358 {X : am_X} {d : Nat} (y0 : Value) (y1 : Int32) (h : am_H) (o : am_O) (i0 : am_isR y0 = true) (hs : fm_358 y0 y1 h = some o) : am_W X (d + 1) 358 0 (am_args 0 [y0, .int y1]) [] h (fun q => q = o) := by
  rw [am_args_R i0, am_args_I]
  exact rg_358_0 y0 y1 h o rfl rfl i0 hs
def fg_359_32 (N : Nat) : Nat → Value → Int32 → Int32 → am_H → Option am_O
  | 0 => fun _ _ _ _ => none
  | K + 1 => fun x0 x1 x2 h => ((am_vI (am_pG 3086 x0 h)).bind fun v1 => (if v1 ≤ x2 then some (.inl (none, h)) else ((am_vR (am_pG 3088 x0 h)).bind fun v4 => ((am_vR (am_pG 3083 x0 h)).bind fun v6 => ((am_pA 0 v6 ((60 * x1) + x2) h).bind fun v8 => ((am_pS 0 v4 x2 v8 h).bind fun h10 => ((am_vR (am_pG 3089 x0 h10)).bind fun v12 => ((am_vR (am_pG 3084 x0 h10)).bind fun v14 => ((am_pA 0 v14 ((60 * x1) + x2) h10).bind fun v16 => ((am_pS 0 v12 x2 v16 h10).bind fun h18 => (fg_359_32 N K x0 x1 ((x2 + 1)) h18)))))))))))
theorem rg_359_32 {X : am_X} {d : Nat} {N : Nat} : ∀ (K : Nat) (x0 : Value) (x1 : Int32) (x2 : Int32) (h : am_H) (o : am_O), fg_359_32 N K x0 x1 x2 h = some o → ∀ lv : am_LV, (lv.lookup 0 = some x0) → (lv.lookup 1 = some (.int x1)) → (lv.lookup 2 = some (.int x2)) → (am_isR x0 = true) → am_W X (d) 359 32 lv [] h (fun q => q = o) := by
  intro K
  induction K with
  | zero => intro x0 x1 x2 h o hs; cases hs
  | succ K ih =>
    intro x0 x1 x2 h o hs lv l0 l1 l2 i0
    unfold fg_359_32 at hs
    refine aw_iload_n (pc1 := 33) at_359_32 l2 rfl ?_
    refine aw_vload_n (pc1 := 34) at_359_33 l0 i0 rfl ?_
    obtain ⟨v1, e2, hs1⟩ := am_bind hs
    clear hs
    refine aw_pG (pc1 := 37) at_359_34 (am_vI_s e2) rfl ?_
    by_cases c3 : v1 ≤ x2
    · rw [if_pos c3] at hs1
      refine aw_icge_t at_359_37 c3 ?_
      cases hs1
      exact aw_vret at_359_80 rt_359 rfl
    · rw [if_neg c3] at hs1
      refine aw_icge_f (pc1 := 40) at_359_37 c3 rfl ?_
      refine aw_vload_n (pc1 := 41) at_359_40 l0 i0 rfl ?_
      obtain ⟨v4, e5, hs2⟩ := am_bind hs1
      clear hs1
      refine aw_pG (pc1 := 44) at_359_41 (am_vR_s e5).1 rfl ?_
      refine aw_iload_n (pc1 := 45) at_359_44 l2 rfl ?_
      refine aw_vload_n (pc1 := 46) at_359_45 l0 i0 rfl ?_
      obtain ⟨v6, e7, hs3⟩ := am_bind hs2
      clear hs2
      refine aw_pG (pc1 := 49) at_359_46 (am_vR_s e7).1 rfl ?_
      refine aw_bipush (v := 60) (pc1 := 51) at_359_49 (by decide) rfl ?_
      refine aw_iload_n (pc1 := 52) at_359_51 l1 rfl ?_
      refine aw_imul (v := (60 * x1)) (pc1 := 53) at_359_52 rfl rfl ?_
      refine aw_iload_n (pc1 := 54) at_359_53 l2 rfl ?_
      refine aw_iadd (v := ((60 * x1) + x2)) (pc1 := 55) at_359_54 rfl rfl ?_
      obtain ⟨v8, e9, hs4⟩ := am_bind hs3
      clear hs3
      refine aw_pA (pc1 := 56) at_359_55 (Or.inl ⟨rfl, rfl⟩) e9 rfl ?_
      obtain ⟨h10, e11, hs5⟩ := am_bind hs4
      clear hs4
      refine aw_pS (pc1 := 57) at_359_56 (Or.inl ⟨rfl, rfl⟩) e11 rfl ?_
      refine aw_vload_n (pc1 := 58) at_359_57 l0 i0 rfl ?_
      obtain ⟨v12, e13, hs6⟩ := am_bind hs5
      clear hs5
      refine aw_pG (pc1 := 61) at_359_58 (am_vR_s e13).1 rfl ?_
      refine aw_iload_n (pc1 := 62) at_359_61 l2 rfl ?_
      refine aw_vload_n (pc1 := 63) at_359_62 l0 i0 rfl ?_
      obtain ⟨v14, e15, hs7⟩ := am_bind hs6
      clear hs6
      refine aw_pG (pc1 := 66) at_359_63 (am_vR_s e15).1 rfl ?_
      refine aw_bipush (v := 60) (pc1 := 68) at_359_66 (by decide) rfl ?_
      refine aw_iload_n (pc1 := 69) at_359_68 l1 rfl ?_
      refine aw_imul (v := (60 * x1)) (pc1 := 70) at_359_69 rfl rfl ?_
      refine aw_iload_n (pc1 := 71) at_359_70 l2 rfl ?_
      refine aw_iadd (v := ((60 * x1) + x2)) (pc1 := 72) at_359_71 rfl rfl ?_
      obtain ⟨v16, e17, hs8⟩ := am_bind hs7
      clear hs7
      refine aw_pA (pc1 := 73) at_359_72 (Or.inl ⟨rfl, rfl⟩) e17 rfl ?_
      obtain ⟨h18, e19, hs9⟩ := am_bind hs8
      clear hs8
      refine aw_pS (pc1 := 74) at_359_73 (Or.inl ⟨rfl, rfl⟩) e19 rfl ?_
      refine aw_iinc (v := (x2 + 1)) (c := 1) (lv1 := am_put1 _ 2 _) (pc1 := 77) at_359_74 l2 (by decide) rfl rfl rfl ?_
      refine aw_goto at_359_77 ?_
      exact ih x0 x1 ((x2 + 1)) h18 o hs9 _ (am_lk1 l0 rfl rfl) (am_lk1 l1 rfl rfl) am_lk0 i0
def fg_359_0 (N : Nat) (x0 : Value) (x1 : Int32) (h : am_H) : Option am_O := ((am_vR (am_pG 3074 x0 h)).bind fun v1 => ((am_pA 0 v1 x1 h).bind fun v3 => ((am_pP 3085 x0 (.int v3) h).bind fun h5 => ((am_vR (am_pG 3075 x0 h5)).bind fun v7 => ((am_pA 0 v7 x1 h5).bind fun v9 => ((am_pP 3086 x0 (.int v9) h5).bind fun h11 => ((am_vR (am_pG 3076 x0 h11)).bind fun v13 => ((am_pA 0 v13 x1 h11).bind fun v15 => ((am_pP 3087 x0 (.int v15) h11).bind fun h17 => (fg_359_32 N N x0 x1 0 h17))))))))))
theorem rg_359_0 {X : am_X} {d : Nat} {N : Nat} {lv : am_LV} (x0 : Value) (x1 : Int32) (h : am_H) (o : am_O) (l0 : lv.lookup 0 = some x0) (l1 : lv.lookup 1 = some (.int x1)) (i0 : am_isR x0 = true) (hs : fg_359_0 N x0 x1 h = some o) : am_W X (d) 359 0 lv [] h (fun q => q = o) := by
  unfold fg_359_0 at hs
  refine aw_vload_n (pc1 := 1) at_359_0 l0 i0 rfl ?_
  refine aw_vload_n (pc1 := 2) at_359_1 l0 i0 rfl ?_
  obtain ⟨v1, e2, hs1⟩ := am_bind hs
  clear hs
  refine aw_pG (pc1 := 5) at_359_2 (am_vR_s e2).1 rfl ?_
  refine aw_iload_n (pc1 := 6) at_359_5 l1 rfl ?_
  obtain ⟨v3, e4, hs2⟩ := am_bind hs1
  clear hs1
  refine aw_pA (pc1 := 7) at_359_6 (Or.inl ⟨rfl, rfl⟩) e4 rfl ?_
  obtain ⟨h5, e6, hs3⟩ := am_bind hs2
  clear hs2
  refine aw_pP (pc1 := 10) at_359_7 e6 rfl ?_
  refine aw_vload_n (pc1 := 11) at_359_10 l0 i0 rfl ?_
  refine aw_vload_n (pc1 := 12) at_359_11 l0 i0 rfl ?_
  obtain ⟨v7, e8, hs4⟩ := am_bind hs3
  clear hs3
  refine aw_pG (pc1 := 15) at_359_12 (am_vR_s e8).1 rfl ?_
  refine aw_iload_n (pc1 := 16) at_359_15 l1 rfl ?_
  obtain ⟨v9, e10, hs5⟩ := am_bind hs4
  clear hs4
  refine aw_pA (pc1 := 17) at_359_16 (Or.inl ⟨rfl, rfl⟩) e10 rfl ?_
  obtain ⟨h11, e12, hs6⟩ := am_bind hs5
  clear hs5
  refine aw_pP (pc1 := 20) at_359_17 e12 rfl ?_
  refine aw_vload_n (pc1 := 21) at_359_20 l0 i0 rfl ?_
  refine aw_vload_n (pc1 := 22) at_359_21 l0 i0 rfl ?_
  obtain ⟨v13, e14, hs7⟩ := am_bind hs6
  clear hs6
  refine aw_pG (pc1 := 25) at_359_22 (am_vR_s e14).1 rfl ?_
  refine aw_iload_n (pc1 := 26) at_359_25 l1 rfl ?_
  obtain ⟨v15, e16, hs8⟩ := am_bind hs7
  clear hs7
  refine aw_pA (pc1 := 27) at_359_26 (Or.inl ⟨rfl, rfl⟩) e16 rfl ?_
  obtain ⟨h17, e18, hs9⟩ := am_bind hs8
  clear hs8
  refine aw_pP (pc1 := 30) at_359_27 e18 rfl ?_
  refine aw_iconst (v := 0) (pc1 := 31) at_359_30 (by decide) rfl ?_
  refine aw_istore_n (lv1 := am_put1 _ 2 _) (pc1 := 32) at_359_31 rfl rfl ?_
  exact rg_359_32 N x0 x1 0 h17 o hs9 _ (am_lk1 l0 rfl rfl) (am_lk1 l1 rfl rfl) am_lk0 i0
def fm_359 (N : Nat) (y0 : Value) (y1 : Int32) (h : am_H) : Option am_O := fg_359_0 N y0 y1 h
theorem rm_359 {X : am_X} {d : Nat} {N : Nat} (y0 : Value) (y1 : Int32) (h : am_H) (o : am_O) (i0 : am_isR y0 = true) (hs : fm_359 N y0 y1 h = some o) : am_W X (d) 359 0 (am_args 0 [y0, .int y1]) [] h (fun q => q = o) := by
  rw [am_args_R i0, am_args_I]
  exact rg_359_0 y0 y1 h o rfl rfl i0 hs
def fg_362_0 (x0 : Value) (x1 : Int32) (h : am_H) : Option am_O := ((am_vR (am_pG 3151 x0 h)).bind fun v1 => ((am_vI (am_pG 3150 x0 h)).bind fun v3 => ((am_pS 0 v1 v3 x1 h).bind fun h5 => ((am_vI (am_pG 3150 x0 h5)).bind fun v7 => ((am_pP 3150 x0 (.int (v7 + 1)) h5).bind fun h9 => some (.inl (none, h9)))))))
theorem rg_362_0 {X : am_X} {d : Nat} {lv : am_LV} (x0 : Value) (x1 : Int32) (h : am_H) (o : am_O) (l0 : lv.lookup 0 = some x0) (l1 : lv.lookup 1 = some (.int x1)) (i0 : am_isR x0 = true) (hs : fg_362_0 x0 x1 h = some o) : am_W X (d) 362 0 lv [] h (fun q => q = o) := by
  unfold fg_362_0 at hs
  refine aw_vload_n (pc1 := 1) at_362_0 l0 i0 rfl ?_
  obtain ⟨v1, e2, hs1⟩ := am_bind hs
  clear hs
  refine aw_pG (pc1 := 4) at_362_1 (am_vR_s e2).1 rfl ?_
  refine aw_vload_n (pc1 := 5) at_362_4 l0 i0 rfl ?_
  obtain ⟨v3, e4, hs2⟩ := am_bind hs1
  clear hs1
  refine aw_pG (pc1 := 8) at_362_5 (am_vI_s e4) rfl ?_
  refine aw_iload_n (pc1 := 9) at_362_8 l1 rfl ?_
  obtain ⟨h5, e6, hs3⟩ := am_bind hs2
  clear hs2
  refine aw_pS (pc1 := 10) at_362_9 (Or.inl ⟨rfl, rfl⟩) e6 rfl ?_
  refine aw_vload_n (pc1 := 11) at_362_10 l0 i0 rfl ?_
  refine aw_vdup (pc1 := 12) at_362_11 i0 rfl ?_
  obtain ⟨v7, e8, hs4⟩ := am_bind hs3
  clear hs3
  refine aw_pG (pc1 := 15) at_362_12 (am_vI_s e8) rfl ?_
  refine aw_iconst (v := 1) (pc1 := 16) at_362_15 (by decide) rfl ?_
  refine aw_iadd (v := (v7 + 1)) (pc1 := 17) at_362_16 rfl rfl ?_
  obtain ⟨h9, e10, hs5⟩ := am_bind hs4
  clear hs4
  refine aw_pP (pc1 := 20) at_362_17 e10 rfl ?_
  cases hs5
  exact aw_vret at_362_20 rt_362 rfl
def fm_362 (y0 : Value) (y1 : Int32) (h : am_H) : Option am_O := fg_362_0 y0 y1 h
theorem rm_362 {X : am_X} {d : Nat} (y0 : Value) (y1 : Int32) (h : am_H) (o : am_O) (i0 : am_isR y0 = true) (hs : fm_362 y0 y1 h = some o) : am_W X (d) 362 0 (am_args 0 [y0, .int y1]) [] h (fun q => q = o) := by
  rw [am_args_R i0, am_args_I]
  exact rg_362_0 y0 y1 h o rfl rfl i0 hs
def fg_363_38 (x0 : Value) (x2 : Int32) (h : am_H) : Option am_O := (if am_pOk 12 x0 h then am_cV true (fm_362 x0 ((48 + (x2 - x2 / 10 * 10))) h) (fun h3 => some (.inl (none, h3))) else none)
theorem rg_363_38 {X : am_X} {d : Nat} {lv : am_LV} (x0 : Value) (x2 : Int32) (h : am_H) (o : am_O) (l0 : lv.lookup 0 = some x0) (l2 : lv.lookup 2 = some (.int x2)) (i0 : am_isR x0 = true) (hs : fg_363_38 x0 x2 h = some o) : am_W X (d + 1) 363 38 lv [] h (fun q => q = o) := by
  unfold fg_363_38 at hs
  refine aw_vload_n (pc1 := 39) at_363_38 l0 i0 rfl ?_
  refine aw_bipush (v := 48) (pc1 := 41) at_363_39 (by decide) rfl ?_
  refine aw_iload_n (pc1 := 42) at_363_41 l2 rfl ?_
  refine aw_bipush (v := 10) (pc1 := 44) at_363_42 (by decide) rfl ?_
  refine aw_irem (v := (x2 - x2 / 10 * 10)) (pc1 := 45) at_363_44 (by decide) rfl rfl ?_
  refine aw_iadd (v := (48 + (x2 - x2 / 10 * 10))) (pc1 := 46) at_363_45 rfl rfl ?_
  obtain ⟨z1, hs1⟩ := am_ift hs
  clear hs
  refine aw_call (F := fm_362 x0 ((48 + (x2 - x2 / 10 * 10))) h) (t := true) (na := 2) (kd := 1) (as := [x0, (.int (48 + (x2 - x2 / 10 * 10)))]) at_363_46 (am_k3v kb_362) mn_362 mk_362 rfl rfl (am_ok_v mi_362 (am_hl rfl (am_ccR i0 (am_ccI am_cats_0)) rfl) z1) (am_hc am_cats_0 rfl) (fun _ => ⟨rfl, hh_363⟩) (fun o1 hz9 => rm_362 x0 ((48 + (x2 - x2 / 10 * 10))) h o1 i0 hz9) ?_
  rcases am_cV_s hs1 with ⟨h3, f4, hs2⟩ | hs2
  · clear hs1
    refine Or.inl ⟨_, _, f4, ?_⟩
    show am_W X _ 363 49 _ [] h3 _
    cases hs2
    exact aw_vret at_363_49 rt_363 rfl
  · clear hs1
    exact Or.inr hs2
def fg_363_21 (x0 : Value) (x2 : Int32) (h : am_H) : Option am_O := (if x2 ≤ 9 then (fg_363_38 x0 x2 h) else (if am_pOk 12 x0 h then am_cV true (fm_362 x0 ((48 + (x2 / 10))) h) (fun h4 => (fg_363_38 x0 x2 h4)) else none))
theorem rg_363_21 {X : am_X} {d : Nat} {lv : am_LV} (x0 : Value) (x2 : Int32) (h : am_H) (o : am_O) (l0 : lv.lookup 0 = some x0) (l2 : lv.lookup 2 = some (.int x2)) (i0 : am_isR x0 = true) (hs : fg_363_21 x0 x2 h = some o) : am_W X (d + 1) 363 21 lv [] h (fun q => q = o) := by
  unfold fg_363_21 at hs
  refine aw_iload_n (pc1 := 22) at_363_21 l2 rfl ?_
  refine aw_bipush (v := 9) (pc1 := 24) at_363_22 (by decide) rfl ?_
  by_cases c1 : x2 ≤ 9
  · rw [if_pos c1] at hs
    refine aw_icle_t at_363_24 c1 ?_
    exact rg_363_38 x0 x2 h o l0 l2 i0 hs
  · rw [if_neg c1] at hs
    refine aw_icle_f (pc1 := 27) at_363_24 c1 rfl ?_
    refine aw_vload_n (pc1 := 28) at_363_27 l0 i0 rfl ?_
    refine aw_bipush (v := 48) (pc1 := 30) at_363_28 (by decide) rfl ?_
    refine aw_iload_n (pc1 := 31) at_363_30 l2 rfl ?_
    refine aw_bipush (v := 10) (pc1 := 33) at_363_31 (by decide) rfl ?_
    refine aw_idiv (v := (x2 / 10)) (pc1 := 34) at_363_33 (by decide) rfl rfl ?_
    refine aw_iadd (v := (48 + (x2 / 10))) (pc1 := 35) at_363_34 rfl rfl ?_
    obtain ⟨z2, hs1⟩ := am_ift hs
    clear hs
    refine aw_call (F := fm_362 x0 ((48 + (x2 / 10))) h) (t := true) (na := 2) (kd := 1) (as := [x0, (.int (48 + (x2 / 10)))]) at_363_35 (am_k3v kb_362) mn_362 mk_362 rfl rfl (am_ok_v mi_362 (am_hl rfl (am_ccR i0 (am_ccI am_cats_0)) rfl) z2) (am_hc am_cats_0 rfl) (fun _ => ⟨rfl, hh_363⟩) (fun o1 hz9 => rm_362 x0 ((48 + (x2 / 10))) h o1 i0 hz9) ?_
    rcases am_cV_s hs1 with ⟨h4, f5, hs2⟩ | hs2
    · clear hs1
      refine Or.inl ⟨_, _, f5, ?_⟩
      show am_W X _ 363 38 _ [] h4 _
      exact rg_363_38 x0 x2 h4 o l0 l2 i0 hs2
    · clear hs1
      exact Or.inr hs2
def fg_363_10 (x0 : Value) (x1 : Int32) (s0 : Int32) (h : am_H) : Option am_O := (if 0 ≤ x1 then (fg_363_21 x0 s0 h) else (if am_pOk 12 x0 h then am_cV true (fm_362 x0 45 h) (fun h4 => (fg_363_21 x0 s0 h4)) else none))
theorem rg_363_10 {X : am_X} {d : Nat} {lv : am_LV} (x0 : Value) (x1 : Int32) (s0 : Int32) (h : am_H) (o : am_O) (l0 : lv.lookup 0 = some x0) (l1 : lv.lookup 1 = some (.int x1)) (i0 : am_isR x0 = true) (hs : fg_363_10 x0 x1 s0 h = some o) : am_W X (d + 1) 363 10 lv [(.int s0)] h (fun q => q = o) := by
  unfold fg_363_10 at hs
  refine aw_istore_n (lv1 := am_put1 _ 2 _) (pc1 := 11) at_363_10 rfl rfl ?_
  refine aw_iload_n (pc1 := 12) at_363_11 (am_lk1 l1 rfl rfl) rfl ?_
  by_cases c1 : 0 ≤ x1
  · rw [if_pos c1] at hs
    refine aw_ifge_t at_363_12 c1 ?_
    exact rg_363_21 x0 s0 h o (am_lk1 l0 rfl rfl) am_lk0 i0 hs
  · rw [if_neg c1] at hs
    refine aw_ifge_f (pc1 := 15) at_363_12 c1 rfl ?_
    refine aw_vload_n (pc1 := 16) at_363_15 (am_lk1 l0 rfl rfl) i0 rfl ?_
    refine aw_bipush (v := 45) (pc1 := 18) at_363_16 (by decide) rfl ?_
    obtain ⟨z2, hs1⟩ := am_ift hs
    clear hs
    refine aw_call (F := fm_362 x0 45 h) (t := true) (na := 2) (kd := 1) (as := [x0, (.int 45)]) at_363_18 (am_k3v kb_362) mn_362 mk_362 rfl rfl (am_ok_v mi_362 (am_hl rfl (am_ccR i0 (am_ccI am_cats_0)) rfl) z2) (am_hc am_cats_0 rfl) (fun _ => ⟨rfl, hh_363⟩) (fun o1 hz9 => rm_362 x0 45 h o1 i0 hz9) ?_
    rcases am_cV_s hs1 with ⟨h4, f5, hs2⟩ | hs2
    · clear hs1
      refine Or.inl ⟨_, _, f5, ?_⟩
      show am_W X _ 363 21 _ [] h4 _
      exact rg_363_21 x0 s0 h4 o (am_lk1 l0 rfl rfl) am_lk0 i0 hs2
    · clear hs1
      exact Or.inr hs2
def fg_363_0 (x0 : Value) (x1 : Int32) (h : am_H) : Option am_O := (if 0 ≤ x1 then (fg_363_10 x0 x1 x1 h) else (fg_363_10 x0 x1 ((-x1)) h))
theorem rg_363_0 {X : am_X} {d : Nat} {lv : am_LV} (x0 : Value) (x1 : Int32) (h : am_H) (o : am_O) (l0 : lv.lookup 0 = some x0) (l1 : lv.lookup 1 = some (.int x1)) (i0 : am_isR x0 = true) (hs : fg_363_0 x0 x1 h = some o) : am_W X (d + 1) 363 0 lv [] h (fun q => q = o) := by
  unfold fg_363_0 at hs
  refine aw_iload_n (pc1 := 1) at_363_0 l1 rfl ?_
  by_cases c1 : 0 ≤ x1
  · rw [if_pos c1] at hs
    refine aw_ifge_t at_363_1 c1 ?_
    refine aw_iload_n (pc1 := 10) at_363_9 l1 rfl ?_
    exact rg_363_10 x0 x1 x1 h o l0 l1 i0 hs
  · rw [if_neg c1] at hs
    refine aw_ifge_f (pc1 := 4) at_363_1 c1 rfl ?_
    refine aw_iload_n (pc1 := 5) at_363_4 l1 rfl ?_
    refine aw_ineg (v := (-x1)) (pc1 := 6) at_363_5 rfl rfl ?_
    refine aw_goto at_363_6 ?_
    exact rg_363_10 x0 x1 ((-x1)) h o l0 l1 i0 hs
def fm_363 (y0 : Value) (y1 : Int32) (h : am_H) : Option am_O := fg_363_0 y0 y1 h
theorem rm_363 {X : am_X} {d : Nat} (y0 : Value) (y1 : Int32) (h : am_H) (o : am_O) (i0 : am_isR y0 = true) (hs : fm_363 y0 y1 h = some o) : am_W X (d + 1) 363 0 (am_args 0 [y0, .int y1]) [] h (fun q => q = o) := by
  rw [am_args_R i0, am_args_I]
  exact rg_363_0 y0 y1 h o rfl rfl i0 hs
def fg_364_0 (x0 : Int32) (h : am_H) : Option am_O := (if x0 = 1 then some (.inl (some (.int 120), h)) else (if x0 = 2 then some (.inl (some (.int 121), h)) else (if x0 = 3 then some (.inl (some (.int 122), h)) else (if x0 = 4 then some (.inl (some (.int 110), h)) else (if x0 = 5 then some (.inl (some (.int 115), h)) else (if x0 = 6 then some (.inl (some (.int 101), h)) else (if x0 = 7 then some (.inl (some (.int 126), h)) else (if x0 = 8 then some (.inl (some (.int 35), h)) else (if x0 = 9 then some (.inl (some (.int 33), h)) else (if x0 = 10 then some (.inl (some (.int 43), h)) else (if x0 = 11 then some (.inl (some (.int 45), h)) else (if x0 = 12 then some (.inl (some (.int 42), h)) else (if x0 = 13 then some (.inl (some (.int 47), h)) else (if x0 = 14 then some (.inl (some (.int 37), h)) else (if x0 = 15 then some (.inl (some (.int 60), h)) else (if x0 = 16 then some (.inl (some (.int 61), h)) else (if x0 = 17 then some (.inl (some (.int 38), h)) else (if x0 = 18 then some (.inl (some (.int 124), h)) else (if x0 = 19 then some (.inl (some (.int 64), h)) else some (.inl (some (.int 63), h)))))))))))))))))))))
theorem rg_364_0 {X : am_X} {d : Nat} {lv : am_LV} (x0 : Int32) (h : am_H) (o : am_O) (l0 : lv.lookup 0 = some (.int x0)) (hs : fg_364_0 x0 h = some o) : am_W X (d) 364 0 lv [] h (fun q => q = o) := by
  unfold fg_364_0 at hs
  refine aw_iload_n (pc1 := 1) at_364_0 l0 rfl ?_
  by_cases c1 : x0 = 1
  · rw [if_pos c1] at hs
    refine aw_tsw (t := 92) at_364_1 (by rw [c1]; rfl) ?_
    refine aw_bipush (v := 120) (pc1 := 94) at_364_92 (by decide) rfl ?_
    cases hs
    exact aw_iret at_364_94 (by rw [rt_364]; rfl) rfl
  · rw [if_neg c1] at hs
    by_cases c2 : x0 = 2
    · rw [if_pos c2] at hs
      refine aw_tsw (t := 95) at_364_1 (by rw [c2]; rfl) ?_
      refine aw_bipush (v := 121) (pc1 := 97) at_364_95 (by decide) rfl ?_
      cases hs
      exact aw_iret at_364_97 (by rw [rt_364]; rfl) rfl
    · rw [if_neg c2] at hs
      by_cases c3 : x0 = 3
      · rw [if_pos c3] at hs
        refine aw_tsw (t := 98) at_364_1 (by rw [c3]; rfl) ?_
        refine aw_bipush (v := 122) (pc1 := 100) at_364_98 (by decide) rfl ?_
        cases hs
        exact aw_iret at_364_100 (by rw [rt_364]; rfl) rfl
      · rw [if_neg c3] at hs
        by_cases c4 : x0 = 4
        · rw [if_pos c4] at hs
          refine aw_tsw (t := 101) at_364_1 (by rw [c4]; rfl) ?_
          refine aw_bipush (v := 110) (pc1 := 103) at_364_101 (by decide) rfl ?_
          cases hs
          exact aw_iret at_364_103 (by rw [rt_364]; rfl) rfl
        · rw [if_neg c4] at hs
          by_cases c5 : x0 = 5
          · rw [if_pos c5] at hs
            refine aw_tsw (t := 104) at_364_1 (by rw [c5]; rfl) ?_
            refine aw_bipush (v := 115) (pc1 := 106) at_364_104 (by decide) rfl ?_
            cases hs
            exact aw_iret at_364_106 (by rw [rt_364]; rfl) rfl
          · rw [if_neg c5] at hs
            by_cases c6 : x0 = 6
            · rw [if_pos c6] at hs
              refine aw_tsw (t := 107) at_364_1 (by rw [c6]; rfl) ?_
              refine aw_bipush (v := 101) (pc1 := 109) at_364_107 (by decide) rfl ?_
              cases hs
              exact aw_iret at_364_109 (by rw [rt_364]; rfl) rfl
            · rw [if_neg c6] at hs
              by_cases c7 : x0 = 7
              · rw [if_pos c7] at hs
                refine aw_tsw (t := 110) at_364_1 (by rw [c7]; rfl) ?_
                refine aw_bipush (v := 126) (pc1 := 112) at_364_110 (by decide) rfl ?_
                cases hs
                exact aw_iret at_364_112 (by rw [rt_364]; rfl) rfl
              · rw [if_neg c7] at hs
                by_cases c8 : x0 = 8
                · rw [if_pos c8] at hs
                  refine aw_tsw (t := 113) at_364_1 (by rw [c8]; rfl) ?_
                  refine aw_bipush (v := 35) (pc1 := 115) at_364_113 (by decide) rfl ?_
                  cases hs
                  exact aw_iret at_364_115 (by rw [rt_364]; rfl) rfl
                · rw [if_neg c8] at hs
                  by_cases c9 : x0 = 9
                  · rw [if_pos c9] at hs
                    refine aw_tsw (t := 116) at_364_1 (by rw [c9]; rfl) ?_
                    refine aw_bipush (v := 33) (pc1 := 118) at_364_116 (by decide) rfl ?_
                    cases hs
                    exact aw_iret at_364_118 (by rw [rt_364]; rfl) rfl
                  · rw [if_neg c9] at hs
                    by_cases c10 : x0 = 10
                    · rw [if_pos c10] at hs
                      refine aw_tsw (t := 119) at_364_1 (by rw [c10]; rfl) ?_
                      refine aw_bipush (v := 43) (pc1 := 121) at_364_119 (by decide) rfl ?_
                      cases hs
                      exact aw_iret at_364_121 (by rw [rt_364]; rfl) rfl
                    · rw [if_neg c10] at hs
                      by_cases c11 : x0 = 11
                      · rw [if_pos c11] at hs
                        refine aw_tsw (t := 122) at_364_1 (by rw [c11]; rfl) ?_
                        refine aw_bipush (v := 45) (pc1 := 124) at_364_122 (by decide) rfl ?_
                        cases hs
                        exact aw_iret at_364_124 (by rw [rt_364]; rfl) rfl
                      · rw [if_neg c11] at hs
                        by_cases c12 : x0 = 12
                        · rw [if_pos c12] at hs
                          refine aw_tsw (t := 125) at_364_1 (by rw [c12]; rfl) ?_
                          refine aw_bipush (v := 42) (pc1 := 127) at_364_125 (by decide) rfl ?_
                          cases hs
                          exact aw_iret at_364_127 (by rw [rt_364]; rfl) rfl
                        · rw [if_neg c12] at hs
                          by_cases c13 : x0 = 13
                          · rw [if_pos c13] at hs
                            refine aw_tsw (t := 128) at_364_1 (by rw [c13]; rfl) ?_
                            refine aw_bipush (v := 47) (pc1 := 130) at_364_128 (by decide) rfl ?_
                            cases hs
                            exact aw_iret at_364_130 (by rw [rt_364]; rfl) rfl
                          · rw [if_neg c13] at hs
                            by_cases c14 : x0 = 14
                            · rw [if_pos c14] at hs
                              refine aw_tsw (t := 131) at_364_1 (by rw [c14]; rfl) ?_
                              refine aw_bipush (v := 37) (pc1 := 133) at_364_131 (by decide) rfl ?_
                              cases hs
                              exact aw_iret at_364_133 (by rw [rt_364]; rfl) rfl
                            · rw [if_neg c14] at hs
                              by_cases c15 : x0 = 15
                              · rw [if_pos c15] at hs
                                refine aw_tsw (t := 134) at_364_1 (by rw [c15]; rfl) ?_
                                refine aw_bipush (v := 60) (pc1 := 136) at_364_134 (by decide) rfl ?_
                                cases hs
                                exact aw_iret at_364_136 (by rw [rt_364]; rfl) rfl
                              · rw [if_neg c15] at hs
                                by_cases c16 : x0 = 16
                                · rw [if_pos c16] at hs
                                  refine aw_tsw (t := 137) at_364_1 (by rw [c16]; rfl) ?_
                                  refine aw_bipush (v := 61) (pc1 := 139) at_364_137 (by decide) rfl ?_
                                  cases hs
                                  exact aw_iret at_364_139 (by rw [rt_364]; rfl) rfl
                                · rw [if_neg c16] at hs
                                  by_cases c17 : x0 = 17
                                  · rw [if_pos c17] at hs
                                    refine aw_tsw (t := 140) at_364_1 (by rw [c17]; rfl) ?_
                                    refine aw_bipush (v := 38) (pc1 := 142) at_364_140 (by decide) rfl ?_
                                    cases hs
                                    exact aw_iret at_364_142 (by rw [rt_364]; rfl) rfl
                                  · rw [if_neg c17] at hs
                                    by_cases c18 : x0 = 18
                                    · rw [if_pos c18] at hs
                                      refine aw_tsw (t := 143) at_364_1 (by rw [c18]; rfl) ?_
                                      refine aw_bipush (v := 124) (pc1 := 145) at_364_143 (by decide) rfl ?_
                                      cases hs
                                      exact aw_iret at_364_145 (by rw [rt_364]; rfl) rfl
                                    · rw [if_neg c18] at hs
                                      by_cases c19 : x0 = 19
                                      · rw [if_pos c19] at hs
                                        refine aw_tsw (t := 146) at_364_1 (by rw [c19]; rfl) ?_
                                        refine aw_bipush (v := 64) (pc1 := 148) at_364_146 (by decide) rfl ?_
                                        cases hs
                                        exact aw_iret at_364_148 (by rw [rt_364]; rfl) rfl
                                      · rw [if_neg c19] at hs
                                        have tc1 : x0.toInt ≠ 1 := fun e9 => c1 (Int32.toInt_inj.mp e9)
                                        have tc2 : x0.toInt ≠ 2 := fun e9 => c2 (Int32.toInt_inj.mp e9)
                                        have tc3 : x0.toInt ≠ 3 := fun e9 => c3 (Int32.toInt_inj.mp e9)
                                        have tc4 : x0.toInt ≠ 4 := fun e9 => c4 (Int32.toInt_inj.mp e9)
                                        have tc5 : x0.toInt ≠ 5 := fun e9 => c5 (Int32.toInt_inj.mp e9)
                                        have tc6 : x0.toInt ≠ 6 := fun e9 => c6 (Int32.toInt_inj.mp e9)
                                        have tc7 : x0.toInt ≠ 7 := fun e9 => c7 (Int32.toInt_inj.mp e9)
                                        have tc8 : x0.toInt ≠ 8 := fun e9 => c8 (Int32.toInt_inj.mp e9)
                                        have tc9 : x0.toInt ≠ 9 := fun e9 => c9 (Int32.toInt_inj.mp e9)
                                        have tc10 : x0.toInt ≠ 10 := fun e9 => c10 (Int32.toInt_inj.mp e9)
                                        have tc11 : x0.toInt ≠ 11 := fun e9 => c11 (Int32.toInt_inj.mp e9)
                                        have tc12 : x0.toInt ≠ 12 := fun e9 => c12 (Int32.toInt_inj.mp e9)
                                        have tc13 : x0.toInt ≠ 13 := fun e9 => c13 (Int32.toInt_inj.mp e9)
                                        have tc14 : x0.toInt ≠ 14 := fun e9 => c14 (Int32.toInt_inj.mp e9)
                                        have tc15 : x0.toInt ≠ 15 := fun e9 => c15 (Int32.toInt_inj.mp e9)
                                        have tc16 : x0.toInt ≠ 16 := fun e9 => c16 (Int32.toInt_inj.mp e9)
                                        have tc17 : x0.toInt ≠ 17 := fun e9 => c17 (Int32.toInt_inj.mp e9)
                                        have tc18 : x0.toInt ≠ 18 := fun e9 => c18 (Int32.toInt_inj.mp e9)
                                        have tc19 : x0.toInt ≠ 19 := fun e9 => c19 (Int32.toInt_inj.mp e9)
                                        refine aw_tsw (t := 149) at_364_1 (am_tsw_d (by omega)) ?_
                                        refine aw_bipush (v := 63) (pc1 := 151) at_364_149 (by decide) rfl ?_
                                        cases hs
                                        exact aw_iret at_364_151 (by rw [rt_364]; rfl) rfl
def fm_364 (y0 : Int32) (h : am_H) : Option am_O := fg_364_0 y0 h
theorem rm_364 {X : am_X} {d : Nat} (y0 : Int32) (h : am_H) (o : am_O) (hs : fm_364 y0 h = some o) : am_W X (d) 364 0 (am_args 0 [.int y0]) [] h (fun q => q = o) := by
  rw [am_args_I]
  exact rg_364_0 y0 h o rfl  hs
def fg_365_85 (N : Nat) (h : am_H) : Option am_O := some (.inl (none, h))
theorem rg_365_85 {X : am_X} {d : Nat} {N : Nat} {lv : am_LV} (h : am_H) (o : am_O) (hs : fg_365_85 N h = some o) : am_W X (d + 1) 365 85 lv [] h (fun q => q = o) := by
  unfold fg_365_85 at hs
  cases hs
  exact aw_vret at_365_85 rt_365 rfl
def fg_365_61 (N : Nat) (rec_2 : Value → Int32 → am_H → Option am_O) (x0 : Value) (s0 : Int32) (h : am_H) : Option am_O := (if s0 = 0 then (rec_2 x0 s0 h) else (if am_pOk 12 x0 h then am_cV true (fm_362 x0 41 h) (fun h4 => ((am_vI (am_pG 3145 x0 h4)).bind fun v6 => ((am_pP 3145 x0 (.int (v6 - 1)) h4).bind fun h8 => (rec_2 x0 s0 h8)))) else none))
theorem rg_365_61 {X : am_X} {d : Nat} {N : Nat} {rec_2 : Value → Int32 → am_H → Option am_O} (q_2 : ∀ (x0 : Value) (x1 : Int32) (h : am_H) (o : am_O), rec_2 x0 x1 h = some o → ∀ lv : am_LV, (lv.lookup 0 = some x0) → (lv.lookup 1 = some (.int x1)) → (am_isR x0 = true) → am_W X (d + 1) 365 2 lv [] h (fun q => q = o)) {lv : am_LV} (x0 : Value) (s0 : Int32) (h : am_H) (o : am_O) (l0 : lv.lookup 0 = some x0) (i0 : am_isR x0 = true) (hs : fg_365_61 N rec_2 x0 s0 h = some o) : am_W X (d + 1) 365 61 lv [(.int s0)] h (fun q => q = o) := by
  unfold fg_365_61 at hs
  refine aw_istore_n (lv1 := am_put1 _ 1 _) (pc1 := 62) at_365_61 rfl rfl ?_
  refine aw_iload_n (pc1 := 63) at_365_62 am_lk0 rfl ?_
  by_cases c1 : s0 = 0
  · rw [if_pos c1] at hs
    refine aw_ifeq_t at_365_63 c1 ?_
    exact q_2 x0 s0 h o hs _ (am_lk1 l0 rfl (by rw [am_isRc i0]; rfl)) am_lk0 i0
  · rw [if_neg c1] at hs
    refine aw_ifeq_f (pc1 := 66) at_365_63 c1 rfl ?_
    refine aw_vload_n (pc1 := 67) at_365_66 (am_lk1 l0 rfl (by rw [am_isRc i0]; rfl)) i0 rfl ?_
    refine aw_bipush (v := 41) (pc1 := 69) at_365_67 (by decide) rfl ?_
    obtain ⟨z2, hs1⟩ := am_ift hs
    clear hs
    refine aw_call (F := fm_362 x0 41 h) (t := true) (na := 2) (kd := 1) (as := [x0, (.int 41)]) at_365_69 (am_k3v kb_362) mn_362 mk_362 rfl rfl (am_ok_v mi_362 (am_hl rfl (am_ccR i0 (am_ccI am_cats_0)) rfl) z2) (am_hc am_cats_0 rfl) (fun _ => ⟨rfl, hh_365⟩) (fun o1 hz9 => rm_362 x0 41 h o1 i0 hz9) ?_
    rcases am_cV_s hs1 with ⟨h4, f5, hs2⟩ | hs2
    · clear hs1
      refine Or.inl ⟨_, _, f5, ?_⟩
      show am_W X _ 365 72 _ [] h4 _
      refine aw_vload_n (pc1 := 73) at_365_72 (am_lk1 l0 rfl (by rw [am_isRc i0]; rfl)) i0 rfl ?_
      refine aw_vdup (pc1 := 74) at_365_73 i0 rfl ?_
      obtain ⟨v6, e7, hs3⟩ := am_bind hs2
      clear hs2
      refine aw_pG (pc1 := 77) at_365_74 (am_vI_s e7) rfl ?_
      refine aw_iconst (v := 1) (pc1 := 78) at_365_77 (by decide) rfl ?_
      refine aw_isub (v := (v6 - 1)) (pc1 := 79) at_365_78 rfl rfl ?_
      obtain ⟨h8, e9, hs4⟩ := am_bind hs3
      clear hs3
      refine aw_pP (pc1 := 82) at_365_79 e9 rfl ?_
      refine aw_goto at_365_82 ?_
      exact q_2 x0 s0 h8 o hs4 _ (am_lk1 l0 rfl (by rw [am_isRc i0]; rfl)) am_lk0 i0
    · clear hs1
      exact Or.inr hs2
def fg_365_2 (N : Nat) : Nat → Value → Int32 → am_H → Option am_O
  | 0 => fun _ _ _ => none
  | K + 1 => fun x0 x1 h => (if x1 = 0 then (fg_365_85 N h) else ((am_vI (am_pG 3145 x0 h)).bind fun v2 => (if v2 ≤ 0 then (fg_365_85 N h) else ((am_vR (am_pG 3147 x0 h)).bind fun v5 => ((am_vI (am_pG 3145 x0 h)).bind fun v7 => ((am_pA 0 v5 (v7 - 1) h).bind fun v9 => ((am_pS 0 v5 (v7 - 1) (v9 + 1) h).bind fun h11 => ((am_vR (am_pG 3147 x0 h11)).bind fun v13 => ((am_vI (am_pG 3145 x0 h11)).bind fun v15 => ((am_pA 0 v13 (v15 - 1) h11).bind fun v17 => ((am_vR (am_pG 3146 x0 h11)).bind fun v19 => ((am_vI (am_pG 3145 x0 h11)).bind fun v21 => ((am_pA 0 v19 (v21 - 1) h11).bind fun v23 => am_cI false (fm_343 v23 h11) (fun v25 h26 => (if ¬ v17 = v25 then (fg_365_61 N (fg_365_2 N K) x0 0 h26) else (fg_365_61 N (fg_365_2 N K) x0 1 h26))))))))))))))))
theorem rg_365_2 {X : am_X} {d : Nat} {N : Nat} : ∀ (K : Nat) (x0 : Value) (x1 : Int32) (h : am_H) (o : am_O), fg_365_2 N K x0 x1 h = some o → ∀ lv : am_LV, (lv.lookup 0 = some x0) → (lv.lookup 1 = some (.int x1)) → (am_isR x0 = true) → am_W X (d + 1) 365 2 lv [] h (fun q => q = o) := by
  intro K
  induction K with
  | zero => intro x0 x1 h o hs; cases hs
  | succ K ih =>
    intro x0 x1 h o hs lv l0 l1 i0
    unfold fg_365_2 at hs
    refine aw_iload_n (pc1 := 3) at_365_2 l1 rfl ?_
    by_cases c1 : x1 = 0
    · rw [if_pos c1] at hs
      refine aw_ifeq_t at_365_3 c1 ?_
      exact rg_365_85 h o   hs
    · rw [if_neg c1] at hs
      refine aw_ifeq_f (pc1 := 6) at_365_3 c1 rfl ?_
      refine aw_vload_n (pc1 := 7) at_365_6 l0 i0 rfl ?_
      obtain ⟨v2, e3, hs1⟩ := am_bind hs
      clear hs
      refine aw_pG (pc1 := 10) at_365_7 (am_vI_s e3) rfl ?_
      by_cases c4 : v2 ≤ 0
      · rw [if_pos c4] at hs1
        refine aw_ifle_t at_365_10 c4 ?_
        exact rg_365_85 h o   hs1
      · rw [if_neg c4] at hs1
        refine aw_ifle_f (pc1 := 13) at_365_10 c4 rfl ?_
        refine aw_vload_n (pc1 := 14) at_365_13 l0 i0 rfl ?_
        obtain ⟨v5, e6, hs2⟩ := am_bind hs1
        clear hs1
        refine aw_pG (pc1 := 17) at_365_14 (am_vR_s e6).1 rfl ?_
        refine aw_vload_n (pc1 := 18) at_365_17 l0 i0 rfl ?_
        obtain ⟨v7, e8, hs3⟩ := am_bind hs2
        clear hs2
        refine aw_pG (pc1 := 21) at_365_18 (am_vI_s e8) rfl ?_
        refine aw_iconst (v := 1) (pc1 := 22) at_365_21 (by decide) rfl ?_
        refine aw_isub (v := (v7 - 1)) (pc1 := 23) at_365_22 rfl rfl ?_
        refine aw_vdup2 (pc1 := 24) at_365_23 (am_vR_s e6).2 rfl ?_
        obtain ⟨v9, e10, hs4⟩ := am_bind hs3
        clear hs3
        refine aw_pA (pc1 := 25) at_365_24 (Or.inl ⟨rfl, rfl⟩) e10 rfl ?_
        refine aw_iconst (v := 1) (pc1 := 26) at_365_25 (by decide) rfl ?_
        refine aw_iadd (v := (v9 + 1)) (pc1 := 27) at_365_26 rfl rfl ?_
        obtain ⟨h11, e12, hs5⟩ := am_bind hs4
        clear hs4
        refine aw_pS (pc1 := 28) at_365_27 (Or.inl ⟨rfl, rfl⟩) e12 rfl ?_
        refine aw_vload_n (pc1 := 29) at_365_28 l0 i0 rfl ?_
        obtain ⟨v13, e14, hs6⟩ := am_bind hs5
        clear hs5
        refine aw_pG (pc1 := 32) at_365_29 (am_vR_s e14).1 rfl ?_
        refine aw_vload_n (pc1 := 33) at_365_32 l0 i0 rfl ?_
        obtain ⟨v15, e16, hs7⟩ := am_bind hs6
        clear hs6
        refine aw_pG (pc1 := 36) at_365_33 (am_vI_s e16) rfl ?_
        refine aw_iconst (v := 1) (pc1 := 37) at_365_36 (by decide) rfl ?_
        refine aw_isub (v := (v15 - 1)) (pc1 := 38) at_365_37 rfl rfl ?_
        obtain ⟨v17, e18, hs8⟩ := am_bind hs7
        clear hs7
        refine aw_pA (pc1 := 39) at_365_38 (Or.inl ⟨rfl, rfl⟩) e18 rfl ?_
        refine aw_vload_n (pc1 := 40) at_365_39 l0 i0 rfl ?_
        obtain ⟨v19, e20, hs9⟩ := am_bind hs8
        clear hs8
        refine aw_pG (pc1 := 43) at_365_40 (am_vR_s e20).1 rfl ?_
        refine aw_vload_n (pc1 := 44) at_365_43 l0 i0 rfl ?_
        obtain ⟨v21, e22, hs10⟩ := am_bind hs9
        clear hs9
        refine aw_pG (pc1 := 47) at_365_44 (am_vI_s e22) rfl ?_
        refine aw_iconst (v := 1) (pc1 := 48) at_365_47 (by decide) rfl ?_
        refine aw_isub (v := (v21 - 1)) (pc1 := 49) at_365_48 rfl rfl ?_
        obtain ⟨v23, e24, hs11⟩ := am_bind hs10
        clear hs10
        refine aw_pA (pc1 := 50) at_365_49 (Or.inl ⟨rfl, rfl⟩) e24 rfl ?_
        refine aw_call (F := fm_343 v23 h11) (t := false) (na := 1) (kd := 0) (as := [(.int v23)]) at_365_50 (am_k3s kb_343) mn_343 mk_343 rfl rfl (am_ok_s mi_343 (am_hl rfl (am_ccI am_cats_0) rfl)) (am_hc (am_ccI am_cats_0) rfl) (fun hz9 => by cases hz9) (fun o1 hz9 => rm_343 v23 h11 o1  hz9) ?_
        rcases am_cI_s hs11 with ⟨v25, h26, f27, hs12⟩ | hs12
        · clear hs11
          refine Or.inl ⟨_, _, f27, ?_⟩
          show am_W X _ 365 53 _ [(.int v25), (.int v17)] h26 _
          by_cases c28 : ¬ v17 = v25
          · rw [if_pos c28] at hs12
            refine aw_icne_t at_365_53 c28 ?_
            refine aw_iconst (v := 0) (pc1 := 61) at_365_60 (by decide) rfl ?_
            exact rg_365_61 (fun z0 z1 h o hs12 => ih z0 z1 h o hs12) x0 0 h26 o l0 i0 hs12
          · rw [if_neg c28] at hs12
            refine aw_icne_f (pc1 := 56) at_365_53 c28 rfl ?_
            refine aw_iconst (v := 1) (pc1 := 57) at_365_56 (by decide) rfl ?_
            refine aw_goto at_365_57 ?_
            exact rg_365_61 (fun z0 z1 h o hs12 => ih z0 z1 h o hs12) x0 1 h26 o l0 i0 hs12
        · clear hs11
          exact Or.inr hs12
def fg_365_0 (N : Nat) (x0 : Value) (h : am_H) : Option am_O := (fg_365_2 N N x0 1 h)
theorem rg_365_0 {X : am_X} {d : Nat} {N : Nat} {lv : am_LV} (x0 : Value) (h : am_H) (o : am_O) (l0 : lv.lookup 0 = some x0) (i0 : am_isR x0 = true) (hs : fg_365_0 N x0 h = some o) : am_W X (d + 1) 365 0 lv [] h (fun q => q = o) := by
  unfold fg_365_0 at hs
  refine aw_iconst (v := 1) (pc1 := 1) at_365_0 (by decide) rfl ?_
  refine aw_istore_n (lv1 := am_put1 _ 1 _) (pc1 := 2) at_365_1 rfl rfl ?_
  exact rg_365_2 N x0 1 h o hs _ (am_lk1 l0 rfl (by rw [am_isRc i0]; rfl)) am_lk0 i0
def fm_365 (N : Nat) (y0 : Value) (h : am_H) : Option am_O := fg_365_0 N y0 h
theorem rm_365 {X : am_X} {d : Nat} {N : Nat} (y0 : Value) (h : am_H) (o : am_O) (i0 : am_isR y0 = true) (hs : fm_365 N y0 h = some o) : am_W X (d + 1) 365 0 (am_args 0 [y0]) [] h (fun q => q = o) := by
  rw [am_args_R i0]
  exact rg_365_0 y0 h o rfl i0 hs
def fg_361_113 (N : Nat) (rec_7 : Value → Int32 → am_H → Option am_O) (x0 : Value) (x1 : Int32) (h : am_H) : Option am_O := (rec_7 x0 ((x1 + 1)) h)
theorem rg_361_113 {X : am_X} {d : Nat} {N : Nat} {rec_7 : Value → Int32 → am_H → Option am_O} (q_7 : ∀ (x0 : Value) (x1 : Int32) (h : am_H) (o : am_O), rec_7 x0 x1 h = some o → ∀ lv : am_LV, (lv.lookup 0 = some x0) → (lv.lookup 1 = some (.int x1)) → (am_isR x0 = true) → am_W X (d + 2) 361 7 lv [] h (fun q => q = o)) {lv : am_LV} (x0 : Value) (x1 : Int32) (h : am_H) (o : am_O) (l0 : lv.lookup 0 = some x0) (l1 : lv.lookup 1 = some (.int x1)) (i0 : am_isR x0 = true) (hs : fg_361_113 N rec_7 x0 x1 h = some o) : am_W X (d + 2) 361 113 lv [] h (fun q => q = o) := by
  unfold fg_361_113 at hs
  refine aw_iinc (v := (x1 + 1)) (c := 1) (lv1 := am_put1 _ 1 _) (pc1 := 116) at_361_113 l1 (by decide) rfl rfl rfl ?_
  refine aw_goto at_361_116 ?_
  exact q_7 x0 ((x1 + 1)) h o hs _ (am_lk1 l0 rfl (by rw [am_isRc i0]; rfl)) am_lk0 i0
def fg_361_70 (N : Nat) (rec_7 : Value → Int32 → am_H → Option am_O) (x0 : Value) (x1 : Int32) (x2 : Int32) (h : am_H) : Option am_O := (if x2 ≤ 6 then (if am_pOk 12 x0 h then am_cV true (fm_365 N x0 h) (fun h4 => (fg_361_113 N rec_7 x0 x1 h4)) else none) else ((am_vR (am_pG 3146 x0 h)).bind fun v6 => ((am_vI (am_pG 3145 x0 h)).bind fun v8 => ((am_pS 0 v6 v8 x2 h).bind fun h10 => ((am_vR (am_pG 3147 x0 h10)).bind fun v12 => ((am_vI (am_pG 3145 x0 h10)).bind fun v14 => ((am_pS 0 v12 v14 0 h10).bind fun h16 => ((am_vI (am_pG 3145 x0 h16)).bind fun v18 => ((am_pP 3145 x0 (.int (v18 + 1)) h16).bind fun h20 => (fg_361_113 N rec_7 x0 x1 h20))))))))))
theorem rg_361_70 {X : am_X} {d : Nat} {N : Nat} {rec_7 : Value → Int32 → am_H → Option am_O} (q_7 : ∀ (x0 : Value) (x1 : Int32) (h : am_H) (o : am_O), rec_7 x0 x1 h = some o → ∀ lv : am_LV, (lv.lookup 0 = some x0) → (lv.lookup 1 = some (.int x1)) → (am_isR x0 = true) → am_W X (d + 2) 361 7 lv [] h (fun q => q = o)) {lv : am_LV} (x0 : Value) (x1 : Int32) (x2 : Int32) (h : am_H) (o : am_O) (l0 : lv.lookup 0 = some x0) (l1 : lv.lookup 1 = some (.int x1)) (l2 : lv.lookup 2 = some (.int x2)) (i0 : am_isR x0 = true) (hs : fg_361_70 N rec_7 x0 x1 x2 h = some o) : am_W X (d + 2) 361 70 lv [] h (fun q => q = o) := by
  unfold fg_361_70 at hs
  refine aw_iload_n (pc1 := 71) at_361_70 l2 rfl ?_
  refine aw_bipush (v := 6) (pc1 := 73) at_361_71 (by decide) rfl ?_
  by_cases c1 : x2 ≤ 6
  · rw [if_pos c1] at hs
    refine aw_icle_t at_361_73 c1 ?_
    refine aw_vload_n (pc1 := 110) at_361_109 l0 i0 rfl ?_
    obtain ⟨z2, hs1⟩ := am_ift hs
    clear hs
    refine aw_call (F := fm_365 N x0 h) (t := true) (na := 1) (kd := 1) (as := [x0]) at_361_110 (am_k3v kb_365) mn_365 mk_365 rfl rfl (am_ok_v mi_365 (am_hl rfl (am_ccR i0 am_cats_0) rfl) z2) (am_hc am_cats_0 rfl) (fun _ => ⟨rfl, hh_361⟩) (fun o1 hz9 => rm_365 x0 h o1 i0 hz9) ?_
    rcases am_cV_s hs1 with ⟨h4, f5, hs2⟩ | hs2
    · clear hs1
      refine Or.inl ⟨_, _, f5, ?_⟩
      show am_W X _ 361 113 _ [] h4 _
      exact rg_361_113 q_7 x0 x1 h4 o l0 l1 i0 hs2
    · clear hs1
      exact Or.inr hs2
  · rw [if_neg c1] at hs
    refine aw_icle_f (pc1 := 76) at_361_73 c1 rfl ?_
    refine aw_vload_n (pc1 := 77) at_361_76 l0 i0 rfl ?_
    obtain ⟨v6, e7, hs3⟩ := am_bind hs
    clear hs
    refine aw_pG (pc1 := 80) at_361_77 (am_vR_s e7).1 rfl ?_
    refine aw_vload_n (pc1 := 81) at_361_80 l0 i0 rfl ?_
    obtain ⟨v8, e9, hs4⟩ := am_bind hs3
    clear hs3
    refine aw_pG (pc1 := 84) at_361_81 (am_vI_s e9) rfl ?_
    refine aw_iload_n (pc1 := 85) at_361_84 l2 rfl ?_
    obtain ⟨h10, e11, hs5⟩ := am_bind hs4
    clear hs4
    refine aw_pS (pc1 := 86) at_361_85 (Or.inl ⟨rfl, rfl⟩) e11 rfl ?_
    refine aw_vload_n (pc1 := 87) at_361_86 l0 i0 rfl ?_
    obtain ⟨v12, e13, hs6⟩ := am_bind hs5
    clear hs5
    refine aw_pG (pc1 := 90) at_361_87 (am_vR_s e13).1 rfl ?_
    refine aw_vload_n (pc1 := 91) at_361_90 l0 i0 rfl ?_
    obtain ⟨v14, e15, hs7⟩ := am_bind hs6
    clear hs6
    refine aw_pG (pc1 := 94) at_361_91 (am_vI_s e15) rfl ?_
    refine aw_iconst (v := 0) (pc1 := 95) at_361_94 (by decide) rfl ?_
    obtain ⟨h16, e17, hs8⟩ := am_bind hs7
    clear hs7
    refine aw_pS (pc1 := 96) at_361_95 (Or.inl ⟨rfl, rfl⟩) e17 rfl ?_
    refine aw_vload_n (pc1 := 97) at_361_96 l0 i0 rfl ?_
    refine aw_vdup (pc1 := 98) at_361_97 i0 rfl ?_
    obtain ⟨v18, e19, hs9⟩ := am_bind hs8
    clear hs8
    refine aw_pG (pc1 := 101) at_361_98 (am_vI_s e19) rfl ?_
    refine aw_iconst (v := 1) (pc1 := 102) at_361_101 (by decide) rfl ?_
    refine aw_iadd (v := (v18 + 1)) (pc1 := 103) at_361_102 rfl rfl ?_
    obtain ⟨h20, e21, hs10⟩ := am_bind hs9
    clear hs9
    refine aw_pP (pc1 := 106) at_361_103 e21 rfl ?_
    refine aw_goto at_361_106 ?_
    exact rg_361_113 q_7 x0 x1 h20 o l0 l1 i0 hs10
def fg_361_58 (N : Nat) (rec_7 : Value → Int32 → am_H → Option am_O) (x0 : Value) (x1 : Int32) (x2 : Int32) (h : am_H) : Option am_O := (if x2 ≤ 0 then (fg_361_70 N rec_7 x0 x1 x2 h) else am_cI false (fm_364 x2 h) (fun v2 h3 => (if am_pOk 12 x0 h3 then am_cV true (fm_362 x0 v2 h3) (fun h7 => (fg_361_70 N rec_7 x0 x1 x2 h7)) else none)))
theorem rg_361_58 {X : am_X} {d : Nat} {N : Nat} {rec_7 : Value → Int32 → am_H → Option am_O} (q_7 : ∀ (x0 : Value) (x1 : Int32) (h : am_H) (o : am_O), rec_7 x0 x1 h = some o → ∀ lv : am_LV, (lv.lookup 0 = some x0) → (lv.lookup 1 = some (.int x1)) → (am_isR x0 = true) → am_W X (d + 2) 361 7 lv [] h (fun q => q = o)) {lv : am_LV} (x0 : Value) (x1 : Int32) (x2 : Int32) (h : am_H) (o : am_O) (l0 : lv.lookup 0 = some x0) (l1 : lv.lookup 1 = some (.int x1)) (l2 : lv.lookup 2 = some (.int x2)) (i0 : am_isR x0 = true) (hs : fg_361_58 N rec_7 x0 x1 x2 h = some o) : am_W X (d + 2) 361 58 lv [] h (fun q => q = o) := by
  unfold fg_361_58 at hs
  refine aw_iload_n (pc1 := 59) at_361_58 l2 rfl ?_
  by_cases c1 : x2 ≤ 0
  · rw [if_pos c1] at hs
    refine aw_ifle_t at_361_59 c1 ?_
    exact rg_361_70 q_7 x0 x1 x2 h o l0 l1 l2 i0 hs
  · rw [if_neg c1] at hs
    refine aw_ifle_f (pc1 := 62) at_361_59 c1 rfl ?_
    refine aw_vload_n (pc1 := 63) at_361_62 l0 i0 rfl ?_
    refine aw_iload_n (pc1 := 64) at_361_63 l2 rfl ?_
    refine aw_call (F := fm_364 x2 h) (t := false) (na := 1) (kd := 0) (as := [(.int x2)]) at_361_64 (am_k3s kb_364) mn_364 mk_364 rfl rfl (am_ok_s mi_364 (am_hl rfl (am_ccI am_cats_0) rfl)) (am_hc (am_ccR i0 am_cats_0) rfl) (fun hz9 => by cases hz9) (fun o1 hz9 => rm_364 x2 h o1  hz9) ?_
    rcases am_cI_s hs with ⟨v2, h3, f4, hs1⟩ | hs1
    · clear hs
      refine Or.inl ⟨_, _, f4, ?_⟩
      show am_W X _ 361 67 _ [(.int v2), x0] h3 _
      obtain ⟨z5, hs2⟩ := am_ift hs1
      clear hs1
      refine aw_call (F := fm_362 x0 v2 h3) (t := true) (na := 2) (kd := 1) (as := [x0, (.int v2)]) at_361_67 (am_k3v kb_362) mn_362 mk_362 rfl rfl (am_ok_v mi_362 (am_hl rfl (am_ccR i0 (am_ccI am_cats_0)) rfl) z5) (am_hc am_cats_0 rfl) (fun _ => ⟨rfl, hh_361⟩) (fun o1 hz9 => rm_362 x0 v2 h3 o1 i0 hz9) ?_
      rcases am_cV_s hs2 with ⟨h7, f8, hs3⟩ | hs3
      · clear hs2
        refine Or.inl ⟨_, _, f8, ?_⟩
        show am_W X _ 361 70 _ [] h7 _
        exact rg_361_70 q_7 x0 x1 x2 h7 o l0 l1 l2 i0 hs3
      · clear hs2
        exact Or.inr hs3
    · clear hs
      exact Or.inr hs1
def fg_361_46 (N : Nat) (rec_7 : Value → Int32 → am_H → Option am_O) (x0 : Value) (x1 : Int32) (x2 : Int32) (h : am_H) : Option am_O := (if x2 ≤ 6 then (fg_361_58 N rec_7 x0 x1 x2 h) else (if am_pOk 12 x0 h then am_cV true (fm_362 x0 40 h) (fun h4 => (fg_361_58 N rec_7 x0 x1 x2 h4)) else none))
theorem rg_361_46 {X : am_X} {d : Nat} {N : Nat} {rec_7 : Value → Int32 → am_H → Option am_O} (q_7 : ∀ (x0 : Value) (x1 : Int32) (h : am_H) (o : am_O), rec_7 x0 x1 h = some o → ∀ lv : am_LV, (lv.lookup 0 = some x0) → (lv.lookup 1 = some (.int x1)) → (am_isR x0 = true) → am_W X (d + 2) 361 7 lv [] h (fun q => q = o)) {lv : am_LV} (x0 : Value) (x1 : Int32) (x2 : Int32) (h : am_H) (o : am_O) (l0 : lv.lookup 0 = some x0) (l1 : lv.lookup 1 = some (.int x1)) (l2 : lv.lookup 2 = some (.int x2)) (i0 : am_isR x0 = true) (hs : fg_361_46 N rec_7 x0 x1 x2 h = some o) : am_W X (d + 2) 361 46 lv [] h (fun q => q = o) := by
  unfold fg_361_46 at hs
  refine aw_iload_n (pc1 := 47) at_361_46 l2 rfl ?_
  refine aw_bipush (v := 6) (pc1 := 49) at_361_47 (by decide) rfl ?_
  by_cases c1 : x2 ≤ 6
  · rw [if_pos c1] at hs
    refine aw_icle_t at_361_49 c1 ?_
    exact rg_361_58 q_7 x0 x1 x2 h o l0 l1 l2 i0 hs
  · rw [if_neg c1] at hs
    refine aw_icle_f (pc1 := 52) at_361_49 c1 rfl ?_
    refine aw_vload_n (pc1 := 53) at_361_52 l0 i0 rfl ?_
    refine aw_bipush (v := 40) (pc1 := 55) at_361_53 (by decide) rfl ?_
    obtain ⟨z2, hs1⟩ := am_ift hs
    clear hs
    refine aw_call (F := fm_362 x0 40 h) (t := true) (na := 2) (kd := 1) (as := [x0, (.int 40)]) at_361_55 (am_k3v kb_362) mn_362 mk_362 rfl rfl (am_ok_v mi_362 (am_hl rfl (am_ccR i0 (am_ccI am_cats_0)) rfl) z2) (am_hc am_cats_0 rfl) (fun _ => ⟨rfl, hh_361⟩) (fun o1 hz9 => rm_362 x0 40 h o1 i0 hz9) ?_
    rcases am_cV_s hs1 with ⟨h4, f5, hs2⟩ | hs2
    · clear hs1
      refine Or.inl ⟨_, _, f5, ?_⟩
      show am_W X _ 361 58 _ [] h4 _
      exact rg_361_58 q_7 x0 x1 x2 h4 o l0 l1 l2 i0 hs2
    · clear hs1
      exact Or.inr hs2
def fg_361_25 (N : Nat) (rec_7 : Value → Int32 → am_H → Option am_O) (x0 : Value) (x1 : Int32) (h : am_H) : Option am_O := ((am_vR (am_pG 3088 x0 h)).bind fun v1 => ((am_pA 0 v1 x1 h).bind fun v3 => (if ¬ v3 = 0 then (fg_361_46 N rec_7 x0 x1 v3 h) else ((am_vR (am_pG 3089 x0 h)).bind fun v6 => ((am_pA 0 v6 x1 h).bind fun v8 => (if am_pOk 12 x0 h then am_cV true (fm_363 x0 v8 h) (fun h12 => (fg_361_46 N rec_7 x0 x1 v3 h12)) else none))))))
theorem rg_361_25 {X : am_X} {d : Nat} {N : Nat} {rec_7 : Value → Int32 → am_H → Option am_O} (q_7 : ∀ (x0 : Value) (x1 : Int32) (h : am_H) (o : am_O), rec_7 x0 x1 h = some o → ∀ lv : am_LV, (lv.lookup 0 = some x0) → (lv.lookup 1 = some (.int x1)) → (am_isR x0 = true) → am_W X (d + 2) 361 7 lv [] h (fun q => q = o)) {lv : am_LV} (x0 : Value) (x1 : Int32) (h : am_H) (o : am_O) (l0 : lv.lookup 0 = some x0) (l1 : lv.lookup 1 = some (.int x1)) (i0 : am_isR x0 = true) (hs : fg_361_25 N rec_7 x0 x1 h = some o) : am_W X (d + 2) 361 25 lv [] h (fun q => q = o) := by
  unfold fg_361_25 at hs
  refine aw_vload_n (pc1 := 26) at_361_25 l0 i0 rfl ?_
  obtain ⟨v1, e2, hs1⟩ := am_bind hs
  clear hs
  refine aw_pG (pc1 := 29) at_361_26 (am_vR_s e2).1 rfl ?_
  refine aw_iload_n (pc1 := 30) at_361_29 l1 rfl ?_
  obtain ⟨v3, e4, hs2⟩ := am_bind hs1
  clear hs1
  refine aw_pA (pc1 := 31) at_361_30 (Or.inl ⟨rfl, rfl⟩) e4 rfl ?_
  refine aw_istore_n (lv1 := am_put1 _ 2 _) (pc1 := 32) at_361_31 rfl rfl ?_
  refine aw_iload_n (pc1 := 33) at_361_32 am_lk0 rfl ?_
  by_cases c5 : ¬ v3 = 0
  · rw [if_pos c5] at hs2
    refine aw_ifne_t at_361_33 c5 ?_
    exact rg_361_46 q_7 x0 x1 v3 h o (am_lk1 l0 rfl rfl) (am_lk1 l1 rfl rfl) am_lk0 i0 hs2
  · rw [if_neg c5] at hs2
    refine aw_ifne_f (pc1 := 36) at_361_33 c5 rfl ?_
    refine aw_vload_n (pc1 := 37) at_361_36 (am_lk1 l0 rfl rfl) i0 rfl ?_
    refine aw_vload_n (pc1 := 38) at_361_37 (am_lk1 l0 rfl rfl) i0 rfl ?_
    obtain ⟨v6, e7, hs3⟩ := am_bind hs2
    clear hs2
    refine aw_pG (pc1 := 41) at_361_38 (am_vR_s e7).1 rfl ?_
    refine aw_iload_n (pc1 := 42) at_361_41 (am_lk1 l1 rfl rfl) rfl ?_
    obtain ⟨v8, e9, hs4⟩ := am_bind hs3
    clear hs3
    refine aw_pA (pc1 := 43) at_361_42 (Or.inl ⟨rfl, rfl⟩) e9 rfl ?_
    obtain ⟨z10, hs5⟩ := am_ift hs4
    clear hs4
    refine aw_call (F := fm_363 x0 v8 h) (t := true) (na := 2) (kd := 1) (as := [x0, (.int v8)]) at_361_43 (am_k3v kb_363) mn_363 mk_363 rfl rfl (am_ok_v mi_363 (am_hl rfl (am_ccR i0 (am_ccI am_cats_0)) rfl) z10) (am_hc am_cats_0 rfl) (fun _ => ⟨rfl, hh_361⟩) (fun o1 hz9 => rm_363 x0 v8 h o1 i0 hz9) ?_
    rcases am_cV_s hs5 with ⟨h12, f13, hs6⟩ | hs6
    · clear hs5
      refine Or.inl ⟨_, _, f13, ?_⟩
      show am_W X _ 361 46 _ [] h12 _
      exact rg_361_46 q_7 x0 x1 v3 h12 o (am_lk1 l0 rfl rfl) (am_lk1 l1 rfl rfl) am_lk0 i0 hs6
    · clear hs5
      exact Or.inr hs6
def fg_361_7 (N : Nat) : Nat → Value → Int32 → am_H → Option am_O
  | 0 => fun _ _ _ => none
  | K + 1 => fun x0 x1 h => ((am_vI (am_pG 3086 x0 h)).bind fun v1 => (if v1 ≤ x1 then some (.inl (none, h)) else (if x1 ≤ 0 then (fg_361_25 N (fg_361_7 N K) x0 x1 h) else (if am_pOk 12 x0 h then am_cV true (fm_362 x0 32 h) (fun h7 => (fg_361_25 N (fg_361_7 N K) x0 x1 h7)) else none))))
theorem rg_361_7 {X : am_X} {d : Nat} {N : Nat} : ∀ (K : Nat) (x0 : Value) (x1 : Int32) (h : am_H) (o : am_O), fg_361_7 N K x0 x1 h = some o → ∀ lv : am_LV, (lv.lookup 0 = some x0) → (lv.lookup 1 = some (.int x1)) → (am_isR x0 = true) → am_W X (d + 2) 361 7 lv [] h (fun q => q = o) := by
  intro K
  induction K with
  | zero => intro x0 x1 h o hs; cases hs
  | succ K ih =>
    intro x0 x1 h o hs lv l0 l1 i0
    unfold fg_361_7 at hs
    refine aw_iload_n (pc1 := 8) at_361_7 l1 rfl ?_
    refine aw_vload_n (pc1 := 9) at_361_8 l0 i0 rfl ?_
    obtain ⟨v1, e2, hs1⟩ := am_bind hs
    clear hs
    refine aw_pG (pc1 := 12) at_361_9 (am_vI_s e2) rfl ?_
    by_cases c3 : v1 ≤ x1
    · rw [if_pos c3] at hs1
      refine aw_icge_t at_361_12 c3 ?_
      cases hs1
      exact aw_vret at_361_119 rt_361 rfl
    · rw [if_neg c3] at hs1
      refine aw_icge_f (pc1 := 15) at_361_12 c3 rfl ?_
      refine aw_iload_n (pc1 := 16) at_361_15 l1 rfl ?_
      by_cases c4 : x1 ≤ 0
      · rw [if_pos c4] at hs1
        refine aw_ifle_t at_361_16 c4 ?_
        exact rg_361_25 (fun z0 z1 h o hs1 => ih z0 z1 h o hs1) x0 x1 h o l0 l1 i0 hs1
      · rw [if_neg c4] at hs1
        refine aw_ifle_f (pc1 := 19) at_361_16 c4 rfl ?_
        refine aw_vload_n (pc1 := 20) at_361_19 l0 i0 rfl ?_
        refine aw_bipush (v := 32) (pc1 := 22) at_361_20 (by decide) rfl ?_
        obtain ⟨z5, hs2⟩ := am_ift hs1
        clear hs1
        refine aw_call (F := fm_362 x0 32 h) (t := true) (na := 2) (kd := 1) (as := [x0, (.int 32)]) at_361_22 (am_k3v kb_362) mn_362 mk_362 rfl rfl (am_ok_v mi_362 (am_hl rfl (am_ccR i0 (am_ccI am_cats_0)) rfl) z5) (am_hc am_cats_0 rfl) (fun _ => ⟨rfl, hh_361⟩) (fun o1 hz9 => rm_362 x0 32 h o1 i0 hz9) ?_
        rcases am_cV_s hs2 with ⟨h7, f8, hs3⟩ | hs3
        · clear hs2
          refine Or.inl ⟨_, _, f8, ?_⟩
          show am_W X _ 361 25 _ [] h7 _
          exact rg_361_25 (fun z0 z1 h o hs3 => ih z0 z1 h o hs3) x0 x1 h7 o l0 l1 i0 hs3
        · clear hs2
          exact Or.inr hs3
def fg_361_0 (N : Nat) (x0 : Value) (h : am_H) : Option am_O := ((am_pP 3145 x0 (.int 0) h).bind fun h1 => (fg_361_7 N N x0 0 h1))
theorem rg_361_0 {X : am_X} {d : Nat} {N : Nat} {lv : am_LV} (x0 : Value) (h : am_H) (o : am_O) (l0 : lv.lookup 0 = some x0) (i0 : am_isR x0 = true) (hs : fg_361_0 N x0 h = some o) : am_W X (d + 2) 361 0 lv [] h (fun q => q = o) := by
  unfold fg_361_0 at hs
  refine aw_vload_n (pc1 := 1) at_361_0 l0 i0 rfl ?_
  refine aw_iconst (v := 0) (pc1 := 2) at_361_1 (by decide) rfl ?_
  obtain ⟨h1, e2, hs1⟩ := am_bind hs
  clear hs
  refine aw_pP (pc1 := 5) at_361_2 e2 rfl ?_
  refine aw_iconst (v := 0) (pc1 := 6) at_361_5 (by decide) rfl ?_
  refine aw_istore_n (lv1 := am_put1 _ 1 _) (pc1 := 7) at_361_6 rfl rfl ?_
  exact rg_361_7 N x0 0 h1 o hs1 _ (am_lk1 l0 rfl (by rw [am_isRc i0]; rfl)) am_lk0 i0
def fm_361 (N : Nat) (y0 : Value) (h : am_H) : Option am_O := fg_361_0 N y0 h
theorem rm_361 {X : am_X} {d : Nat} {N : Nat} (y0 : Value) (h : am_H) (o : am_O) (i0 : am_isR y0 = true) (hs : fm_361 N y0 h = some o) : am_W X (d + 2) 361 0 (am_args 0 [y0]) [] h (fun q => q = o) := by
  rw [am_args_R i0]
  exact rg_361_0 y0 h o rfl i0 hs
def fg_366_105 (s0 : Int32) (h : am_H) : Option am_O := am_cI false (fm_364 s0 h) (fun v1 h2 => some (.inl (some (.int v1), h2)))
theorem rg_366_105 {X : am_X} {d : Nat} {lv : am_LV} (s0 : Int32) (h : am_H) (o : am_O) (hs : fg_366_105 s0 h = some o) : am_W X (d + 1) 366 105 lv [(.int s0)] h (fun q => q = o) := by
  unfold fg_366_105 at hs
  refine aw_call (F := fm_364 s0 h) (t := false) (na := 1) (kd := 0) (as := [(.int s0)]) at_366_105 (am_k3s kb_364) mn_364 mk_364 rfl rfl (am_ok_s mi_364 (am_hl rfl (am_ccI am_cats_0) rfl)) (am_hc am_cats_0 rfl) (fun hz9 => by cases hz9) (fun o1 hz9 => rm_364 s0 h o1  hz9) ?_
  rcases am_cI_s hs with ⟨v1, h2, f3, hs1⟩ | hs1
  · clear hs
    refine Or.inl ⟨_, _, f3, ?_⟩
    show am_W X _ 366 108 _ [(.int v1)] h2 _
    cases hs1
    exact aw_iret at_366_108 (by rw [rt_366]; rfl) rfl
  · clear hs
    exact Or.inr hs1
def fg_366_93 (x0 : Int32) (h : am_H) : Option am_O := (if 5 ≤ x0 then (fg_366_105 ((x0 + 3)) h) else (fg_366_105 x0 h))
theorem rg_366_93 {X : am_X} {d : Nat} {lv : am_LV} (x0 : Int32) (h : am_H) (o : am_O) (l0 : lv.lookup 0 = some (.int x0)) (hs : fg_366_93 x0 h = some o) : am_W X (d + 1) 366 93 lv [] h (fun q => q = o) := by
  unfold fg_366_93 at hs
  refine aw_iload_n (pc1 := 94) at_366_93 l0 rfl ?_
  refine aw_iconst (v := 5) (pc1 := 95) at_366_94 (by decide) rfl ?_
  by_cases c1 : 5 ≤ x0
  · rw [if_pos c1] at hs
    refine aw_icge_t at_366_95 c1 ?_
    refine aw_iload_n (pc1 := 103) at_366_102 l0 rfl ?_
    refine aw_iconst (v := 3) (pc1 := 104) at_366_103 (by decide) rfl ?_
    refine aw_iadd (v := (x0 + 3)) (pc1 := 105) at_366_104 rfl rfl ?_
    exact rg_366_105 ((x0 + 3)) h o   hs
  · rw [if_neg c1] at hs
    refine aw_icge_f (pc1 := 98) at_366_95 c1 rfl ?_
    refine aw_iload_n (pc1 := 99) at_366_98 l0 rfl ?_
    refine aw_goto at_366_99 ?_
    exact rg_366_105 x0 h o   hs
def fg_366_0 (x0 : Int32) (h : am_H) : Option am_O := (if x0 = 5 then some (.inl (some (.int 126), h)) else (if x0 = 6 then some (.inl (some (.int 35), h)) else (if x0 = 14 then some (.inl (some (.int 100), h)) else (if x0 = 15 then some (.inl (some (.int 119), h)) else (if x0 = 16 then some (.inl (some (.int 111), h)) else (if x0 = 17 then some (.inl (some (.int 106), h)) else (if x0 = 18 then some (.inl (some (.int 98), h)) else (fg_366_93 x0 h))))))))
theorem rg_366_0 {X : am_X} {d : Nat} {lv : am_LV} (x0 : Int32) (h : am_H) (o : am_O) (l0 : lv.lookup 0 = some (.int x0)) (hs : fg_366_0 x0 h = some o) : am_W X (d + 1) 366 0 lv [] h (fun q => q = o) := by
  unfold fg_366_0 at hs
  refine aw_iload_n (pc1 := 1) at_366_0 l0 rfl ?_
  by_cases c1 : x0 = 5
  · rw [if_pos c1] at hs
    refine aw_tsw (t := 87) at_366_1 (by rw [c1]; rfl) ?_
    refine aw_bipush (v := 126) (pc1 := 89) at_366_87 (by decide) rfl ?_
    cases hs
    exact aw_iret at_366_89 (by rw [rt_366]; rfl) rfl
  · rw [if_neg c1] at hs
    by_cases c2 : x0 = 6
    · rw [if_pos c2] at hs
      refine aw_tsw (t := 90) at_366_1 (by rw [c2]; rfl) ?_
      refine aw_bipush (v := 35) (pc1 := 92) at_366_90 (by decide) rfl ?_
      cases hs
      exact aw_iret at_366_92 (by rw [rt_366]; rfl) rfl
    · rw [if_neg c2] at hs
      by_cases c3 : x0 = 14
      · rw [if_pos c3] at hs
        refine aw_tsw (t := 72) at_366_1 (by rw [c3]; rfl) ?_
        refine aw_bipush (v := 100) (pc1 := 74) at_366_72 (by decide) rfl ?_
        cases hs
        exact aw_iret at_366_74 (by rw [rt_366]; rfl) rfl
      · rw [if_neg c3] at hs
        by_cases c4 : x0 = 15
        · rw [if_pos c4] at hs
          refine aw_tsw (t := 75) at_366_1 (by rw [c4]; rfl) ?_
          refine aw_bipush (v := 119) (pc1 := 77) at_366_75 (by decide) rfl ?_
          cases hs
          exact aw_iret at_366_77 (by rw [rt_366]; rfl) rfl
        · rw [if_neg c4] at hs
          by_cases c5 : x0 = 16
          · rw [if_pos c5] at hs
            refine aw_tsw (t := 78) at_366_1 (by rw [c5]; rfl) ?_
            refine aw_bipush (v := 111) (pc1 := 80) at_366_78 (by decide) rfl ?_
            cases hs
            exact aw_iret at_366_80 (by rw [rt_366]; rfl) rfl
          · rw [if_neg c5] at hs
            by_cases c6 : x0 = 17
            · rw [if_pos c6] at hs
              refine aw_tsw (t := 81) at_366_1 (by rw [c6]; rfl) ?_
              refine aw_bipush (v := 106) (pc1 := 83) at_366_81 (by decide) rfl ?_
              cases hs
              exact aw_iret at_366_83 (by rw [rt_366]; rfl) rfl
            · rw [if_neg c6] at hs
              by_cases c7 : x0 = 18
              · rw [if_pos c7] at hs
                refine aw_tsw (t := 84) at_366_1 (by rw [c7]; rfl) ?_
                refine aw_bipush (v := 98) (pc1 := 86) at_366_84 (by decide) rfl ?_
                cases hs
                exact aw_iret at_366_86 (by rw [rt_366]; rfl) rfl
              · rw [if_neg c7] at hs
                have tc1 : x0.toInt ≠ 5 := fun e9 => c1 (Int32.toInt_inj.mp e9)
                have tc2 : x0.toInt ≠ 6 := fun e9 => c2 (Int32.toInt_inj.mp e9)
                have tc3 : x0.toInt ≠ 14 := fun e9 => c3 (Int32.toInt_inj.mp e9)
                have tc4 : x0.toInt ≠ 15 := fun e9 => c4 (Int32.toInt_inj.mp e9)
                have tc5 : x0.toInt ≠ 16 := fun e9 => c5 (Int32.toInt_inj.mp e9)
                have tc6 : x0.toInt ≠ 17 := fun e9 => c6 (Int32.toInt_inj.mp e9)
                have tc7 : x0.toInt ≠ 18 := fun e9 => c7 (Int32.toInt_inj.mp e9)
                have hw : (x0.toInt < 5 ∨ 18 < x0.toInt) ∨ x0.toInt = 7 ∨ x0.toInt = 8 ∨ x0.toInt = 9 ∨ x0.toInt = 10 ∨ x0.toInt = 11 ∨ x0.toInt = 12 ∨ x0.toInt = 13 := by omega
                refine aw_tsw (t := 93) at_366_1 ?_ ?_
                · rcases hw with hw | hw | hw | hw | hw | hw | hw | hw
                  · exact am_tsw_d hw
                  · rw [show x0 = 7 from Int32.toInt_inj.mp hw]; rfl
                  · rw [show x0 = 8 from Int32.toInt_inj.mp hw]; rfl
                  · rw [show x0 = 9 from Int32.toInt_inj.mp hw]; rfl
                  · rw [show x0 = 10 from Int32.toInt_inj.mp hw]; rfl
                  · rw [show x0 = 11 from Int32.toInt_inj.mp hw]; rfl
                  · rw [show x0 = 12 from Int32.toInt_inj.mp hw]; rfl
                  · rw [show x0 = 13 from Int32.toInt_inj.mp hw]; rfl
                exact rg_366_93 x0 h o l0  hs
def fm_366 (y0 : Int32) (h : am_H) : Option am_O := fg_366_0 y0 h
theorem rm_366 {X : am_X} {d : Nat} (y0 : Int32) (h : am_H) (o : am_O) (hs : fm_366 y0 h = some o) : am_W X (d + 1) 366 0 (am_args 0 [.int y0]) [] h (fun q => q = o) := by
  rw [am_args_I]
  exact rg_366_0 y0 h o rfl  hs
def fg_367_0 (x0 : Int32) (x1 : Int32) (h : am_H) : Option am_O := some (.inl (some (.int ((x0 >>> ((3 * x1) &&& 31)) &&& 7)), h))
theorem rg_367_0 {X : am_X} {d : Nat} {lv : am_LV} (x0 : Int32) (x1 : Int32) (h : am_H) (o : am_O) (l0 : lv.lookup 0 = some (.int x0)) (l1 : lv.lookup 1 = some (.int x1)) (hs : fg_367_0 x0 x1 h = some o) : am_W X (d) 367 0 lv [] h (fun q => q = o) := by
  unfold fg_367_0 at hs
  refine aw_iload_n (pc1 := 1) at_367_0 l0 rfl ?_
  refine aw_iconst (v := 3) (pc1 := 2) at_367_1 (by decide) rfl ?_
  refine aw_iload_n (pc1 := 3) at_367_2 l1 rfl ?_
  refine aw_imul (v := (3 * x1)) (pc1 := 4) at_367_3 rfl rfl ?_
  refine aw_ishr (v := (x0 >>> ((3 * x1) &&& 31))) (pc1 := 5) at_367_4 rfl rfl ?_
  refine aw_bipush (v := 7) (pc1 := 7) at_367_5 (by decide) rfl ?_
  refine aw_iand (v := ((x0 >>> ((3 * x1) &&& 31)) &&& 7)) (pc1 := 8) at_367_7 rfl rfl ?_
  cases hs
  exact aw_iret at_367_8 (by rw [rt_367]; rfl) rfl
def fm_367 (y0 : Int32) (y1 : Int32) (h : am_H) : Option am_O := fg_367_0 y0 y1 h
theorem rm_367 {X : am_X} {d : Nat} (y0 : Int32) (y1 : Int32) (h : am_H) (o : am_O) (hs : fm_367 y0 y1 h = some o) : am_W X (d) 367 0 (am_args 0 [.int y0, .int y1]) [] h (fun q => q = o) := by
  rw [am_args_I, am_args_I]
  exact rg_367_0 y0 y1 h o rfl rfl  hs
def fg_360_279 (N : Nat) (h : am_H) : Option am_O := some (.inl (none, h))
theorem rg_360_279 {X : am_X} {d : Nat} {N : Nat} {lv : am_LV} (h : am_H) (o : am_O) (hs : fg_360_279 N h = some o) : am_W X (d + 3) 360 279 lv [] h (fun q => q = o) := by
  unfold fg_360_279 at hs
  cases hs
  exact aw_vret at_360_279 rt_360 rfl
def fg_360_247 (N : Nat) (rec_221 : Value → Int32 → am_H → Option am_O) (x0 : Value) (x1 : Int32) (h : am_H) : Option am_O := ((am_vR (am_pG 3088 x0 h)).bind fun v1 => ((am_pA 0 v1 x1 h).bind fun v3 => (if am_pOk 12 x0 h then am_cV true (fm_362 x0 ((48 + v3)) h) (fun h7 => ((am_vR (am_pG 3089 x0 h7)).bind fun v9 => ((am_pA 0 v9 x1 h7).bind fun v11 => (if am_pOk 12 x0 h7 then am_cV true (fm_362 x0 ((48 + v11)) h7) (fun h15 => (rec_221 x0 ((x1 + 1)) h15)) else none)))) else none)))
theorem rg_360_247 {X : am_X} {d : Nat} {N : Nat} {rec_221 : Value → Int32 → am_H → Option am_O} (q_221 : ∀ (x0 : Value) (x1 : Int32) (h : am_H) (o : am_O), rec_221 x0 x1 h = some o → ∀ lv : am_LV, (lv.lookup 0 = some x0) → (lv.lookup 1 = some (.int x1)) → (am_isR x0 = true) → am_W X (d + 3) 360 221 lv [] h (fun q => q = o)) {lv : am_LV} (x0 : Value) (x1 : Int32) (h : am_H) (o : am_O) (l0 : lv.lookup 0 = some x0) (l1 : lv.lookup 1 = some (.int x1)) (i0 : am_isR x0 = true) (hs : fg_360_247 N rec_221 x0 x1 h = some o) : am_W X (d + 3) 360 247 lv [] h (fun q => q = o) := by
  unfold fg_360_247 at hs
  refine aw_vload_n (pc1 := 248) at_360_247 l0 i0 rfl ?_
  refine aw_bipush (v := 48) (pc1 := 250) at_360_248 (by decide) rfl ?_
  refine aw_vload_n (pc1 := 251) at_360_250 l0 i0 rfl ?_
  obtain ⟨v1, e2, hs1⟩ := am_bind hs
  clear hs
  refine aw_pG (pc1 := 254) at_360_251 (am_vR_s e2).1 rfl ?_
  refine aw_iload_n (pc1 := 255) at_360_254 l1 rfl ?_
  obtain ⟨v3, e4, hs2⟩ := am_bind hs1
  clear hs1
  refine aw_pA (pc1 := 256) at_360_255 (Or.inl ⟨rfl, rfl⟩) e4 rfl ?_
  refine aw_iadd (v := (48 + v3)) (pc1 := 257) at_360_256 rfl rfl ?_
  obtain ⟨z5, hs3⟩ := am_ift hs2
  clear hs2
  refine aw_call (F := fm_362 x0 ((48 + v3)) h) (t := true) (na := 2) (kd := 1) (as := [x0, (.int (48 + v3))]) at_360_257 (am_k3v kb_362) mn_362 mk_362 rfl rfl (am_ok_v mi_362 (am_hl rfl (am_ccR i0 (am_ccI am_cats_0)) rfl) z5) (am_hc am_cats_0 rfl) (fun _ => ⟨rfl, hh_360⟩) (fun o1 hz9 => rm_362 x0 ((48 + v3)) h o1 i0 hz9) ?_
  rcases am_cV_s hs3 with ⟨h7, f8, hs4⟩ | hs4
  · clear hs3
    refine Or.inl ⟨_, _, f8, ?_⟩
    show am_W X _ 360 260 _ [] h7 _
    refine aw_vload_n (pc1 := 261) at_360_260 l0 i0 rfl ?_
    refine aw_bipush (v := 48) (pc1 := 263) at_360_261 (by decide) rfl ?_
    refine aw_vload_n (pc1 := 264) at_360_263 l0 i0 rfl ?_
    obtain ⟨v9, e10, hs5⟩ := am_bind hs4
    clear hs4
    refine aw_pG (pc1 := 267) at_360_264 (am_vR_s e10).1 rfl ?_
    refine aw_iload_n (pc1 := 268) at_360_267 l1 rfl ?_
    obtain ⟨v11, e12, hs6⟩ := am_bind hs5
    clear hs5
    refine aw_pA (pc1 := 269) at_360_268 (Or.inl ⟨rfl, rfl⟩) e12 rfl ?_
    refine aw_iadd (v := (48 + v11)) (pc1 := 270) at_360_269 rfl rfl ?_
    obtain ⟨z13, hs7⟩ := am_ift hs6
    clear hs6
    refine aw_call (F := fm_362 x0 ((48 + v11)) h7) (t := true) (na := 2) (kd := 1) (as := [x0, (.int (48 + v11))]) at_360_270 (am_k3v kb_362) mn_362 mk_362 rfl rfl (am_ok_v mi_362 (am_hl rfl (am_ccR i0 (am_ccI am_cats_0)) rfl) z13) (am_hc am_cats_0 rfl) (fun _ => ⟨rfl, hh_360⟩) (fun o1 hz9 => rm_362 x0 ((48 + v11)) h7 o1 i0 hz9) ?_
    rcases am_cV_s hs7 with ⟨h15, f16, hs8⟩ | hs8
    · clear hs7
      refine Or.inl ⟨_, _, f16, ?_⟩
      show am_W X _ 360 273 _ [] h15 _
      refine aw_iinc (v := (x1 + 1)) (c := 1) (lv1 := am_put1 _ 1 _) (pc1 := 276) at_360_273 l1 (by decide) rfl rfl rfl ?_
      refine aw_goto at_360_276 ?_
      exact q_221 x0 ((x1 + 1)) h15 o hs8 _ (am_lk1 l0 rfl (by rw [am_isRc i0]; rfl)) am_lk0 i0
    · clear hs7
      exact Or.inr hs8
  · clear hs3
    exact Or.inr hs4
def fg_360_221 (N : Nat) : Nat → Value → Int32 → am_H → Option am_O
  | 0 => fun _ _ _ => none
  | K + 1 => fun x0 x1 h => ((am_vI (am_pG 3086 x0 h)).bind fun v1 => (if v1 ≤ x1 then (fg_360_279 N h) else ((am_vI (am_pG 3085 x0 h)).bind fun v4 => (if ¬ v4 = 3 then (fg_360_279 N h) else (if x1 ≤ 0 then (fg_360_247 N (fg_360_221 N K) x0 x1 h) else (if am_pOk 12 x0 h then am_cV true (fm_362 x0 44 h) (fun h10 => (fg_360_247 N (fg_360_221 N K) x0 x1 h10)) else none))))))
theorem rg_360_221 {X : am_X} {d : Nat} {N : Nat} : ∀ (K : Nat) (x0 : Value) (x1 : Int32) (h : am_H) (o : am_O), fg_360_221 N K x0 x1 h = some o → ∀ lv : am_LV, (lv.lookup 0 = some x0) → (lv.lookup 1 = some (.int x1)) → (am_isR x0 = true) → am_W X (d + 3) 360 221 lv [] h (fun q => q = o) := by
  intro K
  induction K with
  | zero => intro x0 x1 h o hs; cases hs
  | succ K ih =>
    intro x0 x1 h o hs lv l0 l1 i0
    unfold fg_360_221 at hs
    refine aw_iload_n (pc1 := 222) at_360_221 l1 rfl ?_
    refine aw_vload_n (pc1 := 223) at_360_222 l0 i0 rfl ?_
    obtain ⟨v1, e2, hs1⟩ := am_bind hs
    clear hs
    refine aw_pG (pc1 := 226) at_360_223 (am_vI_s e2) rfl ?_
    by_cases c3 : v1 ≤ x1
    · rw [if_pos c3] at hs1
      refine aw_icge_t at_360_226 c3 ?_
      exact rg_360_279 h o   hs1
    · rw [if_neg c3] at hs1
      refine aw_icge_f (pc1 := 229) at_360_226 c3 rfl ?_
      refine aw_vload_n (pc1 := 230) at_360_229 l0 i0 rfl ?_
      obtain ⟨v4, e5, hs2⟩ := am_bind hs1
      clear hs1
      refine aw_pG (pc1 := 233) at_360_230 (am_vI_s e5) rfl ?_
      refine aw_iconst (v := 3) (pc1 := 234) at_360_233 (by decide) rfl ?_
      by_cases c6 : ¬ v4 = 3
      · rw [if_pos c6] at hs2
        refine aw_icne_t at_360_234 c6 ?_
        exact rg_360_279 h o   hs2
      · rw [if_neg c6] at hs2
        refine aw_icne_f (pc1 := 237) at_360_234 c6 rfl ?_
        refine aw_iload_n (pc1 := 238) at_360_237 l1 rfl ?_
        by_cases c7 : x1 ≤ 0
        · rw [if_pos c7] at hs2
          refine aw_ifle_t at_360_238 c7 ?_
          exact rg_360_247 (fun z0 z1 h o hs2 => ih z0 z1 h o hs2) x0 x1 h o l0 l1 i0 hs2
        · rw [if_neg c7] at hs2
          refine aw_ifle_f (pc1 := 241) at_360_238 c7 rfl ?_
          refine aw_vload_n (pc1 := 242) at_360_241 l0 i0 rfl ?_
          refine aw_bipush (v := 44) (pc1 := 244) at_360_242 (by decide) rfl ?_
          obtain ⟨z8, hs3⟩ := am_ift hs2
          clear hs2
          refine aw_call (F := fm_362 x0 44 h) (t := true) (na := 2) (kd := 1) (as := [x0, (.int 44)]) at_360_244 (am_k3v kb_362) mn_362 mk_362 rfl rfl (am_ok_v mi_362 (am_hl rfl (am_ccR i0 (am_ccI am_cats_0)) rfl) z8) (am_hc am_cats_0 rfl) (fun _ => ⟨rfl, hh_360⟩) (fun o1 hz9 => rm_362 x0 44 h o1 i0 hz9) ?_
          rcases am_cV_s hs3 with ⟨h10, f11, hs4⟩ | hs4
          · clear hs3
            refine Or.inl ⟨_, _, f11, ?_⟩
            show am_W X _ 360 247 _ [] h10 _
            exact rg_360_247 (fun z0 z1 h o hs4 => ih z0 z1 h o hs4) x0 x1 h10 o l0 l1 i0 hs4
          · clear hs3
            exact Or.inr hs4
def fg_360_219 (N : Nat) (x0 : Value) (h : am_H) : Option am_O := (fg_360_221 N N x0 0 h)
theorem rg_360_219 {X : am_X} {d : Nat} {N : Nat} {lv : am_LV} (x0 : Value) (h : am_H) (o : am_O) (l0 : lv.lookup 0 = some x0) (i0 : am_isR x0 = true) (hs : fg_360_219 N x0 h = some o) : am_W X (d + 3) 360 219 lv [] h (fun q => q = o) := by
  unfold fg_360_219 at hs
  refine aw_iconst (v := 0) (pc1 := 220) at_360_219 (by decide) rfl ?_
  refine aw_istore_n (lv1 := am_put1 _ 1 _) (pc1 := 221) at_360_220 rfl rfl ?_
  exact rg_360_221 N x0 0 h o hs _ (am_lk1 l0 rfl (by rw [am_isRc i0]; rfl)) am_lk0 i0
def fg_360_205 (N : Nat) (x0 : Value) (h : am_H) : Option am_O := ((am_vI (am_pG 3085 x0 h)).bind fun v1 => (if ¬ v1 = 3 then (fg_360_219 N x0 h) else (if am_pOk 12 x0 h then am_cV true (fm_362 x0 58 h) (fun h6 => (fg_360_219 N x0 h6)) else none)))
theorem rg_360_205 {X : am_X} {d : Nat} {N : Nat} {lv : am_LV} (x0 : Value) (h : am_H) (o : am_O) (l0 : lv.lookup 0 = some x0) (i0 : am_isR x0 = true) (hs : fg_360_205 N x0 h = some o) : am_W X (d + 3) 360 205 lv [] h (fun q => q = o) := by
  unfold fg_360_205 at hs
  refine aw_vload_n (pc1 := 206) at_360_205 l0 i0 rfl ?_
  obtain ⟨v1, e2, hs1⟩ := am_bind hs
  clear hs
  refine aw_pG (pc1 := 209) at_360_206 (am_vI_s e2) rfl ?_
  refine aw_iconst (v := 3) (pc1 := 210) at_360_209 (by decide) rfl ?_
  by_cases c3 : ¬ v1 = 3
  · rw [if_pos c3] at hs1
    refine aw_icne_t at_360_210 c3 ?_
    exact rg_360_219 x0 h o l0 i0 hs1
  · rw [if_neg c3] at hs1
    refine aw_icne_f (pc1 := 213) at_360_210 c3 rfl ?_
    refine aw_vload_n (pc1 := 214) at_360_213 l0 i0 rfl ?_
    refine aw_bipush (v := 58) (pc1 := 216) at_360_214 (by decide) rfl ?_
    obtain ⟨z4, hs2⟩ := am_ift hs1
    clear hs1
    refine aw_call (F := fm_362 x0 58 h) (t := true) (na := 2) (kd := 1) (as := [x0, (.int 58)]) at_360_216 (am_k3v kb_362) mn_362 mk_362 rfl rfl (am_ok_v mi_362 (am_hl rfl (am_ccR i0 (am_ccI am_cats_0)) rfl) z4) (am_hc am_cats_0 rfl) (fun _ => ⟨rfl, hh_360⟩) (fun o1 hz9 => rm_362 x0 58 h o1 i0 hz9) ?_
    rcases am_cV_s hs2 with ⟨h6, f7, hs3⟩ | hs3
    · clear hs2
      refine Or.inl ⟨_, _, f7, ?_⟩
      show am_W X _ 360 219 _ [] h6 _
      exact rg_360_219 x0 h6 o l0 i0 hs3
    · clear hs2
      exact Or.inr hs3
def fg_360_186 (N : Nat) (x0 : Value) (h : am_H) : Option am_O := ((am_vI (am_pG 3085 x0 h)).bind fun v1 => (if ¬ v1 = 3 then (fg_360_205 N x0 h) else ((am_vI (am_pG 3087 x0 h)).bind fun v4 => (if am_pOk 12 x0 h then am_cV true (fm_362 x0 ((48 + v4)) h) (fun h8 => (fg_360_205 N x0 h8)) else none))))
theorem rg_360_186 {X : am_X} {d : Nat} {N : Nat} {lv : am_LV} (x0 : Value) (h : am_H) (o : am_O) (l0 : lv.lookup 0 = some x0) (i0 : am_isR x0 = true) (hs : fg_360_186 N x0 h = some o) : am_W X (d + 3) 360 186 lv [] h (fun q => q = o) := by
  unfold fg_360_186 at hs
  refine aw_vload_n (pc1 := 187) at_360_186 l0 i0 rfl ?_
  obtain ⟨v1, e2, hs1⟩ := am_bind hs
  clear hs
  refine aw_pG (pc1 := 190) at_360_187 (am_vI_s e2) rfl ?_
  refine aw_iconst (v := 3) (pc1 := 191) at_360_190 (by decide) rfl ?_
  by_cases c3 : ¬ v1 = 3
  · rw [if_pos c3] at hs1
    refine aw_icne_t at_360_191 c3 ?_
    exact rg_360_205 x0 h o l0 i0 hs1
  · rw [if_neg c3] at hs1
    refine aw_icne_f (pc1 := 194) at_360_191 c3 rfl ?_
    refine aw_vload_n (pc1 := 195) at_360_194 l0 i0 rfl ?_
    refine aw_bipush (v := 48) (pc1 := 197) at_360_195 (by decide) rfl ?_
    refine aw_vload_n (pc1 := 198) at_360_197 l0 i0 rfl ?_
    obtain ⟨v4, e5, hs2⟩ := am_bind hs1
    clear hs1
    refine aw_pG (pc1 := 201) at_360_198 (am_vI_s e5) rfl ?_
    refine aw_iadd (v := (48 + v4)) (pc1 := 202) at_360_201 rfl rfl ?_
    obtain ⟨z6, hs3⟩ := am_ift hs2
    clear hs2
    refine aw_call (F := fm_362 x0 ((48 + v4)) h) (t := true) (na := 2) (kd := 1) (as := [x0, (.int (48 + v4))]) at_360_202 (am_k3v kb_362) mn_362 mk_362 rfl rfl (am_ok_v mi_362 (am_hl rfl (am_ccR i0 (am_ccI am_cats_0)) rfl) z6) (am_hc am_cats_0 rfl) (fun _ => ⟨rfl, hh_360⟩) (fun o1 hz9 => rm_362 x0 ((48 + v4)) h o1 i0 hz9) ?_
    rcases am_cV_s hs3 with ⟨h8, f9, hs4⟩ | hs4
    · clear hs3
      refine Or.inl ⟨_, _, f9, ?_⟩
      show am_W X _ 360 205 _ [] h8 _
      exact rg_360_205 x0 h8 o l0 i0 hs4
    · clear hs3
      exact Or.inr hs4
def fg_360_152 (N : Nat) (rec_108 : Value → Int32 → am_H → Option am_O) : Nat → Value → Int32 → Int32 → am_H → Option am_O
  | 0 => fun _ _ _ _ => none
  | K + 1 => fun x0 x1 x2 h => (if 4 ≤ x2 then (rec_108 x0 ((x1 + 1)) h) else ((am_vR (am_pG 3089 x0 h)).bind fun v2 => ((am_pA 0 v2 x1 h).bind fun v4 => am_cI false (fm_367 v4 x2 h) (fun v6 h7 => (if am_pOk 12 x0 h7 then am_cV true (fm_362 x0 ((48 + v6)) h7) (fun h11 => (fg_360_152 N rec_108 K x0 x1 ((x2 + 1)) h11)) else none)))))
theorem rg_360_152 {X : am_X} {d : Nat} {N : Nat} {rec_108 : Value → Int32 → am_H → Option am_O} (q_108 : ∀ (x0 : Value) (x1 : Int32) (h : am_H) (o : am_O), rec_108 x0 x1 h = some o → ∀ lv : am_LV, (lv.lookup 0 = some x0) → (lv.lookup 1 = some (.int x1)) → (am_isR x0 = true) → am_W X (d + 3) 360 108 lv [] h (fun q => q = o)) : ∀ (K : Nat) (x0 : Value) (x1 : Int32) (x2 : Int32) (h : am_H) (o : am_O), fg_360_152 N rec_108 K x0 x1 x2 h = some o → ∀ lv : am_LV, (lv.lookup 0 = some x0) → (lv.lookup 1 = some (.int x1)) → (lv.lookup 2 = some (.int x2)) → (am_isR x0 = true) → am_W X (d + 3) 360 152 lv [] h (fun q => q = o) := by
  intro K
  induction K with
  | zero => intro x0 x1 x2 h o hs; cases hs
  | succ K ih =>
    intro x0 x1 x2 h o hs lv l0 l1 l2 i0
    unfold fg_360_152 at hs
    refine aw_iload_n (pc1 := 153) at_360_152 l2 rfl ?_
    refine aw_iconst (v := 4) (pc1 := 154) at_360_153 (by decide) rfl ?_
    by_cases c1 : 4 ≤ x2
    · rw [if_pos c1] at hs
      refine aw_icge_t at_360_154 c1 ?_
      refine aw_iinc (v := (x1 + 1)) (c := 1) (lv1 := am_put1 _ 1 _) (pc1 := 183) at_360_180 l1 (by decide) rfl rfl rfl ?_
      refine aw_goto at_360_183 ?_
      exact q_108 x0 ((x1 + 1)) h o hs _ (am_lk1 l0 rfl (by rw [am_isRc i0]; rfl)) am_lk0 i0
    · rw [if_neg c1] at hs
      refine aw_icge_f (pc1 := 157) at_360_154 c1 rfl ?_
      refine aw_vload_n (pc1 := 158) at_360_157 l0 i0 rfl ?_
      refine aw_bipush (v := 48) (pc1 := 160) at_360_158 (by decide) rfl ?_
      refine aw_vload_n (pc1 := 161) at_360_160 l0 i0 rfl ?_
      obtain ⟨v2, e3, hs1⟩ := am_bind hs
      clear hs
      refine aw_pG (pc1 := 164) at_360_161 (am_vR_s e3).1 rfl ?_
      refine aw_iload_n (pc1 := 165) at_360_164 l1 rfl ?_
      obtain ⟨v4, e5, hs2⟩ := am_bind hs1
      clear hs1
      refine aw_pA (pc1 := 166) at_360_165 (Or.inl ⟨rfl, rfl⟩) e5 rfl ?_
      refine aw_iload_n (pc1 := 167) at_360_166 l2 rfl ?_
      refine aw_call (F := fm_367 v4 x2 h) (t := false) (na := 2) (kd := 0) (as := [(.int v4), (.int x2)]) at_360_167 (am_k3s kb_367) mn_367 mk_367 rfl rfl (am_ok_s mi_367 (am_hl rfl (am_ccI (am_ccI am_cats_0)) rfl)) (am_hc (am_ccI (am_ccR i0 am_cats_0)) rfl) (fun hz9 => by cases hz9) (fun o1 hz9 => rm_367 v4 x2 h o1  hz9) ?_
      rcases am_cI_s hs2 with ⟨v6, h7, f8, hs3⟩ | hs3
      · clear hs2
        refine Or.inl ⟨_, _, f8, ?_⟩
        show am_W X _ 360 170 _ [(.int v6), (.int 48), x0] h7 _
        refine aw_iadd (v := (48 + v6)) (pc1 := 171) at_360_170 rfl rfl ?_
        obtain ⟨z9, hs4⟩ := am_ift hs3
        clear hs3
        refine aw_call (F := fm_362 x0 ((48 + v6)) h7) (t := true) (na := 2) (kd := 1) (as := [x0, (.int (48 + v6))]) at_360_171 (am_k3v kb_362) mn_362 mk_362 rfl rfl (am_ok_v mi_362 (am_hl rfl (am_ccR i0 (am_ccI am_cats_0)) rfl) z9) (am_hc am_cats_0 rfl) (fun _ => ⟨rfl, hh_360⟩) (fun o1 hz9 => rm_362 x0 ((48 + v6)) h7 o1 i0 hz9) ?_
        rcases am_cV_s hs4 with ⟨h11, f12, hs5⟩ | hs5
        · clear hs4
          refine Or.inl ⟨_, _, f12, ?_⟩
          show am_W X _ 360 174 _ [] h11 _
          refine aw_iinc (v := (x2 + 1)) (c := 1) (lv1 := am_put1 _ 2 _) (pc1 := 177) at_360_174 l2 (by decide) rfl rfl rfl ?_
          refine aw_goto at_360_177 ?_
          exact ih x0 x1 ((x2 + 1)) h11 o hs5 _ (am_lk1 l0 rfl rfl) (am_lk1 l1 rfl rfl) am_lk0 i0
        · clear hs4
          exact Or.inr hs5
      · clear hs2
        exact Or.inr hs3
def fg_360_134 (N : Nat) (rec_108 : Value → Int32 → am_H → Option am_O) (x0 : Value) (x1 : Int32) (h : am_H) : Option am_O := ((am_vR (am_pG 3088 x0 h)).bind fun v1 => ((am_pA 0 v1 x1 h).bind fun v3 => (if am_pOk 12 x0 h then am_cV true (fm_363 x0 v3 h) (fun h7 => (if am_pOk 12 x0 h7 then am_cV true (fm_362 x0 58 h7) (fun h11 => (fg_360_152 N rec_108 N x0 x1 0 h11)) else none)) else none)))
theorem rg_360_134 {X : am_X} {d : Nat} {N : Nat} {rec_108 : Value → Int32 → am_H → Option am_O} (q_108 : ∀ (x0 : Value) (x1 : Int32) (h : am_H) (o : am_O), rec_108 x0 x1 h = some o → ∀ lv : am_LV, (lv.lookup 0 = some x0) → (lv.lookup 1 = some (.int x1)) → (am_isR x0 = true) → am_W X (d + 3) 360 108 lv [] h (fun q => q = o)) {lv : am_LV} (x0 : Value) (x1 : Int32) (h : am_H) (o : am_O) (l0 : lv.lookup 0 = some x0) (l1 : lv.lookup 1 = some (.int x1)) (i0 : am_isR x0 = true) (hs : fg_360_134 N rec_108 x0 x1 h = some o) : am_W X (d + 3) 360 134 lv [] h (fun q => q = o) := by
  unfold fg_360_134 at hs
  refine aw_vload_n (pc1 := 135) at_360_134 l0 i0 rfl ?_
  refine aw_vload_n (pc1 := 136) at_360_135 l0 i0 rfl ?_
  obtain ⟨v1, e2, hs1⟩ := am_bind hs
  clear hs
  refine aw_pG (pc1 := 139) at_360_136 (am_vR_s e2).1 rfl ?_
  refine aw_iload_n (pc1 := 140) at_360_139 l1 rfl ?_
  obtain ⟨v3, e4, hs2⟩ := am_bind hs1
  clear hs1
  refine aw_pA (pc1 := 141) at_360_140 (Or.inl ⟨rfl, rfl⟩) e4 rfl ?_
  obtain ⟨z5, hs3⟩ := am_ift hs2
  clear hs2
  refine aw_call (F := fm_363 x0 v3 h) (t := true) (na := 2) (kd := 1) (as := [x0, (.int v3)]) at_360_141 (am_k3v kb_363) mn_363 mk_363 rfl rfl (am_ok_v mi_363 (am_hl rfl (am_ccR i0 (am_ccI am_cats_0)) rfl) z5) (am_hc am_cats_0 rfl) (fun _ => ⟨rfl, hh_360⟩) (fun o1 hz9 => rm_363 x0 v3 h o1 i0 hz9) ?_
  rcases am_cV_s hs3 with ⟨h7, f8, hs4⟩ | hs4
  · clear hs3
    refine Or.inl ⟨_, _, f8, ?_⟩
    show am_W X _ 360 144 _ [] h7 _
    refine aw_vload_n (pc1 := 145) at_360_144 l0 i0 rfl ?_
    refine aw_bipush (v := 58) (pc1 := 147) at_360_145 (by decide) rfl ?_
    obtain ⟨z9, hs5⟩ := am_ift hs4
    clear hs4
    refine aw_call (F := fm_362 x0 58 h7) (t := true) (na := 2) (kd := 1) (as := [x0, (.int 58)]) at_360_147 (am_k3v kb_362) mn_362 mk_362 rfl rfl (am_ok_v mi_362 (am_hl rfl (am_ccR i0 (am_ccI am_cats_0)) rfl) z9) (am_hc am_cats_0 rfl) (fun _ => ⟨rfl, hh_360⟩) (fun o1 hz9 => rm_362 x0 58 h7 o1 i0 hz9) ?_
    rcases am_cV_s hs5 with ⟨h11, f12, hs6⟩ | hs6
    · clear hs5
      refine Or.inl ⟨_, _, f12, ?_⟩
      show am_W X _ 360 150 _ [] h11 _
      refine aw_iconst (v := 0) (pc1 := 151) at_360_150 (by decide) rfl ?_
      refine aw_istore_n (lv1 := am_put1 _ 2 _) (pc1 := 152) at_360_151 rfl rfl ?_
      exact rg_360_152 q_108 N x0 x1 0 h11 o hs6 _ (am_lk1 l0 rfl rfl) (am_lk1 l1 rfl rfl) am_lk0 i0
    · clear hs5
      exact Or.inr hs6
  · clear hs3
    exact Or.inr hs4
def fg_360_108 (N : Nat) : Nat → Value → Int32 → am_H → Option am_O
  | 0 => fun _ _ _ => none
  | K + 1 => fun x0 x1 h => ((am_vI (am_pG 3086 x0 h)).bind fun v1 => (if v1 ≤ x1 then (fg_360_186 N x0 h) else ((am_vI (am_pG 3085 x0 h)).bind fun v4 => (if ¬ v4 = 2 then (fg_360_186 N x0 h) else (if x1 ≤ 0 then (fg_360_134 N (fg_360_108 N K) x0 x1 h) else (if am_pOk 12 x0 h then am_cV true (fm_362 x0 59 h) (fun h10 => (fg_360_134 N (fg_360_108 N K) x0 x1 h10)) else none))))))
theorem rg_360_108 {X : am_X} {d : Nat} {N : Nat} : ∀ (K : Nat) (x0 : Value) (x1 : Int32) (h : am_H) (o : am_O), fg_360_108 N K x0 x1 h = some o → ∀ lv : am_LV, (lv.lookup 0 = some x0) → (lv.lookup 1 = some (.int x1)) → (am_isR x0 = true) → am_W X (d + 3) 360 108 lv [] h (fun q => q = o) := by
  intro K
  induction K with
  | zero => intro x0 x1 h o hs; cases hs
  | succ K ih =>
    intro x0 x1 h o hs lv l0 l1 i0
    unfold fg_360_108 at hs
    refine aw_iload_n (pc1 := 109) at_360_108 l1 rfl ?_
    refine aw_vload_n (pc1 := 110) at_360_109 l0 i0 rfl ?_
    obtain ⟨v1, e2, hs1⟩ := am_bind hs
    clear hs
    refine aw_pG (pc1 := 113) at_360_110 (am_vI_s e2) rfl ?_
    by_cases c3 : v1 ≤ x1
    · rw [if_pos c3] at hs1
      refine aw_icge_t at_360_113 c3 ?_
      exact rg_360_186 x0 h o l0 i0 hs1
    · rw [if_neg c3] at hs1
      refine aw_icge_f (pc1 := 116) at_360_113 c3 rfl ?_
      refine aw_vload_n (pc1 := 117) at_360_116 l0 i0 rfl ?_
      obtain ⟨v4, e5, hs2⟩ := am_bind hs1
      clear hs1
      refine aw_pG (pc1 := 120) at_360_117 (am_vI_s e5) rfl ?_
      refine aw_iconst (v := 2) (pc1 := 121) at_360_120 (by decide) rfl ?_
      by_cases c6 : ¬ v4 = 2
      · rw [if_pos c6] at hs2
        refine aw_icne_t at_360_121 c6 ?_
        exact rg_360_186 x0 h o l0 i0 hs2
      · rw [if_neg c6] at hs2
        refine aw_icne_f (pc1 := 124) at_360_121 c6 rfl ?_
        refine aw_iload_n (pc1 := 125) at_360_124 l1 rfl ?_
        by_cases c7 : x1 ≤ 0
        · rw [if_pos c7] at hs2
          refine aw_ifle_t at_360_125 c7 ?_
          exact rg_360_134 (fun z0 z1 h o hs2 => ih z0 z1 h o hs2) x0 x1 h o l0 l1 i0 hs2
        · rw [if_neg c7] at hs2
          refine aw_ifle_f (pc1 := 128) at_360_125 c7 rfl ?_
          refine aw_vload_n (pc1 := 129) at_360_128 l0 i0 rfl ?_
          refine aw_bipush (v := 59) (pc1 := 131) at_360_129 (by decide) rfl ?_
          obtain ⟨z8, hs3⟩ := am_ift hs2
          clear hs2
          refine aw_call (F := fm_362 x0 59 h) (t := true) (na := 2) (kd := 1) (as := [x0, (.int 59)]) at_360_131 (am_k3v kb_362) mn_362 mk_362 rfl rfl (am_ok_v mi_362 (am_hl rfl (am_ccR i0 (am_ccI am_cats_0)) rfl) z8) (am_hc am_cats_0 rfl) (fun _ => ⟨rfl, hh_360⟩) (fun o1 hz9 => rm_362 x0 59 h o1 i0 hz9) ?_
          rcases am_cV_s hs3 with ⟨h10, f11, hs4⟩ | hs4
          · clear hs3
            refine Or.inl ⟨_, _, f11, ?_⟩
            show am_W X _ 360 134 _ [] h10 _
            exact rg_360_134 (fun z0 z1 h o hs4 => ih z0 z1 h o hs4) x0 x1 h10 o l0 l1 i0 hs4
          · clear hs3
            exact Or.inr hs4
def fg_360_106 (N : Nat) (x0 : Value) (h : am_H) : Option am_O := (fg_360_108 N N x0 0 h)
theorem rg_360_106 {X : am_X} {d : Nat} {N : Nat} {lv : am_LV} (x0 : Value) (h : am_H) (o : am_O) (l0 : lv.lookup 0 = some x0) (i0 : am_isR x0 = true) (hs : fg_360_106 N x0 h = some o) : am_W X (d + 3) 360 106 lv [] h (fun q => q = o) := by
  unfold fg_360_106 at hs
  refine aw_iconst (v := 0) (pc1 := 107) at_360_106 (by decide) rfl ?_
  refine aw_istore_n (lv1 := am_put1 _ 1 _) (pc1 := 108) at_360_107 rfl rfl ?_
  exact rg_360_108 N x0 0 h o hs _ (am_lk1 l0 rfl (by rw [am_isRc i0]; rfl)) am_lk0 i0
def fg_360_100 (N : Nat) (rec_18 : Value → Int32 → am_H → Option am_O) (x0 : Value) (x1 : Int32) (h : am_H) : Option am_O := (rec_18 x0 ((x1 + 1)) h)
theorem rg_360_100 {X : am_X} {d : Nat} {N : Nat} {rec_18 : Value → Int32 → am_H → Option am_O} (q_18 : ∀ (x0 : Value) (x1 : Int32) (h : am_H) (o : am_O), rec_18 x0 x1 h = some o → ∀ lv : am_LV, (lv.lookup 0 = some x0) → (lv.lookup 1 = some (.int x1)) → (am_isR x0 = true) → am_W X (d + 3) 360 18 lv [] h (fun q => q = o)) {lv : am_LV} (x0 : Value) (x1 : Int32) (h : am_H) (o : am_O) (l0 : lv.lookup 0 = some x0) (l1 : lv.lookup 1 = some (.int x1)) (i0 : am_isR x0 = true) (hs : fg_360_100 N rec_18 x0 x1 h = some o) : am_W X (d + 3) 360 100 lv [] h (fun q => q = o) := by
  unfold fg_360_100 at hs
  refine aw_iinc (v := (x1 + 1)) (c := 1) (lv1 := am_put1 _ 1 _) (pc1 := 103) at_360_100 l1 (by decide) rfl rfl rfl ?_
  refine aw_goto at_360_103 ?_
  exact q_18 x0 ((x1 + 1)) h o hs _ (am_lk1 l0 rfl (by rw [am_isRc i0]; rfl)) am_lk0 i0
def fg_360_79 (N : Nat) (rec_18 : Value → Int32 → am_H → Option am_O) (x0 : Value) (x1 : Int32) (h : am_H) : Option am_O := ((am_vR (am_pG 3088 x0 h)).bind fun v1 => ((am_pA 0 v1 x1 h).bind fun v3 => (if v3 ≤ 16 then (fg_360_100 N rec_18 x0 x1 h) else ((am_vR (am_pG 3089 x0 h)).bind fun v6 => ((am_pA 0 v6 x1 h).bind fun v8 => (if am_pOk 12 x0 h then am_cV true (fm_363 x0 v8 h) (fun h12 => (fg_360_100 N rec_18 x0 x1 h12)) else none))))))
theorem rg_360_79 {X : am_X} {d : Nat} {N : Nat} {rec_18 : Value → Int32 → am_H → Option am_O} (q_18 : ∀ (x0 : Value) (x1 : Int32) (h : am_H) (o : am_O), rec_18 x0 x1 h = some o → ∀ lv : am_LV, (lv.lookup 0 = some x0) → (lv.lookup 1 = some (.int x1)) → (am_isR x0 = true) → am_W X (d + 3) 360 18 lv [] h (fun q => q = o)) {lv : am_LV} (x0 : Value) (x1 : Int32) (h : am_H) (o : am_O) (l0 : lv.lookup 0 = some x0) (l1 : lv.lookup 1 = some (.int x1)) (i0 : am_isR x0 = true) (hs : fg_360_79 N rec_18 x0 x1 h = some o) : am_W X (d + 3) 360 79 lv [] h (fun q => q = o) := by
  unfold fg_360_79 at hs
  refine aw_vload_n (pc1 := 80) at_360_79 l0 i0 rfl ?_
  obtain ⟨v1, e2, hs1⟩ := am_bind hs
  clear hs
  refine aw_pG (pc1 := 83) at_360_80 (am_vR_s e2).1 rfl ?_
  refine aw_iload_n (pc1 := 84) at_360_83 l1 rfl ?_
  obtain ⟨v3, e4, hs2⟩ := am_bind hs1
  clear hs1
  refine aw_pA (pc1 := 85) at_360_84 (Or.inl ⟨rfl, rfl⟩) e4 rfl ?_
  refine aw_bipush (v := 16) (pc1 := 87) at_360_85 (by decide) rfl ?_
  by_cases c5 : v3 ≤ 16
  · rw [if_pos c5] at hs2
    refine aw_icle_t at_360_87 c5 ?_
    exact rg_360_100 q_18 x0 x1 h o l0 l1 i0 hs2
  · rw [if_neg c5] at hs2
    refine aw_icle_f (pc1 := 90) at_360_87 c5 rfl ?_
    refine aw_vload_n (pc1 := 91) at_360_90 l0 i0 rfl ?_
    refine aw_vload_n (pc1 := 92) at_360_91 l0 i0 rfl ?_
    obtain ⟨v6, e7, hs3⟩ := am_bind hs2
    clear hs2
    refine aw_pG (pc1 := 95) at_360_92 (am_vR_s e7).1 rfl ?_
    refine aw_iload_n (pc1 := 96) at_360_95 l1 rfl ?_
    obtain ⟨v8, e9, hs4⟩ := am_bind hs3
    clear hs3
    refine aw_pA (pc1 := 97) at_360_96 (Or.inl ⟨rfl, rfl⟩) e9 rfl ?_
    obtain ⟨z10, hs5⟩ := am_ift hs4
    clear hs4
    refine aw_call (F := fm_363 x0 v8 h) (t := true) (na := 2) (kd := 1) (as := [x0, (.int v8)]) at_360_97 (am_k3v kb_363) mn_363 mk_363 rfl rfl (am_ok_v mi_363 (am_hl rfl (am_ccR i0 (am_ccI am_cats_0)) rfl) z10) (am_hc am_cats_0 rfl) (fun _ => ⟨rfl, hh_360⟩) (fun o1 hz9 => rm_363 x0 v8 h o1 i0 hz9) ?_
    rcases am_cV_s hs5 with ⟨h12, f13, hs6⟩ | hs6
    · clear hs5
      refine Or.inl ⟨_, _, f13, ?_⟩
      show am_W X _ 360 100 _ [] h12 _
      exact rg_360_100 q_18 x0 x1 h12 o l0 l1 i0 hs6
    · clear hs5
      exact Or.inr hs6
def fg_360_44 (N : Nat) (rec_18 : Value → Int32 → am_H → Option am_O) (x0 : Value) (x1 : Int32) (h : am_H) : Option am_O := ((am_vR (am_pG 3088 x0 h)).bind fun v1 => ((am_pA 0 v1 x1 h).bind fun v3 => (if ¬ v3 = 0 then ((am_vR (am_pG 3088 x0 h)).bind fun v6 => ((am_pA 0 v6 x1 h).bind fun v8 => am_cI false (fm_366 v8 h) (fun v10 h11 => (if am_pOk 12 x0 h11 then am_cV true (fm_362 x0 v10 h11) (fun h15 => (fg_360_79 N rec_18 x0 x1 h15)) else none)))) else ((am_vR (am_pG 3089 x0 h)).bind fun v17 => ((am_pA 0 v17 x1 h).bind fun v19 => (if am_pOk 12 x0 h then am_cV true (fm_363 x0 v19 h) (fun h23 => (fg_360_79 N rec_18 x0 x1 h23)) else none))))))
theorem rg_360_44 {X : am_X} {d : Nat} {N : Nat} {rec_18 : Value → Int32 → am_H → Option am_O} (q_18 : ∀ (x0 : Value) (x1 : Int32) (h : am_H) (o : am_O), rec_18 x0 x1 h = some o → ∀ lv : am_LV, (lv.lookup 0 = some x0) → (lv.lookup 1 = some (.int x1)) → (am_isR x0 = true) → am_W X (d + 3) 360 18 lv [] h (fun q => q = o)) {lv : am_LV} (x0 : Value) (x1 : Int32) (h : am_H) (o : am_O) (l0 : lv.lookup 0 = some x0) (l1 : lv.lookup 1 = some (.int x1)) (i0 : am_isR x0 = true) (hs : fg_360_44 N rec_18 x0 x1 h = some o) : am_W X (d + 3) 360 44 lv [] h (fun q => q = o) := by
  unfold fg_360_44 at hs
  refine aw_vload_n (pc1 := 45) at_360_44 l0 i0 rfl ?_
  obtain ⟨v1, e2, hs1⟩ := am_bind hs
  clear hs
  refine aw_pG (pc1 := 48) at_360_45 (am_vR_s e2).1 rfl ?_
  refine aw_iload_n (pc1 := 49) at_360_48 l1 rfl ?_
  obtain ⟨v3, e4, hs2⟩ := am_bind hs1
  clear hs1
  refine aw_pA (pc1 := 50) at_360_49 (Or.inl ⟨rfl, rfl⟩) e4 rfl ?_
  by_cases c5 : ¬ v3 = 0
  · rw [if_pos c5] at hs2
    refine aw_ifne_t at_360_50 c5 ?_
    refine aw_vload_n (pc1 := 67) at_360_66 l0 i0 rfl ?_
    refine aw_vload_n (pc1 := 68) at_360_67 l0 i0 rfl ?_
    obtain ⟨v6, e7, hs3⟩ := am_bind hs2
    clear hs2
    refine aw_pG (pc1 := 71) at_360_68 (am_vR_s e7).1 rfl ?_
    refine aw_iload_n (pc1 := 72) at_360_71 l1 rfl ?_
    obtain ⟨v8, e9, hs4⟩ := am_bind hs3
    clear hs3
    refine aw_pA (pc1 := 73) at_360_72 (Or.inl ⟨rfl, rfl⟩) e9 rfl ?_
    refine aw_call (F := fm_366 v8 h) (t := false) (na := 1) (kd := 0) (as := [(.int v8)]) at_360_73 (am_k3s kb_366) mn_366 mk_366 rfl rfl (am_ok_s mi_366 (am_hl rfl (am_ccI am_cats_0) rfl)) (am_hc (am_ccR i0 am_cats_0) rfl) (fun hz9 => by cases hz9) (fun o1 hz9 => rm_366 v8 h o1  hz9) ?_
    rcases am_cI_s hs4 with ⟨v10, h11, f12, hs5⟩ | hs5
    · clear hs4
      refine Or.inl ⟨_, _, f12, ?_⟩
      show am_W X _ 360 76 _ [(.int v10), x0] h11 _
      obtain ⟨z13, hs6⟩ := am_ift hs5
      clear hs5
      refine aw_call (F := fm_362 x0 v10 h11) (t := true) (na := 2) (kd := 1) (as := [x0, (.int v10)]) at_360_76 (am_k3v kb_362) mn_362 mk_362 rfl rfl (am_ok_v mi_362 (am_hl rfl (am_ccR i0 (am_ccI am_cats_0)) rfl) z13) (am_hc am_cats_0 rfl) (fun _ => ⟨rfl, hh_360⟩) (fun o1 hz9 => rm_362 x0 v10 h11 o1 i0 hz9) ?_
      rcases am_cV_s hs6 with ⟨h15, f16, hs7⟩ | hs7
      · clear hs6
        refine Or.inl ⟨_, _, f16, ?_⟩
        show am_W X _ 360 79 _ [] h15 _
        exact rg_360_79 q_18 x0 x1 h15 o l0 l1 i0 hs7
      · clear hs6
        exact Or.inr hs7
    · clear hs4
      exact Or.inr hs5
  · rw [if_neg c5] at hs2
    refine aw_ifne_f (pc1 := 53) at_360_50 c5 rfl ?_
    refine aw_vload_n (pc1 := 54) at_360_53 l0 i0 rfl ?_
    refine aw_vload_n (pc1 := 55) at_360_54 l0 i0 rfl ?_
    obtain ⟨v17, e18, hs8⟩ := am_bind hs2
    clear hs2
    refine aw_pG (pc1 := 58) at_360_55 (am_vR_s e18).1 rfl ?_
    refine aw_iload_n (pc1 := 59) at_360_58 l1 rfl ?_
    obtain ⟨v19, e20, hs9⟩ := am_bind hs8
    clear hs8
    refine aw_pA (pc1 := 60) at_360_59 (Or.inl ⟨rfl, rfl⟩) e20 rfl ?_
    obtain ⟨z21, hs10⟩ := am_ift hs9
    clear hs9
    refine aw_call (F := fm_363 x0 v19 h) (t := true) (na := 2) (kd := 1) (as := [x0, (.int v19)]) at_360_60 (am_k3v kb_363) mn_363 mk_363 rfl rfl (am_ok_v mi_363 (am_hl rfl (am_ccR i0 (am_ccI am_cats_0)) rfl) z21) (am_hc am_cats_0 rfl) (fun _ => ⟨rfl, hh_360⟩) (fun o1 hz9 => rm_363 x0 v19 h o1 i0 hz9) ?_
    rcases am_cV_s hs10 with ⟨h23, f24, hs11⟩ | hs11
    · clear hs10
      refine Or.inl ⟨_, _, f24, ?_⟩
      show am_W X _ 360 63 _ [] h23 _
      refine aw_goto at_360_63 ?_
      exact rg_360_79 q_18 x0 x1 h23 o l0 l1 i0 hs11
    · clear hs10
      exact Or.inr hs11
def fg_360_18 (N : Nat) : Nat → Value → Int32 → am_H → Option am_O
  | 0 => fun _ _ _ => none
  | K + 1 => fun x0 x1 h => ((am_vI (am_pG 3086 x0 h)).bind fun v1 => (if v1 ≤ x1 then (fg_360_106 N x0 h) else ((am_vI (am_pG 3085 x0 h)).bind fun v4 => (if ¬ v4 = 1 then (fg_360_106 N x0 h) else (if x1 ≤ 0 then (fg_360_44 N (fg_360_18 N K) x0 x1 h) else (if am_pOk 12 x0 h then am_cV true (fm_362 x0 32 h) (fun h10 => (fg_360_44 N (fg_360_18 N K) x0 x1 h10)) else none))))))
theorem rg_360_18 {X : am_X} {d : Nat} {N : Nat} : ∀ (K : Nat) (x0 : Value) (x1 : Int32) (h : am_H) (o : am_O), fg_360_18 N K x0 x1 h = some o → ∀ lv : am_LV, (lv.lookup 0 = some x0) → (lv.lookup 1 = some (.int x1)) → (am_isR x0 = true) → am_W X (d + 3) 360 18 lv [] h (fun q => q = o) := by
  intro K
  induction K with
  | zero => intro x0 x1 h o hs; cases hs
  | succ K ih =>
    intro x0 x1 h o hs lv l0 l1 i0
    unfold fg_360_18 at hs
    refine aw_iload_n (pc1 := 19) at_360_18 l1 rfl ?_
    refine aw_vload_n (pc1 := 20) at_360_19 l0 i0 rfl ?_
    obtain ⟨v1, e2, hs1⟩ := am_bind hs
    clear hs
    refine aw_pG (pc1 := 23) at_360_20 (am_vI_s e2) rfl ?_
    by_cases c3 : v1 ≤ x1
    · rw [if_pos c3] at hs1
      refine aw_icge_t at_360_23 c3 ?_
      exact rg_360_106 x0 h o l0 i0 hs1
    · rw [if_neg c3] at hs1
      refine aw_icge_f (pc1 := 26) at_360_23 c3 rfl ?_
      refine aw_vload_n (pc1 := 27) at_360_26 l0 i0 rfl ?_
      obtain ⟨v4, e5, hs2⟩ := am_bind hs1
      clear hs1
      refine aw_pG (pc1 := 30) at_360_27 (am_vI_s e5) rfl ?_
      refine aw_iconst (v := 1) (pc1 := 31) at_360_30 (by decide) rfl ?_
      by_cases c6 : ¬ v4 = 1
      · rw [if_pos c6] at hs2
        refine aw_icne_t at_360_31 c6 ?_
        exact rg_360_106 x0 h o l0 i0 hs2
      · rw [if_neg c6] at hs2
        refine aw_icne_f (pc1 := 34) at_360_31 c6 rfl ?_
        refine aw_iload_n (pc1 := 35) at_360_34 l1 rfl ?_
        by_cases c7 : x1 ≤ 0
        · rw [if_pos c7] at hs2
          refine aw_ifle_t at_360_35 c7 ?_
          exact rg_360_44 (fun z0 z1 h o hs2 => ih z0 z1 h o hs2) x0 x1 h o l0 l1 i0 hs2
        · rw [if_neg c7] at hs2
          refine aw_ifle_f (pc1 := 38) at_360_35 c7 rfl ?_
          refine aw_vload_n (pc1 := 39) at_360_38 l0 i0 rfl ?_
          refine aw_bipush (v := 32) (pc1 := 41) at_360_39 (by decide) rfl ?_
          obtain ⟨z8, hs3⟩ := am_ift hs2
          clear hs2
          refine aw_call (F := fm_362 x0 32 h) (t := true) (na := 2) (kd := 1) (as := [x0, (.int 32)]) at_360_41 (am_k3v kb_362) mn_362 mk_362 rfl rfl (am_ok_v mi_362 (am_hl rfl (am_ccR i0 (am_ccI am_cats_0)) rfl) z8) (am_hc am_cats_0 rfl) (fun _ => ⟨rfl, hh_360⟩) (fun o1 hz9 => rm_362 x0 32 h o1 i0 hz9) ?_
          rcases am_cV_s hs3 with ⟨h10, f11, hs4⟩ | hs4
          · clear hs3
            refine Or.inl ⟨_, _, f11, ?_⟩
            show am_W X _ 360 44 _ [] h10 _
            exact rg_360_44 (fun z0 z1 h o hs4 => ih z0 z1 h o hs4) x0 x1 h10 o l0 l1 i0 hs4
          · clear hs3
            exact Or.inr hs4
def fg_360_16 (N : Nat) (x0 : Value) (h : am_H) : Option am_O := (fg_360_18 N N x0 0 h)
theorem rg_360_16 {X : am_X} {d : Nat} {N : Nat} {lv : am_LV} (x0 : Value) (h : am_H) (o : am_O) (l0 : lv.lookup 0 = some x0) (i0 : am_isR x0 = true) (hs : fg_360_16 N x0 h = some o) : am_W X (d + 3) 360 16 lv [] h (fun q => q = o) := by
  unfold fg_360_16 at hs
  refine aw_iconst (v := 0) (pc1 := 17) at_360_16 (by decide) rfl ?_
  refine aw_istore_n (lv1 := am_put1 _ 1 _) (pc1 := 18) at_360_17 rfl rfl ?_
  exact rg_360_18 N x0 0 h o hs _ (am_lk1 l0 rfl (by rw [am_isRc i0]; rfl)) am_lk0 i0
def fg_360_0 (N : Nat) (x0 : Value) (h : am_H) : Option am_O := ((am_pP 3150 x0 (.int 0) h).bind fun h1 => ((am_vI (am_pG 3085 x0 h1)).bind fun v3 => (if ¬ v3 = 0 then (fg_360_16 N x0 h1) else (if am_pOk 12 x0 h1 then am_cV true (fm_361 N x0 h1) (fun h8 => (fg_360_16 N x0 h8)) else none))))
theorem rg_360_0 {X : am_X} {d : Nat} {N : Nat} {lv : am_LV} (x0 : Value) (h : am_H) (o : am_O) (l0 : lv.lookup 0 = some x0) (i0 : am_isR x0 = true) (hs : fg_360_0 N x0 h = some o) : am_W X (d + 3) 360 0 lv [] h (fun q => q = o) := by
  unfold fg_360_0 at hs
  refine aw_vload_n (pc1 := 1) at_360_0 l0 i0 rfl ?_
  refine aw_iconst (v := 0) (pc1 := 2) at_360_1 (by decide) rfl ?_
  obtain ⟨h1, e2, hs1⟩ := am_bind hs
  clear hs
  refine aw_pP (pc1 := 5) at_360_2 e2 rfl ?_
  refine aw_vload_n (pc1 := 6) at_360_5 l0 i0 rfl ?_
  obtain ⟨v3, e4, hs2⟩ := am_bind hs1
  clear hs1
  refine aw_pG (pc1 := 9) at_360_6 (am_vI_s e4) rfl ?_
  by_cases c5 : ¬ v3 = 0
  · rw [if_pos c5] at hs2
    refine aw_ifne_t at_360_9 c5 ?_
    exact rg_360_16 x0 h1 o l0 i0 hs2
  · rw [if_neg c5] at hs2
    refine aw_ifne_f (pc1 := 12) at_360_9 c5 rfl ?_
    refine aw_vload_n (pc1 := 13) at_360_12 l0 i0 rfl ?_
    obtain ⟨z6, hs3⟩ := am_ift hs2
    clear hs2
    refine aw_call (F := fm_361 N x0 h1) (t := true) (na := 1) (kd := 1) (as := [x0]) at_360_13 (am_k3v kb_361) mn_361 mk_361 rfl rfl (am_ok_v mi_361 (am_hl rfl (am_ccR i0 am_cats_0) rfl) z6) (am_hc am_cats_0 rfl) (fun _ => ⟨rfl, hh_360⟩) (fun o1 hz9 => rm_361 x0 h1 o1 i0 hz9) ?_
    rcases am_cV_s hs3 with ⟨h8, f9, hs4⟩ | hs4
    · clear hs3
      refine Or.inl ⟨_, _, f9, ?_⟩
      show am_W X _ 360 16 _ [] h8 _
      exact rg_360_16 x0 h8 o l0 i0 hs4
    · clear hs3
      exact Or.inr hs4
def fm_360 (N : Nat) (y0 : Value) (h : am_H) : Option am_O := fg_360_0 N y0 h
theorem rm_360 {X : am_X} {d : Nat} {N : Nat} (y0 : Value) (h : am_H) (o : am_O) (i0 : am_isR y0 = true) (hs : fm_360 N y0 h = some o) : am_W X (d + 3) 360 0 (am_args 0 [y0]) [] h (fun q => q = o) := by
  rw [am_args_R i0]
  exact rg_360_0 y0 h o rfl i0 hs
def fg_357_14 (N : Nat) (x0 : Value) (x1 : Int32) (s0 : Value) (s1 : Int32) (h : am_H) : Option am_O := ((am_pP 3072 s0 (.int s1) h).bind fun h1 => ((am_vI (am_pG 3072 x0 h1)).bind fun v3 => (if v3 ≤ 0 then (if am_pOk 12 x0 h1 then am_cV true (fm_359 N x0 x1 h1) (fun h8 => (if am_pOk 12 x0 h8 then am_cV true (fm_360 N x0 h8) (fun h12 => ((am_vI (am_pG 3150 x0 h12)).bind fun v14 => some (.inl (some (.int v14), h12)))) else none)) else none) else some (.inl (some (.int 0), h1)))))
theorem rg_357_14 {X : am_X} {d : Nat} {N : Nat} {lv : am_LV} (x0 : Value) (x1 : Int32) (s0 : Value) (s1 : Int32) (h : am_H) (o : am_O) (l0 : lv.lookup 0 = some x0) (l1 : lv.lookup 1 = some (.int x1)) (i0 : am_isR x0 = true) (j0 : am_isR s0 = true) (hs : fg_357_14 N x0 x1 s0 s1 h = some o) : am_W X (d + 4) 357 14 lv [(.int s1), s0] h (fun q => q = o) := by
  unfold fg_357_14 at hs
  obtain ⟨h1, e2, hs1⟩ := am_bind hs
  clear hs
  refine aw_pP (pc1 := 17) at_357_14 e2 rfl ?_
  refine aw_vload_n (pc1 := 18) at_357_17 l0 i0 rfl ?_
  obtain ⟨v3, e4, hs2⟩ := am_bind hs1
  clear hs1
  refine aw_pG (pc1 := 21) at_357_18 (am_vI_s e4) rfl ?_
  by_cases c5 : v3 ≤ 0
  · rw [if_pos c5] at hs2
    refine aw_ifle_t at_357_21 c5 ?_
    refine aw_vload_n (pc1 := 27) at_357_26 l0 i0 rfl ?_
    refine aw_iload_n (pc1 := 28) at_357_27 l1 rfl ?_
    obtain ⟨z6, hs3⟩ := am_ift hs2
    clear hs2
    refine aw_call (F := fm_359 N x0 x1 h1) (t := true) (na := 2) (kd := 1) (as := [x0, (.int x1)]) at_357_28 (am_k3v kb_359) mn_359 mk_359 rfl rfl (am_ok_v mi_359 (am_hl rfl (am_ccR i0 (am_ccI am_cats_0)) rfl) z6) (am_hc am_cats_0 rfl) (fun _ => ⟨rfl, hh_357⟩) (fun o1 hz9 => rm_359 x0 x1 h1 o1 i0 hz9) ?_
    rcases am_cV_s hs3 with ⟨h8, f9, hs4⟩ | hs4
    · clear hs3
      refine Or.inl ⟨_, _, f9, ?_⟩
      show am_W X _ 357 31 _ [] h8 _
      refine aw_vload_n (pc1 := 32) at_357_31 l0 i0 rfl ?_
      obtain ⟨z10, hs5⟩ := am_ift hs4
      clear hs4
      refine aw_call (F := fm_360 N x0 h8) (t := true) (na := 1) (kd := 1) (as := [x0]) at_357_32 (am_k3v kb_360) mn_360 mk_360 rfl rfl (am_ok_v mi_360 (am_hl rfl (am_ccR i0 am_cats_0) rfl) z10) (am_hc am_cats_0 rfl) (fun _ => ⟨rfl, hh_357⟩) (fun o1 hz9 => rm_360 x0 h8 o1 i0 hz9) ?_
      rcases am_cV_s hs5 with ⟨h12, f13, hs6⟩ | hs6
      · clear hs5
        refine Or.inl ⟨_, _, f13, ?_⟩
        show am_W X _ 357 35 _ [] h12 _
        refine aw_vload_n (pc1 := 36) at_357_35 l0 i0 rfl ?_
        obtain ⟨v14, e15, hs7⟩ := am_bind hs6
        clear hs6
        refine aw_pG (pc1 := 39) at_357_36 (am_vI_s e15) rfl ?_
        cases hs7
        exact aw_iret at_357_39 (by rw [rt_357]; rfl) rfl
      · clear hs5
        exact Or.inr hs6
    · clear hs3
      exact Or.inr hs4
  · rw [if_neg c5] at hs2
    refine aw_ifle_f (pc1 := 24) at_357_21 c5 rfl ?_
    refine aw_iconst (v := 0) (pc1 := 25) at_357_24 (by decide) rfl ?_
    cases hs2
    exact aw_iret at_357_25 (by rw [rt_357]; rfl) rfl
def fg_357_0 (N : Nat) (x0 : Value) (x1 : Int32) (h : am_H) : Option am_O := (if am_pOk 12 x0 h then am_cI true (fm_358 x0 x1 h) (fun v2 h3 => (if v2 = 0 then (fg_357_14 N x0 x1 x0 1 h3) else (fg_357_14 N x0 x1 x0 0 h3))) else none)
theorem rg_357_0 {X : am_X} {d : Nat} {N : Nat} {lv : am_LV} (x0 : Value) (x1 : Int32) (h : am_H) (o : am_O) (l0 : lv.lookup 0 = some x0) (l1 : lv.lookup 1 = some (.int x1)) (i0 : am_isR x0 = true) (hs : fg_357_0 N x0 x1 h = some o) : am_W X (d + 4) 357 0 lv [] h (fun q => q = o) := by
  unfold fg_357_0 at hs
  refine aw_vload_n (pc1 := 1) at_357_0 l0 i0 rfl ?_
  refine aw_vload_n (pc1 := 2) at_357_1 l0 i0 rfl ?_
  refine aw_iload_n (pc1 := 3) at_357_2 l1 rfl ?_
  obtain ⟨z1, hs1⟩ := am_ift hs
  clear hs
  refine aw_call (F := fm_358 x0 x1 h) (t := true) (na := 2) (kd := 1) (as := [x0, (.int x1)]) at_357_3 (am_k3v kb_358) mn_358 mk_358 rfl rfl (am_ok_v mi_358 (am_hl rfl (am_ccR i0 (am_ccI am_cats_0)) rfl) z1) (am_hc (am_ccR i0 am_cats_0) rfl) (fun _ => ⟨rfl, hh_357⟩) (fun o1 hz9 => rm_358 x0 x1 h o1 i0 hz9) ?_
  rcases am_cI_s hs1 with ⟨v2, h3, f4, hs2⟩ | hs2
  · clear hs1
    refine Or.inl ⟨_, _, f4, ?_⟩
    show am_W X _ 357 6 _ [(.int v2), x0] h3 _
    by_cases c5 : v2 = 0
    · rw [if_pos c5] at hs2
      refine aw_ifeq_t at_357_6 c5 ?_
      refine aw_iconst (v := 1) (pc1 := 14) at_357_13 (by decide) rfl ?_
      exact rg_357_14 x0 x1 x0 1 h3 o l0 l1 i0 i0 hs2
    · rw [if_neg c5] at hs2
      refine aw_ifeq_f (pc1 := 9) at_357_6 c5 rfl ?_
      refine aw_iconst (v := 0) (pc1 := 10) at_357_9 (by decide) rfl ?_
      refine aw_goto at_357_10 ?_
      exact rg_357_14 x0 x1 x0 0 h3 o l0 l1 i0 i0 hs2
  · clear hs1
    exact Or.inr hs2
def fm_357 (N : Nat) (y0 : Value) (y1 : Int32) (h : am_H) : Option am_O := fg_357_0 N y0 y1 h
theorem rm_357 {X : am_X} {d : Nat} {N : Nat} (y0 : Value) (y1 : Int32) (h : am_H) (o : am_O) (i0 : am_isR y0 = true) (hs : fm_357 N y0 y1 h = some o) : am_W X (d + 4) 357 0 (am_args 0 [y0, .int y1]) [] h (fun q => q = o) := by
  rw [am_args_R i0, am_args_I]
  exact rg_357_0 y0 y1 h o rfl rfl i0 hs
def fg_72_22 (s0 : Int32) (h : am_H) : Option am_O := some (.inl (some (.int s0), h))
theorem rg_72_22 {X : am_X} {d : Nat} {lv : am_LV} (s0 : Int32) (h : am_H) (o : am_O) (hs : fg_72_22 s0 h = some o) : am_W X (d) 72 22 lv [(.int s0)] h (fun q => q = o) := by
  unfold fg_72_22 at hs
  cases hs
  exact aw_iret at_72_22 (by rw [rt_72]; rfl) rfl
def fg_72_21 (h : am_H) : Option am_O := (fg_72_22 ((-1)) h)
theorem rg_72_21 {X : am_X} {d : Nat} {lv : am_LV} (h : am_H) (o : am_O) (hs : fg_72_21 h = some o) : am_W X (d) 72 21 lv [] h (fun q => q = o) := by
  unfold fg_72_21 at hs
  refine aw_iconst (v := (-1)) (pc1 := 22) at_72_21 (by decide) rfl ?_
  exact rg_72_22 ((-1)) h o   hs
def fg_72_0 (x0 : Value) (x1 : Int32) (h : am_H) : Option am_O := (if x1 < 0 then (fg_72_21 h) else ((am_vI (am_pG 2312 x0 h)).bind fun v2 => (if v2 ≤ x1 then (fg_72_21 h) else ((am_vR (am_pG 2311 x0 h)).bind fun v5 => ((am_pA 3 v5 x1 h).bind fun v7 => (fg_72_22 v7 h))))))
theorem rg_72_0 {X : am_X} {d : Nat} {lv : am_LV} (x0 : Value) (x1 : Int32) (h : am_H) (o : am_O) (l0 : lv.lookup 0 = some x0) (l1 : lv.lookup 1 = some (.int x1)) (i0 : am_isR x0 = true) (hs : fg_72_0 x0 x1 h = some o) : am_W X (d) 72 0 lv [] h (fun q => q = o) := by
  unfold fg_72_0 at hs
  refine aw_iload_n (pc1 := 1) at_72_0 l1 rfl ?_
  by_cases c1 : x1 < 0
  · rw [if_pos c1] at hs
    refine aw_iflt_t at_72_1 c1 ?_
    exact rg_72_21 h o   hs
  · rw [if_neg c1] at hs
    refine aw_iflt_f (pc1 := 4) at_72_1 c1 rfl ?_
    refine aw_iload_n (pc1 := 5) at_72_4 l1 rfl ?_
    refine aw_vload_n (pc1 := 6) at_72_5 l0 i0 rfl ?_
    obtain ⟨v2, e3, hs1⟩ := am_bind hs
    clear hs
    refine aw_pG (pc1 := 9) at_72_6 (am_vI_s e3) rfl ?_
    by_cases c4 : v2 ≤ x1
    · rw [if_pos c4] at hs1
      refine aw_icge_t at_72_9 c4 ?_
      exact rg_72_21 h o   hs1
    · rw [if_neg c4] at hs1
      refine aw_icge_f (pc1 := 12) at_72_9 c4 rfl ?_
      refine aw_vload_n (pc1 := 13) at_72_12 l0 i0 rfl ?_
      obtain ⟨v5, e6, hs2⟩ := am_bind hs1
      clear hs1
      refine aw_pG (pc1 := 16) at_72_13 (am_vR_s e6).1 rfl ?_
      refine aw_iload_n (pc1 := 17) at_72_16 l1 rfl ?_
      obtain ⟨v7, e8, hs3⟩ := am_bind hs2
      clear hs2
      refine aw_pA (pc1 := 18) at_72_17 (Or.inr (Or.inr ⟨rfl, rfl⟩)) e8 rfl ?_
      refine aw_goto at_72_18 ?_
      exact rg_72_22 v7 h o   hs3
def fm_72 (y0 : Value) (y1 : Int32) (h : am_H) : Option am_O := fg_72_0 y0 y1 h
theorem rm_72 {X : am_X} {d : Nat} (y0 : Value) (y1 : Int32) (h : am_H) (o : am_O) (i0 : am_isR y0 = true) (hs : fm_72 y0 y1 h = some o) : am_W X (d) 72 0 (am_args 0 [y0, .int y1]) [] h (fun q => q = o) := by
  rw [am_args_R i0, am_args_I]
  exact rg_72_0 y0 y1 h o rfl rfl i0 hs
def fg_71_34 (N : Nat) (s0 : Int32) (h : am_H) : Option am_O := some (.inl (some (.int s0), h))
theorem rg_71_34 {X : am_X} {d : Nat} {N : Nat} {lv : am_LV} (s0 : Int32) (h : am_H) (o : am_O) (hs : fg_71_34 N s0 h = some o) : am_W X (d + 122) 71 34 lv [(.int s0)] h (fun q => q = o) := by
  unfold fg_71_34 at hs
  cases hs
  exact aw_iret at_71_34 (by rw [rt_71]; rfl) rfl
def fg_71_33 (N : Nat) (h : am_H) : Option am_O := (fg_71_34 N ((-1)) h)
theorem rg_71_33 {X : am_X} {d : Nat} {N : Nat} {lv : am_LV} (h : am_H) (o : am_O) (hs : fg_71_33 N h = some o) : am_W X (d + 122) 71 33 lv [] h (fun q => q = o) := by
  unfold fg_71_33 at hs
  refine aw_iconst (v := (-1)) (pc1 := 34) at_71_33 (by decide) rfl ?_
  exact rg_71_34 ((-1)) h o   hs
def fg_71_0 (N : Nat) (x0 : Value) (x1 : Int32) (x2 : Int32) (h : am_H) : Option am_O := ((am_vR (am_pG 2818 x0 h)).bind fun v1 => (if am_pOk 11 x0 h then am_cR true (fm_63 x0 x1 h) (fun v4 h5 => (if am_pOk 9 v1 h5 then am_cI true (fm_64 N v1 v4 h5) (fun v8 h9 => (if x2 < 0 then (fg_71_33 N h9) else (if v8 ≤ x2 then (fg_71_33 N h9) else ((am_vR (am_pG 2818 x0 h9)).bind fun v13 => (if am_pOk 9 v13 h9 then am_cI true (fm_72 v13 x2 h9) (fun v16 h17 => (fg_71_34 N v16 h17)) else none))))) else none)) else none))
theorem rg_71_0 {X : am_X} {d : Nat} {N : Nat} {lv : am_LV} (x0 : Value) (x1 : Int32) (x2 : Int32) (h : am_H) (o : am_O) (l0 : lv.lookup 0 = some x0) (l1 : lv.lookup 1 = some (.int x1)) (l2 : lv.lookup 2 = some (.int x2)) (i0 : am_isR x0 = true) (hs : fg_71_0 N x0 x1 x2 h = some o) : am_W X (d + 122) 71 0 lv [] h (fun q => q = o) := by
  unfold fg_71_0 at hs
  refine aw_vload_n (pc1 := 1) at_71_0 l0 i0 rfl ?_
  obtain ⟨v1, e2, hs1⟩ := am_bind hs
  clear hs
  refine aw_pG (pc1 := 4) at_71_1 (am_vR_s e2).1 rfl ?_
  refine aw_vload_n (pc1 := 5) at_71_4 l0 i0 rfl ?_
  refine aw_iload_n (pc1 := 6) at_71_5 l1 rfl ?_
  obtain ⟨z3, hs2⟩ := am_ift hs1
  clear hs1
  refine aw_call (F := fm_63 x0 x1 h) (t := true) (na := 2) (kd := 1) (as := [x0, (.int x1)]) at_71_6 (am_k3v kb_63) mn_63 mk_63 rfl rfl (am_ok_v mi_63 (am_hl rfl (am_ccR i0 (am_ccI am_cats_0)) rfl) z3) (am_hc (am_ccR (am_vR_s e2).2 am_cats_0) rfl) (fun _ => ⟨rfl, hh_71⟩) (fun o1 hz9 => rm_63 x0 x1 h o1 i0 hz9) ?_
  rcases am_cR_s hs2 with ⟨v4, h5, f6, iv4, hs3⟩ | hs3
  · clear hs2
    refine Or.inl ⟨_, _, f6, ?_⟩
    show am_W X _ 71 9 _ [v4, v1] h5 _
    obtain ⟨z7, hs4⟩ := am_ift hs3
    clear hs3
    refine aw_call (F := fm_64 N v1 v4 h5) (t := true) (na := 2) (kd := 1) (as := [v1, v4]) at_71_9 (am_k3v kb_64) mn_64 mk_64 rfl rfl (am_ok_v mi_64 (am_hl rfl (am_ccR (am_vR_s e2).2 (am_ccR iv4 am_cats_0)) rfl) z7) (am_hc am_cats_0 rfl) (fun _ => ⟨rfl, hh_71⟩) (fun o1 hz9 => rm_64 v1 v4 h5 o1 (am_vR_s e2).2 iv4 hz9) ?_
    rcases am_cI_s hs4 with ⟨v8, h9, f10, hs5⟩ | hs5
    · clear hs4
      refine Or.inl ⟨_, _, f10, ?_⟩
      show am_W X _ 71 12 _ [(.int v8)] h9 _
      refine aw_istore_n (lv1 := am_put1 _ 3 _) (pc1 := 13) at_71_12 rfl rfl ?_
      refine aw_iload_n (pc1 := 14) at_71_13 (am_lk1 l2 rfl rfl) rfl ?_
      by_cases c11 : x2 < 0
      · rw [if_pos c11] at hs5
        refine aw_iflt_t at_71_14 c11 ?_
        exact rg_71_33 h9 o   hs5
      · rw [if_neg c11] at hs5
        refine aw_iflt_f (pc1 := 17) at_71_14 c11 rfl ?_
        refine aw_iload_n (pc1 := 18) at_71_17 (am_lk1 l2 rfl rfl) rfl ?_
        refine aw_iload_n (pc1 := 19) at_71_18 am_lk0 rfl ?_
        by_cases c12 : v8 ≤ x2
        · rw [if_pos c12] at hs5
          refine aw_icge_t at_71_19 c12 ?_
          exact rg_71_33 h9 o   hs5
        · rw [if_neg c12] at hs5
          refine aw_icge_f (pc1 := 22) at_71_19 c12 rfl ?_
          refine aw_vload_n (pc1 := 23) at_71_22 (am_lk1 l0 rfl rfl) i0 rfl ?_
          obtain ⟨v13, e14, hs6⟩ := am_bind hs5
          clear hs5
          refine aw_pG (pc1 := 26) at_71_23 (am_vR_s e14).1 rfl ?_
          refine aw_iload_n (pc1 := 27) at_71_26 (am_lk1 l2 rfl rfl) rfl ?_
          obtain ⟨z15, hs7⟩ := am_ift hs6
          clear hs6
          refine aw_call (F := fm_72 v13 x2 h9) (t := true) (na := 2) (kd := 1) (as := [v13, (.int x2)]) at_71_27 (am_k3v kb_72) mn_72 mk_72 rfl rfl (am_ok_v mi_72 (am_hl rfl (am_ccR (am_vR_s e14).2 (am_ccI am_cats_0)) rfl) z15) (am_hc am_cats_0 rfl) (fun _ => ⟨rfl, hh_71⟩) (fun o1 hz9 => rm_72 v13 x2 h9 o1 (am_vR_s e14).2 hz9) ?_
          rcases am_cI_s hs7 with ⟨v16, h17, f18, hs8⟩ | hs8
          · clear hs7
            refine Or.inl ⟨_, _, f18, ?_⟩
            show am_W X _ 71 30 _ [(.int v16)] h17 _
            refine aw_goto at_71_30 ?_
            exact rg_71_34 v16 h17 o   hs8
          · clear hs7
            exact Or.inr hs8
    · clear hs4
      exact Or.inr hs5
  · clear hs2
    exact Or.inr hs3
def fm_71 (N : Nat) (y0 : Value) (y1 : Int32) (y2 : Int32) (h : am_H) : Option am_O := fg_71_0 N y0 y1 y2 h
theorem rm_71 {X : am_X} {d : Nat} {N : Nat} (y0 : Value) (y1 : Int32) (y2 : Int32) (h : am_H) (o : am_O) (i0 : am_isR y0 = true) (hs : fm_71 N y0 y1 y2 h = some o) : am_W X (d + 122) 71 0 (am_args 0 [y0, .int y1, .int y2]) [] h (fun q => q = o) := by
  rw [am_args_R i0, am_args_I, am_args_I]
  exact rg_71_0 y0 y1 y2 h o rfl rfl rfl i0 hs
def fg_70_15 (N : Nat) (h : am_H) : Option am_O := some (.inl (some (.int 1), h))
theorem rg_70_15 {X : am_X} {d : Nat} {N : Nat} {lv : am_LV} (h : am_H) (o : am_O) (hs : fg_70_15 N h = some o) : am_W X (d + 123) 70 15 lv [] h (fun q => q = o) := by
  unfold fg_70_15 at hs
  refine aw_iconst (v := 1) (pc1 := 16) at_70_15 (by decide) rfl ?_
  cases hs
  exact aw_iret at_70_16 (by rw [rt_70]; rfl) rfl
def fg_70_0 (N : Nat) (x0 : Value) (x1 : Int32) (x2 : Int32) (x3 : Value) (h : am_H) : Option am_O := (if am_pOk 11 x0 h then (match fm_71 N x0 x1 x2 h with | some (.inl (some (.int v2), h3)) => ((am_pSL x3 0 (Int32.toInt64 v2) h3).bind fun h5 => some (.inl (some (.int 0), h5))) | some (.inr (2, h7)) => (fg_70_15 N h7) | _ => none) else none)
theorem rg_70_0 {X : am_X} {d : Nat} {N : Nat} {lv : am_LV} (x0 : Value) (x1 : Int32) (x2 : Int32) (x3 : Value) (h : am_H) (o : am_O) (l0 : lv.lookup 0 = some x0) (l1 : lv.lookup 1 = some (.int x1)) (l2 : lv.lookup 2 = some (.int x2)) (l3 : lv.lookup 3 = some x3) (i0 : am_isR x0 = true) (i3 : am_isR x3 = true) (hs : fg_70_0 N x0 x1 x2 x3 h = some o) : am_W X (d + 123) 70 0 lv [] h (fun q => q = o) := by
  unfold fg_70_0 at hs
  refine aw_vload_n (pc1 := 1) at_70_0 l3 i3 rfl ?_
  refine aw_iconst (v := 0) (pc1 := 2) at_70_1 (by decide) rfl ?_
  refine aw_vload_n (pc1 := 3) at_70_2 l0 i0 rfl ?_
  refine aw_iload_n (pc1 := 4) at_70_3 l1 rfl ?_
  refine aw_iload_n (pc1 := 5) at_70_4 l2 rfl ?_
  obtain ⟨z1, hs1⟩ := am_ift hs
  clear hs
  refine aw_callH (F := fm_71 N x0 x1 x2 h) (na := 3) (kd := 1) (as := [x0, (.int x1), (.int x2)]) at_70_5 (am_k3v kb_71) mn_71 mk_71 rfl rfl (am_ok_v mi_71 (am_hl rfl (am_ccR i0 (am_ccI (am_ccI am_cats_0))) rfl) z1) (am_hc (am_ccI (am_ccR i3 am_cats_0)) rfl) (fun o1 hz9 => rm_71 x0 x1 x2 h o1 i0 hz9) ?_
  split at hs1
  · rename_i v2 h3 f4
    refine Or.inl ⟨_, _, f4, ?_⟩
    show am_W X _ 70 8 _ [(.int v2), (.int 0), x3] h3 _
    refine aw_i2l (v := (Int32.toInt64 v2)) (pc1 := 9) at_70_8 rfl rfl ?_
    obtain ⟨h5, e6, hs2⟩ := am_bind hs1
    clear hs1
    refine aw_pSL (pc1 := 10) at_70_9 e6 rfl ?_
    refine aw_goto at_70_10 ?_
    refine aw_iconst (v := 0) (pc1 := 18) at_70_17 (by decide) rfl ?_
    cases hs2
    exact aw_iret at_70_18 (by rw [rt_70]; rfl) rfl
  · rename_i h7 f8
    refine Or.inr ⟨_, _, 15, 4, f8, rfl, hn_70, hd_70_5_2, ?_⟩
    exact rg_70_15 h7 o   hs1
  · cases hs1
def fm_70 (N : Nat) (y0 : Value) (y1 : Int32) (y2 : Int32) (y3 : Value) (h : am_H) : Option am_O := fg_70_0 N y0 y1 y2 y3 h
theorem rm_70 {X : am_X} {d : Nat} {N : Nat} (y0 : Value) (y1 : Int32) (y2 : Int32) (y3 : Value) (h : am_H) (o : am_O) (i0 : am_isR y0 = true) (i3 : am_isR y3 = true) (hs : fm_70 N y0 y1 y2 y3 h = some o) : am_W X (d + 123) 70 0 (am_args 0 [y0, .int y1, .int y2, y3]) [] h (fun q => q = o) := by
  rw [am_args_R i0, am_args_I, am_args_I, am_args_R i3]
  exact rg_70_0 y0 y1 y2 y3 h o rfl rfl rfl rfl i0 i3 hs
def fg_368_61 (N : Nat) (s0 : Int32) (h : am_H) : Option am_O := some (.inl (some (.int s0), h))
theorem rg_368_61 {X : am_X} {d : Nat} {N : Nat} {lv : am_LV} (s0 : Int32) (h : am_H) (o : am_O) (hs : fg_368_61 N s0 h = some o) : am_W X (d + 4) 368 61 lv [(.int s0)] h (fun q => q = o) := by
  unfold fg_368_61 at hs
  cases hs
  exact aw_iret at_368_61 (by rw [rt_368]; rfl) rfl
def fg_368_14 (N : Nat) (x0 : Value) (x1 : Int32) (x2 : Int32) (s0 : Value) (s1 : Int32) (h : am_H) : Option am_O := ((am_pP 3072 s0 (.int s1) h).bind fun h1 => ((am_vI (am_pG 3072 x0 h1)).bind fun v3 => (if v3 ≤ 0 then (if am_pOk 12 x0 h1 then am_cV true (fm_359 N x0 x1 h1) (fun h8 => (if am_pOk 12 x0 h8 then am_cV true (fm_360 N x0 h8) (fun h12 => ((am_vI (am_pG 3150 x0 h12)).bind fun v14 => am_cI false (fm_327 ((Int32.toInt64 x2)) 0 (((Int32.toInt64 v14) - 1)) h12) (fun v16 h17 => (if v16 = 0 then (fg_368_61 N ((-1)) h17) else ((am_vR (am_pG 3151 x0 h17)).bind fun v20 => ((am_pA 0 v20 x2 h17).bind fun v22 => (fg_368_61 N v22 h17))))))) else none)) else none) else some (.inl (some (.int 0), h1)))))
theorem rg_368_14 {X : am_X} {d : Nat} {N : Nat} {lv : am_LV} (x0 : Value) (x1 : Int32) (x2 : Int32) (s0 : Value) (s1 : Int32) (h : am_H) (o : am_O) (l0 : lv.lookup 0 = some x0) (l1 : lv.lookup 1 = some (.int x1)) (l2 : lv.lookup 2 = some (.int x2)) (i0 : am_isR x0 = true) (j0 : am_isR s0 = true) (hs : fg_368_14 N x0 x1 x2 s0 s1 h = some o) : am_W X (d + 4) 368 14 lv [(.int s1), s0] h (fun q => q = o) := by
  unfold fg_368_14 at hs
  obtain ⟨h1, e2, hs1⟩ := am_bind hs
  clear hs
  refine aw_pP (pc1 := 17) at_368_14 e2 rfl ?_
  refine aw_vload_n (pc1 := 18) at_368_17 l0 i0 rfl ?_
  obtain ⟨v3, e4, hs2⟩ := am_bind hs1
  clear hs1
  refine aw_pG (pc1 := 21) at_368_18 (am_vI_s e4) rfl ?_
  by_cases c5 : v3 ≤ 0
  · rw [if_pos c5] at hs2
    refine aw_ifle_t at_368_21 c5 ?_
    refine aw_vload_n (pc1 := 27) at_368_26 l0 i0 rfl ?_
    refine aw_iload_n (pc1 := 28) at_368_27 l1 rfl ?_
    obtain ⟨z6, hs3⟩ := am_ift hs2
    clear hs2
    refine aw_call (F := fm_359 N x0 x1 h1) (t := true) (na := 2) (kd := 1) (as := [x0, (.int x1)]) at_368_28 (am_k3v kb_359) mn_359 mk_359 rfl rfl (am_ok_v mi_359 (am_hl rfl (am_ccR i0 (am_ccI am_cats_0)) rfl) z6) (am_hc am_cats_0 rfl) (fun _ => ⟨rfl, hh_368⟩) (fun o1 hz9 => rm_359 x0 x1 h1 o1 i0 hz9) ?_
    rcases am_cV_s hs3 with ⟨h8, f9, hs4⟩ | hs4
    · clear hs3
      refine Or.inl ⟨_, _, f9, ?_⟩
      show am_W X _ 368 31 _ [] h8 _
      refine aw_vload_n (pc1 := 32) at_368_31 l0 i0 rfl ?_
      obtain ⟨z10, hs5⟩ := am_ift hs4
      clear hs4
      refine aw_call (F := fm_360 N x0 h8) (t := true) (na := 1) (kd := 1) (as := [x0]) at_368_32 (am_k3v kb_360) mn_360 mk_360 rfl rfl (am_ok_v mi_360 (am_hl rfl (am_ccR i0 am_cats_0) rfl) z10) (am_hc am_cats_0 rfl) (fun _ => ⟨rfl, hh_368⟩) (fun o1 hz9 => rm_360 x0 h8 o1 i0 hz9) ?_
      rcases am_cV_s hs5 with ⟨h12, f13, hs6⟩ | hs6
      · clear hs5
        refine Or.inl ⟨_, _, f13, ?_⟩
        show am_W X _ 368 35 _ [] h12 _
        refine aw_iload_n (pc1 := 36) at_368_35 l2 rfl ?_
        refine aw_i2l (v := (Int32.toInt64 x2)) (pc1 := 37) at_368_36 rfl rfl ?_
        refine aw_lconst (v := 0) (pc1 := 38) at_368_37 (by decide) rfl ?_
        refine aw_vload_n (pc1 := 39) at_368_38 l0 i0 rfl ?_
        obtain ⟨v14, e15, hs7⟩ := am_bind hs6
        clear hs6
        refine aw_pG (pc1 := 42) at_368_39 (am_vI_s e15) rfl ?_
        refine aw_i2l (v := (Int32.toInt64 v14)) (pc1 := 43) at_368_42 rfl rfl ?_
        refine aw_lconst (v := 1) (pc1 := 44) at_368_43 (by decide) rfl ?_
        refine aw_lsub (v := ((Int32.toInt64 v14) - 1)) (pc1 := 45) at_368_44 rfl rfl ?_
        refine aw_call (F := fm_327 ((Int32.toInt64 x2)) 0 (((Int32.toInt64 v14) - 1)) h12) (t := false) (na := 3) (kd := 0) (as := [(.long (Int32.toInt64 x2)), (.long 0), (.long ((Int32.toInt64 v14) - 1))]) at_368_45 (am_k3s kb_327) mn_327 mk_327 rfl rfl (am_ok_s mi_327 (am_hl rfl (am_ccL (am_ccL (am_ccL am_cats_0))) rfl)) (am_hc am_cats_0 rfl) (fun hz9 => by cases hz9) (fun o1 hz9 => rm_327 ((Int32.toInt64 x2)) 0 (((Int32.toInt64 v14) - 1)) h12 o1  hz9) ?_
        rcases am_cI_s hs7 with ⟨v16, h17, f18, hs8⟩ | hs8
        · clear hs7
          refine Or.inl ⟨_, _, f18, ?_⟩
          show am_W X _ 368 48 _ [(.int v16)] h17 _
          by_cases c19 : v16 = 0
          · rw [if_pos c19] at hs8
            refine aw_ifeq_t at_368_48 c19 ?_
            refine aw_iconst (v := (-1)) (pc1 := 61) at_368_60 (by decide) rfl ?_
            exact rg_368_61 ((-1)) h17 o   hs8
          · rw [if_neg c19] at hs8
            refine aw_ifeq_f (pc1 := 51) at_368_48 c19 rfl ?_
            refine aw_vload_n (pc1 := 52) at_368_51 l0 i0 rfl ?_
            obtain ⟨v20, e21, hs9⟩ := am_bind hs8
            clear hs8
            refine aw_pG (pc1 := 55) at_368_52 (am_vR_s e21).1 rfl ?_
            refine aw_iload_n (pc1 := 56) at_368_55 l2 rfl ?_
            obtain ⟨v22, e23, hs10⟩ := am_bind hs9
            clear hs9
            refine aw_pA (pc1 := 57) at_368_56 (Or.inl ⟨rfl, rfl⟩) e23 rfl ?_
            refine aw_goto at_368_57 ?_
            exact rg_368_61 v22 h17 o   hs10
        · clear hs7
          exact Or.inr hs8
      · clear hs5
        exact Or.inr hs6
    · clear hs3
      exact Or.inr hs4
  · rw [if_neg c5] at hs2
    refine aw_ifle_f (pc1 := 24) at_368_21 c5 rfl ?_
    refine aw_iconst (v := 0) (pc1 := 25) at_368_24 (by decide) rfl ?_
    cases hs2
    exact aw_iret at_368_25 (by rw [rt_368]; rfl) rfl
def fg_368_0 (N : Nat) (x0 : Value) (x1 : Int32) (x2 : Int32) (h : am_H) : Option am_O := (if am_pOk 12 x0 h then am_cI true (fm_358 x0 x1 h) (fun v2 h3 => (if v2 = 0 then (fg_368_14 N x0 x1 x2 x0 1 h3) else (fg_368_14 N x0 x1 x2 x0 0 h3))) else none)
theorem rg_368_0 {X : am_X} {d : Nat} {N : Nat} {lv : am_LV} (x0 : Value) (x1 : Int32) (x2 : Int32) (h : am_H) (o : am_O) (l0 : lv.lookup 0 = some x0) (l1 : lv.lookup 1 = some (.int x1)) (l2 : lv.lookup 2 = some (.int x2)) (i0 : am_isR x0 = true) (hs : fg_368_0 N x0 x1 x2 h = some o) : am_W X (d + 4) 368 0 lv [] h (fun q => q = o) := by
  unfold fg_368_0 at hs
  refine aw_vload_n (pc1 := 1) at_368_0 l0 i0 rfl ?_
  refine aw_vload_n (pc1 := 2) at_368_1 l0 i0 rfl ?_
  refine aw_iload_n (pc1 := 3) at_368_2 l1 rfl ?_
  obtain ⟨z1, hs1⟩ := am_ift hs
  clear hs
  refine aw_call (F := fm_358 x0 x1 h) (t := true) (na := 2) (kd := 1) (as := [x0, (.int x1)]) at_368_3 (am_k3v kb_358) mn_358 mk_358 rfl rfl (am_ok_v mi_358 (am_hl rfl (am_ccR i0 (am_ccI am_cats_0)) rfl) z1) (am_hc (am_ccR i0 am_cats_0) rfl) (fun _ => ⟨rfl, hh_368⟩) (fun o1 hz9 => rm_358 x0 x1 h o1 i0 hz9) ?_
  rcases am_cI_s hs1 with ⟨v2, h3, f4, hs2⟩ | hs2
  · clear hs1
    refine Or.inl ⟨_, _, f4, ?_⟩
    show am_W X _ 368 6 _ [(.int v2), x0] h3 _
    by_cases c5 : v2 = 0
    · rw [if_pos c5] at hs2
      refine aw_ifeq_t at_368_6 c5 ?_
      refine aw_iconst (v := 1) (pc1 := 14) at_368_13 (by decide) rfl ?_
      exact rg_368_14 x0 x1 x2 x0 1 h3 o l0 l1 l2 i0 i0 hs2
    · rw [if_neg c5] at hs2
      refine aw_ifeq_f (pc1 := 9) at_368_6 c5 rfl ?_
      refine aw_iconst (v := 0) (pc1 := 10) at_368_9 (by decide) rfl ?_
      refine aw_goto at_368_10 ?_
      exact rg_368_14 x0 x1 x2 x0 0 h3 o l0 l1 l2 i0 i0 hs2
  · clear hs1
    exact Or.inr hs2
def fm_368 (N : Nat) (y0 : Value) (y1 : Int32) (y2 : Int32) (h : am_H) : Option am_O := fg_368_0 N y0 y1 y2 h
theorem rm_368 {X : am_X} {d : Nat} {N : Nat} (y0 : Value) (y1 : Int32) (y2 : Int32) (h : am_H) (o : am_O) (i0 : am_isR y0 = true) (hs : fm_368 N y0 y1 y2 h = some o) : am_W X (d + 4) 368 0 (am_args 0 [y0, .int y1, .int y2]) [] h (fun q => q = o) := by
  rw [am_args_R i0, am_args_I, am_args_I]
  exact rg_368_0 y0 y1 y2 h o rfl rfl rfl i0 hs
