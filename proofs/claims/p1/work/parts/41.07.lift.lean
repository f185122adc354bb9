/-! ===== methods as functions ===== -/
def fg_487_38 (N : Nat) (x0 : Value) (s0 : Int32) (h : am_H) : Option am_O := (if ¬ s0 = 0 then (if am_pOk 12 x0 h then am_cI true (fm_474 x0 s0 h) (fun v3 h4 => ((am_pP 3169 x0 (.int v3) h4).bind fun h6 => ((am_vI (am_pG 3169 x0 h6)).bind fun v8 => (if am_pOk 12 x0 h6 then am_cI true (fm_481 N x0 v8 h6) (fun v11 h12 => some (.inl (none, h12))) else none)))) else none) else (if am_pOk 12 x0 h then am_cV true (fm_442 N x0 h) (fun h16 => some (.inl (none, h16))) else none))
theorem rg_487_38 {X : am_X} {d : Nat} {N : Nat} {lv : am_LV} (x0 : Value) (s0 : Int32) (h : am_H) (o : am_O) (l0 : lv.lookup 0 = some x0) (i0 : am_isR x0 = true) (hs : fg_487_38 N x0 s0 h = some o) : am_W X (d + 6) 487 38 lv [(.int s0)] h (fun q => q = o) := by
  unfold fg_487_38 at hs
  refine aw_istore (lv1 := am_put1 _ 5 _) (pc1 := 40) at_487_38 rfl rfl ?_
  refine aw_iload (pc1 := 42) at_487_40 am_lk0 rfl ?_
  by_cases c1 : ¬ s0 = 0
  · rw [if_pos c1] at hs
    refine aw_ifne_t at_487_42 c1 ?_
    refine aw_vload_n (pc1 := 51) at_487_50 (am_lk1 l0 rfl rfl) i0 rfl ?_
    refine aw_vload_n (pc1 := 52) at_487_51 (am_lk1 l0 rfl rfl) i0 rfl ?_
    refine aw_iload (pc1 := 54) at_487_52 am_lk0 rfl ?_
    obtain ⟨z2, hs1⟩ := am_ift hs
    clear hs
    refine aw_call (F := fm_474 x0 s0 h) (t := true) (na := 2) (kd := 1) (as := [x0, (.int s0)]) at_487_54 (am_k3v kb_474) mn_474 mk_474 rfl rfl (am_ok_v mi_474 (am_hl rfl (am_ccR i0 (am_ccI am_cats_0)) rfl) z2) (am_hc (am_ccR i0 am_cats_0) rfl) (fun _ => ⟨rfl, hh_487⟩) (fun o1 hz9 => rm_474 x0 s0 h o1 i0 hz9) ?_
    rcases am_cI_s hs1 with ⟨v3, h4, f5, hs2⟩ | hs2
    · clear hs1
      refine Or.inl ⟨_, _, f5, ?_⟩
      show am_W X _ 487 57 _ [(.int v3), x0] h4 _
      obtain ⟨h6, e7, hs3⟩ := am_bind hs2
      clear hs2
      refine aw_pP (pc1 := 60) at_487_57 e7 rfl ?_
      refine aw_vload_n (pc1 := 61) at_487_60 (am_lk1 l0 rfl rfl) i0 rfl ?_
      refine aw_vload_n (pc1 := 62) at_487_61 (am_lk1 l0 rfl rfl) i0 rfl ?_
      obtain ⟨v8, e9, hs4⟩ := am_bind hs3
      clear hs3
      refine aw_pG (pc1 := 65) at_487_62 (am_vI_s e9) rfl ?_
      obtain ⟨z10, hs5⟩ := am_ift hs4
      clear hs4
      refine aw_call (F := fm_481 N x0 v8 h6) (t := true) (na := 2) (kd := 1) (as := [x0, (.int v8)]) at_487_65 (am_k3v kb_481) mn_481 mk_481 rfl rfl (am_ok_v mi_481 (am_hl rfl (am_ccR i0 (am_ccI am_cats_0)) rfl) z10) (am_hc am_cats_0 rfl) (fun _ => ⟨rfl, hh_487⟩) (fun o1 hz9 => rm_481 x0 v8 h6 o1 i0 hz9) ?_
      rcases am_cI_s hs5 with ⟨v11, h12, f13, hs6⟩ | hs6
      · clear hs5
        refine Or.inl ⟨_, _, f13, ?_⟩
        show am_W X _ 487 68 _ [(.int v11)] h12 _
        refine aw_popi (pc1 := 69) at_487_68 rfl ?_
        cases hs6
        exact aw_vret at_487_69 rt_487 rfl
      · clear hs5
        exact Or.inr hs6
    · clear hs1
      exact Or.inr hs2
  · rw [if_neg c1] at hs
    refine aw_ifne_f (pc1 := 45) at_487_42 c1 rfl ?_
    refine aw_vload_n (pc1 := 46) at_487_45 (am_lk1 l0 rfl rfl) i0 rfl ?_
    obtain ⟨z14, hs7⟩ := am_ift hs
    clear hs
    refine aw_call (F := fm_442 N x0 h) (t := true) (na := 1) (kd := 1) (as := [x0]) at_487_46 (am_k3v kb_442) mn_442 mk_442 rfl rfl (am_ok_v mi_442 (am_hl rfl (am_ccR i0 am_cats_0) rfl) z14) (am_hc am_cats_0 rfl) (fun _ => ⟨rfl, hh_487⟩) (fun o1 hz9 => rm_442 x0 h o1 i0 hz9) ?_
    rcases am_cV_s hs7 with ⟨h16, f17, hs8⟩ | hs8
    · clear hs7
      refine Or.inl ⟨_, _, f17, ?_⟩
      show am_W X _ 487 49 _ [] h16 _
      cases hs8
      exact aw_vret at_487_49 rt_487 rfl
    · clear hs7
      exact Or.inr hs8
def fg_487_0 (N : Nat) (x0 : Value) (x1 : Int32) (x2 : Int32) (x3 : Int64) (h : am_H) : Option am_O := ((am_pP 3168 x0 (.long x3) h).bind fun h1 => ((am_pP 3169 x0 (.int (-1)) h1).bind fun h3 => (if am_pOk 12 x0 h3 then am_cV true (fm_391 N x0 x1 h3) (fun h7 => (if am_pOk 12 x0 h7 then am_cV true (fm_480 N x0 x2 h7) (fun h11 => (if am_pOk 12 x0 h11 then am_cI true (fm_479 x0 x1 x2 h11) (fun v14 h15 => (if v14 = 0 then (fg_487_38 N x0 0 h15) else (if am_pOk 12 x0 h15 then am_cI true (fm_481 N x0 ((-1)) h15) (fun v19 h20 => (fg_487_38 N x0 v19 h20)) else none))) else none)) else none)) else none)))
theorem rg_487_0 {X : am_X} {d : Nat} {N : Nat} {lv : am_LV} (x0 : Value) (x1 : Int32) (x2 : Int32) (x3 : Int64) (h : am_H) (o : am_O) (l0 : lv.lookup 0 = some x0) (l1 : lv.lookup 1 = some (.int x1)) (l2 : lv.lookup 2 = some (.int x2)) (l3 : lv.lookup 3 = some (.long x3)) (i0 : am_isR x0 = true) (hs : fg_487_0 N x0 x1 x2 x3 h = some o) : am_W X (d + 6) 487 0 lv [] h (fun q => q = o) := by
  unfold fg_487_0 at hs
  refine aw_vload_n (pc1 := 1) at_487_0 l0 i0 rfl ?_
  refine aw_lload_n (pc1 := 2) at_487_1 l3 rfl ?_
  obtain ⟨h1, e2, hs1⟩ := am_bind hs
  clear hs
  refine aw_pP (pc1 := 5) at_487_2 e2 rfl ?_
  refine aw_vload_n (pc1 := 6) at_487_5 l0 i0 rfl ?_
  refine aw_iconst (v := (-1)) (pc1 := 7) at_487_6 (by decide) rfl ?_
  obtain ⟨h3, e4, hs2⟩ := am_bind hs1
  clear hs1
  refine aw_pP (pc1 := 10) at_487_7 e4 rfl ?_
  refine aw_vload_n (pc1 := 11) at_487_10 l0 i0 rfl ?_
  refine aw_iload_n (pc1 := 12) at_487_11 l1 rfl ?_
  obtain ⟨z5, hs3⟩ := am_ift hs2
  clear hs2
  refine aw_call (F := fm_391 N x0 x1 h3) (t := true) (na := 2) (kd := 1) (as := [x0, (.int x1)]) at_487_12 (am_k3v kb_391) mn_391 mk_391 rfl rfl (am_ok_v mi_391 (am_hl rfl (am_ccR i0 (am_ccI am_cats_0)) rfl) z5) (am_hc am_cats_0 rfl) (fun _ => ⟨rfl, hh_487⟩) (fun o1 hz9 => rm_391 x0 x1 h3 o1 i0 hz9) ?_
  rcases am_cV_s hs3 with ⟨h7, f8, hs4⟩ | hs4
  · clear hs3
    refine Or.inl ⟨_, _, f8, ?_⟩
    show am_W X _ 487 15 _ [] h7 _
    refine aw_vload_n (pc1 := 16) at_487_15 l0 i0 rfl ?_
    refine aw_iload_n (pc1 := 17) at_487_16 l2 rfl ?_
    obtain ⟨z9, hs5⟩ := am_ift hs4
    clear hs4
    refine aw_call (F := fm_480 N x0 x2 h7) (t := true) (na := 2) (kd := 1) (as := [x0, (.int x2)]) at_487_17 (am_k3v kb_480) mn_480 mk_480 rfl rfl (am_ok_v mi_480 (am_hl rfl (am_ccR i0 (am_ccI am_cats_0)) rfl) z9) (am_hc am_cats_0 rfl) (fun _ => ⟨rfl, hh_487⟩) (fun o1 hz9 => rm_480 x0 x2 h7 o1 i0 hz9) ?_
    rcases am_cV_s hs5 with ⟨h11, f12, hs6⟩ | hs6
    · clear hs5
      refine Or.inl ⟨_, _, f12, ?_⟩
      show am_W X _ 487 20 _ [] h11 _
      refine aw_vload_n (pc1 := 21) at_487_20 l0 i0 rfl ?_
      refine aw_iload_n (pc1 := 22) at_487_21 l1 rfl ?_
      refine aw_iload_n (pc1 := 23) at_487_22 l2 rfl ?_
      obtain ⟨z13, hs7⟩ := am_ift hs6
      clear hs6
      refine aw_call (F := fm_479 x0 x1 x2 h11) (t := true) (na := 3) (kd := 1) (as := [x0, (.int x1), (.int x2)]) at_487_23 (am_k3v kb_479) mn_479 mk_479 rfl rfl (am_ok_v mi_479 (am_hl rfl (am_ccR i0 (am_ccI (am_ccI am_cats_0))) rfl) z13) (am_hc am_cats_0 rfl) (fun _ => ⟨rfl, hh_487⟩) (fun o1 hz9 => rm_479 x0 x1 x2 h11 o1 i0 hz9) ?_
      rcases am_cI_s hs7 with ⟨v14, h15, f16, hs8⟩ | hs8
      · clear hs7
        refine Or.inl ⟨_, _, f16, ?_⟩
        show am_W X _ 487 26 _ [(.int v14)] h15 _
        by_cases c17 : v14 = 0
        · rw [if_pos c17] at hs8
          refine aw_ifeq_t at_487_26 c17 ?_
          refine aw_iconst (v := 0) (pc1 := 38) at_487_37 (by decide) rfl ?_
          exact rg_487_38 x0 0 h15 o l0 i0 hs8
        · rw [if_neg c17] at hs8
          refine aw_ifeq_f (pc1 := 29) at_487_26 c17 rfl ?_
          refine aw_vload_n (pc1 := 30) at_487_29 l0 i0 rfl ?_
          refine aw_iconst (v := (-1)) (pc1 := 31) at_487_30 (by decide) rfl ?_
          obtain ⟨z18, hs9⟩ := am_ift hs8
          clear hs8
          refine aw_call (F := fm_481 N x0 ((-1)) h15) (t := true) (na := 2) (kd := 1) (as := [x0, (.int (-1))]) at_487_31 (am_k3v kb_481) mn_481 mk_481 rfl rfl (am_ok_v mi_481 (am_hl rfl (am_ccR i0 (am_ccI am_cats_0)) rfl) z18) (am_hc am_cats_0 rfl) (fun _ => ⟨rfl, hh_487⟩) (fun o1 hz9 => rm_481 x0 ((-1)) h15 o1 i0 hz9) ?_
          rcases am_cI_s hs9 with ⟨v19, h20, f21, hs10⟩ | hs10
          · clear hs9
            refine Or.inl ⟨_, _, f21, ?_⟩
            show am_W X _ 487 34 _ [(.int v19)] h20 _
            refine aw_goto at_487_34 ?_
            exact rg_487_38 x0 v19 h20 o l0 i0 hs10
          · clear hs9
            exact Or.inr hs10
      · clear hs7
        exact Or.inr hs8
    · clear hs5
      exact Or.inr hs6
  · clear hs3
    exact Or.inr hs4
def fm_487 (N : Nat) (y0 : Value) (y1 : Int32) (y2 : Int32) (y3 : Int64) (h : am_H) : Option am_O := fg_487_0 N y0 y1 y2 y3 h
theorem rm_487 {X : am_X} {d : Nat} {N : Nat} (y0 : Value) (y1 : Int32) (y2 : Int32) (y3 : Int64) (h : am_H) (o : am_O) (i0 : am_isR y0 = true) (hs : fm_487 N y0 y1 y2 y3 h = some o) : am_W X (d + 6) 487 0 (am_args 0 [y0, .int y1, .int y2, .long y3]) [] h (fun q => q = o) := by
  rw [am_args_R i0, am_args_I, am_args_I, am_args_L]
  exact rg_487_0 y0 y1 y2 y3 h o rfl rfl rfl rfl i0 hs
def fg_486_55 (N : Nat) (x0 : Value) (x1 : Int32) (x2 : Int32) (x3 : Int64) (s0 : Value) (s1 : Int32) (h : am_H) : Option am_O := ((am_pP 3072 s0 (.int s1) h).bind fun h1 => ((am_vI (am_pG 3072 x0 h1)).bind fun v3 => (if v3 ≤ 0 then (if am_pOk 12 x0 h1 then am_cV true (fm_487 N x0 x1 x2 x3 h1) (fun h8 => ((am_vI (am_pG 3169 x0 h8)).bind fun v10 => (if am_pOk 12 x0 h8 then am_cI true (fm_356 N x0 4 x1 x2 ((-1)) v10 x3 h8) (fun v13 h14 => some (.inl (some (.int v13), h14))) else none))) else none) else some (.inl (some (.int 0), h1)))))
theorem rg_486_55 {X : am_X} {d : Nat} {N : Nat} {lv : am_LV} (x0 : Value) (x1 : Int32) (x2 : Int32) (x3 : Int64) (s0 : Value) (s1 : Int32) (h : am_H) (o : am_O) (l0 : lv.lookup 0 = some x0) (l1 : lv.lookup 1 = some (.int x1)) (l2 : lv.lookup 2 = some (.int x2)) (l3 : lv.lookup 3 = some (.long x3)) (i0 : am_isR x0 = true) (j0 : am_isR s0 = true) (hs : fg_486_55 N x0 x1 x2 x3 s0 s1 h = some o) : am_W X (d + 7) 486 55 lv [(.int s1), s0] h (fun q => q = o) := by
  unfold fg_486_55 at hs
  obtain ⟨h1, e2, hs1⟩ := am_bind hs
  clear hs
  refine aw_pP (pc1 := 58) at_486_55 e2 rfl ?_
  refine aw_vload_n (pc1 := 59) at_486_58 l0 i0 rfl ?_
  obtain ⟨v3, e4, hs2⟩ := am_bind hs1
  clear hs1
  refine aw_pG (pc1 := 62) at_486_59 (am_vI_s e4) rfl ?_
  by_cases c5 : v3 ≤ 0
  · rw [if_pos c5] at hs2
    refine aw_ifle_t at_486_62 c5 ?_
    refine aw_vload_n (pc1 := 68) at_486_67 l0 i0 rfl ?_
    refine aw_iload_n (pc1 := 69) at_486_68 l1 rfl ?_
    refine aw_iload_n (pc1 := 70) at_486_69 l2 rfl ?_
    refine aw_lload_n (pc1 := 71) at_486_70 l3 rfl ?_
    obtain ⟨z6, hs3⟩ := am_ift hs2
    clear hs2
    refine aw_call (F := fm_487 N x0 x1 x2 x3 h1) (t := true) (na := 4) (kd := 1) (as := [x0, (.int x1), (.int x2), (.long x3)]) at_486_71 (am_k3v kb_487) mn_487 mk_487 rfl rfl (am_ok_v mi_487 (am_hl rfl (am_ccR i0 (am_ccI (am_ccI (am_ccL am_cats_0)))) rfl) z6) (am_hc am_cats_0 rfl) (fun _ => ⟨rfl, hh_486⟩) (fun o1 hz9 => rm_487 x0 x1 x2 x3 h1 o1 i0 hz9) ?_
    rcases am_cV_s hs3 with ⟨h8, f9, hs4⟩ | hs4
    · clear hs3
      refine Or.inl ⟨_, _, f9, ?_⟩
      show am_W X _ 486 74 _ [] h8 _
      refine aw_vload_n (pc1 := 75) at_486_74 l0 i0 rfl ?_
      refine aw_iconst (v := 4) (pc1 := 76) at_486_75 (by decide) rfl ?_
      refine aw_iload_n (pc1 := 77) at_486_76 l1 rfl ?_
      refine aw_iload_n (pc1 := 78) at_486_77 l2 rfl ?_
      refine aw_iconst (v := (-1)) (pc1 := 79) at_486_78 (by decide) rfl ?_
      refine aw_vload_n (pc1 := 80) at_486_79 l0 i0 rfl ?_
      obtain ⟨v10, e11, hs5⟩ := am_bind hs4
      clear hs4
      refine aw_pG (pc1 := 83) at_486_80 (am_vI_s e11) rfl ?_
      refine aw_lload_n (pc1 := 84) at_486_83 l3 rfl ?_
      obtain ⟨z12, hs6⟩ := am_ift hs5
      clear hs5
      refine aw_call (F := fm_356 N x0 4 x1 x2 ((-1)) v10 x3 h8) (t := true) (na := 7) (kd := 1) (as := [x0, (.int 4), (.int x1), (.int x2), (.int (-1)), (.int v10), (.long x3)]) at_486_84 (am_k3v kb_356) mn_356 mk_356 rfl rfl (am_ok_v mi_356 (am_hl rfl (am_ccR i0 (am_ccI (am_ccI (am_ccI (am_ccI (am_ccI (am_ccL am_cats_0))))))) rfl) z12) (am_hc am_cats_0 rfl) (fun _ => ⟨rfl, hh_486⟩) (fun o1 hz9 => rm_356 x0 4 x1 x2 ((-1)) v10 x3 h8 o1 i0 hz9) ?_
      rcases am_cI_s hs6 with ⟨v13, h14, f15, hs7⟩ | hs7
      · clear hs6
        refine Or.inl ⟨_, _, f15, ?_⟩
        show am_W X _ 486 87 _ [(.int v13)] h14 _
        cases hs7
        exact aw_iret at_486_87 (by rw [rt_486]; rfl) rfl
      · clear hs6
        exact Or.inr hs7
    · clear hs3
      exact Or.inr hs4
  · rw [if_neg c5] at hs2
    refine aw_ifle_f (pc1 := 65) at_486_62 c5 rfl ?_
    refine aw_iconst (v := 0) (pc1 := 66) at_486_65 (by decide) rfl ?_
    cases hs2
    exact aw_iret at_486_66 (by rw [rt_486]; rfl) rfl
def fg_486_17 (N : Nat) (x0 : Value) (x1 : Int32) (x2 : Int32) (x3 : Int64) (s0 : Value) (h : am_H) : Option am_O := (fg_486_55 N x0 x1 x2 x3 s0 1 h)
theorem rg_486_17 {X : am_X} {d : Nat} {N : Nat} {lv : am_LV} (x0 : Value) (x1 : Int32) (x2 : Int32) (x3 : Int64) (s0 : Value) (h : am_H) (o : am_O) (l0 : lv.lookup 0 = some x0) (l1 : lv.lookup 1 = some (.int x1)) (l2 : lv.lookup 2 = some (.int x2)) (l3 : lv.lookup 3 = some (.long x3)) (i0 : am_isR x0 = true) (j0 : am_isR s0 = true) (hs : fg_486_17 N x0 x1 x2 x3 s0 h = some o) : am_W X (d + 7) 486 17 lv [s0] h (fun q => q = o) := by
  unfold fg_486_17 at hs
  refine aw_iconst (v := 1) (pc1 := 18) at_486_17 (by decide) rfl ?_
  refine aw_goto at_486_18 ?_
  exact rg_486_55 x0 x1 x2 x3 s0 1 h o l0 l1 l2 l3 i0 j0 hs
def fg_486_0 (N : Nat) (x0 : Value) (x1 : Int32) (x2 : Int32) (x3 : Int64) (h : am_H) : Option am_O := (if am_pOk 12 x0 h then am_cI true (fm_358 x0 x1 h) (fun v2 h3 => (if v2 = 0 then (fg_486_17 N x0 x1 x2 x3 x0 h3) else (if am_pOk 12 x0 h3 then am_cI true (fm_358 x0 x2 h3) (fun v7 h8 => (if ¬ v7 = 0 then ((am_vR (am_pG 3074 x0 h8)).bind fun v11 => ((am_pA 0 v11 x1 h8).bind fun v13 => ((am_vR (am_pG 3074 x0 h8)).bind fun v15 => ((am_pA 0 v15 x2 h8).bind fun v17 => (if v13 = v17 then ((am_vI (am_pG 3073 x0 h8)).bind fun v20 => (if ¬ v20 = 600 then (fg_486_55 N x0 x1 x2 x3 x0 0 h8) else (fg_486_55 N x0 x1 x2 x3 x0 3 h8))) else (fg_486_55 N x0 x1 x2 x3 x0 2 h8)))))) else (fg_486_17 N x0 x1 x2 x3 x0 h8))) else none))) else none)
theorem rg_486_0 {X : am_X} {d : Nat} {N : Nat} {lv : am_LV} (x0 : Value) (x1 : Int32) (x2 : Int32) (x3 : Int64) (h : am_H) (o : am_O) (l0 : lv.lookup 0 = some x0) (l1 : lv.lookup 1 = some (.int x1)) (l2 : lv.lookup 2 = some (.int x2)) (l3 : lv.lookup 3 = some (.long x3)) (i0 : am_isR x0 = true) (hs : fg_486_0 N x0 x1 x2 x3 h = some o) : am_W X (d + 7) 486 0 lv [] h (fun q => q = o) := by
  unfold fg_486_0 at hs
  refine aw_vload_n (pc1 := 1) at_486_0 l0 i0 rfl ?_
  refine aw_vload_n (pc1 := 2) at_486_1 l0 i0 rfl ?_
  refine aw_iload_n (pc1 := 3) at_486_2 l1 rfl ?_
  obtain ⟨z1, hs1⟩ := am_ift hs
  clear hs
  refine aw_call (F := fm_358 x0 x1 h) (t := true) (na := 2) (kd := 1) (as := [x0, (.int x1)]) at_486_3 (am_k3v kb_358) mn_358 mk_358 rfl rfl (am_ok_v mi_358 (am_hl rfl (am_ccR i0 (am_ccI am_cats_0)) rfl) z1) (am_hc (am_ccR i0 am_cats_0) rfl) (fun _ => ⟨rfl, hh_486⟩) (fun o1 hz9 => rm_358 x0 x1 h o1 i0 hz9) ?_
  rcases am_cI_s hs1 with ⟨v2, h3, f4, hs2⟩ | hs2
  · clear hs1
    refine Or.inl ⟨_, _, f4, ?_⟩
    show am_W X _ 486 6 _ [(.int v2), x0] h3 _
    by_cases c5 : v2 = 0
    · rw [if_pos c5] at hs2
      refine aw_ifeq_t at_486_6 c5 ?_
      exact rg_486_17 x0 x1 x2 x3 x0 h3 o l0 l1 l2 l3 i0 i0 hs2
    · rw [if_neg c5] at hs2
      refine aw_ifeq_f (pc1 := 9) at_486_6 c5 rfl ?_
      refine aw_vload_n (pc1 := 10) at_486_9 l0 i0 rfl ?_
      refine aw_iload_n (pc1 := 11) at_486_10 l2 rfl ?_
      obtain ⟨z6, hs3⟩ := am_ift hs2
      clear hs2
      refine aw_call (F := fm_358 x0 x2 h3) (t := true) (na := 2) (kd := 1) (as := [x0, (.int x2)]) at_486_11 (am_k3v kb_358) mn_358 mk_358 rfl rfl (am_ok_v mi_358 (am_hl rfl (am_ccR i0 (am_ccI am_cats_0)) rfl) z6) (am_hc (am_ccR i0 am_cats_0) rfl) (fun _ => ⟨rfl, hh_486⟩) (fun o1 hz9 => rm_358 x0 x2 h3 o1 i0 hz9) ?_
      rcases am_cI_s hs3 with ⟨v7, h8, f9, hs4⟩ | hs4
      · clear hs3
        refine Or.inl ⟨_, _, f9, ?_⟩
        show am_W X _ 486 14 _ [(.int v7), x0] h8 _
        by_cases c10 : ¬ v7 = 0
        · rw [if_pos c10] at hs4
          refine aw_ifne_t at_486_14 c10 ?_
          refine aw_vload_n (pc1 := 22) at_486_21 l0 i0 rfl ?_
          obtain ⟨v11, e12, hs5⟩ := am_bind hs4
          clear hs4
          refine aw_pG (pc1 := 25) at_486_22 (am_vR_s e12).1 rfl ?_
          refine aw_iload_n (pc1 := 26) at_486_25 l1 rfl ?_
          obtain ⟨v13, e14, hs6⟩ := am_bind hs5
          clear hs5
          refine aw_pA (pc1 := 27) at_486_26 (Or.inl ⟨rfl, rfl⟩) e14 rfl ?_
          refine aw_vload_n (pc1 := 28) at_486_27 l0 i0 rfl ?_
          obtain ⟨v15, e16, hs7⟩ := am_bind hs6
          clear hs6
          refine aw_pG (pc1 := 31) at_486_28 (am_vR_s e16).1 rfl ?_
          refine aw_iload_n (pc1 := 32) at_486_31 l2 rfl ?_
          obtain ⟨v17, e18, hs8⟩ := am_bind hs7
          clear hs7
          refine aw_pA (pc1 := 33) at_486_32 (Or.inl ⟨rfl, rfl⟩) e18 rfl ?_
          by_cases c19 : v13 = v17
          · rw [if_pos c19] at hs8
            refine aw_iceq_t at_486_33 c19 ?_
            refine aw_vload_n (pc1 := 41) at_486_40 l0 i0 rfl ?_
            obtain ⟨v20, e21, hs9⟩ := am_bind hs8
            clear hs8
            refine aw_pG (pc1 := 44) at_486_41 (am_vI_s e21) rfl ?_
            refine aw_sipush (v := 600) (pc1 := 47) at_486_44 (by decide) rfl ?_
            by_cases c22 : ¬ v20 = 600
            · rw [if_pos c22] at hs9
              refine aw_icne_t at_486_47 c22 ?_
              refine aw_iconst (v := 0) (pc1 := 55) at_486_54 (by decide) rfl ?_
              exact rg_486_55 x0 x1 x2 x3 x0 0 h8 o l0 l1 l2 l3 i0 i0 hs9
            · rw [if_neg c22] at hs9
              refine aw_icne_f (pc1 := 50) at_486_47 c22 rfl ?_
              refine aw_iconst (v := 3) (pc1 := 51) at_486_50 (by decide) rfl ?_
              refine aw_goto at_486_51 ?_
              exact rg_486_55 x0 x1 x2 x3 x0 3 h8 o l0 l1 l2 l3 i0 i0 hs9
          · rw [if_neg c19] at hs8
            refine aw_iceq_f (pc1 := 36) at_486_33 c19 rfl ?_
            refine aw_iconst (v := 2) (pc1 := 37) at_486_36 (by decide) rfl ?_
            refine aw_goto at_486_37 ?_
            exact rg_486_55 x0 x1 x2 x3 x0 2 h8 o l0 l1 l2 l3 i0 i0 hs8
        · rw [if_neg c10] at hs4
          refine aw_ifne_f (pc1 := 17) at_486_14 c10 rfl ?_
          exact rg_486_17 x0 x1 x2 x3 x0 h8 o l0 l1 l2 l3 i0 i0 hs4
      · clear hs3
        exact Or.inr hs4
  · clear hs1
    exact Or.inr hs2
def fm_486 (N : Nat) (y0 : Value) (y1 : Int32) (y2 : Int32) (y3 : Int64) (h : am_H) : Option am_O := fg_486_0 N y0 y1 y2 y3 h
theorem rm_486 {X : am_X} {d : Nat} {N : Nat} (y0 : Value) (y1 : Int32) (y2 : Int32) (y3 : Int64) (h : am_H) (o : am_O) (i0 : am_isR y0 = true) (hs : fm_486 N y0 y1 y2 y3 h = some o) : am_W X (d + 7) 486 0 (am_args 0 [y0, .int y1, .int y2, .long y3]) [] h (fun q => q = o) := by
  rw [am_args_R i0, am_args_I, am_args_I, am_args_L]
  exact rg_486_0 y0 y1 y2 y3 h o rfl rfl rfl rfl i0 hs
def fg_201_13 (h : am_H) : Option am_O := some (.inr (2, h ++ [am_dummy]))
theorem rg_201_13 {X : am_X} {d : Nat} {lv : am_LV} (h : am_H) (o : am_O) (hs : fg_201_13 h = some o) : am_W X (d) 201 13 lv [] h (fun q => q = o) := by
  unfold fg_201_13 at hs
  cases hs
  exact aw_throw at_201_13 rfl th_201_13 (am_hc am_cats_0 rfl) rfl
def fg_201_0 (x0 : Value) (x1 : Int32) (h : am_H) : Option am_O := (if x1 < 0 then (fg_201_13 h) else ((am_vR (am_pG 2821 x0 h)).bind fun v2 => ((am_pLen v2 h).bind fun v4 => (if x1 < v4 then ((am_vR (am_pG 2821 x0 h)).bind fun v7 => ((am_pAA v7 x1 h).bind fun v9 => am_pRet v9 h)) else (fg_201_13 h)))))
theorem rg_201_0 {X : am_X} {d : Nat} {lv : am_LV} (x0 : Value) (x1 : Int32) (h : am_H) (o : am_O) (l0 : lv.lookup 0 = some x0) (l1 : lv.lookup 1 = some (.int x1)) (i0 : am_isR x0 = true) (hs : fg_201_0 x0 x1 h = some o) : am_W X (d) 201 0 lv [] h (fun q => q = o) := by
  unfold fg_201_0 at hs
  refine aw_iload_n (pc1 := 1) at_201_0 l1 rfl ?_
  by_cases c1 : x1 < 0
  · rw [if_pos c1] at hs
    refine aw_iflt_t at_201_1 c1 ?_
    exact rg_201_13 h o   hs
  · rw [if_neg c1] at hs
    refine aw_iflt_f (pc1 := 4) at_201_1 c1 rfl ?_
    refine aw_iload_n (pc1 := 5) at_201_4 l1 rfl ?_
    refine aw_vload_n (pc1 := 6) at_201_5 l0 i0 rfl ?_
    obtain ⟨v2, e3, hs1⟩ := am_bind hs
    clear hs
    refine aw_pG (pc1 := 9) at_201_6 (am_vR_s e3).1 rfl ?_
    obtain ⟨v4, e5, hs2⟩ := am_bind hs1
    clear hs1
    refine aw_pLen (pc1 := 10) at_201_9 e5 rfl ?_
    by_cases c6 : x1 < v4
    · rw [if_pos c6] at hs2
      refine aw_iclt_t at_201_10 c6 ?_
      refine aw_vload_n (pc1 := 25) at_201_24 l0 i0 rfl ?_
      obtain ⟨v7, e8, hs3⟩ := am_bind hs2
      clear hs2
      refine aw_pG (pc1 := 28) at_201_25 (am_vR_s e8).1 rfl ?_
      refine aw_iload_n (pc1 := 29) at_201_28 l1 rfl ?_
      obtain ⟨v9, e10, hs4⟩ := am_bind hs3
      clear hs3
      refine aw_pAA (pc1 := 30) at_201_29 e10 rfl ?_
      exact aw_pRet at_201_30 rt_201 hs4
    · rw [if_neg c6] at hs2
      refine aw_iclt_f (pc1 := 13) at_201_10 c6 rfl ?_
      exact rg_201_13 h o   hs2
def fm_201 (y0 : Value) (y1 : Int32) (h : am_H) : Option am_O := fg_201_0 y0 y1 h
theorem rm_201 {X : am_X} {d : Nat} (y0 : Value) (y1 : Int32) (h : am_H) (o : am_O) (i0 : am_isR y0 = true) (hs : fm_201 y0 y1 h = some o) : am_W X (d) 201 0 (am_args 0 [y0, .int y1]) [] h (fun q => q = o) := by
  rw [am_args_R i0, am_args_I]
  exact rg_201_0 y0 y1 h o rfl rfl i0 hs
def fg_203_38 (N : Nat) (rec_11 : Value → Value → Int32 → Int32 → am_H → Option am_O) : Nat → Value → Value → Int32 → Int32 → Int32 → am_H → Option am_O
  | 0 => fun _ _ _ _ _ _ => none
  | K + 1 => fun x0 x1 x2 x3 x4 h => (if 4 ≤ x4 then (rec_11 x0 x1 x2 ((x3 + 1)) h) else ((am_vR (am_pG 2831 x0 h)).bind fun v2 => (if am_pOk 8 x1 h then am_cI true (fm_192 x1 x2 h) (fun v5 h6 => (if am_pOk 3 v2 h6 then am_cV true (fm_51 v2 x3 ((1 + x4)) v5 h6) (fun h10 => (fg_203_38 N rec_11 K x0 x1 x2 x3 ((x4 + 1)) h10)) else none)) else none)))
theorem rg_203_38 {X : am_X} {d : Nat} {N : Nat} {rec_11 : Value → Value → Int32 → Int32 → am_H → Option am_O} (q_11 : ∀ (x0 : Value) (x1 : Value) (x2 : Int32) (x3 : Int32) (h : am_H) (o : am_O), rec_11 x0 x1 x2 x3 h = some o → ∀ lv : am_LV, (lv.lookup 0 = some x0) → (lv.lookup 1 = some x1) → (lv.lookup 2 = some (.int x2)) → (lv.lookup 3 = some (.int x3)) → (am_isR x0 = true) → (am_isR x1 = true) → am_W X (d + 2) 203 11 lv [] h (fun q => q = o)) : ∀ (K : Nat) (x0 : Value) (x1 : Value) (x2 : Int32) (x3 : Int32) (x4 : Int32) (h : am_H) (o : am_O), fg_203_38 N rec_11 K x0 x1 x2 x3 x4 h = some o → ∀ lv : am_LV, (lv.lookup 0 = some x0) → (lv.lookup 1 = some x1) → (lv.lookup 2 = some (.int x2)) → (lv.lookup 3 = some (.int x3)) → (lv.lookup 4 = some (.int x4)) → (am_isR x0 = true) → (am_isR x1 = true) → am_W X (d + 2) 203 38 lv [] h (fun q => q = o) := by
  intro K
  induction K with
  | zero => intro x0 x1 x2 x3 x4 h o hs; cases hs
  | succ K ih =>
    intro x0 x1 x2 x3 x4 h o hs lv l0 l1 l2 l3 l4 i0 i1
    unfold fg_203_38 at hs
    refine aw_iload (pc1 := 40) at_203_38 l4 rfl ?_
    refine aw_iconst (v := 4) (pc1 := 41) at_203_40 (by decide) rfl ?_
    by_cases c1 : 4 ≤ x4
    · rw [if_pos c1] at hs
      refine aw_icge_t at_203_41 c1 ?_
      refine aw_iinc (v := (x3 + 1)) (c := 1) (lv1 := am_put1 _ 3 _) (pc1 := 70) at_203_67 l3 (by decide) rfl rfl rfl ?_
      refine aw_goto at_203_70 ?_
      exact q_11 x0 x1 x2 ((x3 + 1)) h o hs _ (am_lk1 l0 rfl rfl) (am_lk1 l1 rfl rfl) (am_lk1 l2 rfl rfl) am_lk0 i0 i1
    · rw [if_neg c1] at hs
      refine aw_icge_f (pc1 := 44) at_203_41 c1 rfl ?_
      refine aw_vload_n (pc1 := 45) at_203_44 l0 i0 rfl ?_
      obtain ⟨v2, e3, hs1⟩ := am_bind hs
      clear hs
      refine aw_pG (pc1 := 48) at_203_45 (am_vR_s e3).1 rfl ?_
      refine aw_iload_n (pc1 := 49) at_203_48 l3 rfl ?_
      refine aw_iconst (v := 1) (pc1 := 50) at_203_49 (by decide) rfl ?_
      refine aw_iload (pc1 := 52) at_203_50 l4 rfl ?_
      refine aw_iadd (v := (1 + x4)) (pc1 := 53) at_203_52 rfl rfl ?_
      refine aw_vload_n (pc1 := 54) at_203_53 l1 i1 rfl ?_
      refine aw_iload_n (pc1 := 55) at_203_54 l2 rfl ?_
      obtain ⟨z4, hs2⟩ := am_ift hs1
      clear hs1
      refine aw_call (F := fm_192 x1 x2 h) (t := true) (na := 2) (kd := 1) (as := [x1, (.int x2)]) at_203_55 (am_k3v kb_192) mn_192 mk_192 rfl rfl (am_ok_v mi_192 (am_hl rfl (am_ccR i1 (am_ccI am_cats_0)) rfl) z4) (am_hc (am_ccI (am_ccI (am_ccR (am_vR_s e3).2 am_cats_0))) rfl) (fun _ => ⟨rfl, hh_203⟩) (fun o1 hz9 => rm_192 x1 x2 h o1 i1 hz9) ?_
      rcases am_cI_s hs2 with ⟨v5, h6, f7, hs3⟩ | hs3
      · clear hs2
        refine Or.inl ⟨_, _, f7, ?_⟩
        show am_W X _ 203 58 _ [(.int v5), (.int (1 + x4)), (.int x3), v2] h6 _
        obtain ⟨z8, hs4⟩ := am_ift hs3
        clear hs3
        refine aw_call (F := fm_51 v2 x3 ((1 + x4)) v5 h6) (t := true) (na := 4) (kd := 1) (as := [v2, (.int x3), (.int (1 + x4)), (.int v5)]) at_203_58 (am_k3v kb_51) mn_51 mk_51 rfl rfl (am_ok_v mi_51 (am_hl rfl (am_ccR (am_vR_s e3).2 (am_ccI (am_ccI (am_ccI am_cats_0)))) rfl) z8) (am_hc am_cats_0 rfl) (fun _ => ⟨rfl, hh_203⟩) (fun o1 hz9 => rm_51 v2 x3 ((1 + x4)) v5 h6 o1 (am_vR_s e3).2 hz9) ?_
        rcases am_cV_s hs4 with ⟨h10, f11, hs5⟩ | hs5
        · clear hs4
          refine Or.inl ⟨_, _, f11, ?_⟩
          show am_W X _ 203 61 _ [] h10 _
          refine aw_iinc (v := (x4 + 1)) (c := 1) (lv1 := am_put1 _ 4 _) (pc1 := 64) at_203_61 l4 (by decide) rfl rfl rfl ?_
          refine aw_goto at_203_64 ?_
          exact ih x0 x1 x2 x3 ((x4 + 1)) h10 o hs5 _ (am_lk1 l0 rfl rfl) (am_lk1 l1 rfl rfl) (am_lk1 l2 rfl rfl) (am_lk1 l3 rfl rfl) am_lk0 i0 i1
        · clear hs4
          exact Or.inr hs5
      · clear hs2
        exact Or.inr hs3
def fg_203_11 (N : Nat) : Nat → Value → Value → Int32 → Int32 → am_H → Option am_O
  | 0 => fun _ _ _ _ _ => none
  | K + 1 => fun x0 x1 x2 x3 h => (if x2 ≤ x3 then some (.inl (none, h)) else ((am_vR (am_pG 2831 x0 h)).bind fun v2 => (if am_pOk 8 x1 h then am_cI true (fm_192 x1 10 h) (fun v5 h6 => (if am_pOk 8 x1 h6 then am_cI true (fm_192 x1 x2 h6) (fun v9 h10 => (if am_pOk 3 v2 h10 then am_cI true (fm_41 N v2 v5 v9 h10) (fun v13 h14 => (fg_203_38 N (fg_203_11 N K) N x0 x1 x2 x3 1 h14)) else none)) else none)) else none)))
theorem rg_203_11 {X : am_X} {d : Nat} {N : Nat} : ∀ (K : Nat) (x0 : Value) (x1 : Value) (x2 : Int32) (x3 : Int32) (h : am_H) (o : am_O), fg_203_11 N K x0 x1 x2 x3 h = some o → ∀ lv : am_LV, (lv.lookup 0 = some x0) → (lv.lookup 1 = some x1) → (lv.lookup 2 = some (.int x2)) → (lv.lookup 3 = some (.int x3)) → (am_isR x0 = true) → (am_isR x1 = true) → am_W X (d + 2) 203 11 lv [] h (fun q => q = o) := by
  intro K
  induction K with
  | zero => intro x0 x1 x2 x3 h o hs; cases hs
  | succ K ih =>
    intro x0 x1 x2 x3 h o hs lv l0 l1 l2 l3 i0 i1
    unfold fg_203_11 at hs
    refine aw_iload_n (pc1 := 12) at_203_11 l3 rfl ?_
    refine aw_iload_n (pc1 := 13) at_203_12 l2 rfl ?_
    by_cases c1 : x2 ≤ x3
    · rw [if_pos c1] at hs
      refine aw_icge_t at_203_13 c1 ?_
      cases hs
      exact aw_vret at_203_73 rt_203 rfl
    · rw [if_neg c1] at hs
      refine aw_icge_f (pc1 := 16) at_203_13 c1 rfl ?_
      refine aw_vload_n (pc1 := 17) at_203_16 l0 i0 rfl ?_
      obtain ⟨v2, e3, hs1⟩ := am_bind hs
      clear hs
      refine aw_pG (pc1 := 20) at_203_17 (am_vR_s e3).1 rfl ?_
      refine aw_vload_n (pc1 := 21) at_203_20 l1 i1 rfl ?_
      refine aw_bipush (v := 10) (pc1 := 23) at_203_21 (by decide) rfl ?_
      obtain ⟨z4, hs2⟩ := am_ift hs1
      clear hs1
      refine aw_call (F := fm_192 x1 10 h) (t := true) (na := 2) (kd := 1) (as := [x1, (.int 10)]) at_203_23 (am_k3v kb_192) mn_192 mk_192 rfl rfl (am_ok_v mi_192 (am_hl rfl (am_ccR i1 (am_ccI am_cats_0)) rfl) z4) (am_hc (am_ccR (am_vR_s e3).2 am_cats_0) rfl) (fun _ => ⟨rfl, hh_203⟩) (fun o1 hz9 => rm_192 x1 10 h o1 i1 hz9) ?_
      rcases am_cI_s hs2 with ⟨v5, h6, f7, hs3⟩ | hs3
      · clear hs2
        refine Or.inl ⟨_, _, f7, ?_⟩
        show am_W X _ 203 26 _ [(.int v5), v2] h6 _
        refine aw_vload_n (pc1 := 27) at_203_26 l1 i1 rfl ?_
        refine aw_iload_n (pc1 := 28) at_203_27 l2 rfl ?_
        obtain ⟨z8, hs4⟩ := am_ift hs3
        clear hs3
        refine aw_call (F := fm_192 x1 x2 h6) (t := true) (na := 2) (kd := 1) (as := [x1, (.int x2)]) at_203_28 (am_k3v kb_192) mn_192 mk_192 rfl rfl (am_ok_v mi_192 (am_hl rfl (am_ccR i1 (am_ccI am_cats_0)) rfl) z8) (am_hc (am_ccI (am_ccR (am_vR_s e3).2 am_cats_0)) rfl) (fun _ => ⟨rfl, hh_203⟩) (fun o1 hz9 => rm_192 x1 x2 h6 o1 i1 hz9) ?_
        rcases am_cI_s hs4 with ⟨v9, h10, f11, hs5⟩ | hs5
        · clear hs4
          refine Or.inl ⟨_, _, f11, ?_⟩
          show am_W X _ 203 31 _ [(.int v9), (.int v5), v2] h10 _
          obtain ⟨z12, hs6⟩ := am_ift hs5
          clear hs5
          refine aw_call (F := fm_41 N v2 v5 v9 h10) (t := true) (na := 3) (kd := 1) (as := [v2, (.int v5), (.int v9)]) at_203_31 (am_k3v kb_41) mn_41 mk_41 rfl rfl (am_ok_v mi_41 (am_hl rfl (am_ccR (am_vR_s e3).2 (am_ccI (am_ccI am_cats_0))) rfl) z12) (am_hc am_cats_0 rfl) (fun _ => ⟨rfl, hh_203⟩) (fun o1 hz9 => rm_41 v2 v5 v9 h10 o1 (am_vR_s e3).2 hz9) ?_
          rcases am_cI_s hs6 with ⟨v13, h14, f15, hs7⟩ | hs7
          · clear hs6
            refine Or.inl ⟨_, _, f15, ?_⟩
            show am_W X _ 203 34 _ [(.int v13)] h14 _
            refine aw_popi (pc1 := 35) at_203_34 rfl ?_
            refine aw_iconst (v := 1) (pc1 := 36) at_203_35 (by decide) rfl ?_
            refine aw_istore (lv1 := am_put1 _ 4 _) (pc1 := 38) at_203_36 rfl rfl ?_
            exact rg_203_38 (fun z0 z1 z2 z3 h o hs7 => ih z0 z1 z2 z3 h o hs7) N x0 x1 x2 x3 1 h14 o hs7 _ (am_lk1 l0 rfl rfl) (am_lk1 l1 rfl rfl) (am_lk1 l2 rfl rfl) (am_lk1 l3 rfl rfl) am_lk0 i0 i1
          · clear hs6
            exact Or.inr hs7
        · clear hs4
          exact Or.inr hs5
      · clear hs2
        exact Or.inr hs3
def fg_203_0 (N : Nat) (x0 : Value) (x1 : Value) (x2 : Int32) (h : am_H) : Option am_O := ((am_vR (am_pG 2831 x0 h)).bind fun v1 => (if am_pOk 3 v1 h then am_cV true (fm_34 v1 2 0 h) (fun h5 => (fg_203_11 N N x0 x1 x2 0 h5)) else none))
theorem rg_203_0 {X : am_X} {d : Nat} {N : Nat} {lv : am_LV} (x0 : Value) (x1 : Value) (x2 : Int32) (h : am_H) (o : am_O) (l0 : lv.lookup 0 = some x0) (l1 : lv.lookup 1 = some x1) (l2 : lv.lookup 2 = some (.int x2)) (i0 : am_isR x0 = true) (i1 : am_isR x1 = true) (hs : fg_203_0 N x0 x1 x2 h = some o) : am_W X (d + 2) 203 0 lv [] h (fun q => q = o) := by
  unfold fg_203_0 at hs
  refine aw_vload_n (pc1 := 1) at_203_0 l0 i0 rfl ?_
  obtain ⟨v1, e2, hs1⟩ := am_bind hs
  clear hs
  refine aw_pG (pc1 := 4) at_203_1 (am_vR_s e2).1 rfl ?_
  refine aw_iconst (v := 2) (pc1 := 5) at_203_4 (by decide) rfl ?_
  refine aw_iconst (v := 0) (pc1 := 6) at_203_5 (by decide) rfl ?_
  obtain ⟨z3, hs2⟩ := am_ift hs1
  clear hs1
  refine aw_call (F := fm_34 v1 2 0 h) (t := true) (na := 3) (kd := 1) (as := [v1, (.int 2), (.int 0)]) at_203_6 (am_k3v kb_34) mn_34 mk_34 rfl rfl (am_ok_v mi_34 (am_hl rfl (am_ccR (am_vR_s e2).2 (am_ccI (am_ccI am_cats_0))) rfl) z3) (am_hc am_cats_0 rfl) (fun _ => ⟨rfl, hh_203⟩) (fun o1 hz9 => rm_34 v1 2 0 h o1 (am_vR_s e2).2 hz9) ?_
  rcases am_cV_s hs2 with ⟨h5, f6, hs3⟩ | hs3
  · clear hs2
    refine Or.inl ⟨_, _, f6, ?_⟩
    show am_W X _ 203 9 _ [] h5 _
    refine aw_iconst (v := 0) (pc1 := 10) at_203_9 (by decide) rfl ?_
    refine aw_istore_n (lv1 := am_put1 _ 3 _) (pc1 := 11) at_203_10 rfl rfl ?_
    exact rg_203_11 N x0 x1 x2 0 h5 o hs3 _ (am_lk1 l0 rfl rfl) (am_lk1 l1 rfl rfl) (am_lk1 l2 rfl rfl) am_lk0 i0 i1
  · clear hs2
    exact Or.inr hs3
def fm_203 (N : Nat) (y0 : Value) (y1 : Value) (y2 : Int32) (h : am_H) : Option am_O := fg_203_0 N y0 y1 y2 h
theorem rm_203 {X : am_X} {d : Nat} {N : Nat} (y0 : Value) (y1 : Value) (y2 : Int32) (h : am_H) (o : am_O) (i0 : am_isR y0 = true) (i1 : am_isR y1 = true) (hs : fm_203 N y0 y1 y2 h = some o) : am_W X (d + 2) 203 0 (am_args 0 [y0, y1, .int y2]) [] h (fun q => q = o) := by
  rw [am_args_R i0, am_args_R i1, am_args_I]
  exact rg_203_0 y0 y1 y2 h o rfl rfl rfl i0 i1 hs
def fg_204_11 (N : Nat) : Nat → Value → Value → Int32 → Int32 → am_H → Option am_O
  | 0 => fun _ _ _ _ _ => none
  | K + 1 => fun x0 x1 x2 x3 h => (if (2 * x2) ≤ x3 then some (.inl (none, h)) else (if am_pOk 8 x1 h then am_cI true (fm_192 x1 ((x2 - 1)) h) (fun v3 h4 => ((am_vR (am_pG 2831 x0 h4)).bind fun v6 => (if am_pOk 8 x1 h4 then am_cI true (fm_192 x1 (((x2 - 1) - v3)) h4) (fun v9 h10 => (if am_pOk 3 v6 h10 then am_cI true (fm_41 N v6 v3 (((v3 + 1) + v9)) h10) (fun v13 h14 => (fg_204_11 N K x0 x1 x2 ((x3 + 1)) h14)) else none)) else none))) else none))
theorem rg_204_11 {X : am_X} {d : Nat} {N : Nat} : ∀ (K : Nat) (x0 : Value) (x1 : Value) (x2 : Int32) (x3 : Int32) (h : am_H) (o : am_O), fg_204_11 N K x0 x1 x2 x3 h = some o → ∀ lv : am_LV, (lv.lookup 0 = some x0) → (lv.lookup 1 = some x1) → (lv.lookup 2 = some (.int x2)) → (lv.lookup 3 = some (.int x3)) → (am_isR x0 = true) → (am_isR x1 = true) → am_W X (d + 2) 204 11 lv [] h (fun q => q = o) := by
  intro K
  induction K with
  | zero => intro x0 x1 x2 x3 h o hs; cases hs
  | succ K ih =>
    intro x0 x1 x2 x3 h o hs lv l0 l1 l2 l3 i0 i1
    unfold fg_204_11 at hs
    refine aw_iload_n (pc1 := 12) at_204_11 l3 rfl ?_
    refine aw_iconst (v := 2) (pc1 := 13) at_204_12 (by decide) rfl ?_
    refine aw_iload_n (pc1 := 14) at_204_13 l2 rfl ?_
    refine aw_imul (v := (2 * x2)) (pc1 := 15) at_204_14 rfl rfl ?_
    by_cases c1 : (2 * x2) ≤ x3
    · rw [if_pos c1] at hs
      refine aw_icge_t at_204_15 c1 ?_
      cases hs
      exact aw_vret at_204_58 rt_204 rfl
    · rw [if_neg c1] at hs
      refine aw_icge_f (pc1 := 18) at_204_15 c1 rfl ?_
      refine aw_vload_n (pc1 := 19) at_204_18 l1 i1 rfl ?_
      refine aw_iload_n (pc1 := 20) at_204_19 l2 rfl ?_
      refine aw_iconst (v := 1) (pc1 := 21) at_204_20 (by decide) rfl ?_
      refine aw_isub (v := (x2 - 1)) (pc1 := 22) at_204_21 rfl rfl ?_
      obtain ⟨z2, hs1⟩ := am_ift hs
      clear hs
      refine aw_call (F := fm_192 x1 ((x2 - 1)) h) (t := true) (na := 2) (kd := 1) (as := [x1, (.int (x2 - 1))]) at_204_22 (am_k3v kb_192) mn_192 mk_192 rfl rfl (am_ok_v mi_192 (am_hl rfl (am_ccR i1 (am_ccI am_cats_0)) rfl) z2) (am_hc am_cats_0 rfl) (fun _ => ⟨rfl, hh_204⟩) (fun o1 hz9 => rm_192 x1 ((x2 - 1)) h o1 i1 hz9) ?_
      rcases am_cI_s hs1 with ⟨v3, h4, f5, hs2⟩ | hs2
      · clear hs1
        refine Or.inl ⟨_, _, f5, ?_⟩
        show am_W X _ 204 25 _ [(.int v3)] h4 _
        refine aw_istore (lv1 := am_put1 _ 4 _) (pc1 := 27) at_204_25 rfl rfl ?_
        refine aw_vload_n (pc1 := 28) at_204_27 (am_lk1 l0 rfl rfl) i0 rfl ?_
        obtain ⟨v6, e7, hs3⟩ := am_bind hs2
        clear hs2
        refine aw_pG (pc1 := 31) at_204_28 (am_vR_s e7).1 rfl ?_
        refine aw_iload (pc1 := 33) at_204_31 am_lk0 rfl ?_
        refine aw_iload (pc1 := 35) at_204_33 am_lk0 rfl ?_
        refine aw_iconst (v := 1) (pc1 := 36) at_204_35 (by decide) rfl ?_
        refine aw_iadd (v := (v3 + 1)) (pc1 := 37) at_204_36 rfl rfl ?_
        refine aw_vload_n (pc1 := 38) at_204_37 (am_lk1 l1 rfl rfl) i1 rfl ?_
        refine aw_iload_n (pc1 := 39) at_204_38 (am_lk1 l2 rfl rfl) rfl ?_
        refine aw_iconst (v := 1) (pc1 := 40) at_204_39 (by decide) rfl ?_
        refine aw_isub (v := (x2 - 1)) (pc1 := 41) at_204_40 rfl rfl ?_
        refine aw_iload (pc1 := 43) at_204_41 am_lk0 rfl ?_
        refine aw_isub (v := ((x2 - 1) - v3)) (pc1 := 44) at_204_43 rfl rfl ?_
        obtain ⟨z8, hs4⟩ := am_ift hs3
        clear hs3
        refine aw_call (F := fm_192 x1 (((x2 - 1) - v3)) h4) (t := true) (na := 2) (kd := 1) (as := [x1, (.int ((x2 - 1) - v3))]) at_204_44 (am_k3v kb_192) mn_192 mk_192 rfl rfl (am_ok_v mi_192 (am_hl rfl (am_ccR i1 (am_ccI am_cats_0)) rfl) z8) (am_hc (am_ccI (am_ccI (am_ccR (am_vR_s e7).2 am_cats_0))) rfl) (fun _ => ⟨rfl, hh_204⟩) (fun o1 hz9 => rm_192 x1 (((x2 - 1) - v3)) h4 o1 i1 hz9) ?_
        rcases am_cI_s hs4 with ⟨v9, h10, f11, hs5⟩ | hs5
        · clear hs4
          refine Or.inl ⟨_, _, f11, ?_⟩
          show am_W X _ 204 47 _ [(.int v9), (.int (v3 + 1)), (.int v3), v6] h10 _
          refine aw_iadd (v := ((v3 + 1) + v9)) (pc1 := 48) at_204_47 rfl rfl ?_
          obtain ⟨z12, hs6⟩ := am_ift hs5
          clear hs5
          refine aw_call (F := fm_41 N v6 v3 (((v3 + 1) + v9)) h10) (t := true) (na := 3) (kd := 1) (as := [v6, (.int v3), (.int ((v3 + 1) + v9))]) at_204_48 (am_k3v kb_41) mn_41 mk_41 rfl rfl (am_ok_v mi_41 (am_hl rfl (am_ccR (am_vR_s e7).2 (am_ccI (am_ccI am_cats_0))) rfl) z12) (am_hc am_cats_0 rfl) (fun _ => ⟨rfl, hh_204⟩) (fun o1 hz9 => rm_41 v6 v3 (((v3 + 1) + v9)) h10 o1 (am_vR_s e7).2 hz9) ?_
          rcases am_cI_s hs6 with ⟨v13, h14, f15, hs7⟩ | hs7
          · clear hs6
            refine Or.inl ⟨_, _, f15, ?_⟩
            show am_W X _ 204 51 _ [(.int v13)] h14 _
            refine aw_popi (pc1 := 52) at_204_51 rfl ?_
            refine aw_iinc (v := (x3 + 1)) (c := 1) (lv1 := am_put1 _ 3 _) (pc1 := 55) at_204_52 (am_lk1 l3 rfl rfl) (by decide) rfl rfl rfl ?_
            refine aw_goto at_204_55 ?_
            exact ih x0 x1 x2 ((x3 + 1)) h14 o hs7 _ (am_lk1 (am_lk1 l0 rfl rfl) rfl rfl) (am_lk1 (am_lk1 l1 rfl rfl) rfl rfl) (am_lk1 (am_lk1 l2 rfl rfl) rfl rfl) am_lk0 i0 i1
          · clear hs6
            exact Or.inr hs7
        · clear hs4
          exact Or.inr hs5
      · clear hs1
        exact Or.inr hs2
def fg_204_0 (N : Nat) (x0 : Value) (x1 : Value) (x2 : Int32) (h : am_H) : Option am_O := ((am_vR (am_pG 2831 x0 h)).bind fun v1 => (if am_pOk 3 v1 h then am_cV true (fm_34 v1 3 x2 h) (fun h5 => (fg_204_11 N N x0 x1 x2 0 h5)) else none))
theorem rg_204_0 {X : am_X} {d : Nat} {N : Nat} {lv : am_LV} (x0 : Value) (x1 : Value) (x2 : Int32) (h : am_H) (o : am_O) (l0 : lv.lookup 0 = some x0) (l1 : lv.lookup 1 = some x1) (l2 : lv.lookup 2 = some (.int x2)) (i0 : am_isR x0 = true) (i1 : am_isR x1 = true) (hs : fg_204_0 N x0 x1 x2 h = some o) : am_W X (d + 2) 204 0 lv [] h (fun q => q = o) := by
  unfold fg_204_0 at hs
  refine aw_vload_n (pc1 := 1) at_204_0 l0 i0 rfl ?_
  obtain ⟨v1, e2, hs1⟩ := am_bind hs
  clear hs
  refine aw_pG (pc1 := 4) at_204_1 (am_vR_s e2).1 rfl ?_
  refine aw_iconst (v := 3) (pc1 := 5) at_204_4 (by decide) rfl ?_
  refine aw_iload_n (pc1 := 6) at_204_5 l2 rfl ?_
  obtain ⟨z3, hs2⟩ := am_ift hs1
  clear hs1
  refine aw_call (F := fm_34 v1 3 x2 h) (t := true) (na := 3) (kd := 1) (as := [v1, (.int 3), (.int x2)]) at_204_6 (am_k3v kb_34) mn_34 mk_34 rfl rfl (am_ok_v mi_34 (am_hl rfl (am_ccR (am_vR_s e2).2 (am_ccI (am_ccI am_cats_0))) rfl) z3) (am_hc am_cats_0 rfl) (fun _ => ⟨rfl, hh_204⟩) (fun o1 hz9 => rm_34 v1 3 x2 h o1 (am_vR_s e2).2 hz9) ?_
  rcases am_cV_s hs2 with ⟨h5, f6, hs3⟩ | hs3
  · clear hs2
    refine Or.inl ⟨_, _, f6, ?_⟩
    show am_W X _ 204 9 _ [] h5 _
    refine aw_iconst (v := 0) (pc1 := 10) at_204_9 (by decide) rfl ?_
    refine aw_istore_n (lv1 := am_put1 _ 3 _) (pc1 := 11) at_204_10 rfl rfl ?_
    exact rg_204_11 N x0 x1 x2 0 h5 o hs3 _ (am_lk1 l0 rfl rfl) (am_lk1 l1 rfl rfl) (am_lk1 l2 rfl rfl) am_lk0 i0 i1
  · clear hs2
    exact Or.inr hs3
def fm_204 (N : Nat) (y0 : Value) (y1 : Value) (y2 : Int32) (h : am_H) : Option am_O := fg_204_0 N y0 y1 y2 h
theorem rm_204 {X : am_X} {d : Nat} {N : Nat} (y0 : Value) (y1 : Value) (y2 : Int32) (h : am_H) (o : am_O) (i0 : am_isR y0 = true) (i1 : am_isR y1 = true) (hs : fm_204 N y0 y1 y2 h = some o) : am_W X (d + 2) 204 0 (am_args 0 [y0, y1, .int y2]) [] h (fun q => q = o) := by
  rw [am_args_R i0, am_args_R i1, am_args_I]
  exact rg_204_0 y0 y1 y2 h o rfl rfl rfl i0 i1 hs
def fg_206_220 (N : Nat) (rc_206 : Value → Int32 → Int32 → am_H → Option am_O) (rc_207 : Value → Int32 → Int32 → am_H → Option am_O) (rc_208 : Value → Int32 → Int32 → am_H → Option am_O) (rc_209 : Value → Int32 → Int32 → am_H → Option am_O) (s0 : Int32) (h : am_H) : Option am_O := (if am_rfit (some FieldType.boolean) s0 then some (.inl (some (.int s0), h)) else none)
theorem rg_206_220 {X : am_X} {d : Nat} {N : Nat} {rc_206 : Value → Int32 → Int32 → am_H → Option am_O} {rc_207 : Value → Int32 → Int32 → am_H → Option am_O} {rc_208 : Value → Int32 → Int32 → am_H → Option am_O} {rc_209 : Value → Int32 → Int32 → am_H → Option am_O} (qc_206 : ∀ (y0 : Value) (y1 : Int32) (y2 : Int32) (h : am_H) (o : am_O), (am_isR y0 = true) → rc_206 y0 y1 y2 h = some o → am_W X (d + 1) 206 0 (am_args 0 [y0, .int y1, .int y2]) [] h (fun q => q = o)) (qc_207 : ∀ (y0 : Value) (y1 : Int32) (y2 : Int32) (h : am_H) (o : am_O), (am_isR y0 = true) → rc_207 y0 y1 y2 h = some o → am_W X (d + 1) 207 0 (am_args 0 [y0, .int y1, .int y2]) [] h (fun q => q = o)) (qc_208 : ∀ (y0 : Value) (y1 : Int32) (y2 : Int32) (h : am_H) (o : am_O), (am_isR y0 = true) → rc_208 y0 y1 y2 h = some o → am_W X (d + 1) 208 0 (am_args 0 [y0, .int y1, .int y2]) [] h (fun q => q = o)) (qc_209 : ∀ (y0 : Value) (y1 : Int32) (y2 : Int32) (h : am_H) (o : am_O), (am_isR y0 = true) → rc_209 y0 y1 y2 h = some o → am_W X (d + 1) 209 0 (am_args 0 [y0, .int y1, .int y2]) [] h (fun q => q = o)) {lv : am_LV} (s0 : Int32) (h : am_H) (o : am_O) (hs : fg_206_220 N rc_206 rc_207 rc_208 rc_209 s0 h = some o) : am_W X (d + 2) 206 220 lv [(.int s0)] h (fun q => q = o) := by
  unfold fg_206_220 at hs
  obtain ⟨z1, hs1⟩ := am_ift hs
  clear hs
  cases hs1
  exact aw_iret at_206_220 (by rw [rt_206]; exact z1) rfl
def fg_206_219 (N : Nat) (rc_206 : Value → Int32 → Int32 → am_H → Option am_O) (rc_207 : Value → Int32 → Int32 → am_H → Option am_O) (rc_208 : Value → Int32 → Int32 → am_H → Option am_O) (rc_209 : Value → Int32 → Int32 → am_H → Option am_O) (h : am_H) : Option am_O := (fg_206_220 N rc_206 rc_207 rc_208 rc_209 0 h)
theorem rg_206_219 {X : am_X} {d : Nat} {N : Nat} {rc_206 : Value → Int32 → Int32 → am_H → Option am_O} {rc_207 : Value → Int32 → Int32 → am_H → Option am_O} {rc_208 : Value → Int32 → Int32 → am_H → Option am_O} {rc_209 : Value → Int32 → Int32 → am_H → Option am_O} (qc_206 : ∀ (y0 : Value) (y1 : Int32) (y2 : Int32) (h : am_H) (o : am_O), (am_isR y0 = true) → rc_206 y0 y1 y2 h = some o → am_W X (d + 1) 206 0 (am_args 0 [y0, .int y1, .int y2]) [] h (fun q => q = o)) (qc_207 : ∀ (y0 : Value) (y1 : Int32) (y2 : Int32) (h : am_H) (o : am_O), (am_isR y0 = true) → rc_207 y0 y1 y2 h = some o → am_W X (d + 1) 207 0 (am_args 0 [y0, .int y1, .int y2]) [] h (fun q => q = o)) (qc_208 : ∀ (y0 : Value) (y1 : Int32) (y2 : Int32) (h : am_H) (o : am_O), (am_isR y0 = true) → rc_208 y0 y1 y2 h = some o → am_W X (d + 1) 208 0 (am_args 0 [y0, .int y1, .int y2]) [] h (fun q => q = o)) (qc_209 : ∀ (y0 : Value) (y1 : Int32) (y2 : Int32) (h : am_H) (o : am_O), (am_isR y0 = true) → rc_209 y0 y1 y2 h = some o → am_W X (d + 1) 209 0 (am_args 0 [y0, .int y1, .int y2]) [] h (fun q => q = o)) {lv : am_LV} (h : am_H) (o : am_O) (hs : fg_206_219 N rc_206 rc_207 rc_208 rc_209 h = some o) : am_W X (d + 2) 206 219 lv [] h (fun q => q = o) := by
  unfold fg_206_219 at hs
  refine aw_iconst (v := 0) (pc1 := 220) at_206_219 (by decide) rfl ?_
  exact rg_206_220 qc_206 qc_207 qc_208 qc_209 0 h o   hs
def fg_206_122 (N : Nat) (rc_206 : Value → Int32 → Int32 → am_H → Option am_O) (rc_207 : Value → Int32 → Int32 → am_H → Option am_O) (rc_208 : Value → Int32 → Int32 → am_H → Option am_O) (rc_209 : Value → Int32 → Int32 → am_H → Option am_O) (s0 : Int32) (h : am_H) : Option am_O := (if am_rfit (some FieldType.boolean) s0 then some (.inl (some (.int s0), h)) else none)
theorem rg_206_122 {X : am_X} {d : Nat} {N : Nat} {rc_206 : Value → Int32 → Int32 → am_H → Option am_O} {rc_207 : Value → Int32 → Int32 → am_H → Option am_O} {rc_208 : Value → Int32 → Int32 → am_H → Option am_O} {rc_209 : Value → Int32 → Int32 → am_H → Option am_O} (qc_206 : ∀ (y0 : Value) (y1 : Int32) (y2 : Int32) (h : am_H) (o : am_O), (am_isR y0 = true) → rc_206 y0 y1 y2 h = some o → am_W X (d + 1) 206 0 (am_args 0 [y0, .int y1, .int y2]) [] h (fun q => q = o)) (qc_207 : ∀ (y0 : Value) (y1 : Int32) (y2 : Int32) (h : am_H) (o : am_O), (am_isR y0 = true) → rc_207 y0 y1 y2 h = some o → am_W X (d + 1) 207 0 (am_args 0 [y0, .int y1, .int y2]) [] h (fun q => q = o)) (qc_208 : ∀ (y0 : Value) (y1 : Int32) (y2 : Int32) (h : am_H) (o : am_O), (am_isR y0 = true) → rc_208 y0 y1 y2 h = some o → am_W X (d + 1) 208 0 (am_args 0 [y0, .int y1, .int y2]) [] h (fun q => q = o)) (qc_209 : ∀ (y0 : Value) (y1 : Int32) (y2 : Int32) (h : am_H) (o : am_O), (am_isR y0 = true) → rc_209 y0 y1 y2 h = some o → am_W X (d + 1) 209 0 (am_args 0 [y0, .int y1, .int y2]) [] h (fun q => q = o)) {lv : am_LV} (s0 : Int32) (h : am_H) (o : am_O) (hs : fg_206_122 N rc_206 rc_207 rc_208 rc_209 s0 h = some o) : am_W X (d + 2) 206 122 lv [(.int s0)] h (fun q => q = o) := by
  unfold fg_206_122 at hs
  obtain ⟨z1, hs1⟩ := am_ift hs
  clear hs
  cases hs1
  exact aw_iret at_206_122 (by rw [rt_206]; exact z1) rfl
def fg_206_121 (N : Nat) (rc_206 : Value → Int32 → Int32 → am_H → Option am_O) (rc_207 : Value → Int32 → Int32 → am_H → Option am_O) (rc_208 : Value → Int32 → Int32 → am_H → Option am_O) (rc_209 : Value → Int32 → Int32 → am_H → Option am_O) (h : am_H) : Option am_O := (fg_206_122 N rc_206 rc_207 rc_208 rc_209 0 h)
theorem rg_206_121 {X : am_X} {d : Nat} {N : Nat} {rc_206 : Value → Int32 → Int32 → am_H → Option am_O} {rc_207 : Value → Int32 → Int32 → am_H → Option am_O} {rc_208 : Value → Int32 → Int32 → am_H → Option am_O} {rc_209 : Value → Int32 → Int32 → am_H → Option am_O} (qc_206 : ∀ (y0 : Value) (y1 : Int32) (y2 : Int32) (h : am_H) (o : am_O), (am_isR y0 = true) → rc_206 y0 y1 y2 h = some o → am_W X (d + 1) 206 0 (am_args 0 [y0, .int y1, .int y2]) [] h (fun q => q = o)) (qc_207 : ∀ (y0 : Value) (y1 : Int32) (y2 : Int32) (h : am_H) (o : am_O), (am_isR y0 = true) → rc_207 y0 y1 y2 h = some o → am_W X (d + 1) 207 0 (am_args 0 [y0, .int y1, .int y2]) [] h (fun q => q = o)) (qc_208 : ∀ (y0 : Value) (y1 : Int32) (y2 : Int32) (h : am_H) (o : am_O), (am_isR y0 = true) → rc_208 y0 y1 y2 h = some o → am_W X (d + 1) 208 0 (am_args 0 [y0, .int y1, .int y2]) [] h (fun q => q = o)) (qc_209 : ∀ (y0 : Value) (y1 : Int32) (y2 : Int32) (h : am_H) (o : am_O), (am_isR y0 = true) → rc_209 y0 y1 y2 h = some o → am_W X (d + 1) 209 0 (am_args 0 [y0, .int y1, .int y2]) [] h (fun q => q = o)) {lv : am_LV} (h : am_H) (o : am_O) (hs : fg_206_121 N rc_206 rc_207 rc_208 rc_209 h = some o) : am_W X (d + 2) 206 121 lv [] h (fun q => q = o) := by
  unfold fg_206_121 at hs
  refine aw_iconst (v := 0) (pc1 := 122) at_206_121 (by decide) rfl ?_
  exact rg_206_122 qc_206 qc_207 qc_208 qc_209 0 h o   hs
def fg_206_33 (N : Nat) (rc_206 : Value → Int32 → Int32 → am_H → Option am_O) (rc_207 : Value → Int32 → Int32 → am_H → Option am_O) (rc_208 : Value → Int32 → Int32 → am_H → Option am_O) (rc_209 : Value → Int32 → Int32 → am_H → Option am_O) (h : am_H) : Option am_O := some (.inl (some (.int 0), h))
theorem rg_206_33 {X : am_X} {d : Nat} {N : Nat} {rc_206 : Value → Int32 → Int32 → am_H → Option am_O} {rc_207 : Value → Int32 → Int32 → am_H → Option am_O} {rc_208 : Value → Int32 → Int32 → am_H → Option am_O} {rc_209 : Value → Int32 → Int32 → am_H → Option am_O} (qc_206 : ∀ (y0 : Value) (y1 : Int32) (y2 : Int32) (h : am_H) (o : am_O), (am_isR y0 = true) → rc_206 y0 y1 y2 h = some o → am_W X (d + 1) 206 0 (am_args 0 [y0, .int y1, .int y2]) [] h (fun q => q = o)) (qc_207 : ∀ (y0 : Value) (y1 : Int32) (y2 : Int32) (h : am_H) (o : am_O), (am_isR y0 = true) → rc_207 y0 y1 y2 h = some o → am_W X (d + 1) 207 0 (am_args 0 [y0, .int y1, .int y2]) [] h (fun q => q = o)) (qc_208 : ∀ (y0 : Value) (y1 : Int32) (y2 : Int32) (h : am_H) (o : am_O), (am_isR y0 = true) → rc_208 y0 y1 y2 h = some o → am_W X (d + 1) 208 0 (am_args 0 [y0, .int y1, .int y2]) [] h (fun q => q = o)) (qc_209 : ∀ (y0 : Value) (y1 : Int32) (y2 : Int32) (h : am_H) (o : am_O), (am_isR y0 = true) → rc_209 y0 y1 y2 h = some o → am_W X (d + 1) 209 0 (am_args 0 [y0, .int y1, .int y2]) [] h (fun q => q = o)) {lv : am_LV} (h : am_H) (o : am_O) (hs : fg_206_33 N rc_206 rc_207 rc_208 rc_209 h = some o) : am_W X (d + 2) 206 33 lv [] h (fun q => q = o) := by
  unfold fg_206_33 at hs
  refine aw_iconst (v := 0) (pc1 := 34) at_206_33 (by decide) rfl ?_
  cases hs
  exact aw_iret at_206_34 (by rw [rt_206]; decide) rfl
def fg_206_0 (N : Nat) (rc_206 : Value → Int32 → Int32 → am_H → Option am_O) (rc_207 : Value → Int32 → Int32 → am_H → Option am_O) (rc_208 : Value → Int32 → Int32 → am_H → Option am_O) (rc_209 : Value → Int32 → Int32 → am_H → Option am_O) (x0 : Value) (x1 : Int32) (x2 : Int32) (h : am_H) : Option am_O := ((am_vR (am_pG 2564 x0 h)).bind fun v1 => (if am_pOk 3 v1 h then am_cI true (fm_54 v1 x1 0 h) (fun v4 h5 => (if 12 < x2 then (fg_206_33 N rc_206 rc_207 rc_208 rc_209 h5) else (if v4 = 5 then (fg_206_33 N rc_206 rc_207 rc_208 rc_209 h5) else (if v4 = 6 then (fg_206_33 N rc_206 rc_207 rc_208 rc_209 h5) else (if ¬ v4 = 19 then (if 7 ≤ v4 then ((am_vR (am_pG 2560 x0 h5)).bind fun v12 => (if am_pOk 7 v12 h5 then am_cI true (fm_100 v12 ((x1 + 1)) h5) (fun v15 h16 => (if am_pOk 10 x0 h16 then am_cI true (rc_206 x0 ((x1 + 1)) ((x2 + 1)) h16) (fun v19 h20 => (if ¬ v19 = 0 then (if ¬ v4 = 9 then (if 10 ≤ v4 then (if ¬ v4 = 17 then (if ¬ v4 = 18 then (if ¬ v4 = 20 then (if am_pOk 10 x0 h20 then am_cI true (rc_206 x0 v15 ((x2 + 1)) h20) (fun v29 h30 => (if v29 = 0 then (fg_206_219 N rc_206 rc_207 rc_208 rc_209 h30) else ((am_vR (am_pG 2565 x0 h30)).bind fun v33 => (if am_pOk 3 v33 h30 then am_cI true (fm_41 N v33 ((v4 - 3)) 0 h30) (fun v36 h37 => (if v36 = 0 then (fg_206_219 N rc_206 rc_207 rc_208 rc_209 h37) else (fg_206_220 N rc_206 rc_207 rc_208 rc_209 1 h37))) else none)))) else none) else (if am_pOk 10 x0 h20 then am_cI true (rc_209 x0 v15 ((x2 + 1)) h20) (fun v41 h42 => (if am_rfit (some FieldType.boolean) v41 then some (.inl (some (.int v41), h42)) else none)) else none)) else (if am_pOk 10 x0 h20 then am_cI true (rc_208 x0 v15 ((x2 + 1)) h20) (fun v46 h47 => (if am_rfit (some FieldType.boolean) v46 then some (.inl (some (.int v46), h47)) else none)) else none)) else (if am_pOk 10 x0 h20 then am_cI true (rc_207 x0 v15 ((x2 + 1)) h20) (fun v51 h52 => (if am_rfit (some FieldType.boolean) v51 then some (.inl (some (.int v51), h52)) else none)) else none)) else ((am_vR (am_pG 2565 x0 h20)).bind fun v55 => (if am_pOk 3 v55 h20 then am_cI true (fm_41 N v55 ((v4 - 2)) 0 h20) (fun v58 h59 => (if am_rfit (some FieldType.boolean) v58 then some (.inl (some (.int v58), h59)) else none)) else none))) else ((am_vR (am_pG 2565 x0 h20)).bind fun v62 => (if am_pOk 3 v62 h20 then am_cI true (fm_41 N v62 0 0 h20) (fun v65 h66 => (if v65 = 0 then (fg_206_121 N rc_206 rc_207 rc_208 rc_209 h66) else ((am_vR (am_pG 2565 x0 h66)).bind fun v69 => (if am_pOk 3 v69 h66 then am_cI true (fm_41 N v69 13 0 h66) (fun v72 h73 => (if v72 = 0 then (fg_206_121 N rc_206 rc_207 rc_208 rc_209 h73) else (fg_206_122 N rc_206 rc_207 rc_208 rc_209 1 h73))) else none)))) else none))) else some (.inl (some (.int 0), h20)))) else none)) else none)) else ((am_vR (am_pG 2565 x0 h5)).bind fun v76 => ((am_vR (am_pG 2564 x0 h5)).bind fun v78 => (if am_pOk 3 v78 h5 then am_cI true (fm_54 v78 x1 1 h5) (fun v81 h82 => (if am_pOk 3 v76 h82 then am_cI true (fm_41 N v76 v4 v81 h82) (fun v85 h86 => (if am_rfit (some FieldType.boolean) v85 then some (.inl (some (.int v85), h86)) else none)) else none)) else none)))) else (fg_206_33 N rc_206 rc_207 rc_208 rc_209 h5)))))) else none))
theorem rg_206_0 {X : am_X} {d : Nat} {N : Nat} {rc_206 : Value → Int32 → Int32 → am_H → Option am_O} {rc_207 : Value → Int32 → Int32 → am_H → Option am_O} {rc_208 : Value → Int32 → Int32 → am_H → Option am_O} {rc_209 : Value → Int32 → Int32 → am_H → Option am_O} (qc_206 : ∀ (y0 : Value) (y1 : Int32) (y2 : Int32) (h : am_H) (o : am_O), (am_isR y0 = true) → rc_206 y0 y1 y2 h = some o → am_W X (d + 1) 206 0 (am_args 0 [y0, .int y1, .int y2]) [] h (fun q => q = o)) (qc_207 : ∀ (y0 : Value) (y1 : Int32) (y2 : Int32) (h : am_H) (o : am_O), (am_isR y0 = true) → rc_207 y0 y1 y2 h = some o → am_W X (d + 1) 207 0 (am_args 0 [y0, .int y1, .int y2]) [] h (fun q => q = o)) (qc_208 : ∀ (y0 : Value) (y1 : Int32) (y2 : Int32) (h : am_H) (o : am_O), (am_isR y0 = true) → rc_208 y0 y1 y2 h = some o → am_W X (d + 1) 208 0 (am_args 0 [y0, .int y1, .int y2]) [] h (fun q => q = o)) (qc_209 : ∀ (y0 : Value) (y1 : Int32) (y2 : Int32) (h : am_H) (o : am_O), (am_isR y0 = true) → rc_209 y0 y1 y2 h = some o → am_W X (d + 1) 209 0 (am_args 0 [y0, .int y1, .int y2]) [] h (fun q => q = o)) {lv : am_LV} (x0 : Value) (x1 : Int32) (x2 : Int32) (h : am_H) (o : am_O) (l0 : lv.lookup 0 = some x0) (l1 : lv.lookup 1 = some (.int x1)) (l2 : lv.lookup 2 = some (.int x2)) (i0 : am_isR x0 = true) (hs : fg_206_0 N rc_206 rc_207 rc_208 rc_209 x0 x1 x2 h = some o) : am_W X (d + 2) 206 0 lv [] h (fun q => q = o) := by
  unfold fg_206_0 at hs
  refine aw_vload_n (pc1 := 1) at_206_0 l0 i0 rfl ?_
  obtain ⟨v1, e2, hs1⟩ := am_bind hs
  clear hs
  refine aw_pG (pc1 := 4) at_206_1 (am_vR_s e2).1 rfl ?_
  refine aw_iload_n (pc1 := 5) at_206_4 l1 rfl ?_
  refine aw_iconst (v := 0) (pc1 := 6) at_206_5 (by decide) rfl ?_
  obtain ⟨z3, hs2⟩ := am_ift hs1
  clear hs1
  refine aw_call (F := fm_54 v1 x1 0 h) (t := true) (na := 3) (kd := 1) (as := [v1, (.int x1), (.int 0)]) at_206_6 (am_k3v kb_54) mn_54 mk_54 rfl rfl (am_ok_v mi_54 (am_hl rfl (am_ccR (am_vR_s e2).2 (am_ccI (am_ccI am_cats_0))) rfl) z3) (am_hc am_cats_0 rfl) (fun _ => ⟨rfl, hh_206⟩) (fun o1 hz9 => rm_54 v1 x1 0 h o1 (am_vR_s e2).2 hz9) ?_
  rcases am_cI_s hs2 with ⟨v4, h5, f6, hs3⟩ | hs3
  · clear hs2
    refine Or.inl ⟨_, _, f6, ?_⟩
    show am_W X _ 206 9 _ [(.int v4)] h5 _
    refine aw_istore_n (lv1 := am_put1 _ 3 _) (pc1 := 10) at_206_9 rfl rfl ?_
    refine aw_iload_n (pc1 := 11) at_206_10 (am_lk1 l2 rfl rfl) rfl ?_
    refine aw_bipush (v := 12) (pc1 := 13) at_206_11 (by decide) rfl ?_
    by_cases c7 : 12 < x2
    · rw [if_pos c7] at hs3
      refine aw_icgt_t at_206_13 c7 ?_
      exact rg_206_33 qc_206 qc_207 qc_208 qc_209 h5 o   hs3
    · rw [if_neg c7] at hs3
      refine aw_icgt_f (pc1 := 16) at_206_13 c7 rfl ?_
      refine aw_iload_n (pc1 := 17) at_206_16 am_lk0 rfl ?_
      refine aw_iconst (v := 5) (pc1 := 18) at_206_17 (by decide) rfl ?_
      by_cases c8 : v4 = 5
      · rw [if_pos c8] at hs3
        refine aw_iceq_t at_206_18 c8 ?_
        exact rg_206_33 qc_206 qc_207 qc_208 qc_209 h5 o   hs3
      · rw [if_neg c8] at hs3
        refine aw_iceq_f (pc1 := 21) at_206_18 c8 rfl ?_
        refine aw_iload_n (pc1 := 22) at_206_21 am_lk0 rfl ?_
        refine aw_bipush (v := 6) (pc1 := 24) at_206_22 (by decide) rfl ?_
        by_cases c9 : v4 = 6
        · rw [if_pos c9] at hs3
          refine aw_iceq_t at_206_24 c9 ?_
          exact rg_206_33 qc_206 qc_207 qc_208 qc_209 h5 o   hs3
        · rw [if_neg c9] at hs3
          refine aw_iceq_f (pc1 := 27) at_206_24 c9 rfl ?_
          refine aw_iload_n (pc1 := 28) at_206_27 am_lk0 rfl ?_
          refine aw_bipush (v := 19) (pc1 := 30) at_206_28 (by decide) rfl ?_
          by_cases c10 : ¬ v4 = 19
          · rw [if_pos c10] at hs3
            refine aw_icne_t at_206_30 c10 ?_
            refine aw_iload_n (pc1 := 36) at_206_35 am_lk0 rfl ?_
            refine aw_bipush (v := 7) (pc1 := 38) at_206_36 (by decide) rfl ?_
            by_cases c11 : 7 ≤ v4
            · rw [if_pos c11] at hs3
              refine aw_icge_t at_206_38 c11 ?_
              refine aw_vload_n (pc1 := 60) at_206_59 (am_lk1 l0 rfl rfl) i0 rfl ?_
              obtain ⟨v12, e13, hs4⟩ := am_bind hs3
              clear hs3
              refine aw_pG (pc1 := 63) at_206_60 (am_vR_s e13).1 rfl ?_
              refine aw_iload_n (pc1 := 64) at_206_63 (am_lk1 l1 rfl rfl) rfl ?_
              refine aw_iconst (v := 1) (pc1 := 65) at_206_64 (by decide) rfl ?_
              refine aw_iadd (v := (x1 + 1)) (pc1 := 66) at_206_65 rfl rfl ?_
              obtain ⟨z14, hs5⟩ := am_ift hs4
              clear hs4
              refine aw_call (F := fm_100 v12 ((x1 + 1)) h5) (t := true) (na := 2) (kd := 1) (as := [v12, (.int (x1 + 1))]) at_206_66 (am_k3v kb_100) mn_100 mk_100 rfl rfl (am_ok_v mi_100 (am_hl rfl (am_ccR (am_vR_s e13).2 (am_ccI am_cats_0)) rfl) z14) (am_hc am_cats_0 rfl) (fun _ => ⟨rfl, hh_206⟩) (fun o1 hz9 => rm_100 v12 ((x1 + 1)) h5 o1 (am_vR_s e13).2 hz9) ?_
              rcases am_cI_s hs5 with ⟨v15, h16, f17, hs6⟩ | hs6
              · clear hs5
                refine Or.inl ⟨_, _, f17, ?_⟩
                show am_W X _ 206 69 _ [(.int v15)] h16 _
                refine aw_istore (lv1 := am_put1 _ 4 _) (pc1 := 71) at_206_69 rfl rfl ?_
                refine aw_vload_n (pc1 := 72) at_206_71 (am_lk1 (am_lk1 l0 rfl rfl) rfl rfl) i0 rfl ?_
                refine aw_iload_n (pc1 := 73) at_206_72 (am_lk1 (am_lk1 l1 rfl rfl) rfl rfl) rfl ?_
                refine aw_iconst (v := 1) (pc1 := 74) at_206_73 (by decide) rfl ?_
                refine aw_iadd (v := (x1 + 1)) (pc1 := 75) at_206_74 rfl rfl ?_
                refine aw_iload_n (pc1 := 76) at_206_75 (am_lk1 (am_lk1 l2 rfl rfl) rfl rfl) rfl ?_
                refine aw_iconst (v := 1) (pc1 := 77) at_206_76 (by decide) rfl ?_
                refine aw_iadd (v := (x2 + 1)) (pc1 := 78) at_206_77 rfl rfl ?_
                obtain ⟨z18, hs7⟩ := am_ift hs6
                clear hs6
                refine aw_call (F := rc_206 x0 ((x1 + 1)) ((x2 + 1)) h16) (t := true) (na := 3) (kd := 1) (as := [x0, (.int (x1 + 1)), (.int (x2 + 1))]) at_206_78 (am_k3v kb_206) mn_206 mk_206 rfl rfl (am_ok_v mi_206 (am_hl rfl (am_ccR i0 (am_ccI (am_ccI am_cats_0))) rfl) z18) (am_hc am_cats_0 rfl) (fun _ => ⟨rfl, hh_206⟩) (fun o1 hz9 => qc_206 x0 ((x1 + 1)) ((x2 + 1)) h16 o1 i0 hz9) ?_
                rcases am_cI_s hs7 with ⟨v19, h20, f21, hs8⟩ | hs8
                · clear hs7
                  refine Or.inl ⟨_, _, f21, ?_⟩
                  show am_W X _ 206 81 _ [(.int v19)] h20 _
                  by_cases c22 : ¬ v19 = 0
                  · rw [if_pos c22] at hs8
                    refine aw_ifne_t at_206_81 c22 ?_
                    refine aw_iload_n (pc1 := 87) at_206_86 (am_lk1 am_lk0 rfl rfl) rfl ?_
                    refine aw_bipush (v := 9) (pc1 := 89) at_206_87 (by decide) rfl ?_
                    by_cases c23 : ¬ v4 = 9
                    · rw [if_pos c23] at hs8
                      refine aw_icne_t at_206_89 c23 ?_
                      refine aw_iload_n (pc1 := 124) at_206_123 (am_lk1 am_lk0 rfl rfl) rfl ?_
                      refine aw_bipush (v := 10) (pc1 := 126) at_206_124 (by decide) rfl ?_
                      by_cases c24 : 10 ≤ v4
                      · rw [if_pos c24] at hs8
                        refine aw_icge_t at_206_126 c24 ?_
                        refine aw_iload_n (pc1 := 142) at_206_141 (am_lk1 am_lk0 rfl rfl) rfl ?_
                        refine aw_bipush (v := 17) (pc1 := 144) at_206_142 (by decide) rfl ?_
                        by_cases c25 : ¬ v4 = 17
                        · rw [if_pos c25] at hs8
                          refine aw_icne_t at_206_144 c25 ?_
                          refine aw_iload_n (pc1 := 158) at_206_157 (am_lk1 am_lk0 rfl rfl) rfl ?_
                          refine aw_bipush (v := 18) (pc1 := 160) at_206_158 (by decide) rfl ?_
                          by_cases c26 : ¬ v4 = 18
                          · rw [if_pos c26] at hs8
                            refine aw_icne_t at_206_160 c26 ?_
                            refine aw_iload_n (pc1 := 174) at_206_173 (am_lk1 am_lk0 rfl rfl) rfl ?_
                            refine aw_bipush (v := 20) (pc1 := 176) at_206_174 (by decide) rfl ?_
                            by_cases c27 : ¬ v4 = 20
                            · rw [if_pos c27] at hs8
                              refine aw_icne_t at_206_176 c27 ?_
                              refine aw_vload_n (pc1 := 190) at_206_189 (am_lk1 (am_lk1 l0 rfl rfl) rfl rfl) i0 rfl ?_
                              refine aw_iload (pc1 := 192) at_206_190 am_lk0 rfl ?_
                              refine aw_iload_n (pc1 := 193) at_206_192 (am_lk1 (am_lk1 l2 rfl rfl) rfl rfl) rfl ?_
                              refine aw_iconst (v := 1) (pc1 := 194) at_206_193 (by decide) rfl ?_
                              refine aw_iadd (v := (x2 + 1)) (pc1 := 195) at_206_194 rfl rfl ?_
                              obtain ⟨z28, hs9⟩ := am_ift hs8
                              clear hs8
                              refine aw_call (F := rc_206 x0 v15 ((x2 + 1)) h20) (t := true) (na := 3) (kd := 1) (as := [x0, (.int v15), (.int (x2 + 1))]) at_206_195 (am_k3v kb_206) mn_206 mk_206 rfl rfl (am_ok_v mi_206 (am_hl rfl (am_ccR i0 (am_ccI (am_ccI am_cats_0))) rfl) z28) (am_hc am_cats_0 rfl) (fun _ => ⟨rfl, hh_206⟩) (fun o1 hz9 => qc_206 x0 v15 ((x2 + 1)) h20 o1 i0 hz9) ?_
                              rcases am_cI_s hs9 with ⟨v29, h30, f31, hs10⟩ | hs10
                              · clear hs9
                                refine Or.inl ⟨_, _, f31, ?_⟩
                                show am_W X _ 206 198 _ [(.int v29)] h30 _
                                by_cases c32 : v29 = 0
                                · rw [if_pos c32] at hs10
                                  refine aw_ifeq_t at_206_198 c32 ?_
                                  exact rg_206_219 qc_206 qc_207 qc_208 qc_209 h30 o   hs10
                                · rw [if_neg c32] at hs10
                                  refine aw_ifeq_f (pc1 := 201) at_206_198 c32 rfl ?_
                                  refine aw_vload_n (pc1 := 202) at_206_201 (am_lk1 (am_lk1 l0 rfl rfl) rfl rfl) i0 rfl ?_
                                  obtain ⟨v33, e34, hs11⟩ := am_bind hs10
                                  clear hs10
                                  refine aw_pG (pc1 := 205) at_206_202 (am_vR_s e34).1 rfl ?_
                                  refine aw_iload_n (pc1 := 206) at_206_205 (am_lk1 am_lk0 rfl rfl) rfl ?_
                                  refine aw_iconst (v := 3) (pc1 := 207) at_206_206 (by decide) rfl ?_
                                  refine aw_isub (v := (v4 - 3)) (pc1 := 208) at_206_207 rfl rfl ?_
                                  refine aw_iconst (v := 0) (pc1 := 209) at_206_208 (by decide) rfl ?_
                                  obtain ⟨z35, hs12⟩ := am_ift hs11
                                  clear hs11
                                  refine aw_call (F := fm_41 N v33 ((v4 - 3)) 0 h30) (t := true) (na := 3) (kd := 1) (as := [v33, (.int (v4 - 3)), (.int 0)]) at_206_209 (am_k3v kb_41) mn_41 mk_41 rfl rfl (am_ok_v mi_41 (am_hl rfl (am_ccR (am_vR_s e34).2 (am_ccI (am_ccI am_cats_0))) rfl) z35) (am_hc am_cats_0 rfl) (fun _ => ⟨rfl, hh_206⟩) (fun o1 hz9 => rm_41 v33 ((v4 - 3)) 0 h30 o1 (am_vR_s e34).2 hz9) ?_
                                  rcases am_cI_s hs12 with ⟨v36, h37, f38, hs13⟩ | hs13
                                  · clear hs12
                                    refine Or.inl ⟨_, _, f38, ?_⟩
                                    show am_W X _ 206 212 _ [(.int v36)] h37 _
                                    by_cases c39 : v36 = 0
                                    · rw [if_pos c39] at hs13
                                      refine aw_ifeq_t at_206_212 c39 ?_
                                      exact rg_206_219 qc_206 qc_207 qc_208 qc_209 h37 o   hs13
                                    · rw [if_neg c39] at hs13
                                      refine aw_ifeq_f (pc1 := 215) at_206_212 c39 rfl ?_
                                      refine aw_iconst (v := 1) (pc1 := 216) at_206_215 (by decide) rfl ?_
                                      refine aw_goto at_206_216 ?_
                                      exact rg_206_220 qc_206 qc_207 qc_208 qc_209 1 h37 o   hs13
                                  · clear hs12
                                    exact Or.inr hs13
                              · clear hs9
                                exact Or.inr hs10
                            · rw [if_neg c27] at hs8
                              refine aw_icne_f (pc1 := 179) at_206_176 c27 rfl ?_
                              refine aw_vload_n (pc1 := 180) at_206_179 (am_lk1 (am_lk1 l0 rfl rfl) rfl rfl) i0 rfl ?_
                              refine aw_iload (pc1 := 182) at_206_180 am_lk0 rfl ?_
                              refine aw_iload_n (pc1 := 183) at_206_182 (am_lk1 (am_lk1 l2 rfl rfl) rfl rfl) rfl ?_
                              refine aw_iconst (v := 1) (pc1 := 184) at_206_183 (by decide) rfl ?_
                              refine aw_iadd (v := (x2 + 1)) (pc1 := 185) at_206_184 rfl rfl ?_
                              obtain ⟨z40, hs14⟩ := am_ift hs8
                              clear hs8
                              refine aw_call (F := rc_209 x0 v15 ((x2 + 1)) h20) (t := true) (na := 3) (kd := 1) (as := [x0, (.int v15), (.int (x2 + 1))]) at_206_185 (am_k3v kb_209) mn_209 mk_209 rfl rfl (am_ok_v mi_209 (am_hl rfl (am_ccR i0 (am_ccI (am_ccI am_cats_0))) rfl) z40) (am_hc am_cats_0 rfl) (fun _ => ⟨rfl, hh_206⟩) (fun o1 hz9 => qc_209 x0 v15 ((x2 + 1)) h20 o1 i0 hz9) ?_
                              rcases am_cI_s hs14 with ⟨v41, h42, f43, hs15⟩ | hs15
                              · clear hs14
                                refine Or.inl ⟨_, _, f43, ?_⟩
                                show am_W X _ 206 188 _ [(.int v41)] h42 _
                                obtain ⟨z44, hs16⟩ := am_ift hs15
                                clear hs15
                                cases hs16
                                exact aw_iret at_206_188 (by rw [rt_206]; exact z44) rfl
                              · clear hs14
                                exact Or.inr hs15
                          · rw [if_neg c26] at hs8
                            refine aw_icne_f (pc1 := 163) at_206_160 c26 rfl ?_
                            refine aw_vload_n (pc1 := 164) at_206_163 (am_lk1 (am_lk1 l0 rfl rfl) rfl rfl) i0 rfl ?_
                            refine aw_iload (pc1 := 166) at_206_164 am_lk0 rfl ?_
                            refine aw_iload_n (pc1 := 167) at_206_166 (am_lk1 (am_lk1 l2 rfl rfl) rfl rfl) rfl ?_
                            refine aw_iconst (v := 1) (pc1 := 168) at_206_167 (by decide) rfl ?_
                            refine aw_iadd (v := (x2 + 1)) (pc1 := 169) at_206_168 rfl rfl ?_
                            obtain ⟨z45, hs17⟩ := am_ift hs8
                            clear hs8
                            refine aw_call (F := rc_208 x0 v15 ((x2 + 1)) h20) (t := true) (na := 3) (kd := 1) (as := [x0, (.int v15), (.int (x2 + 1))]) at_206_169 (am_k3v kb_208) mn_208 mk_208 rfl rfl (am_ok_v mi_208 (am_hl rfl (am_ccR i0 (am_ccI (am_ccI am_cats_0))) rfl) z45) (am_hc am_cats_0 rfl) (fun _ => ⟨rfl, hh_206⟩) (fun o1 hz9 => qc_208 x0 v15 ((x2 + 1)) h20 o1 i0 hz9) ?_
                            rcases am_cI_s hs17 with ⟨v46, h47, f48, hs18⟩ | hs18
                            · clear hs17
                              refine Or.inl ⟨_, _, f48, ?_⟩
                              show am_W X _ 206 172 _ [(.int v46)] h47 _
                              obtain ⟨z49, hs19⟩ := am_ift hs18
                              clear hs18
                              cases hs19
                              exact aw_iret at_206_172 (by rw [rt_206]; exact z49) rfl
                            · clear hs17
                              exact Or.inr hs18
                        · rw [if_neg c25] at hs8
                          refine aw_icne_f (pc1 := 147) at_206_144 c25 rfl ?_
                          refine aw_vload_n (pc1 := 148) at_206_147 (am_lk1 (am_lk1 l0 rfl rfl) rfl rfl) i0 rfl ?_
                          refine aw_iload (pc1 := 150) at_206_148 am_lk0 rfl ?_
                          refine aw_iload_n (pc1 := 151) at_206_150 (am_lk1 (am_lk1 l2 rfl rfl) rfl rfl) rfl ?_
                          refine aw_iconst (v := 1) (pc1 := 152) at_206_151 (by decide) rfl ?_
                          refine aw_iadd (v := (x2 + 1)) (pc1 := 153) at_206_152 rfl rfl ?_
                          obtain ⟨z50, hs20⟩ := am_ift hs8
                          clear hs8
                          refine aw_call (F := rc_207 x0 v15 ((x2 + 1)) h20) (t := true) (na := 3) (kd := 1) (as := [x0, (.int v15), (.int (x2 + 1))]) at_206_153 (am_k3v kb_207) mn_207 mk_207 rfl rfl (am_ok_v mi_207 (am_hl rfl (am_ccR i0 (am_ccI (am_ccI am_cats_0))) rfl) z50) (am_hc am_cats_0 rfl) (fun _ => ⟨rfl, hh_206⟩) (fun o1 hz9 => qc_207 x0 v15 ((x2 + 1)) h20 o1 i0 hz9) ?_
                          rcases am_cI_s hs20 with ⟨v51, h52, f53, hs21⟩ | hs21
                          · clear hs20
                            refine Or.inl ⟨_, _, f53, ?_⟩
                            show am_W X _ 206 156 _ [(.int v51)] h52 _
                            obtain ⟨z54, hs22⟩ := am_ift hs21
                            clear hs21
                            cases hs22
                            exact aw_iret at_206_156 (by rw [rt_206]; exact z54) rfl
                          · clear hs20
                            exact Or.inr hs21
                      · rw [if_neg c24] at hs8
                        refine aw_icge_f (pc1 := 129) at_206_126 c24 rfl ?_
                        refine aw_vload_n (pc1 := 130) at_206_129 (am_lk1 (am_lk1 l0 rfl rfl) rfl rfl) i0 rfl ?_
                        obtain ⟨v55, e56, hs23⟩ := am_bind hs8
                        clear hs8
                        refine aw_pG (pc1 := 133) at_206_130 (am_vR_s e56).1 rfl ?_
                        refine aw_iload_n (pc1 := 134) at_206_133 (am_lk1 am_lk0 rfl rfl) rfl ?_
                        refine aw_iconst (v := 2) (pc1 := 135) at_206_134 (by decide) rfl ?_
                        refine aw_isub (v := (v4 - 2)) (pc1 := 136) at_206_135 rfl rfl ?_
                        refine aw_iconst (v := 0) (pc1 := 137) at_206_136 (by decide) rfl ?_
                        obtain ⟨z57, hs24⟩ := am_ift hs23
                        clear hs23
                        refine aw_call (F := fm_41 N v55 ((v4 - 2)) 0 h20) (t := true) (na := 3) (kd := 1) (as := [v55, (.int (v4 - 2)), (.int 0)]) at_206_137 (am_k3v kb_41) mn_41 mk_41 rfl rfl (am_ok_v mi_41 (am_hl rfl (am_ccR (am_vR_s e56).2 (am_ccI (am_ccI am_cats_0))) rfl) z57) (am_hc am_cats_0 rfl) (fun _ => ⟨rfl, hh_206⟩) (fun o1 hz9 => rm_41 v55 ((v4 - 2)) 0 h20 o1 (am_vR_s e56).2 hz9) ?_
                        rcases am_cI_s hs24 with ⟨v58, h59, f60, hs25⟩ | hs25
                        · clear hs24
                          refine Or.inl ⟨_, _, f60, ?_⟩
                          show am_W X _ 206 140 _ [(.int v58)] h59 _
                          obtain ⟨z61, hs26⟩ := am_ift hs25
                          clear hs25
                          cases hs26
                          exact aw_iret at_206_140 (by rw [rt_206]; exact z61) rfl
                        · clear hs24
                          exact Or.inr hs25
                    · rw [if_neg c23] at hs8
                      refine aw_icne_f (pc1 := 92) at_206_89 c23 rfl ?_
                      refine aw_vload_n (pc1 := 93) at_206_92 (am_lk1 (am_lk1 l0 rfl rfl) rfl rfl) i0 rfl ?_
                      obtain ⟨v62, e63, hs27⟩ := am_bind hs8
                      clear hs8
                      refine aw_pG (pc1 := 96) at_206_93 (am_vR_s e63).1 rfl ?_
                      refine aw_iconst (v := 0) (pc1 := 97) at_206_96 (by decide) rfl ?_
                      refine aw_iconst (v := 0) (pc1 := 98) at_206_97 (by decide) rfl ?_
                      obtain ⟨z64, hs28⟩ := am_ift hs27
                      clear hs27
                      refine aw_call (F := fm_41 N v62 0 0 h20) (t := true) (na := 3) (kd := 1) (as := [v62, (.int 0), (.int 0)]) at_206_98 (am_k3v kb_41) mn_41 mk_41 rfl rfl (am_ok_v mi_41 (am_hl rfl (am_ccR (am_vR_s e63).2 (am_ccI (am_ccI am_cats_0))) rfl) z64) (am_hc am_cats_0 rfl) (fun _ => ⟨rfl, hh_206⟩) (fun o1 hz9 => rm_41 v62 0 0 h20 o1 (am_vR_s e63).2 hz9) ?_
                      rcases am_cI_s hs28 with ⟨v65, h66, f67, hs29⟩ | hs29
                      · clear hs28
                        refine Or.inl ⟨_, _, f67, ?_⟩
                        show am_W X _ 206 101 _ [(.int v65)] h66 _
                        by_cases c68 : v65 = 0
                        · rw [if_pos c68] at hs29
                          refine aw_ifeq_t at_206_101 c68 ?_
                          exact rg_206_121 qc_206 qc_207 qc_208 qc_209 h66 o   hs29
                        · rw [if_neg c68] at hs29
                          refine aw_ifeq_f (pc1 := 104) at_206_101 c68 rfl ?_
                          refine aw_vload_n (pc1 := 105) at_206_104 (am_lk1 (am_lk1 l0 rfl rfl) rfl rfl) i0 rfl ?_
                          obtain ⟨v69, e70, hs30⟩ := am_bind hs29
                          clear hs29
                          refine aw_pG (pc1 := 108) at_206_105 (am_vR_s e70).1 rfl ?_
                          refine aw_bipush (v := 13) (pc1 := 110) at_206_108 (by decide) rfl ?_
                          refine aw_iconst (v := 0) (pc1 := 111) at_206_110 (by decide) rfl ?_
                          obtain ⟨z71, hs31⟩ := am_ift hs30
                          clear hs30
                          refine aw_call (F := fm_41 N v69 13 0 h66) (t := true) (na := 3) (kd := 1) (as := [v69, (.int 13), (.int 0)]) at_206_111 (am_k3v kb_41) mn_41 mk_41 rfl rfl (am_ok_v mi_41 (am_hl rfl (am_ccR (am_vR_s e70).2 (am_ccI (am_ccI am_cats_0))) rfl) z71) (am_hc am_cats_0 rfl) (fun _ => ⟨rfl, hh_206⟩) (fun o1 hz9 => rm_41 v69 13 0 h66 o1 (am_vR_s e70).2 hz9) ?_
                          rcases am_cI_s hs31 with ⟨v72, h73, f74, hs32⟩ | hs32
                          · clear hs31
                            refine Or.inl ⟨_, _, f74, ?_⟩
                            show am_W X _ 206 114 _ [(.int v72)] h73 _
                            by_cases c75 : v72 = 0
                            · rw [if_pos c75] at hs32
                              refine aw_ifeq_t at_206_114 c75 ?_
                              exact rg_206_121 qc_206 qc_207 qc_208 qc_209 h73 o   hs32
                            · rw [if_neg c75] at hs32
                              refine aw_ifeq_f (pc1 := 117) at_206_114 c75 rfl ?_
                              refine aw_iconst (v := 1) (pc1 := 118) at_206_117 (by decide) rfl ?_
                              refine aw_goto at_206_118 ?_
                              exact rg_206_122 qc_206 qc_207 qc_208 qc_209 1 h73 o   hs32
                          · clear hs31
                            exact Or.inr hs32
                      · clear hs28
                        exact Or.inr hs29
                  · rw [if_neg c22] at hs8
                    refine aw_ifne_f (pc1 := 84) at_206_81 c22 rfl ?_
                    refine aw_iconst (v := 0) (pc1 := 85) at_206_84 (by decide) rfl ?_
                    cases hs8
                    exact aw_iret at_206_85 (by rw [rt_206]; decide) rfl
                · clear hs7
                  exact Or.inr hs8
              · clear hs5
                exact Or.inr hs6
            · rw [if_neg c11] at hs3
              refine aw_icge_f (pc1 := 41) at_206_38 c11 rfl ?_
              refine aw_vload_n (pc1 := 42) at_206_41 (am_lk1 l0 rfl rfl) i0 rfl ?_
              obtain ⟨v76, e77, hs33⟩ := am_bind hs3
              clear hs3
              refine aw_pG (pc1 := 45) at_206_42 (am_vR_s e77).1 rfl ?_
              refine aw_iload_n (pc1 := 46) at_206_45 am_lk0 rfl ?_
              refine aw_vload_n (pc1 := 47) at_206_46 (am_lk1 l0 rfl rfl) i0 rfl ?_
              obtain ⟨v78, e79, hs34⟩ := am_bind hs33
              clear hs33
              refine aw_pG (pc1 := 50) at_206_47 (am_vR_s e79).1 rfl ?_
              refine aw_iload_n (pc1 := 51) at_206_50 (am_lk1 l1 rfl rfl) rfl ?_
              refine aw_iconst (v := 1) (pc1 := 52) at_206_51 (by decide) rfl ?_
              obtain ⟨z80, hs35⟩ := am_ift hs34
              clear hs34
              refine aw_call (F := fm_54 v78 x1 1 h5) (t := true) (na := 3) (kd := 1) (as := [v78, (.int x1), (.int 1)]) at_206_52 (am_k3v kb_54) mn_54 mk_54 rfl rfl (am_ok_v mi_54 (am_hl rfl (am_ccR (am_vR_s e79).2 (am_ccI (am_ccI am_cats_0))) rfl) z80) (am_hc (am_ccI (am_ccR (am_vR_s e77).2 am_cats_0)) rfl) (fun _ => ⟨rfl, hh_206⟩) (fun o1 hz9 => rm_54 v78 x1 1 h5 o1 (am_vR_s e79).2 hz9) ?_
              rcases am_cI_s hs35 with ⟨v81, h82, f83, hs36⟩ | hs36
              · clear hs35
                refine Or.inl ⟨_, _, f83, ?_⟩
                show am_W X _ 206 55 _ [(.int v81), (.int v4), v76] h82 _
                obtain ⟨z84, hs37⟩ := am_ift hs36
                clear hs36
                refine aw_call (F := fm_41 N v76 v4 v81 h82) (t := true) (na := 3) (kd := 1) (as := [v76, (.int v4), (.int v81)]) at_206_55 (am_k3v kb_41) mn_41 mk_41 rfl rfl (am_ok_v mi_41 (am_hl rfl (am_ccR (am_vR_s e77).2 (am_ccI (am_ccI am_cats_0))) rfl) z84) (am_hc am_cats_0 rfl) (fun _ => ⟨rfl, hh_206⟩) (fun o1 hz9 => rm_41 v76 v4 v81 h82 o1 (am_vR_s e77).2 hz9) ?_
                rcases am_cI_s hs37 with ⟨v85, h86, f87, hs38⟩ | hs38
                · clear hs37
                  refine Or.inl ⟨_, _, f87, ?_⟩
                  show am_W X _ 206 58 _ [(.int v85)] h86 _
                  obtain ⟨z88, hs39⟩ := am_ift hs38
                  clear hs38
                  cases hs39
                  exact aw_iret at_206_58 (by rw [rt_206]; exact z88) rfl
                · clear hs37
                  exact Or.inr hs38
              · clear hs35
                exact Or.inr hs36
          · rw [if_neg c10] at hs3
            refine aw_icne_f (pc1 := 33) at_206_30 c10 rfl ?_
            exact rg_206_33 qc_206 qc_207 qc_208 qc_209 h5 o   hs3
  · clear hs2
    exact Or.inr hs3
def fo_206 (N : Nat) (rc_206 : Value → Int32 → Int32 → am_H → Option am_O) (rc_207 : Value → Int32 → Int32 → am_H → Option am_O) (rc_208 : Value → Int32 → Int32 → am_H → Option am_O) (rc_209 : Value → Int32 → Int32 → am_H → Option am_O) (y0 : Value) (y1 : Int32) (y2 : Int32) (h : am_H) : Option am_O := fg_206_0 N rc_206 rc_207 rc_208 rc_209 y0 y1 y2 h
theorem ro_206 {X : am_X} {d : Nat} {N : Nat} {rc_206 : Value → Int32 → Int32 → am_H → Option am_O} {rc_207 : Value → Int32 → Int32 → am_H → Option am_O} {rc_208 : Value → Int32 → Int32 → am_H → Option am_O} {rc_209 : Value → Int32 → Int32 → am_H → Option am_O} (qc_206 : ∀ (y0 : Value) (y1 : Int32) (y2 : Int32) (h : am_H) (o : am_O), (am_isR y0 = true) → rc_206 y0 y1 y2 h = some o → am_W X (d + 1) 206 0 (am_args 0 [y0, .int y1, .int y2]) [] h (fun q => q = o)) (qc_207 : ∀ (y0 : Value) (y1 : Int32) (y2 : Int32) (h : am_H) (o : am_O), (am_isR y0 = true) → rc_207 y0 y1 y2 h = some o → am_W X (d + 1) 207 0 (am_args 0 [y0, .int y1, .int y2]) [] h (fun q => q = o)) (qc_208 : ∀ (y0 : Value) (y1 : Int32) (y2 : Int32) (h : am_H) (o : am_O), (am_isR y0 = true) → rc_208 y0 y1 y2 h = some o → am_W X (d + 1) 208 0 (am_args 0 [y0, .int y1, .int y2]) [] h (fun q => q = o)) (qc_209 : ∀ (y0 : Value) (y1 : Int32) (y2 : Int32) (h : am_H) (o : am_O), (am_isR y0 = true) → rc_209 y0 y1 y2 h = some o → am_W X (d + 1) 209 0 (am_args 0 [y0, .int y1, .int y2]) [] h (fun q => q = o)) (y0 : Value) (y1 : Int32) (y2 : Int32) (h : am_H) (o : am_O) (i0 : am_isR y0 = true) (hs : fo_206 N rc_206 rc_207 rc_208 rc_209 y0 y1 y2 h = some o) : am_W X (d + 2) 206 0 (am_args 0 [y0, .int y1, .int y2]) [] h (fun q => q = o) := by
  rw [am_args_R i0, am_args_I, am_args_I]
  exact rg_206_0 qc_206 qc_207 qc_208 qc_209 y0 y1 y2 h o rfl rfl rfl i0 hs
def fg_207_43 (N : Nat) (rc_206 : Value → Int32 → Int32 → am_H → Option am_O) (rc_207 : Value → Int32 → Int32 → am_H → Option am_O) (rc_208 : Value → Int32 → Int32 → am_H → Option am_O) (rc_209 : Value → Int32 → Int32 → am_H → Option am_O) (h : am_H) : Option am_O := some (.inl (some (.int 0), h))
theorem rg_207_43 {X : am_X} {d : Nat} {N : Nat} {rc_206 : Value → Int32 → Int32 → am_H → Option am_O} {rc_207 : Value → Int32 → Int32 → am_H → Option am_O} {rc_208 : Value → Int32 → Int32 → am_H → Option am_O} {rc_209 : Value → Int32 → Int32 → am_H → Option am_O} (qc_206 : ∀ (y0 : Value) (y1 : Int32) (y2 : Int32) (h : am_H) (o : am_O), (am_isR y0 = true) → rc_206 y0 y1 y2 h = some o → am_W X (d + 1) 206 0 (am_args 0 [y0, .int y1, .int y2]) [] h (fun q => q = o)) (qc_207 : ∀ (y0 : Value) (y1 : Int32) (y2 : Int32) (h : am_H) (o : am_O), (am_isR y0 = true) → rc_207 y0 y1 y2 h = some o → am_W X (d + 1) 207 0 (am_args 0 [y0, .int y1, .int y2]) [] h (fun q => q = o)) (qc_208 : ∀ (y0 : Value) (y1 : Int32) (y2 : Int32) (h : am_H) (o : am_O), (am_isR y0 = true) → rc_208 y0 y1 y2 h = some o → am_W X (d + 1) 208 0 (am_args 0 [y0, .int y1, .int y2]) [] h (fun q => q = o)) (qc_209 : ∀ (y0 : Value) (y1 : Int32) (y2 : Int32) (h : am_H) (o : am_O), (am_isR y0 = true) → rc_209 y0 y1 y2 h = some o → am_W X (d + 1) 209 0 (am_args 0 [y0, .int y1, .int y2]) [] h (fun q => q = o)) {lv : am_LV} (h : am_H) (o : am_O) (hs : fg_207_43 N rc_206 rc_207 rc_208 rc_209 h = some o) : am_W X (d + 2) 207 43 lv [] h (fun q => q = o) := by
  unfold fg_207_43 at hs
  refine aw_iconst (v := 0) (pc1 := 44) at_207_43 (by decide) rfl ?_
  cases hs
  exact aw_iret at_207_44 (by rw [rt_207]; decide) rfl
def fg_207_0 (N : Nat) (rc_206 : Value → Int32 → Int32 → am_H → Option am_O) (rc_207 : Value → Int32 → Int32 → am_H → Option am_O) (rc_208 : Value → Int32 → Int32 → am_H → Option am_O) (rc_209 : Value → Int32 → Int32 → am_H → Option am_O) (x0 : Value) (x1 : Int32) (x2 : Int32) (h : am_H) : Option am_O := ((am_vR (am_pG 2565 x0 h)).bind fun v1 => ((am_vI (am_pG 771 v1 h)).bind fun v3 => ((am_vR (am_pG 2565 x0 h)).bind fun v5 => (if am_pOk 3 v5 h then am_cI true (fm_41 N v5 18 0 h) (fun v8 h9 => (if v8 = 0 then (fg_207_43 N rc_206 rc_207 rc_208 rc_209 h9) else (if am_pOk 10 x0 h9 then am_cI true (rc_206 x0 x1 x2 h9) (fun v13 h14 => (if v13 = 0 then (fg_207_43 N rc_206 rc_207 rc_208 rc_209 h14) else ((am_vR (am_pG 2565 x0 h14)).bind fun v17 => (if am_pOk 3 v17 h14 then am_cI true (fm_41 N v17 17 1 h14) (fun v20 h21 => (if ¬ v20 = 0 then ((am_vR (am_pG 2565 x0 h21)).bind fun v24 => ((am_vR (am_pG 2565 x0 h21)).bind fun v26 => ((am_vI (am_pG 771 v26 h21)).bind fun v28 => (if am_pOk 3 v24 h21 then am_cV true (fm_51 v24 v3 1 (((v28 - v3) - 1)) h21) (fun h32 => ((am_vR (am_pG 2565 x0 h32)).bind fun v34 => (if am_pOk 3 v34 h32 then am_cI true (fm_41 N v34 0 0 h32) (fun v37 h38 => (if am_rfit (some FieldType.boolean) v37 then some (.inl (some (.int v37), h38)) else none)) else none))) else none)))) else (fg_207_43 N rc_206 rc_207 rc_208 rc_209 h21))) else none)))) else none))) else none))))
theorem rg_207_0 {X : am_X} {d : Nat} {N : Nat} {rc_206 : Value → Int32 → Int32 → am_H → Option am_O} {rc_207 : Value → Int32 → Int32 → am_H → Option am_O} {rc_208 : Value → Int32 → Int32 → am_H → Option am_O} {rc_209 : Value → Int32 → Int32 → am_H → Option am_O} (qc_206 : ∀ (y0 : Value) (y1 : Int32) (y2 : Int32) (h : am_H) (o : am_O), (am_isR y0 = true) → rc_206 y0 y1 y2 h = some o → am_W X (d + 1) 206 0 (am_args 0 [y0, .int y1, .int y2]) [] h (fun q => q = o)) (qc_207 : ∀ (y0 : Value) (y1 : Int32) (y2 : Int32) (h : am_H) (o : am_O), (am_isR y0 = true) → rc_207 y0 y1 y2 h = some o → am_W X (d + 1) 207 0 (am_args 0 [y0, .int y1, .int y2]) [] h (fun q => q = o)) (qc_208 : ∀ (y0 : Value) (y1 : Int32) (y2 : Int32) (h : am_H) (o : am_O), (am_isR y0 = true) → rc_208 y0 y1 y2 h = some o → am_W X (d + 1) 208 0 (am_args 0 [y0, .int y1, .int y2]) [] h (fun q => q = o)) (qc_209 : ∀ (y0 : Value) (y1 : Int32) (y2 : Int32) (h : am_H) (o : am_O), (am_isR y0 = true) → rc_209 y0 y1 y2 h = some o → am_W X (d + 1) 209 0 (am_args 0 [y0, .int y1, .int y2]) [] h (fun q => q = o)) {lv : am_LV} (x0 : Value) (x1 : Int32) (x2 : Int32) (h : am_H) (o : am_O) (l0 : lv.lookup 0 = some x0) (l1 : lv.lookup 1 = some (.int x1)) (l2 : lv.lookup 2 = some (.int x2)) (i0 : am_isR x0 = true) (hs : fg_207_0 N rc_206 rc_207 rc_208 rc_209 x0 x1 x2 h = some o) : am_W X (d + 2) 207 0 lv [] h (fun q => q = o) := by
  unfold fg_207_0 at hs
  refine aw_vload_n (pc1 := 1) at_207_0 l0 i0 rfl ?_
  obtain ⟨v1, e2, hs1⟩ := am_bind hs
  clear hs
  refine aw_pG (pc1 := 4) at_207_1 (am_vR_s e2).1 rfl ?_
  obtain ⟨v3, e4, hs2⟩ := am_bind hs1
  clear hs1
  refine aw_pG (pc1 := 7) at_207_4 (am_vI_s e4) rfl ?_
  refine aw_istore_n (lv1 := am_put1 _ 3 _) (pc1 := 8) at_207_7 rfl rfl ?_
  refine aw_vload_n (pc1 := 9) at_207_8 (am_lk1 l0 rfl rfl) i0 rfl ?_
  obtain ⟨v5, e6, hs3⟩ := am_bind hs2
  clear hs2
  refine aw_pG (pc1 := 12) at_207_9 (am_vR_s e6).1 rfl ?_
  refine aw_bipush (v := 18) (pc1 := 14) at_207_12 (by decide) rfl ?_
  refine aw_iconst (v := 0) (pc1 := 15) at_207_14 (by decide) rfl ?_
  obtain ⟨z7, hs4⟩ := am_ift hs3
  clear hs3
  refine aw_call (F := fm_41 N v5 18 0 h) (t := true) (na := 3) (kd := 1) (as := [v5, (.int 18), (.int 0)]) at_207_15 (am_k3v kb_41) mn_41 mk_41 rfl rfl (am_ok_v mi_41 (am_hl rfl (am_ccR (am_vR_s e6).2 (am_ccI (am_ccI am_cats_0))) rfl) z7) (am_hc am_cats_0 rfl) (fun _ => ⟨rfl, hh_207⟩) (fun o1 hz9 => rm_41 v5 18 0 h o1 (am_vR_s e6).2 hz9) ?_
  rcases am_cI_s hs4 with ⟨v8, h9, f10, hs5⟩ | hs5
  · clear hs4
    refine Or.inl ⟨_, _, f10, ?_⟩
    show am_W X _ 207 18 _ [(.int v8)] h9 _
    by_cases c11 : v8 = 0
    · rw [if_pos c11] at hs5
      refine aw_ifeq_t at_207_18 c11 ?_
      exact rg_207_43 qc_206 qc_207 qc_208 qc_209 h9 o   hs5
    · rw [if_neg c11] at hs5
      refine aw_ifeq_f (pc1 := 21) at_207_18 c11 rfl ?_
      refine aw_vload_n (pc1 := 22) at_207_21 (am_lk1 l0 rfl rfl) i0 rfl ?_
      refine aw_iload_n (pc1 := 23) at_207_22 (am_lk1 l1 rfl rfl) rfl ?_
      refine aw_iload_n (pc1 := 24) at_207_23 (am_lk1 l2 rfl rfl) rfl ?_
      obtain ⟨z12, hs6⟩ := am_ift hs5
      clear hs5
      refine aw_call (F := rc_206 x0 x1 x2 h9) (t := true) (na := 3) (kd := 1) (as := [x0, (.int x1), (.int x2)]) at_207_24 (am_k3v kb_206) mn_206 mk_206 rfl rfl (am_ok_v mi_206 (am_hl rfl (am_ccR i0 (am_ccI (am_ccI am_cats_0))) rfl) z12) (am_hc am_cats_0 rfl) (fun _ => ⟨rfl, hh_207⟩) (fun o1 hz9 => qc_206 x0 x1 x2 h9 o1 i0 hz9) ?_
      rcases am_cI_s hs6 with ⟨v13, h14, f15, hs7⟩ | hs7
      · clear hs6
        refine Or.inl ⟨_, _, f15, ?_⟩
        show am_W X _ 207 27 _ [(.int v13)] h14 _
        by_cases c16 : v13 = 0
        · rw [if_pos c16] at hs7
          refine aw_ifeq_t at_207_27 c16 ?_
          exact rg_207_43 qc_206 qc_207 qc_208 qc_209 h14 o   hs7
        · rw [if_neg c16] at hs7
          refine aw_ifeq_f (pc1 := 30) at_207_27 c16 rfl ?_
          refine aw_vload_n (pc1 := 31) at_207_30 (am_lk1 l0 rfl rfl) i0 rfl ?_
          obtain ⟨v17, e18, hs8⟩ := am_bind hs7
          clear hs7
          refine aw_pG (pc1 := 34) at_207_31 (am_vR_s e18).1 rfl ?_
          refine aw_bipush (v := 17) (pc1 := 36) at_207_34 (by decide) rfl ?_
          refine aw_iconst (v := 1) (pc1 := 37) at_207_36 (by decide) rfl ?_
          obtain ⟨z19, hs9⟩ := am_ift hs8
          clear hs8
          refine aw_call (F := fm_41 N v17 17 1 h14) (t := true) (na := 3) (kd := 1) (as := [v17, (.int 17), (.int 1)]) at_207_37 (am_k3v kb_41) mn_41 mk_41 rfl rfl (am_ok_v mi_41 (am_hl rfl (am_ccR (am_vR_s e18).2 (am_ccI (am_ccI am_cats_0))) rfl) z19) (am_hc am_cats_0 rfl) (fun _ => ⟨rfl, hh_207⟩) (fun o1 hz9 => rm_41 v17 17 1 h14 o1 (am_vR_s e18).2 hz9) ?_
          rcases am_cI_s hs9 with ⟨v20, h21, f22, hs10⟩ | hs10
          · clear hs9
            refine Or.inl ⟨_, _, f22, ?_⟩
            show am_W X _ 207 40 _ [(.int v20)] h21 _
            by_cases c23 : ¬ v20 = 0
            · rw [if_pos c23] at hs10
              refine aw_ifne_t at_207_40 c23 ?_
              refine aw_vload_n (pc1 := 46) at_207_45 (am_lk1 l0 rfl rfl) i0 rfl ?_
              obtain ⟨v24, e25, hs11⟩ := am_bind hs10
              clear hs10
              refine aw_pG (pc1 := 49) at_207_46 (am_vR_s e25).1 rfl ?_
              refine aw_iload_n (pc1 := 50) at_207_49 am_lk0 rfl ?_
              refine aw_iconst (v := 1) (pc1 := 51) at_207_50 (by decide) rfl ?_
              refine aw_vload_n (pc1 := 52) at_207_51 (am_lk1 l0 rfl rfl) i0 rfl ?_
              obtain ⟨v26, e27, hs12⟩ := am_bind hs11
              clear hs11
              refine aw_pG (pc1 := 55) at_207_52 (am_vR_s e27).1 rfl ?_
              obtain ⟨v28, e29, hs13⟩ := am_bind hs12
              clear hs12
              refine aw_pG (pc1 := 58) at_207_55 (am_vI_s e29) rfl ?_
              refine aw_iload_n (pc1 := 59) at_207_58 am_lk0 rfl ?_
              refine aw_isub (v := (v28 - v3)) (pc1 := 60) at_207_59 rfl rfl ?_
              refine aw_iconst (v := 1) (pc1 := 61) at_207_60 (by decide) rfl ?_
              refine aw_isub (v := ((v28 - v3) - 1)) (pc1 := 62) at_207_61 rfl rfl ?_
              obtain ⟨z30, hs14⟩ := am_ift hs13
              clear hs13
              refine aw_call (F := fm_51 v24 v3 1 (((v28 - v3) - 1)) h21) (t := true) (na := 4) (kd := 1) (as := [v24, (.int v3), (.int 1), (.int ((v28 - v3) - 1))]) at_207_62 (am_k3v kb_51) mn_51 mk_51 rfl rfl (am_ok_v mi_51 (am_hl rfl (am_ccR (am_vR_s e25).2 (am_ccI (am_ccI (am_ccI am_cats_0)))) rfl) z30) (am_hc am_cats_0 rfl) (fun _ => ⟨rfl, hh_207⟩) (fun o1 hz9 => rm_51 v24 v3 1 (((v28 - v3) - 1)) h21 o1 (am_vR_s e25).2 hz9) ?_
              rcases am_cV_s hs14 with ⟨h32, f33, hs15⟩ | hs15
              · clear hs14
                refine Or.inl ⟨_, _, f33, ?_⟩
                show am_W X _ 207 65 _ [] h32 _
                refine aw_vload_n (pc1 := 66) at_207_65 (am_lk1 l0 rfl rfl) i0 rfl ?_
                obtain ⟨v34, e35, hs16⟩ := am_bind hs15
                clear hs15
                refine aw_pG (pc1 := 69) at_207_66 (am_vR_s e35).1 rfl ?_
                refine aw_iconst (v := 0) (pc1 := 70) at_207_69 (by decide) rfl ?_
                refine aw_iconst (v := 0) (pc1 := 71) at_207_70 (by decide) rfl ?_
                obtain ⟨z36, hs17⟩ := am_ift hs16
                clear hs16
                refine aw_call (F := fm_41 N v34 0 0 h32) (t := true) (na := 3) (kd := 1) (as := [v34, (.int 0), (.int 0)]) at_207_71 (am_k3v kb_41) mn_41 mk_41 rfl rfl (am_ok_v mi_41 (am_hl rfl (am_ccR (am_vR_s e35).2 (am_ccI (am_ccI am_cats_0))) rfl) z36) (am_hc am_cats_0 rfl) (fun _ => ⟨rfl, hh_207⟩) (fun o1 hz9 => rm_41 v34 0 0 h32 o1 (am_vR_s e35).2 hz9) ?_
                rcases am_cI_s hs17 with ⟨v37, h38, f39, hs18⟩ | hs18
                · clear hs17
                  refine Or.inl ⟨_, _, f39, ?_⟩
                  show am_W X _ 207 74 _ [(.int v37)] h38 _
                  obtain ⟨z40, hs19⟩ := am_ift hs18
                  clear hs18
                  cases hs19
                  exact aw_iret at_207_74 (by rw [rt_207]; exact z40) rfl
                · clear hs17
                  exact Or.inr hs18
              · clear hs14
                exact Or.inr hs15
            · rw [if_neg c23] at hs10
              refine aw_ifne_f (pc1 := 43) at_207_40 c23 rfl ?_
              exact rg_207_43 qc_206 qc_207 qc_208 qc_209 h21 o   hs10
          · clear hs9
            exact Or.inr hs10
      · clear hs6
        exact Or.inr hs7
  · clear hs4
    exact Or.inr hs5
def fo_207 (N : Nat) (rc_206 : Value → Int32 → Int32 → am_H → Option am_O) (rc_207 : Value → Int32 → Int32 → am_H → Option am_O) (rc_208 : Value → Int32 → Int32 → am_H → Option am_O) (rc_209 : Value → Int32 → Int32 → am_H → Option am_O) (y0 : Value) (y1 : Int32) (y2 : Int32) (h : am_H) : Option am_O := fg_207_0 N rc_206 rc_207 rc_208 rc_209 y0 y1 y2 h
theorem ro_207 {X : am_X} {d : Nat} {N : Nat} {rc_206 : Value → Int32 → Int32 → am_H → Option am_O} {rc_207 : Value → Int32 → Int32 → am_H → Option am_O} {rc_208 : Value → Int32 → Int32 → am_H → Option am_O} {rc_209 : Value → Int32 → Int32 → am_H → Option am_O} (qc_206 : ∀ (y0 : Value) (y1 : Int32) (y2 : Int32) (h : am_H) (o : am_O), (am_isR y0 = true) → rc_206 y0 y1 y2 h = some o → am_W X (d + 1) 206 0 (am_args 0 [y0, .int y1, .int y2]) [] h (fun q => q = o)) (qc_207 : ∀ (y0 : Value) (y1 : Int32) (y2 : Int32) (h : am_H) (o : am_O), (am_isR y0 = true) → rc_207 y0 y1 y2 h = some o → am_W X (d + 1) 207 0 (am_args 0 [y0, .int y1, .int y2]) [] h (fun q => q = o)) (qc_208 : ∀ (y0 : Value) (y1 : Int32) (y2 : Int32) (h : am_H) (o : am_O), (am_isR y0 = true) → rc_208 y0 y1 y2 h = some o → am_W X (d + 1) 208 0 (am_args 0 [y0, .int y1, .int y2]) [] h (fun q => q = o)) (qc_209 : ∀ (y0 : Value) (y1 : Int32) (y2 : Int32) (h : am_H) (o : am_O), (am_isR y0 = true) → rc_209 y0 y1 y2 h = some o → am_W X (d + 1) 209 0 (am_args 0 [y0, .int y1, .int y2]) [] h (fun q => q = o)) (y0 : Value) (y1 : Int32) (y2 : Int32) (h : am_H) (o : am_O) (i0 : am_isR y0 = true) (hs : fo_207 N rc_206 rc_207 rc_208 rc_209 y0 y1 y2 h = some o) : am_W X (d + 2) 207 0 (am_args 0 [y0, .int y1, .int y2]) [] h (fun q => q = o) := by
  rw [am_args_R i0, am_args_I, am_args_I]
  exact rg_207_0 qc_206 qc_207 qc_208 qc_209 y0 y1 y2 h o rfl rfl rfl i0 hs
def fg_208_57 (N : Nat) (rc_206 : Value → Int32 → Int32 → am_H → Option am_O) (rc_207 : Value → Int32 → Int32 → am_H → Option am_O) (rc_208 : Value → Int32 → Int32 → am_H → Option am_O) (rc_209 : Value → Int32 → Int32 → am_H → Option am_O) (h : am_H) : Option am_O := some (.inl (some (.int 0), h))
theorem rg_208_57 {X : am_X} {d : Nat} {N : Nat} {rc_206 : Value → Int32 → Int32 → am_H → Option am_O} {rc_207 : Value → Int32 → Int32 → am_H → Option am_O} {rc_208 : Value → Int32 → Int32 → am_H → Option am_O} {rc_209 : Value → Int32 → Int32 → am_H → Option am_O} (qc_206 : ∀ (y0 : Value) (y1 : Int32) (y2 : Int32) (h : am_H) (o : am_O), (am_isR y0 = true) → rc_206 y0 y1 y2 h = some o → am_W X (d + 1) 206 0 (am_args 0 [y0, .int y1, .int y2]) [] h (fun q => q = o)) (qc_207 : ∀ (y0 : Value) (y1 : Int32) (y2 : Int32) (h : am_H) (o : am_O), (am_isR y0 = true) → rc_207 y0 y1 y2 h = some o → am_W X (d + 1) 207 0 (am_args 0 [y0, .int y1, .int y2]) [] h (fun q => q = o)) (qc_208 : ∀ (y0 : Value) (y1 : Int32) (y2 : Int32) (h : am_H) (o : am_O), (am_isR y0 = true) → rc_208 y0 y1 y2 h = some o → am_W X (d + 1) 208 0 (am_args 0 [y0, .int y1, .int y2]) [] h (fun q => q = o)) (qc_209 : ∀ (y0 : Value) (y1 : Int32) (y2 : Int32) (h : am_H) (o : am_O), (am_isR y0 = true) → rc_209 y0 y1 y2 h = some o → am_W X (d + 1) 209 0 (am_args 0 [y0, .int y1, .int y2]) [] h (fun q => q = o)) {lv : am_LV} (h : am_H) (o : am_O) (hs : fg_208_57 N rc_206 rc_207 rc_208 rc_209 h = some o) : am_W X (d + 2) 208 57 lv [] h (fun q => q = o) := by
  unfold fg_208_57 at hs
  refine aw_iconst (v := 0) (pc1 := 58) at_208_57 (by decide) rfl ?_
  cases hs
  exact aw_iret at_208_58 (by rw [rt_208]; decide) rfl
def fg_208_25 (N : Nat) (rc_206 : Value → Int32 → Int32 → am_H → Option am_O) (rc_207 : Value → Int32 → Int32 → am_H → Option am_O) (rc_208 : Value → Int32 → Int32 → am_H → Option am_O) (rc_209 : Value → Int32 → Int32 → am_H → Option am_O) (h : am_H) : Option am_O := some (.inl (some (.int 0), h))
theorem rg_208_25 {X : am_X} {d : Nat} {N : Nat} {rc_206 : Value → Int32 → Int32 → am_H → Option am_O} {rc_207 : Value → Int32 → Int32 → am_H → Option am_O} {rc_208 : Value → Int32 → Int32 → am_H → Option am_O} {rc_209 : Value → Int32 → Int32 → am_H → Option am_O} (qc_206 : ∀ (y0 : Value) (y1 : Int32) (y2 : Int32) (h : am_H) (o : am_O), (am_isR y0 = true) → rc_206 y0 y1 y2 h = some o → am_W X (d + 1) 206 0 (am_args 0 [y0, .int y1, .int y2]) [] h (fun q => q = o)) (qc_207 : ∀ (y0 : Value) (y1 : Int32) (y2 : Int32) (h : am_H) (o : am_O), (am_isR y0 = true) → rc_207 y0 y1 y2 h = some o → am_W X (d + 1) 207 0 (am_args 0 [y0, .int y1, .int y2]) [] h (fun q => q = o)) (qc_208 : ∀ (y0 : Value) (y1 : Int32) (y2 : Int32) (h : am_H) (o : am_O), (am_isR y0 = true) → rc_208 y0 y1 y2 h = some o → am_W X (d + 1) 208 0 (am_args 0 [y0, .int y1, .int y2]) [] h (fun q => q = o)) (qc_209 : ∀ (y0 : Value) (y1 : Int32) (y2 : Int32) (h : am_H) (o : am_O), (am_isR y0 = true) → rc_209 y0 y1 y2 h = some o → am_W X (d + 1) 209 0 (am_args 0 [y0, .int y1, .int y2]) [] h (fun q => q = o)) {lv : am_LV} (h : am_H) (o : am_O) (hs : fg_208_25 N rc_206 rc_207 rc_208 rc_209 h = some o) : am_W X (d + 2) 208 25 lv [] h (fun q => q = o) := by
  unfold fg_208_25 at hs
  refine aw_iconst (v := 0) (pc1 := 26) at_208_25 (by decide) rfl ?_
  cases hs
  exact aw_iret at_208_26 (by rw [rt_208]; decide) rfl
def fg_208_0 (N : Nat) (rc_206 : Value → Int32 → Int32 → am_H → Option am_O) (rc_207 : Value → Int32 → Int32 → am_H → Option am_O) (rc_208 : Value → Int32 → Int32 → am_H → Option am_O) (rc_209 : Value → Int32 → Int32 → am_H → Option am_O) (x0 : Value) (x1 : Int32) (x2 : Int32) (h : am_H) : Option am_O := ((am_vR (am_pG 2565 x0 h)).bind fun v1 => (if am_pOk 3 v1 h then am_cI true (fm_41 N v1 18 2 h) (fun v4 h5 => (if v4 = 0 then (fg_208_25 N rc_206 rc_207 rc_208 rc_209 h5) else ((am_vR (am_pG 2565 x0 h5)).bind fun v8 => (if am_pOk 3 v8 h5 then am_cI true (fm_41 N v8 0 1 h5) (fun v11 h12 => (if ¬ v11 = 0 then ((am_vR (am_pG 2565 x0 h12)).bind fun v15 => ((am_vI (am_pG 771 v15 h12)).bind fun v17 => ((am_vR (am_pG 2565 x0 h12)).bind fun v19 => (if am_pOk 3 v19 h12 then am_cI true (fm_41 N v19 17 0 h12) (fun v22 h23 => (if v22 = 0 then (fg_208_57 N rc_206 rc_207 rc_208 rc_209 h23) else (if am_pOk 10 x0 h23 then am_cI true (rc_206 x0 x1 x2 h23) (fun v27 h28 => (if ¬ v27 = 0 then ((am_vR (am_pG 2565 x0 h28)).bind fun v31 => ((am_vR (am_pG 2565 x0 h28)).bind fun v33 => ((am_vI (am_pG 771 v33 h28)).bind fun v35 => (if am_pOk 3 v31 h28 then am_cV true (fm_51 v31 v17 1 (((v35 - v17) - 1)) h28) (fun h39 => some (.inl (some (.int 1), h39))) else none)))) else (fg_208_57 N rc_206 rc_207 rc_208 rc_209 h28))) else none))) else none)))) else (fg_208_25 N rc_206 rc_207 rc_208 rc_209 h12))) else none)))) else none))
theorem rg_208_0 {X : am_X} {d : Nat} {N : Nat} {rc_206 : Value → Int32 → Int32 → am_H → Option am_O} {rc_207 : Value → Int32 → Int32 → am_H → Option am_O} {rc_208 : Value → Int32 → Int32 → am_H → Option am_O} {rc_209 : Value → Int32 → Int32 → am_H → Option am_O} (qc_206 : ∀ (y0 : Value) (y1 : Int32) (y2 : Int32) (h : am_H) (o : am_O), (am_isR y0 = true) → rc_206 y0 y1 y2 h = some o → am_W X (d + 1) 206 0 (am_args 0 [y0, .int y1, .int y2]) [] h (fun q => q = o)) (qc_207 : ∀ (y0 : Value) (y1 : Int32) (y2 : Int32) (h : am_H) (o : am_O), (am_isR y0 = true) → rc_207 y0 y1 y2 h = some o → am_W X (d + 1) 207 0 (am_args 0 [y0, .int y1, .int y2]) [] h (fun q => q = o)) (qc_208 : ∀ (y0 : Value) (y1 : Int32) (y2 : Int32) (h : am_H) (o : am_O), (am_isR y0 = true) → rc_208 y0 y1 y2 h = some o → am_W X (d + 1) 208 0 (am_args 0 [y0, .int y1, .int y2]) [] h (fun q => q = o)) (qc_209 : ∀ (y0 : Value) (y1 : Int32) (y2 : Int32) (h : am_H) (o : am_O), (am_isR y0 = true) → rc_209 y0 y1 y2 h = some o → am_W X (d + 1) 209 0 (am_args 0 [y0, .int y1, .int y2]) [] h (fun q => q = o)) {lv : am_LV} (x0 : Value) (x1 : Int32) (x2 : Int32) (h : am_H) (o : am_O) (l0 : lv.lookup 0 = some x0) (l1 : lv.lookup 1 = some (.int x1)) (l2 : lv.lookup 2 = some (.int x2)) (i0 : am_isR x0 = true) (hs : fg_208_0 N rc_206 rc_207 rc_208 rc_209 x0 x1 x2 h = some o) : am_W X (d + 2) 208 0 lv [] h (fun q => q = o) := by
  unfold fg_208_0 at hs
  refine aw_vload_n (pc1 := 1) at_208_0 l0 i0 rfl ?_
  obtain ⟨v1, e2, hs1⟩ := am_bind hs
  clear hs
  refine aw_pG (pc1 := 4) at_208_1 (am_vR_s e2).1 rfl ?_
  refine aw_bipush (v := 18) (pc1 := 6) at_208_4 (by decide) rfl ?_
  refine aw_iconst (v := 2) (pc1 := 7) at_208_6 (by decide) rfl ?_
  obtain ⟨z3, hs2⟩ := am_ift hs1
  clear hs1
  refine aw_call (F := fm_41 N v1 18 2 h) (t := true) (na := 3) (kd := 1) (as := [v1, (.int 18), (.int 2)]) at_208_7 (am_k3v kb_41) mn_41 mk_41 rfl rfl (am_ok_v mi_41 (am_hl rfl (am_ccR (am_vR_s e2).2 (am_ccI (am_ccI am_cats_0))) rfl) z3) (am_hc am_cats_0 rfl) (fun _ => ⟨rfl, hh_208⟩) (fun o1 hz9 => rm_41 v1 18 2 h o1 (am_vR_s e2).2 hz9) ?_
  rcases am_cI_s hs2 with ⟨v4, h5, f6, hs3⟩ | hs3
  · clear hs2
    refine Or.inl ⟨_, _, f6, ?_⟩
    show am_W X _ 208 10 _ [(.int v4)] h5 _
    by_cases c7 : v4 = 0
    · rw [if_pos c7] at hs3
      refine aw_ifeq_t at_208_10 c7 ?_
      exact rg_208_25 qc_206 qc_207 qc_208 qc_209 h5 o   hs3
    · rw [if_neg c7] at hs3
      refine aw_ifeq_f (pc1 := 13) at_208_10 c7 rfl ?_
      refine aw_vload_n (pc1 := 14) at_208_13 l0 i0 rfl ?_
      obtain ⟨v8, e9, hs4⟩ := am_bind hs3
      clear hs3
      refine aw_pG (pc1 := 17) at_208_14 (am_vR_s e9).1 rfl ?_
      refine aw_iconst (v := 0) (pc1 := 18) at_208_17 (by decide) rfl ?_
      refine aw_iconst (v := 1) (pc1 := 19) at_208_18 (by decide) rfl ?_
      obtain ⟨z10, hs5⟩ := am_ift hs4
      clear hs4
      refine aw_call (F := fm_41 N v8 0 1 h5) (t := true) (na := 3) (kd := 1) (as := [v8, (.int 0), (.int 1)]) at_208_19 (am_k3v kb_41) mn_41 mk_41 rfl rfl (am_ok_v mi_41 (am_hl rfl (am_ccR (am_vR_s e9).2 (am_ccI (am_ccI am_cats_0))) rfl) z10) (am_hc am_cats_0 rfl) (fun _ => ⟨rfl, hh_208⟩) (fun o1 hz9 => rm_41 v8 0 1 h5 o1 (am_vR_s e9).2 hz9) ?_
      rcases am_cI_s hs5 with ⟨v11, h12, f13, hs6⟩ | hs6
      · clear hs5
        refine Or.inl ⟨_, _, f13, ?_⟩
        show am_W X _ 208 22 _ [(.int v11)] h12 _
        by_cases c14 : ¬ v11 = 0
        · rw [if_pos c14] at hs6
          refine aw_ifne_t at_208_22 c14 ?_
          refine aw_vload_n (pc1 := 28) at_208_27 l0 i0 rfl ?_
          obtain ⟨v15, e16, hs7⟩ := am_bind hs6
          clear hs6
          refine aw_pG (pc1 := 31) at_208_28 (am_vR_s e16).1 rfl ?_
          obtain ⟨v17, e18, hs8⟩ := am_bind hs7
          clear hs7
          refine aw_pG (pc1 := 34) at_208_31 (am_vI_s e18) rfl ?_
          refine aw_istore_n (lv1 := am_put1 _ 3 _) (pc1 := 35) at_208_34 rfl rfl ?_
          refine aw_vload_n (pc1 := 36) at_208_35 (am_lk1 l0 rfl rfl) i0 rfl ?_
          obtain ⟨v19, e20, hs9⟩ := am_bind hs8
          clear hs8
          refine aw_pG (pc1 := 39) at_208_36 (am_vR_s e20).1 rfl ?_
          refine aw_bipush (v := 17) (pc1 := 41) at_208_39 (by decide) rfl ?_
          refine aw_iconst (v := 0) (pc1 := 42) at_208_41 (by decide) rfl ?_
          obtain ⟨z21, hs10⟩ := am_ift hs9
          clear hs9
          refine aw_call (F := fm_41 N v19 17 0 h12) (t := true) (na := 3) (kd := 1) (as := [v19, (.int 17), (.int 0)]) at_208_42 (am_k3v kb_41) mn_41 mk_41 rfl rfl (am_ok_v mi_41 (am_hl rfl (am_ccR (am_vR_s e20).2 (am_ccI (am_ccI am_cats_0))) rfl) z21) (am_hc am_cats_0 rfl) (fun _ => ⟨rfl, hh_208⟩) (fun o1 hz9 => rm_41 v19 17 0 h12 o1 (am_vR_s e20).2 hz9) ?_
          rcases am_cI_s hs10 with ⟨v22, h23, f24, hs11⟩ | hs11
          · clear hs10
            refine Or.inl ⟨_, _, f24, ?_⟩
            show am_W X _ 208 45 _ [(.int v22)] h23 _
            by_cases c25 : v22 = 0
            · rw [if_pos c25] at hs11
              refine aw_ifeq_t at_208_45 c25 ?_
              exact rg_208_57 qc_206 qc_207 qc_208 qc_209 h23 o   hs11
            · rw [if_neg c25] at hs11
              refine aw_ifeq_f (pc1 := 48) at_208_45 c25 rfl ?_
              refine aw_vload_n (pc1 := 49) at_208_48 (am_lk1 l0 rfl rfl) i0 rfl ?_
              refine aw_iload_n (pc1 := 50) at_208_49 (am_lk1 l1 rfl rfl) rfl ?_
              refine aw_iload_n (pc1 := 51) at_208_50 (am_lk1 l2 rfl rfl) rfl ?_
              obtain ⟨z26, hs12⟩ := am_ift hs11
              clear hs11
              refine aw_call (F := rc_206 x0 x1 x2 h23) (t := true) (na := 3) (kd := 1) (as := [x0, (.int x1), (.int x2)]) at_208_51 (am_k3v kb_206) mn_206 mk_206 rfl rfl (am_ok_v mi_206 (am_hl rfl (am_ccR i0 (am_ccI (am_ccI am_cats_0))) rfl) z26) (am_hc am_cats_0 rfl) (fun _ => ⟨rfl, hh_208⟩) (fun o1 hz9 => qc_206 x0 x1 x2 h23 o1 i0 hz9) ?_
              rcases am_cI_s hs12 with ⟨v27, h28, f29, hs13⟩ | hs13
              · clear hs12
                refine Or.inl ⟨_, _, f29, ?_⟩
                show am_W X _ 208 54 _ [(.int v27)] h28 _
                by_cases c30 : ¬ v27 = 0
                · rw [if_pos c30] at hs13
                  refine aw_ifne_t at_208_54 c30 ?_
                  refine aw_vload_n (pc1 := 60) at_208_59 (am_lk1 l0 rfl rfl) i0 rfl ?_
                  obtain ⟨v31, e32, hs14⟩ := am_bind hs13
                  clear hs13
                  refine aw_pG (pc1 := 63) at_208_60 (am_vR_s e32).1 rfl ?_
                  refine aw_iload_n (pc1 := 64) at_208_63 am_lk0 rfl ?_
                  refine aw_iconst (v := 1) (pc1 := 65) at_208_64 (by decide) rfl ?_
                  refine aw_vload_n (pc1 := 66) at_208_65 (am_lk1 l0 rfl rfl) i0 rfl ?_
                  obtain ⟨v33, e34, hs15⟩ := am_bind hs14
                  clear hs14
                  refine aw_pG (pc1 := 69) at_208_66 (am_vR_s e34).1 rfl ?_
                  obtain ⟨v35, e36, hs16⟩ := am_bind hs15
                  clear hs15
                  refine aw_pG (pc1 := 72) at_208_69 (am_vI_s e36) rfl ?_
                  refine aw_iload_n (pc1 := 73) at_208_72 am_lk0 rfl ?_
                  refine aw_isub (v := (v35 - v17)) (pc1 := 74) at_208_73 rfl rfl ?_
                  refine aw_iconst (v := 1) (pc1 := 75) at_208_74 (by decide) rfl ?_
                  refine aw_isub (v := ((v35 - v17) - 1)) (pc1 := 76) at_208_75 rfl rfl ?_
                  obtain ⟨z37, hs17⟩ := am_ift hs16
                  clear hs16
                  refine aw_call (F := fm_51 v31 v17 1 (((v35 - v17) - 1)) h28) (t := true) (na := 4) (kd := 1) (as := [v31, (.int v17), (.int 1), (.int ((v35 - v17) - 1))]) at_208_76 (am_k3v kb_51) mn_51 mk_51 rfl rfl (am_ok_v mi_51 (am_hl rfl (am_ccR (am_vR_s e32).2 (am_ccI (am_ccI (am_ccI am_cats_0)))) rfl) z37) (am_hc am_cats_0 rfl) (fun _ => ⟨rfl, hh_208⟩) (fun o1 hz9 => rm_51 v31 v17 1 (((v35 - v17) - 1)) h28 o1 (am_vR_s e32).2 hz9) ?_
                  rcases am_cV_s hs17 with ⟨h39, f40, hs18⟩ | hs18
                  · clear hs17
                    refine Or.inl ⟨_, _, f40, ?_⟩
                    show am_W X _ 208 79 _ [] h39 _
                    refine aw_iconst (v := 1) (pc1 := 80) at_208_79 (by decide) rfl ?_
                    cases hs18
                    exact aw_iret at_208_80 (by rw [rt_208]; decide) rfl
                  · clear hs17
                    exact Or.inr hs18
                · rw [if_neg c30] at hs13
                  refine aw_ifne_f (pc1 := 57) at_208_54 c30 rfl ?_
                  exact rg_208_57 qc_206 qc_207 qc_208 qc_209 h28 o   hs13
              · clear hs12
                exact Or.inr hs13
          · clear hs10
            exact Or.inr hs11
        · rw [if_neg c14] at hs6
          refine aw_ifne_f (pc1 := 25) at_208_22 c14 rfl ?_
          exact rg_208_25 qc_206 qc_207 qc_208 qc_209 h12 o   hs6
      · clear hs5
        exact Or.inr hs6
  · clear hs2
    exact Or.inr hs3
def fo_208 (N : Nat) (rc_206 : Value → Int32 → Int32 → am_H → Option am_O) (rc_207 : Value → Int32 → Int32 → am_H → Option am_O) (rc_208 : Value → Int32 → Int32 → am_H → Option am_O) (rc_209 : Value → Int32 → Int32 → am_H → Option am_O) (y0 : Value) (y1 : Int32) (y2 : Int32) (h : am_H) : Option am_O := fg_208_0 N rc_206 rc_207 rc_208 rc_209 y0 y1 y2 h
theorem ro_208 {X : am_X} {d : Nat} {N : Nat} {rc_206 : Value → Int32 → Int32 → am_H → Option am_O} {rc_207 : Value → Int32 → Int32 → am_H → Option am_O} {rc_208 : Value → Int32 → Int32 → am_H → Option am_O} {rc_209 : Value → Int32 → Int32 → am_H → Option am_O} (qc_206 : ∀ (y0 : Value) (y1 : Int32) (y2 : Int32) (h : am_H) (o : am_O), (am_isR y0 = true) → rc_206 y0 y1 y2 h = some o → am_W X (d + 1) 206 0 (am_args 0 [y0, .int y1, .int y2]) [] h (fun q => q = o)) (qc_207 : ∀ (y0 : Value) (y1 : Int32) (y2 : Int32) (h : am_H) (o : am_O), (am_isR y0 = true) → rc_207 y0 y1 y2 h = some o → am_W X (d + 1) 207 0 (am_args 0 [y0, .int y1, .int y2]) [] h (fun q => q = o)) (qc_208 : ∀ (y0 : Value) (y1 : Int32) (y2 : Int32) (h : am_H) (o : am_O), (am_isR y0 = true) → rc_208 y0 y1 y2 h = some o → am_W X (d + 1) 208 0 (am_args 0 [y0, .int y1, .int y2]) [] h (fun q => q = o)) (qc_209 : ∀ (y0 : Value) (y1 : Int32) (y2 : Int32) (h : am_H) (o : am_O), (am_isR y0 = true) → rc_209 y0 y1 y2 h = some o → am_W X (d + 1) 209 0 (am_args 0 [y0, .int y1, .int y2]) [] h (fun q => q = o)) (y0 : Value) (y1 : Int32) (y2 : Int32) (h : am_H) (o : am_O) (i0 : am_isR y0 = true) (hs : fo_208 N rc_206 rc_207 rc_208 rc_209 y0 y1 y2 h = some o) : am_W X (d + 2) 208 0 (am_args 0 [y0, .int y1, .int y2]) [] h (fun q => q = o) := by
  rw [am_args_R i0, am_args_I, am_args_I]
  exact rg_208_0 qc_206 qc_207 qc_208 qc_209 y0 y1 y2 h o rfl rfl rfl i0 hs
def fg_209_30 (N : Nat) (rc_206 : Value → Int32 → Int32 → am_H → Option am_O) (rc_207 : Value → Int32 → Int32 → am_H → Option am_O) (rc_208 : Value → Int32 → Int32 → am_H → Option am_O) (rc_209 : Value → Int32 → Int32 → am_H → Option am_O) (h : am_H) : Option am_O := some (.inl (some (.int 0), h))
theorem rg_209_30 {X : am_X} {d : Nat} {N : Nat} {rc_206 : Value → Int32 → Int32 → am_H → Option am_O} {rc_207 : Value → Int32 → Int32 → am_H → Option am_O} {rc_208 : Value → Int32 → Int32 → am_H → Option am_O} {rc_209 : Value → Int32 → Int32 → am_H → Option am_O} (qc_206 : ∀ (y0 : Value) (y1 : Int32) (y2 : Int32) (h : am_H) (o : am_O), (am_isR y0 = true) → rc_206 y0 y1 y2 h = some o → am_W X (d + 1) 206 0 (am_args 0 [y0, .int y1, .int y2]) [] h (fun q => q = o)) (qc_207 : ∀ (y0 : Value) (y1 : Int32) (y2 : Int32) (h : am_H) (o : am_O), (am_isR y0 = true) → rc_207 y0 y1 y2 h = some o → am_W X (d + 1) 207 0 (am_args 0 [y0, .int y1, .int y2]) [] h (fun q => q = o)) (qc_208 : ∀ (y0 : Value) (y1 : Int32) (y2 : Int32) (h : am_H) (o : am_O), (am_isR y0 = true) → rc_208 y0 y1 y2 h = some o → am_W X (d + 1) 208 0 (am_args 0 [y0, .int y1, .int y2]) [] h (fun q => q = o)) (qc_209 : ∀ (y0 : Value) (y1 : Int32) (y2 : Int32) (h : am_H) (o : am_O), (am_isR y0 = true) → rc_209 y0 y1 y2 h = some o → am_W X (d + 1) 209 0 (am_args 0 [y0, .int y1, .int y2]) [] h (fun q => q = o)) {lv : am_LV} (h : am_H) (o : am_O) (hs : fg_209_30 N rc_206 rc_207 rc_208 rc_209 h = some o) : am_W X (d + 2) 209 30 lv [] h (fun q => q = o) := by
  unfold fg_209_30 at hs
  refine aw_iconst (v := 0) (pc1 := 31) at_209_30 (by decide) rfl ?_
  cases hs
  exact aw_iret at_209_31 (by rw [rt_209]; decide) rfl
def fg_209_0 (N : Nat) (rc_206 : Value → Int32 → Int32 → am_H → Option am_O) (rc_207 : Value → Int32 → Int32 → am_H → Option am_O) (rc_208 : Value → Int32 → Int32 → am_H → Option am_O) (rc_209 : Value → Int32 → Int32 → am_H → Option am_O) (x0 : Value) (x1 : Int32) (x2 : Int32) (h : am_H) : Option am_O := ((am_vR (am_pG 2565 x0 h)).bind fun v1 => ((am_vI (am_pG 771 v1 h)).bind fun v3 => ((am_vR (am_pG 2565 x0 h)).bind fun v5 => (if am_pOk 3 v5 h then am_cI true (fm_41 N v5 18 0 h) (fun v8 h9 => (if v8 = 0 then (fg_209_30 N rc_206 rc_207 rc_208 rc_209 h9) else (if am_pOk 10 x0 h9 then am_cI true (rc_206 x0 x1 x2 h9) (fun v13 h14 => (if ¬ v13 = 0 then ((am_vR (am_pG 2565 x0 h14)).bind fun v17 => ((am_vI (am_pG 771 v17 h14)).bind fun v19 => ((am_vR (am_pG 2565 x0 h14)).bind fun v21 => (if am_pOk 3 v21 h14 then am_cI true (fm_41 N v21 17 0 h14) (fun v24 h25 => (if ¬ v24 = 0 then ((am_vR (am_pG 2565 x0 h25)).bind fun v28 => ((am_vR (am_pG 2565 x0 h25)).bind fun v30 => ((am_vI (am_pG 771 v30 h25)).bind fun v32 => (if am_pOk 3 v28 h25 then am_cV true (fm_51 v28 v3 1 (((v32 - v3) - 1)) h25) (fun h36 => ((am_vR (am_pG 2560 x0 h36)).bind fun v38 => (if am_pOk 7 v38 h36 then am_cI true (fm_100 v38 x1 h36) (fun v41 h42 => (if am_pOk 10 x0 h42 then am_cI true (rc_206 x0 v41 x2 h42) (fun v45 h46 => (if ¬ v45 = 0 then ((am_vR (am_pG 2565 x0 h46)).bind fun v49 => ((am_vR (am_pG 2565 x0 h46)).bind fun v51 => ((am_vI (am_pG 771 v51 h46)).bind fun v53 => (if am_pOk 3 v49 h46 then am_cV true (fm_51 v49 v19 1 (((v53 - v19) - 1)) h46) (fun h57 => some (.inl (some (.int 1), h57))) else none)))) else some (.inl (some (.int 0), h46)))) else none)) else none))) else none)))) else some (.inl (some (.int 0), h25)))) else none)))) else (fg_209_30 N rc_206 rc_207 rc_208 rc_209 h14))) else none))) else none))))
theorem rg_209_0 {X : am_X} {d : Nat} {N : Nat} {rc_206 : Value → Int32 → Int32 → am_H → Option am_O} {rc_207 : Value → Int32 → Int32 → am_H → Option am_O} {rc_208 : Value → Int32 → Int32 → am_H → Option am_O} {rc_209 : Value → Int32 → Int32 → am_H → Option am_O} (qc_206 : ∀ (y0 : Value) (y1 : Int32) (y2 : Int32) (h : am_H) (o : am_O), (am_isR y0 = true) → rc_206 y0 y1 y2 h = some o → am_W X (d + 1) 206 0 (am_args 0 [y0, .int y1, .int y2]) [] h (fun q => q = o)) (qc_207 : ∀ (y0 : Value) (y1 : Int32) (y2 : Int32) (h : am_H) (o : am_O), (am_isR y0 = true) → rc_207 y0 y1 y2 h = some o → am_W X (d + 1) 207 0 (am_args 0 [y0, .int y1, .int y2]) [] h (fun q => q = o)) (qc_208 : ∀ (y0 : Value) (y1 : Int32) (y2 : Int32) (h : am_H) (o : am_O), (am_isR y0 = true) → rc_208 y0 y1 y2 h = some o → am_W X (d + 1) 208 0 (am_args 0 [y0, .int y1, .int y2]) [] h (fun q => q = o)) (qc_209 : ∀ (y0 : Value) (y1 : Int32) (y2 : Int32) (h : am_H) (o : am_O), (am_isR y0 = true) → rc_209 y0 y1 y2 h = some o → am_W X (d + 1) 209 0 (am_args 0 [y0, .int y1, .int y2]) [] h (fun q => q = o)) {lv : am_LV} (x0 : Value) (x1 : Int32) (x2 : Int32) (h : am_H) (o : am_O) (l0 : lv.lookup 0 = some x0) (l1 : lv.lookup 1 = some (.int x1)) (l2 : lv.lookup 2 = some (.int x2)) (i0 : am_isR x0 = true) (hs : fg_209_0 N rc_206 rc_207 rc_208 rc_209 x0 x1 x2 h = some o) : am_W X (d + 2) 209 0 lv [] h (fun q => q = o) := by
  unfold fg_209_0 at hs
  refine aw_vload_n (pc1 := 1) at_209_0 l0 i0 rfl ?_
  obtain ⟨v1, e2, hs1⟩ := am_bind hs
  clear hs
  refine aw_pG (pc1 := 4) at_209_1 (am_vR_s e2).1 rfl ?_
  obtain ⟨v3, e4, hs2⟩ := am_bind hs1
  clear hs1
  refine aw_pG (pc1 := 7) at_209_4 (am_vI_s e4) rfl ?_
  refine aw_istore_n (lv1 := am_put1 _ 3 _) (pc1 := 8) at_209_7 rfl rfl ?_
  refine aw_vload_n (pc1 := 9) at_209_8 (am_lk1 l0 rfl rfl) i0 rfl ?_
  obtain ⟨v5, e6, hs3⟩ := am_bind hs2
  clear hs2
  refine aw_pG (pc1 := 12) at_209_9 (am_vR_s e6).1 rfl ?_
  refine aw_bipush (v := 18) (pc1 := 14) at_209_12 (by decide) rfl ?_
  refine aw_iconst (v := 0) (pc1 := 15) at_209_14 (by decide) rfl ?_
  obtain ⟨z7, hs4⟩ := am_ift hs3
  clear hs3
  refine aw_call (F := fm_41 N v5 18 0 h) (t := true) (na := 3) (kd := 1) (as := [v5, (.int 18), (.int 0)]) at_209_15 (am_k3v kb_41) mn_41 mk_41 rfl rfl (am_ok_v mi_41 (am_hl rfl (am_ccR (am_vR_s e6).2 (am_ccI (am_ccI am_cats_0))) rfl) z7) (am_hc am_cats_0 rfl) (fun _ => ⟨rfl, hh_209⟩) (fun o1 hz9 => rm_41 v5 18 0 h o1 (am_vR_s e6).2 hz9) ?_
  rcases am_cI_s hs4 with ⟨v8, h9, f10, hs5⟩ | hs5
  · clear hs4
    refine Or.inl ⟨_, _, f10, ?_⟩
    show am_W X _ 209 18 _ [(.int v8)] h9 _
    by_cases c11 : v8 = 0
    · rw [if_pos c11] at hs5
      refine aw_ifeq_t at_209_18 c11 ?_
      exact rg_209_30 qc_206 qc_207 qc_208 qc_209 h9 o   hs5
    · rw [if_neg c11] at hs5
      refine aw_ifeq_f (pc1 := 21) at_209_18 c11 rfl ?_
      refine aw_vload_n (pc1 := 22) at_209_21 (am_lk1 l0 rfl rfl) i0 rfl ?_
      refine aw_iload_n (pc1 := 23) at_209_22 (am_lk1 l1 rfl rfl) rfl ?_
      refine aw_iload_n (pc1 := 24) at_209_23 (am_lk1 l2 rfl rfl) rfl ?_
      obtain ⟨z12, hs6⟩ := am_ift hs5
      clear hs5
      refine aw_call (F := rc_206 x0 x1 x2 h9) (t := true) (na := 3) (kd := 1) (as := [x0, (.int x1), (.int x2)]) at_209_24 (am_k3v kb_206) mn_206 mk_206 rfl rfl (am_ok_v mi_206 (am_hl rfl (am_ccR i0 (am_ccI (am_ccI am_cats_0))) rfl) z12) (am_hc am_cats_0 rfl) (fun _ => ⟨rfl, hh_209⟩) (fun o1 hz9 => qc_206 x0 x1 x2 h9 o1 i0 hz9) ?_
      rcases am_cI_s hs6 with ⟨v13, h14, f15, hs7⟩ | hs7
      · clear hs6
        refine Or.inl ⟨_, _, f15, ?_⟩
        show am_W X _ 209 27 _ [(.int v13)] h14 _
        by_cases c16 : ¬ v13 = 0
        · rw [if_pos c16] at hs7
          refine aw_ifne_t at_209_27 c16 ?_
          refine aw_vload_n (pc1 := 33) at_209_32 (am_lk1 l0 rfl rfl) i0 rfl ?_
          obtain ⟨v17, e18, hs8⟩ := am_bind hs7
          clear hs7
          refine aw_pG (pc1 := 36) at_209_33 (am_vR_s e18).1 rfl ?_
          obtain ⟨v19, e20, hs9⟩ := am_bind hs8
          clear hs8
          refine aw_pG (pc1 := 39) at_209_36 (am_vI_s e20) rfl ?_
          refine aw_istore (lv1 := am_put1 _ 4 _) (pc1 := 41) at_209_39 rfl rfl ?_
          refine aw_vload_n (pc1 := 42) at_209_41 (am_lk1 (am_lk1 l0 rfl rfl) rfl rfl) i0 rfl ?_
          obtain ⟨v21, e22, hs10⟩ := am_bind hs9
          clear hs9
          refine aw_pG (pc1 := 45) at_209_42 (am_vR_s e22).1 rfl ?_
          refine aw_bipush (v := 17) (pc1 := 47) at_209_45 (by decide) rfl ?_
          refine aw_iconst (v := 0) (pc1 := 48) at_209_47 (by decide) rfl ?_
          obtain ⟨z23, hs11⟩ := am_ift hs10
          clear hs10
          refine aw_call (F := fm_41 N v21 17 0 h14) (t := true) (na := 3) (kd := 1) (as := [v21, (.int 17), (.int 0)]) at_209_48 (am_k3v kb_41) mn_41 mk_41 rfl rfl (am_ok_v mi_41 (am_hl rfl (am_ccR (am_vR_s e22).2 (am_ccI (am_ccI am_cats_0))) rfl) z23) (am_hc am_cats_0 rfl) (fun _ => ⟨rfl, hh_209⟩) (fun o1 hz9 => rm_41 v21 17 0 h14 o1 (am_vR_s e22).2 hz9) ?_
          rcases am_cI_s hs11 with ⟨v24, h25, f26, hs12⟩ | hs12
          · clear hs11
            refine Or.inl ⟨_, _, f26, ?_⟩
            show am_W X _ 209 51 _ [(.int v24)] h25 _
            by_cases c27 : ¬ v24 = 0
            · rw [if_pos c27] at hs12
              refine aw_ifne_t at_209_51 c27 ?_
              refine aw_vload_n (pc1 := 57) at_209_56 (am_lk1 (am_lk1 l0 rfl rfl) rfl rfl) i0 rfl ?_
              obtain ⟨v28, e29, hs13⟩ := am_bind hs12
              clear hs12
              refine aw_pG (pc1 := 60) at_209_57 (am_vR_s e29).1 rfl ?_
              refine aw_iload_n (pc1 := 61) at_209_60 (am_lk1 am_lk0 rfl rfl) rfl ?_
              refine aw_iconst (v := 1) (pc1 := 62) at_209_61 (by decide) rfl ?_
              refine aw_vload_n (pc1 := 63) at_209_62 (am_lk1 (am_lk1 l0 rfl rfl) rfl rfl) i0 rfl ?_
              obtain ⟨v30, e31, hs14⟩ := am_bind hs13
              clear hs13
              refine aw_pG (pc1 := 66) at_209_63 (am_vR_s e31).1 rfl ?_
              obtain ⟨v32, e33, hs15⟩ := am_bind hs14
              clear hs14
              refine aw_pG (pc1 := 69) at_209_66 (am_vI_s e33) rfl ?_
              refine aw_iload_n (pc1 := 70) at_209_69 (am_lk1 am_lk0 rfl rfl) rfl ?_
              refine aw_isub (v := (v32 - v3)) (pc1 := 71) at_209_70 rfl rfl ?_
              refine aw_iconst (v := 1) (pc1 := 72) at_209_71 (by decide) rfl ?_
              refine aw_isub (v := ((v32 - v3) - 1)) (pc1 := 73) at_209_72 rfl rfl ?_
              obtain ⟨z34, hs16⟩ := am_ift hs15
              clear hs15
              refine aw_call (F := fm_51 v28 v3 1 (((v32 - v3) - 1)) h25) (t := true) (na := 4) (kd := 1) (as := [v28, (.int v3), (.int 1), (.int ((v32 - v3) - 1))]) at_209_73 (am_k3v kb_51) mn_51 mk_51 rfl rfl (am_ok_v mi_51 (am_hl rfl (am_ccR (am_vR_s e29).2 (am_ccI (am_ccI (am_ccI am_cats_0)))) rfl) z34) (am_hc am_cats_0 rfl) (fun _ => ⟨rfl, hh_209⟩) (fun o1 hz9 => rm_51 v28 v3 1 (((v32 - v3) - 1)) h25 o1 (am_vR_s e29).2 hz9) ?_
              rcases am_cV_s hs16 with ⟨h36, f37, hs17⟩ | hs17
              · clear hs16
                refine Or.inl ⟨_, _, f37, ?_⟩
                show am_W X _ 209 76 _ [] h36 _
                refine aw_vload_n (pc1 := 77) at_209_76 (am_lk1 (am_lk1 l0 rfl rfl) rfl rfl) i0 rfl ?_
                refine aw_vload_n (pc1 := 78) at_209_77 (am_lk1 (am_lk1 l0 rfl rfl) rfl rfl) i0 rfl ?_
                obtain ⟨v38, e39, hs18⟩ := am_bind hs17
                clear hs17
                refine aw_pG (pc1 := 81) at_209_78 (am_vR_s e39).1 rfl ?_
                refine aw_iload_n (pc1 := 82) at_209_81 (am_lk1 (am_lk1 l1 rfl rfl) rfl rfl) rfl ?_
                obtain ⟨z40, hs19⟩ := am_ift hs18
                clear hs18
                refine aw_call (F := fm_100 v38 x1 h36) (t := true) (na := 2) (kd := 1) (as := [v38, (.int x1)]) at_209_82 (am_k3v kb_100) mn_100 mk_100 rfl rfl (am_ok_v mi_100 (am_hl rfl (am_ccR (am_vR_s e39).2 (am_ccI am_cats_0)) rfl) z40) (am_hc (am_ccR i0 am_cats_0) rfl) (fun _ => ⟨rfl, hh_209⟩) (fun o1 hz9 => rm_100 v38 x1 h36 o1 (am_vR_s e39).2 hz9) ?_
                rcases am_cI_s hs19 with ⟨v41, h42, f43, hs20⟩ | hs20
                · clear hs19
                  refine Or.inl ⟨_, _, f43, ?_⟩
                  show am_W X _ 209 85 _ [(.int v41), x0] h42 _
                  refine aw_iload_n (pc1 := 86) at_209_85 (am_lk1 (am_lk1 l2 rfl rfl) rfl rfl) rfl ?_
                  obtain ⟨z44, hs21⟩ := am_ift hs20
                  clear hs20
                  refine aw_call (F := rc_206 x0 v41 x2 h42) (t := true) (na := 3) (kd := 1) (as := [x0, (.int v41), (.int x2)]) at_209_86 (am_k3v kb_206) mn_206 mk_206 rfl rfl (am_ok_v mi_206 (am_hl rfl (am_ccR i0 (am_ccI (am_ccI am_cats_0))) rfl) z44) (am_hc am_cats_0 rfl) (fun _ => ⟨rfl, hh_209⟩) (fun o1 hz9 => qc_206 x0 v41 x2 h42 o1 i0 hz9) ?_
                  rcases am_cI_s hs21 with ⟨v45, h46, f47, hs22⟩ | hs22
                  · clear hs21
                    refine Or.inl ⟨_, _, f47, ?_⟩
                    show am_W X _ 209 89 _ [(.int v45)] h46 _
                    by_cases c48 : ¬ v45 = 0
                    · rw [if_pos c48] at hs22
                      refine aw_ifne_t at_209_89 c48 ?_
                      refine aw_vload_n (pc1 := 95) at_209_94 (am_lk1 (am_lk1 l0 rfl rfl) rfl rfl) i0 rfl ?_
                      obtain ⟨v49, e50, hs23⟩ := am_bind hs22
                      clear hs22
                      refine aw_pG (pc1 := 98) at_209_95 (am_vR_s e50).1 rfl ?_
                      refine aw_iload (pc1 := 100) at_209_98 am_lk0 rfl ?_
                      refine aw_iconst (v := 1) (pc1 := 101) at_209_100 (by decide) rfl ?_
                      refine aw_vload_n (pc1 := 102) at_209_101 (am_lk1 (am_lk1 l0 rfl rfl) rfl rfl) i0 rfl ?_
                      obtain ⟨v51, e52, hs24⟩ := am_bind hs23
                      clear hs23
                      refine aw_pG (pc1 := 105) at_209_102 (am_vR_s e52).1 rfl ?_
                      obtain ⟨v53, e54, hs25⟩ := am_bind hs24
                      clear hs24
                      refine aw_pG (pc1 := 108) at_209_105 (am_vI_s e54) rfl ?_
                      refine aw_iload (pc1 := 110) at_209_108 am_lk0 rfl ?_
                      refine aw_isub (v := (v53 - v19)) (pc1 := 111) at_209_110 rfl rfl ?_
                      refine aw_iconst (v := 1) (pc1 := 112) at_209_111 (by decide) rfl ?_
                      refine aw_isub (v := ((v53 - v19) - 1)) (pc1 := 113) at_209_112 rfl rfl ?_
                      obtain ⟨z55, hs26⟩ := am_ift hs25
                      clear hs25
                      refine aw_call (F := fm_51 v49 v19 1 (((v53 - v19) - 1)) h46) (t := true) (na := 4) (kd := 1) (as := [v49, (.int v19), (.int 1), (.int ((v53 - v19) - 1))]) at_209_113 (am_k3v kb_51) mn_51 mk_51 rfl rfl (am_ok_v mi_51 (am_hl rfl (am_ccR (am_vR_s e50).2 (am_ccI (am_ccI (am_ccI am_cats_0)))) rfl) z55) (am_hc am_cats_0 rfl) (fun _ => ⟨rfl, hh_209⟩) (fun o1 hz9 => rm_51 v49 v19 1 (((v53 - v19) - 1)) h46 o1 (am_vR_s e50).2 hz9) ?_
                      rcases am_cV_s hs26 with ⟨h57, f58, hs27⟩ | hs27
                      · clear hs26
                        refine Or.inl ⟨_, _, f58, ?_⟩
                        show am_W X _ 209 116 _ [] h57 _
                        refine aw_iconst (v := 1) (pc1 := 117) at_209_116 (by decide) rfl ?_
                        cases hs27
                        exact aw_iret at_209_117 (by rw [rt_209]; decide) rfl
                      · clear hs26
                        exact Or.inr hs27
                    · rw [if_neg c48] at hs22
                      refine aw_ifne_f (pc1 := 92) at_209_89 c48 rfl ?_
                      refine aw_iconst (v := 0) (pc1 := 93) at_209_92 (by decide) rfl ?_
                      cases hs22
                      exact aw_iret at_209_93 (by rw [rt_209]; decide) rfl
                  · clear hs21
                    exact Or.inr hs22
                · clear hs19
                  exact Or.inr hs20
              · clear hs16
                exact Or.inr hs17
            · rw [if_neg c27] at hs12
              refine aw_ifne_f (pc1 := 54) at_209_51 c27 rfl ?_
              refine aw_iconst (v := 0) (pc1 := 55) at_209_54 (by decide) rfl ?_
              cases hs12
              exact aw_iret at_209_55 (by rw [rt_209]; decide) rfl
          · clear hs11
            exact Or.inr hs12
        · rw [if_neg c16] at hs7
          refine aw_ifne_f (pc1 := 30) at_209_27 c16 rfl ?_
          exact rg_209_30 qc_206 qc_207 qc_208 qc_209 h14 o   hs7
      · clear hs6
        exact Or.inr hs7
  · clear hs4
    exact Or.inr hs5
def fo_209 (N : Nat) (rc_206 : Value → Int32 → Int32 → am_H → Option am_O) (rc_207 : Value → Int32 → Int32 → am_H → Option am_O) (rc_208 : Value → Int32 → Int32 → am_H → Option am_O) (rc_209 : Value → Int32 → Int32 → am_H → Option am_O) (y0 : Value) (y1 : Int32) (y2 : Int32) (h : am_H) : Option am_O := fg_209_0 N rc_206 rc_207 rc_208 rc_209 y0 y1 y2 h
theorem ro_209 {X : am_X} {d : Nat} {N : Nat} {rc_206 : Value → Int32 → Int32 → am_H → Option am_O} {rc_207 : Value → Int32 → Int32 → am_H → Option am_O} {rc_208 : Value → Int32 → Int32 → am_H → Option am_O} {rc_209 : Value → Int32 → Int32 → am_H → Option am_O} (qc_206 : ∀ (y0 : Value) (y1 : Int32) (y2 : Int32) (h : am_H) (o : am_O), (am_isR y0 = true) → rc_206 y0 y1 y2 h = some o → am_W X (d + 1) 206 0 (am_args 0 [y0, .int y1, .int y2]) [] h (fun q => q = o)) (qc_207 : ∀ (y0 : Value) (y1 : Int32) (y2 : Int32) (h : am_H) (o : am_O), (am_isR y0 = true) → rc_207 y0 y1 y2 h = some o → am_W X (d + 1) 207 0 (am_args 0 [y0, .int y1, .int y2]) [] h (fun q => q = o)) (qc_208 : ∀ (y0 : Value) (y1 : Int32) (y2 : Int32) (h : am_H) (o : am_O), (am_isR y0 = true) → rc_208 y0 y1 y2 h = some o → am_W X (d + 1) 208 0 (am_args 0 [y0, .int y1, .int y2]) [] h (fun q => q = o)) (qc_209 : ∀ (y0 : Value) (y1 : Int32) (y2 : Int32) (h : am_H) (o : am_O), (am_isR y0 = true) → rc_209 y0 y1 y2 h = some o → am_W X (d + 1) 209 0 (am_args 0 [y0, .int y1, .int y2]) [] h (fun q => q = o)) (y0 : Value) (y1 : Int32) (y2 : Int32) (h : am_H) (o : am_O) (i0 : am_isR y0 = true) (hs : fo_209 N rc_206 rc_207 rc_208 rc_209 y0 y1 y2 h = some o) : am_W X (d + 2) 209 0 (am_args 0 [y0, .int y1, .int y2]) [] h (fun q => q = o) := by
  rw [am_args_R i0, am_args_I, am_args_I]
  exact rg_209_0 qc_206 qc_207 qc_208 qc_209 y0 y1 y2 h o rfl rfl rfl i0 hs
def gr_206 (N : Nat) : Nat → Nat → List Value → am_H → Option am_O
  | 0 => fun _ _ _ => none
  | K + 1 => fun w as h => match w, as with
    | 206, [y0, .int y1, .int y2] => fo_206 N (fun y0 y1 y2 h => gr_206 N K 206 [y0, .int y1, .int y2] h) (fun y0 y1 y2 h => gr_206 N K 207 [y0, .int y1, .int y2] h) (fun y0 y1 y2 h => gr_206 N K 208 [y0, .int y1, .int y2] h) (fun y0 y1 y2 h => gr_206 N K 209 [y0, .int y1, .int y2] h) y0 y1 y2 h
    | 207, [y0, .int y1, .int y2] => fo_207 N (fun y0 y1 y2 h => gr_206 N K 206 [y0, .int y1, .int y2] h) (fun y0 y1 y2 h => gr_206 N K 207 [y0, .int y1, .int y2] h) (fun y0 y1 y2 h => gr_206 N K 208 [y0, .int y1, .int y2] h) (fun y0 y1 y2 h => gr_206 N K 209 [y0, .int y1, .int y2] h) y0 y1 y2 h
    | 208, [y0, .int y1, .int y2] => fo_208 N (fun y0 y1 y2 h => gr_206 N K 206 [y0, .int y1, .int y2] h) (fun y0 y1 y2 h => gr_206 N K 207 [y0, .int y1, .int y2] h) (fun y0 y1 y2 h => gr_206 N K 208 [y0, .int y1, .int y2] h) (fun y0 y1 y2 h => gr_206 N K 209 [y0, .int y1, .int y2] h) y0 y1 y2 h
    | 209, [y0, .int y1, .int y2] => fo_209 N (fun y0 y1 y2 h => gr_206 N K 206 [y0, .int y1, .int y2] h) (fun y0 y1 y2 h => gr_206 N K 207 [y0, .int y1, .int y2] h) (fun y0 y1 y2 h => gr_206 N K 208 [y0, .int y1, .int y2] h) (fun y0 y1 y2 h => gr_206 N K 209 [y0, .int y1, .int y2] h) y0 y1 y2 h
    | _, _ => none
theorem gs_206 {X : am_X} {d N : Nat} : ∀ K : Nat, (∀ (y0 : Value) (y1 : Int32) (y2 : Int32) (h : am_H) (o : am_O), (am_isR y0 = true) → gr_206 N K 206 [y0, .int y1, .int y2] h = some o → am_W X (d + 2 * K) 206 0 (am_args 0 [y0, .int y1, .int y2]) [] h (fun q => q = o)) ∧ (∀ (y0 : Value) (y1 : Int32) (y2 : Int32) (h : am_H) (o : am_O), (am_isR y0 = true) → gr_206 N K 207 [y0, .int y1, .int y2] h = some o → am_W X (d + 2 * K) 207 0 (am_args 0 [y0, .int y1, .int y2]) [] h (fun q => q = o)) ∧ (∀ (y0 : Value) (y1 : Int32) (y2 : Int32) (h : am_H) (o : am_O), (am_isR y0 = true) → gr_206 N K 208 [y0, .int y1, .int y2] h = some o → am_W X (d + 2 * K) 208 0 (am_args 0 [y0, .int y1, .int y2]) [] h (fun q => q = o)) ∧ (∀ (y0 : Value) (y1 : Int32) (y2 : Int32) (h : am_H) (o : am_O), (am_isR y0 = true) → gr_206 N K 209 [y0, .int y1, .int y2] h = some o → am_W X (d + 2 * K) 209 0 (am_args 0 [y0, .int y1, .int y2]) [] h (fun q => q = o)) := by
  intro K
  induction K with
  | zero => exact ⟨fun _ _ _ h o _ hs => (by cases hs), fun _ _ _ h o _ hs => (by cases hs), fun _ _ _ h o _ hs => (by cases hs), fun _ _ _ h o _ hs => (by cases hs)⟩
  | succ K ih =>
    obtain ⟨q206, q207, q208, q209⟩ := ih
    have up : d + 2 * K ≤ d + 2 * K + 1 := Nat.le_add_right _ _
    have eD : d + 2 * (K + 1) = d + 2 * K + 2 := by rw [Nat.mul_succ, Nat.add_assoc]
    rw [eD]
    refine ⟨?_, ?_, ?_, ?_⟩
    · intro y0 y1 y2 h o i0 hs
      exact ro_206 (fun w0 w1 w2 h o k0 hs => (q206 w0 w1 w2 h o k0 hs).up up) (fun w0 w1 w2 h o k0 hs => (q207 w0 w1 w2 h o k0 hs).up up) (fun w0 w1 w2 h o k0 hs => (q208 w0 w1 w2 h o k0 hs).up up) (fun w0 w1 w2 h o k0 hs => (q209 w0 w1 w2 h o k0 hs).up up) y0 y1 y2 h o i0 hs
    · intro y0 y1 y2 h o i0 hs
      exact ro_207 (fun w0 w1 w2 h o k0 hs => (q206 w0 w1 w2 h o k0 hs).up up) (fun w0 w1 w2 h o k0 hs => (q207 w0 w1 w2 h o k0 hs).up up) (fun w0 w1 w2 h o k0 hs => (q208 w0 w1 w2 h o k0 hs).up up) (fun w0 w1 w2 h o k0 hs => (q209 w0 w1 w2 h o k0 hs).up up) y0 y1 y2 h o i0 hs
    · intro y0 y1 y2 h o i0 hs
      exact ro_208 (fun w0 w1 w2 h o k0 hs => (q206 w0 w1 w2 h o k0 hs).up up) (fun w0 w1 w2 h o k0 hs => (q207 w0 w1 w2 h o k0 hs).up up) (fun w0 w1 w2 h o k0 hs => (q208 w0 w1 w2 h o k0 hs).up up) (fun w0 w1 w2 h o k0 hs => (q209 w0 w1 w2 h o k0 hs).up up) y0 y1 y2 h o i0 hs
    · intro y0 y1 y2 h o i0 hs
      exact ro_209 (fun w0 w1 w2 h o k0 hs => (q206 w0 w1 w2 h o k0 hs).up up) (fun w0 w1 w2 h o k0 hs => (q207 w0 w1 w2 h o k0 hs).up up) (fun w0 w1 w2 h o k0 hs => (q208 w0 w1 w2 h o k0 hs).up up) (fun w0 w1 w2 h o k0 hs => (q209 w0 w1 w2 h o k0 hs).up up) y0 y1 y2 h o i0 hs
def fm_206 (N : Nat) (y0 : Value) (y1 : Int32) (y2 : Int32) (h : am_H) : Option am_O := gr_206 N 40 206 [y0, .int y1, .int y2] h
theorem rm_206 {X : am_X} {d : Nat} {N : Nat} (y0 : Value) (y1 : Int32) (y2 : Int32) (h : am_H) (o : am_O) (i0 : am_isR y0 = true) (hs : fm_206 N y0 y1 y2 h = some o) : am_W X (d + 80) 206 0 (am_args 0 [y0, .int y1, .int y2]) [] h (fun q => q = o) := (gs_206 (X := X) (d := d) (N := N) 40).1 y0 y1 y2 h o i0 hs
def fm_207 (N : Nat) (y0 : Value) (y1 : Int32) (y2 : Int32) (h : am_H) : Option am_O := gr_206 N 40 207 [y0, .int y1, .int y2] h
theorem rm_207 {X : am_X} {d : Nat} {N : Nat} (y0 : Value) (y1 : Int32) (y2 : Int32) (h : am_H) (o : am_O) (i0 : am_isR y0 = true) (hs : fm_207 N y0 y1 y2 h = some o) : am_W X (d + 80) 207 0 (am_args 0 [y0, .int y1, .int y2]) [] h (fun q => q = o) := (gs_206 (X := X) (d := d) (N := N) 40).2.1 y0 y1 y2 h o i0 hs
def fm_208 (N : Nat) (y0 : Value) (y1 : Int32) (y2 : Int32) (h : am_H) : Option am_O := gr_206 N 40 208 [y0, .int y1, .int y2] h
theorem rm_208 {X : am_X} {d : Nat} {N : Nat} (y0 : Value) (y1 : Int32) (y2 : Int32) (h : am_H) (o : am_O) (i0 : am_isR y0 = true) (hs : fm_208 N y0 y1 y2 h = some o) : am_W X (d + 80) 208 0 (am_args 0 [y0, .int y1, .int y2]) [] h (fun q => q = o) := (gs_206 (X := X) (d := d) (N := N) 40).2.2.1 y0 y1 y2 h o i0 hs
def fm_209 (N : Nat) (y0 : Value) (y1 : Int32) (y2 : Int32) (h : am_H) : Option am_O := gr_206 N 40 209 [y0, .int y1, .int y2] h
theorem rm_209 {X : am_X} {d : Nat} {N : Nat} (y0 : Value) (y1 : Int32) (y2 : Int32) (h : am_H) (o : am_O) (i0 : am_isR y0 = true) (hs : fm_209 N y0 y1 y2 h = some o) : am_W X (d + 80) 209 0 (am_args 0 [y0, .int y1, .int y2]) [] h (fun q => q = o) := (gs_206 (X := X) (d := d) (N := N) 40).2.2.2 y0 y1 y2 h o i0 hs
def fg_205_49 (N : Nat) (s0 : Int32) (h : am_H) : Option am_O := (if am_rfit (some FieldType.boolean) s0 then some (.inl (some (.int s0), h)) else none)
theorem rg_205_49 {X : am_X} {d : Nat} {N : Nat} {lv : am_LV} (s0 : Int32) (h : am_H) (o : am_O) (hs : fg_205_49 N s0 h = some o) : am_W X (d + 81) 205 49 lv [(.int s0)] h (fun q => q = o) := by
  unfold fg_205_49 at hs
  obtain ⟨z1, hs1⟩ := am_ift hs
  clear hs
  cases hs1
  exact aw_iret at_205_49 (by rw [rt_205]; exact z1) rfl
def fg_205_48 (N : Nat) (h : am_H) : Option am_O := (fg_205_49 N 0 h)
theorem rg_205_48 {X : am_X} {d : Nat} {N : Nat} {lv : am_LV} (h : am_H) (o : am_O) (hs : fg_205_48 N h = some o) : am_W X (d + 81) 205 48 lv [] h (fun q => q = o) := by
  unfold fg_205_48 at hs
  refine aw_iconst (v := 0) (pc1 := 49) at_205_48 (by decide) rfl ?_
  exact rg_205_49 0 h o   hs
def fg_205_0 (N : Nat) (x0 : Value) (x1 : Value) (x2 : Value) (h : am_H) : Option am_O := ((am_pP 2564 x0 x1 h).bind fun h1 => ((am_pP 2565 x0 x2 h1).bind fun h3 => ((am_vR (am_pG 2560 x0 h3)).bind fun v5 => (if am_pOk 7 v5 h3 then am_cV true (fm_77 N v5 x1 h3) (fun h9 => (if am_pOk 3 x2 h9 then am_cV true (fm_34 x2 1 0 h9) (fun h13 => (if am_pOk 10 x0 h13 then am_cI true (fm_206 N x0 0 1 h13) (fun v16 h17 => (if v16 = 0 then (fg_205_48 N h17) else ((am_vR (am_pG 2560 x0 h17)).bind fun v20 => (if am_pOk 7 v20 h17 then am_cI true (fm_52 N v20 x2 h17) (fun v23 h24 => (if 0 ≤ v23 then (fg_205_48 N h24) else (fg_205_49 N 1 h24))) else none)))) else none)) else none)) else none))))
theorem rg_205_0 {X : am_X} {d : Nat} {N : Nat} {lv : am_LV} (x0 : Value) (x1 : Value) (x2 : Value) (h : am_H) (o : am_O) (l0 : lv.lookup 0 = some x0) (l1 : lv.lookup 1 = some x1) (l2 : lv.lookup 2 = some x2) (i0 : am_isR x0 = true) (i1 : am_isR x1 = true) (i2 : am_isR x2 = true) (hs : fg_205_0 N x0 x1 x2 h = some o) : am_W X (d + 81) 205 0 lv [] h (fun q => q = o) := by
  unfold fg_205_0 at hs
  refine aw_vload_n (pc1 := 1) at_205_0 l0 i0 rfl ?_
  refine aw_vload_n (pc1 := 2) at_205_1 l1 i1 rfl ?_
  obtain ⟨h1, e2, hs1⟩ := am_bind hs
  clear hs
  refine aw_pP (pc1 := 5) at_205_2 e2 rfl ?_
  refine aw_vload_n (pc1 := 6) at_205_5 l0 i0 rfl ?_
  refine aw_vload_n (pc1 := 7) at_205_6 l2 i2 rfl ?_
  obtain ⟨h3, e4, hs2⟩ := am_bind hs1
  clear hs1
  refine aw_pP (pc1 := 10) at_205_7 e4 rfl ?_
  refine aw_vload_n (pc1 := 11) at_205_10 l0 i0 rfl ?_
  obtain ⟨v5, e6, hs3⟩ := am_bind hs2
  clear hs2
  refine aw_pG (pc1 := 14) at_205_11 (am_vR_s e6).1 rfl ?_
  refine aw_vload_n (pc1 := 15) at_205_14 l1 i1 rfl ?_
  obtain ⟨z7, hs4⟩ := am_ift hs3
  clear hs3
  refine aw_call (F := fm_77 N v5 x1 h3) (t := true) (na := 2) (kd := 1) (as := [v5, x1]) at_205_15 (am_k3v kb_77) mn_77 mk_77 rfl rfl (am_ok_v mi_77 (am_hl rfl (am_ccR (am_vR_s e6).2 (am_ccR i1 am_cats_0)) rfl) z7) (am_hc am_cats_0 rfl) (fun _ => ⟨rfl, hh_205⟩) (fun o1 hz9 => rm_77 v5 x1 h3 o1 (am_vR_s e6).2 i1 hz9) ?_
  rcases am_cV_s hs4 with ⟨h9, f10, hs5⟩ | hs5
  · clear hs4
    refine Or.inl ⟨_, _, f10, ?_⟩
    show am_W X _ 205 18 _ [] h9 _
    refine aw_vload_n (pc1 := 19) at_205_18 l2 i2 rfl ?_
    refine aw_iconst (v := 1) (pc1 := 20) at_205_19 (by decide) rfl ?_
    refine aw_iconst (v := 0) (pc1 := 21) at_205_20 (by decide) rfl ?_
    obtain ⟨z11, hs6⟩ := am_ift hs5
    clear hs5
    refine aw_call (F := fm_34 x2 1 0 h9) (t := true) (na := 3) (kd := 1) (as := [x2, (.int 1), (.int 0)]) at_205_21 (am_k3v kb_34) mn_34 mk_34 rfl rfl (am_ok_v mi_34 (am_hl rfl (am_ccR i2 (am_ccI (am_ccI am_cats_0))) rfl) z11) (am_hc am_cats_0 rfl) (fun _ => ⟨rfl, hh_205⟩) (fun o1 hz9 => rm_34 x2 1 0 h9 o1 i2 hz9) ?_
    rcases am_cV_s hs6 with ⟨h13, f14, hs7⟩ | hs7
    · clear hs6
      refine Or.inl ⟨_, _, f14, ?_⟩
      show am_W X _ 205 24 _ [] h13 _
      refine aw_vload_n (pc1 := 25) at_205_24 l0 i0 rfl ?_
      refine aw_iconst (v := 0) (pc1 := 26) at_205_25 (by decide) rfl ?_
      refine aw_iconst (v := 1) (pc1 := 27) at_205_26 (by decide) rfl ?_
      obtain ⟨z15, hs8⟩ := am_ift hs7
      clear hs7
      refine aw_call (F := fm_206 N x0 0 1 h13) (t := true) (na := 3) (kd := 1) (as := [x0, (.int 0), (.int 1)]) at_205_27 (am_k3v kb_206) mn_206 mk_206 rfl rfl (am_ok_v mi_206 (am_hl rfl (am_ccR i0 (am_ccI (am_ccI am_cats_0))) rfl) z15) (am_hc am_cats_0 rfl) (fun _ => ⟨rfl, hh_205⟩) (fun o1 hz9 => rm_206 x0 0 1 h13 o1 i0 hz9) ?_
      rcases am_cI_s hs8 with ⟨v16, h17, f18, hs9⟩ | hs9
      · clear hs8
        refine Or.inl ⟨_, _, f18, ?_⟩
        show am_W X _ 205 30 _ [(.int v16)] h17 _
        by_cases c19 : v16 = 0
        · rw [if_pos c19] at hs9
          refine aw_ifeq_t at_205_30 c19 ?_
          exact rg_205_48 h17 o   hs9
        · rw [if_neg c19] at hs9
          refine aw_ifeq_f (pc1 := 33) at_205_30 c19 rfl ?_
          refine aw_vload_n (pc1 := 34) at_205_33 l0 i0 rfl ?_
          obtain ⟨v20, e21, hs10⟩ := am_bind hs9
          clear hs9
          refine aw_pG (pc1 := 37) at_205_34 (am_vR_s e21).1 rfl ?_
          refine aw_vload_n (pc1 := 38) at_205_37 l2 i2 rfl ?_
          obtain ⟨z22, hs11⟩ := am_ift hs10
          clear hs10
          refine aw_call (F := fm_52 N v20 x2 h17) (t := true) (na := 2) (kd := 1) (as := [v20, x2]) at_205_38 (am_k3v kb_52) mn_52 mk_52 rfl rfl (am_ok_v mi_52 (am_hl rfl (am_ccR (am_vR_s e21).2 (am_ccR i2 am_cats_0)) rfl) z22) (am_hc am_cats_0 rfl) (fun _ => ⟨rfl, hh_205⟩) (fun o1 hz9 => rm_52 v20 x2 h17 o1 (am_vR_s e21).2 i2 hz9) ?_
          rcases am_cI_s hs11 with ⟨v23, h24, f25, hs12⟩ | hs12
          · clear hs11
            refine Or.inl ⟨_, _, f25, ?_⟩
            show am_W X _ 205 41 _ [(.int v23)] h24 _
            by_cases c26 : 0 ≤ v23
            · rw [if_pos c26] at hs12
              refine aw_ifge_t at_205_41 c26 ?_
              exact rg_205_48 h24 o   hs12
            · rw [if_neg c26] at hs12
              refine aw_ifge_f (pc1 := 44) at_205_41 c26 rfl ?_
              refine aw_iconst (v := 1) (pc1 := 45) at_205_44 (by decide) rfl ?_
              refine aw_goto at_205_45 ?_
              exact rg_205_49 1 h24 o   hs12
          · clear hs11
            exact Or.inr hs12
      · clear hs8
        exact Or.inr hs9
    · clear hs6
      exact Or.inr hs7
  · clear hs4
    exact Or.inr hs5
def fm_205 (N : Nat) (y0 : Value) (y1 : Value) (y2 : Value) (h : am_H) : Option am_O := fg_205_0 N y0 y1 y2 h
theorem rm_205 {X : am_X} {d : Nat} {N : Nat} (y0 : Value) (y1 : Value) (y2 : Value) (h : am_H) (o : am_O) (i0 : am_isR y0 = true) (i1 : am_isR y1 = true) (i2 : am_isR y2 = true) (hs : fm_205 N y0 y1 y2 h = some o) : am_W X (d + 81) 205 0 (am_args 0 [y0, y1, y2]) [] h (fun q => q = o) := by
  rw [am_args_R i0, am_args_R i1, am_args_R i2]
  exact rg_205_0 y0 y1 y2 h o rfl rfl rfl i0 i1 i2 hs
def fg_202_111 (N : Nat) (h : am_H) : Option am_O := some (.inl (none, h))
theorem rg_202_111 {X : am_X} {d : Nat} {N : Nat} {lv : am_LV} (h : am_H) (o : am_O) (hs : fg_202_111 N h = some o) : am_W X (d + 122) 202 111 lv [] h (fun q => q = o) := by
  unfold fg_202_111 at hs
  cases hs
  exact aw_vret at_202_111 rt_202 rfl
def fg_202_43 (N : Nat) (x0 : Value) (x1 : Value) (x2 : Int32) (x3 : Int32) (s0 : Value) (h : am_H) : Option am_O := ((am_vR (am_pG 2822 x0 h)).bind fun v1 => ((am_vR (am_pG 2822 x0 h)).bind fun v3 => (if am_pOk 4 v3 h then am_cL true (fm_15 v3 0 x3 h) (fun v6 h7 => (if am_pOk 8 x1 h7 then am_cL true (fm_194 x1 v6 h7) (fun v10 h11 => (if am_pOk 4 v1 h11 then am_cV true (fm_91 N v1 0 x3 v10 s0 h11) (fun h15 => (if ¬ x2 = 1 then (fg_202_111 N h15) else ((am_vR (am_pG 2825 x0 h15)).bind fun v18 => ((am_vR (am_pG 2832 x0 h15)).bind fun v20 => ((am_vR (am_pG 2831 x0 h15)).bind fun v22 => (if am_pOk 10 v18 h15 then am_cI true (fm_205 N v18 v20 v22 h15) (fun v25 h26 => (if ¬ v25 = 0 then (fg_202_111 N h26) else ((am_vR (am_pG 2831 x0 h26)).bind fun v29 => (if am_pOk 3 v29 h26 then am_cV true (fm_34 v29 1 0 h26) (fun h33 => ((am_vR (am_pG 2831 x0 h33)).bind fun v35 => (if am_pOk 3 v35 h33 then am_cI true (fm_41 N v35 0 0 h33) (fun v38 h39 => (fg_202_111 N h39)) else none))) else none)))) else none)))))) else none)) else none)) else none)))
theorem rg_202_43 {X : am_X} {d : Nat} {N : Nat} {lv : am_LV} (x0 : Value) (x1 : Value) (x2 : Int32) (x3 : Int32) (s0 : Value) (h : am_H) (o : am_O) (l0 : lv.lookup 0 = some x0) (l1 : lv.lookup 1 = some x1) (l2 : lv.lookup 2 = some (.int x2)) (l3 : lv.lookup 3 = some (.int x3)) (i0 : am_isR x0 = true) (i1 : am_isR x1 = true) (j0 : am_isR s0 = true) (hs : fg_202_43 N x0 x1 x2 x3 s0 h = some o) : am_W X (d + 122) 202 43 lv [s0] h (fun q => q = o) := by
  unfold fg_202_43 at hs
  refine aw_vstore (lv1 := am_put1 _ 4 _) (pc1 := 45) at_202_43 j0 rfl rfl ?_
  refine aw_vload_n (pc1 := 46) at_202_45 (am_lk1 l0 rfl rfl) i0 rfl ?_
  obtain ⟨v1, e2, hs1⟩ := am_bind hs
  clear hs
  refine aw_pG (pc1 := 49) at_202_46 (am_vR_s e2).1 rfl ?_
  refine aw_iconst (v := 0) (pc1 := 50) at_202_49 (by decide) rfl ?_
  refine aw_iload_n (pc1 := 51) at_202_50 (am_lk1 l3 rfl rfl) rfl ?_
  refine aw_vload_n (pc1 := 52) at_202_51 (am_lk1 l1 rfl rfl) i1 rfl ?_
  refine aw_vload_n (pc1 := 53) at_202_52 (am_lk1 l0 rfl rfl) i0 rfl ?_
  obtain ⟨v3, e4, hs2⟩ := am_bind hs1
  clear hs1
  refine aw_pG (pc1 := 56) at_202_53 (am_vR_s e4).1 rfl ?_
  refine aw_iconst (v := 0) (pc1 := 57) at_202_56 (by decide) rfl ?_
  refine aw_iload_n (pc1 := 58) at_202_57 (am_lk1 l3 rfl rfl) rfl ?_
  obtain ⟨z5, hs3⟩ := am_ift hs2
  clear hs2
  refine aw_call (F := fm_15 v3 0 x3 h) (t := true) (na := 3) (kd := 1) (as := [v3, (.int 0), (.int x3)]) at_202_58 (am_k3v kb_15) mn_15 mk_15 rfl rfl (am_ok_v mi_15 (am_hl rfl (am_ccR (am_vR_s e4).2 (am_ccI (am_ccI am_cats_0))) rfl) z5) (am_hc (am_ccR i1 (am_ccI (am_ccI (am_ccR (am_vR_s e2).2 am_cats_0)))) rfl) (fun _ => ⟨rfl, hh_202⟩) (fun o1 hz9 => rm_15 v3 0 x3 h o1 (am_vR_s e4).2 hz9) ?_
  rcases am_cL_s hs3 with ⟨v6, h7, f8, hs4⟩ | hs4
  · clear hs3
    refine Or.inl ⟨_, _, f8, ?_⟩
    show am_W X _ 202 61 _ [(.long v6), x1, (.int x3), (.int 0), v1] h7 _
    obtain ⟨z9, hs5⟩ := am_ift hs4
    clear hs4
    refine aw_call (F := fm_194 x1 v6 h7) (t := true) (na := 2) (kd := 1) (as := [x1, (.long v6)]) at_202_61 (am_k3v kb_194) mn_194 mk_194 rfl rfl (am_ok_v mi_194 (am_hl rfl (am_ccR i1 (am_ccL am_cats_0)) rfl) z9) (am_hc (am_ccI (am_ccI (am_ccR (am_vR_s e2).2 am_cats_0))) rfl) (fun _ => ⟨rfl, hh_202⟩) (fun o1 hz9 => rm_194 x1 v6 h7 o1 i1 hz9) ?_
    rcases am_cL_s hs5 with ⟨v10, h11, f12, hs6⟩ | hs6
    · clear hs5
      refine Or.inl ⟨_, _, f12, ?_⟩
      show am_W X _ 202 64 _ [(.long v10), (.int x3), (.int 0), v1] h11 _
      refine aw_vload (pc1 := 66) at_202_64 am_lk0 j0 rfl ?_
      obtain ⟨z13, hs7⟩ := am_ift hs6
      clear hs6
      refine aw_call (F := fm_91 N v1 0 x3 v10 s0 h11) (t := true) (na := 5) (kd := 1) (as := [v1, (.int 0), (.int x3), (.long v10), s0]) at_202_66 (am_k3v kb_91) mn_91 mk_91 rfl rfl (am_ok_v mi_91 (am_hl rfl (am_ccR (am_vR_s e2).2 (am_ccI (am_ccI (am_ccL (am_ccR j0 am_cats_0))))) rfl) z13) (am_hc am_cats_0 rfl) (fun _ => ⟨rfl, hh_202⟩) (fun o1 hz9 => rm_91 v1 0 x3 v10 s0 h11 o1 (am_vR_s e2).2 j0 hz9) ?_
      rcases am_cV_s hs7 with ⟨h15, f16, hs8⟩ | hs8
      · clear hs7
        refine Or.inl ⟨_, _, f16, ?_⟩
        show am_W X _ 202 69 _ [] h15 _
        refine aw_iload_n (pc1 := 70) at_202_69 (am_lk1 l2 rfl rfl) rfl ?_
        refine aw_iconst (v := 1) (pc1 := 71) at_202_70 (by decide) rfl ?_
        by_cases c17 : ¬ x2 = 1
        · rw [if_pos c17] at hs8
          refine aw_icne_t at_202_71 c17 ?_
          exact rg_202_111 h15 o   hs8
        · rw [if_neg c17] at hs8
          refine aw_icne_f (pc1 := 74) at_202_71 c17 rfl ?_
          refine aw_vload_n (pc1 := 75) at_202_74 (am_lk1 l0 rfl rfl) i0 rfl ?_
          obtain ⟨v18, e19, hs9⟩ := am_bind hs8
          clear hs8
          refine aw_pG (pc1 := 78) at_202_75 (am_vR_s e19).1 rfl ?_
          refine aw_vload_n (pc1 := 79) at_202_78 (am_lk1 l0 rfl rfl) i0 rfl ?_
          obtain ⟨v20, e21, hs10⟩ := am_bind hs9
          clear hs9
          refine aw_pG (pc1 := 82) at_202_79 (am_vR_s e21).1 rfl ?_
          refine aw_vload_n (pc1 := 83) at_202_82 (am_lk1 l0 rfl rfl) i0 rfl ?_
          obtain ⟨v22, e23, hs11⟩ := am_bind hs10
          clear hs10
          refine aw_pG (pc1 := 86) at_202_83 (am_vR_s e23).1 rfl ?_
          obtain ⟨z24, hs12⟩ := am_ift hs11
          clear hs11
          refine aw_call (F := fm_205 N v18 v20 v22 h15) (t := true) (na := 3) (kd := 1) (as := [v18, v20, v22]) at_202_86 (am_k3v kb_205) mn_205 mk_205 rfl rfl (am_ok_v mi_205 (am_hl rfl (am_ccR (am_vR_s e19).2 (am_ccR (am_vR_s e21).2 (am_ccR (am_vR_s e23).2 am_cats_0))) rfl) z24) (am_hc am_cats_0 rfl) (fun _ => ⟨rfl, hh_202⟩) (fun o1 hz9 => rm_205 v18 v20 v22 h15 o1 (am_vR_s e19).2 (am_vR_s e21).2 (am_vR_s e23).2 hz9) ?_
          rcases am_cI_s hs12 with ⟨v25, h26, f27, hs13⟩ | hs13
          · clear hs12
            refine Or.inl ⟨_, _, f27, ?_⟩
            show am_W X _ 202 89 _ [(.int v25)] h26 _
            by_cases c28 : ¬ v25 = 0
            · rw [if_pos c28] at hs13
              refine aw_ifne_t at_202_89 c28 ?_
              exact rg_202_111 h26 o   hs13
            · rw [if_neg c28] at hs13
              refine aw_ifne_f (pc1 := 92) at_202_89 c28 rfl ?_
              refine aw_vload_n (pc1 := 93) at_202_92 (am_lk1 l0 rfl rfl) i0 rfl ?_
              obtain ⟨v29, e30, hs14⟩ := am_bind hs13
              clear hs13
              refine aw_pG (pc1 := 96) at_202_93 (am_vR_s e30).1 rfl ?_
              refine aw_iconst (v := 1) (pc1 := 97) at_202_96 (by decide) rfl ?_
              refine aw_iconst (v := 0) (pc1 := 98) at_202_97 (by decide) rfl ?_
              obtain ⟨z31, hs15⟩ := am_ift hs14
              clear hs14
              refine aw_call (F := fm_34 v29 1 0 h26) (t := true) (na := 3) (kd := 1) (as := [v29, (.int 1), (.int 0)]) at_202_98 (am_k3v kb_34) mn_34 mk_34 rfl rfl (am_ok_v mi_34 (am_hl rfl (am_ccR (am_vR_s e30).2 (am_ccI (am_ccI am_cats_0))) rfl) z31) (am_hc am_cats_0 rfl) (fun _ => ⟨rfl, hh_202⟩) (fun o1 hz9 => rm_34 v29 1 0 h26 o1 (am_vR_s e30).2 hz9) ?_
              rcases am_cV_s hs15 with ⟨h33, f34, hs16⟩ | hs16
              · clear hs15
                refine Or.inl ⟨_, _, f34, ?_⟩
                show am_W X _ 202 101 _ [] h33 _
                refine aw_vload_n (pc1 := 102) at_202_101 (am_lk1 l0 rfl rfl) i0 rfl ?_
                obtain ⟨v35, e36, hs17⟩ := am_bind hs16
                clear hs16
                refine aw_pG (pc1 := 105) at_202_102 (am_vR_s e36).1 rfl ?_
                refine aw_iconst (v := 0) (pc1 := 106) at_202_105 (by decide) rfl ?_
                refine aw_iconst (v := 0) (pc1 := 107) at_202_106 (by decide) rfl ?_
                obtain ⟨z37, hs18⟩ := am_ift hs17
                clear hs17
                refine aw_call (F := fm_41 N v35 0 0 h33) (t := true) (na := 3) (kd := 1) (as := [v35, (.int 0), (.int 0)]) at_202_107 (am_k3v kb_41) mn_41 mk_41 rfl rfl (am_ok_v mi_41 (am_hl rfl (am_ccR (am_vR_s e36).2 (am_ccI (am_ccI am_cats_0))) rfl) z37) (am_hc am_cats_0 rfl) (fun _ => ⟨rfl, hh_202⟩) (fun o1 hz9 => rm_41 v35 0 0 h33 o1 (am_vR_s e36).2 hz9) ?_
                rcases am_cI_s hs18 with ⟨v38, h39, f40, hs19⟩ | hs19
                · clear hs18
                  refine Or.inl ⟨_, _, f40, ?_⟩
                  show am_W X _ 202 110 _ [(.int v38)] h39 _
                  refine aw_popi (pc1 := 111) at_202_110 rfl ?_
                  exact rg_202_111 h39 o   hs19
                · clear hs18
                  exact Or.inr hs19
              · clear hs15
                exact Or.inr hs16
          · clear hs12
            exact Or.inr hs13
      · clear hs7
        exact Or.inr hs8
    · clear hs5
      exact Or.inr hs6
  · clear hs3
    exact Or.inr hs4
def fg_202_0 (N : Nat) (x0 : Value) (x1 : Value) (x2 : Int32) (x3 : Int32) (h : am_H) : Option am_O := (if ¬ x2 = 2 then (if ¬ x2 = 3 then (if ¬ x2 = 0 then ((am_vR (am_pG 2832 x0 h)).bind fun v4 => (fg_202_43 N x0 x1 x2 x3 v4 h)) else ((am_vR (am_pG 2831 x0 h)).bind fun v6 => (fg_202_43 N x0 x1 x2 x3 v6 h))) else (if am_pOk 11 x0 h then am_cV true (fm_204 N x0 x1 x3 h) (fun h10 => (fg_202_111 N h10)) else none)) else (if am_pOk 11 x0 h then am_cV true (fm_203 N x0 x1 x3 h) (fun h14 => (fg_202_111 N h14)) else none))
theorem rg_202_0 {X : am_X} {d : Nat} {N : Nat} {lv : am_LV} (x0 : Value) (x1 : Value) (x2 : Int32) (x3 : Int32) (h : am_H) (o : am_O) (l0 : lv.lookup 0 = some x0) (l1 : lv.lookup 1 = some x1) (l2 : lv.lookup 2 = some (.int x2)) (l3 : lv.lookup 3 = some (.int x3)) (i0 : am_isR x0 = true) (i1 : am_isR x1 = true) (hs : fg_202_0 N x0 x1 x2 x3 h = some o) : am_W X (d + 122) 202 0 lv [] h (fun q => q = o) := by
  unfold fg_202_0 at hs
  refine aw_iload_n (pc1 := 1) at_202_0 l2 rfl ?_
  refine aw_iconst (v := 2) (pc1 := 2) at_202_1 (by decide) rfl ?_
  by_cases c1 : ¬ x2 = 2
  · rw [if_pos c1] at hs
    refine aw_icne_t at_202_2 c1 ?_
    refine aw_iload_n (pc1 := 15) at_202_14 l2 rfl ?_
    refine aw_iconst (v := 3) (pc1 := 16) at_202_15 (by decide) rfl ?_
    by_cases c2 : ¬ x2 = 3
    · rw [if_pos c2] at hs
      refine aw_icne_t at_202_16 c2 ?_
      refine aw_iload_n (pc1 := 29) at_202_28 l2 rfl ?_
      by_cases c3 : ¬ x2 = 0
      · rw [if_pos c3] at hs
        refine aw_ifne_t at_202_29 c3 ?_
        refine aw_vload_n (pc1 := 40) at_202_39 l0 i0 rfl ?_
        obtain ⟨v4, e5, hs1⟩ := am_bind hs
        clear hs
        refine aw_pG (pc1 := 43) at_202_40 (am_vR_s e5).1 rfl ?_
        exact rg_202_43 x0 x1 x2 x3 v4 h o l0 l1 l2 l3 i0 i1 (am_vR_s e5).2 hs1
      · rw [if_neg c3] at hs
        refine aw_ifne_f (pc1 := 32) at_202_29 c3 rfl ?_
        refine aw_vload_n (pc1 := 33) at_202_32 l0 i0 rfl ?_
        obtain ⟨v6, e7, hs2⟩ := am_bind hs
        clear hs
        refine aw_pG (pc1 := 36) at_202_33 (am_vR_s e7).1 rfl ?_
        refine aw_goto at_202_36 ?_
        exact rg_202_43 x0 x1 x2 x3 v6 h o l0 l1 l2 l3 i0 i1 (am_vR_s e7).2 hs2
    · rw [if_neg c2] at hs
      refine aw_icne_f (pc1 := 19) at_202_16 c2 rfl ?_
      refine aw_vload_n (pc1 := 20) at_202_19 l0 i0 rfl ?_
      refine aw_vload_n (pc1 := 21) at_202_20 l1 i1 rfl ?_
      refine aw_iload_n (pc1 := 22) at_202_21 l3 rfl ?_
      obtain ⟨z8, hs3⟩ := am_ift hs
      clear hs
      refine aw_call (F := fm_204 N x0 x1 x3 h) (t := true) (na := 3) (kd := 1) (as := [x0, x1, (.int x3)]) at_202_22 (am_k3v kb_204) mn_204 mk_204 rfl rfl (am_ok_v mi_204 (am_hl rfl (am_ccR i0 (am_ccR i1 (am_ccI am_cats_0))) rfl) z8) (am_hc am_cats_0 rfl) (fun _ => ⟨rfl, hh_202⟩) (fun o1 hz9 => rm_204 x0 x1 x3 h o1 i0 i1 hz9) ?_
      rcases am_cV_s hs3 with ⟨h10, f11, hs4⟩ | hs4
      · clear hs3
        refine Or.inl ⟨_, _, f11, ?_⟩
        show am_W X _ 202 25 _ [] h10 _
        refine aw_goto at_202_25 ?_
        exact rg_202_111 h10 o   hs4
      · clear hs3
        exact Or.inr hs4
  · rw [if_neg c1] at hs
    refine aw_icne_f (pc1 := 5) at_202_2 c1 rfl ?_
    refine aw_vload_n (pc1 := 6) at_202_5 l0 i0 rfl ?_
    refine aw_vload_n (pc1 := 7) at_202_6 l1 i1 rfl ?_
    refine aw_iload_n (pc1 := 8) at_202_7 l3 rfl ?_
    obtain ⟨z12, hs5⟩ := am_ift hs
    clear hs
    refine aw_call (F := fm_203 N x0 x1 x3 h) (t := true) (na := 3) (kd := 1) (as := [x0, x1, (.int x3)]) at_202_8 (am_k3v kb_203) mn_203 mk_203 rfl rfl (am_ok_v mi_203 (am_hl rfl (am_ccR i0 (am_ccR i1 (am_ccI am_cats_0))) rfl) z12) (am_hc am_cats_0 rfl) (fun _ => ⟨rfl, hh_202⟩) (fun o1 hz9 => rm_203 x0 x1 x3 h o1 i0 i1 hz9) ?_
    rcases am_cV_s hs5 with ⟨h14, f15, hs6⟩ | hs6
    · clear hs5
      refine Or.inl ⟨_, _, f15, ?_⟩
      show am_W X _ 202 11 _ [] h14 _
      refine aw_goto at_202_11 ?_
      exact rg_202_111 h14 o   hs6
    · clear hs5
      exact Or.inr hs6
def fm_202 (N : Nat) (y0 : Value) (y1 : Value) (y2 : Int32) (y3 : Int32) (h : am_H) : Option am_O := fg_202_0 N y0 y1 y2 y3 h
theorem rm_202 {X : am_X} {d : Nat} {N : Nat} (y0 : Value) (y1 : Value) (y2 : Int32) (y3 : Int32) (h : am_H) (o : am_O) (i0 : am_isR y0 = true) (i1 : am_isR y1 = true) (hs : fm_202 N y0 y1 y2 y3 h = some o) : am_W X (d + 122) 202 0 (am_args 0 [y0, y1, .int y2, .int y3]) [] h (fun q => q = o) := by
  rw [am_args_R i0, am_args_R i1, am_args_I, am_args_I]
  exact rg_202_0 y0 y1 y2 y3 h o rfl rfl rfl rfl i0 i1 hs
def fg_200_118 (N : Nat) : Nat → Value → Int32 → Int32 → Int32 → Value → Int32 → Int32 → am_H → Option am_O
  | 0 => fun _ _ _ _ _ _ _ _ => none
  | K + 1 => fun x0 x2 x3 x4 x7 x10 x11 h => (if x3 ≤ x11 then some (.inl (some (.int x10), h)) else ((am_vR (am_pG 258 x7 h)).bind fun v2 => (if am_pOk 11 x0 h then am_cV true (fm_202 N x0 v2 x2 x4 h) (fun h6 => ((am_vR (am_pG 257 x7 h6)).bind fun v8 => ((am_vR (am_pG 2831 x0 h6)).bind fun v10 => (if am_pOk 11 x0 h6 then am_cI true (fm_59 x0 v10 2 ((-1)) ((-1)) ((-1)) ((-1)) 0 h6) (fun v13 h14 => ((am_pS 0 v8 x11 v13 h14).bind fun h16 => (fg_200_118 N K x0 x2 x3 x4 x7 x10 ((x11 + 1)) h16))) else none)))) else none)))
theorem rg_200_118 {X : am_X} {d : Nat} {N : Nat} : ∀ (K : Nat) (x0 : Value) (x2 : Int32) (x3 : Int32) (x4 : Int32) (x7 : Value) (x10 : Int32) (x11 : Int32) (h : am_H) (o : am_O), fg_200_118 N K x0 x2 x3 x4 x7 x10 x11 h = some o → ∀ lv : am_LV, (lv.lookup 0 = some x0) → (lv.lookup 2 = some (.int x2)) → (lv.lookup 3 = some (.int x3)) → (lv.lookup 4 = some (.int x4)) → (lv.lookup 7 = some x7) → (lv.lookup 10 = some (.int x10)) → (lv.lookup 11 = some (.int x11)) → (am_isR x0 = true) → (am_isR x7 = true) → am_W X (d + 123) 200 118 lv [] h (fun q => q = o) := by
  intro K
  induction K with
  | zero => intro x0 x2 x3 x4 x7 x10 x11 h o hs; cases hs
  | succ K ih =>
    intro x0 x2 x3 x4 x7 x10 x11 h o hs lv l0 l2 l3 l4 l7 l10 l11 i0 i7
    unfold fg_200_118 at hs
    refine aw_iload (pc1 := 120) at_200_118 l11 rfl ?_
    refine aw_iload_n (pc1 := 121) at_200_120 l3 rfl ?_
    by_cases c1 : x3 ≤ x11
    · rw [if_pos c1] at hs
      refine aw_icge_t at_200_121 c1 ?_
      refine aw_iload (pc1 := 166) at_200_164 l10 rfl ?_
      cases hs
      exact aw_iret at_200_166 (by rw [rt_200]; rfl) rfl
    · rw [if_neg c1] at hs
      refine aw_icge_f (pc1 := 124) at_200_121 c1 rfl ?_
      refine aw_vload_n (pc1 := 125) at_200_124 l0 i0 rfl ?_
      refine aw_vload (pc1 := 127) at_200_125 l7 i7 rfl ?_
      obtain ⟨v2, e3, hs1⟩ := am_bind hs
      clear hs
      refine aw_pG (pc1 := 130) at_200_127 (am_vR_s e3).1 rfl ?_
      refine aw_iload_n (pc1 := 131) at_200_130 l2 rfl ?_
      refine aw_iload (pc1 := 133) at_200_131 l4 rfl ?_
      obtain ⟨z4, hs2⟩ := am_ift hs1
      clear hs1
      refine aw_call (F := fm_202 N x0 v2 x2 x4 h) (t := true) (na := 4) (kd := 1) (as := [x0, v2, (.int x2), (.int x4)]) at_200_133 (am_k3v kb_202) mn_202 mk_202 rfl rfl (am_ok_v mi_202 (am_hl rfl (am_ccR i0 (am_ccR (am_vR_s e3).2 (am_ccI (am_ccI am_cats_0)))) rfl) z4) (am_hc am_cats_0 rfl) (fun _ => ⟨rfl, hh_200⟩) (fun o1 hz9 => rm_202 x0 v2 x2 x4 h o1 i0 (am_vR_s e3).2 hz9) ?_
      rcases am_cV_s hs2 with ⟨h6, f7, hs3⟩ | hs3
      · clear hs2
        refine Or.inl ⟨_, _, f7, ?_⟩
        show am_W X _ 200 136 _ [] h6 _
        refine aw_vload (pc1 := 138) at_200_136 l7 i7 rfl ?_
        obtain ⟨v8, e9, hs4⟩ := am_bind hs3
        clear hs3
        refine aw_pG (pc1 := 141) at_200_138 (am_vR_s e9).1 rfl ?_
        refine aw_iload (pc1 := 143) at_200_141 l11 rfl ?_
        refine aw_vload_n (pc1 := 144) at_200_143 l0 i0 rfl ?_
        refine aw_vload_n (pc1 := 145) at_200_144 l0 i0 rfl ?_
        obtain ⟨v10, e11, hs5⟩ := am_bind hs4
        clear hs4
        refine aw_pG (pc1 := 148) at_200_145 (am_vR_s e11).1 rfl ?_
        refine aw_iconst (v := 2) (pc1 := 149) at_200_148 (by decide) rfl ?_
        refine aw_iconst (v := (-1)) (pc1 := 150) at_200_149 (by decide) rfl ?_
        refine aw_iconst (v := (-1)) (pc1 := 151) at_200_150 (by decide) rfl ?_
        refine aw_iconst (v := (-1)) (pc1 := 152) at_200_151 (by decide) rfl ?_
        refine aw_iconst (v := (-1)) (pc1 := 153) at_200_152 (by decide) rfl ?_
        refine aw_lconst (v := 0) (pc1 := 154) at_200_153 (by decide) rfl ?_
        obtain ⟨z12, hs6⟩ := am_ift hs5
        clear hs5
        refine aw_call (F := fm_59 x0 v10 2 ((-1)) ((-1)) ((-1)) ((-1)) 0 h6) (t := true) (na := 8) (kd := 1) (as := [x0, v10, (.int 2), (.int (-1)), (.int (-1)), (.int (-1)), (.int (-1)), (.long 0)]) at_200_154 (am_k3v kb_59) mn_59 mk_59 rfl rfl (am_ok_v mi_59 (am_hl rfl (am_ccR i0 (am_ccR (am_vR_s e11).2 (am_ccI (am_ccI (am_ccI (am_ccI (am_ccI (am_ccL am_cats_0)))))))) rfl) z12) (am_hc (am_ccI (am_ccR (am_vR_s e9).2 am_cats_0)) rfl) (fun _ => ⟨rfl, hh_200⟩) (fun o1 hz9 => rm_59 x0 v10 2 ((-1)) ((-1)) ((-1)) ((-1)) 0 h6 o1 i0 (am_vR_s e11).2 hz9) ?_
        rcases am_cI_s hs6 with ⟨v13, h14, f15, hs7⟩ | hs7
        · clear hs6
          refine Or.inl ⟨_, _, f15, ?_⟩
          show am_W X _ 200 157 _ [(.int v13), (.int x11), v8] h14 _
          obtain ⟨h16, e17, hs8⟩ := am_bind hs7
          clear hs7
          refine aw_pS (pc1 := 158) at_200_157 (Or.inl ⟨rfl, rfl⟩) e17 rfl ?_
          refine aw_iinc (v := (x11 + 1)) (c := 1) (lv1 := am_put1 _ 11 _) (pc1 := 161) at_200_158 l11 (by decide) rfl rfl rfl ?_
          refine aw_goto at_200_161 ?_
          exact ih x0 x2 x3 x4 x7 x10 ((x11 + 1)) h16 o hs8 _ (am_lk1 l0 rfl rfl) (am_lk1 l2 rfl rfl) (am_lk1 l3 rfl rfl) (am_lk1 l4 rfl rfl) (am_lk1 l7 rfl rfl) (am_lk1 l10 rfl rfl) am_lk0 i0 i7
        · clear hs6
          exact Or.inr hs7
      · clear hs2
        exact Or.inr hs3
def fg_200_77 (N : Nat) (h : am_H) : Option am_O := some (.inr (0, h ++ [am_dummy]))
theorem rg_200_77 {X : am_X} {d : Nat} {N : Nat} {lv : am_LV} (h : am_H) (o : am_O) (hs : fg_200_77 N h = some o) : am_W X (d + 123) 200 77 lv [] h (fun q => q = o) := by
  unfold fg_200_77 at hs
  cases hs
  exact aw_throw at_200_77 rfl th_200_77 (am_hc am_cats_0 rfl) rfl
def fg_200_41 (N : Nat) (x0 : Value) (x2 : Int32) (x3 : Int32) (x4 : Int32) (x5 : Int64) (x7 : Value) (x8 : Int32) (s0 : Int32) (h : am_H) : Option am_O := (if x2 < 0 then (fg_200_77 N h) else (if 3 < x2 then (fg_200_77 N h) else (if x3 < 1 then (fg_200_77 N h) else (if 16 < x3 then (fg_200_77 N h) else (if x4 < x8 then (fg_200_77 N h) else (if x4 ≤ s0 then (if am_pOk 11 x0 h then am_cV true (fm_32 x0 x3 h) (fun h9 => ((am_vI (am_pG 2817 x0 h9)).bind fun v11 => ((am_vR (am_pG 258 x7 h9)).bind fun v13 => ((am_pP 2048 v13 (.long x5) h9).bind fun h15 => ((am_pP 256 x7 (.int x3) h15).bind fun h17 => (fg_200_118 N N x0 x2 x3 x4 x7 v11 0 h17)))))) else none) else (fg_200_77 N h)))))))
theorem rg_200_41 {X : am_X} {d : Nat} {N : Nat} {lv : am_LV} (x0 : Value) (x2 : Int32) (x3 : Int32) (x4 : Int32) (x5 : Int64) (x7 : Value) (x8 : Int32) (s0 : Int32) (h : am_H) (o : am_O) (l0 : lv.lookup 0 = some x0) (l2 : lv.lookup 2 = some (.int x2)) (l3 : lv.lookup 3 = some (.int x3)) (l4 : lv.lookup 4 = some (.int x4)) (l5 : lv.lookup 5 = some (.long x5)) (l7 : lv.lookup 7 = some x7) (l8 : lv.lookup 8 = some (.int x8)) (i0 : am_isR x0 = true) (i7 : am_isR x7 = true) (hs : fg_200_41 N x0 x2 x3 x4 x5 x7 x8 s0 h = some o) : am_W X (d + 123) 200 41 lv [(.int s0)] h (fun q => q = o) := by
  unfold fg_200_41 at hs
  refine aw_istore (lv1 := am_put1 _ 9 _) (pc1 := 43) at_200_41 rfl rfl ?_
  refine aw_iload_n (pc1 := 44) at_200_43 (am_lk1 l2 rfl rfl) rfl ?_
  by_cases c1 : x2 < 0
  · rw [if_pos c1] at hs
    refine aw_iflt_t at_200_44 c1 ?_
    exact rg_200_77 h o   hs
  · rw [if_neg c1] at hs
    refine aw_iflt_f (pc1 := 47) at_200_44 c1 rfl ?_
    refine aw_iload_n (pc1 := 48) at_200_47 (am_lk1 l2 rfl rfl) rfl ?_
    refine aw_iconst (v := 3) (pc1 := 49) at_200_48 (by decide) rfl ?_
    by_cases c2 : 3 < x2
    · rw [if_pos c2] at hs
      refine aw_icgt_t at_200_49 c2 ?_
      exact rg_200_77 h o   hs
    · rw [if_neg c2] at hs
      refine aw_icgt_f (pc1 := 52) at_200_49 c2 rfl ?_
      refine aw_iload_n (pc1 := 53) at_200_52 (am_lk1 l3 rfl rfl) rfl ?_
      refine aw_iconst (v := 1) (pc1 := 54) at_200_53 (by decide) rfl ?_
      by_cases c3 : x3 < 1
      · rw [if_pos c3] at hs
        refine aw_iclt_t at_200_54 c3 ?_
        exact rg_200_77 h o   hs
      · rw [if_neg c3] at hs
        refine aw_iclt_f (pc1 := 57) at_200_54 c3 rfl ?_
        refine aw_iload_n (pc1 := 58) at_200_57 (am_lk1 l3 rfl rfl) rfl ?_
        refine aw_bipush (v := 16) (pc1 := 60) at_200_58 (by decide) rfl ?_
        by_cases c4 : 16 < x3
        · rw [if_pos c4] at hs
          refine aw_icgt_t at_200_60 c4 ?_
          exact rg_200_77 h o   hs
        · rw [if_neg c4] at hs
          refine aw_icgt_f (pc1 := 63) at_200_60 c4 rfl ?_
          refine aw_iload (pc1 := 65) at_200_63 (am_lk1 l4 rfl rfl) rfl ?_
          refine aw_iload (pc1 := 67) at_200_65 (am_lk1 l8 rfl rfl) rfl ?_
          by_cases c5 : x4 < x8
          · rw [if_pos c5] at hs
            refine aw_iclt_t at_200_67 c5 ?_
            exact rg_200_77 h o   hs
          · rw [if_neg c5] at hs
            refine aw_iclt_f (pc1 := 70) at_200_67 c5 rfl ?_
            refine aw_iload (pc1 := 72) at_200_70 (am_lk1 l4 rfl rfl) rfl ?_
            refine aw_iload (pc1 := 74) at_200_72 am_lk0 rfl ?_
            by_cases c6 : x4 ≤ s0
            · rw [if_pos c6] at hs
              refine aw_icle_t at_200_74 c6 ?_
              refine aw_vload_n (pc1 := 89) at_200_88 (am_lk1 l0 rfl rfl) i0 rfl ?_
              refine aw_iload_n (pc1 := 90) at_200_89 (am_lk1 l3 rfl rfl) rfl ?_
              obtain ⟨z7, hs1⟩ := am_ift hs
              clear hs
              refine aw_call (F := fm_32 x0 x3 h) (t := true) (na := 2) (kd := 1) (as := [x0, (.int x3)]) at_200_90 (am_k3v kb_32) mn_32 mk_32 rfl rfl (am_ok_v mi_32 (am_hl rfl (am_ccR i0 (am_ccI am_cats_0)) rfl) z7) (am_hc am_cats_0 rfl) (fun _ => ⟨rfl, hh_200⟩) (fun o1 hz9 => rm_32 x0 x3 h o1 i0 hz9) ?_
              rcases am_cV_s hs1 with ⟨h9, f10, hs2⟩ | hs2
              · clear hs1
                refine Or.inl ⟨_, _, f10, ?_⟩
                show am_W X _ 200 93 _ [] h9 _
                refine aw_vload_n (pc1 := 94) at_200_93 (am_lk1 l0 rfl rfl) i0 rfl ?_
                obtain ⟨v11, e12, hs3⟩ := am_bind hs2
                clear hs2
                refine aw_pG (pc1 := 97) at_200_94 (am_vI_s e12) rfl ?_
                refine aw_istore (lv1 := am_put1 _ 10 _) (pc1 := 99) at_200_97 rfl rfl ?_
                refine aw_vload (pc1 := 101) at_200_99 (am_lk1 (am_lk1 l7 rfl rfl) rfl rfl) i7 rfl ?_
                obtain ⟨v13, e14, hs4⟩ := am_bind hs3
                clear hs3
                refine aw_pG (pc1 := 104) at_200_101 (am_vR_s e14).1 rfl ?_
                refine aw_lload (pc1 := 106) at_200_104 (am_lk1 (am_lk1 l5 rfl rfl) rfl rfl) rfl ?_
                obtain ⟨h15, e16, hs5⟩ := am_bind hs4
                clear hs4
                refine aw_pP (pc1 := 109) at_200_106 e16 rfl ?_
                refine aw_vload (pc1 := 111) at_200_109 (am_lk1 (am_lk1 l7 rfl rfl) rfl rfl) i7 rfl ?_
                refine aw_iload_n (pc1 := 112) at_200_111 (am_lk1 (am_lk1 l3 rfl rfl) rfl rfl) rfl ?_
                obtain ⟨h17, e18, hs6⟩ := am_bind hs5
                clear hs5
                refine aw_pP (pc1 := 115) at_200_112 e18 rfl ?_
                refine aw_iconst (v := 0) (pc1 := 116) at_200_115 (by decide) rfl ?_
                refine aw_istore (lv1 := am_put1 _ 11 _) (pc1 := 118) at_200_116 rfl rfl ?_
                exact rg_200_118 N x0 x2 x3 x4 x7 v11 0 h17 o hs6 _ (am_lk1 (am_lk1 (am_lk1 l0 rfl rfl) rfl rfl) rfl rfl) (am_lk1 (am_lk1 (am_lk1 l2 rfl rfl) rfl rfl) rfl rfl) (am_lk1 (am_lk1 (am_lk1 l3 rfl rfl) rfl rfl) rfl rfl) (am_lk1 (am_lk1 (am_lk1 l4 rfl rfl) rfl rfl) rfl rfl) (am_lk1 (am_lk1 (am_lk1 l7 rfl rfl) rfl rfl) rfl rfl) (am_lk1 am_lk0 rfl rfl) am_lk0 i0 i7
              · clear hs1
                exact Or.inr hs2
            · rw [if_neg c6] at hs
              refine aw_icle_f (pc1 := 77) at_200_74 c6 rfl ?_
              exact rg_200_77 h o   hs
def fg_200_17 (N : Nat) (x0 : Value) (x2 : Int32) (x3 : Int32) (x4 : Int32) (x5 : Int64) (x7 : Value) (s0 : Int32) (h : am_H) : Option am_O := (if ¬ x2 = 2 then (if ¬ x2 = 3 then (fg_200_41 N x0 x2 x3 x4 x5 x7 s0 9 h) else (fg_200_41 N x0 x2 x3 x4 x5 x7 s0 8 h)) else (fg_200_41 N x0 x2 x3 x4 x5 x7 s0 6 h))
theorem rg_200_17 {X : am_X} {d : Nat} {N : Nat} {lv : am_LV} (x0 : Value) (x2 : Int32) (x3 : Int32) (x4 : Int32) (x5 : Int64) (x7 : Value) (s0 : Int32) (h : am_H) (o : am_O) (l0 : lv.lookup 0 = some x0) (l2 : lv.lookup 2 = some (.int x2)) (l3 : lv.lookup 3 = some (.int x3)) (l4 : lv.lookup 4 = some (.int x4)) (l5 : lv.lookup 5 = some (.long x5)) (l7 : lv.lookup 7 = some x7) (i0 : am_isR x0 = true) (i7 : am_isR x7 = true) (hs : fg_200_17 N x0 x2 x3 x4 x5 x7 s0 h = some o) : am_W X (d + 123) 200 17 lv [(.int s0)] h (fun q => q = o) := by
  unfold fg_200_17 at hs
  refine aw_istore (lv1 := am_put1 _ 8 _) (pc1 := 19) at_200_17 rfl rfl ?_
  refine aw_iload_n (pc1 := 20) at_200_19 (am_lk1 l2 rfl rfl) rfl ?_
  refine aw_iconst (v := 2) (pc1 := 21) at_200_20 (by decide) rfl ?_
  by_cases c1 : ¬ x2 = 2
  · rw [if_pos c1] at hs
    refine aw_icne_t at_200_21 c1 ?_
    refine aw_iload_n (pc1 := 30) at_200_29 (am_lk1 l2 rfl rfl) rfl ?_
    refine aw_iconst (v := 3) (pc1 := 31) at_200_30 (by decide) rfl ?_
    by_cases c2 : ¬ x2 = 3
    · rw [if_pos c2] at hs
      refine aw_icne_t at_200_31 c2 ?_
      refine aw_bipush (v := 9) (pc1 := 41) at_200_39 (by decide) rfl ?_
      exact rg_200_41 x0 x2 x3 x4 x5 x7 s0 9 h o (am_lk1 l0 rfl rfl) (am_lk1 l2 rfl rfl) (am_lk1 l3 rfl rfl) (am_lk1 l4 rfl rfl) (am_lk1 l5 rfl rfl) (am_lk1 l7 rfl (by rw [am_isRc i7]; rfl)) am_lk0 i0 i7 hs
    · rw [if_neg c2] at hs
      refine aw_icne_f (pc1 := 34) at_200_31 c2 rfl ?_
      refine aw_bipush (v := 8) (pc1 := 36) at_200_34 (by decide) rfl ?_
      refine aw_goto at_200_36 ?_
      exact rg_200_41 x0 x2 x3 x4 x5 x7 s0 8 h o (am_lk1 l0 rfl rfl) (am_lk1 l2 rfl rfl) (am_lk1 l3 rfl rfl) (am_lk1 l4 rfl rfl) (am_lk1 l5 rfl rfl) (am_lk1 l7 rfl (by rw [am_isRc i7]; rfl)) am_lk0 i0 i7 hs
  · rw [if_neg c1] at hs
    refine aw_icne_f (pc1 := 24) at_200_21 c1 rfl ?_
    refine aw_bipush (v := 6) (pc1 := 26) at_200_24 (by decide) rfl ?_
    refine aw_goto at_200_26 ?_
    exact rg_200_41 x0 x2 x3 x4 x5 x7 s0 6 h o (am_lk1 l0 rfl rfl) (am_lk1 l2 rfl rfl) (am_lk1 l3 rfl rfl) (am_lk1 l4 rfl rfl) (am_lk1 l5 rfl rfl) (am_lk1 l7 rfl (by rw [am_isRc i7]; rfl)) am_lk0 i0 i7 hs
def fg_200_0 (N : Nat) (x0 : Value) (x1 : Int32) (x2 : Int32) (x3 : Int32) (x4 : Int32) (x5 : Int64) (h : am_H) : Option am_O := (if am_pOk 11 x0 h then am_cR true (fm_201 x0 x1 h) (fun v2 h3 => (if ¬ x2 = 3 then (fg_200_17 N x0 x2 x3 x4 x5 v2 1 h3) else (fg_200_17 N x0 x2 x3 x4 x5 v2 2 h3))) else none)
theorem rg_200_0 {X : am_X} {d : Nat} {N : Nat} {lv : am_LV} (x0 : Value) (x1 : Int32) (x2 : Int32) (x3 : Int32) (x4 : Int32) (x5 : Int64) (h : am_H) (o : am_O) (l0 : lv.lookup 0 = some x0) (l1 : lv.lookup 1 = some (.int x1)) (l2 : lv.lookup 2 = some (.int x2)) (l3 : lv.lookup 3 = some (.int x3)) (l4 : lv.lookup 4 = some (.int x4)) (l5 : lv.lookup 5 = some (.long x5)) (i0 : am_isR x0 = true) (hs : fg_200_0 N x0 x1 x2 x3 x4 x5 h = some o) : am_W X (d + 123) 200 0 lv [] h (fun q => q = o) := by
  unfold fg_200_0 at hs
  refine aw_vload_n (pc1 := 1) at_200_0 l0 i0 rfl ?_
  refine aw_iload_n (pc1 := 2) at_200_1 l1 rfl ?_
  obtain ⟨z1, hs1⟩ := am_ift hs
  clear hs
  refine aw_call (F := fm_201 x0 x1 h) (t := true) (na := 2) (kd := 1) (as := [x0, (.int x1)]) at_200_2 (am_k3v kb_201) mn_201 mk_201 rfl rfl (am_ok_v mi_201 (am_hl rfl (am_ccR i0 (am_ccI am_cats_0)) rfl) z1) (am_hc am_cats_0 rfl) (fun _ => ⟨rfl, hh_200⟩) (fun o1 hz9 => rm_201 x0 x1 h o1 i0 hz9) ?_
  rcases am_cR_s hs1 with ⟨v2, h3, f4, iv2, hs2⟩ | hs2
  · clear hs1
    refine Or.inl ⟨_, _, f4, ?_⟩
    show am_W X _ 200 5 _ [v2] h3 _
    refine aw_vstore (lv1 := am_put1 _ 7 _) (pc1 := 7) at_200_5 iv2 rfl rfl ?_
    refine aw_iload_n (pc1 := 8) at_200_7 (am_lk1 l2 rfl rfl) rfl ?_
    refine aw_iconst (v := 3) (pc1 := 9) at_200_8 (by decide) rfl ?_
    by_cases c5 : ¬ x2 = 3
    · rw [if_pos c5] at hs2
      refine aw_icne_t at_200_9 c5 ?_
      refine aw_iconst (v := 1) (pc1 := 17) at_200_16 (by decide) rfl ?_
      exact rg_200_17 x0 x2 x3 x4 x5 v2 1 h3 o (am_lk1 l0 rfl rfl) (am_lk1 l2 rfl rfl) (am_lk1 l3 rfl rfl) (am_lk1 l4 rfl rfl) (am_lk1 l5 rfl rfl) am_lk0 i0 iv2 hs2
    · rw [if_neg c5] at hs2
      refine aw_icne_f (pc1 := 12) at_200_9 c5 rfl ?_
      refine aw_iconst (v := 2) (pc1 := 13) at_200_12 (by decide) rfl ?_
      refine aw_goto at_200_13 ?_
      exact rg_200_17 x0 x2 x3 x4 x5 v2 2 h3 o (am_lk1 l0 rfl rfl) (am_lk1 l2 rfl rfl) (am_lk1 l3 rfl rfl) (am_lk1 l4 rfl rfl) (am_lk1 l5 rfl rfl) am_lk0 i0 iv2 hs2
  · clear hs1
    exact Or.inr hs2
def fm_200 (N : Nat) (y0 : Value) (y1 : Int32) (y2 : Int32) (y3 : Int32) (y4 : Int32) (y5 : Int64) (h : am_H) : Option am_O := fg_200_0 N y0 y1 y2 y3 y4 y5 h
theorem rm_200 {X : am_X} {d : Nat} {N : Nat} (y0 : Value) (y1 : Int32) (y2 : Int32) (y3 : Int32) (y4 : Int32) (y5 : Int64) (h : am_H) (o : am_O) (i0 : am_isR y0 = true) (hs : fm_200 N y0 y1 y2 y3 y4 y5 h = some o) : am_W X (d + 123) 200 0 (am_args 0 [y0, .int y1, .int y2, .int y3, .int y4, .long y5]) [] h (fun q => q = o) := by
  rw [am_args_R i0, am_args_I, am_args_I, am_args_I, am_args_I, am_args_L]
  exact rg_200_0 y0 y1 y2 y3 y4 y5 h o rfl rfl rfl rfl rfl rfl i0 hs
def fg_199_29 (N : Nat) (h : am_H) : Option am_O := some (.inl (some (.int 3), h))
theorem rg_199_29 {X : am_X} {d : Nat} {N : Nat} {lv : am_LV} (h : am_H) (o : am_O) (hs : fg_199_29 N h = some o) : am_W X (d + 124) 199 29 lv [] h (fun q => q = o) := by
  unfold fg_199_29 at hs
  refine aw_iconst (v := 3) (pc1 := 30) at_199_29 (by decide) rfl ?_
  cases hs
  exact aw_iret at_199_30 (by rw [rt_199]; rfl) rfl
def fg_199_25 (N : Nat) (h : am_H) : Option am_O := some (.inl (some (.int 2), h))
theorem rg_199_25 {X : am_X} {d : Nat} {N : Nat} {lv : am_LV} (h : am_H) (o : am_O) (hs : fg_199_25 N h = some o) : am_W X (d + 124) 199 25 lv [] h (fun q => q = o) := by
  unfold fg_199_25 at hs
  refine aw_iconst (v := 2) (pc1 := 26) at_199_25 (by decide) rfl ?_
  cases hs
  exact aw_iret at_199_26 (by rw [rt_199]; rfl) rfl
def fg_199_21 (N : Nat) (h : am_H) : Option am_O := some (.inl (some (.int 1), h))
theorem rg_199_21 {X : am_X} {d : Nat} {N : Nat} {lv : am_LV} (h : am_H) (o : am_O) (hs : fg_199_21 N h = some o) : am_W X (d + 124) 199 21 lv [] h (fun q => q = o) := by
  unfold fg_199_21 at hs
  refine aw_iconst (v := 1) (pc1 := 22) at_199_21 (by decide) rfl ?_
  cases hs
  exact aw_iret at_199_22 (by rw [rt_199]; rfl) rfl
def fg_199_0 (N : Nat) (x0 : Value) (x1 : Int32) (x2 : Int32) (x3 : Int32) (x4 : Int32) (x5 : Int64) (x7 : Value) (h : am_H) : Option am_O := (if am_pOk 11 x0 h then (match fm_200 N x0 x1 x2 x3 x4 x5 h with | some (.inl (some (.int v2), h3)) => ((am_pSL x7 0 (Int32.toInt64 v2) h3).bind fun h5 => some (.inl (some (.int 0), h5))) | some (.inr (0, h7)) => (fg_199_25 N h7) | some (.inr (1, h9)) => (fg_199_29 N h9) | some (.inr (2, h11)) => (fg_199_21 N h11) | _ => none) else none)
theorem rg_199_0 {X : am_X} {d : Nat} {N : Nat} {lv : am_LV} (x0 : Value) (x1 : Int32) (x2 : Int32) (x3 : Int32) (x4 : Int32) (x5 : Int64) (x7 : Value) (h : am_H) (o : am_O) (l0 : lv.lookup 0 = some x0) (l1 : lv.lookup 1 = some (.int x1)) (l2 : lv.lookup 2 = some (.int x2)) (l3 : lv.lookup 3 = some (.int x3)) (l4 : lv.lookup 4 = some (.int x4)) (l5 : lv.lookup 5 = some (.long x5)) (l7 : lv.lookup 7 = some x7) (i0 : am_isR x0 = true) (i7 : am_isR x7 = true) (hs : fg_199_0 N x0 x1 x2 x3 x4 x5 x7 h = some o) : am_W X (d + 124) 199 0 lv [] h (fun q => q = o) := by
  unfold fg_199_0 at hs
  refine aw_vload (pc1 := 2) at_199_0 l7 i7 rfl ?_
  refine aw_iconst (v := 0) (pc1 := 3) at_199_2 (by decide) rfl ?_
  refine aw_vload_n (pc1 := 4) at_199_3 l0 i0 rfl ?_
  refine aw_iload_n (pc1 := 5) at_199_4 l1 rfl ?_
  refine aw_iload_n (pc1 := 6) at_199_5 l2 rfl ?_
  refine aw_iload_n (pc1 := 7) at_199_6 l3 rfl ?_
  refine aw_iload (pc1 := 9) at_199_7 l4 rfl ?_
  refine aw_lload (pc1 := 11) at_199_9 l5 rfl ?_
  obtain ⟨z1, hs1⟩ := am_ift hs
  clear hs
  refine aw_callH (F := fm_200 N x0 x1 x2 x3 x4 x5 h) (na := 6) (kd := 1) (as := [x0, (.int x1), (.int x2), (.int x3), (.int x4), (.long x5)]) at_199_11 (am_k3v kb_200) mn_200 mk_200 rfl rfl (am_ok_v mi_200 (am_hl rfl (am_ccR i0 (am_ccI (am_ccI (am_ccI (am_ccI (am_ccL am_cats_0)))))) rfl) z1) (am_hc (am_ccI (am_ccR i7 am_cats_0)) rfl) (fun o1 hz9 => rm_200 x0 x1 x2 x3 x4 x5 h o1 i0 hz9) ?_
  split at hs1
  · rename_i v2 h3 f4
    refine Or.inl ⟨_, _, f4, ?_⟩
    show am_W X _ 199 14 _ [(.int v2), (.int 0), x7] h3 _
    refine aw_i2l (v := (Int32.toInt64 v2)) (pc1 := 15) at_199_14 rfl rfl ?_
    obtain ⟨h5, e6, hs2⟩ := am_bind hs1
    clear hs1
    refine aw_pSL (pc1 := 16) at_199_15 e6 rfl ?_
    refine aw_goto at_199_16 ?_
    refine aw_iconst (v := 0) (pc1 := 32) at_199_31 (by decide) rfl ?_
    cases hs2
    exact aw_iret at_199_32 (by rw [rt_199]; rfl) rfl
  · rename_i h7 f8
    refine Or.inr ⟨_, _, 25, 8, f8, rfl, hn_199, hd_199_11_0, ?_⟩
    exact rg_199_25 h7 o   hs1
  · rename_i h9 f10
    refine Or.inr ⟨_, _, 29, 8, f10, rfl, hn_199, hd_199_11_1, ?_⟩
    exact rg_199_29 h9 o   hs1
  · rename_i h11 f12
    refine Or.inr ⟨_, _, 21, 8, f12, rfl, hn_199, hd_199_11_2, ?_⟩
    exact rg_199_21 h11 o   hs1
  · cases hs1
def fm_199 (N : Nat) (y0 : Value) (y1 : Int32) (y2 : Int32) (y3 : Int32) (y4 : Int32) (y5 : Int64) (y6 : Value) (h : am_H) : Option am_O := fg_199_0 N y0 y1 y2 y3 y4 y5 y6 h
theorem rm_199 {X : am_X} {d : Nat} {N : Nat} (y0 : Value) (y1 : Int32) (y2 : Int32) (y3 : Int32) (y4 : Int32) (y5 : Int64) (y6 : Value) (h : am_H) (o : am_O) (i0 : am_isR y0 = true) (i6 : am_isR y6 = true) (hs : fm_199 N y0 y1 y2 y3 y4 y5 y6 h = some o) : am_W X (d + 124) 199 0 (am_args 0 [y0, .int y1, .int y2, .int y3, .int y4, .long y5, y6]) [] h (fun q => q = o) := by
  rw [am_args_R i0, am_args_I, am_args_I, am_args_I, am_args_I, am_args_L, am_args_R i6]
  exact rg_199_0 y0 y1 y2 y3 y4 y5 y6 h o rfl rfl rfl rfl rfl rfl rfl i0 i6 hs
def fg_489_0 (x1 : Int32) (h : am_H) : Option am_O := am_cI false (fm_327 ((Int32.toInt64 x1)) 0 3 h) (fun v1 h2 => (if am_rfit (some FieldType.boolean) v1 then some (.inl (some (.int v1), h2)) else none))
theorem rg_489_0 {X : am_X} {d : Nat} {lv : am_LV} (x1 : Int32) (h : am_H) (o : am_O) (l1 : lv.lookup 1 = some (.int x1)) (hs : fg_489_0 x1 h = some o) : am_W X (d + 1) 489 0 lv [] h (fun q => q = o) := by
  unfold fg_489_0 at hs
  refine aw_iload_n (pc1 := 1) at_489_0 l1 rfl ?_
  refine aw_i2l (v := (Int32.toInt64 x1)) (pc1 := 2) at_489_1 rfl rfl ?_
  refine aw_lconst (v := 0) (pc1 := 3) at_489_2 (by decide) rfl ?_
  refine aw_ldc2 (v := 3) (pc1 := 6) at_489_3 rfl rfl ?_
  refine aw_call (F := fm_327 ((Int32.toInt64 x1)) 0 3 h) (t := false) (na := 3) (kd := 0) (as := [(.long (Int32.toInt64 x1)), (.long 0), (.long 3)]) at_489_6 (am_k3s kb_327) mn_327 mk_327 rfl rfl (am_ok_s mi_327 (am_hl rfl (am_ccL (am_ccL (am_ccL am_cats_0))) rfl)) (am_hc am_cats_0 rfl) (fun hz9 => by cases hz9) (fun o1 hz9 => rm_327 ((Int32.toInt64 x1)) 0 3 h o1  hz9) ?_
  rcases am_cI_s hs with ⟨v1, h2, f3, hs1⟩ | hs1
  · clear hs
    refine Or.inl ⟨_, _, f3, ?_⟩
    show am_W X _ 489 9 _ [(.int v1)] h2 _
    obtain ⟨z4, hs2⟩ := am_ift hs1
    clear hs1
    cases hs2
    exact aw_iret at_489_9 (by rw [rt_489]; exact z4) rfl
  · clear hs
    exact Or.inr hs1
def fm_489 (y0 : Value) (y1 : Int32) (h : am_H) : Option am_O := fg_489_0 y1 h
theorem rm_489 {X : am_X} {d : Nat} (y0 : Value) (y1 : Int32) (h : am_H) (o : am_O) (i0 : am_isR y0 = true) (hs : fm_489 y0 y1 h = some o) : am_W X (d + 1) 489 0 (am_args 0 [y0, .int y1]) [] h (fun q => q = o) := by
  rw [am_args_R i0, am_args_I]
  exact rg_489_0 y1 h o rfl  hs
def fg_490_45 (s0 : Int32) (h : am_H) : Option am_O := (if am_rfit (some FieldType.boolean) s0 then some (.inl (some (.int s0), h)) else none)
theorem rg_490_45 {X : am_X} {d : Nat} {lv : am_LV} (s0 : Int32) (h : am_H) (o : am_O) (hs : fg_490_45 s0 h = some o) : am_W X (d + 1) 490 45 lv [(.int s0)] h (fun q => q = o) := by
  unfold fg_490_45 at hs
  obtain ⟨z1, hs1⟩ := am_ift hs
  clear hs
  cases hs1
  exact aw_iret at_490_45 (by rw [rt_490]; exact z1) rfl
def fg_490_0 (x0 : Int32) (x1 : Int32) (h : am_H) : Option am_O := (if ¬ x0 = 2 then (if ¬ x0 = 3 then am_cI false (fm_327 ((Int32.toInt64 x1)) 1 9 h) (fun v3 h4 => (fg_490_45 v3 h4)) else am_cI false (fm_327 ((Int32.toInt64 x1)) 2 8 h) (fun v6 h7 => (fg_490_45 v6 h7))) else am_cI false (fm_327 ((Int32.toInt64 x1)) 1 6 h) (fun v9 h10 => (fg_490_45 v9 h10)))
theorem rg_490_0 {X : am_X} {d : Nat} {lv : am_LV} (x0 : Int32) (x1 : Int32) (h : am_H) (o : am_O) (l0 : lv.lookup 0 = some (.int x0)) (l1 : lv.lookup 1 = some (.int x1)) (hs : fg_490_0 x0 x1 h = some o) : am_W X (d + 1) 490 0 lv [] h (fun q => q = o) := by
  unfold fg_490_0 at hs
  refine aw_iload_n (pc1 := 1) at_490_0 l0 rfl ?_
  refine aw_iconst (v := 2) (pc1 := 2) at_490_1 (by decide) rfl ?_
  by_cases c1 : ¬ x0 = 2
  · rw [if_pos c1] at hs
    refine aw_icne_t at_490_2 c1 ?_
    refine aw_iload_n (pc1 := 18) at_490_17 l0 rfl ?_
    refine aw_iconst (v := 3) (pc1 := 19) at_490_18 (by decide) rfl ?_
    by_cases c2 : ¬ x0 = 3
    · rw [if_pos c2] at hs
      refine aw_icne_t at_490_19 c2 ?_
      refine aw_iload_n (pc1 := 37) at_490_36 l1 rfl ?_
      refine aw_i2l (v := (Int32.toInt64 x1)) (pc1 := 38) at_490_37 rfl rfl ?_
      refine aw_lconst (v := 1) (pc1 := 39) at_490_38 (by decide) rfl ?_
      refine aw_ldc2 (v := 9) (pc1 := 42) at_490_39 rfl rfl ?_
      refine aw_call (F := fm_327 ((Int32.toInt64 x1)) 1 9 h) (t := false) (na := 3) (kd := 0) (as := [(.long (Int32.toInt64 x1)), (.long 1), (.long 9)]) at_490_42 (am_k3s kb_327) mn_327 mk_327 rfl rfl (am_ok_s mi_327 (am_hl rfl (am_ccL (am_ccL (am_ccL am_cats_0))) rfl)) (am_hc am_cats_0 rfl) (fun hz9 => by cases hz9) (fun o1 hz9 => rm_327 ((Int32.toInt64 x1)) 1 9 h o1  hz9) ?_
      rcases am_cI_s hs with ⟨v3, h4, f5, hs1⟩ | hs1
      · clear hs
        refine Or.inl ⟨_, _, f5, ?_⟩
        show am_W X _ 490 45 _ [(.int v3)] h4 _
        exact rg_490_45 v3 h4 o   hs1
      · clear hs
        exact Or.inr hs1
    · rw [if_neg c2] at hs
      refine aw_icne_f (pc1 := 22) at_490_19 c2 rfl ?_
      refine aw_iload_n (pc1 := 23) at_490_22 l1 rfl ?_
      refine aw_i2l (v := (Int32.toInt64 x1)) (pc1 := 24) at_490_23 rfl rfl ?_
      refine aw_ldc2 (v := 2) (pc1 := 27) at_490_24 rfl rfl ?_
      refine aw_ldc2 (v := 8) (pc1 := 30) at_490_27 rfl rfl ?_
      refine aw_call (F := fm_327 ((Int32.toInt64 x1)) 2 8 h) (t := false) (na := 3) (kd := 0) (as := [(.long (Int32.toInt64 x1)), (.long 2), (.long 8)]) at_490_30 (am_k3s kb_327) mn_327 mk_327 rfl rfl (am_ok_s mi_327 (am_hl rfl (am_ccL (am_ccL (am_ccL am_cats_0))) rfl)) (am_hc am_cats_0 rfl) (fun hz9 => by cases hz9) (fun o1 hz9 => rm_327 ((Int32.toInt64 x1)) 2 8 h o1  hz9) ?_
      rcases am_cI_s hs with ⟨v6, h7, f8, hs2⟩ | hs2
      · clear hs
        refine Or.inl ⟨_, _, f8, ?_⟩
        show am_W X _ 490 33 _ [(.int v6)] h7 _
        refine aw_goto at_490_33 ?_
        exact rg_490_45 v6 h7 o   hs2
      · clear hs
        exact Or.inr hs2
  · rw [if_neg c1] at hs
    refine aw_icne_f (pc1 := 5) at_490_2 c1 rfl ?_
    refine aw_iload_n (pc1 := 6) at_490_5 l1 rfl ?_
    refine aw_i2l (v := (Int32.toInt64 x1)) (pc1 := 7) at_490_6 rfl rfl ?_
    refine aw_lconst (v := 1) (pc1 := 8) at_490_7 (by decide) rfl ?_
    refine aw_ldc2 (v := 6) (pc1 := 11) at_490_8 rfl rfl ?_
    refine aw_call (F := fm_327 ((Int32.toInt64 x1)) 1 6 h) (t := false) (na := 3) (kd := 0) (as := [(.long (Int32.toInt64 x1)), (.long 1), (.long 6)]) at_490_11 (am_k3s kb_327) mn_327 mk_327 rfl rfl (am_ok_s mi_327 (am_hl rfl (am_ccL (am_ccL (am_ccL am_cats_0))) rfl)) (am_hc am_cats_0 rfl) (fun hz9 => by cases hz9) (fun o1 hz9 => rm_327 ((Int32.toInt64 x1)) 1 6 h o1  hz9) ?_
    rcases am_cI_s hs with ⟨v9, h10, f11, hs3⟩ | hs3
    · clear hs
      refine Or.inl ⟨_, _, f11, ?_⟩
      show am_W X _ 490 14 _ [(.int v9)] h10 _
      refine aw_goto at_490_14 ?_
      exact rg_490_45 v9 h10 o   hs3
    · clear hs
      exact Or.inr hs3
def fm_490 (y0 : Int32) (y1 : Int32) (h : am_H) : Option am_O := fg_490_0 y0 y1 h
theorem rm_490 {X : am_X} {d : Nat} (y0 : Int32) (y1 : Int32) (h : am_H) (o : am_O) (hs : fm_490 y0 y1 h = some o) : am_W X (d + 1) 490 0 (am_args 0 [.int y0, .int y1]) [] h (fun q => q = o) := by
  rw [am_args_I, am_args_I]
  exact rg_490_0 y0 y1 h o rfl rfl  hs
def fg_492_20 (N : Nat) (rec_2 : Value → Int32 → Int32 → am_H → Option am_O) : Nat → Value → Int32 → Int32 → Int32 → Int32 → Int32 → am_H → Option am_O
  | 0 => fun _ _ _ _ _ _ _ => none
  | K + 1 => fun x0 x1 x2 x3 x4 x5 h => (if 4 ≤ x5 then (if am_pOk 12 x0 h then am_cV true (fm_335 x0 x3 x4 h) (fun h4 => (rec_2 x0 x1 ((x2 + 1)) h4)) else none) else (if am_pOk 12 x0 h then am_cI true (fm_474 x0 x1 h) (fun v7 h8 => am_cI false (fm_353 x4 x5 v7 h8) (fun v10 h11 => (fg_492_20 N rec_2 K x0 x1 x2 x3 v10 ((x5 + 1)) h11))) else none))
theorem rg_492_20 {X : am_X} {d : Nat} {N : Nat} {rec_2 : Value → Int32 → Int32 → am_H → Option am_O} (q_2 : ∀ (x0 : Value) (x1 : Int32) (x2 : Int32) (h : am_H) (o : am_O), rec_2 x0 x1 x2 h = some o → ∀ lv : am_LV, (lv.lookup 0 = some x0) → (lv.lookup 1 = some (.int x1)) → (lv.lookup 2 = some (.int x2)) → (am_isR x0 = true) → am_W X (d + 2) 492 2 lv [] h (fun q => q = o)) : ∀ (K : Nat) (x0 : Value) (x1 : Int32) (x2 : Int32) (x3 : Int32) (x4 : Int32) (x5 : Int32) (h : am_H) (o : am_O), fg_492_20 N rec_2 K x0 x1 x2 x3 x4 x5 h = some o → ∀ lv : am_LV, (lv.lookup 0 = some x0) → (lv.lookup 1 = some (.int x1)) → (lv.lookup 2 = some (.int x2)) → (lv.lookup 3 = some (.int x3)) → (lv.lookup 4 = some (.int x4)) → (lv.lookup 5 = some (.int x5)) → (am_isR x0 = true) → am_W X (d + 2) 492 20 lv [] h (fun q => q = o) := by
  intro K
  induction K with
  | zero => intro x0 x1 x2 x3 x4 x5 h o hs; cases hs
  | succ K ih =>
    intro x0 x1 x2 x3 x4 x5 h o hs lv l0 l1 l2 l3 l4 l5 i0
    unfold fg_492_20 at hs
    refine aw_iload (pc1 := 22) at_492_20 l5 rfl ?_
    refine aw_iconst (v := 4) (pc1 := 23) at_492_22 (by decide) rfl ?_
    by_cases c1 : 4 ≤ x5
    · rw [if_pos c1] at hs
      refine aw_icge_t at_492_23 c1 ?_
      refine aw_vload_n (pc1 := 47) at_492_46 l0 i0 rfl ?_
      refine aw_iload_n (pc1 := 48) at_492_47 l3 rfl ?_
      refine aw_iload (pc1 := 50) at_492_48 l4 rfl ?_
      obtain ⟨z2, hs1⟩ := am_ift hs
      clear hs
      refine aw_call (F := fm_335 x0 x3 x4 h) (t := true) (na := 3) (kd := 1) (as := [x0, (.int x3), (.int x4)]) at_492_50 (am_k3v kb_335) mn_335 mk_335 rfl rfl (am_ok_v mi_335 (am_hl rfl (am_ccR i0 (am_ccI (am_ccI am_cats_0))) rfl) z2) (am_hc am_cats_0 rfl) (fun _ => ⟨rfl, hh_492⟩) (fun o1 hz9 => rm_335 x0 x3 x4 h o1 i0 hz9) ?_
      rcases am_cV_s hs1 with ⟨h4, f5, hs2⟩ | hs2
      · clear hs1
        refine Or.inl ⟨_, _, f5, ?_⟩
        show am_W X _ 492 53 _ [] h4 _
        refine aw_iinc (v := (x2 + 1)) (c := 1) (lv1 := am_put1 _ 2 _) (pc1 := 56) at_492_53 l2 (by decide) rfl rfl rfl ?_
        refine aw_goto at_492_56 ?_
        exact q_2 x0 x1 ((x2 + 1)) h4 o hs2 _ (am_lk1 l0 rfl rfl) (am_lk1 l1 rfl rfl) am_lk0 i0
      · clear hs1
        exact Or.inr hs2
    · rw [if_neg c1] at hs
      refine aw_icge_f (pc1 := 26) at_492_23 c1 rfl ?_
      refine aw_iload (pc1 := 28) at_492_26 l4 rfl ?_
      refine aw_iload (pc1 := 30) at_492_28 l5 rfl ?_
      refine aw_vload_n (pc1 := 31) at_492_30 l0 i0 rfl ?_
      refine aw_iload_n (pc1 := 32) at_492_31 l1 rfl ?_
      obtain ⟨z6, hs3⟩ := am_ift hs
      clear hs
      refine aw_call (F := fm_474 x0 x1 h) (t := true) (na := 2) (kd := 1) (as := [x0, (.int x1)]) at_492_32 (am_k3v kb_474) mn_474 mk_474 rfl rfl (am_ok_v mi_474 (am_hl rfl (am_ccR i0 (am_ccI am_cats_0)) rfl) z6) (am_hc (am_ccI (am_ccI am_cats_0)) rfl) (fun _ => ⟨rfl, hh_492⟩) (fun o1 hz9 => rm_474 x0 x1 h o1 i0 hz9) ?_
      rcases am_cI_s hs3 with ⟨v7, h8, f9, hs4⟩ | hs4
      · clear hs3
        refine Or.inl ⟨_, _, f9, ?_⟩
        show am_W X _ 492 35 _ [(.int v7), (.int x5), (.int x4)] h8 _
        refine aw_call (F := fm_353 x4 x5 v7 h8) (t := false) (na := 3) (kd := 0) (as := [(.int x4), (.int x5), (.int v7)]) at_492_35 (am_k3s kb_353) mn_353 mk_353 rfl rfl (am_ok_s mi_353 (am_hl rfl (am_ccI (am_ccI (am_ccI am_cats_0))) rfl)) (am_hc am_cats_0 rfl) (fun hz9 => by cases hz9) (fun o1 hz9 => rm_353 x4 x5 v7 h8 o1  hz9) ?_
        rcases am_cI_s hs4 with ⟨v10, h11, f12, hs5⟩ | hs5
        · clear hs4
          refine Or.inl ⟨_, _, f12, ?_⟩
          show am_W X _ 492 38 _ [(.int v10)] h11 _
          refine aw_istore (lv1 := am_put1 _ 4 _) (pc1 := 40) at_492_38 rfl rfl ?_
          refine aw_iinc (v := (x5 + 1)) (c := 1) (lv1 := am_put1 _ 5 _) (pc1 := 43) at_492_40 (am_lk1 l5 rfl rfl) (by decide) rfl rfl rfl ?_
          refine aw_goto at_492_43 ?_
          exact ih x0 x1 x2 x3 v10 ((x5 + 1)) h11 o hs5 _ (am_lk1 (am_lk1 l0 rfl rfl) rfl rfl) (am_lk1 (am_lk1 l1 rfl rfl) rfl rfl) (am_lk1 (am_lk1 l2 rfl rfl) rfl rfl) (am_lk1 (am_lk1 l3 rfl rfl) rfl rfl) (am_lk1 am_lk0 rfl rfl) am_lk0 i0
        · clear hs4
          exact Or.inr hs5
      · clear hs3
        exact Or.inr hs4
def fg_492_2 (N : Nat) : Nat → Value → Int32 → Int32 → am_H → Option am_O
  | 0 => fun _ _ _ _ => none
  | K + 1 => fun x0 x1 x2 h => (if x1 ≤ x2 then some (.inl (none, h)) else (if am_pOk 12 x0 h then am_cI true (fm_474 x0 10 h) (fun v3 h4 => (fg_492_20 N (fg_492_2 N K) N x0 x1 x2 v3 0 0 h4)) else none))
theorem rg_492_2 {X : am_X} {d : Nat} {N : Nat} : ∀ (K : Nat) (x0 : Value) (x1 : Int32) (x2 : Int32) (h : am_H) (o : am_O), fg_492_2 N K x0 x1 x2 h = some o → ∀ lv : am_LV, (lv.lookup 0 = some x0) → (lv.lookup 1 = some (.int x1)) → (lv.lookup 2 = some (.int x2)) → (am_isR x0 = true) → am_W X (d + 2) 492 2 lv [] h (fun q => q = o) := by
  intro K
  induction K with
  | zero => intro x0 x1 x2 h o hs; cases hs
  | succ K ih =>
    intro x0 x1 x2 h o hs lv l0 l1 l2 i0
    unfold fg_492_2 at hs
    refine aw_iload_n (pc1 := 3) at_492_2 l2 rfl ?_
    refine aw_iload_n (pc1 := 4) at_492_3 l1 rfl ?_
    by_cases c1 : x1 ≤ x2
    · rw [if_pos c1] at hs
      refine aw_icge_t at_492_4 c1 ?_
      cases hs
      exact aw_vret at_492_59 rt_492 rfl
    · rw [if_neg c1] at hs
      refine aw_icge_f (pc1 := 7) at_492_4 c1 rfl ?_
      refine aw_vload_n (pc1 := 8) at_492_7 l0 i0 rfl ?_
      refine aw_bipush (v := 10) (pc1 := 10) at_492_8 (by decide) rfl ?_
      obtain ⟨z2, hs1⟩ := am_ift hs
      clear hs
      refine aw_call (F := fm_474 x0 10 h) (t := true) (na := 2) (kd := 1) (as := [x0, (.int 10)]) at_492_10 (am_k3v kb_474) mn_474 mk_474 rfl rfl (am_ok_v mi_474 (am_hl rfl (am_ccR i0 (am_ccI am_cats_0)) rfl) z2) (am_hc am_cats_0 rfl) (fun _ => ⟨rfl, hh_492⟩) (fun o1 hz9 => rm_474 x0 10 h o1 i0 hz9) ?_
      rcases am_cI_s hs1 with ⟨v3, h4, f5, hs2⟩ | hs2
      · clear hs1
        refine Or.inl ⟨_, _, f5, ?_⟩
        show am_W X _ 492 13 _ [(.int v3)] h4 _
        refine aw_istore_n (lv1 := am_put1 _ 3 _) (pc1 := 14) at_492_13 rfl rfl ?_
        refine aw_iconst (v := 0) (pc1 := 15) at_492_14 (by decide) rfl ?_
        refine aw_istore (lv1 := am_put1 _ 4 _) (pc1 := 17) at_492_15 rfl rfl ?_
        refine aw_iconst (v := 0) (pc1 := 18) at_492_17 (by decide) rfl ?_
        refine aw_istore (lv1 := am_put1 _ 5 _) (pc1 := 20) at_492_18 rfl rfl ?_
        exact rg_492_20 (fun z0 z1 z2 h o hs2 => ih z0 z1 z2 h o hs2) N x0 x1 x2 v3 0 0 h4 o hs2 _ (am_lk1 (am_lk1 (am_lk1 l0 rfl rfl) rfl rfl) rfl rfl) (am_lk1 (am_lk1 (am_lk1 l1 rfl rfl) rfl rfl) rfl rfl) (am_lk1 (am_lk1 (am_lk1 l2 rfl rfl) rfl rfl) rfl rfl) (am_lk1 (am_lk1 am_lk0 rfl rfl) rfl rfl) (am_lk1 am_lk0 rfl rfl) am_lk0 i0
      · clear hs1
        exact Or.inr hs2
def fg_492_0 (N : Nat) (x0 : Value) (x1 : Int32) (h : am_H) : Option am_O := (fg_492_2 N N x0 x1 0 h)
theorem rg_492_0 {X : am_X} {d : Nat} {N : Nat} {lv : am_LV} (x0 : Value) (x1 : Int32) (h : am_H) (o : am_O) (l0 : lv.lookup 0 = some x0) (l1 : lv.lookup 1 = some (.int x1)) (i0 : am_isR x0 = true) (hs : fg_492_0 N x0 x1 h = some o) : am_W X (d + 2) 492 0 lv [] h (fun q => q = o) := by
  unfold fg_492_0 at hs
  refine aw_iconst (v := 0) (pc1 := 1) at_492_0 (by decide) rfl ?_
  refine aw_istore_n (lv1 := am_put1 _ 2 _) (pc1 := 2) at_492_1 rfl rfl ?_
  exact rg_492_2 N x0 x1 0 h o hs _ (am_lk1 l0 rfl rfl) (am_lk1 l1 rfl rfl) am_lk0 i0
def fm_492 (N : Nat) (y0 : Value) (y1 : Int32) (h : am_H) : Option am_O := fg_492_0 N y0 y1 h
theorem rm_492 {X : am_X} {d : Nat} {N : Nat} (y0 : Value) (y1 : Int32) (h : am_H) (o : am_O) (i0 : am_isR y0 = true) (hs : fm_492 N y0 y1 h = some o) : am_W X (d + 2) 492 0 (am_args 0 [y0, .int y1]) [] h (fun q => q = o) := by
  rw [am_args_R i0, am_args_I]
  exact rg_492_0 y0 y1 h o rfl rfl i0 hs
def fg_493_7 (N : Nat) : Nat → Value → Int32 → Int32 → am_H → Option am_O
  | 0 => fun _ _ _ _ => none
  | K + 1 => fun x0 x1 x2 h => (if (2 * x1) ≤ x2 then some (.inl (none, h)) else (if am_pOk 12 x0 h then am_cI true (fm_474 x0 ((x1 - 1)) h) (fun v3 h4 => (if am_pOk 12 x0 h4 then am_cI true (fm_474 x0 (((x1 - 1) - v3)) h4) (fun v7 h8 => (if am_pOk 12 x0 h8 then am_cV true (fm_335 x0 v3 (((v3 + 1) + v7)) h8) (fun h12 => (fg_493_7 N K x0 x1 ((x2 + 1)) h12)) else none)) else none)) else none))
theorem rg_493_7 {X : am_X} {d : Nat} {N : Nat} : ∀ (K : Nat) (x0 : Value) (x1 : Int32) (x2 : Int32) (h : am_H) (o : am_O), fg_493_7 N K x0 x1 x2 h = some o → ∀ lv : am_LV, (lv.lookup 0 = some x0) → (lv.lookup 1 = some (.int x1)) → (lv.lookup 2 = some (.int x2)) → (am_isR x0 = true) → am_W X (d + 2) 493 7 lv [] h (fun q => q = o) := by
  intro K
  induction K with
  | zero => intro x0 x1 x2 h o hs; cases hs
  | succ K ih =>
    intro x0 x1 x2 h o hs lv l0 l1 l2 i0
    unfold fg_493_7 at hs
    refine aw_iload_n (pc1 := 8) at_493_7 l2 rfl ?_
    refine aw_iconst (v := 2) (pc1 := 9) at_493_8 (by decide) rfl ?_
    refine aw_iload_n (pc1 := 10) at_493_9 l1 rfl ?_
    refine aw_imul (v := (2 * x1)) (pc1 := 11) at_493_10 rfl rfl ?_
    by_cases c1 : (2 * x1) ≤ x2
    · rw [if_pos c1] at hs
      refine aw_icge_t at_493_11 c1 ?_
      cases hs
      exact aw_vret at_493_50 rt_493 rfl
    · rw [if_neg c1] at hs
      refine aw_icge_f (pc1 := 14) at_493_11 c1 rfl ?_
      refine aw_vload_n (pc1 := 15) at_493_14 l0 i0 rfl ?_
      refine aw_iload_n (pc1 := 16) at_493_15 l1 rfl ?_
      refine aw_iconst (v := 1) (pc1 := 17) at_493_16 (by decide) rfl ?_
      refine aw_isub (v := (x1 - 1)) (pc1 := 18) at_493_17 rfl rfl ?_
      obtain ⟨z2, hs1⟩ := am_ift hs
      clear hs
      refine aw_call (F := fm_474 x0 ((x1 - 1)) h) (t := true) (na := 2) (kd := 1) (as := [x0, (.int (x1 - 1))]) at_493_18 (am_k3v kb_474) mn_474 mk_474 rfl rfl (am_ok_v mi_474 (am_hl rfl (am_ccR i0 (am_ccI am_cats_0)) rfl) z2) (am_hc am_cats_0 rfl) (fun _ => ⟨rfl, hh_493⟩) (fun o1 hz9 => rm_474 x0 ((x1 - 1)) h o1 i0 hz9) ?_
      rcases am_cI_s hs1 with ⟨v3, h4, f5, hs2⟩ | hs2
      · clear hs1
        refine Or.inl ⟨_, _, f5, ?_⟩
        show am_W X _ 493 21 _ [(.int v3)] h4 _
        refine aw_istore_n (lv1 := am_put1 _ 3 _) (pc1 := 22) at_493_21 rfl rfl ?_
        refine aw_iload_n (pc1 := 23) at_493_22 am_lk0 rfl ?_
        refine aw_iconst (v := 1) (pc1 := 24) at_493_23 (by decide) rfl ?_
        refine aw_iadd (v := (v3 + 1)) (pc1 := 25) at_493_24 rfl rfl ?_
        refine aw_vload_n (pc1 := 26) at_493_25 (am_lk1 l0 rfl rfl) i0 rfl ?_
        refine aw_iload_n (pc1 := 27) at_493_26 (am_lk1 l1 rfl rfl) rfl ?_
        refine aw_iconst (v := 1) (pc1 := 28) at_493_27 (by decide) rfl ?_
        refine aw_isub (v := (x1 - 1)) (pc1 := 29) at_493_28 rfl rfl ?_
        refine aw_iload_n (pc1 := 30) at_493_29 am_lk0 rfl ?_
        refine aw_isub (v := ((x1 - 1) - v3)) (pc1 := 31) at_493_30 rfl rfl ?_
        obtain ⟨z6, hs3⟩ := am_ift hs2
        clear hs2
        refine aw_call (F := fm_474 x0 (((x1 - 1) - v3)) h4) (t := true) (na := 2) (kd := 1) (as := [x0, (.int ((x1 - 1) - v3))]) at_493_31 (am_k3v kb_474) mn_474 mk_474 rfl rfl (am_ok_v mi_474 (am_hl rfl (am_ccR i0 (am_ccI am_cats_0)) rfl) z6) (am_hc (am_ccI am_cats_0) rfl) (fun _ => ⟨rfl, hh_493⟩) (fun o1 hz9 => rm_474 x0 (((x1 - 1) - v3)) h4 o1 i0 hz9) ?_
        rcases am_cI_s hs3 with ⟨v7, h8, f9, hs4⟩ | hs4
        · clear hs3
          refine Or.inl ⟨_, _, f9, ?_⟩
          show am_W X _ 493 34 _ [(.int v7), (.int (v3 + 1))] h8 _
          refine aw_iadd (v := ((v3 + 1) + v7)) (pc1 := 35) at_493_34 rfl rfl ?_
          refine aw_istore (lv1 := am_put1 _ 4 _) (pc1 := 37) at_493_35 rfl rfl ?_
          refine aw_vload_n (pc1 := 38) at_493_37 (am_lk1 (am_lk1 l0 rfl rfl) rfl rfl) i0 rfl ?_
          refine aw_iload_n (pc1 := 39) at_493_38 (am_lk1 am_lk0 rfl rfl) rfl ?_
          refine aw_iload (pc1 := 41) at_493_39 am_lk0 rfl ?_
          obtain ⟨z10, hs5⟩ := am_ift hs4
          clear hs4
          refine aw_call (F := fm_335 x0 v3 (((v3 + 1) + v7)) h8) (t := true) (na := 3) (kd := 1) (as := [x0, (.int v3), (.int ((v3 + 1) + v7))]) at_493_41 (am_k3v kb_335) mn_335 mk_335 rfl rfl (am_ok_v mi_335 (am_hl rfl (am_ccR i0 (am_ccI (am_ccI am_cats_0))) rfl) z10) (am_hc am_cats_0 rfl) (fun _ => ⟨rfl, hh_493⟩) (fun o1 hz9 => rm_335 x0 v3 (((v3 + 1) + v7)) h8 o1 i0 hz9) ?_
          rcases am_cV_s hs5 with ⟨h12, f13, hs6⟩ | hs6
          · clear hs5
            refine Or.inl ⟨_, _, f13, ?_⟩
            show am_W X _ 493 44 _ [] h12 _
            refine aw_iinc (v := (x2 + 1)) (c := 1) (lv1 := am_put1 _ 2 _) (pc1 := 47) at_493_44 (am_lk1 (am_lk1 l2 rfl rfl) rfl rfl) (by decide) rfl rfl rfl ?_
            refine aw_goto at_493_47 ?_
            exact ih x0 x1 ((x2 + 1)) h12 o hs6 _ (am_lk1 (am_lk1 (am_lk1 l0 rfl rfl) rfl rfl) rfl rfl) (am_lk1 (am_lk1 (am_lk1 l1 rfl rfl) rfl rfl) rfl rfl) am_lk0 i0
          · clear hs5
            exact Or.inr hs6
        · clear hs3
          exact Or.inr hs4
      · clear hs1
        exact Or.inr hs2
def fg_493_0 (N : Nat) (x0 : Value) (x1 : Int32) (h : am_H) : Option am_O := ((am_pP 3087 x0 (.int x1) h).bind fun h1 => (fg_493_7 N N x0 x1 0 h1))
theorem rg_493_0 {X : am_X} {d : Nat} {N : Nat} {lv : am_LV} (x0 : Value) (x1 : Int32) (h : am_H) (o : am_O) (l0 : lv.lookup 0 = some x0) (l1 : lv.lookup 1 = some (.int x1)) (i0 : am_isR x0 = true) (hs : fg_493_0 N x0 x1 h = some o) : am_W X (d + 2) 493 0 lv [] h (fun q => q = o) := by
  unfold fg_493_0 at hs
  refine aw_vload_n (pc1 := 1) at_493_0 l0 i0 rfl ?_
  refine aw_iload_n (pc1 := 2) at_493_1 l1 rfl ?_
  obtain ⟨h1, e2, hs1⟩ := am_bind hs
  clear hs
  refine aw_pP (pc1 := 5) at_493_2 e2 rfl ?_
  refine aw_iconst (v := 0) (pc1 := 6) at_493_5 (by decide) rfl ?_
  refine aw_istore_n (lv1 := am_put1 _ 2 _) (pc1 := 7) at_493_6 rfl rfl ?_
  exact rg_493_7 N x0 x1 0 h1 o hs1 _ (am_lk1 l0 rfl rfl) (am_lk1 l1 rfl rfl) am_lk0 i0
def fm_493 (N : Nat) (y0 : Value) (y1 : Int32) (h : am_H) : Option am_O := fg_493_0 N y0 y1 h
theorem rm_493 {X : am_X} {d : Nat} {N : Nat} (y0 : Value) (y1 : Int32) (h : am_H) (o : am_O) (i0 : am_isR y0 = true) (hs : fm_493 N y0 y1 h = some o) : am_W X (d + 2) 493 0 (am_args 0 [y0, .int y1]) [] h (fun q => q = o) := by
  rw [am_args_R i0, am_args_I]
  exact rg_493_0 y0 y1 h o rfl rfl i0 hs
def fg_495_75 (N : Nat) (h : am_H) : Option am_O := some (.inl (none, h))
theorem rg_495_75 {X : am_X} {d : Nat} {N : Nat} {lv : am_LV} (h : am_H) (o : am_O) (hs : fg_495_75 N h = some o) : am_W X (d + 2) 495 75 lv [] h (fun q => q = o) := by
  unfold fg_495_75 at hs
  cases hs
  exact aw_vret at_495_75 rt_495 rfl
def fg_495_26 (N : Nat) : Nat → Value → Int32 → am_H → Option am_O
  | 0 => fun _ _ _ => none
  | K + 1 => fun x0 x1 h => ((am_vI (am_pG 3086 x0 h)).bind fun v1 => (if v1 ≤ x1 then ((am_vI (am_pG 3092 x0 h)).bind fun v4 => (if ¬ v4 = 0 then (fg_495_75 N h) else (if am_pOk 12 x0 h then am_cV true (fm_392 N x0 h) (fun h9 => (fg_495_75 N h9)) else none))) else ((am_vR (am_pG 3093 x0 h)).bind fun v11 => ((am_vR (am_pG 3088 x0 h)).bind fun v13 => ((am_pA 0 v13 x1 h).bind fun v15 => ((am_pS 0 v11 x1 v15 h).bind fun h17 => ((am_vR (am_pG 3094 x0 h17)).bind fun v19 => ((am_vR (am_pG 3089 x0 h17)).bind fun v21 => ((am_pA 0 v21 x1 h17).bind fun v23 => ((am_pS 0 v19 x1 v23 h17).bind fun h25 => (fg_495_26 N K x0 ((x1 + 1)) h25)))))))))))
theorem rg_495_26 {X : am_X} {d : Nat} {N : Nat} : ∀ (K : Nat) (x0 : Value) (x1 : Int32) (h : am_H) (o : am_O), fg_495_26 N K x0 x1 h = some o → ∀ lv : am_LV, (lv.lookup 0 = some x0) → (lv.lookup 1 = some (.int x1)) → (am_isR x0 = true) → am_W X (d + 2) 495 26 lv [] h (fun q => q = o) := by
  intro K
  induction K with
  | zero => intro x0 x1 h o hs; cases hs
  | succ K ih =>
    intro x0 x1 h o hs lv l0 l1 i0
    unfold fg_495_26 at hs
    refine aw_iload_n (pc1 := 27) at_495_26 l1 rfl ?_
    refine aw_vload_n (pc1 := 28) at_495_27 l0 i0 rfl ?_
    obtain ⟨v1, e2, hs1⟩ := am_bind hs
    clear hs
    refine aw_pG (pc1 := 31) at_495_28 (am_vI_s e2) rfl ?_
    by_cases c3 : v1 ≤ x1
    · rw [if_pos c3] at hs1
      refine aw_icge_t at_495_31 c3 ?_
      refine aw_vload_n (pc1 := 65) at_495_64 l0 i0 rfl ?_
      obtain ⟨v4, e5, hs2⟩ := am_bind hs1
      clear hs1
      refine aw_pG (pc1 := 68) at_495_65 (am_vI_s e5) rfl ?_
      by_cases c6 : ¬ v4 = 0
      · rw [if_pos c6] at hs2
        refine aw_ifne_t at_495_68 c6 ?_
        exact rg_495_75 h o   hs2
      · rw [if_neg c6] at hs2
        refine aw_ifne_f (pc1 := 71) at_495_68 c6 rfl ?_
        refine aw_vload_n (pc1 := 72) at_495_71 l0 i0 rfl ?_
        obtain ⟨z7, hs3⟩ := am_ift hs2
        clear hs2
        refine aw_call (F := fm_392 N x0 h) (t := true) (na := 1) (kd := 1) (as := [x0]) at_495_72 (am_k3v kb_392) mn_392 mk_392 rfl rfl (am_ok_v mi_392 (am_hl rfl (am_ccR i0 am_cats_0) rfl) z7) (am_hc am_cats_0 rfl) (fun _ => ⟨rfl, hh_495⟩) (fun o1 hz9 => rm_392 x0 h o1 i0 hz9) ?_
        rcases am_cV_s hs3 with ⟨h9, f10, hs4⟩ | hs4
        · clear hs3
          refine Or.inl ⟨_, _, f10, ?_⟩
          show am_W X _ 495 75 _ [] h9 _
          exact rg_495_75 h9 o   hs4
        · clear hs3
          exact Or.inr hs4
    · rw [if_neg c3] at hs1
      refine aw_icge_f (pc1 := 34) at_495_31 c3 rfl ?_
      refine aw_vload_n (pc1 := 35) at_495_34 l0 i0 rfl ?_
      obtain ⟨v11, e12, hs5⟩ := am_bind hs1
      clear hs1
      refine aw_pG (pc1 := 38) at_495_35 (am_vR_s e12).1 rfl ?_
      refine aw_iload_n (pc1 := 39) at_495_38 l1 rfl ?_
      refine aw_vload_n (pc1 := 40) at_495_39 l0 i0 rfl ?_
      obtain ⟨v13, e14, hs6⟩ := am_bind hs5
      clear hs5
      refine aw_pG (pc1 := 43) at_495_40 (am_vR_s e14).1 rfl ?_
      refine aw_iload_n (pc1 := 44) at_495_43 l1 rfl ?_
      obtain ⟨v15, e16, hs7⟩ := am_bind hs6
      clear hs6
      refine aw_pA (pc1 := 45) at_495_44 (Or.inl ⟨rfl, rfl⟩) e16 rfl ?_
      obtain ⟨h17, e18, hs8⟩ := am_bind hs7
      clear hs7
      refine aw_pS (pc1 := 46) at_495_45 (Or.inl ⟨rfl, rfl⟩) e18 rfl ?_
      refine aw_vload_n (pc1 := 47) at_495_46 l0 i0 rfl ?_
      obtain ⟨v19, e20, hs9⟩ := am_bind hs8
      clear hs8
      refine aw_pG (pc1 := 50) at_495_47 (am_vR_s e20).1 rfl ?_
      refine aw_iload_n (pc1 := 51) at_495_50 l1 rfl ?_
      refine aw_vload_n (pc1 := 52) at_495_51 l0 i0 rfl ?_
      obtain ⟨v21, e22, hs10⟩ := am_bind hs9
      clear hs9
      refine aw_pG (pc1 := 55) at_495_52 (am_vR_s e22).1 rfl ?_
      refine aw_iload_n (pc1 := 56) at_495_55 l1 rfl ?_
      obtain ⟨v23, e24, hs11⟩ := am_bind hs10
      clear hs10
      refine aw_pA (pc1 := 57) at_495_56 (Or.inl ⟨rfl, rfl⟩) e24 rfl ?_
      obtain ⟨h25, e26, hs12⟩ := am_bind hs11
      clear hs11
      refine aw_pS (pc1 := 58) at_495_57 (Or.inl ⟨rfl, rfl⟩) e26 rfl ?_
      refine aw_iinc (v := (x1 + 1)) (c := 1) (lv1 := am_put1 _ 1 _) (pc1 := 61) at_495_58 l1 (by decide) rfl rfl rfl ?_
      refine aw_goto at_495_61 ?_
      exact ih x0 ((x1 + 1)) h25 o hs12 _ (am_lk1 l0 rfl (by rw [am_isRc i0]; rfl)) am_lk0 i0
def fg_495_0 (N : Nat) (x0 : Value) (h : am_H) : Option am_O := ((am_vI (am_pG 3085 x0 h)).bind fun v1 => ((am_pP 3092 x0 (.int v1) h).bind fun h3 => ((am_vI (am_pG 3086 x0 h3)).bind fun v5 => ((am_pP 3090 x0 (.int v5) h3).bind fun h7 => ((am_vI (am_pG 3087 x0 h7)).bind fun v9 => ((am_pP 3091 x0 (.int v9) h7).bind fun h11 => (fg_495_26 N N x0 0 h11)))))))
theorem rg_495_0 {X : am_X} {d : Nat} {N : Nat} {lv : am_LV} (x0 : Value) (h : am_H) (o : am_O) (l0 : lv.lookup 0 = some x0) (i0 : am_isR x0 = true) (hs : fg_495_0 N x0 h = some o) : am_W X (d + 2) 495 0 lv [] h (fun q => q = o) := by
  unfold fg_495_0 at hs
  refine aw_vload_n (pc1 := 1) at_495_0 l0 i0 rfl ?_
  refine aw_vload_n (pc1 := 2) at_495_1 l0 i0 rfl ?_
  obtain ⟨v1, e2, hs1⟩ := am_bind hs
  clear hs
  refine aw_pG (pc1 := 5) at_495_2 (am_vI_s e2) rfl ?_
  obtain ⟨h3, e4, hs2⟩ := am_bind hs1
  clear hs1
  refine aw_pP (pc1 := 8) at_495_5 e4 rfl ?_
  refine aw_vload_n (pc1 := 9) at_495_8 l0 i0 rfl ?_
  refine aw_vload_n (pc1 := 10) at_495_9 l0 i0 rfl ?_
  obtain ⟨v5, e6, hs3⟩ := am_bind hs2
  clear hs2
  refine aw_pG (pc1 := 13) at_495_10 (am_vI_s e6) rfl ?_
  obtain ⟨h7, e8, hs4⟩ := am_bind hs3
  clear hs3
  refine aw_pP (pc1 := 16) at_495_13 e8 rfl ?_
  refine aw_vload_n (pc1 := 17) at_495_16 l0 i0 rfl ?_
  refine aw_vload_n (pc1 := 18) at_495_17 l0 i0 rfl ?_
  obtain ⟨v9, e10, hs5⟩ := am_bind hs4
  clear hs4
  refine aw_pG (pc1 := 21) at_495_18 (am_vI_s e10) rfl ?_
  obtain ⟨h11, e12, hs6⟩ := am_bind hs5
  clear hs5
  refine aw_pP (pc1 := 24) at_495_21 e12 rfl ?_
  refine aw_iconst (v := 0) (pc1 := 25) at_495_24 (by decide) rfl ?_
  refine aw_istore_n (lv1 := am_put1 _ 1 _) (pc1 := 26) at_495_25 rfl rfl ?_
  exact rg_495_26 N x0 0 h11 o hs6 _ (am_lk1 l0 rfl (by rw [am_isRc i0]; rfl)) am_lk0 i0
def fm_495 (N : Nat) (y0 : Value) (h : am_H) : Option am_O := fg_495_0 N y0 h
theorem rm_495 {X : am_X} {d : Nat} {N : Nat} (y0 : Value) (h : am_H) (o : am_O) (i0 : am_isR y0 = true) (hs : fm_495 N y0 h = some o) : am_W X (d + 2) 495 0 (am_args 0 [y0]) [] h (fun q => q = o) := by
  rw [am_args_R i0]
  exact rg_495_0 y0 h o rfl i0 hs
def fg_496_90 (N : Nat) (s0 : Int32) (s1 : Int32) (h : am_H) : Option am_O := some (.inl (some (.int (s0 + s1)), h))
theorem rg_496_90 {X : am_X} {d : Nat} {N : Nat} {lv : am_LV} (s0 : Int32) (s1 : Int32) (h : am_H) (o : am_O) (hs : fg_496_90 N s0 s1 h = some o) : am_W X (d + 1) 496 90 lv [(.int s1), (.int s0)] h (fun q => q = o) := by
  unfold fg_496_90 at hs
  refine aw_iadd (v := (s0 + s1)) (pc1 := 91) at_496_90 rfl rfl ?_
  cases hs
  exact aw_iret at_496_91 (by rw [rt_496]; rfl) rfl
def fg_496_85 (N : Nat) (s0 : Int32) (h : am_H) : Option am_O := (fg_496_90 N s0 3 h)
theorem rg_496_85 {X : am_X} {d : Nat} {N : Nat} {lv : am_LV} (s0 : Int32) (h : am_H) (o : am_O) (hs : fg_496_85 N s0 h = some o) : am_W X (d + 1) 496 85 lv [(.int s0)] h (fun q => q = o) := by
  unfold fg_496_85 at hs
  refine aw_iconst (v := 3) (pc1 := 86) at_496_85 (by decide) rfl ?_
  refine aw_goto at_496_86 ?_
  exact rg_496_90 s0 3 h o   hs
def fg_496_12 (N : Nat) : Nat → Value → Int32 → Int32 → Int32 → Int32 → am_H → Option am_O
  | 0 => fun _ _ _ _ _ _ => none
  | K + 1 => fun x0 x1 x2 x3 x4 h => am_cI false (fm_343 x2 h) (fun v1 h2 => (if v1 ≤ x4 then (if 9 ≤ x2 then (if ¬ x2 = 9 then (if 17 ≤ x2 then (if x2 = 17 then (fg_496_85 N x3 h2) else (if ¬ x2 = 18 then (fg_496_90 N x3 2 h2) else (fg_496_85 N x3 h2))) else (fg_496_90 N x3 1 h2)) else (fg_496_90 N x3 2 h2)) else (fg_496_90 N x3 1 h2)) else ((am_vR (am_pG 3194 x0 h2)).bind fun v10 => (if am_pOk 12 x0 h2 then am_cI true (fm_393 N x0 x1 x4 h2) (fun v13 h14 => ((am_pA 0 v10 v13 h14).bind fun v16 => (fg_496_12 N K x0 x1 x2 ((x3 + v16)) ((x4 + 1)) h14))) else none))))
theorem rg_496_12 {X : am_X} {d : Nat} {N : Nat} : ∀ (K : Nat) (x0 : Value) (x1 : Int32) (x2 : Int32) (x3 : Int32) (x4 : Int32) (h : am_H) (o : am_O), fg_496_12 N K x0 x1 x2 x3 x4 h = some o → ∀ lv : am_LV, (lv.lookup 0 = some x0) → (lv.lookup 1 = some (.int x1)) → (lv.lookup 2 = some (.int x2)) → (lv.lookup 3 = some (.int x3)) → (lv.lookup 4 = some (.int x4)) → (am_isR x0 = true) → am_W X (d + 1) 496 12 lv [] h (fun q => q = o) := by
  intro K
  induction K with
  | zero => intro x0 x1 x2 x3 x4 h o hs; cases hs
  | succ K ih =>
    intro x0 x1 x2 x3 x4 h o hs lv l0 l1 l2 l3 l4 i0
    unfold fg_496_12 at hs
    refine aw_iload (pc1 := 14) at_496_12 l4 rfl ?_
    refine aw_iload_n (pc1 := 15) at_496_14 l2 rfl ?_
    refine aw_call (F := fm_343 x2 h) (t := false) (na := 1) (kd := 0) (as := [(.int x2)]) at_496_15 (am_k3s kb_343) mn_343 mk_343 rfl rfl (am_ok_s mi_343 (am_hl rfl (am_ccI am_cats_0) rfl)) (am_hc (am_ccI am_cats_0) rfl) (fun hz9 => by cases hz9) (fun o1 hz9 => rm_343 x2 h o1  hz9) ?_
    rcases am_cI_s hs with ⟨v1, h2, f3, hs1⟩ | hs1
    · clear hs
      refine Or.inl ⟨_, _, f3, ?_⟩
      show am_W X _ 496 18 _ [(.int v1), (.int x4)] h2 _
      by_cases c4 : v1 ≤ x4
      · rw [if_pos c4] at hs1
        refine aw_icge_t at_496_18 c4 ?_
        refine aw_iload_n (pc1 := 43) at_496_42 l3 rfl ?_
        refine aw_iload_n (pc1 := 44) at_496_43 l2 rfl ?_
        refine aw_bipush (v := 9) (pc1 := 46) at_496_44 (by decide) rfl ?_
        by_cases c5 : 9 ≤ x2
        · rw [if_pos c5] at hs1
          refine aw_icge_t at_496_46 c5 ?_
          refine aw_iload_n (pc1 := 54) at_496_53 l2 rfl ?_
          refine aw_bipush (v := 9) (pc1 := 56) at_496_54 (by decide) rfl ?_
          by_cases c6 : ¬ x2 = 9
          · rw [if_pos c6] at hs1
            refine aw_icne_t at_496_56 c6 ?_
            refine aw_iload_n (pc1 := 64) at_496_63 l2 rfl ?_
            refine aw_bipush (v := 17) (pc1 := 66) at_496_64 (by decide) rfl ?_
            by_cases c7 : 17 ≤ x2
            · rw [if_pos c7] at hs1
              refine aw_icge_t at_496_66 c7 ?_
              refine aw_iload_n (pc1 := 74) at_496_73 l2 rfl ?_
              refine aw_bipush (v := 17) (pc1 := 76) at_496_74 (by decide) rfl ?_
              by_cases c8 : x2 = 17
              · rw [if_pos c8] at hs1
                refine aw_iceq_t at_496_76 c8 ?_
                exact rg_496_85 x3 h2 o   hs1
              · rw [if_neg c8] at hs1
                refine aw_iceq_f (pc1 := 79) at_496_76 c8 rfl ?_
                refine aw_iload_n (pc1 := 80) at_496_79 l2 rfl ?_
                refine aw_bipush (v := 18) (pc1 := 82) at_496_80 (by decide) rfl ?_
                by_cases c9 : ¬ x2 = 18
                · rw [if_pos c9] at hs1
                  refine aw_icne_t at_496_82 c9 ?_
                  refine aw_iconst (v := 2) (pc1 := 90) at_496_89 (by decide) rfl ?_
                  exact rg_496_90 x3 2 h2 o   hs1
                · rw [if_neg c9] at hs1
                  refine aw_icne_f (pc1 := 85) at_496_82 c9 rfl ?_
                  exact rg_496_85 x3 h2 o   hs1
            · rw [if_neg c7] at hs1
              refine aw_icge_f (pc1 := 69) at_496_66 c7 rfl ?_
              refine aw_iconst (v := 1) (pc1 := 70) at_496_69 (by decide) rfl ?_
              refine aw_goto at_496_70 ?_
              exact rg_496_90 x3 1 h2 o   hs1
          · rw [if_neg c6] at hs1
            refine aw_icne_f (pc1 := 59) at_496_56 c6 rfl ?_
            refine aw_iconst (v := 2) (pc1 := 60) at_496_59 (by decide) rfl ?_
            refine aw_goto at_496_60 ?_
            exact rg_496_90 x3 2 h2 o   hs1
        · rw [if_neg c5] at hs1
          refine aw_icge_f (pc1 := 49) at_496_46 c5 rfl ?_
          refine aw_iconst (v := 1) (pc1 := 50) at_496_49 (by decide) rfl ?_
          refine aw_goto at_496_50 ?_
          exact rg_496_90 x3 1 h2 o   hs1
      · rw [if_neg c4] at hs1
        refine aw_icge_f (pc1 := 21) at_496_18 c4 rfl ?_
        refine aw_iload_n (pc1 := 22) at_496_21 l3 rfl ?_
        refine aw_vload_n (pc1 := 23) at_496_22 l0 i0 rfl ?_
        obtain ⟨v10, e11, hs2⟩ := am_bind hs1
        clear hs1
        refine aw_pG (pc1 := 26) at_496_23 (am_vR_s e11).1 rfl ?_
        refine aw_vload_n (pc1 := 27) at_496_26 l0 i0 rfl ?_
        refine aw_iload_n (pc1 := 28) at_496_27 l1 rfl ?_
        refine aw_iload (pc1 := 30) at_496_28 l4 rfl ?_
        obtain ⟨z12, hs3⟩ := am_ift hs2
        clear hs2
        refine aw_call (F := fm_393 N x0 x1 x4 h2) (t := true) (na := 3) (kd := 1) (as := [x0, (.int x1), (.int x4)]) at_496_30 (am_k3v kb_393) mn_393 mk_393 rfl rfl (am_ok_v mi_393 (am_hl rfl (am_ccR i0 (am_ccI (am_ccI am_cats_0))) rfl) z12) (am_hc (am_ccR (am_vR_s e11).2 (am_ccI am_cats_0)) rfl) (fun _ => ⟨rfl, hh_496⟩) (fun o1 hz9 => rm_393 x0 x1 x4 h2 o1 i0 hz9) ?_
        rcases am_cI_s hs3 with ⟨v13, h14, f15, hs4⟩ | hs4
        · clear hs3
          refine Or.inl ⟨_, _, f15, ?_⟩
          show am_W X _ 496 33 _ [(.int v13), v10, (.int x3)] h14 _
          obtain ⟨v16, e17, hs5⟩ := am_bind hs4
          clear hs4
          refine aw_pA (pc1 := 34) at_496_33 (Or.inl ⟨rfl, rfl⟩) e17 rfl ?_
          refine aw_iadd (v := (x3 + v16)) (pc1 := 35) at_496_34 rfl rfl ?_
          refine aw_istore_n (lv1 := am_put1 _ 3 _) (pc1 := 36) at_496_35 rfl rfl ?_
          refine aw_iinc (v := (x4 + 1)) (c := 1) (lv1 := am_put1 _ 4 _) (pc1 := 39) at_496_36 (am_lk1 l4 rfl rfl) (by decide) rfl rfl rfl ?_
          refine aw_goto at_496_39 ?_
          exact ih x0 x1 x2 ((x3 + v16)) ((x4 + 1)) h14 o hs5 _ (am_lk1 (am_lk1 l0 rfl rfl) rfl rfl) (am_lk1 (am_lk1 l1 rfl rfl) rfl rfl) (am_lk1 (am_lk1 l2 rfl rfl) rfl rfl) (am_lk1 am_lk0 rfl rfl) am_lk0 i0
        · clear hs3
          exact Or.inr hs4
    · clear hs
      exact Or.inr hs1
def fg_496_0 (N : Nat) (x0 : Value) (x1 : Int32) (h : am_H) : Option am_O := ((am_vR (am_pG 3093 x0 h)).bind fun v1 => ((am_pA 0 v1 x1 h).bind fun v3 => (fg_496_12 N N x0 x1 v3 0 0 h)))
theorem rg_496_0 {X : am_X} {d : Nat} {N : Nat} {lv : am_LV} (x0 : Value) (x1 : Int32) (h : am_H) (o : am_O) (l0 : lv.lookup 0 = some x0) (l1 : lv.lookup 1 = some (.int x1)) (i0 : am_isR x0 = true) (hs : fg_496_0 N x0 x1 h = some o) : am_W X (d + 1) 496 0 lv [] h (fun q => q = o) := by
  unfold fg_496_0 at hs
  refine aw_vload_n (pc1 := 1) at_496_0 l0 i0 rfl ?_
  obtain ⟨v1, e2, hs1⟩ := am_bind hs
  clear hs
  refine aw_pG (pc1 := 4) at_496_1 (am_vR_s e2).1 rfl ?_
  refine aw_iload_n (pc1 := 5) at_496_4 l1 rfl ?_
  obtain ⟨v3, e4, hs2⟩ := am_bind hs1
  clear hs1
  refine aw_pA (pc1 := 6) at_496_5 (Or.inl ⟨rfl, rfl⟩) e4 rfl ?_
  refine aw_istore_n (lv1 := am_put1 _ 2 _) (pc1 := 7) at_496_6 rfl rfl ?_
  refine aw_iconst (v := 0) (pc1 := 8) at_496_7 (by decide) rfl ?_
  refine aw_istore_n (lv1 := am_put1 _ 3 _) (pc1 := 9) at_496_8 rfl rfl ?_
  refine aw_iconst (v := 0) (pc1 := 10) at_496_9 (by decide) rfl ?_
  refine aw_istore (lv1 := am_put1 _ 4 _) (pc1 := 12) at_496_10 rfl rfl ?_
  exact rg_496_12 N x0 x1 v3 0 0 h o hs2 _ (am_lk1 (am_lk1 (am_lk1 l0 rfl rfl) rfl rfl) rfl rfl) (am_lk1 (am_lk1 (am_lk1 l1 rfl rfl) rfl rfl) rfl rfl) (am_lk1 (am_lk1 am_lk0 rfl rfl) rfl rfl) (am_lk1 am_lk0 rfl rfl) am_lk0 i0
def fm_496 (N : Nat) (y0 : Value) (y1 : Int32) (h : am_H) : Option am_O := fg_496_0 N y0 y1 h
theorem rm_496 {X : am_X} {d : Nat} {N : Nat} (y0 : Value) (y1 : Int32) (h : am_H) (o : am_O) (i0 : am_isR y0 = true) (hs : fm_496 N y0 y1 h = some o) : am_W X (d + 1) 496 0 (am_args 0 [y0, .int y1]) [] h (fun q => q = o) := by
  rw [am_args_R i0, am_args_I]
  exact rg_496_0 y0 y1 h o rfl rfl i0 hs
def fg_498_0 (x0 : Value) (x1 : Int32) (x2 : Int32) (x3 : Int32) (h : am_H) : Option am_O := ((am_vR (am_pG 3088 x0 h)).bind fun v1 => ((am_pS 0 v1 x1 x2 h).bind fun h3 => ((am_vR (am_pG 3089 x0 h3)).bind fun v5 => ((am_pS 0 v5 x1 x3 h3).bind fun h7 => some (.inl (none, h7))))))
theorem rg_498_0 {X : am_X} {d : Nat} {lv : am_LV} (x0 : Value) (x1 : Int32) (x2 : Int32) (x3 : Int32) (h : am_H) (o : am_O) (l0 : lv.lookup 0 = some x0) (l1 : lv.lookup 1 = some (.int x1)) (l2 : lv.lookup 2 = some (.int x2)) (l3 : lv.lookup 3 = some (.int x3)) (i0 : am_isR x0 = true) (hs : fg_498_0 x0 x1 x2 x3 h = some o) : am_W X (d) 498 0 lv [] h (fun q => q = o) := by
  unfold fg_498_0 at hs
  refine aw_vload_n (pc1 := 1) at_498_0 l0 i0 rfl ?_
  obtain ⟨v1, e2, hs1⟩ := am_bind hs
  clear hs
  refine aw_pG (pc1 := 4) at_498_1 (am_vR_s e2).1 rfl ?_
  refine aw_iload_n (pc1 := 5) at_498_4 l1 rfl ?_
  refine aw_iload_n (pc1 := 6) at_498_5 l2 rfl ?_
  obtain ⟨h3, e4, hs2⟩ := am_bind hs1
  clear hs1
  refine aw_pS (pc1 := 7) at_498_6 (Or.inl ⟨rfl, rfl⟩) e4 rfl ?_
  refine aw_vload_n (pc1 := 8) at_498_7 l0 i0 rfl ?_
  obtain ⟨v5, e6, hs3⟩ := am_bind hs2
  clear hs2
  refine aw_pG (pc1 := 11) at_498_8 (am_vR_s e6).1 rfl ?_
  refine aw_iload_n (pc1 := 12) at_498_11 l1 rfl ?_
  refine aw_iload_n (pc1 := 13) at_498_12 l3 rfl ?_
  obtain ⟨h7, e8, hs4⟩ := am_bind hs3
  clear hs3
  refine aw_pS (pc1 := 14) at_498_13 (Or.inl ⟨rfl, rfl⟩) e8 rfl ?_
  cases hs4
  exact aw_vret at_498_14 rt_498 rfl
def fm_498 (y0 : Value) (y1 : Int32) (y2 : Int32) (y3 : Int32) (h : am_H) : Option am_O := fg_498_0 y0 y1 y2 y3 h
theorem rm_498 {X : am_X} {d : Nat} (y0 : Value) (y1 : Int32) (y2 : Int32) (y3 : Int32) (h : am_H) (o : am_O) (i0 : am_isR y0 = true) (hs : fm_498 y0 y1 y2 y3 h = some o) : am_W X (d) 498 0 (am_args 0 [y0, .int y1, .int y2, .int y3]) [] h (fun q => q = o) := by
  rw [am_args_R i0, am_args_I, am_args_I, am_args_I]
  exact rg_498_0 y0 y1 y2 y3 h o rfl rfl rfl rfl i0 hs
def fg_497_348 (N : Nat) (h : am_H) : Option am_O := some (.inl (none, h))
theorem rg_497_348 {X : am_X} {d : Nat} {N : Nat} {lv : am_LV} (h : am_H) (o : am_O) (hs : fg_497_348 N h = some o) : am_W X (d + 1) 497 348 lv [] h (fun q => q = o) := by
  unfold fg_497_348 at hs
  cases hs
  exact aw_vret at_497_348 rt_497 rfl
def fg_497_254 (N : Nat) (x0 : Value) (x1 : Int32) (x3 : Int32) (x5 : Int32) (h : am_H) : Option am_O := (if ¬ x3 = 20 then (fg_497_348 N h) else (if am_pOk 12 x0 h then am_cI true (fm_393 N x0 x1 1 h) (fun v3 h4 => (if am_pOk 12 x0 h4 then am_cI true (fm_393 N x0 x1 2 h4) (fun v7 h8 => ((am_vR (am_pG 3194 x0 h8)).bind fun v10 => ((am_pA 0 v10 v3 h8).bind fun v12 => (if am_pOk 12 x0 h8 then am_cV true (fm_498 x0 x5 18 ((v12 + 1)) h8) (fun h16 => ((am_vR (am_pG 3143 x0 h16)).bind fun v18 => ((am_pS 0 v18 v3 (x5 + 1) h16).bind fun h20 => ((am_vR (am_pG 3194 x0 h20)).bind fun v22 => ((am_pA 0 v22 v3 h20).bind fun v24 => ((am_vR (am_pG 3194 x0 h20)).bind fun v26 => ((am_pA 0 v26 v7 h20).bind fun v28 => (if am_pOk 12 x0 h20 then am_cV true (fm_498 x0 (((x5 + 1) + v24)) 17 v28 h20) (fun h32 => ((am_vR (am_pG 3143 x0 h32)).bind fun v34 => ((am_vR (am_pG 3194 x0 h32)).bind fun v36 => ((am_pA 0 v36 v3 h32).bind fun v38 => ((am_pS 0 v34 v7 ((x5 + 2) + v38) h32).bind fun h40 => (fg_497_348 N h40)))))) else none)))))))) else none)))) else none)) else none))
theorem rg_497_254 {X : am_X} {d : Nat} {N : Nat} {lv : am_LV} (x0 : Value) (x1 : Int32) (x3 : Int32) (x5 : Int32) (h : am_H) (o : am_O) (l0 : lv.lookup 0 = some x0) (l1 : lv.lookup 1 = some (.int x1)) (l3 : lv.lookup 3 = some (.int x3)) (l5 : lv.lookup 5 = some (.int x5)) (i0 : am_isR x0 = true) (hs : fg_497_254 N x0 x1 x3 x5 h = some o) : am_W X (d + 1) 497 254 lv [] h (fun q => q = o) := by
  unfold fg_497_254 at hs
  refine aw_iload_n (pc1 := 255) at_497_254 l3 rfl ?_
  refine aw_bipush (v := 20) (pc1 := 257) at_497_255 (by decide) rfl ?_
  by_cases c1 : ¬ x3 = 20
  · rw [if_pos c1] at hs
    refine aw_icne_t at_497_257 c1 ?_
    exact rg_497_348 h o   hs
  · rw [if_neg c1] at hs
    refine aw_icne_f (pc1 := 260) at_497_257 c1 rfl ?_
    refine aw_vload_n (pc1 := 261) at_497_260 l0 i0 rfl ?_
    refine aw_iload_n (pc1 := 262) at_497_261 l1 rfl ?_
    refine aw_iconst (v := 1) (pc1 := 263) at_497_262 (by decide) rfl ?_
    obtain ⟨z2, hs1⟩ := am_ift hs
    clear hs
    refine aw_call (F := fm_393 N x0 x1 1 h) (t := true) (na := 3) (kd := 1) (as := [x0, (.int x1), (.int 1)]) at_497_263 (am_k3v kb_393) mn_393 mk_393 rfl rfl (am_ok_v mi_393 (am_hl rfl (am_ccR i0 (am_ccI (am_ccI am_cats_0))) rfl) z2) (am_hc am_cats_0 rfl) (fun _ => ⟨rfl, hh_497⟩) (fun o1 hz9 => rm_393 x0 x1 1 h o1 i0 hz9) ?_
    rcases am_cI_s hs1 with ⟨v3, h4, f5, hs2⟩ | hs2
    · clear hs1
      refine Or.inl ⟨_, _, f5, ?_⟩
      show am_W X _ 497 266 _ [(.int v3)] h4 _
      refine aw_istore (lv1 := am_put1 _ 6 _) (pc1 := 268) at_497_266 rfl rfl ?_
      refine aw_vload_n (pc1 := 269) at_497_268 (am_lk1 l0 rfl rfl) i0 rfl ?_
      refine aw_iload_n (pc1 := 270) at_497_269 (am_lk1 l1 rfl rfl) rfl ?_
      refine aw_iconst (v := 2) (pc1 := 271) at_497_270 (by decide) rfl ?_
      obtain ⟨z6, hs3⟩ := am_ift hs2
      clear hs2
      refine aw_call (F := fm_393 N x0 x1 2 h4) (t := true) (na := 3) (kd := 1) (as := [x0, (.int x1), (.int 2)]) at_497_271 (am_k3v kb_393) mn_393 mk_393 rfl rfl (am_ok_v mi_393 (am_hl rfl (am_ccR i0 (am_ccI (am_ccI am_cats_0))) rfl) z6) (am_hc am_cats_0 rfl) (fun _ => ⟨rfl, hh_497⟩) (fun o1 hz9 => rm_393 x0 x1 2 h4 o1 i0 hz9) ?_
      rcases am_cI_s hs3 with ⟨v7, h8, f9, hs4⟩ | hs4
      · clear hs3
        refine Or.inl ⟨_, _, f9, ?_⟩
        show am_W X _ 497 274 _ [(.int v7)] h8 _
        refine aw_istore (lv1 := am_put1 _ 7 _) (pc1 := 276) at_497_274 rfl rfl ?_
        refine aw_vload_n (pc1 := 277) at_497_276 (am_lk1 (am_lk1 l0 rfl rfl) rfl rfl) i0 rfl ?_
        refine aw_iload (pc1 := 279) at_497_277 (am_lk1 (am_lk1 l5 rfl rfl) rfl rfl) rfl ?_
        refine aw_bipush (v := 18) (pc1 := 281) at_497_279 (by decide) rfl ?_
        refine aw_vload_n (pc1 := 282) at_497_281 (am_lk1 (am_lk1 l0 rfl rfl) rfl rfl) i0 rfl ?_
        obtain ⟨v10, e11, hs5⟩ := am_bind hs4
        clear hs4
        refine aw_pG (pc1 := 285) at_497_282 (am_vR_s e11).1 rfl ?_
        refine aw_iload (pc1 := 287) at_497_285 (am_lk1 am_lk0 rfl rfl) rfl ?_
        obtain ⟨v12, e13, hs6⟩ := am_bind hs5
        clear hs5
        refine aw_pA (pc1 := 288) at_497_287 (Or.inl ⟨rfl, rfl⟩) e13 rfl ?_
        refine aw_iconst (v := 1) (pc1 := 289) at_497_288 (by decide) rfl ?_
        refine aw_iadd (v := (v12 + 1)) (pc1 := 290) at_497_289 rfl rfl ?_
        obtain ⟨z14, hs7⟩ := am_ift hs6
        clear hs6
        refine aw_call (F := fm_498 x0 x5 18 ((v12 + 1)) h8) (t := true) (na := 4) (kd := 1) (as := [x0, (.int x5), (.int 18), (.int (v12 + 1))]) at_497_290 (am_k3v kb_498) mn_498 mk_498 rfl rfl (am_ok_v mi_498 (am_hl rfl (am_ccR i0 (am_ccI (am_ccI (am_ccI am_cats_0)))) rfl) z14) (am_hc am_cats_0 rfl) (fun _ => ⟨rfl, hh_497⟩) (fun o1 hz9 => rm_498 x0 x5 18 ((v12 + 1)) h8 o1 i0 hz9) ?_
        rcases am_cV_s hs7 with ⟨h16, f17, hs8⟩ | hs8
        · clear hs7
          refine Or.inl ⟨_, _, f17, ?_⟩
          show am_W X _ 497 293 _ [] h16 _
          refine aw_vload_n (pc1 := 294) at_497_293 (am_lk1 (am_lk1 l0 rfl rfl) rfl rfl) i0 rfl ?_
          obtain ⟨v18, e19, hs9⟩ := am_bind hs8
          clear hs8
          refine aw_pG (pc1 := 297) at_497_294 (am_vR_s e19).1 rfl ?_
          refine aw_iload (pc1 := 299) at_497_297 (am_lk1 am_lk0 rfl rfl) rfl ?_
          refine aw_iload (pc1 := 301) at_497_299 (am_lk1 (am_lk1 l5 rfl rfl) rfl rfl) rfl ?_
          refine aw_iconst (v := 1) (pc1 := 302) at_497_301 (by decide) rfl ?_
          refine aw_iadd (v := (x5 + 1)) (pc1 := 303) at_497_302 rfl rfl ?_
          obtain ⟨h20, e21, hs10⟩ := am_bind hs9
          clear hs9
          refine aw_pS (pc1 := 304) at_497_303 (Or.inl ⟨rfl, rfl⟩) e21 rfl ?_
          refine aw_vload_n (pc1 := 305) at_497_304 (am_lk1 (am_lk1 l0 rfl rfl) rfl rfl) i0 rfl ?_
          refine aw_iload (pc1 := 307) at_497_305 (am_lk1 (am_lk1 l5 rfl rfl) rfl rfl) rfl ?_
          refine aw_iconst (v := 1) (pc1 := 308) at_497_307 (by decide) rfl ?_
          refine aw_iadd (v := (x5 + 1)) (pc1 := 309) at_497_308 rfl rfl ?_
          refine aw_vload_n (pc1 := 310) at_497_309 (am_lk1 (am_lk1 l0 rfl rfl) rfl rfl) i0 rfl ?_
          obtain ⟨v22, e23, hs11⟩ := am_bind hs10
          clear hs10
          refine aw_pG (pc1 := 313) at_497_310 (am_vR_s e23).1 rfl ?_
          refine aw_iload (pc1 := 315) at_497_313 (am_lk1 am_lk0 rfl rfl) rfl ?_
          obtain ⟨v24, e25, hs12⟩ := am_bind hs11
          clear hs11
          refine aw_pA (pc1 := 316) at_497_315 (Or.inl ⟨rfl, rfl⟩) e25 rfl ?_
          refine aw_iadd (v := ((x5 + 1) + v24)) (pc1 := 317) at_497_316 rfl rfl ?_
          refine aw_bipush (v := 17) (pc1 := 319) at_497_317 (by decide) rfl ?_
          refine aw_vload_n (pc1 := 320) at_497_319 (am_lk1 (am_lk1 l0 rfl rfl) rfl rfl) i0 rfl ?_
          obtain ⟨v26, e27, hs13⟩ := am_bind hs12
          clear hs12
          refine aw_pG (pc1 := 323) at_497_320 (am_vR_s e27).1 rfl ?_
          refine aw_iload (pc1 := 325) at_497_323 am_lk0 rfl ?_
          obtain ⟨v28, e29, hs14⟩ := am_bind hs13
          clear hs13
          refine aw_pA (pc1 := 326) at_497_325 (Or.inl ⟨rfl, rfl⟩) e29 rfl ?_
          obtain ⟨z30, hs15⟩ := am_ift hs14
          clear hs14
          refine aw_call (F := fm_498 x0 (((x5 + 1) + v24)) 17 v28 h20) (t := true) (na := 4) (kd := 1) (as := [x0, (.int ((x5 + 1) + v24)), (.int 17), (.int v28)]) at_497_326 (am_k3v kb_498) mn_498 mk_498 rfl rfl (am_ok_v mi_498 (am_hl rfl (am_ccR i0 (am_ccI (am_ccI (am_ccI am_cats_0)))) rfl) z30) (am_hc am_cats_0 rfl) (fun _ => ⟨rfl, hh_497⟩) (fun o1 hz9 => rm_498 x0 (((x5 + 1) + v24)) 17 v28 h20 o1 i0 hz9) ?_
          rcases am_cV_s hs15 with ⟨h32, f33, hs16⟩ | hs16
          · clear hs15
            refine Or.inl ⟨_, _, f33, ?_⟩
            show am_W X _ 497 329 _ [] h32 _
            refine aw_vload_n (pc1 := 330) at_497_329 (am_lk1 (am_lk1 l0 rfl rfl) rfl rfl) i0 rfl ?_
            obtain ⟨v34, e35, hs17⟩ := am_bind hs16
            clear hs16
            refine aw_pG (pc1 := 333) at_497_330 (am_vR_s e35).1 rfl ?_
            refine aw_iload (pc1 := 335) at_497_333 am_lk0 rfl ?_
            refine aw_iload (pc1 := 337) at_497_335 (am_lk1 (am_lk1 l5 rfl rfl) rfl rfl) rfl ?_
            refine aw_iconst (v := 2) (pc1 := 338) at_497_337 (by decide) rfl ?_
            refine aw_iadd (v := (x5 + 2)) (pc1 := 339) at_497_338 rfl rfl ?_
            refine aw_vload_n (pc1 := 340) at_497_339 (am_lk1 (am_lk1 l0 rfl rfl) rfl rfl) i0 rfl ?_
            obtain ⟨v36, e37, hs18⟩ := am_bind hs17
            clear hs17
            refine aw_pG (pc1 := 343) at_497_340 (am_vR_s e37).1 rfl ?_
            refine aw_iload (pc1 := 345) at_497_343 (am_lk1 am_lk0 rfl rfl) rfl ?_
            obtain ⟨v38, e39, hs19⟩ := am_bind hs18
            clear hs18
            refine aw_pA (pc1 := 346) at_497_345 (Or.inl ⟨rfl, rfl⟩) e39 rfl ?_
            refine aw_iadd (v := ((x5 + 2) + v38)) (pc1 := 347) at_497_346 rfl rfl ?_
            obtain ⟨h40, e41, hs20⟩ := am_bind hs19
            clear hs19
            refine aw_pS (pc1 := 348) at_497_347 (Or.inl ⟨rfl, rfl⟩) e41 rfl ?_
            exact rg_497_348 h40 o   hs20
          · clear hs15
            exact Or.inr hs16
        · clear hs7
          exact Or.inr hs8
      · clear hs3
        exact Or.inr hs4
    · clear hs1
      exact Or.inr hs2
def fg_497_193 (N : Nat) (x0 : Value) (x1 : Int32) (x3 : Int32) (x5 : Int32) (h : am_H) : Option am_O := (if ¬ x3 = 18 then (fg_497_254 N x0 x1 x3 x5 h) else (if am_pOk 12 x0 h then am_cI true (fm_393 N x0 x1 1 h) (fun v3 h4 => (if am_pOk 12 x0 h4 then am_cV true (fm_498 x0 x5 18 2 h4) (fun h8 => (if am_pOk 12 x0 h8 then am_cV true (fm_498 x0 ((x5 + 1)) 0 1 h8) (fun h12 => ((am_vR (am_pG 3194 x0 h12)).bind fun v14 => ((am_pA 0 v14 v3 h12).bind fun v16 => (if am_pOk 12 x0 h12 then am_cV true (fm_498 x0 ((x5 + 2)) 17 v16 h12) (fun h20 => ((am_vR (am_pG 3143 x0 h20)).bind fun v22 => ((am_pS 0 v22 v3 (x5 + 3) h20).bind fun h24 => (fg_497_254 N x0 x1 x3 x5 h24)))) else none)))) else none)) else none)) else none))
theorem rg_497_193 {X : am_X} {d : Nat} {N : Nat} {lv : am_LV} (x0 : Value) (x1 : Int32) (x3 : Int32) (x5 : Int32) (h : am_H) (o : am_O) (l0 : lv.lookup 0 = some x0) (l1 : lv.lookup 1 = some (.int x1)) (l3 : lv.lookup 3 = some (.int x3)) (l5 : lv.lookup 5 = some (.int x5)) (i0 : am_isR x0 = true) (hs : fg_497_193 N x0 x1 x3 x5 h = some o) : am_W X (d + 1) 497 193 lv [] h (fun q => q = o) := by
  unfold fg_497_193 at hs
  refine aw_iload_n (pc1 := 194) at_497_193 l3 rfl ?_
  refine aw_bipush (v := 18) (pc1 := 196) at_497_194 (by decide) rfl ?_
  by_cases c1 : ¬ x3 = 18
  · rw [if_pos c1] at hs
    refine aw_icne_t at_497_196 c1 ?_
    exact rg_497_254 x0 x1 x3 x5 h o l0 l1 l3 l5 i0 hs
  · rw [if_neg c1] at hs
    refine aw_icne_f (pc1 := 199) at_497_196 c1 rfl ?_
    refine aw_vload_n (pc1 := 200) at_497_199 l0 i0 rfl ?_
    refine aw_iload_n (pc1 := 201) at_497_200 l1 rfl ?_
    refine aw_iconst (v := 1) (pc1 := 202) at_497_201 (by decide) rfl ?_
    obtain ⟨z2, hs1⟩ := am_ift hs
    clear hs
    refine aw_call (F := fm_393 N x0 x1 1 h) (t := true) (na := 3) (kd := 1) (as := [x0, (.int x1), (.int 1)]) at_497_202 (am_k3v kb_393) mn_393 mk_393 rfl rfl (am_ok_v mi_393 (am_hl rfl (am_ccR i0 (am_ccI (am_ccI am_cats_0))) rfl) z2) (am_hc am_cats_0 rfl) (fun _ => ⟨rfl, hh_497⟩) (fun o1 hz9 => rm_393 x0 x1 1 h o1 i0 hz9) ?_
    rcases am_cI_s hs1 with ⟨v3, h4, f5, hs2⟩ | hs2
    · clear hs1
      refine Or.inl ⟨_, _, f5, ?_⟩
      show am_W X _ 497 205 _ [(.int v3)] h4 _
      refine aw_istore (lv1 := am_put1 _ 6 _) (pc1 := 207) at_497_205 rfl rfl ?_
      refine aw_vload_n (pc1 := 208) at_497_207 (am_lk1 l0 rfl rfl) i0 rfl ?_
      refine aw_iload (pc1 := 210) at_497_208 (am_lk1 l5 rfl rfl) rfl ?_
      refine aw_bipush (v := 18) (pc1 := 212) at_497_210 (by decide) rfl ?_
      refine aw_iconst (v := 2) (pc1 := 213) at_497_212 (by decide) rfl ?_
      obtain ⟨z6, hs3⟩ := am_ift hs2
      clear hs2
      refine aw_call (F := fm_498 x0 x5 18 2 h4) (t := true) (na := 4) (kd := 1) (as := [x0, (.int x5), (.int 18), (.int 2)]) at_497_213 (am_k3v kb_498) mn_498 mk_498 rfl rfl (am_ok_v mi_498 (am_hl rfl (am_ccR i0 (am_ccI (am_ccI (am_ccI am_cats_0)))) rfl) z6) (am_hc am_cats_0 rfl) (fun _ => ⟨rfl, hh_497⟩) (fun o1 hz9 => rm_498 x0 x5 18 2 h4 o1 i0 hz9) ?_
      rcases am_cV_s hs3 with ⟨h8, f9, hs4⟩ | hs4
      · clear hs3
        refine Or.inl ⟨_, _, f9, ?_⟩
        show am_W X _ 497 216 _ [] h8 _
        refine aw_vload_n (pc1 := 217) at_497_216 (am_lk1 l0 rfl rfl) i0 rfl ?_
        refine aw_iload (pc1 := 219) at_497_217 (am_lk1 l5 rfl rfl) rfl ?_
        refine aw_iconst (v := 1) (pc1 := 220) at_497_219 (by decide) rfl ?_
        refine aw_iadd (v := (x5 + 1)) (pc1 := 221) at_497_220 rfl rfl ?_
        refine aw_iconst (v := 0) (pc1 := 222) at_497_221 (by decide) rfl ?_
        refine aw_iconst (v := 1) (pc1 := 223) at_497_222 (by decide) rfl ?_
        obtain ⟨z10, hs5⟩ := am_ift hs4
        clear hs4
        refine aw_call (F := fm_498 x0 ((x5 + 1)) 0 1 h8) (t := true) (na := 4) (kd := 1) (as := [x0, (.int (x5 + 1)), (.int 0), (.int 1)]) at_497_223 (am_k3v kb_498) mn_498 mk_498 rfl rfl (am_ok_v mi_498 (am_hl rfl (am_ccR i0 (am_ccI (am_ccI (am_ccI am_cats_0)))) rfl) z10) (am_hc am_cats_0 rfl) (fun _ => ⟨rfl, hh_497⟩) (fun o1 hz9 => rm_498 x0 ((x5 + 1)) 0 1 h8 o1 i0 hz9) ?_
        rcases am_cV_s hs5 with ⟨h12, f13, hs6⟩ | hs6
        · clear hs5
          refine Or.inl ⟨_, _, f13, ?_⟩
          show am_W X _ 497 226 _ [] h12 _
          refine aw_vload_n (pc1 := 227) at_497_226 (am_lk1 l0 rfl rfl) i0 rfl ?_
          refine aw_iload (pc1 := 229) at_497_227 (am_lk1 l5 rfl rfl) rfl ?_
          refine aw_iconst (v := 2) (pc1 := 230) at_497_229 (by decide) rfl ?_
          refine aw_iadd (v := (x5 + 2)) (pc1 := 231) at_497_230 rfl rfl ?_
          refine aw_bipush (v := 17) (pc1 := 233) at_497_231 (by decide) rfl ?_
          refine aw_vload_n (pc1 := 234) at_497_233 (am_lk1 l0 rfl rfl) i0 rfl ?_
          obtain ⟨v14, e15, hs7⟩ := am_bind hs6
          clear hs6
          refine aw_pG (pc1 := 237) at_497_234 (am_vR_s e15).1 rfl ?_
          refine aw_iload (pc1 := 239) at_497_237 am_lk0 rfl ?_
          obtain ⟨v16, e17, hs8⟩ := am_bind hs7
          clear hs7
          refine aw_pA (pc1 := 240) at_497_239 (Or.inl ⟨rfl, rfl⟩) e17 rfl ?_
          obtain ⟨z18, hs9⟩ := am_ift hs8
          clear hs8
          refine aw_call (F := fm_498 x0 ((x5 + 2)) 17 v16 h12) (t := true) (na := 4) (kd := 1) (as := [x0, (.int (x5 + 2)), (.int 17), (.int v16)]) at_497_240 (am_k3v kb_498) mn_498 mk_498 rfl rfl (am_ok_v mi_498 (am_hl rfl (am_ccR i0 (am_ccI (am_ccI (am_ccI am_cats_0)))) rfl) z18) (am_hc am_cats_0 rfl) (fun _ => ⟨rfl, hh_497⟩) (fun o1 hz9 => rm_498 x0 ((x5 + 2)) 17 v16 h12 o1 i0 hz9) ?_
          rcases am_cV_s hs9 with ⟨h20, f21, hs10⟩ | hs10
          · clear hs9
            refine Or.inl ⟨_, _, f21, ?_⟩
            show am_W X _ 497 243 _ [] h20 _
            refine aw_vload_n (pc1 := 244) at_497_243 (am_lk1 l0 rfl rfl) i0 rfl ?_
            obtain ⟨v22, e23, hs11⟩ := am_bind hs10
            clear hs10
            refine aw_pG (pc1 := 247) at_497_244 (am_vR_s e23).1 rfl ?_
            refine aw_iload (pc1 := 249) at_497_247 am_lk0 rfl ?_
            refine aw_iload (pc1 := 251) at_497_249 (am_lk1 l5 rfl rfl) rfl ?_
            refine aw_iconst (v := 3) (pc1 := 252) at_497_251 (by decide) rfl ?_
            refine aw_iadd (v := (x5 + 3)) (pc1 := 253) at_497_252 rfl rfl ?_
            obtain ⟨h24, e25, hs12⟩ := am_bind hs11
            clear hs11
            refine aw_pS (pc1 := 254) at_497_253 (Or.inl ⟨rfl, rfl⟩) e25 rfl ?_
            exact rg_497_254 x0 x1 x3 x5 h24 o (am_lk1 l0 rfl rfl) (am_lk1 l1 rfl rfl) (am_lk1 l3 rfl rfl) (am_lk1 l5 rfl rfl) i0 hs12
          · clear hs9
            exact Or.inr hs10
        · clear hs5
          exact Or.inr hs6
      · clear hs3
        exact Or.inr hs4
    · clear hs1
      exact Or.inr hs2
def fg_497_132 (N : Nat) (x0 : Value) (x1 : Int32) (x3 : Int32) (x4 : Int32) (x5 : Int32) (h : am_H) : Option am_O := (if ¬ x3 = 17 then (fg_497_193 N x0 x1 x3 x5 h) else (if am_pOk 12 x0 h then am_cI true (fm_393 N x0 x1 1 h) (fun v3 h4 => ((am_vR (am_pG 3194 x0 h4)).bind fun v6 => ((am_pA 0 v6 v3 h4).bind fun v8 => (if am_pOk 12 x0 h4 then am_cV true (fm_498 x0 x5 18 ((v8 + 1)) h4) (fun h12 => ((am_vR (am_pG 3143 x0 h12)).bind fun v14 => ((am_pS 0 v14 v3 (x5 + 1) h12).bind fun h16 => (if am_pOk 12 x0 h16 then am_cV true (fm_498 x0 ((x4 - 1)) 17 1 h16) (fun h20 => (if am_pOk 12 x0 h20 then am_cV true (fm_498 x0 x4 0 0 h20) (fun h24 => (fg_497_193 N x0 x1 x3 x5 h24)) else none)) else none)))) else none)))) else none))
theorem rg_497_132 {X : am_X} {d : Nat} {N : Nat} {lv : am_LV} (x0 : Value) (x1 : Int32) (x3 : Int32) (x4 : Int32) (x5 : Int32) (h : am_H) (o : am_O) (l0 : lv.lookup 0 = some x0) (l1 : lv.lookup 1 = some (.int x1)) (l3 : lv.lookup 3 = some (.int x3)) (l4 : lv.lookup 4 = some (.int x4)) (l5 : lv.lookup 5 = some (.int x5)) (i0 : am_isR x0 = true) (hs : fg_497_132 N x0 x1 x3 x4 x5 h = some o) : am_W X (d + 1) 497 132 lv [] h (fun q => q = o) := by
  unfold fg_497_132 at hs
  refine aw_iload_n (pc1 := 133) at_497_132 l3 rfl ?_
  refine aw_bipush (v := 17) (pc1 := 135) at_497_133 (by decide) rfl ?_
  by_cases c1 : ¬ x3 = 17
  · rw [if_pos c1] at hs
    refine aw_icne_t at_497_135 c1 ?_
    exact rg_497_193 x0 x1 x3 x5 h o l0 l1 l3 l5 i0 hs
  · rw [if_neg c1] at hs
    refine aw_icne_f (pc1 := 138) at_497_135 c1 rfl ?_
    refine aw_vload_n (pc1 := 139) at_497_138 l0 i0 rfl ?_
    refine aw_iload_n (pc1 := 140) at_497_139 l1 rfl ?_
    refine aw_iconst (v := 1) (pc1 := 141) at_497_140 (by decide) rfl ?_
    obtain ⟨z2, hs1⟩ := am_ift hs
    clear hs
    refine aw_call (F := fm_393 N x0 x1 1 h) (t := true) (na := 3) (kd := 1) (as := [x0, (.int x1), (.int 1)]) at_497_141 (am_k3v kb_393) mn_393 mk_393 rfl rfl (am_ok_v mi_393 (am_hl rfl (am_ccR i0 (am_ccI (am_ccI am_cats_0))) rfl) z2) (am_hc am_cats_0 rfl) (fun _ => ⟨rfl, hh_497⟩) (fun o1 hz9 => rm_393 x0 x1 1 h o1 i0 hz9) ?_
    rcases am_cI_s hs1 with ⟨v3, h4, f5, hs2⟩ | hs2
    · clear hs1
      refine Or.inl ⟨_, _, f5, ?_⟩
      show am_W X _ 497 144 _ [(.int v3)] h4 _
      refine aw_istore (lv1 := am_put1 _ 6 _) (pc1 := 146) at_497_144 rfl rfl ?_
      refine aw_vload_n (pc1 := 147) at_497_146 (am_lk1 l0 rfl rfl) i0 rfl ?_
      refine aw_iload (pc1 := 149) at_497_147 (am_lk1 l5 rfl rfl) rfl ?_
      refine aw_bipush (v := 18) (pc1 := 151) at_497_149 (by decide) rfl ?_
      refine aw_vload_n (pc1 := 152) at_497_151 (am_lk1 l0 rfl rfl) i0 rfl ?_
      obtain ⟨v6, e7, hs3⟩ := am_bind hs2
      clear hs2
      refine aw_pG (pc1 := 155) at_497_152 (am_vR_s e7).1 rfl ?_
      refine aw_iload (pc1 := 157) at_497_155 am_lk0 rfl ?_
      obtain ⟨v8, e9, hs4⟩ := am_bind hs3
      clear hs3
      refine aw_pA (pc1 := 158) at_497_157 (Or.inl ⟨rfl, rfl⟩) e9 rfl ?_
      refine aw_iconst (v := 1) (pc1 := 159) at_497_158 (by decide) rfl ?_
      refine aw_iadd (v := (v8 + 1)) (pc1 := 160) at_497_159 rfl rfl ?_
      obtain ⟨z10, hs5⟩ := am_ift hs4
      clear hs4
      refine aw_call (F := fm_498 x0 x5 18 ((v8 + 1)) h4) (t := true) (na := 4) (kd := 1) (as := [x0, (.int x5), (.int 18), (.int (v8 + 1))]) at_497_160 (am_k3v kb_498) mn_498 mk_498 rfl rfl (am_ok_v mi_498 (am_hl rfl (am_ccR i0 (am_ccI (am_ccI (am_ccI am_cats_0)))) rfl) z10) (am_hc am_cats_0 rfl) (fun _ => ⟨rfl, hh_497⟩) (fun o1 hz9 => rm_498 x0 x5 18 ((v8 + 1)) h4 o1 i0 hz9) ?_
      rcases am_cV_s hs5 with ⟨h12, f13, hs6⟩ | hs6
      · clear hs5
        refine Or.inl ⟨_, _, f13, ?_⟩
        show am_W X _ 497 163 _ [] h12 _
        refine aw_vload_n (pc1 := 164) at_497_163 (am_lk1 l0 rfl rfl) i0 rfl ?_
        obtain ⟨v14, e15, hs7⟩ := am_bind hs6
        clear hs6
        refine aw_pG (pc1 := 167) at_497_164 (am_vR_s e15).1 rfl ?_
        refine aw_iload (pc1 := 169) at_497_167 am_lk0 rfl ?_
        refine aw_iload (pc1 := 171) at_497_169 (am_lk1 l5 rfl rfl) rfl ?_
        refine aw_iconst (v := 1) (pc1 := 172) at_497_171 (by decide) rfl ?_
        refine aw_iadd (v := (x5 + 1)) (pc1 := 173) at_497_172 rfl rfl ?_
        obtain ⟨h16, e17, hs8⟩ := am_bind hs7
        clear hs7
        refine aw_pS (pc1 := 174) at_497_173 (Or.inl ⟨rfl, rfl⟩) e17 rfl ?_
        refine aw_vload_n (pc1 := 175) at_497_174 (am_lk1 l0 rfl rfl) i0 rfl ?_
        refine aw_iload (pc1 := 177) at_497_175 (am_lk1 l4 rfl rfl) rfl ?_
        refine aw_iconst (v := 1) (pc1 := 178) at_497_177 (by decide) rfl ?_
        refine aw_isub (v := (x4 - 1)) (pc1 := 179) at_497_178 rfl rfl ?_
        refine aw_bipush (v := 17) (pc1 := 181) at_497_179 (by decide) rfl ?_
        refine aw_iconst (v := 1) (pc1 := 182) at_497_181 (by decide) rfl ?_
        obtain ⟨z18, hs9⟩ := am_ift hs8
        clear hs8
        refine aw_call (F := fm_498 x0 ((x4 - 1)) 17 1 h16) (t := true) (na := 4) (kd := 1) (as := [x0, (.int (x4 - 1)), (.int 17), (.int 1)]) at_497_182 (am_k3v kb_498) mn_498 mk_498 rfl rfl (am_ok_v mi_498 (am_hl rfl (am_ccR i0 (am_ccI (am_ccI (am_ccI am_cats_0)))) rfl) z18) (am_hc am_cats_0 rfl) (fun _ => ⟨rfl, hh_497⟩) (fun o1 hz9 => rm_498 x0 ((x4 - 1)) 17 1 h16 o1 i0 hz9) ?_
        rcases am_cV_s hs9 with ⟨h20, f21, hs10⟩ | hs10
        · clear hs9
          refine Or.inl ⟨_, _, f21, ?_⟩
          show am_W X _ 497 185 _ [] h20 _
          refine aw_vload_n (pc1 := 186) at_497_185 (am_lk1 l0 rfl rfl) i0 rfl ?_
          refine aw_iload (pc1 := 188) at_497_186 (am_lk1 l4 rfl rfl) rfl ?_
          refine aw_iconst (v := 0) (pc1 := 189) at_497_188 (by decide) rfl ?_
          refine aw_iconst (v := 0) (pc1 := 190) at_497_189 (by decide) rfl ?_
          obtain ⟨z22, hs11⟩ := am_ift hs10
          clear hs10
          refine aw_call (F := fm_498 x0 x4 0 0 h20) (t := true) (na := 4) (kd := 1) (as := [x0, (.int x4), (.int 0), (.int 0)]) at_497_190 (am_k3v kb_498) mn_498 mk_498 rfl rfl (am_ok_v mi_498 (am_hl rfl (am_ccR i0 (am_ccI (am_ccI (am_ccI am_cats_0)))) rfl) z22) (am_hc am_cats_0 rfl) (fun _ => ⟨rfl, hh_497⟩) (fun o1 hz9 => rm_498 x0 x4 0 0 h20 o1 i0 hz9) ?_
          rcases am_cV_s hs11 with ⟨h24, f25, hs12⟩ | hs12
          · clear hs11
            refine Or.inl ⟨_, _, f25, ?_⟩
            show am_W X _ 497 193 _ [] h24 _
            exact rg_497_193 x0 x1 x3 x5 h24 o (am_lk1 l0 rfl rfl) (am_lk1 l1 rfl rfl) (am_lk1 l3 rfl rfl) (am_lk1 l5 rfl rfl) i0 hs12
          · clear hs11
            exact Or.inr hs12
        · clear hs9
          exact Or.inr hs10
      · clear hs5
        exact Or.inr hs6
    · clear hs1
      exact Or.inr hs2
def fg_497_97 (N : Nat) (x0 : Value) (x1 : Int32) (x3 : Int32) (x4 : Int32) (x5 : Int32) (h : am_H) : Option am_O := (if x3 ≤ 9 then (fg_497_132 N x0 x1 x3 x4 x5 h) else (if 17 ≤ x3 then (fg_497_132 N x0 x1 x3 x4 x5 h) else ((am_vR (am_pG 3143 x0 h)).bind fun v3 => (if am_pOk 12 x0 h then am_cI true (fm_393 N x0 x1 1 h) (fun v6 h7 => ((am_pS 0 v3 v6 x5 h7).bind fun h9 => (if am_pOk 12 x0 h9 then am_cV true (fm_498 x0 x4 ((x3 - 3)) 0 h9) (fun h13 => (fg_497_132 N x0 x1 x3 x4 x5 h13)) else none))) else none))))
theorem rg_497_97 {X : am_X} {d : Nat} {N : Nat} {lv : am_LV} (x0 : Value) (x1 : Int32) (x3 : Int32) (x4 : Int32) (x5 : Int32) (h : am_H) (o : am_O) (l0 : lv.lookup 0 = some x0) (l1 : lv.lookup 1 = some (.int x1)) (l3 : lv.lookup 3 = some (.int x3)) (l4 : lv.lookup 4 = some (.int x4)) (l5 : lv.lookup 5 = some (.int x5)) (i0 : am_isR x0 = true) (hs : fg_497_97 N x0 x1 x3 x4 x5 h = some o) : am_W X (d + 1) 497 97 lv [] h (fun q => q = o) := by
  unfold fg_497_97 at hs
  refine aw_iload_n (pc1 := 98) at_497_97 l3 rfl ?_
  refine aw_bipush (v := 9) (pc1 := 100) at_497_98 (by decide) rfl ?_
  by_cases c1 : x3 ≤ 9
  · rw [if_pos c1] at hs
    refine aw_icle_t at_497_100 c1 ?_
    exact rg_497_132 x0 x1 x3 x4 x5 h o l0 l1 l3 l4 l5 i0 hs
  · rw [if_neg c1] at hs
    refine aw_icle_f (pc1 := 103) at_497_100 c1 rfl ?_
    refine aw_iload_n (pc1 := 104) at_497_103 l3 rfl ?_
    refine aw_bipush (v := 17) (pc1 := 106) at_497_104 (by decide) rfl ?_
    by_cases c2 : 17 ≤ x3
    · rw [if_pos c2] at hs
      refine aw_icge_t at_497_106 c2 ?_
      exact rg_497_132 x0 x1 x3 x4 x5 h o l0 l1 l3 l4 l5 i0 hs
    · rw [if_neg c2] at hs
      refine aw_icge_f (pc1 := 109) at_497_106 c2 rfl ?_
      refine aw_vload_n (pc1 := 110) at_497_109 l0 i0 rfl ?_
      obtain ⟨v3, e4, hs1⟩ := am_bind hs
      clear hs
      refine aw_pG (pc1 := 113) at_497_110 (am_vR_s e4).1 rfl ?_
      refine aw_vload_n (pc1 := 114) at_497_113 l0 i0 rfl ?_
      refine aw_iload_n (pc1 := 115) at_497_114 l1 rfl ?_
      refine aw_iconst (v := 1) (pc1 := 116) at_497_115 (by decide) rfl ?_
      obtain ⟨z5, hs2⟩ := am_ift hs1
      clear hs1
      refine aw_call (F := fm_393 N x0 x1 1 h) (t := true) (na := 3) (kd := 1) (as := [x0, (.int x1), (.int 1)]) at_497_116 (am_k3v kb_393) mn_393 mk_393 rfl rfl (am_ok_v mi_393 (am_hl rfl (am_ccR i0 (am_ccI (am_ccI am_cats_0))) rfl) z5) (am_hc (am_ccR (am_vR_s e4).2 am_cats_0) rfl) (fun _ => ⟨rfl, hh_497⟩) (fun o1 hz9 => rm_393 x0 x1 1 h o1 i0 hz9) ?_
      rcases am_cI_s hs2 with ⟨v6, h7, f8, hs3⟩ | hs3
      · clear hs2
        refine Or.inl ⟨_, _, f8, ?_⟩
        show am_W X _ 497 119 _ [(.int v6), v3] h7 _
        refine aw_iload (pc1 := 121) at_497_119 l5 rfl ?_
        obtain ⟨h9, e10, hs4⟩ := am_bind hs3
        clear hs3
        refine aw_pS (pc1 := 122) at_497_121 (Or.inl ⟨rfl, rfl⟩) e10 rfl ?_
        refine aw_vload_n (pc1 := 123) at_497_122 l0 i0 rfl ?_
        refine aw_iload (pc1 := 125) at_497_123 l4 rfl ?_
        refine aw_iload_n (pc1 := 126) at_497_125 l3 rfl ?_
        refine aw_iconst (v := 3) (pc1 := 127) at_497_126 (by decide) rfl ?_
        refine aw_isub (v := (x3 - 3)) (pc1 := 128) at_497_127 rfl rfl ?_
        refine aw_iconst (v := 0) (pc1 := 129) at_497_128 (by decide) rfl ?_
        obtain ⟨z11, hs5⟩ := am_ift hs4
        clear hs4
        refine aw_call (F := fm_498 x0 x4 ((x3 - 3)) 0 h9) (t := true) (na := 4) (kd := 1) (as := [x0, (.int x4), (.int (x3 - 3)), (.int 0)]) at_497_129 (am_k3v kb_498) mn_498 mk_498 rfl rfl (am_ok_v mi_498 (am_hl rfl (am_ccR i0 (am_ccI (am_ccI (am_ccI am_cats_0)))) rfl) z11) (am_hc am_cats_0 rfl) (fun _ => ⟨rfl, hh_497⟩) (fun o1 hz9 => rm_498 x0 x4 ((x3 - 3)) 0 h9 o1 i0 hz9) ?_
        rcases am_cV_s hs5 with ⟨h13, f14, hs6⟩ | hs6
        · clear hs5
          refine Or.inl ⟨_, _, f14, ?_⟩
          show am_W X _ 497 132 _ [] h13 _
          exact rg_497_132 x0 x1 x3 x4 x5 h13 o l0 l1 l3 l4 l5 i0 hs6
        · clear hs5
          exact Or.inr hs6
      · clear hs2
        exact Or.inr hs3
def fg_497_74 (N : Nat) (x0 : Value) (x1 : Int32) (x3 : Int32) (x4 : Int32) (x5 : Int32) (h : am_H) : Option am_O := (if ¬ x3 = 9 then (fg_497_97 N x0 x1 x3 x4 x5 h) else (if am_pOk 12 x0 h then am_cV true (fm_498 x0 x5 0 0 h) (fun h4 => (if am_pOk 12 x0 h4 then am_cV true (fm_498 x0 x4 13 0 h4) (fun h8 => (fg_497_97 N x0 x1 x3 x4 x5 h8)) else none)) else none))
theorem rg_497_74 {X : am_X} {d : Nat} {N : Nat} {lv : am_LV} (x0 : Value) (x1 : Int32) (x3 : Int32) (x4 : Int32) (x5 : Int32) (h : am_H) (o : am_O) (l0 : lv.lookup 0 = some x0) (l1 : lv.lookup 1 = some (.int x1)) (l3 : lv.lookup 3 = some (.int x3)) (l4 : lv.lookup 4 = some (.int x4)) (l5 : lv.lookup 5 = some (.int x5)) (i0 : am_isR x0 = true) (hs : fg_497_74 N x0 x1 x3 x4 x5 h = some o) : am_W X (d + 1) 497 74 lv [] h (fun q => q = o) := by
  unfold fg_497_74 at hs
  refine aw_iload_n (pc1 := 75) at_497_74 l3 rfl ?_
  refine aw_bipush (v := 9) (pc1 := 77) at_497_75 (by decide) rfl ?_
  by_cases c1 : ¬ x3 = 9
  · rw [if_pos c1] at hs
    refine aw_icne_t at_497_77 c1 ?_
    exact rg_497_97 x0 x1 x3 x4 x5 h o l0 l1 l3 l4 l5 i0 hs
  · rw [if_neg c1] at hs
    refine aw_icne_f (pc1 := 80) at_497_77 c1 rfl ?_
    refine aw_vload_n (pc1 := 81) at_497_80 l0 i0 rfl ?_
    refine aw_iload (pc1 := 83) at_497_81 l5 rfl ?_
    refine aw_iconst (v := 0) (pc1 := 84) at_497_83 (by decide) rfl ?_
    refine aw_iconst (v := 0) (pc1 := 85) at_497_84 (by decide) rfl ?_
    obtain ⟨z2, hs1⟩ := am_ift hs
    clear hs
    refine aw_call (F := fm_498 x0 x5 0 0 h) (t := true) (na := 4) (kd := 1) (as := [x0, (.int x5), (.int 0), (.int 0)]) at_497_85 (am_k3v kb_498) mn_498 mk_498 rfl rfl (am_ok_v mi_498 (am_hl rfl (am_ccR i0 (am_ccI (am_ccI (am_ccI am_cats_0)))) rfl) z2) (am_hc am_cats_0 rfl) (fun _ => ⟨rfl, hh_497⟩) (fun o1 hz9 => rm_498 x0 x5 0 0 h o1 i0 hz9) ?_
    rcases am_cV_s hs1 with ⟨h4, f5, hs2⟩ | hs2
    · clear hs1
      refine Or.inl ⟨_, _, f5, ?_⟩
      show am_W X _ 497 88 _ [] h4 _
      refine aw_vload_n (pc1 := 89) at_497_88 l0 i0 rfl ?_
      refine aw_iload (pc1 := 91) at_497_89 l4 rfl ?_
      refine aw_bipush (v := 13) (pc1 := 93) at_497_91 (by decide) rfl ?_
      refine aw_iconst (v := 0) (pc1 := 94) at_497_93 (by decide) rfl ?_
      obtain ⟨z6, hs3⟩ := am_ift hs2
      clear hs2
      refine aw_call (F := fm_498 x0 x4 13 0 h4) (t := true) (na := 4) (kd := 1) (as := [x0, (.int x4), (.int 13), (.int 0)]) at_497_94 (am_k3v kb_498) mn_498 mk_498 rfl rfl (am_ok_v mi_498 (am_hl rfl (am_ccR i0 (am_ccI (am_ccI (am_ccI am_cats_0)))) rfl) z6) (am_hc am_cats_0 rfl) (fun _ => ⟨rfl, hh_497⟩) (fun o1 hz9 => rm_498 x0 x4 13 0 h4 o1 i0 hz9) ?_
      rcases am_cV_s hs3 with ⟨h8, f9, hs4⟩ | hs4
      · clear hs3
        refine Or.inl ⟨_, _, f9, ?_⟩
        show am_W X _ 497 97 _ [] h8 _
        exact rg_497_97 x0 x1 x3 x4 x5 h8 o l0 l1 l3 l4 l5 i0 hs4
      · clear hs3
        exact Or.inr hs4
    · clear hs1
      exact Or.inr hs2
def fg_497_0 (N : Nat) (x0 : Value) (x1 : Int32) (x2 : Int32) (h : am_H) : Option am_O := ((am_vR (am_pG 3093 x0 h)).bind fun v1 => ((am_pA 0 v1 x1 h).bind fun v3 => ((am_vR (am_pG 3194 x0 h)).bind fun v5 => ((am_pA 0 v5 x1 h).bind fun v7 => (if 5 ≤ v3 then ((am_vR (am_pG 3143 x0 h)).bind fun v10 => ((am_pS 0 v10 (x1 + 1) x2 h).bind fun h12 => ((am_vR (am_pG 3194 x0 h12)).bind fun v14 => ((am_pA 0 v14 (x1 + 1) h12).bind fun v16 => (if 9 ≤ v3 then (fg_497_74 N x0 x1 v3 (((x2 + v7) - 1)) ((x2 + v16)) h12) else (if am_pOk 12 x0 h12 then am_cV true (fm_498 x0 (((x2 + v7) - 1)) ((v3 - 2)) 0 h12) (fun h21 => (fg_497_74 N x0 x1 v3 (((x2 + v7) - 1)) ((x2 + v16)) h21)) else none)))))) else ((am_vR (am_pG 3094 x0 h)).bind fun v23 => ((am_pA 0 v23 x1 h).bind fun v25 => (if am_pOk 12 x0 h then am_cV true (fm_498 x0 x2 v3 v25 h) (fun h29 => some (.inl (none, h29))) else none))))))))
theorem rg_497_0 {X : am_X} {d : Nat} {N : Nat} {lv : am_LV} (x0 : Value) (x1 : Int32) (x2 : Int32) (h : am_H) (o : am_O) (l0 : lv.lookup 0 = some x0) (l1 : lv.lookup 1 = some (.int x1)) (l2 : lv.lookup 2 = some (.int x2)) (i0 : am_isR x0 = true) (hs : fg_497_0 N x0 x1 x2 h = some o) : am_W X (d + 1) 497 0 lv [] h (fun q => q = o) := by
  unfold fg_497_0 at hs
  refine aw_vload_n (pc1 := 1) at_497_0 l0 i0 rfl ?_
  obtain ⟨v1, e2, hs1⟩ := am_bind hs
  clear hs
  refine aw_pG (pc1 := 4) at_497_1 (am_vR_s e2).1 rfl ?_
  refine aw_iload_n (pc1 := 5) at_497_4 l1 rfl ?_
  obtain ⟨v3, e4, hs2⟩ := am_bind hs1
  clear hs1
  refine aw_pA (pc1 := 6) at_497_5 (Or.inl ⟨rfl, rfl⟩) e4 rfl ?_
  refine aw_istore_n (lv1 := am_put1 _ 3 _) (pc1 := 7) at_497_6 rfl rfl ?_
  refine aw_iload_n (pc1 := 8) at_497_7 (am_lk1 l2 rfl rfl) rfl ?_
  refine aw_vload_n (pc1 := 9) at_497_8 (am_lk1 l0 rfl rfl) i0 rfl ?_
  obtain ⟨v5, e6, hs3⟩ := am_bind hs2
  clear hs2
  refine aw_pG (pc1 := 12) at_497_9 (am_vR_s e6).1 rfl ?_
  refine aw_iload_n (pc1 := 13) at_497_12 (am_lk1 l1 rfl rfl) rfl ?_
  obtain ⟨v7, e8, hs4⟩ := am_bind hs3
  clear hs3
  refine aw_pA (pc1 := 14) at_497_13 (Or.inl ⟨rfl, rfl⟩) e8 rfl ?_
  refine aw_iadd (v := (x2 + v7)) (pc1 := 15) at_497_14 rfl rfl ?_
  refine aw_iconst (v := 1) (pc1 := 16) at_497_15 (by decide) rfl ?_
  refine aw_isub (v := ((x2 + v7) - 1)) (pc1 := 17) at_497_16 rfl rfl ?_
  refine aw_istore (lv1 := am_put1 _ 4 _) (pc1 := 19) at_497_17 rfl rfl ?_
  refine aw_iload_n (pc1 := 20) at_497_19 (am_lk1 am_lk0 rfl rfl) rfl ?_
  refine aw_iconst (v := 5) (pc1 := 21) at_497_20 (by decide) rfl ?_
  by_cases c9 : 5 ≤ v3
  · rw [if_pos c9] at hs4
    refine aw_icge_t at_497_21 c9 ?_
    refine aw_vload_n (pc1 := 38) at_497_37 (am_lk1 (am_lk1 l0 rfl rfl) rfl rfl) i0 rfl ?_
    obtain ⟨v10, e11, hs5⟩ := am_bind hs4
    clear hs4
    refine aw_pG (pc1 := 41) at_497_38 (am_vR_s e11).1 rfl ?_
    refine aw_iload_n (pc1 := 42) at_497_41 (am_lk1 (am_lk1 l1 rfl rfl) rfl rfl) rfl ?_
    refine aw_iconst (v := 1) (pc1 := 43) at_497_42 (by decide) rfl ?_
    refine aw_iadd (v := (x1 + 1)) (pc1 := 44) at_497_43 rfl rfl ?_
    refine aw_iload_n (pc1 := 45) at_497_44 (am_lk1 (am_lk1 l2 rfl rfl) rfl rfl) rfl ?_
    obtain ⟨h12, e13, hs6⟩ := am_bind hs5
    clear hs5
    refine aw_pS (pc1 := 46) at_497_45 (Or.inl ⟨rfl, rfl⟩) e13 rfl ?_
    refine aw_iload_n (pc1 := 47) at_497_46 (am_lk1 (am_lk1 l2 rfl rfl) rfl rfl) rfl ?_
    refine aw_vload_n (pc1 := 48) at_497_47 (am_lk1 (am_lk1 l0 rfl rfl) rfl rfl) i0 rfl ?_
    obtain ⟨v14, e15, hs7⟩ := am_bind hs6
    clear hs6
    refine aw_pG (pc1 := 51) at_497_48 (am_vR_s e15).1 rfl ?_
    refine aw_iload_n (pc1 := 52) at_497_51 (am_lk1 (am_lk1 l1 rfl rfl) rfl rfl) rfl ?_
    refine aw_iconst (v := 1) (pc1 := 53) at_497_52 (by decide) rfl ?_
    refine aw_iadd (v := (x1 + 1)) (pc1 := 54) at_497_53 rfl rfl ?_
    obtain ⟨v16, e17, hs8⟩ := am_bind hs7
    clear hs7
    refine aw_pA (pc1 := 55) at_497_54 (Or.inl ⟨rfl, rfl⟩) e17 rfl ?_
    refine aw_iadd (v := (x2 + v16)) (pc1 := 56) at_497_55 rfl rfl ?_
    refine aw_istore (lv1 := am_put1 _ 5 _) (pc1 := 58) at_497_56 rfl rfl ?_
    refine aw_iload_n (pc1 := 59) at_497_58 (am_lk1 (am_lk1 am_lk0 rfl rfl) rfl rfl) rfl ?_
    refine aw_bipush (v := 9) (pc1 := 61) at_497_59 (by decide) rfl ?_
    by_cases c18 : 9 ≤ v3
    · rw [if_pos c18] at hs8
      refine aw_icge_t at_497_61 c18 ?_
      exact rg_497_74 x0 x1 v3 (((x2 + v7) - 1)) ((x2 + v16)) h12 o (am_lk1 (am_lk1 (am_lk1 l0 rfl rfl) rfl rfl) rfl rfl) (am_lk1 (am_lk1 (am_lk1 l1 rfl rfl) rfl rfl) rfl rfl) (am_lk1 (am_lk1 am_lk0 rfl rfl) rfl rfl) (am_lk1 am_lk0 rfl rfl) am_lk0 i0 hs8
    · rw [if_neg c18] at hs8
      refine aw_icge_f (pc1 := 64) at_497_61 c18 rfl ?_
      refine aw_vload_n (pc1 := 65) at_497_64 (am_lk1 (am_lk1 (am_lk1 l0 rfl rfl) rfl rfl) rfl rfl) i0 rfl ?_
      refine aw_iload (pc1 := 67) at_497_65 (am_lk1 am_lk0 rfl rfl) rfl ?_
      refine aw_iload_n (pc1 := 68) at_497_67 (am_lk1 (am_lk1 am_lk0 rfl rfl) rfl rfl) rfl ?_
      refine aw_iconst (v := 2) (pc1 := 69) at_497_68 (by decide) rfl ?_
      refine aw_isub (v := (v3 - 2)) (pc1 := 70) at_497_69 rfl rfl ?_
      refine aw_iconst (v := 0) (pc1 := 71) at_497_70 (by decide) rfl ?_
      obtain ⟨z19, hs9⟩ := am_ift hs8
      clear hs8
      refine aw_call (F := fm_498 x0 (((x2 + v7) - 1)) ((v3 - 2)) 0 h12) (t := true) (na := 4) (kd := 1) (as := [x0, (.int ((x2 + v7) - 1)), (.int (v3 - 2)), (.int 0)]) at_497_71 (am_k3v kb_498) mn_498 mk_498 rfl rfl (am_ok_v mi_498 (am_hl rfl (am_ccR i0 (am_ccI (am_ccI (am_ccI am_cats_0)))) rfl) z19) (am_hc am_cats_0 rfl) (fun _ => ⟨rfl, hh_497⟩) (fun o1 hz9 => rm_498 x0 (((x2 + v7) - 1)) ((v3 - 2)) 0 h12 o1 i0 hz9) ?_
      rcases am_cV_s hs9 with ⟨h21, f22, hs10⟩ | hs10
      · clear hs9
        refine Or.inl ⟨_, _, f22, ?_⟩
        show am_W X _ 497 74 _ [] h21 _
        exact rg_497_74 x0 x1 v3 (((x2 + v7) - 1)) ((x2 + v16)) h21 o (am_lk1 (am_lk1 (am_lk1 l0 rfl rfl) rfl rfl) rfl rfl) (am_lk1 (am_lk1 (am_lk1 l1 rfl rfl) rfl rfl) rfl rfl) (am_lk1 (am_lk1 am_lk0 rfl rfl) rfl rfl) (am_lk1 am_lk0 rfl rfl) am_lk0 i0 hs10
      · clear hs9
        exact Or.inr hs10
  · rw [if_neg c9] at hs4
    refine aw_icge_f (pc1 := 24) at_497_21 c9 rfl ?_
    refine aw_vload_n (pc1 := 25) at_497_24 (am_lk1 (am_lk1 l0 rfl rfl) rfl rfl) i0 rfl ?_
    refine aw_iload_n (pc1 := 26) at_497_25 (am_lk1 (am_lk1 l2 rfl rfl) rfl rfl) rfl ?_
    refine aw_iload_n (pc1 := 27) at_497_26 (am_lk1 am_lk0 rfl rfl) rfl ?_
    refine aw_vload_n (pc1 := 28) at_497_27 (am_lk1 (am_lk1 l0 rfl rfl) rfl rfl) i0 rfl ?_
    obtain ⟨v23, e24, hs11⟩ := am_bind hs4
    clear hs4
    refine aw_pG (pc1 := 31) at_497_28 (am_vR_s e24).1 rfl ?_
    refine aw_iload_n (pc1 := 32) at_497_31 (am_lk1 (am_lk1 l1 rfl rfl) rfl rfl) rfl ?_
    obtain ⟨v25, e26, hs12⟩ := am_bind hs11
    clear hs11
    refine aw_pA (pc1 := 33) at_497_32 (Or.inl ⟨rfl, rfl⟩) e26 rfl ?_
    obtain ⟨z27, hs13⟩ := am_ift hs12
    clear hs12
    refine aw_call (F := fm_498 x0 x2 v3 v25 h) (t := true) (na := 4) (kd := 1) (as := [x0, (.int x2), (.int v3), (.int v25)]) at_497_33 (am_k3v kb_498) mn_498 mk_498 rfl rfl (am_ok_v mi_498 (am_hl rfl (am_ccR i0 (am_ccI (am_ccI (am_ccI am_cats_0)))) rfl) z27) (am_hc am_cats_0 rfl) (fun _ => ⟨rfl, hh_497⟩) (fun o1 hz9 => rm_498 x0 x2 v3 v25 h o1 i0 hz9) ?_
    rcases am_cV_s hs13 with ⟨h29, f30, hs14⟩ | hs14
    · clear hs13
      refine Or.inl ⟨_, _, f30, ?_⟩
      show am_W X _ 497 36 _ [] h29 _
      cases hs14
      exact aw_vret at_497_36 rt_497 rfl
    · clear hs13
      exact Or.inr hs14
def fm_497 (N : Nat) (y0 : Value) (y1 : Int32) (y2 : Int32) (h : am_H) : Option am_O := fg_497_0 N y0 y1 y2 h
theorem rm_497 {X : am_X} {d : Nat} {N : Nat} (y0 : Value) (y1 : Int32) (y2 : Int32) (h : am_H) (o : am_O) (i0 : am_isR y0 = true) (hs : fm_497 N y0 y1 y2 h = some o) : am_W X (d + 1) 497 0 (am_args 0 [y0, .int y1, .int y2]) [] h (fun q => q = o) := by
  rw [am_args_R i0, am_args_I, am_args_I]
  exact rg_497_0 y0 y1 y2 h o rfl rfl rfl i0 hs
def fg_494_140 (N : Nat) (s0 : Int32) (h : am_H) : Option am_O := (if am_rfit (some FieldType.boolean) s0 then some (.inl (some (.int s0), h)) else none)
theorem rg_494_140 {X : am_X} {d : Nat} {N : Nat} {lv : am_LV} (s0 : Int32) (h : am_H) (o : am_O) (hs : fg_494_140 N s0 h = some o) : am_W X (d + 3) 494 140 lv [(.int s0)] h (fun q => q = o) := by
  unfold fg_494_140 at hs
  obtain ⟨z1, hs1⟩ := am_ift hs
  clear hs
  cases hs1
  exact aw_iret at_494_140 (by rw [rt_494]; exact z1) rfl
def fg_494_102 (N : Nat) : Nat → Value → Int32 → am_H → Option am_O
  | 0 => fun _ _ _ => none
  | K + 1 => fun x0 x1 h => ((am_vI (am_pG 3090 x0 h)).bind fun v1 => (if v1 ≤ x1 then (if am_pOk 12 x0 h then am_cI true (fm_347 N x0 h) (fun v5 h6 => (if ¬ v5 = (-1) then (fg_494_140 N 0 h6) else (fg_494_140 N 1 h6))) else none) else ((am_vR (am_pG 3143 x0 h)).bind fun v9 => ((am_pA 0 v9 x1 h).bind fun v11 => (if am_pOk 12 x0 h then am_cV true (fm_497 N x0 x1 v11 h) (fun h15 => (fg_494_102 N K x0 ((x1 + 1)) h15)) else none)))))
theorem rg_494_102 {X : am_X} {d : Nat} {N : Nat} : ∀ (K : Nat) (x0 : Value) (x1 : Int32) (h : am_H) (o : am_O), fg_494_102 N K x0 x1 h = some o → ∀ lv : am_LV, (lv.lookup 0 = some x0) → (lv.lookup 1 = some (.int x1)) → (am_isR x0 = true) → am_W X (d + 3) 494 102 lv [] h (fun q => q = o) := by
  intro K
  induction K with
  | zero => intro x0 x1 h o hs; cases hs
  | succ K ih =>
    intro x0 x1 h o hs lv l0 l1 i0
    unfold fg_494_102 at hs
    refine aw_iload_n (pc1 := 103) at_494_102 l1 rfl ?_
    refine aw_vload_n (pc1 := 104) at_494_103 l0 i0 rfl ?_
    obtain ⟨v1, e2, hs1⟩ := am_bind hs
    clear hs
    refine aw_pG (pc1 := 107) at_494_104 (am_vI_s e2) rfl ?_
    by_cases c3 : v1 ≤ x1
    · rw [if_pos c3] at hs1
      refine aw_icge_t at_494_107 c3 ?_
      refine aw_vload_n (pc1 := 128) at_494_127 l0 i0 rfl ?_
      obtain ⟨z4, hs2⟩ := am_ift hs1
      clear hs1
      refine aw_call (F := fm_347 N x0 h) (t := true) (na := 1) (kd := 1) (as := [x0]) at_494_128 (am_k3v kb_347) mn_347 mk_347 rfl rfl (am_ok_v mi_347 (am_hl rfl (am_ccR i0 am_cats_0) rfl) z4) (am_hc am_cats_0 rfl) (fun _ => ⟨rfl, hh_494⟩) (fun o1 hz9 => rm_347 x0 h o1 i0 hz9) ?_
      rcases am_cI_s hs2 with ⟨v5, h6, f7, hs3⟩ | hs3
      · clear hs2
        refine Or.inl ⟨_, _, f7, ?_⟩
        show am_W X _ 494 131 _ [(.int v5)] h6 _
        refine aw_iconst (v := (-1)) (pc1 := 132) at_494_131 (by decide) rfl ?_
        by_cases c8 : ¬ v5 = (-1)
        · rw [if_pos c8] at hs3
          refine aw_icne_t at_494_132 c8 ?_
          refine aw_iconst (v := 0) (pc1 := 140) at_494_139 (by decide) rfl ?_
          exact rg_494_140 0 h6 o   hs3
        · rw [if_neg c8] at hs3
          refine aw_icne_f (pc1 := 135) at_494_132 c8 rfl ?_
          refine aw_iconst (v := 1) (pc1 := 136) at_494_135 (by decide) rfl ?_
          refine aw_goto at_494_136 ?_
          exact rg_494_140 1 h6 o   hs3
      · clear hs2
        exact Or.inr hs3
    · rw [if_neg c3] at hs1
      refine aw_icge_f (pc1 := 110) at_494_107 c3 rfl ?_
      refine aw_vload_n (pc1 := 111) at_494_110 l0 i0 rfl ?_
      refine aw_iload_n (pc1 := 112) at_494_111 l1 rfl ?_
      refine aw_vload_n (pc1 := 113) at_494_112 l0 i0 rfl ?_
      obtain ⟨v9, e10, hs4⟩ := am_bind hs1
      clear hs1
      refine aw_pG (pc1 := 116) at_494_113 (am_vR_s e10).1 rfl ?_
      refine aw_iload_n (pc1 := 117) at_494_116 l1 rfl ?_
      obtain ⟨v11, e12, hs5⟩ := am_bind hs4
      clear hs4
      refine aw_pA (pc1 := 118) at_494_117 (Or.inl ⟨rfl, rfl⟩) e12 rfl ?_
      obtain ⟨z13, hs6⟩ := am_ift hs5
      clear hs5
      refine aw_call (F := fm_497 N x0 x1 v11 h) (t := true) (na := 3) (kd := 1) (as := [x0, (.int x1), (.int v11)]) at_494_118 (am_k3v kb_497) mn_497 mk_497 rfl rfl (am_ok_v mi_497 (am_hl rfl (am_ccR i0 (am_ccI (am_ccI am_cats_0))) rfl) z13) (am_hc am_cats_0 rfl) (fun _ => ⟨rfl, hh_494⟩) (fun o1 hz9 => rm_497 x0 x1 v11 h o1 i0 hz9) ?_
      rcases am_cV_s hs6 with ⟨h15, f16, hs7⟩ | hs7
      · clear hs6
        refine Or.inl ⟨_, _, f16, ?_⟩
        show am_W X _ 494 121 _ [] h15 _
        refine aw_iinc (v := (x1 + 1)) (c := 1) (lv1 := am_put1 _ 1 _) (pc1 := 124) at_494_121 l1 (by decide) rfl rfl rfl ?_
        refine aw_goto at_494_124 ?_
        exact ih x0 ((x1 + 1)) h15 o hs7 _ (am_lk1 l0 rfl (by rw [am_isRc i0]; rfl)) am_lk0 i0
      · clear hs6
        exact Or.inr hs7
def fg_494_34 (N : Nat) : Nat → Value → Int32 → am_H → Option am_O
  | 0 => fun _ _ _ => none
  | K + 1 => fun x0 x1 h => ((am_vI (am_pG 3090 x0 h)).bind fun v1 => (if v1 ≤ x1 then ((am_vR (am_pG 3194 x0 h)).bind fun v4 => ((am_pA 0 v4 0 h).bind fun v6 => (if v6 ≤ 60 then (if am_pOk 12 x0 h then am_cV true (fm_451 x0 h) (fun h11 => ((am_pP 3085 x0 (.int 1) h11).bind fun h13 => ((am_vR (am_pG 3194 x0 h13)).bind fun v15 => ((am_pA 0 v15 0 h13).bind fun v17 => ((am_pP 3086 x0 (.int v17) h13).bind fun h19 => ((am_vR (am_pG 3143 x0 h19)).bind fun v21 => ((am_pS 0 v21 0 0 h19).bind fun h23 => (fg_494_102 N N x0 0 h23)))))))) else none) else some (.inl (some (.int 0), h))))) else ((am_vR (am_pG 3093 x0 h)).bind fun v25 => ((am_pA 0 v25 x1 h).bind fun v27 => (if ¬ v27 = 19 then (fg_494_34 N K x0 ((x1 + 1)) h) else some (.inl (some (.int 0), h)))))))
theorem rg_494_34 {X : am_X} {d : Nat} {N : Nat} : ∀ (K : Nat) (x0 : Value) (x1 : Int32) (h : am_H) (o : am_O), fg_494_34 N K x0 x1 h = some o → ∀ lv : am_LV, (lv.lookup 0 = some x0) → (lv.lookup 1 = some (.int x1)) → (am_isR x0 = true) → am_W X (d + 3) 494 34 lv [] h (fun q => q = o) := by
  intro K
  induction K with
  | zero => intro x0 x1 h o hs; cases hs
  | succ K ih =>
    intro x0 x1 h o hs lv l0 l1 i0
    unfold fg_494_34 at hs
    refine aw_iload_n (pc1 := 35) at_494_34 l1 rfl ?_
    refine aw_vload_n (pc1 := 36) at_494_35 l0 i0 rfl ?_
    obtain ⟨v1, e2, hs1⟩ := am_bind hs
    clear hs
    refine aw_pG (pc1 := 39) at_494_36 (am_vI_s e2) rfl ?_
    by_cases c3 : v1 ≤ x1
    · rw [if_pos c3] at hs1
      refine aw_icge_t at_494_39 c3 ?_
      refine aw_vload_n (pc1 := 62) at_494_61 l0 i0 rfl ?_
      obtain ⟨v4, e5, hs2⟩ := am_bind hs1
      clear hs1
      refine aw_pG (pc1 := 65) at_494_62 (am_vR_s e5).1 rfl ?_
      refine aw_iconst (v := 0) (pc1 := 66) at_494_65 (by decide) rfl ?_
      obtain ⟨v6, e7, hs3⟩ := am_bind hs2
      clear hs2
      refine aw_pA (pc1 := 67) at_494_66 (Or.inl ⟨rfl, rfl⟩) e7 rfl ?_
      refine aw_bipush (v := 60) (pc1 := 69) at_494_67 (by decide) rfl ?_
      by_cases c8 : v6 ≤ 60
      · rw [if_pos c8] at hs3
        refine aw_icle_t at_494_69 c8 ?_
        refine aw_vload_n (pc1 := 75) at_494_74 l0 i0 rfl ?_
        obtain ⟨z9, hs4⟩ := am_ift hs3
        clear hs3
        refine aw_call (F := fm_451 x0 h) (t := true) (na := 1) (kd := 1) (as := [x0]) at_494_75 (am_k3v kb_451) mn_451 mk_451 rfl rfl (am_ok_v mi_451 (am_hl rfl (am_ccR i0 am_cats_0) rfl) z9) (am_hc am_cats_0 rfl) (fun _ => ⟨rfl, hh_494⟩) (fun o1 hz9 => rm_451 x0 h o1 i0 hz9) ?_
        rcases am_cV_s hs4 with ⟨h11, f12, hs5⟩ | hs5
        · clear hs4
          refine Or.inl ⟨_, _, f12, ?_⟩
          show am_W X _ 494 78 _ [] h11 _
          refine aw_vload_n (pc1 := 79) at_494_78 l0 i0 rfl ?_
          refine aw_iconst (v := 1) (pc1 := 80) at_494_79 (by decide) rfl ?_
          obtain ⟨h13, e14, hs6⟩ := am_bind hs5
          clear hs5
          refine aw_pP (pc1 := 83) at_494_80 e14 rfl ?_
          refine aw_vload_n (pc1 := 84) at_494_83 l0 i0 rfl ?_
          refine aw_vload_n (pc1 := 85) at_494_84 l0 i0 rfl ?_
          obtain ⟨v15, e16, hs7⟩ := am_bind hs6
          clear hs6
          refine aw_pG (pc1 := 88) at_494_85 (am_vR_s e16).1 rfl ?_
          refine aw_iconst (v := 0) (pc1 := 89) at_494_88 (by decide) rfl ?_
          obtain ⟨v17, e18, hs8⟩ := am_bind hs7
          clear hs7
          refine aw_pA (pc1 := 90) at_494_89 (Or.inl ⟨rfl, rfl⟩) e18 rfl ?_
          obtain ⟨h19, e20, hs9⟩ := am_bind hs8
          clear hs8
          refine aw_pP (pc1 := 93) at_494_90 e20 rfl ?_
          refine aw_vload_n (pc1 := 94) at_494_93 l0 i0 rfl ?_
          obtain ⟨v21, e22, hs10⟩ := am_bind hs9
          clear hs9
          refine aw_pG (pc1 := 97) at_494_94 (am_vR_s e22).1 rfl ?_
          refine aw_iconst (v := 0) (pc1 := 98) at_494_97 (by decide) rfl ?_
          refine aw_iconst (v := 0) (pc1 := 99) at_494_98 (by decide) rfl ?_
          obtain ⟨h23, e24, hs11⟩ := am_bind hs10
          clear hs10
          refine aw_pS (pc1 := 100) at_494_99 (Or.inl ⟨rfl, rfl⟩) e24 rfl ?_
          refine aw_iconst (v := 0) (pc1 := 101) at_494_100 (by decide) rfl ?_
          refine aw_istore_n (lv1 := am_put1 _ 1 _) (pc1 := 102) at_494_101 rfl rfl ?_
          exact rg_494_102 N x0 0 h23 o hs11 _ (am_lk1 l0 rfl (by rw [am_isRc i0]; rfl)) am_lk0 i0
        · clear hs4
          exact Or.inr hs5
      · rw [if_neg c8] at hs3
        refine aw_icle_f (pc1 := 72) at_494_69 c8 rfl ?_
        refine aw_iconst (v := 0) (pc1 := 73) at_494_72 (by decide) rfl ?_
        cases hs3
        exact aw_iret at_494_73 (by rw [rt_494]; decide) rfl
    · rw [if_neg c3] at hs1
      refine aw_icge_f (pc1 := 42) at_494_39 c3 rfl ?_
      refine aw_vload_n (pc1 := 43) at_494_42 l0 i0 rfl ?_
      obtain ⟨v25, e26, hs12⟩ := am_bind hs1
      clear hs1
      refine aw_pG (pc1 := 46) at_494_43 (am_vR_s e26).1 rfl ?_
      refine aw_iload_n (pc1 := 47) at_494_46 l1 rfl ?_
      obtain ⟨v27, e28, hs13⟩ := am_bind hs12
      clear hs12
      refine aw_pA (pc1 := 48) at_494_47 (Or.inl ⟨rfl, rfl⟩) e28 rfl ?_
      refine aw_bipush (v := 19) (pc1 := 50) at_494_48 (by decide) rfl ?_
      by_cases c29 : ¬ v27 = 19
      · rw [if_pos c29] at hs13
        refine aw_icne_t at_494_50 c29 ?_
        refine aw_iinc (v := (x1 + 1)) (c := 1) (lv1 := am_put1 _ 1 _) (pc1 := 58) at_494_55 l1 (by decide) rfl rfl rfl ?_
        refine aw_goto at_494_58 ?_
        exact ih x0 ((x1 + 1)) h o hs13 _ (am_lk1 l0 rfl (by rw [am_isRc i0]; rfl)) am_lk0 i0
      · rw [if_neg c29] at hs13
        refine aw_icne_f (pc1 := 53) at_494_50 c29 rfl ?_
        refine aw_iconst (v := 0) (pc1 := 54) at_494_53 (by decide) rfl ?_
        cases hs13
        exact aw_iret at_494_54 (by rw [rt_494]; decide) rfl
def fg_494_11 (N : Nat) : Nat → Value → Int32 → am_H → Option am_O
  | 0 => fun _ _ _ => none
  | K + 1 => fun x0 x1 h => (if x1 < 0 then (fg_494_34 N N x0 0 h) else ((am_vR (am_pG 3194 x0 h)).bind fun v2 => (if am_pOk 12 x0 h then am_cI true (fm_496 N x0 x1 h) (fun v5 h6 => ((am_pS 0 v2 x1 v5 h6).bind fun h8 => (fg_494_11 N K x0 ((x1 + (-1))) h8))) else none)))
theorem rg_494_11 {X : am_X} {d : Nat} {N : Nat} : ∀ (K : Nat) (x0 : Value) (x1 : Int32) (h : am_H) (o : am_O), fg_494_11 N K x0 x1 h = some o → ∀ lv : am_LV, (lv.lookup 0 = some x0) → (lv.lookup 1 = some (.int x1)) → (am_isR x0 = true) → am_W X (d + 3) 494 11 lv [] h (fun q => q = o) := by
  intro K
  induction K with
  | zero => intro x0 x1 h o hs; cases hs
  | succ K ih =>
    intro x0 x1 h o hs lv l0 l1 i0
    unfold fg_494_11 at hs
    refine aw_iload_n (pc1 := 12) at_494_11 l1 rfl ?_
    by_cases c1 : x1 < 0
    · rw [if_pos c1] at hs
      refine aw_iflt_t at_494_12 c1 ?_
      refine aw_iconst (v := 0) (pc1 := 33) at_494_32 (by decide) rfl ?_
      refine aw_istore_n (lv1 := am_put1 _ 1 _) (pc1 := 34) at_494_33 rfl rfl ?_
      exact rg_494_34 N x0 0 h o hs _ (am_lk1 l0 rfl (by rw [am_isRc i0]; rfl)) am_lk0 i0
    · rw [if_neg c1] at hs
      refine aw_iflt_f (pc1 := 15) at_494_12 c1 rfl ?_
      refine aw_vload_n (pc1 := 16) at_494_15 l0 i0 rfl ?_
      obtain ⟨v2, e3, hs1⟩ := am_bind hs
      clear hs
      refine aw_pG (pc1 := 19) at_494_16 (am_vR_s e3).1 rfl ?_
      refine aw_iload_n (pc1 := 20) at_494_19 l1 rfl ?_
      refine aw_vload_n (pc1 := 21) at_494_20 l0 i0 rfl ?_
      refine aw_iload_n (pc1 := 22) at_494_21 l1 rfl ?_
      obtain ⟨z4, hs2⟩ := am_ift hs1
      clear hs1
      refine aw_call (F := fm_496 N x0 x1 h) (t := true) (na := 2) (kd := 1) (as := [x0, (.int x1)]) at_494_22 (am_k3v kb_496) mn_496 mk_496 rfl rfl (am_ok_v mi_496 (am_hl rfl (am_ccR i0 (am_ccI am_cats_0)) rfl) z4) (am_hc (am_ccI (am_ccR (am_vR_s e3).2 am_cats_0)) rfl) (fun _ => ⟨rfl, hh_494⟩) (fun o1 hz9 => rm_496 x0 x1 h o1 i0 hz9) ?_
      rcases am_cI_s hs2 with ⟨v5, h6, f7, hs3⟩ | hs3
      · clear hs2
        refine Or.inl ⟨_, _, f7, ?_⟩
        show am_W X _ 494 25 _ [(.int v5), (.int x1), v2] h6 _
        obtain ⟨h8, e9, hs4⟩ := am_bind hs3
        clear hs3
        refine aw_pS (pc1 := 26) at_494_25 (Or.inl ⟨rfl, rfl⟩) e9 rfl ?_
        refine aw_iinc (v := (x1 + (-1))) (c := (-1)) (lv1 := am_put1 _ 1 _) (pc1 := 29) at_494_26 l1 (by decide) rfl rfl rfl ?_
        refine aw_goto at_494_29 ?_
        exact ih x0 ((x1 + (-1))) h8 o hs4 _ (am_lk1 l0 rfl (by rw [am_isRc i0]; rfl)) am_lk0 i0
      · clear hs2
        exact Or.inr hs3
def fg_494_0 (N : Nat) (x0 : Value) (h : am_H) : Option am_O := (if am_pOk 12 x0 h then am_cV true (fm_495 N x0 h) (fun h3 => ((am_vI (am_pG 3090 x0 h3)).bind fun v5 => (fg_494_11 N N x0 ((v5 - 1)) h3))) else none)
theorem rg_494_0 {X : am_X} {d : Nat} {N : Nat} {lv : am_LV} (x0 : Value) (h : am_H) (o : am_O) (l0 : lv.lookup 0 = some x0) (i0 : am_isR x0 = true) (hs : fg_494_0 N x0 h = some o) : am_W X (d + 3) 494 0 lv [] h (fun q => q = o) := by
  unfold fg_494_0 at hs
  refine aw_vload_n (pc1 := 1) at_494_0 l0 i0 rfl ?_
  obtain ⟨z1, hs1⟩ := am_ift hs
  clear hs
  refine aw_call (F := fm_495 N x0 h) (t := true) (na := 1) (kd := 1) (as := [x0]) at_494_1 (am_k3v kb_495) mn_495 mk_495 rfl rfl (am_ok_v mi_495 (am_hl rfl (am_ccR i0 am_cats_0) rfl) z1) (am_hc am_cats_0 rfl) (fun _ => ⟨rfl, hh_494⟩) (fun o1 hz9 => rm_495 x0 h o1 i0 hz9) ?_
  rcases am_cV_s hs1 with ⟨h3, f4, hs2⟩ | hs2
  · clear hs1
    refine Or.inl ⟨_, _, f4, ?_⟩
    show am_W X _ 494 4 _ [] h3 _
    refine aw_vload_n (pc1 := 5) at_494_4 l0 i0 rfl ?_
    obtain ⟨v5, e6, hs3⟩ := am_bind hs2
    clear hs2
    refine aw_pG (pc1 := 8) at_494_5 (am_vI_s e6) rfl ?_
    refine aw_iconst (v := 1) (pc1 := 9) at_494_8 (by decide) rfl ?_
    refine aw_isub (v := (v5 - 1)) (pc1 := 10) at_494_9 rfl rfl ?_
    refine aw_istore_n (lv1 := am_put1 _ 1 _) (pc1 := 11) at_494_10 rfl rfl ?_
    exact rg_494_11 N x0 ((v5 - 1)) h3 o hs3 _ (am_lk1 l0 rfl (by rw [am_isRc i0]; rfl)) am_lk0 i0
  · clear hs1
    exact Or.inr hs2
def fm_494 (N : Nat) (y0 : Value) (h : am_H) : Option am_O := fg_494_0 N y0 h
theorem rm_494 {X : am_X} {d : Nat} {N : Nat} (y0 : Value) (h : am_H) (o : am_O) (i0 : am_isR y0 = true) (hs : fm_494 N y0 h = some o) : am_W X (d + 3) 494 0 (am_args 0 [y0]) [] h (fun q => q = o) := by
  rw [am_args_R i0]
  exact rg_494_0 y0 h o rfl i0 hs
def fg_491_98 (N : Nat) (h : am_H) : Option am_O := some (.inl (none, h))
theorem rg_491_98 {X : am_X} {d : Nat} {N : Nat} {lv : am_LV} (h : am_H) (o : am_O) (hs : fg_491_98 N h = some o) : am_W X (d + 6) 491 98 lv [] h (fun q => q = o) := by
  unfold fg_491_98 at hs
  cases hs
  exact aw_vret at_491_98 rt_491 rfl
def fg_491_0 (N : Nat) (x0 : Value) (x1 : Int32) (x2 : Int32) (h : am_H) : Option am_O := ((am_pP 3085 x0 (.int x1) h).bind fun h1 => ((am_pP 3086 x0 (.int 0) h1).bind fun h3 => ((am_pP 3087 x0 (.int 0) h3).bind fun h5 => (if ¬ x1 = 2 then (if ¬ x1 = 3 then (if am_pOk 12 x0 h5 then am_cV true (fm_377 N x0 h5) (fun h11 => (if am_pOk 12 x0 h11 then am_cL true (fm_383 x0 0 0 x2 h11) (fun v14 h15 => (if am_pOk 12 x0 h15 then am_cL true (fm_477 x0 v14 h15) (fun v18 h19 => ((am_pP 3085 x0 (.int 0) h19).bind fun h21 => (if am_pOk 12 x0 h21 then am_cV true (fm_386 N x0 0 0 x2 v18 h21) (fun h25 => (if ¬ x1 = 1 then (fg_491_98 N h25) else (if am_pOk 12 x0 h25 then am_cI true (fm_494 N x0 h25) (fun v29 h30 => (if ¬ v29 = 0 then (fg_491_98 N h30) else ((am_pP 3085 x0 (.int 1) h30).bind fun h33 => ((am_pP 3086 x0 (.int 0) h33).bind fun h35 => (if am_pOk 12 x0 h35 then am_cV true (fm_335 x0 0 0 h35) (fun h39 => (fg_491_98 N h39)) else none))))) else none))) else none))) else none)) else none)) else none) else (if am_pOk 12 x0 h5 then am_cV true (fm_493 N x0 x2 h5) (fun h43 => (fg_491_98 N h43)) else none)) else (if am_pOk 12 x0 h5 then am_cV true (fm_492 N x0 x2 h5) (fun h47 => (fg_491_98 N h47)) else none)))))
theorem rg_491_0 {X : am_X} {d : Nat} {N : Nat} {lv : am_LV} (x0 : Value) (x1 : Int32) (x2 : Int32) (h : am_H) (o : am_O) (l0 : lv.lookup 0 = some x0) (l1 : lv.lookup 1 = some (.int x1)) (l2 : lv.lookup 2 = some (.int x2)) (i0 : am_isR x0 = true) (hs : fg_491_0 N x0 x1 x2 h = some o) : am_W X (d + 6) 491 0 lv [] h (fun q => q = o) := by
  unfold fg_491_0 at hs
  refine aw_vload_n (pc1 := 1) at_491_0 l0 i0 rfl ?_
  refine aw_iload_n (pc1 := 2) at_491_1 l1 rfl ?_
  obtain ⟨h1, e2, hs1⟩ := am_bind hs
  clear hs
  refine aw_pP (pc1 := 5) at_491_2 e2 rfl ?_
  refine aw_vload_n (pc1 := 6) at_491_5 l0 i0 rfl ?_
  refine aw_iconst (v := 0) (pc1 := 7) at_491_6 (by decide) rfl ?_
  obtain ⟨h3, e4, hs2⟩ := am_bind hs1
  clear hs1
  refine aw_pP (pc1 := 10) at_491_7 e4 rfl ?_
  refine aw_vload_n (pc1 := 11) at_491_10 l0 i0 rfl ?_
  refine aw_iconst (v := 0) (pc1 := 12) at_491_11 (by decide) rfl ?_
  obtain ⟨h5, e6, hs3⟩ := am_bind hs2
  clear hs2
  refine aw_pP (pc1 := 15) at_491_12 e6 rfl ?_
  refine aw_iload_n (pc1 := 16) at_491_15 l1 rfl ?_
  refine aw_iconst (v := 2) (pc1 := 17) at_491_16 (by decide) rfl ?_
  by_cases c7 : ¬ x1 = 2
  · rw [if_pos c7] at hs3
    refine aw_icne_t at_491_17 c7 ?_
    refine aw_iload_n (pc1 := 29) at_491_28 l1 rfl ?_
    refine aw_iconst (v := 3) (pc1 := 30) at_491_29 (by decide) rfl ?_
    by_cases c8 : ¬ x1 = 3
    · rw [if_pos c8] at hs3
      refine aw_icne_t at_491_30 c8 ?_
      refine aw_vload_n (pc1 := 42) at_491_41 l0 i0 rfl ?_
      obtain ⟨z9, hs4⟩ := am_ift hs3
      clear hs3
      refine aw_call (F := fm_377 N x0 h5) (t := true) (na := 1) (kd := 1) (as := [x0]) at_491_42 (am_k3v kb_377) mn_377 mk_377 rfl rfl (am_ok_v mi_377 (am_hl rfl (am_ccR i0 am_cats_0) rfl) z9) (am_hc am_cats_0 rfl) (fun _ => ⟨rfl, hh_491⟩) (fun o1 hz9 => rm_377 x0 h5 o1 i0 hz9) ?_
      rcases am_cV_s hs4 with ⟨h11, f12, hs5⟩ | hs5
      · clear hs4
        refine Or.inl ⟨_, _, f12, ?_⟩
        show am_W X _ 491 45 _ [] h11 _
        refine aw_vload_n (pc1 := 46) at_491_45 l0 i0 rfl ?_
        refine aw_vload_n (pc1 := 47) at_491_46 l0 i0 rfl ?_
        refine aw_iconst (v := 0) (pc1 := 48) at_491_47 (by decide) rfl ?_
        refine aw_iconst (v := 0) (pc1 := 49) at_491_48 (by decide) rfl ?_
        refine aw_iload_n (pc1 := 50) at_491_49 l2 rfl ?_
        obtain ⟨z13, hs6⟩ := am_ift hs5
        clear hs5
        refine aw_call (F := fm_383 x0 0 0 x2 h11) (t := true) (na := 4) (kd := 1) (as := [x0, (.int 0), (.int 0), (.int x2)]) at_491_50 (am_k3v kb_383) mn_383 mk_383 rfl rfl (am_ok_v mi_383 (am_hl rfl (am_ccR i0 (am_ccI (am_ccI (am_ccI am_cats_0)))) rfl) z13) (am_hc (am_ccR i0 am_cats_0) rfl) (fun _ => ⟨rfl, hh_491⟩) (fun o1 hz9 => rm_383 x0 0 0 x2 h11 o1 i0 hz9) ?_
        rcases am_cL_s hs6 with ⟨v14, h15, f16, hs7⟩ | hs7
        · clear hs6
          refine Or.inl ⟨_, _, f16, ?_⟩
          show am_W X _ 491 53 _ [(.long v14), x0] h15 _
          obtain ⟨z17, hs8⟩ := am_ift hs7
          clear hs7
          refine aw_call (F := fm_477 x0 v14 h15) (t := true) (na := 2) (kd := 1) (as := [x0, (.long v14)]) at_491_53 (am_k3v kb_477) mn_477 mk_477 rfl rfl (am_ok_v mi_477 (am_hl rfl (am_ccR i0 (am_ccL am_cats_0)) rfl) z17) (am_hc am_cats_0 rfl) (fun _ => ⟨rfl, hh_491⟩) (fun o1 hz9 => rm_477 x0 v14 h15 o1 i0 hz9) ?_
          rcases am_cL_s hs8 with ⟨v18, h19, f20, hs9⟩ | hs9
          · clear hs8
            refine Or.inl ⟨_, _, f20, ?_⟩
            show am_W X _ 491 56 _ [(.long v18)] h19 _
            refine aw_lstore_n (lv1 := am_put2 _ 3 _) (pc1 := 57) at_491_56 rfl rfl ?_
            refine aw_vload_n (pc1 := 58) at_491_57 (am_lk2 l0 rfl rfl) i0 rfl ?_
            refine aw_iconst (v := 0) (pc1 := 59) at_491_58 (by decide) rfl ?_
            obtain ⟨h21, e22, hs10⟩ := am_bind hs9
            clear hs9
            refine aw_pP (pc1 := 62) at_491_59 e22 rfl ?_
            refine aw_vload_n (pc1 := 63) at_491_62 (am_lk2 l0 rfl rfl) i0 rfl ?_
            refine aw_iconst (v := 0) (pc1 := 64) at_491_63 (by decide) rfl ?_
            refine aw_iconst (v := 0) (pc1 := 65) at_491_64 (by decide) rfl ?_
            refine aw_iload_n (pc1 := 66) at_491_65 (am_lk2 l2 rfl rfl) rfl ?_
            refine aw_lload_n (pc1 := 67) at_491_66 am_lk02 rfl ?_
            obtain ⟨z23, hs11⟩ := am_ift hs10
            clear hs10
            refine aw_call (F := fm_386 N x0 0 0 x2 v18 h21) (t := true) (na := 5) (kd := 1) (as := [x0, (.int 0), (.int 0), (.int x2), (.long v18)]) at_491_67 (am_k3v kb_386) mn_386 mk_386 rfl rfl (am_ok_v mi_386 (am_hl rfl (am_ccR i0 (am_ccI (am_ccI (am_ccI (am_ccL am_cats_0))))) rfl) z23) (am_hc am_cats_0 rfl) (fun _ => ⟨rfl, hh_491⟩) (fun o1 hz9 => rm_386 x0 0 0 x2 v18 h21 o1 i0 hz9) ?_
            rcases am_cV_s hs11 with ⟨h25, f26, hs12⟩ | hs12
            · clear hs11
              refine Or.inl ⟨_, _, f26, ?_⟩
              show am_W X _ 491 70 _ [] h25 _
              refine aw_iload_n (pc1 := 71) at_491_70 (am_lk2 l1 rfl rfl) rfl ?_
              refine aw_iconst (v := 1) (pc1 := 72) at_491_71 (by decide) rfl ?_
              by_cases c27 : ¬ x1 = 1
              · rw [if_pos c27] at hs12
                refine aw_icne_t at_491_72 c27 ?_
                exact rg_491_98 h25 o   hs12
              · rw [if_neg c27] at hs12
                refine aw_icne_f (pc1 := 75) at_491_72 c27 rfl ?_
                refine aw_vload_n (pc1 := 76) at_491_75 (am_lk2 l0 rfl rfl) i0 rfl ?_
                obtain ⟨z28, hs13⟩ := am_ift hs12
                clear hs12
                refine aw_call (F := fm_494 N x0 h25) (t := true) (na := 1) (kd := 1) (as := [x0]) at_491_76 (am_k3v kb_494) mn_494 mk_494 rfl rfl (am_ok_v mi_494 (am_hl rfl (am_ccR i0 am_cats_0) rfl) z28) (am_hc am_cats_0 rfl) (fun _ => ⟨rfl, hh_491⟩) (fun o1 hz9 => rm_494 x0 h25 o1 i0 hz9) ?_
                rcases am_cI_s hs13 with ⟨v29, h30, f31, hs14⟩ | hs14
                · clear hs13
                  refine Or.inl ⟨_, _, f31, ?_⟩
                  show am_W X _ 491 79 _ [(.int v29)] h30 _
                  by_cases c32 : ¬ v29 = 0
                  · rw [if_pos c32] at hs14
                    refine aw_ifne_t at_491_79 c32 ?_
                    exact rg_491_98 h30 o   hs14
                  · rw [if_neg c32] at hs14
                    refine aw_ifne_f (pc1 := 82) at_491_79 c32 rfl ?_
                    refine aw_vload_n (pc1 := 83) at_491_82 (am_lk2 l0 rfl rfl) i0 rfl ?_
                    refine aw_iconst (v := 1) (pc1 := 84) at_491_83 (by decide) rfl ?_
                    obtain ⟨h33, e34, hs15⟩ := am_bind hs14
                    clear hs14
                    refine aw_pP (pc1 := 87) at_491_84 e34 rfl ?_
                    refine aw_vload_n (pc1 := 88) at_491_87 (am_lk2 l0 rfl rfl) i0 rfl ?_
                    refine aw_iconst (v := 0) (pc1 := 89) at_491_88 (by decide) rfl ?_
                    obtain ⟨h35, e36, hs16⟩ := am_bind hs15
                    clear hs15
                    refine aw_pP (pc1 := 92) at_491_89 e36 rfl ?_
                    refine aw_vload_n (pc1 := 93) at_491_92 (am_lk2 l0 rfl rfl) i0 rfl ?_
                    refine aw_iconst (v := 0) (pc1 := 94) at_491_93 (by decide) rfl ?_
                    refine aw_iconst (v := 0) (pc1 := 95) at_491_94 (by decide) rfl ?_
                    obtain ⟨z37, hs17⟩ := am_ift hs16
                    clear hs16
                    refine aw_call (F := fm_335 x0 0 0 h35) (t := true) (na := 3) (kd := 1) (as := [x0, (.int 0), (.int 0)]) at_491_95 (am_k3v kb_335) mn_335 mk_335 rfl rfl (am_ok_v mi_335 (am_hl rfl (am_ccR i0 (am_ccI (am_ccI am_cats_0))) rfl) z37) (am_hc am_cats_0 rfl) (fun _ => ⟨rfl, hh_491⟩) (fun o1 hz9 => rm_335 x0 0 0 h35 o1 i0 hz9) ?_
                    rcases am_cV_s hs17 with ⟨h39, f40, hs18⟩ | hs18
                    · clear hs17
                      refine Or.inl ⟨_, _, f40, ?_⟩
                      show am_W X _ 491 98 _ [] h39 _
                      exact rg_491_98 h39 o   hs18
                    · clear hs17
                      exact Or.inr hs18
                · clear hs13
                  exact Or.inr hs14
            · clear hs11
              exact Or.inr hs12
          · clear hs8
            exact Or.inr hs9
        · clear hs6
          exact Or.inr hs7
      · clear hs4
        exact Or.inr hs5
    · rw [if_neg c8] at hs3
      refine aw_icne_f (pc1 := 33) at_491_30 c8 rfl ?_
      refine aw_vload_n (pc1 := 34) at_491_33 l0 i0 rfl ?_
      refine aw_iload_n (pc1 := 35) at_491_34 l2 rfl ?_
      obtain ⟨z41, hs19⟩ := am_ift hs3
      clear hs3
      refine aw_call (F := fm_493 N x0 x2 h5) (t := true) (na := 2) (kd := 1) (as := [x0, (.int x2)]) at_491_35 (am_k3v kb_493) mn_493 mk_493 rfl rfl (am_ok_v mi_493 (am_hl rfl (am_ccR i0 (am_ccI am_cats_0)) rfl) z41) (am_hc am_cats_0 rfl) (fun _ => ⟨rfl, hh_491⟩) (fun o1 hz9 => rm_493 x0 x2 h5 o1 i0 hz9) ?_
      rcases am_cV_s hs19 with ⟨h43, f44, hs20⟩ | hs20
      · clear hs19
        refine Or.inl ⟨_, _, f44, ?_⟩
        show am_W X _ 491 38 _ [] h43 _
        refine aw_goto at_491_38 ?_
        exact rg_491_98 h43 o   hs20
      · clear hs19
        exact Or.inr hs20
  · rw [if_neg c7] at hs3
    refine aw_icne_f (pc1 := 20) at_491_17 c7 rfl ?_
    refine aw_vload_n (pc1 := 21) at_491_20 l0 i0 rfl ?_
    refine aw_iload_n (pc1 := 22) at_491_21 l2 rfl ?_
    obtain ⟨z45, hs21⟩ := am_ift hs3
    clear hs3
    refine aw_call (F := fm_492 N x0 x2 h5) (t := true) (na := 2) (kd := 1) (as := [x0, (.int x2)]) at_491_22 (am_k3v kb_492) mn_492 mk_492 rfl rfl (am_ok_v mi_492 (am_hl rfl (am_ccR i0 (am_ccI am_cats_0)) rfl) z45) (am_hc am_cats_0 rfl) (fun _ => ⟨rfl, hh_491⟩) (fun o1 hz9 => rm_492 x0 x2 h5 o1 i0 hz9) ?_
    rcases am_cV_s hs21 with ⟨h47, f48, hs22⟩ | hs22
    · clear hs21
      refine Or.inl ⟨_, _, f48, ?_⟩
      show am_W X _ 491 25 _ [] h47 _
      refine aw_goto at_491_25 ?_
      exact rg_491_98 h47 o   hs22
    · clear hs21
      exact Or.inr hs22
def fm_491 (N : Nat) (y0 : Value) (y1 : Int32) (y2 : Int32) (h : am_H) : Option am_O := fg_491_0 N y0 y1 y2 h
theorem rm_491 {X : am_X} {d : Nat} {N : Nat} (y0 : Value) (y1 : Int32) (y2 : Int32) (h : am_H) (o : am_O) (i0 : am_isR y0 = true) (hs : fm_491 N y0 y1 y2 h = some o) : am_W X (d + 6) 491 0 (am_args 0 [y0, .int y1, .int y2]) [] h (fun q => q = o) := by
  rw [am_args_R i0, am_args_I, am_args_I]
  exact rg_491_0 y0 y1 y2 h o rfl rfl rfl i0 hs
def fg_488_95 (N : Nat) : Nat → Value → Int32 → Int32 → Int32 → Int32 → Int32 → am_H → Option am_O
  | 0 => fun _ _ _ _ _ _ _ => none
  | K + 1 => fun x0 x1 x2 x3 x4 x7 h => (if x3 ≤ x7 then ((am_vR (am_pG 3172 x0 h)).bind fun v2 => ((am_vL (am_pG 3168 x0 h)).bind fun v4 => ((am_pSL v2 x1 v4 h).bind fun h6 => ((am_vR (am_pG 3171 x0 h6)).bind fun v8 => ((am_pA 0 v8 (16 * x1) h6).bind fun v10 => some (.inl (some (.int v10), h6))))))) else (if am_pOk 12 x0 h then am_cV true (fm_491 N x0 x2 x4 h) (fun h14 => ((am_vR (am_pG 3171 x0 h14)).bind fun v16 => (if am_pOk 12 x0 h14 then am_cI true (fm_356 N x0 2 ((-1)) ((-1)) ((-1)) ((-1)) 0 h14) (fun v19 h20 => ((am_pS 0 v16 ((16 * x1) + x7) v19 h20).bind fun h22 => (fg_488_95 N K x0 x1 x2 x3 x4 ((x7 + 1)) h22))) else none))) else none))
theorem rg_488_95 {X : am_X} {d : Nat} {N : Nat} : ∀ (K : Nat) (x0 : Value) (x1 : Int32) (x2 : Int32) (x3 : Int32) (x4 : Int32) (x7 : Int32) (h : am_H) (o : am_O), fg_488_95 N K x0 x1 x2 x3 x4 x7 h = some o → ∀ lv : am_LV, (lv.lookup 0 = some x0) → (lv.lookup 1 = some (.int x1)) → (lv.lookup 2 = some (.int x2)) → (lv.lookup 3 = some (.int x3)) → (lv.lookup 4 = some (.int x4)) → (lv.lookup 7 = some (.int x7)) → (am_isR x0 = true) → am_W X (d + 7) 488 95 lv [] h (fun q => q = o) := by
  intro K
  induction K with
  | zero => intro x0 x1 x2 x3 x4 x7 h o hs; cases hs
  | succ K ih =>
    intro x0 x1 x2 x3 x4 x7 h o hs lv l0 l1 l2 l3 l4 l7 i0
    unfold fg_488_95 at hs
    refine aw_iload (pc1 := 97) at_488_95 l7 rfl ?_
    refine aw_iload_n (pc1 := 98) at_488_97 l3 rfl ?_
    by_cases c1 : x3 ≤ x7
    · rw [if_pos c1] at hs
      refine aw_icge_t at_488_98 c1 ?_
      refine aw_vload_n (pc1 := 137) at_488_136 l0 i0 rfl ?_
      obtain ⟨v2, e3, hs1⟩ := am_bind hs
      clear hs
      refine aw_pG (pc1 := 140) at_488_137 (am_vR_s e3).1 rfl ?_
      refine aw_iload_n (pc1 := 141) at_488_140 l1 rfl ?_
      refine aw_vload_n (pc1 := 142) at_488_141 l0 i0 rfl ?_
      obtain ⟨v4, e5, hs2⟩ := am_bind hs1
      clear hs1
      refine aw_pG (pc1 := 145) at_488_142 (am_vL_s e5) rfl ?_
      obtain ⟨h6, e7, hs3⟩ := am_bind hs2
      clear hs2
      refine aw_pSL (pc1 := 146) at_488_145 e7 rfl ?_
      refine aw_vload_n (pc1 := 147) at_488_146 l0 i0 rfl ?_
      obtain ⟨v8, e9, hs4⟩ := am_bind hs3
      clear hs3
      refine aw_pG (pc1 := 150) at_488_147 (am_vR_s e9).1 rfl ?_
      refine aw_bipush (v := 16) (pc1 := 152) at_488_150 (by decide) rfl ?_
      refine aw_iload_n (pc1 := 153) at_488_152 l1 rfl ?_
      refine aw_imul (v := (16 * x1)) (pc1 := 154) at_488_153 rfl rfl ?_
      obtain ⟨v10, e11, hs5⟩ := am_bind hs4
      clear hs4
      refine aw_pA (pc1 := 155) at_488_154 (Or.inl ⟨rfl, rfl⟩) e11 rfl ?_
      cases hs5
      exact aw_iret at_488_155 (by rw [rt_488]; rfl) rfl
    · rw [if_neg c1] at hs
      refine aw_icge_f (pc1 := 101) at_488_98 c1 rfl ?_
      refine aw_vload_n (pc1 := 102) at_488_101 l0 i0 rfl ?_
      refine aw_iload_n (pc1 := 103) at_488_102 l2 rfl ?_
      refine aw_iload (pc1 := 105) at_488_103 l4 rfl ?_
      obtain ⟨z12, hs6⟩ := am_ift hs
      clear hs
      refine aw_call (F := fm_491 N x0 x2 x4 h) (t := true) (na := 3) (kd := 1) (as := [x0, (.int x2), (.int x4)]) at_488_105 (am_k3v kb_491) mn_491 mk_491 rfl rfl (am_ok_v mi_491 (am_hl rfl (am_ccR i0 (am_ccI (am_ccI am_cats_0))) rfl) z12) (am_hc am_cats_0 rfl) (fun _ => ⟨rfl, hh_488⟩) (fun o1 hz9 => rm_491 x0 x2 x4 h o1 i0 hz9) ?_
      rcases am_cV_s hs6 with ⟨h14, f15, hs7⟩ | hs7
      · clear hs6
        refine Or.inl ⟨_, _, f15, ?_⟩
        show am_W X _ 488 108 _ [] h14 _
        refine aw_vload_n (pc1 := 109) at_488_108 l0 i0 rfl ?_
        obtain ⟨v16, e17, hs8⟩ := am_bind hs7
        clear hs7
        refine aw_pG (pc1 := 112) at_488_109 (am_vR_s e17).1 rfl ?_
        refine aw_bipush (v := 16) (pc1 := 114) at_488_112 (by decide) rfl ?_
        refine aw_iload_n (pc1 := 115) at_488_114 l1 rfl ?_
        refine aw_imul (v := (16 * x1)) (pc1 := 116) at_488_115 rfl rfl ?_
        refine aw_iload (pc1 := 118) at_488_116 l7 rfl ?_
        refine aw_iadd (v := ((16 * x1) + x7)) (pc1 := 119) at_488_118 rfl rfl ?_
        refine aw_vload_n (pc1 := 120) at_488_119 l0 i0 rfl ?_
        refine aw_iconst (v := 2) (pc1 := 121) at_488_120 (by decide) rfl ?_
        refine aw_iconst (v := (-1)) (pc1 := 122) at_488_121 (by decide) rfl ?_
        refine aw_iconst (v := (-1)) (pc1 := 123) at_488_122 (by decide) rfl ?_
        refine aw_iconst (v := (-1)) (pc1 := 124) at_488_123 (by decide) rfl ?_
        refine aw_iconst (v := (-1)) (pc1 := 125) at_488_124 (by decide) rfl ?_
        refine aw_lconst (v := 0) (pc1 := 126) at_488_125 (by decide) rfl ?_
        obtain ⟨z18, hs9⟩ := am_ift hs8
        clear hs8
        refine aw_call (F := fm_356 N x0 2 ((-1)) ((-1)) ((-1)) ((-1)) 0 h14) (t := true) (na := 7) (kd := 1) (as := [x0, (.int 2), (.int (-1)), (.int (-1)), (.int (-1)), (.int (-1)), (.long 0)]) at_488_126 (am_k3v kb_356) mn_356 mk_356 rfl rfl (am_ok_v mi_356 (am_hl rfl (am_ccR i0 (am_ccI (am_ccI (am_ccI (am_ccI (am_ccI (am_ccL am_cats_0))))))) rfl) z18) (am_hc (am_ccI (am_ccR (am_vR_s e17).2 am_cats_0)) rfl) (fun _ => ⟨rfl, hh_488⟩) (fun o1 hz9 => rm_356 x0 2 ((-1)) ((-1)) ((-1)) ((-1)) 0 h14 o1 i0 hz9) ?_
        rcases am_cI_s hs9 with ⟨v19, h20, f21, hs10⟩ | hs10
        · clear hs9
          refine Or.inl ⟨_, _, f21, ?_⟩
          show am_W X _ 488 129 _ [(.int v19), (.int ((16 * x1) + x7)), v16] h20 _
          obtain ⟨h22, e23, hs11⟩ := am_bind hs10
          clear hs10
          refine aw_pS (pc1 := 130) at_488_129 (Or.inl ⟨rfl, rfl⟩) e23 rfl ?_
          refine aw_iinc (v := (x7 + 1)) (c := 1) (lv1 := am_put1 _ 7 _) (pc1 := 133) at_488_130 l7 (by decide) rfl rfl rfl ?_
          refine aw_goto at_488_133 ?_
          exact ih x0 x1 x2 x3 x4 ((x7 + 1)) h22 o hs11 _ (am_lk1 l0 rfl rfl) (am_lk1 l1 rfl rfl) (am_lk1 l2 rfl rfl) (am_lk1 l3 rfl rfl) (am_lk1 l4 rfl rfl) am_lk0 i0
        · clear hs9
          exact Or.inr hs10
      · clear hs6
        exact Or.inr hs7
def fg_488_67 (N : Nat) (x0 : Value) (x1 : Int32) (x2 : Int32) (x3 : Int32) (x4 : Int32) (x5 : Int64) (s0 : Value) (s1 : Int32) (h : am_H) : Option am_O := ((am_pP 3072 s0 (.int s1) h).bind fun h1 => ((am_vI (am_pG 3072 x0 h1)).bind fun v3 => (if v3 ≤ 0 then ((am_pP 3168 x0 (.long x5) h1).bind fun h6 => ((am_vR (am_pG 3170 x0 h6)).bind fun v8 => ((am_pS 0 v8 x1 x3 h6).bind fun h10 => (fg_488_95 N N x0 x1 x2 x3 x4 0 h10)))) else some (.inl (some (.int 0), h1)))))
theorem rg_488_67 {X : am_X} {d : Nat} {N : Nat} {lv : am_LV} (x0 : Value) (x1 : Int32) (x2 : Int32) (x3 : Int32) (x4 : Int32) (x5 : Int64) (s0 : Value) (s1 : Int32) (h : am_H) (o : am_O) (l0 : lv.lookup 0 = some x0) (l1 : lv.lookup 1 = some (.int x1)) (l2 : lv.lookup 2 = some (.int x2)) (l3 : lv.lookup 3 = some (.int x3)) (l4 : lv.lookup 4 = some (.int x4)) (l5 : lv.lookup 5 = some (.long x5)) (i0 : am_isR x0 = true) (j0 : am_isR s0 = true) (hs : fg_488_67 N x0 x1 x2 x3 x4 x5 s0 s1 h = some o) : am_W X (d + 7) 488 67 lv [(.int s1), s0] h (fun q => q = o) := by
  unfold fg_488_67 at hs
  obtain ⟨h1, e2, hs1⟩ := am_bind hs
  clear hs
  refine aw_pP (pc1 := 70) at_488_67 e2 rfl ?_
  refine aw_vload_n (pc1 := 71) at_488_70 l0 i0 rfl ?_
  obtain ⟨v3, e4, hs2⟩ := am_bind hs1
  clear hs1
  refine aw_pG (pc1 := 74) at_488_71 (am_vI_s e4) rfl ?_
  by_cases c5 : v3 ≤ 0
  · rw [if_pos c5] at hs2
    refine aw_ifle_t at_488_74 c5 ?_
    refine aw_vload_n (pc1 := 80) at_488_79 l0 i0 rfl ?_
    refine aw_lload (pc1 := 82) at_488_80 l5 rfl ?_
    obtain ⟨h6, e7, hs3⟩ := am_bind hs2
    clear hs2
    refine aw_pP (pc1 := 85) at_488_82 e7 rfl ?_
    refine aw_vload_n (pc1 := 86) at_488_85 l0 i0 rfl ?_
    obtain ⟨v8, e9, hs4⟩ := am_bind hs3
    clear hs3
    refine aw_pG (pc1 := 89) at_488_86 (am_vR_s e9).1 rfl ?_
    refine aw_iload_n (pc1 := 90) at_488_89 l1 rfl ?_
    refine aw_iload_n (pc1 := 91) at_488_90 l3 rfl ?_
    obtain ⟨h10, e11, hs5⟩ := am_bind hs4
    clear hs4
    refine aw_pS (pc1 := 92) at_488_91 (Or.inl ⟨rfl, rfl⟩) e11 rfl ?_
    refine aw_iconst (v := 0) (pc1 := 93) at_488_92 (by decide) rfl ?_
    refine aw_istore (lv1 := am_put1 _ 7 _) (pc1 := 95) at_488_93 rfl rfl ?_
    exact rg_488_95 N x0 x1 x2 x3 x4 0 h10 o hs5 _ (am_lk1 l0 rfl rfl) (am_lk1 l1 rfl rfl) (am_lk1 l2 rfl rfl) (am_lk1 l3 rfl rfl) (am_lk1 l4 rfl rfl) am_lk0 i0
  · rw [if_neg c5] at hs2
    refine aw_ifle_f (pc1 := 77) at_488_74 c5 rfl ?_
    refine aw_iconst (v := 0) (pc1 := 78) at_488_77 (by decide) rfl ?_
    cases hs2
    exact aw_iret at_488_78 (by rw [rt_488]; rfl) rfl
def fg_488_46 (N : Nat) (x0 : Value) (x1 : Int32) (x2 : Int32) (x3 : Int32) (x4 : Int32) (x5 : Int64) (s0 : Value) (h : am_H) : Option am_O := (fg_488_67 N x0 x1 x2 x3 x4 x5 s0 2 h)
theorem rg_488_46 {X : am_X} {d : Nat} {N : Nat} {lv : am_LV} (x0 : Value) (x1 : Int32) (x2 : Int32) (x3 : Int32) (x4 : Int32) (x5 : Int64) (s0 : Value) (h : am_H) (o : am_O) (l0 : lv.lookup 0 = some x0) (l1 : lv.lookup 1 = some (.int x1)) (l2 : lv.lookup 2 = some (.int x2)) (l3 : lv.lookup 3 = some (.int x3)) (l4 : lv.lookup 4 = some (.int x4)) (l5 : lv.lookup 5 = some (.long x5)) (i0 : am_isR x0 = true) (j0 : am_isR s0 = true) (hs : fg_488_46 N x0 x1 x2 x3 x4 x5 s0 h = some o) : am_W X (d + 7) 488 46 lv [s0] h (fun q => q = o) := by
  unfold fg_488_46 at hs
  refine aw_iconst (v := 2) (pc1 := 47) at_488_46 (by decide) rfl ?_
  refine aw_goto at_488_47 ?_
  exact rg_488_67 x0 x1 x2 x3 x4 x5 s0 2 h o l0 l1 l2 l3 l4 l5 i0 j0 hs
def fg_488_0 (N : Nat) (x0 : Value) (x1 : Int32) (x2 : Int32) (x3 : Int32) (x4 : Int32) (x5 : Int64) (h : am_H) : Option am_O := (if am_pOk 12 x0 h then am_cI true (fm_489 x0 x1 h) (fun v2 h3 => (if ¬ v2 = 0 then am_cI false (fm_327 ((Int32.toInt64 x2)) 0 3 h3) (fun v6 h7 => (if v6 = 0 then (fg_488_46 N x0 x1 x2 x3 x4 x5 x0 h7) else am_cI false (fm_327 ((Int32.toInt64 x3)) 1 16 h7) (fun v10 h11 => (if v10 = 0 then (fg_488_46 N x0 x1 x2 x3 x4 x5 x0 h11) else am_cI false (fm_490 x2 x4 h11) (fun v14 h15 => (if ¬ v14 = 0 then ((am_vI (am_pG 3073 x0 h15)).bind fun v18 => (if (v18 + x3) ≤ 600 then (fg_488_67 N x0 x1 x2 x3 x4 x5 x0 0 h15) else (fg_488_67 N x0 x1 x2 x3 x4 x5 x0 3 h15))) else (fg_488_46 N x0 x1 x2 x3 x4 x5 x0 h15))))))) else (fg_488_67 N x0 x1 x2 x3 x4 x5 x0 1 h3))) else none)
theorem rg_488_0 {X : am_X} {d : Nat} {N : Nat} {lv : am_LV} (x0 : Value) (x1 : Int32) (x2 : Int32) (x3 : Int32) (x4 : Int32) (x5 : Int64) (h : am_H) (o : am_O) (l0 : lv.lookup 0 = some x0) (l1 : lv.lookup 1 = some (.int x1)) (l2 : lv.lookup 2 = some (.int x2)) (l3 : lv.lookup 3 = some (.int x3)) (l4 : lv.lookup 4 = some (.int x4)) (l5 : lv.lookup 5 = some (.long x5)) (i0 : am_isR x0 = true) (hs : fg_488_0 N x0 x1 x2 x3 x4 x5 h = some o) : am_W X (d + 7) 488 0 lv [] h (fun q => q = o) := by
  unfold fg_488_0 at hs
  refine aw_vload_n (pc1 := 1) at_488_0 l0 i0 rfl ?_
  refine aw_vload_n (pc1 := 2) at_488_1 l0 i0 rfl ?_
  refine aw_iload_n (pc1 := 3) at_488_2 l1 rfl ?_
  obtain ⟨z1, hs1⟩ := am_ift hs
  clear hs
  refine aw_call (F := fm_489 x0 x1 h) (t := true) (na := 2) (kd := 1) (as := [x0, (.int x1)]) at_488_3 (am_k3v kb_489) mn_489 mk_489 rfl rfl (am_ok_v mi_489 (am_hl rfl (am_ccR i0 (am_ccI am_cats_0)) rfl) z1) (am_hc (am_ccR i0 am_cats_0) rfl) (fun _ => ⟨rfl, hh_488⟩) (fun o1 hz9 => rm_489 x0 x1 h o1 i0 hz9) ?_
  rcases am_cI_s hs1 with ⟨v2, h3, f4, hs2⟩ | hs2
  · clear hs1
    refine Or.inl ⟨_, _, f4, ?_⟩
    show am_W X _ 488 6 _ [(.int v2), x0] h3 _
    by_cases c5 : ¬ v2 = 0
    · rw [if_pos c5] at hs2
      refine aw_ifne_t at_488_6 c5 ?_
      refine aw_iload_n (pc1 := 14) at_488_13 l2 rfl ?_
      refine aw_i2l (v := (Int32.toInt64 x2)) (pc1 := 15) at_488_14 rfl rfl ?_
      refine aw_lconst (v := 0) (pc1 := 16) at_488_15 (by decide) rfl ?_
      refine aw_ldc2 (v := 3) (pc1 := 19) at_488_16 rfl rfl ?_
      refine aw_call (F := fm_327 ((Int32.toInt64 x2)) 0 3 h3) (t := false) (na := 3) (kd := 0) (as := [(.long (Int32.toInt64 x2)), (.long 0), (.long 3)]) at_488_19 (am_k3s kb_327) mn_327 mk_327 rfl rfl (am_ok_s mi_327 (am_hl rfl (am_ccL (am_ccL (am_ccL am_cats_0))) rfl)) (am_hc (am_ccR i0 am_cats_0) rfl) (fun hz9 => by cases hz9) (fun o1 hz9 => rm_327 ((Int32.toInt64 x2)) 0 3 h3 o1  hz9) ?_
      rcases am_cI_s hs2 with ⟨v6, h7, f8, hs3⟩ | hs3
      · clear hs2
        refine Or.inl ⟨_, _, f8, ?_⟩
        show am_W X _ 488 22 _ [(.int v6), x0] h7 _
        by_cases c9 : v6 = 0
        · rw [if_pos c9] at hs3
          refine aw_ifeq_t at_488_22 c9 ?_
          exact rg_488_46 x0 x1 x2 x3 x4 x5 x0 h7 o l0 l1 l2 l3 l4 l5 i0 i0 hs3
        · rw [if_neg c9] at hs3
          refine aw_ifeq_f (pc1 := 25) at_488_22 c9 rfl ?_
          refine aw_iload_n (pc1 := 26) at_488_25 l3 rfl ?_
          refine aw_i2l (v := (Int32.toInt64 x3)) (pc1 := 27) at_488_26 rfl rfl ?_
          refine aw_lconst (v := 1) (pc1 := 28) at_488_27 (by decide) rfl ?_
          refine aw_ldc2 (v := 16) (pc1 := 31) at_488_28 rfl rfl ?_
          refine aw_call (F := fm_327 ((Int32.toInt64 x3)) 1 16 h7) (t := false) (na := 3) (kd := 0) (as := [(.long (Int32.toInt64 x3)), (.long 1), (.long 16)]) at_488_31 (am_k3s kb_327) mn_327 mk_327 rfl rfl (am_ok_s mi_327 (am_hl rfl (am_ccL (am_ccL (am_ccL am_cats_0))) rfl)) (am_hc (am_ccR i0 am_cats_0) rfl) (fun hz9 => by cases hz9) (fun o1 hz9 => rm_327 ((Int32.toInt64 x3)) 1 16 h7 o1  hz9) ?_
          rcases am_cI_s hs3 with ⟨v10, h11, f12, hs4⟩ | hs4
          · clear hs3
            refine Or.inl ⟨_, _, f12, ?_⟩
            show am_W X _ 488 34 _ [(.int v10), x0] h11 _
            by_cases c13 : v10 = 0
            · rw [if_pos c13] at hs4
              refine aw_ifeq_t at_488_34 c13 ?_
              exact rg_488_46 x0 x1 x2 x3 x4 x5 x0 h11 o l0 l1 l2 l3 l4 l5 i0 i0 hs4
            · rw [if_neg c13] at hs4
              refine aw_ifeq_f (pc1 := 37) at_488_34 c13 rfl ?_
              refine aw_iload_n (pc1 := 38) at_488_37 l2 rfl ?_
              refine aw_iload (pc1 := 40) at_488_38 l4 rfl ?_
              refine aw_call (F := fm_490 x2 x4 h11) (t := false) (na := 2) (kd := 0) (as := [(.int x2), (.int x4)]) at_488_40 (am_k3s kb_490) mn_490 mk_490 rfl rfl (am_ok_s mi_490 (am_hl rfl (am_ccI (am_ccI am_cats_0)) rfl)) (am_hc (am_ccR i0 am_cats_0) rfl) (fun hz9 => by cases hz9) (fun o1 hz9 => rm_490 x2 x4 h11 o1  hz9) ?_
              rcases am_cI_s hs4 with ⟨v14, h15, f16, hs5⟩ | hs5
              · clear hs4
                refine Or.inl ⟨_, _, f16, ?_⟩
                show am_W X _ 488 43 _ [(.int v14), x0] h15 _
                by_cases c17 : ¬ v14 = 0
                · rw [if_pos c17] at hs5
                  refine aw_ifne_t at_488_43 c17 ?_
                  refine aw_vload_n (pc1 := 51) at_488_50 l0 i0 rfl ?_
                  obtain ⟨v18, e19, hs6⟩ := am_bind hs5
                  clear hs5
                  refine aw_pG (pc1 := 54) at_488_51 (am_vI_s e19) rfl ?_
                  refine aw_iload_n (pc1 := 55) at_488_54 l3 rfl ?_
                  refine aw_iadd (v := (v18 + x3)) (pc1 := 56) at_488_55 rfl rfl ?_
                  refine aw_sipush (v := 600) (pc1 := 59) at_488_56 (by decide) rfl ?_
                  by_cases c20 : (v18 + x3) ≤ 600
                  · rw [if_pos c20] at hs6
                    refine aw_icle_t at_488_59 c20 ?_
                    refine aw_iconst (v := 0) (pc1 := 67) at_488_66 (by decide) rfl ?_
                    exact rg_488_67 x0 x1 x2 x3 x4 x5 x0 0 h15 o l0 l1 l2 l3 l4 l5 i0 i0 hs6
                  · rw [if_neg c20] at hs6
                    refine aw_icle_f (pc1 := 62) at_488_59 c20 rfl ?_
                    refine aw_iconst (v := 3) (pc1 := 63) at_488_62 (by decide) rfl ?_
                    refine aw_goto at_488_63 ?_
                    exact rg_488_67 x0 x1 x2 x3 x4 x5 x0 3 h15 o l0 l1 l2 l3 l4 l5 i0 i0 hs6
                · rw [if_neg c17] at hs5
                  refine aw_ifne_f (pc1 := 46) at_488_43 c17 rfl ?_
                  exact rg_488_46 x0 x1 x2 x3 x4 x5 x0 h15 o l0 l1 l2 l3 l4 l5 i0 i0 hs5
              · clear hs4
                exact Or.inr hs5
          · clear hs3
            exact Or.inr hs4
      · clear hs2
        exact Or.inr hs3
    · rw [if_neg c5] at hs2
      refine aw_ifne_f (pc1 := 9) at_488_6 c5 rfl ?_
      refine aw_iconst (v := 1) (pc1 := 10) at_488_9 (by decide) rfl ?_
      refine aw_goto at_488_10 ?_
      exact rg_488_67 x0 x1 x2 x3 x4 x5 x0 1 h3 o l0 l1 l2 l3 l4 l5 i0 i0 hs2
  · clear hs1
    exact Or.inr hs2
def fm_488 (N : Nat) (y0 : Value) (y1 : Int32) (y2 : Int32) (y3 : Int32) (y4 : Int32) (y5 : Int64) (h : am_H) : Option am_O := fg_488_0 N y0 y1 y2 y3 y4 y5 h
theorem rm_488 {X : am_X} {d : Nat} {N : Nat} (y0 : Value) (y1 : Int32) (y2 : Int32) (y3 : Int32) (y4 : Int32) (y5 : Int64) (h : am_H) (o : am_O) (i0 : am_isR y0 = true) (hs : fm_488 N y0 y1 y2 y3 y4 y5 h = some o) : am_W X (d + 7) 488 0 (am_args 0 [y0, .int y1, .int y2, .int y3, .int y4, .long y5]) [] h (fun q => q = o) := by
  rw [am_args_R i0, am_args_I, am_args_I, am_args_I, am_args_I, am_args_L]
  exact rg_488_0 y0 y1 y2 y3 y4 y5 h o rfl rfl rfl rfl rfl rfl i0 hs
def fg_211_0 (x0 : Value) (x1 : Int32) (h : am_H) : Option am_O := (if am_pOk 11 x0 h then am_cR true (fm_201 x0 x1 h) (fun v2 h3 => ((am_vI (am_pG 256 v2 h3)).bind fun v5 => some (.inl (some (.int v5), h3)))) else none)
theorem rg_211_0 {X : am_X} {d : Nat} {lv : am_LV} (x0 : Value) (x1 : Int32) (h : am_H) (o : am_O) (l0 : lv.lookup 0 = some x0) (l1 : lv.lookup 1 = some (.int x1)) (i0 : am_isR x0 = true) (hs : fg_211_0 x0 x1 h = some o) : am_W X (d + 1) 211 0 lv [] h (fun q => q = o) := by
  unfold fg_211_0 at hs
  refine aw_vload_n (pc1 := 1) at_211_0 l0 i0 rfl ?_
  refine aw_iload_n (pc1 := 2) at_211_1 l1 rfl ?_
  obtain ⟨z1, hs1⟩ := am_ift hs
  clear hs
  refine aw_call (F := fm_201 x0 x1 h) (t := true) (na := 2) (kd := 1) (as := [x0, (.int x1)]) at_211_2 (am_k3v kb_201) mn_201 mk_201 rfl rfl (am_ok_v mi_201 (am_hl rfl (am_ccR i0 (am_ccI am_cats_0)) rfl) z1) (am_hc am_cats_0 rfl) (fun _ => ⟨rfl, hh_211⟩) (fun o1 hz9 => rm_201 x0 x1 h o1 i0 hz9) ?_
  rcases am_cR_s hs1 with ⟨v2, h3, f4, iv2, hs2⟩ | hs2
  · clear hs1
    refine Or.inl ⟨_, _, f4, ?_⟩
    show am_W X _ 211 5 _ [v2] h3 _
    obtain ⟨v5, e6, hs3⟩ := am_bind hs2
    clear hs2
    refine aw_pG (pc1 := 8) at_211_5 (am_vI_s e6) rfl ?_
    cases hs3
    exact aw_iret at_211_8 (by rw [rt_211]; rfl) rfl
  · clear hs1
    exact Or.inr hs2
def fm_211 (y0 : Value) (y1 : Int32) (h : am_H) : Option am_O := fg_211_0 y0 y1 h
theorem rm_211 {X : am_X} {d : Nat} (y0 : Value) (y1 : Int32) (h : am_H) (o : am_O) (i0 : am_isR y0 = true) (hs : fm_211 y0 y1 h = some o) : am_W X (d + 1) 211 0 (am_args 0 [y0, .int y1]) [] h (fun q => q = o) := by
  rw [am_args_R i0, am_args_I]
  exact rg_211_0 y0 y1 h o rfl rfl i0 hs
def fg_210_13 (h : am_H) : Option am_O := some (.inl (some (.int 1), h))
theorem rg_210_13 {X : am_X} {d : Nat} {lv : am_LV} (h : am_H) (o : am_O) (hs : fg_210_13 h = some o) : am_W X (d + 2) 210 13 lv [] h (fun q => q = o) := by
  unfold fg_210_13 at hs
  refine aw_iconst (v := 1) (pc1 := 14) at_210_13 (by decide) rfl ?_
  cases hs
  exact aw_iret at_210_14 (by rw [rt_210]; rfl) rfl
def fg_210_0 (x0 : Value) (x1 : Int32) (x2 : Value) (h : am_H) : Option am_O := (if am_pOk 11 x0 h then (match fm_211 x0 x1 h with | some (.inl (some (.int v2), h3)) => ((am_pSL x2 0 (Int32.toInt64 v2) h3).bind fun h5 => some (.inl (some (.int 0), h5))) | some (.inr (2, h7)) => (fg_210_13 h7) | _ => none) else none)
theorem rg_210_0 {X : am_X} {d : Nat} {lv : am_LV} (x0 : Value) (x1 : Int32) (x2 : Value) (h : am_H) (o : am_O) (l0 : lv.lookup 0 = some x0) (l1 : lv.lookup 1 = some (.int x1)) (l2 : lv.lookup 2 = some x2) (i0 : am_isR x0 = true) (i2 : am_isR x2 = true) (hs : fg_210_0 x0 x1 x2 h = some o) : am_W X (d + 2) 210 0 lv [] h (fun q => q = o) := by
  unfold fg_210_0 at hs
  refine aw_vload_n (pc1 := 1) at_210_0 l2 i2 rfl ?_
  refine aw_iconst (v := 0) (pc1 := 2) at_210_1 (by decide) rfl ?_
  refine aw_vload_n (pc1 := 3) at_210_2 l0 i0 rfl ?_
  refine aw_iload_n (pc1 := 4) at_210_3 l1 rfl ?_
  obtain ⟨z1, hs1⟩ := am_ift hs
  clear hs
  refine aw_callH (F := fm_211 x0 x1 h) (na := 2) (kd := 1) (as := [x0, (.int x1)]) at_210_4 (am_k3v kb_211) mn_211 mk_211 rfl rfl (am_ok_v mi_211 (am_hl rfl (am_ccR i0 (am_ccI am_cats_0)) rfl) z1) (am_hc (am_ccI (am_ccR i2 am_cats_0)) rfl) (fun o1 hz9 => rm_211 x0 x1 h o1 i0 hz9) ?_
  split at hs1
  · rename_i v2 h3 f4
    refine Or.inl ⟨_, _, f4, ?_⟩
    show am_W X _ 210 7 _ [(.int v2), (.int 0), x2] h3 _
    refine aw_i2l (v := (Int32.toInt64 v2)) (pc1 := 8) at_210_7 rfl rfl ?_
    obtain ⟨h5, e6, hs2⟩ := am_bind hs1
    clear hs1
    refine aw_pSL (pc1 := 9) at_210_8 e6 rfl ?_
    refine aw_goto at_210_9 ?_
    refine aw_iconst (v := 0) (pc1 := 16) at_210_15 (by decide) rfl ?_
    cases hs2
    exact aw_iret at_210_16 (by rw [rt_210]; rfl) rfl
  · rename_i h7 f8
    refine Or.inr ⟨_, _, 13, 3, f8, rfl, hn_210, hd_210_4_2, ?_⟩
    exact rg_210_13 h7 o   hs1
  · cases hs1
def fm_210 (y0 : Value) (y1 : Int32) (y2 : Value) (h : am_H) : Option am_O := fg_210_0 y0 y1 y2 h
theorem rm_210 {X : am_X} {d : Nat} (y0 : Value) (y1 : Int32) (y2 : Value) (h : am_H) (o : am_O) (i0 : am_isR y0 = true) (i2 : am_isR y2 = true) (hs : fm_210 y0 y1 y2 h = some o) : am_W X (d + 2) 210 0 (am_args 0 [y0, .int y1, y2]) [] h (fun q => q = o) := by
  rw [am_args_R i0, am_args_I, am_args_R i2]
  exact rg_210_0 y0 y1 y2 h o rfl rfl rfl i0 i2 hs
def fg_499_34 (s0 : Int32) (h : am_H) : Option am_O := some (.inl (some (.int s0), h))
theorem rg_499_34 {X : am_X} {d : Nat} {lv : am_LV} (s0 : Int32) (h : am_H) (o : am_O) (hs : fg_499_34 s0 h = some o) : am_W X (d + 2) 499 34 lv [(.int s0)] h (fun q => q = o) := by
  unfold fg_499_34 at hs
  cases hs
  exact aw_iret at_499_34 (by rw [rt_499]; rfl) rfl
def fg_499_14 (x0 : Value) (x1 : Int32) (s0 : Value) (s1 : Int32) (h : am_H) : Option am_O := ((am_pP 3072 s0 (.int s1) h).bind fun h1 => ((am_vI (am_pG 3072 x0 h1)).bind fun v3 => (if v3 ≤ 0 then ((am_vR (am_pG 3170 x0 h1)).bind fun v6 => ((am_pA 0 v6 x1 h1).bind fun v8 => (fg_499_34 v8 h1))) else (fg_499_34 0 h1))))
theorem rg_499_14 {X : am_X} {d : Nat} {lv : am_LV} (x0 : Value) (x1 : Int32) (s0 : Value) (s1 : Int32) (h : am_H) (o : am_O) (l0 : lv.lookup 0 = some x0) (l1 : lv.lookup 1 = some (.int x1)) (i0 : am_isR x0 = true) (j0 : am_isR s0 = true) (hs : fg_499_14 x0 x1 s0 s1 h = some o) : am_W X (d + 2) 499 14 lv [(.int s1), s0] h (fun q => q = o) := by
  unfold fg_499_14 at hs
  obtain ⟨h1, e2, hs1⟩ := am_bind hs
  clear hs
  refine aw_pP (pc1 := 17) at_499_14 e2 rfl ?_
  refine aw_vload_n (pc1 := 18) at_499_17 l0 i0 rfl ?_
  obtain ⟨v3, e4, hs2⟩ := am_bind hs1
  clear hs1
  refine aw_pG (pc1 := 21) at_499_18 (am_vI_s e4) rfl ?_
  by_cases c5 : v3 ≤ 0
  · rw [if_pos c5] at hs2
    refine aw_ifle_t at_499_21 c5 ?_
    refine aw_vload_n (pc1 := 29) at_499_28 l0 i0 rfl ?_
    obtain ⟨v6, e7, hs3⟩ := am_bind hs2
    clear hs2
    refine aw_pG (pc1 := 32) at_499_29 (am_vR_s e7).1 rfl ?_
    refine aw_iload_n (pc1 := 33) at_499_32 l1 rfl ?_
    obtain ⟨v8, e9, hs4⟩ := am_bind hs3
    clear hs3
    refine aw_pA (pc1 := 34) at_499_33 (Or.inl ⟨rfl, rfl⟩) e9 rfl ?_
    exact rg_499_34 v8 h1 o   hs4
  · rw [if_neg c5] at hs2
    refine aw_ifle_f (pc1 := 24) at_499_21 c5 rfl ?_
    refine aw_iconst (v := 0) (pc1 := 25) at_499_24 (by decide) rfl ?_
    refine aw_goto at_499_25 ?_
    exact rg_499_34 0 h1 o   hs2
def fg_499_0 (x0 : Value) (x1 : Int32) (h : am_H) : Option am_O := (if am_pOk 12 x0 h then am_cI true (fm_489 x0 x1 h) (fun v2 h3 => (if v2 = 0 then (fg_499_14 x0 x1 x0 1 h3) else (fg_499_14 x0 x1 x0 0 h3))) else none)
theorem rg_499_0 {X : am_X} {d : Nat} {lv : am_LV} (x0 : Value) (x1 : Int32) (h : am_H) (o : am_O) (l0 : lv.lookup 0 = some x0) (l1 : lv.lookup 1 = some (.int x1)) (i0 : am_isR x0 = true) (hs : fg_499_0 x0 x1 h = some o) : am_W X (d + 2) 499 0 lv [] h (fun q => q = o) := by
  unfold fg_499_0 at hs
  refine aw_vload_n (pc1 := 1) at_499_0 l0 i0 rfl ?_
  refine aw_vload_n (pc1 := 2) at_499_1 l0 i0 rfl ?_
  refine aw_iload_n (pc1 := 3) at_499_2 l1 rfl ?_
  obtain ⟨z1, hs1⟩ := am_ift hs
  clear hs
  refine aw_call (F := fm_489 x0 x1 h) (t := true) (na := 2) (kd := 1) (as := [x0, (.int x1)]) at_499_3 (am_k3v kb_489) mn_489 mk_489 rfl rfl (am_ok_v mi_489 (am_hl rfl (am_ccR i0 (am_ccI am_cats_0)) rfl) z1) (am_hc (am_ccR i0 am_cats_0) rfl) (fun _ => ⟨rfl, hh_499⟩) (fun o1 hz9 => rm_489 x0 x1 h o1 i0 hz9) ?_
  rcases am_cI_s hs1 with ⟨v2, h3, f4, hs2⟩ | hs2
  · clear hs1
    refine Or.inl ⟨_, _, f4, ?_⟩
    show am_W X _ 499 6 _ [(.int v2), x0] h3 _
    by_cases c5 : v2 = 0
    · rw [if_pos c5] at hs2
      refine aw_ifeq_t at_499_6 c5 ?_
      refine aw_iconst (v := 1) (pc1 := 14) at_499_13 (by decide) rfl ?_
      exact rg_499_14 x0 x1 x0 1 h3 o l0 l1 i0 i0 hs2
    · rw [if_neg c5] at hs2
      refine aw_ifeq_f (pc1 := 9) at_499_6 c5 rfl ?_
      refine aw_iconst (v := 0) (pc1 := 10) at_499_9 (by decide) rfl ?_
      refine aw_goto at_499_10 ?_
      exact rg_499_14 x0 x1 x0 0 h3 o l0 l1 i0 i0 hs2
  · clear hs1
    exact Or.inr hs2
def fm_499 (y0 : Value) (y1 : Int32) (h : am_H) : Option am_O := fg_499_0 y0 y1 h
theorem rm_499 {X : am_X} {d : Nat} (y0 : Value) (y1 : Int32) (h : am_H) (o : am_O) (i0 : am_isR y0 = true) (hs : fm_499 y0 y1 h = some o) : am_W X (d + 2) 499 0 (am_args 0 [y0, .int y1]) [] h (fun q => q = o) := by
  rw [am_args_R i0, am_args_I]
  exact rg_499_0 y0 y1 h o rfl rfl i0 hs
def fg_214_12 (h : am_H) : Option am_O := some (.inr (2, h ++ [am_dummy]))
theorem rg_214_12 {X : am_X} {d : Nat} {lv : am_LV} (h : am_H) (o : am_O) (hs : fg_214_12 h = some o) : am_W X (d) 214 12 lv [] h (fun q => q = o) := by
  unfold fg_214_12 at hs
  cases hs
  exact aw_throw at_214_12 rfl th_214_12 (am_hc am_cats_0 rfl) rfl
def fg_214_0 (x1 : Value) (x2 : Int32) (h : am_H) : Option am_O := (if x2 < 0 then (fg_214_12 h) else ((am_vI (am_pG 256 x1 h)).bind fun v2 => (if x2 < v2 then ((am_vR (am_pG 257 x1 h)).bind fun v5 => ((am_pA 0 v5 x2 h).bind fun v7 => some (.inl (some (.int v7), h)))) else (fg_214_12 h))))
theorem rg_214_0 {X : am_X} {d : Nat} {lv : am_LV} (x1 : Value) (x2 : Int32) (h : am_H) (o : am_O) (l1 : lv.lookup 1 = some x1) (l2 : lv.lookup 2 = some (.int x2)) (i1 : am_isR x1 = true) (hs : fg_214_0 x1 x2 h = some o) : am_W X (d) 214 0 lv [] h (fun q => q = o) := by
  unfold fg_214_0 at hs
  refine aw_iload_n (pc1 := 1) at_214_0 l2 rfl ?_
  by_cases c1 : x2 < 0
  · rw [if_pos c1] at hs
    refine aw_iflt_t at_214_1 c1 ?_
    exact rg_214_12 h o   hs
  · rw [if_neg c1] at hs
    refine aw_iflt_f (pc1 := 4) at_214_1 c1 rfl ?_
    refine aw_iload_n (pc1 := 5) at_214_4 l2 rfl ?_
    refine aw_vload_n (pc1 := 6) at_214_5 l1 i1 rfl ?_
    obtain ⟨v2, e3, hs1⟩ := am_bind hs
    clear hs
    refine aw_pG (pc1 := 9) at_214_6 (am_vI_s e3) rfl ?_
    by_cases c4 : x2 < v2
    · rw [if_pos c4] at hs1
      refine aw_iclt_t at_214_9 c4 ?_
      refine aw_vload_n (pc1 := 24) at_214_23 l1 i1 rfl ?_
      obtain ⟨v5, e6, hs2⟩ := am_bind hs1
      clear hs1
      refine aw_pG (pc1 := 27) at_214_24 (am_vR_s e6).1 rfl ?_
      refine aw_iload_n (pc1 := 28) at_214_27 l2 rfl ?_
      obtain ⟨v7, e8, hs3⟩ := am_bind hs2
      clear hs2
      refine aw_pA (pc1 := 29) at_214_28 (Or.inl ⟨rfl, rfl⟩) e8 rfl ?_
      cases hs3
      exact aw_iret at_214_29 (by rw [rt_214]; rfl) rfl
    · rw [if_neg c4] at hs1
      refine aw_iclt_f (pc1 := 12) at_214_9 c4 rfl ?_
      exact rg_214_12 h o   hs1
def fm_214 (y0 : Value) (y1 : Value) (y2 : Int32) (h : am_H) : Option am_O := fg_214_0 y1 y2 h
theorem rm_214 {X : am_X} {d : Nat} (y0 : Value) (y1 : Value) (y2 : Int32) (h : am_H) (o : am_O) (i0 : am_isR y0 = true) (i1 : am_isR y1 = true) (hs : fm_214 y0 y1 y2 h = some o) : am_W X (d) 214 0 (am_args 0 [y0, y1, .int y2]) [] h (fun q => q = o) := by
  rw [am_args_R i0, am_args_R i1, am_args_I]
  exact rg_214_0 y1 y2 h o rfl rfl i1 hs
def fg_213_0 (x0 : Value) (x1 : Int32) (x2 : Int32) (h : am_H) : Option am_O := (if am_pOk 11 x0 h then am_cR true (fm_201 x0 x1 h) (fun v2 h3 => (if am_pOk 11 x0 h3 then am_cI true (fm_214 x0 v2 x2 h3) (fun v6 h7 => some (.inl (some (.int v6), h7))) else none)) else none)
theorem rg_213_0 {X : am_X} {d : Nat} {lv : am_LV} (x0 : Value) (x1 : Int32) (x2 : Int32) (h : am_H) (o : am_O) (l0 : lv.lookup 0 = some x0) (l1 : lv.lookup 1 = some (.int x1)) (l2 : lv.lookup 2 = some (.int x2)) (i0 : am_isR x0 = true) (hs : fg_213_0 x0 x1 x2 h = some o) : am_W X (d + 1) 213 0 lv [] h (fun q => q = o) := by
  unfold fg_213_0 at hs
  refine aw_vload_n (pc1 := 1) at_213_0 l0 i0 rfl ?_
  refine aw_vload_n (pc1 := 2) at_213_1 l0 i0 rfl ?_
  refine aw_iload_n (pc1 := 3) at_213_2 l1 rfl ?_
  obtain ⟨z1, hs1⟩ := am_ift hs
  clear hs
  refine aw_call (F := fm_201 x0 x1 h) (t := true) (na := 2) (kd := 1) (as := [x0, (.int x1)]) at_213_3 (am_k3v kb_201) mn_201 mk_201 rfl rfl (am_ok_v mi_201 (am_hl rfl (am_ccR i0 (am_ccI am_cats_0)) rfl) z1) (am_hc (am_ccR i0 am_cats_0) rfl) (fun _ => ⟨rfl, hh_213⟩) (fun o1 hz9 => rm_201 x0 x1 h o1 i0 hz9) ?_
  rcases am_cR_s hs1 with ⟨v2, h3, f4, iv2, hs2⟩ | hs2
  · clear hs1
    refine Or.inl ⟨_, _, f4, ?_⟩
    show am_W X _ 213 6 _ [v2, x0] h3 _
    refine aw_iload_n (pc1 := 7) at_213_6 l2 rfl ?_
    obtain ⟨z5, hs3⟩ := am_ift hs2
    clear hs2
    refine aw_call (F := fm_214 x0 v2 x2 h3) (t := true) (na := 3) (kd := 1) (as := [x0, v2, (.int x2)]) at_213_7 (am_k3v kb_214) mn_214 mk_214 rfl rfl (am_ok_v mi_214 (am_hl rfl (am_ccR i0 (am_ccR iv2 (am_ccI am_cats_0))) rfl) z5) (am_hc am_cats_0 rfl) (fun _ => ⟨rfl, hh_213⟩) (fun o1 hz9 => rm_214 x0 v2 x2 h3 o1 i0 iv2 hz9) ?_
    rcases am_cI_s hs3 with ⟨v6, h7, f8, hs4⟩ | hs4
    · clear hs3
      refine Or.inl ⟨_, _, f8, ?_⟩
      show am_W X _ 213 10 _ [(.int v6)] h7 _
      cases hs4
      exact aw_iret at_213_10 (by rw [rt_213]; rfl) rfl
    · clear hs3
      exact Or.inr hs4
  · clear hs1
    exact Or.inr hs2
def fm_213 (y0 : Value) (y1 : Int32) (y2 : Int32) (h : am_H) : Option am_O := fg_213_0 y0 y1 y2 h
theorem rm_213 {X : am_X} {d : Nat} (y0 : Value) (y1 : Int32) (y2 : Int32) (h : am_H) (o : am_O) (i0 : am_isR y0 = true) (hs : fm_213 y0 y1 y2 h = some o) : am_W X (d + 1) 213 0 (am_args 0 [y0, .int y1, .int y2]) [] h (fun q => q = o) := by
  rw [am_args_R i0, am_args_I, am_args_I]
  exact rg_213_0 y0 y1 y2 h o rfl rfl rfl i0 hs
def fg_212_15 (h : am_H) : Option am_O := some (.inl (some (.int 1), h))
theorem rg_212_15 {X : am_X} {d : Nat} {lv : am_LV} (h : am_H) (o : am_O) (hs : fg_212_15 h = some o) : am_W X (d + 2) 212 15 lv [] h (fun q => q = o) := by
  unfold fg_212_15 at hs
  refine aw_iconst (v := 1) (pc1 := 16) at_212_15 (by decide) rfl ?_
  cases hs
  exact aw_iret at_212_16 (by rw [rt_212]; rfl) rfl
def fg_212_0 (x0 : Value) (x1 : Int32) (x2 : Int32) (x3 : Value) (h : am_H) : Option am_O := (if am_pOk 11 x0 h then (match fm_213 x0 x1 x2 h with | some (.inl (some (.int v2), h3)) => ((am_pSL x3 0 (Int32.toInt64 v2) h3).bind fun h5 => some (.inl (some (.int 0), h5))) | some (.inr (2, h7)) => (fg_212_15 h7) | _ => none) else none)
theorem rg_212_0 {X : am_X} {d : Nat} {lv : am_LV} (x0 : Value) (x1 : Int32) (x2 : Int32) (x3 : Value) (h : am_H) (o : am_O) (l0 : lv.lookup 0 = some x0) (l1 : lv.lookup 1 = some (.int x1)) (l2 : lv.lookup 2 = some (.int x2)) (l3 : lv.lookup 3 = some x3) (i0 : am_isR x0 = true) (i3 : am_isR x3 = true) (hs : fg_212_0 x0 x1 x2 x3 h = some o) : am_W X (d + 2) 212 0 lv [] h (fun q => q = o) := by
  unfold fg_212_0 at hs
  refine aw_vload_n (pc1 := 1) at_212_0 l3 i3 rfl ?_
  refine aw_iconst (v := 0) (pc1 := 2) at_212_1 (by decide) rfl ?_
  refine aw_vload_n (pc1 := 3) at_212_2 l0 i0 rfl ?_
  refine aw_iload_n (pc1 := 4) at_212_3 l1 rfl ?_
  refine aw_iload_n (pc1 := 5) at_212_4 l2 rfl ?_
  obtain ⟨z1, hs1⟩ := am_ift hs
  clear hs
  refine aw_callH (F := fm_213 x0 x1 x2 h) (na := 3) (kd := 1) (as := [x0, (.int x1), (.int x2)]) at_212_5 (am_k3v kb_213) mn_213 mk_213 rfl rfl (am_ok_v mi_213 (am_hl rfl (am_ccR i0 (am_ccI (am_ccI am_cats_0))) rfl) z1) (am_hc (am_ccI (am_ccR i3 am_cats_0)) rfl) (fun o1 hz9 => rm_213 x0 x1 x2 h o1 i0 hz9) ?_
  split at hs1
  · rename_i v2 h3 f4
    refine Or.inl ⟨_, _, f4, ?_⟩
    show am_W X _ 212 8 _ [(.int v2), (.int 0), x3] h3 _
    refine aw_i2l (v := (Int32.toInt64 v2)) (pc1 := 9) at_212_8 rfl rfl ?_
    obtain ⟨h5, e6, hs2⟩ := am_bind hs1
    clear hs1
    refine aw_pSL (pc1 := 10) at_212_9 e6 rfl ?_
    refine aw_goto at_212_10 ?_
    refine aw_iconst (v := 0) (pc1 := 18) at_212_17 (by decide) rfl ?_
    cases hs2
    exact aw_iret at_212_18 (by rw [rt_212]; rfl) rfl
  · rename_i h7 f8
    refine Or.inr ⟨_, _, 15, 4, f8, rfl, hn_212, hd_212_5_2, ?_⟩
    exact rg_212_15 h7 o   hs1
  · cases hs1
def fm_212 (y0 : Value) (y1 : Int32) (y2 : Int32) (y3 : Value) (h : am_H) : Option am_O := fg_212_0 y0 y1 y2 y3 h
theorem rm_212 {X : am_X} {d : Nat} (y0 : Value) (y1 : Int32) (y2 : Int32) (y3 : Value) (h : am_H) (o : am_O) (i0 : am_isR y0 = true) (i3 : am_isR y3 = true) (hs : fm_212 y0 y1 y2 y3 h = some o) : am_W X (d + 2) 212 0 (am_args 0 [y0, .int y1, .int y2, y3]) [] h (fun q => q = o) := by
  rw [am_args_R i0, am_args_I, am_args_I, am_args_R i3]
  exact rg_212_0 y0 y1 y2 y3 h o rfl rfl rfl rfl i0 i3 hs
def fg_501_43 (s0 : Int32) (h : am_H) : Option am_O := (if am_rfit (some FieldType.boolean) s0 then some (.inl (some (.int s0), h)) else none)
theorem rg_501_43 {X : am_X} {d : Nat} {lv : am_LV} (s0 : Int32) (h : am_H) (o : am_O) (hs : fg_501_43 s0 h = some o) : am_W X (d + 2) 501 43 lv [(.int s0)] h (fun q => q = o) := by
  unfold fg_501_43 at hs
  obtain ⟨z1, hs1⟩ := am_ift hs
  clear hs
  cases hs1
  exact aw_iret at_501_43 (by rw [rt_501]; exact z1) rfl
def fg_501_42 (h : am_H) : Option am_O := (fg_501_43 0 h)
theorem rg_501_42 {X : am_X} {d : Nat} {lv : am_LV} (h : am_H) (o : am_O) (hs : fg_501_42 h = some o) : am_W X (d + 2) 501 42 lv [] h (fun q => q = o) := by
  unfold fg_501_42 at hs
  refine aw_iconst (v := 0) (pc1 := 43) at_501_42 (by decide) rfl ?_
  exact rg_501_43 0 h o   hs
def fg_501_28 (s0 : Int64) (s1 : Int64) (s2 : Value) (s3 : Int32) (h : am_H) : Option am_O := ((am_pA 0 s2 s3 h).bind fun v1 => am_cI false (fm_327 s0 s1 (((Int32.toInt64 v1) - 1)) h) (fun v3 h4 => (if v3 = 0 then (fg_501_42 h4) else (fg_501_43 1 h4))))
theorem rg_501_28 {X : am_X} {d : Nat} {lv : am_LV} (s0 : Int64) (s1 : Int64) (s2 : Value) (s3 : Int32) (h : am_H) (o : am_O) (j2 : am_isR s2 = true) (hs : fg_501_28 s0 s1 s2 s3 h = some o) : am_W X (d + 2) 501 28 lv [(.int s3), s2, (.long s1), (.long s0)] h (fun q => q = o) := by
  unfold fg_501_28 at hs
  obtain ⟨v1, e2, hs1⟩ := am_bind hs
  clear hs
  refine aw_pA (pc1 := 29) at_501_28 (Or.inl ⟨rfl, rfl⟩) e2 rfl ?_
  refine aw_i2l (v := (Int32.toInt64 v1)) (pc1 := 30) at_501_29 rfl rfl ?_
  refine aw_lconst (v := 1) (pc1 := 31) at_501_30 (by decide) rfl ?_
  refine aw_lsub (v := ((Int32.toInt64 v1) - 1)) (pc1 := 32) at_501_31 rfl rfl ?_
  refine aw_call (F := fm_327 s0 s1 (((Int32.toInt64 v1) - 1)) h) (t := false) (na := 3) (kd := 0) (as := [(.long s0), (.long s1), (.long ((Int32.toInt64 v1) - 1))]) at_501_32 (am_k3s kb_327) mn_327 mk_327 rfl rfl (am_ok_s mi_327 (am_hl rfl (am_ccL (am_ccL (am_ccL am_cats_0))) rfl)) (am_hc am_cats_0 rfl) (fun hz9 => by cases hz9) (fun o1 hz9 => rm_327 s0 s1 (((Int32.toInt64 v1) - 1)) h o1  hz9) ?_
  rcases am_cI_s hs1 with ⟨v3, h4, f5, hs2⟩ | hs2
  · clear hs1
    refine Or.inl ⟨_, _, f5, ?_⟩
    show am_W X _ 501 35 _ [(.int v3)] h4 _
    by_cases c6 : v3 = 0
    · rw [if_pos c6] at hs2
      refine aw_ifeq_t at_501_35 c6 ?_
      exact rg_501_42 h4 o   hs2
    · rw [if_neg c6] at hs2
      refine aw_ifeq_f (pc1 := 38) at_501_35 c6 rfl ?_
      refine aw_iconst (v := 1) (pc1 := 39) at_501_38 (by decide) rfl ?_
      refine aw_goto at_501_39 ?_
      exact rg_501_43 1 h4 o   hs2
  · clear hs1
    exact Or.inr hs2
def fg_501_0 (x0 : Value) (x1 : Int32) (x2 : Int32) (h : am_H) : Option am_O := (if am_pOk 12 x0 h then am_cI true (fm_489 x0 x1 h) (fun v2 h3 => (if v2 = 0 then (fg_501_42 h3) else ((am_vR (am_pG 3170 x0 h3)).bind fun v6 => (if am_pOk 12 x0 h3 then am_cI true (fm_489 x0 x1 h3) (fun v9 h10 => (if v9 = 0 then (fg_501_28 ((Int32.toInt64 x2)) 0 v6 0 h10) else (fg_501_28 ((Int32.toInt64 x2)) 0 v6 x1 h10))) else none)))) else none)
theorem rg_501_0 {X : am_X} {d : Nat} {lv : am_LV} (x0 : Value) (x1 : Int32) (x2 : Int32) (h : am_H) (o : am_O) (l0 : lv.lookup 0 = some x0) (l1 : lv.lookup 1 = some (.int x1)) (l2 : lv.lookup 2 = some (.int x2)) (i0 : am_isR x0 = true) (hs : fg_501_0 x0 x1 x2 h = some o) : am_W X (d + 2) 501 0 lv [] h (fun q => q = o) := by
  unfold fg_501_0 at hs
  refine aw_vload_n (pc1 := 1) at_501_0 l0 i0 rfl ?_
  refine aw_iload_n (pc1 := 2) at_501_1 l1 rfl ?_
  obtain ⟨z1, hs1⟩ := am_ift hs
  clear hs
  refine aw_call (F := fm_489 x0 x1 h) (t := true) (na := 2) (kd := 1) (as := [x0, (.int x1)]) at_501_2 (am_k3v kb_489) mn_489 mk_489 rfl rfl (am_ok_v mi_489 (am_hl rfl (am_ccR i0 (am_ccI am_cats_0)) rfl) z1) (am_hc am_cats_0 rfl) (fun _ => ⟨rfl, hh_501⟩) (fun o1 hz9 => rm_489 x0 x1 h o1 i0 hz9) ?_
  rcases am_cI_s hs1 with ⟨v2, h3, f4, hs2⟩ | hs2
  · clear hs1
    refine Or.inl ⟨_, _, f4, ?_⟩
    show am_W X _ 501 5 _ [(.int v2)] h3 _
    by_cases c5 : v2 = 0
    · rw [if_pos c5] at hs2
      refine aw_ifeq_t at_501_5 c5 ?_
      exact rg_501_42 h3 o   hs2
    · rw [if_neg c5] at hs2
      refine aw_ifeq_f (pc1 := 8) at_501_5 c5 rfl ?_
      refine aw_iload_n (pc1 := 9) at_501_8 l2 rfl ?_
      refine aw_i2l (v := (Int32.toInt64 x2)) (pc1 := 10) at_501_9 rfl rfl ?_
      refine aw_lconst (v := 0) (pc1 := 11) at_501_10 (by decide) rfl ?_
      refine aw_vload_n (pc1 := 12) at_501_11 l0 i0 rfl ?_
      obtain ⟨v6, e7, hs3⟩ := am_bind hs2
      clear hs2
      refine aw_pG (pc1 := 15) at_501_12 (am_vR_s e7).1 rfl ?_
      refine aw_vload_n (pc1 := 16) at_501_15 l0 i0 rfl ?_
      refine aw_iload_n (pc1 := 17) at_501_16 l1 rfl ?_
      obtain ⟨z8, hs4⟩ := am_ift hs3
      clear hs3
      refine aw_call (F := fm_489 x0 x1 h3) (t := true) (na := 2) (kd := 1) (as := [x0, (.int x1)]) at_501_17 (am_k3v kb_489) mn_489 mk_489 rfl rfl (am_ok_v mi_489 (am_hl rfl (am_ccR i0 (am_ccI am_cats_0)) rfl) z8) (am_hc (am_ccR (am_vR_s e7).2 (am_ccL (am_ccL am_cats_0))) rfl) (fun _ => ⟨rfl, hh_501⟩) (fun o1 hz9 => rm_489 x0 x1 h3 o1 i0 hz9) ?_
      rcases am_cI_s hs4 with ⟨v9, h10, f11, hs5⟩ | hs5
      · clear hs4
        refine Or.inl ⟨_, _, f11, ?_⟩
        show am_W X _ 501 20 _ [(.int v9), v6, (.long 0), (.long (Int32.toInt64 x2))] h10 _
        by_cases c12 : v9 = 0
        · rw [if_pos c12] at hs5
          refine aw_ifeq_t at_501_20 c12 ?_
          refine aw_iconst (v := 0) (pc1 := 28) at_501_27 (by decide) rfl ?_
          exact rg_501_28 ((Int32.toInt64 x2)) 0 v6 0 h10 o  (am_vR_s e7).2 hs5
        · rw [if_neg c12] at hs5
          refine aw_ifeq_f (pc1 := 23) at_501_20 c12 rfl ?_
          refine aw_iload_n (pc1 := 24) at_501_23 l1 rfl ?_
          refine aw_goto at_501_24 ?_
          exact rg_501_28 ((Int32.toInt64 x2)) 0 v6 x1 h10 o  (am_vR_s e7).2 hs5
      · clear hs4
        exact Or.inr hs5
  · clear hs1
    exact Or.inr hs2
def fm_501 (y0 : Value) (y1 : Int32) (y2 : Int32) (h : am_H) : Option am_O := fg_501_0 y0 y1 y2 h
theorem rm_501 {X : am_X} {d : Nat} (y0 : Value) (y1 : Int32) (y2 : Int32) (h : am_H) (o : am_O) (i0 : am_isR y0 = true) (hs : fm_501 y0 y1 y2 h = some o) : am_W X (d + 2) 501 0 (am_args 0 [y0, .int y1, .int y2]) [] h (fun q => q = o) := by
  rw [am_args_R i0, am_args_I, am_args_I]
  exact rg_501_0 y0 y1 y2 h o rfl rfl rfl i0 hs
def fg_500_40 (s0 : Int32) (h : am_H) : Option am_O := some (.inl (some (.int s0), h))
theorem rg_500_40 {X : am_X} {d : Nat} {lv : am_LV} (s0 : Int32) (h : am_H) (o : am_O) (hs : fg_500_40 s0 h = some o) : am_W X (d + 3) 500 40 lv [(.int s0)] h (fun q => q = o) := by
  unfold fg_500_40 at hs
  cases hs
  exact aw_iret at_500_40 (by rw [rt_500]; rfl) rfl
def fg_500_15 (x0 : Value) (x1 : Int32) (x2 : Int32) (s0 : Value) (s1 : Int32) (h : am_H) : Option am_O := ((am_pP 3072 s0 (.int s1) h).bind fun h1 => ((am_vI (am_pG 3072 x0 h1)).bind fun v3 => (if v3 ≤ 0 then ((am_vR (am_pG 3171 x0 h1)).bind fun v6 => ((am_pA 0 v6 ((16 * x1) + x2) h1).bind fun v8 => (fg_500_40 v8 h1))) else (fg_500_40 0 h1))))
theorem rg_500_15 {X : am_X} {d : Nat} {lv : am_LV} (x0 : Value) (x1 : Int32) (x2 : Int32) (s0 : Value) (s1 : Int32) (h : am_H) (o : am_O) (l0 : lv.lookup 0 = some x0) (l1 : lv.lookup 1 = some (.int x1)) (l2 : lv.lookup 2 = some (.int x2)) (i0 : am_isR x0 = true) (j0 : am_isR s0 = true) (hs : fg_500_15 x0 x1 x2 s0 s1 h = some o) : am_W X (d + 3) 500 15 lv [(.int s1), s0] h (fun q => q = o) := by
  unfold fg_500_15 at hs
  obtain ⟨h1, e2, hs1⟩ := am_bind hs
  clear hs
  refine aw_pP (pc1 := 18) at_500_15 e2 rfl ?_
  refine aw_vload_n (pc1 := 19) at_500_18 l0 i0 rfl ?_
  obtain ⟨v3, e4, hs2⟩ := am_bind hs1
  clear hs1
  refine aw_pG (pc1 := 22) at_500_19 (am_vI_s e4) rfl ?_
  by_cases c5 : v3 ≤ 0
  · rw [if_pos c5] at hs2
    refine aw_ifle_t at_500_22 c5 ?_
    refine aw_vload_n (pc1 := 30) at_500_29 l0 i0 rfl ?_
    obtain ⟨v6, e7, hs3⟩ := am_bind hs2
    clear hs2
    refine aw_pG (pc1 := 33) at_500_30 (am_vR_s e7).1 rfl ?_
    refine aw_bipush (v := 16) (pc1 := 35) at_500_33 (by decide) rfl ?_
    refine aw_iload_n (pc1 := 36) at_500_35 l1 rfl ?_
    refine aw_imul (v := (16 * x1)) (pc1 := 37) at_500_36 rfl rfl ?_
    refine aw_iload_n (pc1 := 38) at_500_37 l2 rfl ?_
    refine aw_iadd (v := ((16 * x1) + x2)) (pc1 := 39) at_500_38 rfl rfl ?_
    obtain ⟨v8, e9, hs4⟩ := am_bind hs3
    clear hs3
    refine aw_pA (pc1 := 40) at_500_39 (Or.inl ⟨rfl, rfl⟩) e9 rfl ?_
    exact rg_500_40 v8 h1 o   hs4
  · rw [if_neg c5] at hs2
    refine aw_ifle_f (pc1 := 25) at_500_22 c5 rfl ?_
    refine aw_iconst (v := 0) (pc1 := 26) at_500_25 (by decide) rfl ?_
    refine aw_goto at_500_26 ?_
    exact rg_500_40 0 h1 o   hs2
def fg_500_0 (x0 : Value) (x1 : Int32) (x2 : Int32) (h : am_H) : Option am_O := (if am_pOk 12 x0 h then am_cI true (fm_501 x0 x1 x2 h) (fun v2 h3 => (if v2 = 0 then (fg_500_15 x0 x1 x2 x0 1 h3) else (fg_500_15 x0 x1 x2 x0 0 h3))) else none)
theorem rg_500_0 {X : am_X} {d : Nat} {lv : am_LV} (x0 : Value) (x1 : Int32) (x2 : Int32) (h : am_H) (o : am_O) (l0 : lv.lookup 0 = some x0) (l1 : lv.lookup 1 = some (.int x1)) (l2 : lv.lookup 2 = some (.int x2)) (i0 : am_isR x0 = true) (hs : fg_500_0 x0 x1 x2 h = some o) : am_W X (d + 3) 500 0 lv [] h (fun q => q = o) := by
  unfold fg_500_0 at hs
  refine aw_vload_n (pc1 := 1) at_500_0 l0 i0 rfl ?_
  refine aw_vload_n (pc1 := 2) at_500_1 l0 i0 rfl ?_
  refine aw_iload_n (pc1 := 3) at_500_2 l1 rfl ?_
  refine aw_iload_n (pc1 := 4) at_500_3 l2 rfl ?_
  obtain ⟨z1, hs1⟩ := am_ift hs
  clear hs
  refine aw_call (F := fm_501 x0 x1 x2 h) (t := true) (na := 3) (kd := 1) (as := [x0, (.int x1), (.int x2)]) at_500_4 (am_k3v kb_501) mn_501 mk_501 rfl rfl (am_ok_v mi_501 (am_hl rfl (am_ccR i0 (am_ccI (am_ccI am_cats_0))) rfl) z1) (am_hc (am_ccR i0 am_cats_0) rfl) (fun _ => ⟨rfl, hh_500⟩) (fun o1 hz9 => rm_501 x0 x1 x2 h o1 i0 hz9) ?_
  rcases am_cI_s hs1 with ⟨v2, h3, f4, hs2⟩ | hs2
  · clear hs1
    refine Or.inl ⟨_, _, f4, ?_⟩
    show am_W X _ 500 7 _ [(.int v2), x0] h3 _
    by_cases c5 : v2 = 0
    · rw [if_pos c5] at hs2
      refine aw_ifeq_t at_500_7 c5 ?_
      refine aw_iconst (v := 1) (pc1 := 15) at_500_14 (by decide) rfl ?_
      exact rg_500_15 x0 x1 x2 x0 1 h3 o l0 l1 l2 i0 i0 hs2
    · rw [if_neg c5] at hs2
      refine aw_ifeq_f (pc1 := 10) at_500_7 c5 rfl ?_
      refine aw_iconst (v := 0) (pc1 := 11) at_500_10 (by decide) rfl ?_
      refine aw_goto at_500_11 ?_
      exact rg_500_15 x0 x1 x2 x0 0 h3 o l0 l1 l2 i0 i0 hs2
  · clear hs1
    exact Or.inr hs2
def fm_500 (y0 : Value) (y1 : Int32) (y2 : Int32) (h : am_H) : Option am_O := fg_500_0 y0 y1 y2 h
theorem rm_500 {X : am_X} {d : Nat} (y0 : Value) (y1 : Int32) (y2 : Int32) (h : am_H) (o : am_O) (i0 : am_isR y0 = true) (hs : fm_500 y0 y1 y2 h = some o) : am_W X (d + 3) 500 0 (am_args 0 [y0, .int y1, .int y2]) [] h (fun q => q = o) := by
  rw [am_args_R i0, am_args_I, am_args_I]
  exact rg_500_0 y0 y1 y2 h o rfl rfl rfl i0 hs
def fg_219_40 (N : Nat) (x2 : Int32) (h : am_H) : Option am_O := some (.inl (some (.int x2), h))
theorem rg_219_40 {X : am_X} {d : Nat} {N : Nat} {lv : am_LV} (x2 : Int32) (h : am_H) (o : am_O) (l2 : lv.lookup 2 = some (.int x2)) (hs : fg_219_40 N x2 h = some o) : am_W X (d + 2) 219 40 lv [] h (fun q => q = o) := by
  unfold fg_219_40 at hs
  refine aw_iload_n (pc1 := 41) at_219_40 l2 rfl ?_
  cases hs
  exact aw_iret at_219_41 (by rw [rt_219]; rfl) rfl
def fg_219_34 (N : Nat) (rec_4 : Value → Value → Int32 → Int32 → am_H → Option am_O) (x0 : Value) (x1 : Value) (x2 : Int32) (x3 : Int32) (h : am_H) : Option am_O := (rec_4 x0 x1 x2 ((x3 + 1)) h)
theorem rg_219_34 {X : am_X} {d : Nat} {N : Nat} {rec_4 : Value → Value → Int32 → Int32 → am_H → Option am_O} (q_4 : ∀ (x0 : Value) (x1 : Value) (x2 : Int32) (x3 : Int32) (h : am_H) (o : am_O), rec_4 x0 x1 x2 x3 h = some o → ∀ lv : am_LV, (lv.lookup 0 = some x0) → (lv.lookup 1 = some x1) → (lv.lookup 2 = some (.int x2)) → (lv.lookup 3 = some (.int x3)) → (am_isR x0 = true) → (am_isR x1 = true) → am_W X (d + 2) 219 4 lv [] h (fun q => q = o)) {lv : am_LV} (x0 : Value) (x1 : Value) (x2 : Int32) (x3 : Int32) (h : am_H) (o : am_O) (l0 : lv.lookup 0 = some x0) (l1 : lv.lookup 1 = some x1) (l2 : lv.lookup 2 = some (.int x2)) (l3 : lv.lookup 3 = some (.int x3)) (i0 : am_isR x0 = true) (i1 : am_isR x1 = true) (hs : fg_219_34 N rec_4 x0 x1 x2 x3 h = some o) : am_W X (d + 2) 219 34 lv [] h (fun q => q = o) := by
  unfold fg_219_34 at hs
  refine aw_iinc (v := (x3 + 1)) (c := 1) (lv1 := am_put1 _ 3 _) (pc1 := 37) at_219_34 l3 (by decide) rfl rfl rfl ?_
  refine aw_goto at_219_37 ?_
  exact q_4 x0 x1 x2 ((x3 + 1)) h o hs _ (am_lk1 l0 rfl rfl) (am_lk1 l1 rfl rfl) (am_lk1 l2 rfl rfl) am_lk0 i0 i1
def fg_219_4 (N : Nat) : Nat → Value → Value → Int32 → Int32 → am_H → Option am_O
  | 0 => fun _ _ _ _ _ => none
  | K + 1 => fun x0 x1 x2 x3 h => ((am_vI (am_pG 513 x0 h)).bind fun v1 => (if v1 ≤ x3 then (fg_219_40 N x2 h) else ((am_pLen x1 h).bind fun v4 => (if v4 ≤ x2 then (fg_219_40 N x2 h) else (if am_pOk 2 x0 h then am_cI true (fm_141 x0 x3 0 h) (fun v8 h9 => (if v8 = 0 then (fg_219_34 N (fg_219_4 N K) x0 x1 x2 x3 h9) else ((am_pS 0 x1 x2 x3 h9).bind fun h12 => (fg_219_34 N (fg_219_4 N K) x0 x1 ((x2 + 1)) x3 h12)))) else none)))))
theorem rg_219_4 {X : am_X} {d : Nat} {N : Nat} : ∀ (K : Nat) (x0 : Value) (x1 : Value) (x2 : Int32) (x3 : Int32) (h : am_H) (o : am_O), fg_219_4 N K x0 x1 x2 x3 h = some o → ∀ lv : am_LV, (lv.lookup 0 = some x0) → (lv.lookup 1 = some x1) → (lv.lookup 2 = some (.int x2)) → (lv.lookup 3 = some (.int x3)) → (am_isR x0 = true) → (am_isR x1 = true) → am_W X (d + 2) 219 4 lv [] h (fun q => q = o) := by
  intro K
  induction K with
  | zero => intro x0 x1 x2 x3 h o hs; cases hs
  | succ K ih =>
    intro x0 x1 x2 x3 h o hs lv l0 l1 l2 l3 i0 i1
    unfold fg_219_4 at hs
    refine aw_iload_n (pc1 := 5) at_219_4 l3 rfl ?_
    refine aw_vload_n (pc1 := 6) at_219_5 l0 i0 rfl ?_
    obtain ⟨v1, e2, hs1⟩ := am_bind hs
    clear hs
    refine aw_pG (pc1 := 9) at_219_6 (am_vI_s e2) rfl ?_
    by_cases c3 : v1 ≤ x3
    · rw [if_pos c3] at hs1
      refine aw_icge_t at_219_9 c3 ?_
      exact rg_219_40 x2 h o l2  hs1
    · rw [if_neg c3] at hs1
      refine aw_icge_f (pc1 := 12) at_219_9 c3 rfl ?_
      refine aw_iload_n (pc1 := 13) at_219_12 l2 rfl ?_
      refine aw_vload_n (pc1 := 14) at_219_13 l1 i1 rfl ?_
      obtain ⟨v4, e5, hs2⟩ := am_bind hs1
      clear hs1
      refine aw_pLen (pc1 := 15) at_219_14 e5 rfl ?_
      by_cases c6 : v4 ≤ x2
      · rw [if_pos c6] at hs2
        refine aw_icge_t at_219_15 c6 ?_
        exact rg_219_40 x2 h o l2  hs2
      · rw [if_neg c6] at hs2
        refine aw_icge_f (pc1 := 18) at_219_15 c6 rfl ?_
        refine aw_vload_n (pc1 := 19) at_219_18 l0 i0 rfl ?_
        refine aw_iload_n (pc1 := 20) at_219_19 l3 rfl ?_
        refine aw_iconst (v := 0) (pc1 := 21) at_219_20 (by decide) rfl ?_
        obtain ⟨z7, hs3⟩ := am_ift hs2
        clear hs2
        refine aw_call (F := fm_141 x0 x3 0 h) (t := true) (na := 3) (kd := 1) (as := [x0, (.int x3), (.int 0)]) at_219_21 (am_k3v kb_141) mn_141 mk_141 rfl rfl (am_ok_v mi_141 (am_hl rfl (am_ccR i0 (am_ccI (am_ccI am_cats_0))) rfl) z7) (am_hc am_cats_0 rfl) (fun _ => ⟨rfl, hh_219⟩) (fun o1 hz9 => rm_141 x0 x3 0 h o1 i0 hz9) ?_
        rcases am_cI_s hs3 with ⟨v8, h9, f10, hs4⟩ | hs4
        · clear hs3
          refine Or.inl ⟨_, _, f10, ?_⟩
          show am_W X _ 219 24 _ [(.int v8)] h9 _
          by_cases c11 : v8 = 0
          · rw [if_pos c11] at hs4
            refine aw_ifeq_t at_219_24 c11 ?_
            exact rg_219_34 (fun z0 z1 z2 z3 h o hs4 => ih z0 z1 z2 z3 h o hs4) x0 x1 x2 x3 h9 o l0 l1 l2 l3 i0 i1 hs4
          · rw [if_neg c11] at hs4
            refine aw_ifeq_f (pc1 := 27) at_219_24 c11 rfl ?_
            refine aw_vload_n (pc1 := 28) at_219_27 l1 i1 rfl ?_
            refine aw_iload_n (pc1 := 29) at_219_28 l2 rfl ?_
            refine aw_iload_n (pc1 := 30) at_219_29 l3 rfl ?_
            obtain ⟨h12, e13, hs5⟩ := am_bind hs4
            clear hs4
            refine aw_pS (pc1 := 31) at_219_30 (Or.inl ⟨rfl, rfl⟩) e13 rfl ?_
            refine aw_iinc (v := (x2 + 1)) (c := 1) (lv1 := am_put1 _ 2 _) (pc1 := 34) at_219_31 l2 (by decide) rfl rfl rfl ?_
            exact rg_219_34 (fun z0 z1 z2 z3 h o hs5 => ih z0 z1 z2 z3 h o hs5) x0 x1 ((x2 + 1)) x3 h12 o (am_lk1 l0 rfl rfl) (am_lk1 l1 rfl (by rw [am_isRc i1]; rfl)) am_lk0 (am_lk1 l3 rfl rfl) i0 i1 hs5
        · clear hs3
          exact Or.inr hs4
def fg_219_0 (N : Nat) (x0 : Value) (x1 : Value) (h : am_H) : Option am_O := (fg_219_4 N N x0 x1 0 0 h)
theorem rg_219_0 {X : am_X} {d : Nat} {N : Nat} {lv : am_LV} (x0 : Value) (x1 : Value) (h : am_H) (o : am_O) (l0 : lv.lookup 0 = some x0) (l1 : lv.lookup 1 = some x1) (i0 : am_isR x0 = true) (i1 : am_isR x1 = true) (hs : fg_219_0 N x0 x1 h = some o) : am_W X (d + 2) 219 0 lv [] h (fun q => q = o) := by
  unfold fg_219_0 at hs
  refine aw_iconst (v := 0) (pc1 := 1) at_219_0 (by decide) rfl ?_
  refine aw_istore_n (lv1 := am_put1 _ 2 _) (pc1 := 2) at_219_1 rfl rfl ?_
  refine aw_iconst (v := 0) (pc1 := 3) at_219_2 (by decide) rfl ?_
  refine aw_istore_n (lv1 := am_put1 _ 3 _) (pc1 := 4) at_219_3 rfl rfl ?_
  exact rg_219_4 N x0 x1 0 0 h o hs _ (am_lk1 (am_lk1 l0 rfl rfl) rfl rfl) (am_lk1 (am_lk1 l1 rfl (by rw [am_isRc i1]; rfl)) rfl rfl) (am_lk1 am_lk0 rfl rfl) am_lk0 i0 i1
def fm_219 (N : Nat) (y0 : Value) (y1 : Value) (h : am_H) : Option am_O := fg_219_0 N y0 y1 h
theorem rm_219 {X : am_X} {d : Nat} {N : Nat} (y0 : Value) (y1 : Value) (h : am_H) (o : am_O) (i0 : am_isR y0 = true) (i1 : am_isR y1 = true) (hs : fm_219 N y0 y1 h = some o) : am_W X (d + 2) 219 0 (am_args 0 [y0, y1]) [] h (fun q => q = o) := by
  rw [am_args_R i0, am_args_R i1]
  exact rg_219_0 y0 y1 h o rfl rfl i0 i1 hs
def fg_218_160 (N : Nat) (rec_14 : Value → Value → Value → Int32 → am_H → Option am_O) (x0 : Value) (x1 : Value) (x2 : Value) (x3 : Int32) (h : am_H) : Option am_O := (rec_14 x0 x1 x2 ((x3 + 1)) h)
theorem rg_218_160 {X : am_X} {d : Nat} {N : Nat} {rec_14 : Value → Value → Value → Int32 → am_H → Option am_O} (q_14 : ∀ (x0 : Value) (x1 : Value) (x2 : Value) (x3 : Int32) (h : am_H) (o : am_O), rec_14 x0 x1 x2 x3 h = some o → ∀ lv : am_LV, (lv.lookup 0 = some x0) → (lv.lookup 1 = some x1) → (lv.lookup 2 = some x2) → (lv.lookup 3 = some (.int x3)) → (am_isR x0 = true) → (am_isR x1 = true) → (am_isR x2 = true) → am_W X (d + 83) 218 14 lv [] h (fun q => q = o)) {lv : am_LV} (x0 : Value) (x1 : Value) (x2 : Value) (x3 : Int32) (h : am_H) (o : am_O) (l0 : lv.lookup 0 = some x0) (l1 : lv.lookup 1 = some x1) (l2 : lv.lookup 2 = some x2) (l3 : lv.lookup 3 = some (.int x3)) (i0 : am_isR x0 = true) (i1 : am_isR x1 = true) (i2 : am_isR x2 = true) (hs : fg_218_160 N rec_14 x0 x1 x2 x3 h = some o) : am_W X (d + 83) 218 160 lv [] h (fun q => q = o) := by
  unfold fg_218_160 at hs
  refine aw_iinc (v := (x3 + 1)) (c := 1) (lv1 := am_put1 _ 3 _) (pc1 := 163) at_218_160 l3 (by decide) rfl rfl rfl ?_
  refine aw_goto at_218_163 ?_
  exact q_14 x0 x1 x2 ((x3 + 1)) h o hs _ (am_lk1 l0 rfl rfl) (am_lk1 l1 rfl rfl) (am_lk1 l2 rfl (by rw [am_isRc i2]; rfl)) am_lk0 i0 i1 i2
def fg_218_87 (N : Nat) (rec_14 : Value → Value → Value → Int32 → am_H → Option am_O) : Nat → Value → Value → Value → Int32 → Value → Int32 → am_H → Option am_O
  | 0 => fun _ _ _ _ _ _ _ => none
  | K + 1 => fun x0 x1 x2 x3 x5 x6 h => ((am_pZ x5).bind fun b1 => if b1 = true then (fg_218_160 N rec_14 x0 x1 x2 x3 h) else ((am_vI (am_pG 259 x0 h)).bind fun v3 => (if v3 ≤ x6 then (fg_218_160 N rec_14 x0 x1 x2 x3 h) else ((am_vR (am_pG 264 x0 h)).bind fun v6 => ((am_pA 0 v6 x6 h).bind fun v8 => (if am_pOk 2 x2 h then am_cI true (fm_133 N x2 v8 h) (fun v11 h12 => ((am_vR (am_pG 263 x0 h12)).bind fun v14 => ((am_pS 0 v14 ((x3 * 24) + x6) v11 h12).bind fun h16 => ((am_vR (am_pG 261 x0 h16)).bind fun v18 => ((am_pAL v18 x3 h16).bind fun v20 => ((am_vR (am_pG 264 x0 h16)).bind fun v22 => ((am_pA 0 v22 x6 h16).bind fun v24 => (if am_pOk 2 x2 h16 then am_cI true (fm_112 x2 v24 4 h16) (fun v27 h28 => ((am_pSL v18 x3 (v20 + ((Int32.toInt64 v27) * (Int32.toInt64 v11))) h28).bind fun h30 => (fg_218_87 N rec_14 K x0 x1 x2 x3 x5 ((x6 + 1)) h30))) else none)))))))) else none))))))
theorem rg_218_87 {X : am_X} {d : Nat} {N : Nat} {rec_14 : Value → Value → Value → Int32 → am_H → Option am_O} (q_14 : ∀ (x0 : Value) (x1 : Value) (x2 : Value) (x3 : Int32) (h : am_H) (o : am_O), rec_14 x0 x1 x2 x3 h = some o → ∀ lv : am_LV, (lv.lookup 0 = some x0) → (lv.lookup 1 = some x1) → (lv.lookup 2 = some x2) → (lv.lookup 3 = some (.int x3)) → (am_isR x0 = true) → (am_isR x1 = true) → (am_isR x2 = true) → am_W X (d + 83) 218 14 lv [] h (fun q => q = o)) : ∀ (K : Nat) (x0 : Value) (x1 : Value) (x2 : Value) (x3 : Int32) (x5 : Value) (x6 : Int32) (h : am_H) (o : am_O), fg_218_87 N rec_14 K x0 x1 x2 x3 x5 x6 h = some o → ∀ lv : am_LV, (lv.lookup 0 = some x0) → (lv.lookup 1 = some x1) → (lv.lookup 2 = some x2) → (lv.lookup 3 = some (.int x3)) → (lv.lookup 5 = some x5) → (lv.lookup 6 = some (.int x6)) → (am_isR x0 = true) → (am_isR x1 = true) → (am_isR x2 = true) → (am_isR x5 = true) → am_W X (d + 83) 218 87 lv [] h (fun q => q = o) := by
  intro K
  induction K with
  | zero => intro x0 x1 x2 x3 x5 x6 h o hs; cases hs
  | succ K ih =>
    intro x0 x1 x2 x3 x5 x6 h o hs lv l0 l1 l2 l3 l5 l6 i0 i1 i2 i5
    unfold fg_218_87 at hs
    refine aw_vload (pc1 := 89) at_218_87 l5 i5 rfl ?_
    obtain ⟨b1, e2, hs1⟩ := am_bind hs
    clear hs
    cases b1
    · rw [if_neg (by decide)] at hs1
      refine aw_pZf (pc1 := 92) at_218_89 e2 rfl ?_
      refine aw_iload (pc1 := 94) at_218_92 l6 rfl ?_
      refine aw_vload_n (pc1 := 95) at_218_94 l0 i0 rfl ?_
      obtain ⟨v3, e4, hs2⟩ := am_bind hs1
      clear hs1
      refine aw_pG (pc1 := 98) at_218_95 (am_vI_s e4) rfl ?_
      by_cases c5 : v3 ≤ x6
      · rw [if_pos c5] at hs2
        refine aw_icge_t at_218_98 c5 ?_
        exact rg_218_160 q_14 x0 x1 x2 x3 h o l0 l1 l2 l3 i0 i1 i2 hs2
      · rw [if_neg c5] at hs2
        refine aw_icge_f (pc1 := 101) at_218_98 c5 rfl ?_
        refine aw_vload_n (pc1 := 102) at_218_101 l2 i2 rfl ?_
        refine aw_vload_n (pc1 := 103) at_218_102 l0 i0 rfl ?_
        obtain ⟨v6, e7, hs3⟩ := am_bind hs2
        clear hs2
        refine aw_pG (pc1 := 106) at_218_103 (am_vR_s e7).1 rfl ?_
        refine aw_iload (pc1 := 108) at_218_106 l6 rfl ?_
        obtain ⟨v8, e9, hs4⟩ := am_bind hs3
        clear hs3
        refine aw_pA (pc1 := 109) at_218_108 (Or.inl ⟨rfl, rfl⟩) e9 rfl ?_
        obtain ⟨z10, hs5⟩ := am_ift hs4
        clear hs4
        refine aw_call (F := fm_133 N x2 v8 h) (t := true) (na := 2) (kd := 1) (as := [x2, (.int v8)]) at_218_109 (am_k3v kb_133) mn_133 mk_133 rfl rfl (am_ok_v mi_133 (am_hl rfl (am_ccR i2 (am_ccI am_cats_0)) rfl) z10) (am_hc am_cats_0 rfl) (fun _ => ⟨rfl, hh_218⟩) (fun o1 hz9 => rm_133 x2 v8 h o1 i2 hz9) ?_
        rcases am_cI_s hs5 with ⟨v11, h12, f13, hs6⟩ | hs6
        · clear hs5
          refine Or.inl ⟨_, _, f13, ?_⟩
          show am_W X _ 218 112 _ [(.int v11)] h12 _
          refine aw_istore (lv1 := am_put1 _ 7 _) (pc1 := 114) at_218_112 rfl rfl ?_
          refine aw_vload_n (pc1 := 115) at_218_114 (am_lk1 l0 rfl rfl) i0 rfl ?_
          obtain ⟨v14, e15, hs7⟩ := am_bind hs6
          clear hs6
          refine aw_pG (pc1 := 118) at_218_115 (am_vR_s e15).1 rfl ?_
          refine aw_iload_n (pc1 := 119) at_218_118 (am_lk1 l3 rfl rfl) rfl ?_
          refine aw_bipush (v := 24) (pc1 := 121) at_218_119 (by decide) rfl ?_
          refine aw_imul (v := (x3 * 24)) (pc1 := 122) at_218_121 rfl rfl ?_
          refine aw_iload (pc1 := 124) at_218_122 (am_lk1 l6 rfl rfl) rfl ?_
          refine aw_iadd (v := ((x3 * 24) + x6)) (pc1 := 125) at_218_124 rfl rfl ?_
          refine aw_iload (pc1 := 127) at_218_125 am_lk0 rfl ?_
          obtain ⟨h16, e17, hs8⟩ := am_bind hs7
          clear hs7
          refine aw_pS (pc1 := 128) at_218_127 (Or.inl ⟨rfl, rfl⟩) e17 rfl ?_
          refine aw_vload_n (pc1 := 129) at_218_128 (am_lk1 l0 rfl rfl) i0 rfl ?_
          obtain ⟨v18, e19, hs9⟩ := am_bind hs8
          clear hs8
          refine aw_pG (pc1 := 132) at_218_129 (am_vR_s e19).1 rfl ?_
          refine aw_iload_n (pc1 := 133) at_218_132 (am_lk1 l3 rfl rfl) rfl ?_
          refine aw_vdup2 (pc1 := 134) at_218_133 (am_vR_s e19).2 rfl ?_
          obtain ⟨v20, e21, hs10⟩ := am_bind hs9
          clear hs9
          refine aw_pAL (pc1 := 135) at_218_134 e21 rfl ?_
          refine aw_vload_n (pc1 := 136) at_218_135 (am_lk1 l2 rfl rfl) i2 rfl ?_
          refine aw_vload_n (pc1 := 137) at_218_136 (am_lk1 l0 rfl rfl) i0 rfl ?_
          obtain ⟨v22, e23, hs11⟩ := am_bind hs10
          clear hs10
          refine aw_pG (pc1 := 140) at_218_137 (am_vR_s e23).1 rfl ?_
          refine aw_iload (pc1 := 142) at_218_140 (am_lk1 l6 rfl rfl) rfl ?_
          obtain ⟨v24, e25, hs12⟩ := am_bind hs11
          clear hs11
          refine aw_pA (pc1 := 143) at_218_142 (Or.inl ⟨rfl, rfl⟩) e25 rfl ?_
          refine aw_iconst (v := 4) (pc1 := 144) at_218_143 (by decide) rfl ?_
          obtain ⟨z26, hs13⟩ := am_ift hs12
          clear hs12
          refine aw_call (F := fm_112 x2 v24 4 h16) (t := true) (na := 3) (kd := 1) (as := [x2, (.int v24), (.int 4)]) at_218_144 (am_k3v kb_112) mn_112 mk_112 rfl rfl (am_ok_v mi_112 (am_hl rfl (am_ccR i2 (am_ccI (am_ccI am_cats_0))) rfl) z26) (am_hc (am_ccL (am_ccI (am_ccR (am_vR_s e19).2 am_cats_0))) rfl) (fun _ => ⟨rfl, hh_218⟩) (fun o1 hz9 => rm_112 x2 v24 4 h16 o1 i2 hz9) ?_
          rcases am_cI_s hs13 with ⟨v27, h28, f29, hs14⟩ | hs14
          · clear hs13
            refine Or.inl ⟨_, _, f29, ?_⟩
            show am_W X _ 218 147 _ [(.int v27), (.long v20), (.int x3), v18] h28 _
            refine aw_i2l (v := (Int32.toInt64 v27)) (pc1 := 148) at_218_147 rfl rfl ?_
            refine aw_iload (pc1 := 150) at_218_148 am_lk0 rfl ?_
            refine aw_i2l (v := (Int32.toInt64 v11)) (pc1 := 151) at_218_150 rfl rfl ?_
            refine aw_lmul (v := ((Int32.toInt64 v27) * (Int32.toInt64 v11))) (pc1 := 152) at_218_151 rfl rfl ?_
            refine aw_ladd (v := (v20 + ((Int32.toInt64 v27) * (Int32.toInt64 v11)))) (pc1 := 153) at_218_152 rfl rfl ?_
            obtain ⟨h30, e31, hs15⟩ := am_bind hs14
            clear hs14
            refine aw_pSL (pc1 := 154) at_218_153 e31 rfl ?_
            refine aw_iinc (v := (x6 + 1)) (c := 1) (lv1 := am_put1 _ 6 _) (pc1 := 157) at_218_154 (am_lk1 l6 rfl rfl) (by decide) rfl rfl rfl ?_
            refine aw_goto at_218_157 ?_
            exact ih x0 x1 x2 x3 x5 ((x6 + 1)) h30 o hs15 _ (am_lk1 (am_lk1 l0 rfl rfl) rfl rfl) (am_lk1 (am_lk1 l1 rfl rfl) rfl rfl) (am_lk1 (am_lk1 l2 rfl rfl) rfl rfl) (am_lk1 (am_lk1 l3 rfl rfl) rfl rfl) (am_lk1 (am_lk1 l5 rfl rfl) rfl (by rw [am_isRc i5]; rfl)) am_lk0 i0 i1 i2 i5
          · clear hs13
            exact Or.inr hs14
        · clear hs5
          exact Or.inr hs6
    · rw [if_pos rfl] at hs1
      refine aw_pZt at_218_89 e2 ?_
      exact rg_218_160 q_14 x0 x1 x2 x3 h o l0 l1 l2 l3 i0 i1 i2 hs1
def fg_218_84 (N : Nat) (rec_14 : Value → Value → Value → Int32 → am_H → Option am_O) (x0 : Value) (x1 : Value) (x2 : Value) (x3 : Int32) (x5 : Value) (h : am_H) : Option am_O := (fg_218_87 N rec_14 N x0 x1 x2 x3 x5 0 h)
theorem rg_218_84 {X : am_X} {d : Nat} {N : Nat} {rec_14 : Value → Value → Value → Int32 → am_H → Option am_O} (q_14 : ∀ (x0 : Value) (x1 : Value) (x2 : Value) (x3 : Int32) (h : am_H) (o : am_O), rec_14 x0 x1 x2 x3 h = some o → ∀ lv : am_LV, (lv.lookup 0 = some x0) → (lv.lookup 1 = some x1) → (lv.lookup 2 = some x2) → (lv.lookup 3 = some (.int x3)) → (am_isR x0 = true) → (am_isR x1 = true) → (am_isR x2 = true) → am_W X (d + 83) 218 14 lv [] h (fun q => q = o)) {lv : am_LV} (x0 : Value) (x1 : Value) (x2 : Value) (x3 : Int32) (x5 : Value) (h : am_H) (o : am_O) (l0 : lv.lookup 0 = some x0) (l1 : lv.lookup 1 = some x1) (l2 : lv.lookup 2 = some x2) (l3 : lv.lookup 3 = some (.int x3)) (l5 : lv.lookup 5 = some x5) (i0 : am_isR x0 = true) (i1 : am_isR x1 = true) (i2 : am_isR x2 = true) (i5 : am_isR x5 = true) (hs : fg_218_84 N rec_14 x0 x1 x2 x3 x5 h = some o) : am_W X (d + 83) 218 84 lv [] h (fun q => q = o) := by
  unfold fg_218_84 at hs
  refine aw_iconst (v := 0) (pc1 := 85) at_218_84 (by decide) rfl ?_
  refine aw_istore (lv1 := am_put1 _ 6 _) (pc1 := 87) at_218_85 rfl rfl ?_
  exact rg_218_87 q_14 N x0 x1 x2 x3 x5 0 h o hs _ (am_lk1 l0 rfl rfl) (am_lk1 l1 rfl rfl) (am_lk1 l2 rfl rfl) (am_lk1 l3 rfl rfl) (am_lk1 l5 rfl (by rw [am_isRc i5]; rfl)) am_lk0 i0 i1 i2 i5
def fg_218_50 (N : Nat) (rec_14 : Value → Value → Value → Int32 → am_H → Option am_O) (x0 : Value) (x1 : Value) (x2 : Value) (x3 : Int32) (s0 : Value) (h : am_H) : Option am_O := ((am_pZ s0).bind fun b1 => if b1 = true then (fg_218_84 N rec_14 x0 x1 x2 x3 s0 h) else ((am_vR (am_pG 514 x2 h)).bind fun v3 => (if am_pOk 6 v3 h then am_cV true (fm_115 N v3 s0 h) (fun h7 => ((am_vR (am_pG 262 x0 h7)).bind fun v9 => ((am_vI (am_pG 771 s0 h7)).bind fun v11 => ((am_pS 0 v9 x3 v11 h7).bind fun h13 => ((am_vR (am_pG 261 x0 h13)).bind fun v15 => ((am_pSL v15 x3 0 h13).bind fun h17 => (fg_218_84 N rec_14 x0 x1 x2 x3 s0 h17))))))) else none)))
theorem rg_218_50 {X : am_X} {d : Nat} {N : Nat} {rec_14 : Value → Value → Value → Int32 → am_H → Option am_O} (q_14 : ∀ (x0 : Value) (x1 : Value) (x2 : Value) (x3 : Int32) (h : am_H) (o : am_O), rec_14 x0 x1 x2 x3 h = some o → ∀ lv : am_LV, (lv.lookup 0 = some x0) → (lv.lookup 1 = some x1) → (lv.lookup 2 = some x2) → (lv.lookup 3 = some (.int x3)) → (am_isR x0 = true) → (am_isR x1 = true) → (am_isR x2 = true) → am_W X (d + 83) 218 14 lv [] h (fun q => q = o)) {lv : am_LV} (x0 : Value) (x1 : Value) (x2 : Value) (x3 : Int32) (s0 : Value) (h : am_H) (o : am_O) (l0 : lv.lookup 0 = some x0) (l1 : lv.lookup 1 = some x1) (l2 : lv.lookup 2 = some x2) (l3 : lv.lookup 3 = some (.int x3)) (i0 : am_isR x0 = true) (i1 : am_isR x1 = true) (i2 : am_isR x2 = true) (j0 : am_isR s0 = true) (hs : fg_218_50 N rec_14 x0 x1 x2 x3 s0 h = some o) : am_W X (d + 83) 218 50 lv [s0] h (fun q => q = o) := by
  unfold fg_218_50 at hs
  refine aw_vstore (lv1 := am_put1 _ 5 _) (pc1 := 52) at_218_50 j0 rfl rfl ?_
  refine aw_vload (pc1 := 54) at_218_52 am_lk0 j0 rfl ?_
  obtain ⟨b1, e2, hs1⟩ := am_bind hs
  clear hs
  cases b1
  · rw [if_neg (by decide)] at hs1
    refine aw_pZf (pc1 := 57) at_218_54 e2 rfl ?_
    refine aw_vload_n (pc1 := 58) at_218_57 (am_lk1 l2 rfl rfl) i2 rfl ?_
    obtain ⟨v3, e4, hs2⟩ := am_bind hs1
    clear hs1
    refine aw_pG (pc1 := 61) at_218_58 (am_vR_s e4).1 rfl ?_
    refine aw_vload (pc1 := 63) at_218_61 am_lk0 j0 rfl ?_
    obtain ⟨z5, hs3⟩ := am_ift hs2
    clear hs2
    refine aw_call (F := fm_115 N v3 s0 h) (t := true) (na := 2) (kd := 1) (as := [v3, s0]) at_218_63 (am_k3v kb_115) mn_115 mk_115 rfl rfl (am_ok_v mi_115 (am_hl rfl (am_ccR (am_vR_s e4).2 (am_ccR j0 am_cats_0)) rfl) z5) (am_hc am_cats_0 rfl) (fun _ => ⟨rfl, hh_218⟩) (fun o1 hz9 => rm_115 v3 s0 h o1 (am_vR_s e4).2 j0 hz9) ?_
    rcases am_cV_s hs3 with ⟨h7, f8, hs4⟩ | hs4
    · clear hs3
      refine Or.inl ⟨_, _, f8, ?_⟩
      show am_W X _ 218 66 _ [] h7 _
      refine aw_vload_n (pc1 := 67) at_218_66 (am_lk1 l0 rfl rfl) i0 rfl ?_
      obtain ⟨v9, e10, hs5⟩ := am_bind hs4
      clear hs4
      refine aw_pG (pc1 := 70) at_218_67 (am_vR_s e10).1 rfl ?_
      refine aw_iload_n (pc1 := 71) at_218_70 (am_lk1 l3 rfl rfl) rfl ?_
      refine aw_vload (pc1 := 73) at_218_71 am_lk0 j0 rfl ?_
      obtain ⟨v11, e12, hs6⟩ := am_bind hs5
      clear hs5
      refine aw_pG (pc1 := 76) at_218_73 (am_vI_s e12) rfl ?_
      obtain ⟨h13, e14, hs7⟩ := am_bind hs6
      clear hs6
      refine aw_pS (pc1 := 77) at_218_76 (Or.inl ⟨rfl, rfl⟩) e14 rfl ?_
      refine aw_vload_n (pc1 := 78) at_218_77 (am_lk1 l0 rfl rfl) i0 rfl ?_
      obtain ⟨v15, e16, hs8⟩ := am_bind hs7
      clear hs7
      refine aw_pG (pc1 := 81) at_218_78 (am_vR_s e16).1 rfl ?_
      refine aw_iload_n (pc1 := 82) at_218_81 (am_lk1 l3 rfl rfl) rfl ?_
      refine aw_lconst (v := 0) (pc1 := 83) at_218_82 (by decide) rfl ?_
      obtain ⟨h17, e18, hs9⟩ := am_bind hs8
      clear hs8
      refine aw_pSL (pc1 := 84) at_218_83 e18 rfl ?_
      exact rg_218_84 q_14 x0 x1 x2 x3 s0 h17 o (am_lk1 l0 rfl rfl) (am_lk1 l1 rfl rfl) (am_lk1 l2 rfl rfl) (am_lk1 l3 rfl rfl) am_lk0 i0 i1 i2 j0 hs9
    · clear hs3
      exact Or.inr hs4
  · rw [if_pos rfl] at hs1
    refine aw_pZt at_218_54 e2 ?_
    exact rg_218_84 q_14 x0 x1 x2 x3 s0 h o (am_lk1 l0 rfl rfl) (am_lk1 l1 rfl rfl) (am_lk1 l2 rfl rfl) (am_lk1 l3 rfl rfl) am_lk0 i0 i1 i2 j0 hs1
def fg_218_49 (N : Nat) (rec_14 : Value → Value → Value → Int32 → am_H → Option am_O) (x0 : Value) (x1 : Value) (x2 : Value) (x3 : Int32) (h : am_H) : Option am_O := (fg_218_50 N rec_14 x0 x1 x2 x3 Value.null h)
theorem rg_218_49 {X : am_X} {d : Nat} {N : Nat} {rec_14 : Value → Value → Value → Int32 → am_H → Option am_O} (q_14 : ∀ (x0 : Value) (x1 : Value) (x2 : Value) (x3 : Int32) (h : am_H) (o : am_O), rec_14 x0 x1 x2 x3 h = some o → ∀ lv : am_LV, (lv.lookup 0 = some x0) → (lv.lookup 1 = some x1) → (lv.lookup 2 = some x2) → (lv.lookup 3 = some (.int x3)) → (am_isR x0 = true) → (am_isR x1 = true) → (am_isR x2 = true) → am_W X (d + 83) 218 14 lv [] h (fun q => q = o)) {lv : am_LV} (x0 : Value) (x1 : Value) (x2 : Value) (x3 : Int32) (h : am_H) (o : am_O) (l0 : lv.lookup 0 = some x0) (l1 : lv.lookup 1 = some x1) (l2 : lv.lookup 2 = some x2) (l3 : lv.lookup 3 = some (.int x3)) (i0 : am_isR x0 = true) (i1 : am_isR x1 = true) (i2 : am_isR x2 = true) (hs : fg_218_49 N rec_14 x0 x1 x2 x3 h = some o) : am_W X (d + 83) 218 49 lv [] h (fun q => q = o) := by
  unfold fg_218_49 at hs
  refine aw_null (pc1 := 50) at_218_49 rfl ?_
  exact rg_218_50 q_14 x0 x1 x2 x3 Value.null h o l0 l1 l2 l3 i0 i1 i2 rfl hs
def fg_218_14 (N : Nat) : Nat → Value → Value → Value → Int32 → am_H → Option am_O
  | 0 => fun _ _ _ _ _ => none
  | K + 1 => fun x0 x1 x2 x3 h => ((am_vI (am_pG 256 x0 h)).bind fun v1 => (if v1 ≤ x3 then some (.inl (none, h)) else ((am_vR (am_pG 257 x0 h)).bind fun v4 => ((am_pA 0 v4 x3 h).bind fun v6 => (if v6 < 0 then (fg_218_49 N (fg_218_14 N K) x0 x1 x2 x3 h) else ((am_pLen x1 h).bind fun v9 => (if v9 ≤ v6 then (fg_218_49 N (fg_218_14 N K) x0 x1 x2 x3 h) else ((am_pAA x1 v6 h).bind fun v12 => (fg_218_50 N (fg_218_14 N K) x0 x1 x2 x3 v12 h)))))))))
theorem rg_218_14 {X : am_X} {d : Nat} {N : Nat} : ∀ (K : Nat) (x0 : Value) (x1 : Value) (x2 : Value) (x3 : Int32) (h : am_H) (o : am_O), fg_218_14 N K x0 x1 x2 x3 h = some o → ∀ lv : am_LV, (lv.lookup 0 = some x0) → (lv.lookup 1 = some x1) → (lv.lookup 2 = some x2) → (lv.lookup 3 = some (.int x3)) → (am_isR x0 = true) → (am_isR x1 = true) → (am_isR x2 = true) → am_W X (d + 83) 218 14 lv [] h (fun q => q = o) := by
  intro K
  induction K with
  | zero => intro x0 x1 x2 x3 h o hs; cases hs
  | succ K ih =>
    intro x0 x1 x2 x3 h o hs lv l0 l1 l2 l3 i0 i1 i2
    unfold fg_218_14 at hs
    refine aw_iload_n (pc1 := 15) at_218_14 l3 rfl ?_
    refine aw_vload_n (pc1 := 16) at_218_15 l0 i0 rfl ?_
    obtain ⟨v1, e2, hs1⟩ := am_bind hs
    clear hs
    refine aw_pG (pc1 := 19) at_218_16 (am_vI_s e2) rfl ?_
    by_cases c3 : v1 ≤ x3
    · rw [if_pos c3] at hs1
      refine aw_icge_t at_218_19 c3 ?_
      cases hs1
      exact aw_vret at_218_166 rt_218 rfl
    · rw [if_neg c3] at hs1
      refine aw_icge_f (pc1 := 22) at_218_19 c3 rfl ?_
      refine aw_vload_n (pc1 := 23) at_218_22 l0 i0 rfl ?_
      obtain ⟨v4, e5, hs2⟩ := am_bind hs1
      clear hs1
      refine aw_pG (pc1 := 26) at_218_23 (am_vR_s e5).1 rfl ?_
      refine aw_iload_n (pc1 := 27) at_218_26 l3 rfl ?_
      obtain ⟨v6, e7, hs3⟩ := am_bind hs2
      clear hs2
      refine aw_pA (pc1 := 28) at_218_27 (Or.inl ⟨rfl, rfl⟩) e7 rfl ?_
      refine aw_istore (lv1 := am_put1 _ 4 _) (pc1 := 30) at_218_28 rfl rfl ?_
      refine aw_iload (pc1 := 32) at_218_30 am_lk0 rfl ?_
      by_cases c8 : v6 < 0
      · rw [if_pos c8] at hs3
        refine aw_iflt_t at_218_32 c8 ?_
        exact rg_218_49 (fun z0 z1 z2 z3 h o hs3 => ih z0 z1 z2 z3 h o hs3) x0 x1 x2 x3 h o (am_lk1 l0 rfl rfl) (am_lk1 l1 rfl rfl) (am_lk1 l2 rfl rfl) (am_lk1 l3 rfl rfl) i0 i1 i2 hs3
      · rw [if_neg c8] at hs3
        refine aw_iflt_f (pc1 := 35) at_218_32 c8 rfl ?_
        refine aw_iload (pc1 := 37) at_218_35 am_lk0 rfl ?_
        refine aw_vload_n (pc1 := 38) at_218_37 (am_lk1 l1 rfl rfl) i1 rfl ?_
        obtain ⟨v9, e10, hs4⟩ := am_bind hs3
        clear hs3
        refine aw_pLen (pc1 := 39) at_218_38 e10 rfl ?_
        by_cases c11 : v9 ≤ v6
        · rw [if_pos c11] at hs4
          refine aw_icge_t at_218_39 c11 ?_
          exact rg_218_49 (fun z0 z1 z2 z3 h o hs4 => ih z0 z1 z2 z3 h o hs4) x0 x1 x2 x3 h o (am_lk1 l0 rfl rfl) (am_lk1 l1 rfl rfl) (am_lk1 l2 rfl rfl) (am_lk1 l3 rfl rfl) i0 i1 i2 hs4
        · rw [if_neg c11] at hs4
          refine aw_icge_f (pc1 := 42) at_218_39 c11 rfl ?_
          refine aw_vload_n (pc1 := 43) at_218_42 (am_lk1 l1 rfl rfl) i1 rfl ?_
          refine aw_iload (pc1 := 45) at_218_43 am_lk0 rfl ?_
          obtain ⟨v12, e13, hs5⟩ := am_bind hs4
          clear hs4
          refine aw_pAA (pc1 := 46) at_218_45 e13 rfl ?_
          refine aw_goto at_218_46 ?_
          exact rg_218_50 (fun z0 z1 z2 z3 h o hs5 => ih z0 z1 z2 z3 h o hs5) x0 x1 x2 x3 v12 h o (am_lk1 l0 rfl rfl) (am_lk1 l1 rfl rfl) (am_lk1 l2 rfl rfl) (am_lk1 l3 rfl rfl) i0 i1 i2 (am_pAA_R e13) hs5
def fg_218_0 (N : Nat) (x0 : Value) (x1 : Value) (x2 : Value) (h : am_H) : Option am_O := ((am_vR (am_pG 264 x0 h)).bind fun v1 => (if am_pOk 2 x2 h then am_cI true (fm_219 N x2 v1 h) (fun v4 h5 => ((am_pP 259 x0 (.int v4) h5).bind fun h7 => (fg_218_14 N N x0 x1 x2 0 h7))) else none))
theorem rg_218_0 {X : am_X} {d : Nat} {N : Nat} {lv : am_LV} (x0 : Value) (x1 : Value) (x2 : Value) (h : am_H) (o : am_O) (l0 : lv.lookup 0 = some x0) (l1 : lv.lookup 1 = some x1) (l2 : lv.lookup 2 = some x2) (i0 : am_isR x0 = true) (i1 : am_isR x1 = true) (i2 : am_isR x2 = true) (hs : fg_218_0 N x0 x1 x2 h = some o) : am_W X (d + 83) 218 0 lv [] h (fun q => q = o) := by
  unfold fg_218_0 at hs
  refine aw_vload_n (pc1 := 1) at_218_0 l0 i0 rfl ?_
  refine aw_vload_n (pc1 := 2) at_218_1 l2 i2 rfl ?_
  refine aw_vload_n (pc1 := 3) at_218_2 l0 i0 rfl ?_
  obtain ⟨v1, e2, hs1⟩ := am_bind hs
  clear hs
  refine aw_pG (pc1 := 6) at_218_3 (am_vR_s e2).1 rfl ?_
  obtain ⟨z3, hs2⟩ := am_ift hs1
  clear hs1
  refine aw_call (F := fm_219 N x2 v1 h) (t := true) (na := 2) (kd := 1) (as := [x2, v1]) at_218_6 (am_k3v kb_219) mn_219 mk_219 rfl rfl (am_ok_v mi_219 (am_hl rfl (am_ccR i2 (am_ccR (am_vR_s e2).2 am_cats_0)) rfl) z3) (am_hc (am_ccR i0 am_cats_0) rfl) (fun _ => ⟨rfl, hh_218⟩) (fun o1 hz9 => rm_219 x2 v1 h o1 i2 (am_vR_s e2).2 hz9) ?_
  rcases am_cI_s hs2 with ⟨v4, h5, f6, hs3⟩ | hs3
  · clear hs2
    refine Or.inl ⟨_, _, f6, ?_⟩
    show am_W X _ 218 9 _ [(.int v4), x0] h5 _
    obtain ⟨h7, e8, hs4⟩ := am_bind hs3
    clear hs3
    refine aw_pP (pc1 := 12) at_218_9 e8 rfl ?_
    refine aw_iconst (v := 0) (pc1 := 13) at_218_12 (by decide) rfl ?_
    refine aw_istore_n (lv1 := am_put1 _ 3 _) (pc1 := 14) at_218_13 rfl rfl ?_
    exact rg_218_14 N x0 x1 x2 0 h7 o hs4 _ (am_lk1 l0 rfl rfl) (am_lk1 l1 rfl rfl) (am_lk1 l2 rfl (by rw [am_isRc i2]; rfl)) am_lk0 i0 i1 i2
  · clear hs2
    exact Or.inr hs3
def fm_218 (N : Nat) (y0 : Value) (y1 : Value) (y2 : Value) (h : am_H) : Option am_O := fg_218_0 N y0 y1 y2 h
theorem rm_218 {X : am_X} {d : Nat} {N : Nat} (y0 : Value) (y1 : Value) (y2 : Value) (h : am_H) (o : am_O) (i0 : am_isR y0 = true) (i1 : am_isR y1 = true) (i2 : am_isR y2 = true) (hs : fm_218 N y0 y1 y2 h = some o) : am_W X (d + 83) 218 0 (am_args 0 [y0, y1, y2]) [] h (fun q => q = o) := by
  rw [am_args_R i0, am_args_R i1, am_args_R i2]
  exact rg_218_0 y0 y1 y2 h o rfl rfl rfl i0 i1 i2 hs
def fg_221_122 (s0 : Int32) (h : am_H) : Option am_O := (if am_rfit (some FieldType.boolean) s0 then some (.inl (some (.int s0), h)) else none)
theorem rg_221_122 {X : am_X} {d : Nat} {lv : am_LV} (s0 : Int32) (h : am_H) (o : am_O) (hs : fg_221_122 s0 h = some o) : am_W X (d) 221 122 lv [(.int s0)] h (fun q => q = o) := by
  unfold fg_221_122 at hs
  obtain ⟨z1, hs1⟩ := am_ift hs
  clear hs
  cases hs1
  exact aw_iret at_221_122 (by rw [rt_221]; exact z1) rfl
def fg_221_73 (s0 : Int32) (h : am_H) : Option am_O := (if am_rfit (some FieldType.boolean) s0 then some (.inl (some (.int s0), h)) else none)
theorem rg_221_73 {X : am_X} {d : Nat} {lv : am_LV} (s0 : Int32) (h : am_H) (o : am_O) (hs : fg_221_73 s0 h = some o) : am_W X (d) 221 73 lv [(.int s0)] h (fun q => q = o) := by
  unfold fg_221_73 at hs
  obtain ⟨z1, hs1⟩ := am_ift hs
  clear hs
  cases hs1
  exact aw_iret at_221_73 (by rw [rt_221]; exact z1) rfl
def fg_221_37 (s0 : Int32) (h : am_H) : Option am_O := (if am_rfit (some FieldType.boolean) s0 then some (.inl (some (.int s0), h)) else none)
theorem rg_221_37 {X : am_X} {d : Nat} {lv : am_LV} (s0 : Int32) (h : am_H) (o : am_O) (hs : fg_221_37 s0 h = some o) : am_W X (d) 221 37 lv [(.int s0)] h (fun q => q = o) := by
  unfold fg_221_37 at hs
  obtain ⟨z1, hs1⟩ := am_ift hs
  clear hs
  cases hs1
  exact aw_iret at_221_37 (by rw [rt_221]; exact z1) rfl
def fg_221_0 (x0 : Value) (x1 : Int32) (x2 : Int32) (h : am_H) : Option am_O := ((am_vR (am_pG 261 x0 h)).bind fun v1 => ((am_pAL v1 x1 h).bind fun v3 => ((am_vR (am_pG 261 x0 h)).bind fun v5 => ((am_pAL v5 x2 h).bind fun v7 => (if (lg_cmp v3 v7) = 0 then ((am_vR (am_pG 262 x0 h)).bind fun v10 => ((am_pA 0 v10 x1 h).bind fun v12 => ((am_vR (am_pG 262 x0 h)).bind fun v14 => ((am_pA 0 v14 x2 h).bind fun v16 => (if v12 = v16 then ((am_vR (am_pG 257 x0 h)).bind fun v19 => ((am_pA 0 v19 x1 h).bind fun v21 => ((am_vR (am_pG 257 x0 h)).bind fun v23 => ((am_pA 0 v23 x2 h).bind fun v25 => (if v21 = v25 then (if x2 ≤ x1 then (fg_221_122 0 h) else (fg_221_122 1 h)) else ((am_vR (am_pG 257 x0 h)).bind fun v29 => ((am_pA 0 v29 x1 h).bind fun v31 => ((am_vR (am_pG 257 x0 h)).bind fun v33 => ((am_pA 0 v33 x2 h).bind fun v35 => (if v35 ≤ v31 then (fg_221_122 0 h) else (fg_221_122 1 h))))))))))) else ((am_vR (am_pG 262 x0 h)).bind fun v38 => ((am_pA 0 v38 x1 h).bind fun v40 => ((am_vR (am_pG 262 x0 h)).bind fun v42 => ((am_pA 0 v42 x2 h).bind fun v44 => (if v44 ≤ v40 then (fg_221_73 0 h) else (fg_221_73 1 h))))))))))) else ((am_vR (am_pG 261 x0 h)).bind fun v47 => ((am_pAL v47 x1 h).bind fun v49 => ((am_vR (am_pG 261 x0 h)).bind fun v51 => ((am_pAL v51 x2 h).bind fun v53 => (if 0 ≤ (lg_cmp v49 v53) then (fg_221_37 0 h) else (fg_221_37 1 h)))))))))))
theorem rg_221_0 {X : am_X} {d : Nat} {lv : am_LV} (x0 : Value) (x1 : Int32) (x2 : Int32) (h : am_H) (o : am_O) (l0 : lv.lookup 0 = some x0) (l1 : lv.lookup 1 = some (.int x1)) (l2 : lv.lookup 2 = some (.int x2)) (i0 : am_isR x0 = true) (hs : fg_221_0 x0 x1 x2 h = some o) : am_W X (d) 221 0 lv [] h (fun q => q = o) := by
  unfold fg_221_0 at hs
  refine aw_vload_n (pc1 := 1) at_221_0 l0 i0 rfl ?_
  obtain ⟨v1, e2, hs1⟩ := am_bind hs
  clear hs
  refine aw_pG (pc1 := 4) at_221_1 (am_vR_s e2).1 rfl ?_
  refine aw_iload_n (pc1 := 5) at_221_4 l1 rfl ?_
  obtain ⟨v3, e4, hs2⟩ := am_bind hs1
  clear hs1
  refine aw_pAL (pc1 := 6) at_221_5 e4 rfl ?_
  refine aw_vload_n (pc1 := 7) at_221_6 l0 i0 rfl ?_
  obtain ⟨v5, e6, hs3⟩ := am_bind hs2
  clear hs2
  refine aw_pG (pc1 := 10) at_221_7 (am_vR_s e6).1 rfl ?_
  refine aw_iload_n (pc1 := 11) at_221_10 l2 rfl ?_
  obtain ⟨v7, e8, hs4⟩ := am_bind hs3
  clear hs3
  refine aw_pAL (pc1 := 12) at_221_11 e8 rfl ?_
  refine aw_lcmp (v := (lg_cmp v3 v7)) (pc1 := 13) at_221_12 rfl rfl ?_
  by_cases c9 : (lg_cmp v3 v7) = 0
  · rw [if_pos c9] at hs4
    refine aw_ifeq_t at_221_13 c9 ?_
    refine aw_vload_n (pc1 := 39) at_221_38 l0 i0 rfl ?_
    obtain ⟨v10, e11, hs5⟩ := am_bind hs4
    clear hs4
    refine aw_pG (pc1 := 42) at_221_39 (am_vR_s e11).1 rfl ?_
    refine aw_iload_n (pc1 := 43) at_221_42 l1 rfl ?_
    obtain ⟨v12, e13, hs6⟩ := am_bind hs5
    clear hs5
    refine aw_pA (pc1 := 44) at_221_43 (Or.inl ⟨rfl, rfl⟩) e13 rfl ?_
    refine aw_vload_n (pc1 := 45) at_221_44 l0 i0 rfl ?_
    obtain ⟨v14, e15, hs7⟩ := am_bind hs6
    clear hs6
    refine aw_pG (pc1 := 48) at_221_45 (am_vR_s e15).1 rfl ?_
    refine aw_iload_n (pc1 := 49) at_221_48 l2 rfl ?_
    obtain ⟨v16, e17, hs8⟩ := am_bind hs7
    clear hs7
    refine aw_pA (pc1 := 50) at_221_49 (Or.inl ⟨rfl, rfl⟩) e17 rfl ?_
    by_cases c18 : v12 = v16
    · rw [if_pos c18] at hs8
      refine aw_iceq_t at_221_50 c18 ?_
      refine aw_vload_n (pc1 := 75) at_221_74 l0 i0 rfl ?_
      obtain ⟨v19, e20, hs9⟩ := am_bind hs8
      clear hs8
      refine aw_pG (pc1 := 78) at_221_75 (am_vR_s e20).1 rfl ?_
      refine aw_iload_n (pc1 := 79) at_221_78 l1 rfl ?_
      obtain ⟨v21, e22, hs10⟩ := am_bind hs9
      clear hs9
      refine aw_pA (pc1 := 80) at_221_79 (Or.inl ⟨rfl, rfl⟩) e22 rfl ?_
      refine aw_vload_n (pc1 := 81) at_221_80 l0 i0 rfl ?_
      obtain ⟨v23, e24, hs11⟩ := am_bind hs10
      clear hs10
      refine aw_pG (pc1 := 84) at_221_81 (am_vR_s e24).1 rfl ?_
      refine aw_iload_n (pc1 := 85) at_221_84 l2 rfl ?_
      obtain ⟨v25, e26, hs12⟩ := am_bind hs11
      clear hs11
      refine aw_pA (pc1 := 86) at_221_85 (Or.inl ⟨rfl, rfl⟩) e26 rfl ?_
      by_cases c27 : v21 = v25
      · rw [if_pos c27] at hs12
        refine aw_iceq_t at_221_86 c27 ?_
        refine aw_iload_n (pc1 := 113) at_221_112 l1 rfl ?_
        refine aw_iload_n (pc1 := 114) at_221_113 l2 rfl ?_
        by_cases c28 : x2 ≤ x1
        · rw [if_pos c28] at hs12
          refine aw_icge_t at_221_114 c28 ?_
          refine aw_iconst (v := 0) (pc1 := 122) at_221_121 (by decide) rfl ?_
          exact rg_221_122 0 h o   hs12
        · rw [if_neg c28] at hs12
          refine aw_icge_f (pc1 := 117) at_221_114 c28 rfl ?_
          refine aw_iconst (v := 1) (pc1 := 118) at_221_117 (by decide) rfl ?_
          refine aw_goto at_221_118 ?_
          exact rg_221_122 1 h o   hs12
      · rw [if_neg c27] at hs12
        refine aw_iceq_f (pc1 := 89) at_221_86 c27 rfl ?_
        refine aw_vload_n (pc1 := 90) at_221_89 l0 i0 rfl ?_
        obtain ⟨v29, e30, hs13⟩ := am_bind hs12
        clear hs12
        refine aw_pG (pc1 := 93) at_221_90 (am_vR_s e30).1 rfl ?_
        refine aw_iload_n (pc1 := 94) at_221_93 l1 rfl ?_
        obtain ⟨v31, e32, hs14⟩ := am_bind hs13
        clear hs13
        refine aw_pA (pc1 := 95) at_221_94 (Or.inl ⟨rfl, rfl⟩) e32 rfl ?_
        refine aw_vload_n (pc1 := 96) at_221_95 l0 i0 rfl ?_
        obtain ⟨v33, e34, hs15⟩ := am_bind hs14
        clear hs14
        refine aw_pG (pc1 := 99) at_221_96 (am_vR_s e34).1 rfl ?_
        refine aw_iload_n (pc1 := 100) at_221_99 l2 rfl ?_
        obtain ⟨v35, e36, hs16⟩ := am_bind hs15
        clear hs15
        refine aw_pA (pc1 := 101) at_221_100 (Or.inl ⟨rfl, rfl⟩) e36 rfl ?_
        by_cases c37 : v35 ≤ v31
        · rw [if_pos c37] at hs16
          refine aw_icge_t at_221_101 c37 ?_
          refine aw_iconst (v := 0) (pc1 := 109) at_221_108 (by decide) rfl ?_
          refine aw_goto at_221_109 ?_
          exact rg_221_122 0 h o   hs16
        · rw [if_neg c37] at hs16
          refine aw_icge_f (pc1 := 104) at_221_101 c37 rfl ?_
          refine aw_iconst (v := 1) (pc1 := 105) at_221_104 (by decide) rfl ?_
          refine aw_goto at_221_105 ?_
          exact rg_221_122 1 h o   hs16
    · rw [if_neg c18] at hs8
      refine aw_iceq_f (pc1 := 53) at_221_50 c18 rfl ?_
      refine aw_vload_n (pc1 := 54) at_221_53 l0 i0 rfl ?_
      obtain ⟨v38, e39, hs17⟩ := am_bind hs8
      clear hs8
      refine aw_pG (pc1 := 57) at_221_54 (am_vR_s e39).1 rfl ?_
      refine aw_iload_n (pc1 := 58) at_221_57 l1 rfl ?_
      obtain ⟨v40, e41, hs18⟩ := am_bind hs17
      clear hs17
      refine aw_pA (pc1 := 59) at_221_58 (Or.inl ⟨rfl, rfl⟩) e41 rfl ?_
      refine aw_vload_n (pc1 := 60) at_221_59 l0 i0 rfl ?_
      obtain ⟨v42, e43, hs19⟩ := am_bind hs18
      clear hs18
      refine aw_pG (pc1 := 63) at_221_60 (am_vR_s e43).1 rfl ?_
      refine aw_iload_n (pc1 := 64) at_221_63 l2 rfl ?_
      obtain ⟨v44, e45, hs20⟩ := am_bind hs19
      clear hs19
      refine aw_pA (pc1 := 65) at_221_64 (Or.inl ⟨rfl, rfl⟩) e45 rfl ?_
      by_cases c46 : v44 ≤ v40
      · rw [if_pos c46] at hs20
        refine aw_icge_t at_221_65 c46 ?_
        refine aw_iconst (v := 0) (pc1 := 73) at_221_72 (by decide) rfl ?_
        exact rg_221_73 0 h o   hs20
      · rw [if_neg c46] at hs20
        refine aw_icge_f (pc1 := 68) at_221_65 c46 rfl ?_
        refine aw_iconst (v := 1) (pc1 := 69) at_221_68 (by decide) rfl ?_
        refine aw_goto at_221_69 ?_
        exact rg_221_73 1 h o   hs20
  · rw [if_neg c9] at hs4
    refine aw_ifeq_f (pc1 := 16) at_221_13 c9 rfl ?_
    refine aw_vload_n (pc1 := 17) at_221_16 l0 i0 rfl ?_
    obtain ⟨v47, e48, hs21⟩ := am_bind hs4
    clear hs4
    refine aw_pG (pc1 := 20) at_221_17 (am_vR_s e48).1 rfl ?_
    refine aw_iload_n (pc1 := 21) at_221_20 l1 rfl ?_
    obtain ⟨v49, e50, hs22⟩ := am_bind hs21
    clear hs21
    refine aw_pAL (pc1 := 22) at_221_21 e50 rfl ?_
    refine aw_vload_n (pc1 := 23) at_221_22 l0 i0 rfl ?_
    obtain ⟨v51, e52, hs23⟩ := am_bind hs22
    clear hs22
    refine aw_pG (pc1 := 26) at_221_23 (am_vR_s e52).1 rfl ?_
    refine aw_iload_n (pc1 := 27) at_221_26 l2 rfl ?_
    obtain ⟨v53, e54, hs24⟩ := am_bind hs23
    clear hs23
    refine aw_pAL (pc1 := 28) at_221_27 e54 rfl ?_
    refine aw_lcmp (v := (lg_cmp v49 v53)) (pc1 := 29) at_221_28 rfl rfl ?_
    by_cases c55 : 0 ≤ (lg_cmp v49 v53)
    · rw [if_pos c55] at hs24
      refine aw_ifge_t at_221_29 c55 ?_
      refine aw_iconst (v := 0) (pc1 := 37) at_221_36 (by decide) rfl ?_
      exact rg_221_37 0 h o   hs24
    · rw [if_neg c55] at hs24
      refine aw_ifge_f (pc1 := 32) at_221_29 c55 rfl ?_
      refine aw_iconst (v := 1) (pc1 := 33) at_221_32 (by decide) rfl ?_
      refine aw_goto at_221_33 ?_
      exact rg_221_37 1 h o   hs24
def fm_221 (y0 : Value) (y1 : Int32) (y2 : Int32) (h : am_H) : Option am_O := fg_221_0 y0 y1 y2 h
theorem rm_221 {X : am_X} {d : Nat} (y0 : Value) (y1 : Int32) (y2 : Int32) (h : am_H) (o : am_O) (i0 : am_isR y0 = true) (hs : fm_221 y0 y1 y2 h = some o) : am_W X (d) 221 0 (am_args 0 [y0, .int y1, .int y2]) [] h (fun q => q = o) := by
  rw [am_args_R i0, am_args_I, am_args_I]
  exact rg_221_0 y0 y1 y2 h o rfl rfl rfl i0 hs
def fg_220_37 (N : Nat) (rec_2 : Value → Int32 → am_H → Option am_O) (rec_14 : Value → Int32 → Int32 → Int32 → am_H → Option am_O) (x0 : Value) (x1 : Int32) (x3 : Int32) (s0 : Int32) (s1 : Int32) (h : am_H) : Option am_O := (rec_14 x0 x1 ((s0 + s1)) ((x3 + 1)) h)
theorem rg_220_37 {X : am_X} {d : Nat} {N : Nat} {rec_2 : Value → Int32 → am_H → Option am_O} {rec_14 : Value → Int32 → Int32 → Int32 → am_H → Option am_O} (q_2 : ∀ (x0 : Value) (x1 : Int32) (h : am_H) (o : am_O), rec_2 x0 x1 h = some o → ∀ lv : am_LV, (lv.lookup 0 = some x0) → (lv.lookup 1 = some (.int x1)) → (am_isR x0 = true) → am_W X (d + 1) 220 2 lv [] h (fun q => q = o)) (q_14 : ∀ (x0 : Value) (x1 : Int32) (x2 : Int32) (x3 : Int32) (h : am_H) (o : am_O), rec_14 x0 x1 x2 x3 h = some o → ∀ lv : am_LV, (lv.lookup 0 = some x0) → (lv.lookup 1 = some (.int x1)) → (lv.lookup 2 = some (.int x2)) → (lv.lookup 3 = some (.int x3)) → (am_isR x0 = true) → am_W X (d + 1) 220 14 lv [] h (fun q => q = o)) {lv : am_LV} (x0 : Value) (x1 : Int32) (x3 : Int32) (s0 : Int32) (s1 : Int32) (h : am_H) (o : am_O) (l0 : lv.lookup 0 = some x0) (l1 : lv.lookup 1 = some (.int x1)) (l3 : lv.lookup 3 = some (.int x3)) (i0 : am_isR x0 = true) (hs : fg_220_37 N rec_2 rec_14 x0 x1 x3 s0 s1 h = some o) : am_W X (d + 1) 220 37 lv [(.int s1), (.int s0)] h (fun q => q = o) := by
  unfold fg_220_37 at hs
  refine aw_iadd (v := (s0 + s1)) (pc1 := 38) at_220_37 rfl rfl ?_
  refine aw_istore_n (lv1 := am_put1 _ 2 _) (pc1 := 39) at_220_38 rfl rfl ?_
  refine aw_iinc (v := (x3 + 1)) (c := 1) (lv1 := am_put1 _ 3 _) (pc1 := 42) at_220_39 (am_lk1 l3 rfl rfl) (by decide) rfl rfl rfl ?_
  refine aw_goto at_220_42 ?_
  exact q_14 x0 x1 ((s0 + s1)) ((x3 + 1)) h o hs _ (am_lk1 (am_lk1 l0 rfl rfl) rfl rfl) (am_lk1 (am_lk1 l1 rfl rfl) rfl rfl) (am_lk1 am_lk0 rfl rfl) am_lk0 i0
def fg_220_14 (N : Nat) (rec_2 : Value → Int32 → am_H → Option am_O) : Nat → Value → Int32 → Int32 → Int32 → am_H → Option am_O
  | 0 => fun _ _ _ _ _ => none
  | K + 1 => fun x0 x1 x2 x3 h => ((am_vI (am_pG 256 x0 h)).bind fun v1 => (if v1 ≤ x3 then ((am_vR (am_pG 260 x0 h)).bind fun v4 => ((am_pS 0 v4 x2 x1 h).bind fun h6 => (rec_2 x0 ((x1 + 1)) h6))) else (if am_pOk 1 x0 h then am_cI true (fm_221 x0 x3 x1 h) (fun v9 h10 => (if v9 = 0 then (fg_220_37 N rec_2 (fg_220_14 N rec_2 K) x0 x1 x3 x2 0 h10) else (fg_220_37 N rec_2 (fg_220_14 N rec_2 K) x0 x1 x3 x2 1 h10))) else none)))
theorem rg_220_14 {X : am_X} {d : Nat} {N : Nat} {rec_2 : Value → Int32 → am_H → Option am_O} (q_2 : ∀ (x0 : Value) (x1 : Int32) (h : am_H) (o : am_O), rec_2 x0 x1 h = some o → ∀ lv : am_LV, (lv.lookup 0 = some x0) → (lv.lookup 1 = some (.int x1)) → (am_isR x0 = true) → am_W X (d + 1) 220 2 lv [] h (fun q => q = o)) : ∀ (K : Nat) (x0 : Value) (x1 : Int32) (x2 : Int32) (x3 : Int32) (h : am_H) (o : am_O), fg_220_14 N rec_2 K x0 x1 x2 x3 h = some o → ∀ lv : am_LV, (lv.lookup 0 = some x0) → (lv.lookup 1 = some (.int x1)) → (lv.lookup 2 = some (.int x2)) → (lv.lookup 3 = some (.int x3)) → (am_isR x0 = true) → am_W X (d + 1) 220 14 lv [] h (fun q => q = o) := by
  intro K
  induction K with
  | zero => intro x0 x1 x2 x3 h o hs; cases hs
  | succ K ih =>
    intro x0 x1 x2 x3 h o hs lv l0 l1 l2 l3 i0
    unfold fg_220_14 at hs
    refine aw_iload_n (pc1 := 15) at_220_14 l3 rfl ?_
    refine aw_vload_n (pc1 := 16) at_220_15 l0 i0 rfl ?_
    obtain ⟨v1, e2, hs1⟩ := am_bind hs
    clear hs
    refine aw_pG (pc1 := 19) at_220_16 (am_vI_s e2) rfl ?_
    by_cases c3 : v1 ≤ x3
    · rw [if_pos c3] at hs1
      refine aw_icge_t at_220_19 c3 ?_
      refine aw_vload_n (pc1 := 46) at_220_45 l0 i0 rfl ?_
      obtain ⟨v4, e5, hs2⟩ := am_bind hs1
      clear hs1
      refine aw_pG (pc1 := 49) at_220_46 (am_vR_s e5).1 rfl ?_
      refine aw_iload_n (pc1 := 50) at_220_49 l2 rfl ?_
      refine aw_iload_n (pc1 := 51) at_220_50 l1 rfl ?_
      obtain ⟨h6, e7, hs3⟩ := am_bind hs2
      clear hs2
      refine aw_pS (pc1 := 52) at_220_51 (Or.inl ⟨rfl, rfl⟩) e7 rfl ?_
      refine aw_iinc (v := (x1 + 1)) (c := 1) (lv1 := am_put1 _ 1 _) (pc1 := 55) at_220_52 l1 (by decide) rfl rfl rfl ?_
      refine aw_goto at_220_55 ?_
      exact q_2 x0 ((x1 + 1)) h6 o hs3 _ (am_lk1 l0 rfl (by rw [am_isRc i0]; rfl)) am_lk0 i0
    · rw [if_neg c3] at hs1
      refine aw_icge_f (pc1 := 22) at_220_19 c3 rfl ?_
      refine aw_iload_n (pc1 := 23) at_220_22 l2 rfl ?_
      refine aw_vload_n (pc1 := 24) at_220_23 l0 i0 rfl ?_
      refine aw_iload_n (pc1 := 25) at_220_24 l3 rfl ?_
      refine aw_iload_n (pc1 := 26) at_220_25 l1 rfl ?_
      obtain ⟨z8, hs4⟩ := am_ift hs1
      clear hs1
      refine aw_call (F := fm_221 x0 x3 x1 h) (t := true) (na := 3) (kd := 1) (as := [x0, (.int x3), (.int x1)]) at_220_26 (am_k3v kb_221) mn_221 mk_221 rfl rfl (am_ok_v mi_221 (am_hl rfl (am_ccR i0 (am_ccI (am_ccI am_cats_0))) rfl) z8) (am_hc (am_ccI am_cats_0) rfl) (fun _ => ⟨rfl, hh_220⟩) (fun o1 hz9 => rm_221 x0 x3 x1 h o1 i0 hz9) ?_
      rcases am_cI_s hs4 with ⟨v9, h10, f11, hs5⟩ | hs5
      · clear hs4
        refine Or.inl ⟨_, _, f11, ?_⟩
        show am_W X _ 220 29 _ [(.int v9), (.int x2)] h10 _
        by_cases c12 : v9 = 0
        · rw [if_pos c12] at hs5
          refine aw_ifeq_t at_220_29 c12 ?_
          refine aw_iconst (v := 0) (pc1 := 37) at_220_36 (by decide) rfl ?_
          exact rg_220_37 q_2 (fun z0 z1 z2 z3 h o hs5 => ih z0 z1 z2 z3 h o hs5) x0 x1 x3 x2 0 h10 o l0 l1 l3 i0 hs5
        · rw [if_neg c12] at hs5
          refine aw_ifeq_f (pc1 := 32) at_220_29 c12 rfl ?_
          refine aw_iconst (v := 1) (pc1 := 33) at_220_32 (by decide) rfl ?_
          refine aw_goto at_220_33 ?_
          exact rg_220_37 q_2 (fun z0 z1 z2 z3 h o hs5 => ih z0 z1 z2 z3 h o hs5) x0 x1 x3 x2 1 h10 o l0 l1 l3 i0 hs5
      · clear hs4
        exact Or.inr hs5
def fg_220_2 (N : Nat) : Nat → Value → Int32 → am_H → Option am_O
  | 0 => fun _ _ _ => none
  | K + 1 => fun x0 x1 h => ((am_vI (am_pG 256 x0 h)).bind fun v1 => (if v1 ≤ x1 then some (.inl (none, h)) else (fg_220_14 N (fg_220_2 N K) N x0 x1 0 0 h)))
theorem rg_220_2 {X : am_X} {d : Nat} {N : Nat} : ∀ (K : Nat) (x0 : Value) (x1 : Int32) (h : am_H) (o : am_O), fg_220_2 N K x0 x1 h = some o → ∀ lv : am_LV, (lv.lookup 0 = some x0) → (lv.lookup 1 = some (.int x1)) → (am_isR x0 = true) → am_W X (d + 1) 220 2 lv [] h (fun q => q = o) := by
  intro K
  induction K with
  | zero => intro x0 x1 h o hs; cases hs
  | succ K ih =>
    intro x0 x1 h o hs lv l0 l1 i0
    unfold fg_220_2 at hs
    refine aw_iload_n (pc1 := 3) at_220_2 l1 rfl ?_
    refine aw_vload_n (pc1 := 4) at_220_3 l0 i0 rfl ?_
    obtain ⟨v1, e2, hs1⟩ := am_bind hs
    clear hs
    refine aw_pG (pc1 := 7) at_220_4 (am_vI_s e2) rfl ?_
    by_cases c3 : v1 ≤ x1
    · rw [if_pos c3] at hs1
      refine aw_icge_t at_220_7 c3 ?_
      cases hs1
      exact aw_vret at_220_58 rt_220 rfl
    · rw [if_neg c3] at hs1
      refine aw_icge_f (pc1 := 10) at_220_7 c3 rfl ?_
      refine aw_iconst (v := 0) (pc1 := 11) at_220_10 (by decide) rfl ?_
      refine aw_istore_n (lv1 := am_put1 _ 2 _) (pc1 := 12) at_220_11 rfl rfl ?_
      refine aw_iconst (v := 0) (pc1 := 13) at_220_12 (by decide) rfl ?_
      refine aw_istore_n (lv1 := am_put1 _ 3 _) (pc1 := 14) at_220_13 rfl rfl ?_
      exact rg_220_14 (fun z0 z1 h o hs1 => ih z0 z1 h o hs1) N x0 x1 0 0 h o hs1 _ (am_lk1 (am_lk1 l0 rfl rfl) rfl rfl) (am_lk1 (am_lk1 l1 rfl rfl) rfl rfl) (am_lk1 am_lk0 rfl rfl) am_lk0 i0
def fg_220_0 (N : Nat) (x0 : Value) (h : am_H) : Option am_O := (fg_220_2 N N x0 0 h)
theorem rg_220_0 {X : am_X} {d : Nat} {N : Nat} {lv : am_LV} (x0 : Value) (h : am_H) (o : am_O) (l0 : lv.lookup 0 = some x0) (i0 : am_isR x0 = true) (hs : fg_220_0 N x0 h = some o) : am_W X (d + 1) 220 0 lv [] h (fun q => q = o) := by
  unfold fg_220_0 at hs
  refine aw_iconst (v := 0) (pc1 := 1) at_220_0 (by decide) rfl ?_
  refine aw_istore_n (lv1 := am_put1 _ 1 _) (pc1 := 2) at_220_1 rfl rfl ?_
  exact rg_220_2 N x0 0 h o hs _ (am_lk1 l0 rfl (by rw [am_isRc i0]; rfl)) am_lk0 i0
def fm_220 (N : Nat) (y0 : Value) (h : am_H) : Option am_O := fg_220_0 N y0 h
theorem rm_220 {X : am_X} {d : Nat} {N : Nat} (y0 : Value) (h : am_H) (o : am_O) (i0 : am_isR y0 = true) (hs : fm_220 N y0 h = some o) : am_W X (d + 1) 220 0 (am_args 0 [y0]) [] h (fun q => q = o) := by
  rw [am_args_R i0]
  exact rg_220_0 y0 h o rfl i0 hs
def fg_223_48 (N : Nat) (rec_14 : Value → Int32 → Int32 → Int32 → am_H → Option am_O) (x0 : Value) (x1 : Int32) (x3 : Int32) (s0 : Int32) (h : am_H) : Option am_O := (rec_14 x0 x1 s0 ((x3 + 1)) h)
theorem rg_223_48 {X : am_X} {d : Nat} {N : Nat} {rec_14 : Value → Int32 → Int32 → Int32 → am_H → Option am_O} (q_14 : ∀ (x0 : Value) (x1 : Int32) (x2 : Int32) (x3 : Int32) (h : am_H) (o : am_O), rec_14 x0 x1 x2 x3 h = some o → ∀ lv : am_LV, (lv.lookup 0 = some x0) → (lv.lookup 1 = some (.int x1)) → (lv.lookup 2 = some (.int x2)) → (lv.lookup 3 = some (.int x3)) → (am_isR x0 = true) → am_W X (d + 2) 223 14 lv [] h (fun q => q = o)) {lv : am_LV} (x0 : Value) (x1 : Int32) (x3 : Int32) (s0 : Int32) (h : am_H) (o : am_O) (l0 : lv.lookup 0 = some x0) (l1 : lv.lookup 1 = some (.int x1)) (l3 : lv.lookup 3 = some (.int x3)) (i0 : am_isR x0 = true) (hs : fg_223_48 N rec_14 x0 x1 x3 s0 h = some o) : am_W X (d + 2) 223 48 lv [(.int s0)] h (fun q => q = o) := by
  unfold fg_223_48 at hs
  refine aw_istore_n (lv1 := am_put1 _ 2 _) (pc1 := 49) at_223_48 rfl rfl ?_
  refine aw_iinc (v := (x3 + 1)) (c := 1) (lv1 := am_put1 _ 3 _) (pc1 := 52) at_223_49 (am_lk1 l3 rfl rfl) (by decide) rfl rfl rfl ?_
  refine aw_goto at_223_52 ?_
  exact q_14 x0 x1 s0 ((x3 + 1)) h o hs _ (am_lk1 (am_lk1 l0 rfl rfl) rfl rfl) (am_lk1 (am_lk1 l1 rfl rfl) rfl rfl) (am_lk1 am_lk0 rfl rfl) am_lk0 i0
def fg_223_14 (N : Nat) : Nat → Value → Int32 → Int32 → Int32 → am_H → Option am_O
  | 0 => fun _ _ _ _ _ => none
  | K + 1 => fun x0 x1 x2 x3 h => (if x1 ≤ x3 then some (.inl (some (.int x2), h)) else ((am_vR (am_pG 258 x0 h)).bind fun v2 => ((am_vI (am_pG 256 x0 h)).bind fun v4 => (if am_pOk 8 v2 h then am_cI true (fm_192 v2 v4 h) (fun v7 h8 => (if am_pOk 1 x0 h8 then am_cI true (fm_221 x0 v7 x2 h8) (fun v11 h12 => (if v11 = 0 then (fg_223_48 N (fg_223_14 N K) x0 x1 x3 x2 h12) else (fg_223_48 N (fg_223_14 N K) x0 x1 x3 v7 h12))) else none)) else none))))
theorem rg_223_14 {X : am_X} {d : Nat} {N : Nat} : ∀ (K : Nat) (x0 : Value) (x1 : Int32) (x2 : Int32) (x3 : Int32) (h : am_H) (o : am_O), fg_223_14 N K x0 x1 x2 x3 h = some o → ∀ lv : am_LV, (lv.lookup 0 = some x0) → (lv.lookup 1 = some (.int x1)) → (lv.lookup 2 = some (.int x2)) → (lv.lookup 3 = some (.int x3)) → (am_isR x0 = true) → am_W X (d + 2) 223 14 lv [] h (fun q => q = o) := by
  intro K
  induction K with
  | zero => intro x0 x1 x2 x3 h o hs; cases hs
  | succ K ih =>
    intro x0 x1 x2 x3 h o hs lv l0 l1 l2 l3 i0
    unfold fg_223_14 at hs
    refine aw_iload_n (pc1 := 15) at_223_14 l3 rfl ?_
    refine aw_iload_n (pc1 := 16) at_223_15 l1 rfl ?_
    by_cases c1 : x1 ≤ x3
    · rw [if_pos c1] at hs
      refine aw_icge_t at_223_16 c1 ?_
      refine aw_iload_n (pc1 := 56) at_223_55 l2 rfl ?_
      cases hs
      exact aw_iret at_223_56 (by rw [rt_223]; rfl) rfl
    · rw [if_neg c1] at hs
      refine aw_icge_f (pc1 := 19) at_223_16 c1 rfl ?_
      refine aw_vload_n (pc1 := 20) at_223_19 l0 i0 rfl ?_
      obtain ⟨v2, e3, hs1⟩ := am_bind hs
      clear hs
      refine aw_pG (pc1 := 23) at_223_20 (am_vR_s e3).1 rfl ?_
      refine aw_vload_n (pc1 := 24) at_223_23 l0 i0 rfl ?_
      obtain ⟨v4, e5, hs2⟩ := am_bind hs1
      clear hs1
      refine aw_pG (pc1 := 27) at_223_24 (am_vI_s e5) rfl ?_
      obtain ⟨z6, hs3⟩ := am_ift hs2
      clear hs2
      refine aw_call (F := fm_192 v2 v4 h) (t := true) (na := 2) (kd := 1) (as := [v2, (.int v4)]) at_223_27 (am_k3v kb_192) mn_192 mk_192 rfl rfl (am_ok_v mi_192 (am_hl rfl (am_ccR (am_vR_s e3).2 (am_ccI am_cats_0)) rfl) z6) (am_hc am_cats_0 rfl) (fun _ => ⟨rfl, hh_223⟩) (fun o1 hz9 => rm_192 v2 v4 h o1 (am_vR_s e3).2 hz9) ?_
      rcases am_cI_s hs3 with ⟨v7, h8, f9, hs4⟩ | hs4
      · clear hs3
        refine Or.inl ⟨_, _, f9, ?_⟩
        show am_W X _ 223 30 _ [(.int v7)] h8 _
        refine aw_istore (lv1 := am_put1 _ 4 _) (pc1 := 32) at_223_30 rfl rfl ?_
        refine aw_vload_n (pc1 := 33) at_223_32 (am_lk1 l0 rfl rfl) i0 rfl ?_
        refine aw_iload (pc1 := 35) at_223_33 am_lk0 rfl ?_
        refine aw_iload_n (pc1 := 36) at_223_35 (am_lk1 l2 rfl rfl) rfl ?_
        obtain ⟨z10, hs5⟩ := am_ift hs4
        clear hs4
        refine aw_call (F := fm_221 x0 v7 x2 h8) (t := true) (na := 3) (kd := 1) (as := [x0, (.int v7), (.int x2)]) at_223_36 (am_k3v kb_221) mn_221 mk_221 rfl rfl (am_ok_v mi_221 (am_hl rfl (am_ccR i0 (am_ccI (am_ccI am_cats_0))) rfl) z10) (am_hc am_cats_0 rfl) (fun _ => ⟨rfl, hh_223⟩) (fun o1 hz9 => rm_221 x0 v7 x2 h8 o1 i0 hz9) ?_
        rcases am_cI_s hs5 with ⟨v11, h12, f13, hs6⟩ | hs6
        · clear hs5
          refine Or.inl ⟨_, _, f13, ?_⟩
          show am_W X _ 223 39 _ [(.int v11)] h12 _
          by_cases c14 : v11 = 0
          · rw [if_pos c14] at hs6
            refine aw_ifeq_t at_223_39 c14 ?_
            refine aw_iload_n (pc1 := 48) at_223_47 (am_lk1 l2 rfl rfl) rfl ?_
            exact rg_223_48 (fun z0 z1 z2 z3 h o hs6 => ih z0 z1 z2 z3 h o hs6) x0 x1 x3 x2 h12 o (am_lk1 l0 rfl rfl) (am_lk1 l1 rfl rfl) (am_lk1 l3 rfl rfl) i0 hs6
          · rw [if_neg c14] at hs6
            refine aw_ifeq_f (pc1 := 42) at_223_39 c14 rfl ?_
            refine aw_iload (pc1 := 44) at_223_42 am_lk0 rfl ?_
            refine aw_goto at_223_44 ?_
            exact rg_223_48 (fun z0 z1 z2 z3 h o hs6 => ih z0 z1 z2 z3 h o hs6) x0 x1 x3 v7 h12 o (am_lk1 l0 rfl rfl) (am_lk1 l1 rfl rfl) (am_lk1 l3 rfl rfl) i0 hs6
        · clear hs5
          exact Or.inr hs6
      · clear hs3
        exact Or.inr hs4
def fg_223_0 (N : Nat) (x0 : Value) (x1 : Int32) (h : am_H) : Option am_O := ((am_vR (am_pG 258 x0 h)).bind fun v1 => ((am_vI (am_pG 256 x0 h)).bind fun v3 => (if am_pOk 8 v1 h then am_cI true (fm_192 v1 v3 h) (fun v6 h7 => (fg_223_14 N N x0 x1 v6 1 h7)) else none)))
theorem rg_223_0 {X : am_X} {d : Nat} {N : Nat} {lv : am_LV} (x0 : Value) (x1 : Int32) (h : am_H) (o : am_O) (l0 : lv.lookup 0 = some x0) (l1 : lv.lookup 1 = some (.int x1)) (i0 : am_isR x0 = true) (hs : fg_223_0 N x0 x1 h = some o) : am_W X (d + 2) 223 0 lv [] h (fun q => q = o) := by
  unfold fg_223_0 at hs
  refine aw_vload_n (pc1 := 1) at_223_0 l0 i0 rfl ?_
  obtain ⟨v1, e2, hs1⟩ := am_bind hs
  clear hs
  refine aw_pG (pc1 := 4) at_223_1 (am_vR_s e2).1 rfl ?_
  refine aw_vload_n (pc1 := 5) at_223_4 l0 i0 rfl ?_
  obtain ⟨v3, e4, hs2⟩ := am_bind hs1
  clear hs1
  refine aw_pG (pc1 := 8) at_223_5 (am_vI_s e4) rfl ?_
  obtain ⟨z5, hs3⟩ := am_ift hs2
  clear hs2
  refine aw_call (F := fm_192 v1 v3 h) (t := true) (na := 2) (kd := 1) (as := [v1, (.int v3)]) at_223_8 (am_k3v kb_192) mn_192 mk_192 rfl rfl (am_ok_v mi_192 (am_hl rfl (am_ccR (am_vR_s e2).2 (am_ccI am_cats_0)) rfl) z5) (am_hc am_cats_0 rfl) (fun _ => ⟨rfl, hh_223⟩) (fun o1 hz9 => rm_192 v1 v3 h o1 (am_vR_s e2).2 hz9) ?_
  rcases am_cI_s hs3 with ⟨v6, h7, f8, hs4⟩ | hs4
  · clear hs3
    refine Or.inl ⟨_, _, f8, ?_⟩
    show am_W X _ 223 11 _ [(.int v6)] h7 _
    refine aw_istore_n (lv1 := am_put1 _ 2 _) (pc1 := 12) at_223_11 rfl rfl ?_
    refine aw_iconst (v := 1) (pc1 := 13) at_223_12 (by decide) rfl ?_
    refine aw_istore_n (lv1 := am_put1 _ 3 _) (pc1 := 14) at_223_13 rfl rfl ?_
    exact rg_223_14 N x0 x1 v6 1 h7 o hs4 _ (am_lk1 (am_lk1 l0 rfl rfl) rfl rfl) (am_lk1 (am_lk1 l1 rfl rfl) rfl rfl) (am_lk1 am_lk0 rfl rfl) am_lk0 i0
  · clear hs3
    exact Or.inr hs4
def fm_223 (N : Nat) (y0 : Value) (y1 : Int32) (h : am_H) : Option am_O := fg_223_0 N y0 y1 h
theorem rm_223 {X : am_X} {d : Nat} {N : Nat} (y0 : Value) (y1 : Int32) (h : am_H) (o : am_O) (i0 : am_isR y0 = true) (hs : fm_223 N y0 y1 h = some o) : am_W X (d + 2) 223 0 (am_args 0 [y0, .int y1]) [] h (fun q => q = o) := by
  rw [am_args_R i0, am_args_I]
  exact rg_223_0 y0 y1 h o rfl rfl i0 hs
def fg_225_74 (N : Nat) (rec_9 : Value → Int32 → Int32 → Int32 → Int32 → Int32 → am_H → Option am_O) (x0 : Value) (x1 : Int32) (x2 : Int32) (x3 : Int32) (x4 : Int32) (x5 : Int32) (h : am_H) : Option am_O := (rec_9 x0 x1 x2 x3 x4 ((x5 + 1)) h)
theorem rg_225_74 {X : am_X} {d : Nat} {N : Nat} {rec_9 : Value → Int32 → Int32 → Int32 → Int32 → Int32 → am_H → Option am_O} (q_9 : ∀ (x0 : Value) (x1 : Int32) (x2 : Int32) (x3 : Int32) (x4 : Int32) (x5 : Int32) (h : am_H) (o : am_O), rec_9 x0 x1 x2 x3 x4 x5 h = some o → ∀ lv : am_LV, (lv.lookup 0 = some x0) → (lv.lookup 1 = some (.int x1)) → (lv.lookup 2 = some (.int x2)) → (lv.lookup 3 = some (.int x3)) → (lv.lookup 4 = some (.int x4)) → (lv.lookup 5 = some (.int x5)) → (am_isR x0 = true) → am_W X (d) 225 9 lv [] h (fun q => q = o)) {lv : am_LV} (x0 : Value) (x1 : Int32) (x2 : Int32) (x3 : Int32) (x4 : Int32) (x5 : Int32) (h : am_H) (o : am_O) (l0 : lv.lookup 0 = some x0) (l1 : lv.lookup 1 = some (.int x1)) (l2 : lv.lookup 2 = some (.int x2)) (l3 : lv.lookup 3 = some (.int x3)) (l4 : lv.lookup 4 = some (.int x4)) (l5 : lv.lookup 5 = some (.int x5)) (i0 : am_isR x0 = true) (hs : fg_225_74 N rec_9 x0 x1 x2 x3 x4 x5 h = some o) : am_W X (d) 225 74 lv [] h (fun q => q = o) := by
  unfold fg_225_74 at hs
  refine aw_iinc (v := (x5 + 1)) (c := 1) (lv1 := am_put1 _ 5 _) (pc1 := 77) at_225_74 l5 (by decide) rfl rfl rfl ?_
  refine aw_goto at_225_77 ?_
  exact q_9 x0 x1 x2 x3 x4 ((x5 + 1)) h o hs _ (am_lk1 l0 rfl rfl) (am_lk1 l1 rfl rfl) (am_lk1 l2 rfl rfl) (am_lk1 l3 rfl rfl) (am_lk1 l4 rfl rfl) am_lk0 i0
def fg_225_60 (N : Nat) (rec_9 : Value → Int32 → Int32 → Int32 → Int32 → Int32 → am_H → Option am_O) (x0 : Value) (x1 : Int32) (x2 : Int32) (x5 : Int32) (x6 : Int32) (s0 : Int32) (h : am_H) : Option am_O := (fg_225_74 N rec_9 x0 x1 x2 x6 ((s0 ||| (1 <<< (x5 &&& 31)))) x5 h)
theorem rg_225_60 {X : am_X} {d : Nat} {N : Nat} {rec_9 : Value → Int32 → Int32 → Int32 → Int32 → Int32 → am_H → Option am_O} (q_9 : ∀ (x0 : Value) (x1 : Int32) (x2 : Int32) (x3 : Int32) (x4 : Int32) (x5 : Int32) (h : am_H) (o : am_O), rec_9 x0 x1 x2 x3 x4 x5 h = some o → ∀ lv : am_LV, (lv.lookup 0 = some x0) → (lv.lookup 1 = some (.int x1)) → (lv.lookup 2 = some (.int x2)) → (lv.lookup 3 = some (.int x3)) → (lv.lookup 4 = some (.int x4)) → (lv.lookup 5 = some (.int x5)) → (am_isR x0 = true) → am_W X (d) 225 9 lv [] h (fun q => q = o)) {lv : am_LV} (x0 : Value) (x1 : Int32) (x2 : Int32) (x5 : Int32) (x6 : Int32) (s0 : Int32) (h : am_H) (o : am_O) (l0 : lv.lookup 0 = some x0) (l1 : lv.lookup 1 = some (.int x1)) (l2 : lv.lookup 2 = some (.int x2)) (l5 : lv.lookup 5 = some (.int x5)) (l6 : lv.lookup 6 = some (.int x6)) (i0 : am_isR x0 = true) (hs : fg_225_60 N rec_9 x0 x1 x2 x5 x6 s0 h = some o) : am_W X (d) 225 60 lv [(.int s0)] h (fun q => q = o) := by
  unfold fg_225_60 at hs
  refine aw_istore (lv1 := am_put1 _ 4 _) (pc1 := 62) at_225_60 rfl rfl ?_
  refine aw_iload (pc1 := 64) at_225_62 am_lk0 rfl ?_
  refine aw_iconst (v := 1) (pc1 := 65) at_225_64 (by decide) rfl ?_
  refine aw_iload (pc1 := 67) at_225_65 (am_lk1 l5 rfl rfl) rfl ?_
  refine aw_ishl (v := (1 <<< (x5 &&& 31))) (pc1 := 68) at_225_67 rfl rfl ?_
  refine aw_ior (v := (s0 ||| (1 <<< (x5 &&& 31)))) (pc1 := 69) at_225_68 rfl rfl ?_
  refine aw_istore (lv1 := am_put1 _ 4 _) (pc1 := 71) at_225_69 rfl rfl ?_
  refine aw_iload (pc1 := 73) at_225_71 (am_lk1 (am_lk1 l6 rfl rfl) rfl rfl) rfl ?_
  refine aw_istore_n (lv1 := am_put1 _ 3 _) (pc1 := 74) at_225_73 rfl rfl ?_
  exact rg_225_74 q_9 x0 x1 x2 x6 ((s0 ||| (1 <<< (x5 &&& 31)))) x5 h o (am_lk1 (am_lk1 (am_lk1 l0 rfl rfl) rfl rfl) rfl rfl) (am_lk1 (am_lk1 (am_lk1 l1 rfl rfl) rfl rfl) rfl rfl) (am_lk1 (am_lk1 (am_lk1 l2 rfl rfl) rfl rfl) rfl rfl) am_lk0 (am_lk1 am_lk0 rfl rfl) (am_lk1 (am_lk1 (am_lk1 l5 rfl rfl) rfl rfl) rfl rfl) i0 hs
def fg_225_9 (N : Nat) : Nat → Value → Int32 → Int32 → Int32 → Int32 → Int32 → am_H → Option am_O
  | 0 => fun _ _ _ _ _ _ _ => none
  | K + 1 => fun x0 x1 x2 x3 x4 x5 h => ((am_vI (am_pG 256 x0 h)).bind fun v1 => (if v1 ≤ x5 then some (.inl (some (.int x4), h)) else ((am_vR (am_pG 263 x0 h)).bind fun v4 => ((am_pA 0 v4 ((x5 * 24) + x2) h).bind fun v6 => (if ¬ ((x1 >>> (x5 &&& 31)) &&& 1) = 1 then (fg_225_74 N (fg_225_9 N K) x0 x1 x2 x3 x4 x5 h) else (if x3 < v6 then (fg_225_74 N (fg_225_9 N K) x0 x1 x2 x3 x4 x5 h) else (if x3 ≤ v6 then (fg_225_60 N (fg_225_9 N K) x0 x1 x2 x5 v6 x4 h) else (fg_225_60 N (fg_225_9 N K) x0 x1 x2 x5 v6 0 h))))))))
theorem rg_225_9 {X : am_X} {d : Nat} {N : Nat} : ∀ (K : Nat) (x0 : Value) (x1 : Int32) (x2 : Int32) (x3 : Int32) (x4 : Int32) (x5 : Int32) (h : am_H) (o : am_O), fg_225_9 N K x0 x1 x2 x3 x4 x5 h = some o → ∀ lv : am_LV, (lv.lookup 0 = some x0) → (lv.lookup 1 = some (.int x1)) → (lv.lookup 2 = some (.int x2)) → (lv.lookup 3 = some (.int x3)) → (lv.lookup 4 = some (.int x4)) → (lv.lookup 5 = some (.int x5)) → (am_isR x0 = true) → am_W X (d) 225 9 lv [] h (fun q => q = o) := by
  intro K
  induction K with
  | zero => intro x0 x1 x2 x3 x4 x5 h o hs; cases hs
  | succ K ih =>
    intro x0 x1 x2 x3 x4 x5 h o hs lv l0 l1 l2 l3 l4 l5 i0
    unfold fg_225_9 at hs
    refine aw_iload (pc1 := 11) at_225_9 l5 rfl ?_
    refine aw_vload_n (pc1 := 12) at_225_11 l0 i0 rfl ?_
    obtain ⟨v1, e2, hs1⟩ := am_bind hs
    clear hs
    refine aw_pG (pc1 := 15) at_225_12 (am_vI_s e2) rfl ?_
    by_cases c3 : v1 ≤ x5
    · rw [if_pos c3] at hs1
      refine aw_icge_t at_225_15 c3 ?_
      refine aw_iload (pc1 := 82) at_225_80 l4 rfl ?_
      cases hs1
      exact aw_iret at_225_82 (by rw [rt_225]; rfl) rfl
    · rw [if_neg c3] at hs1
      refine aw_icge_f (pc1 := 18) at_225_15 c3 rfl ?_
      refine aw_vload_n (pc1 := 19) at_225_18 l0 i0 rfl ?_
      obtain ⟨v4, e5, hs2⟩ := am_bind hs1
      clear hs1
      refine aw_pG (pc1 := 22) at_225_19 (am_vR_s e5).1 rfl ?_
      refine aw_iload (pc1 := 24) at_225_22 l5 rfl ?_
      refine aw_bipush (v := 24) (pc1 := 26) at_225_24 (by decide) rfl ?_
      refine aw_imul (v := (x5 * 24)) (pc1 := 27) at_225_26 rfl rfl ?_
      refine aw_iload_n (pc1 := 28) at_225_27 l2 rfl ?_
      refine aw_iadd (v := ((x5 * 24) + x2)) (pc1 := 29) at_225_28 rfl rfl ?_
      obtain ⟨v6, e7, hs3⟩ := am_bind hs2
      clear hs2
      refine aw_pA (pc1 := 30) at_225_29 (Or.inl ⟨rfl, rfl⟩) e7 rfl ?_
      refine aw_istore (lv1 := am_put1 _ 6 _) (pc1 := 32) at_225_30 rfl rfl ?_
      refine aw_iload_n (pc1 := 33) at_225_32 (am_lk1 l1 rfl rfl) rfl ?_
      refine aw_iload (pc1 := 35) at_225_33 (am_lk1 l5 rfl rfl) rfl ?_
      refine aw_ishr (v := (x1 >>> (x5 &&& 31))) (pc1 := 36) at_225_35 rfl rfl ?_
      refine aw_iconst (v := 1) (pc1 := 37) at_225_36 (by decide) rfl ?_
      refine aw_iand (v := ((x1 >>> (x5 &&& 31)) &&& 1)) (pc1 := 38) at_225_37 rfl rfl ?_
      refine aw_iconst (v := 1) (pc1 := 39) at_225_38 (by decide) rfl ?_
      by_cases c8 : ¬ ((x1 >>> (x5 &&& 31)) &&& 1) = 1
      · rw [if_pos c8] at hs3
        refine aw_icne_t at_225_39 c8 ?_
        exact rg_225_74 (fun z0 z1 z2 z3 z4 z5 h o hs3 => ih z0 z1 z2 z3 z4 z5 h o hs3) x0 x1 x2 x3 x4 x5 h o (am_lk1 l0 rfl rfl) (am_lk1 l1 rfl rfl) (am_lk1 l2 rfl rfl) (am_lk1 l3 rfl rfl) (am_lk1 l4 rfl rfl) (am_lk1 l5 rfl rfl) i0 hs3
      · rw [if_neg c8] at hs3
        refine aw_icne_f (pc1 := 42) at_225_39 c8 rfl ?_
        refine aw_iload (pc1 := 44) at_225_42 am_lk0 rfl ?_
        refine aw_iload_n (pc1 := 45) at_225_44 (am_lk1 l3 rfl rfl) rfl ?_
        by_cases c9 : x3 < v6
        · rw [if_pos c9] at hs3
          refine aw_icgt_t at_225_45 c9 ?_
          exact rg_225_74 (fun z0 z1 z2 z3 z4 z5 h o hs3 => ih z0 z1 z2 z3 z4 z5 h o hs3) x0 x1 x2 x3 x4 x5 h o (am_lk1 l0 rfl rfl) (am_lk1 l1 rfl rfl) (am_lk1 l2 rfl rfl) (am_lk1 l3 rfl rfl) (am_lk1 l4 rfl rfl) (am_lk1 l5 rfl rfl) i0 hs3
        · rw [if_neg c9] at hs3
          refine aw_icgt_f (pc1 := 48) at_225_45 c9 rfl ?_
          refine aw_iload (pc1 := 50) at_225_48 am_lk0 rfl ?_
          refine aw_iload_n (pc1 := 51) at_225_50 (am_lk1 l3 rfl rfl) rfl ?_
          by_cases c10 : x3 ≤ v6
          · rw [if_pos c10] at hs3
            refine aw_icge_t at_225_51 c10 ?_
            refine aw_iload (pc1 := 60) at_225_58 (am_lk1 l4 rfl rfl) rfl ?_
            exact rg_225_60 (fun z0 z1 z2 z3 z4 z5 h o hs3 => ih z0 z1 z2 z3 z4 z5 h o hs3) x0 x1 x2 x5 v6 x4 h o (am_lk1 l0 rfl rfl) (am_lk1 l1 rfl rfl) (am_lk1 l2 rfl rfl) (am_lk1 l5 rfl rfl) am_lk0 i0 hs3
          · rw [if_neg c10] at hs3
            refine aw_icge_f (pc1 := 54) at_225_51 c10 rfl ?_
            refine aw_iconst (v := 0) (pc1 := 55) at_225_54 (by decide) rfl ?_
            refine aw_goto at_225_55 ?_
            exact rg_225_60 (fun z0 z1 z2 z3 z4 z5 h o hs3 => ih z0 z1 z2 z3 z4 z5 h o hs3) x0 x1 x2 x5 v6 0 h o (am_lk1 l0 rfl rfl) (am_lk1 l1 rfl rfl) (am_lk1 l2 rfl rfl) (am_lk1 l5 rfl rfl) am_lk0 i0 hs3
def fg_225_0 (N : Nat) (x0 : Value) (x1 : Int32) (x2 : Int32) (h : am_H) : Option am_O := (fg_225_9 N N x0 x1 x2 2000000 0 0 h)
theorem rg_225_0 {X : am_X} {d : Nat} {N : Nat} {lv : am_LV} (x0 : Value) (x1 : Int32) (x2 : Int32) (h : am_H) (o : am_O) (l0 : lv.lookup 0 = some x0) (l1 : lv.lookup 1 = some (.int x1)) (l2 : lv.lookup 2 = some (.int x2)) (i0 : am_isR x0 = true) (hs : fg_225_0 N x0 x1 x2 h = some o) : am_W X (d) 225 0 lv [] h (fun q => q = o) := by
  unfold fg_225_0 at hs
  refine aw_ldc (v := 2000000) (pc1 := 2) at_225_0 rfl rfl rfl ?_
  refine aw_istore_n (lv1 := am_put1 _ 3 _) (pc1 := 3) at_225_2 rfl rfl ?_
  refine aw_iconst (v := 0) (pc1 := 4) at_225_3 (by decide) rfl ?_
  refine aw_istore (lv1 := am_put1 _ 4 _) (pc1 := 6) at_225_4 rfl rfl ?_
  refine aw_iconst (v := 0) (pc1 := 7) at_225_6 (by decide) rfl ?_
  refine aw_istore (lv1 := am_put1 _ 5 _) (pc1 := 9) at_225_7 rfl rfl ?_
  exact rg_225_9 N x0 x1 x2 2000000 0 0 h o hs _ (am_lk1 (am_lk1 (am_lk1 l0 rfl rfl) rfl rfl) rfl rfl) (am_lk1 (am_lk1 (am_lk1 l1 rfl rfl) rfl rfl) rfl rfl) (am_lk1 (am_lk1 (am_lk1 l2 rfl rfl) rfl rfl) rfl rfl) (am_lk1 (am_lk1 am_lk0 rfl rfl) rfl rfl) (am_lk1 am_lk0 rfl rfl) am_lk0 i0
def fm_225 (N : Nat) (y0 : Value) (y1 : Int32) (y2 : Int32) (h : am_H) : Option am_O := fg_225_0 N y0 y1 y2 h
theorem rm_225 {X : am_X} {d : Nat} {N : Nat} (y0 : Value) (y1 : Int32) (y2 : Int32) (h : am_H) (o : am_O) (i0 : am_isR y0 = true) (hs : fm_225 N y0 y1 y2 h = some o) : am_W X (d) 225 0 (am_args 0 [y0, .int y1, .int y2]) [] h (fun q => q = o) := by
  rw [am_args_R i0, am_args_I, am_args_I]
  exact rg_225_0 y0 y1 y2 h o rfl rfl rfl i0 hs
def fg_226_24 (N : Nat) (x2 : Int32) (h : am_H) : Option am_O := some (.inl (some (.int x2), h))
theorem rg_226_24 {X : am_X} {d : Nat} {N : Nat} {lv : am_LV} (x2 : Int32) (h : am_H) (o : am_O) (l2 : lv.lookup 2 = some (.int x2)) (hs : fg_226_24 N x2 h = some o) : am_W X (d) 226 24 lv [] h (fun q => q = o) := by
  unfold fg_226_24 at hs
  refine aw_iload_n (pc1 := 25) at_226_24 l2 rfl ?_
  cases hs
  exact aw_iret at_226_25 (by rw [rt_226]; rfl) rfl
def fg_226_2 (N : Nat) : Nat → Value → Int32 → Int32 → am_H → Option am_O
  | 0 => fun _ _ _ _ => none
  | K + 1 => fun x0 x1 x2 h => ((am_vI (am_pG 256 x0 h)).bind fun v1 => (if v1 ≤ x2 then (fg_226_24 N x2 h) else (if ¬ ((x1 >>> (x2 &&& 31)) &&& 1) = 0 then (fg_226_24 N x2 h) else (fg_226_2 N K x0 x1 ((x2 + 1)) h))))
theorem rg_226_2 {X : am_X} {d : Nat} {N : Nat} : ∀ (K : Nat) (x0 : Value) (x1 : Int32) (x2 : Int32) (h : am_H) (o : am_O), fg_226_2 N K x0 x1 x2 h = some o → ∀ lv : am_LV, (lv.lookup 0 = some x0) → (lv.lookup 1 = some (.int x1)) → (lv.lookup 2 = some (.int x2)) → (am_isR x0 = true) → am_W X (d) 226 2 lv [] h (fun q => q = o) := by
  intro K
  induction K with
  | zero => intro x0 x1 x2 h o hs; cases hs
  | succ K ih =>
    intro x0 x1 x2 h o hs lv l0 l1 l2 i0
    unfold fg_226_2 at hs
    refine aw_iload_n (pc1 := 3) at_226_2 l2 rfl ?_
    refine aw_vload_n (pc1 := 4) at_226_3 l0 i0 rfl ?_
    obtain ⟨v1, e2, hs1⟩ := am_bind hs
    clear hs
    refine aw_pG (pc1 := 7) at_226_4 (am_vI_s e2) rfl ?_
    by_cases c3 : v1 ≤ x2
    · rw [if_pos c3] at hs1
      refine aw_icge_t at_226_7 c3 ?_
      exact rg_226_24 x2 h o l2  hs1
    · rw [if_neg c3] at hs1
      refine aw_icge_f (pc1 := 10) at_226_7 c3 rfl ?_
      refine aw_iload_n (pc1 := 11) at_226_10 l1 rfl ?_
      refine aw_iload_n (pc1 := 12) at_226_11 l2 rfl ?_
      refine aw_ishr (v := (x1 >>> (x2 &&& 31))) (pc1 := 13) at_226_12 rfl rfl ?_
      refine aw_iconst (v := 1) (pc1 := 14) at_226_13 (by decide) rfl ?_
      refine aw_iand (v := ((x1 >>> (x2 &&& 31)) &&& 1)) (pc1 := 15) at_226_14 rfl rfl ?_
      by_cases c4 : ¬ ((x1 >>> (x2 &&& 31)) &&& 1) = 0
      · rw [if_pos c4] at hs1
        refine aw_ifne_t at_226_15 c4 ?_
        exact rg_226_24 x2 h o l2  hs1
      · rw [if_neg c4] at hs1
        refine aw_ifne_f (pc1 := 18) at_226_15 c4 rfl ?_
        refine aw_iinc (v := (x2 + 1)) (c := 1) (lv1 := am_put1 _ 2 _) (pc1 := 21) at_226_18 l2 (by decide) rfl rfl rfl ?_
        refine aw_goto at_226_21 ?_
        exact ih x0 x1 ((x2 + 1)) h o hs1 _ (am_lk1 l0 rfl rfl) (am_lk1 l1 rfl rfl) am_lk0 i0
def fg_226_0 (N : Nat) (x0 : Value) (x1 : Int32) (h : am_H) : Option am_O := (fg_226_2 N N x0 x1 0 h)
theorem rg_226_0 {X : am_X} {d : Nat} {N : Nat} {lv : am_LV} (x0 : Value) (x1 : Int32) (h : am_H) (o : am_O) (l0 : lv.lookup 0 = some x0) (l1 : lv.lookup 1 = some (.int x1)) (i0 : am_isR x0 = true) (hs : fg_226_0 N x0 x1 h = some o) : am_W X (d) 226 0 lv [] h (fun q => q = o) := by
  unfold fg_226_0 at hs
  refine aw_iconst (v := 0) (pc1 := 1) at_226_0 (by decide) rfl ?_
  refine aw_istore_n (lv1 := am_put1 _ 2 _) (pc1 := 2) at_226_1 rfl rfl ?_
  exact rg_226_2 N x0 x1 0 h o hs _ (am_lk1 l0 rfl rfl) (am_lk1 l1 rfl rfl) am_lk0 i0
def fm_226 (N : Nat) (y0 : Value) (y1 : Int32) (h : am_H) : Option am_O := fg_226_0 N y0 y1 h
theorem rm_226 {X : am_X} {d : Nat} {N : Nat} (y0 : Value) (y1 : Int32) (h : am_H) (o : am_O) (i0 : am_isR y0 = true) (hs : fm_226 N y0 y1 h = some o) : am_W X (d) 226 0 (am_args 0 [y0, .int y1]) [] h (fun q => q = o) := by
  rw [am_args_R i0, am_args_I]
  exact rg_226_0 y0 y1 h o rfl rfl i0 hs
def fg_224_89 (N : Nat) : Nat → Value → Int32 → Int32 → am_H → Option am_O
  | 0 => fun _ _ _ _ => none
  | K + 1 => fun x0 x1 x2 h => ((am_vI (am_pG 259 x0 h)).bind fun v1 => (if v1 ≤ x2 then (if am_pOk 1 x0 h then am_cI true (fm_226 N x0 x1 h) (fun v5 h6 => some (.inl (some (.int v5), h6))) else none) else ((am_vR (am_pG 265 x0 h)).bind fun v8 => ((am_pA 0 v8 x2 h).bind fun v10 => (if am_pOk 1 x0 h then am_cI true (fm_225 N x0 x1 v10 h) (fun v13 h14 => (fg_224_89 N K x0 v13 ((x2 + 1)) h14)) else none)))))
theorem rg_224_89 {X : am_X} {d : Nat} {N : Nat} : ∀ (K : Nat) (x0 : Value) (x1 : Int32) (x2 : Int32) (h : am_H) (o : am_O), fg_224_89 N K x0 x1 x2 h = some o → ∀ lv : am_LV, (lv.lookup 0 = some x0) → (lv.lookup 1 = some (.int x1)) → (lv.lookup 2 = some (.int x2)) → (am_isR x0 = true) → am_W X (d + 2) 224 89 lv [] h (fun q => q = o) := by
  intro K
  induction K with
  | zero => intro x0 x1 x2 h o hs; cases hs
  | succ K ih =>
    intro x0 x1 x2 h o hs lv l0 l1 l2 i0
    unfold fg_224_89 at hs
    refine aw_iload_n (pc1 := 90) at_224_89 l2 rfl ?_
    refine aw_vload_n (pc1 := 91) at_224_90 l0 i0 rfl ?_
    obtain ⟨v1, e2, hs1⟩ := am_bind hs
    clear hs
    refine aw_pG (pc1 := 94) at_224_91 (am_vI_s e2) rfl ?_
    by_cases c3 : v1 ≤ x2
    · rw [if_pos c3] at hs1
      refine aw_icge_t at_224_94 c3 ?_
      refine aw_vload_n (pc1 := 116) at_224_115 l0 i0 rfl ?_
      refine aw_iload_n (pc1 := 117) at_224_116 l1 rfl ?_
      obtain ⟨z4, hs2⟩ := am_ift hs1
      clear hs1
      refine aw_call (F := fm_226 N x0 x1 h) (t := true) (na := 2) (kd := 1) (as := [x0, (.int x1)]) at_224_117 (am_k3v kb_226) mn_226 mk_226 rfl rfl (am_ok_v mi_226 (am_hl rfl (am_ccR i0 (am_ccI am_cats_0)) rfl) z4) (am_hc am_cats_0 rfl) (fun _ => ⟨rfl, hh_224⟩) (fun o1 hz9 => rm_226 x0 x1 h o1 i0 hz9) ?_
      rcases am_cI_s hs2 with ⟨v5, h6, f7, hs3⟩ | hs3
      · clear hs2
        refine Or.inl ⟨_, _, f7, ?_⟩
        show am_W X _ 224 120 _ [(.int v5)] h6 _
        cases hs3
        exact aw_iret at_224_120 (by rw [rt_224]; rfl) rfl
      · clear hs2
        exact Or.inr hs3
    · rw [if_neg c3] at hs1
      refine aw_icge_f (pc1 := 97) at_224_94 c3 rfl ?_
      refine aw_vload_n (pc1 := 98) at_224_97 l0 i0 rfl ?_
      refine aw_iload_n (pc1 := 99) at_224_98 l1 rfl ?_
      refine aw_vload_n (pc1 := 100) at_224_99 l0 i0 rfl ?_
      obtain ⟨v8, e9, hs4⟩ := am_bind hs1
      clear hs1
      refine aw_pG (pc1 := 103) at_224_100 (am_vR_s e9).1 rfl ?_
      refine aw_iload_n (pc1 := 104) at_224_103 l2 rfl ?_
      obtain ⟨v10, e11, hs5⟩ := am_bind hs4
      clear hs4
      refine aw_pA (pc1 := 105) at_224_104 (Or.inl ⟨rfl, rfl⟩) e11 rfl ?_
      obtain ⟨z12, hs6⟩ := am_ift hs5
      clear hs5
      refine aw_call (F := fm_225 N x0 x1 v10 h) (t := true) (na := 3) (kd := 1) (as := [x0, (.int x1), (.int v10)]) at_224_105 (am_k3v kb_225) mn_225 mk_225 rfl rfl (am_ok_v mi_225 (am_hl rfl (am_ccR i0 (am_ccI (am_ccI am_cats_0))) rfl) z12) (am_hc am_cats_0 rfl) (fun _ => ⟨rfl, hh_224⟩) (fun o1 hz9 => rm_225 x0 x1 v10 h o1 i0 hz9) ?_
      rcases am_cI_s hs6 with ⟨v13, h14, f15, hs7⟩ | hs7
      · clear hs6
        refine Or.inl ⟨_, _, f15, ?_⟩
        show am_W X _ 224 108 _ [(.int v13)] h14 _
        refine aw_istore_n (lv1 := am_put1 _ 1 _) (pc1 := 109) at_224_108 rfl rfl ?_
        refine aw_iinc (v := (x2 + 1)) (c := 1) (lv1 := am_put1 _ 2 _) (pc1 := 112) at_224_109 (am_lk1 l2 rfl rfl) (by decide) rfl rfl rfl ?_
        refine aw_goto at_224_112 ?_
        exact ih x0 v13 ((x2 + 1)) h14 o hs7 _ (am_lk1 (am_lk1 l0 rfl (by rw [am_isRc i0]; rfl)) rfl rfl) (am_lk1 am_lk0 rfl rfl) am_lk0 i0
      · clear hs6
        exact Or.inr hs7
def fg_224_30 (N : Nat) : Nat → Value → Int32 → am_H → Option am_O
  | 0 => fun _ _ _ => none
  | K + 1 => fun x0 x1 h => (if x1 < 1 then ((am_vI (am_pG 256 x0 h)).bind fun v2 => (fg_224_89 N N x0 (((1 <<< (v2 &&& 31)) - 1)) 0 h)) else ((am_vR (am_pG 258 x0 h)).bind fun v4 => (if am_pOk 8 v4 h then am_cI true (fm_192 v4 ((x1 + 1)) h) (fun v7 h8 => ((am_vR (am_pG 265 x0 h8)).bind fun v10 => ((am_pA 0 v10 x1 h8).bind fun v12 => ((am_vR (am_pG 265 x0 h8)).bind fun v14 => ((am_vR (am_pG 265 x0 h8)).bind fun v16 => ((am_pA 0 v16 v7 h8).bind fun v18 => ((am_pS 0 v14 x1 v18 h8).bind fun h20 => ((am_vR (am_pG 265 x0 h20)).bind fun v22 => ((am_pS 0 v22 v7 v12 h20).bind fun h24 => (fg_224_30 N K x0 ((x1 + (-1))) h24)))))))))) else none)))
theorem rg_224_30 {X : am_X} {d : Nat} {N : Nat} : ∀ (K : Nat) (x0 : Value) (x1 : Int32) (h : am_H) (o : am_O), fg_224_30 N K x0 x1 h = some o → ∀ lv : am_LV, (lv.lookup 0 = some x0) → (lv.lookup 1 = some (.int x1)) → (am_isR x0 = true) → am_W X (d + 2) 224 30 lv [] h (fun q => q = o) := by
  intro K
  induction K with
  | zero => intro x0 x1 h o hs; cases hs
  | succ K ih =>
    intro x0 x1 h o hs lv l0 l1 i0
    unfold fg_224_30 at hs
    refine aw_iload_n (pc1 := 31) at_224_30 l1 rfl ?_
    refine aw_iconst (v := 1) (pc1 := 32) at_224_31 (by decide) rfl ?_
    by_cases c1 : x1 < 1
    · rw [if_pos c1] at hs
      refine aw_iclt_t at_224_32 c1 ?_
      refine aw_iconst (v := 1) (pc1 := 79) at_224_78 (by decide) rfl ?_
      refine aw_vload_n (pc1 := 80) at_224_79 l0 i0 rfl ?_
      obtain ⟨v2, e3, hs1⟩ := am_bind hs
      clear hs
      refine aw_pG (pc1 := 83) at_224_80 (am_vI_s e3) rfl ?_
      refine aw_ishl (v := (1 <<< (v2 &&& 31))) (pc1 := 84) at_224_83 rfl rfl ?_
      refine aw_iconst (v := 1) (pc1 := 85) at_224_84 (by decide) rfl ?_
      refine aw_isub (v := ((1 <<< (v2 &&& 31)) - 1)) (pc1 := 86) at_224_85 rfl rfl ?_
      refine aw_istore_n (lv1 := am_put1 _ 1 _) (pc1 := 87) at_224_86 rfl rfl ?_
      refine aw_iconst (v := 0) (pc1 := 88) at_224_87 (by decide) rfl ?_
      refine aw_istore_n (lv1 := am_put1 _ 2 _) (pc1 := 89) at_224_88 rfl rfl ?_
      exact rg_224_89 N x0 (((1 <<< (v2 &&& 31)) - 1)) 0 h o hs1 _ (am_lk1 (am_lk1 l0 rfl (by rw [am_isRc i0]; rfl)) rfl rfl) (am_lk1 am_lk0 rfl rfl) am_lk0 i0
    · rw [if_neg c1] at hs
      refine aw_iclt_f (pc1 := 35) at_224_32 c1 rfl ?_
      refine aw_vload_n (pc1 := 36) at_224_35 l0 i0 rfl ?_
      obtain ⟨v4, e5, hs2⟩ := am_bind hs
      clear hs
      refine aw_pG (pc1 := 39) at_224_36 (am_vR_s e5).1 rfl ?_
      refine aw_iload_n (pc1 := 40) at_224_39 l1 rfl ?_
      refine aw_iconst (v := 1) (pc1 := 41) at_224_40 (by decide) rfl ?_
      refine aw_iadd (v := (x1 + 1)) (pc1 := 42) at_224_41 rfl rfl ?_
      obtain ⟨z6, hs3⟩ := am_ift hs2
      clear hs2
      refine aw_call (F := fm_192 v4 ((x1 + 1)) h) (t := true) (na := 2) (kd := 1) (as := [v4, (.int (x1 + 1))]) at_224_42 (am_k3v kb_192) mn_192 mk_192 rfl rfl (am_ok_v mi_192 (am_hl rfl (am_ccR (am_vR_s e5).2 (am_ccI am_cats_0)) rfl) z6) (am_hc am_cats_0 rfl) (fun _ => ⟨rfl, hh_224⟩) (fun o1 hz9 => rm_192 v4 ((x1 + 1)) h o1 (am_vR_s e5).2 hz9) ?_
      rcases am_cI_s hs3 with ⟨v7, h8, f9, hs4⟩ | hs4
      · clear hs3
        refine Or.inl ⟨_, _, f9, ?_⟩
        show am_W X _ 224 45 _ [(.int v7)] h8 _
        refine aw_istore_n (lv1 := am_put1 _ 2 _) (pc1 := 46) at_224_45 rfl rfl ?_
        refine aw_vload_n (pc1 := 47) at_224_46 (am_lk1 l0 rfl rfl) i0 rfl ?_
        obtain ⟨v10, e11, hs5⟩ := am_bind hs4
        clear hs4
        refine aw_pG (pc1 := 50) at_224_47 (am_vR_s e11).1 rfl ?_
        refine aw_iload_n (pc1 := 51) at_224_50 (am_lk1 l1 rfl rfl) rfl ?_
        obtain ⟨v12, e13, hs6⟩ := am_bind hs5
        clear hs5
        refine aw_pA (pc1 := 52) at_224_51 (Or.inl ⟨rfl, rfl⟩) e13 rfl ?_
        refine aw_istore_n (lv1 := am_put1 _ 3 _) (pc1 := 53) at_224_52 rfl rfl ?_
        refine aw_vload_n (pc1 := 54) at_224_53 (am_lk1 (am_lk1 l0 rfl rfl) rfl rfl) i0 rfl ?_
        obtain ⟨v14, e15, hs7⟩ := am_bind hs6
        clear hs6
        refine aw_pG (pc1 := 57) at_224_54 (am_vR_s e15).1 rfl ?_
        refine aw_iload_n (pc1 := 58) at_224_57 (am_lk1 (am_lk1 l1 rfl rfl) rfl rfl) rfl ?_
        refine aw_vload_n (pc1 := 59) at_224_58 (am_lk1 (am_lk1 l0 rfl rfl) rfl rfl) i0 rfl ?_
        obtain ⟨v16, e17, hs8⟩ := am_bind hs7
        clear hs7
        refine aw_pG (pc1 := 62) at_224_59 (am_vR_s e17).1 rfl ?_
        refine aw_iload_n (pc1 := 63) at_224_62 (am_lk1 am_lk0 rfl rfl) rfl ?_
        obtain ⟨v18, e19, hs9⟩ := am_bind hs8
        clear hs8
        refine aw_pA (pc1 := 64) at_224_63 (Or.inl ⟨rfl, rfl⟩) e19 rfl ?_
        obtain ⟨h20, e21, hs10⟩ := am_bind hs9
        clear hs9
        refine aw_pS (pc1 := 65) at_224_64 (Or.inl ⟨rfl, rfl⟩) e21 rfl ?_
        refine aw_vload_n (pc1 := 66) at_224_65 (am_lk1 (am_lk1 l0 rfl rfl) rfl rfl) i0 rfl ?_
        obtain ⟨v22, e23, hs11⟩ := am_bind hs10
        clear hs10
        refine aw_pG (pc1 := 69) at_224_66 (am_vR_s e23).1 rfl ?_
        refine aw_iload_n (pc1 := 70) at_224_69 (am_lk1 am_lk0 rfl rfl) rfl ?_
        refine aw_iload_n (pc1 := 71) at_224_70 am_lk0 rfl ?_
        obtain ⟨h24, e25, hs12⟩ := am_bind hs11
        clear hs11
        refine aw_pS (pc1 := 72) at_224_71 (Or.inl ⟨rfl, rfl⟩) e25 rfl ?_
        refine aw_iinc (v := (x1 + (-1))) (c := (-1)) (lv1 := am_put1 _ 1 _) (pc1 := 75) at_224_72 (am_lk1 (am_lk1 l1 rfl rfl) rfl rfl) (by decide) rfl rfl rfl ?_
        refine aw_goto at_224_75 ?_
        exact ih x0 ((x1 + (-1))) h24 o hs12 _ (am_lk1 (am_lk1 (am_lk1 l0 rfl rfl) rfl rfl) rfl (by rw [am_isRc i0]; rfl)) am_lk0 i0
      · clear hs3
        exact Or.inr hs4
def fg_224_2 (N : Nat) : Nat → Value → Int32 → am_H → Option am_O
  | 0 => fun _ _ _ => none
  | K + 1 => fun x0 x1 h => ((am_vI (am_pG 259 x0 h)).bind fun v1 => (if v1 ≤ x1 then ((am_vI (am_pG 259 x0 h)).bind fun v4 => (fg_224_30 N N x0 ((v4 - 1)) h)) else ((am_vR (am_pG 265 x0 h)).bind fun v6 => ((am_pS 0 v6 x1 x1 h).bind fun h8 => (fg_224_2 N K x0 ((x1 + 1)) h8)))))
theorem rg_224_2 {X : am_X} {d : Nat} {N : Nat} : ∀ (K : Nat) (x0 : Value) (x1 : Int32) (h : am_H) (o : am_O), fg_224_2 N K x0 x1 h = some o → ∀ lv : am_LV, (lv.lookup 0 = some x0) → (lv.lookup 1 = some (.int x1)) → (am_isR x0 = true) → am_W X (d + 2) 224 2 lv [] h (fun q => q = o) := by
  intro K
  induction K with
  | zero => intro x0 x1 h o hs; cases hs
  | succ K ih =>
    intro x0 x1 h o hs lv l0 l1 i0
    unfold fg_224_2 at hs
    refine aw_iload_n (pc1 := 3) at_224_2 l1 rfl ?_
    refine aw_vload_n (pc1 := 4) at_224_3 l0 i0 rfl ?_
    obtain ⟨v1, e2, hs1⟩ := am_bind hs
    clear hs
    refine aw_pG (pc1 := 7) at_224_4 (am_vI_s e2) rfl ?_
    by_cases c3 : v1 ≤ x1
    · rw [if_pos c3] at hs1
      refine aw_icge_t at_224_7 c3 ?_
      refine aw_vload_n (pc1 := 24) at_224_23 l0 i0 rfl ?_
      obtain ⟨v4, e5, hs2⟩ := am_bind hs1
      clear hs1
      refine aw_pG (pc1 := 27) at_224_24 (am_vI_s e5) rfl ?_
      refine aw_iconst (v := 1) (pc1 := 28) at_224_27 (by decide) rfl ?_
      refine aw_isub (v := (v4 - 1)) (pc1 := 29) at_224_28 rfl rfl ?_
      refine aw_istore_n (lv1 := am_put1 _ 1 _) (pc1 := 30) at_224_29 rfl rfl ?_
      exact rg_224_30 N x0 ((v4 - 1)) h o hs2 _ (am_lk1 l0 rfl (by rw [am_isRc i0]; rfl)) am_lk0 i0
    · rw [if_neg c3] at hs1
      refine aw_icge_f (pc1 := 10) at_224_7 c3 rfl ?_
      refine aw_vload_n (pc1 := 11) at_224_10 l0 i0 rfl ?_
      obtain ⟨v6, e7, hs3⟩ := am_bind hs1
      clear hs1
      refine aw_pG (pc1 := 14) at_224_11 (am_vR_s e7).1 rfl ?_
      refine aw_iload_n (pc1 := 15) at_224_14 l1 rfl ?_
      refine aw_iload_n (pc1 := 16) at_224_15 l1 rfl ?_
      obtain ⟨h8, e9, hs4⟩ := am_bind hs3
      clear hs3
      refine aw_pS (pc1 := 17) at_224_16 (Or.inl ⟨rfl, rfl⟩) e9 rfl ?_
      refine aw_iinc (v := (x1 + 1)) (c := 1) (lv1 := am_put1 _ 1 _) (pc1 := 20) at_224_17 l1 (by decide) rfl rfl rfl ?_
      refine aw_goto at_224_20 ?_
      exact ih x0 ((x1 + 1)) h8 o hs4 _ (am_lk1 l0 rfl (by rw [am_isRc i0]; rfl)) am_lk0 i0
def fg_224_0 (N : Nat) (x0 : Value) (h : am_H) : Option am_O := (fg_224_2 N N x0 0 h)
theorem rg_224_0 {X : am_X} {d : Nat} {N : Nat} {lv : am_LV} (x0 : Value) (h : am_H) (o : am_O) (l0 : lv.lookup 0 = some x0) (i0 : am_isR x0 = true) (hs : fg_224_0 N x0 h = some o) : am_W X (d + 2) 224 0 lv [] h (fun q => q = o) := by
  unfold fg_224_0 at hs
  refine aw_iconst (v := 0) (pc1 := 1) at_224_0 (by decide) rfl ?_
  refine aw_istore_n (lv1 := am_put1 _ 1 _) (pc1 := 2) at_224_1 rfl rfl ?_
  exact rg_224_2 N x0 0 h o hs _ (am_lk1 l0 rfl (by rw [am_isRc i0]; rfl)) am_lk0 i0
def fm_224 (N : Nat) (y0 : Value) (h : am_H) : Option am_O := fg_224_0 N y0 h
theorem rm_224 {X : am_X} {d : Nat} {N : Nat} (y0 : Value) (h : am_H) (o : am_O) (i0 : am_isR y0 = true) (hs : fm_224 N y0 h = some o) : am_W X (d + 2) 224 0 (am_args 0 [y0]) [] h (fun q => q = o) := by
  rw [am_args_R i0]
  exact rg_224_0 y0 h o rfl i0 hs
def fg_228_74 (N : Nat) (rec_2 : Value → Int32 → Int32 → am_H → Option am_O) (x0 : Value) (x1 : Int32) (x2 : Int32) (h : am_H) : Option am_O := (rec_2 x0 x1 ((x2 + 1)) h)
theorem rg_228_74 {X : am_X} {d : Nat} {N : Nat} {rec_2 : Value → Int32 → Int32 → am_H → Option am_O} (q_2 : ∀ (x0 : Value) (x1 : Int32) (x2 : Int32) (h : am_H) (o : am_O), rec_2 x0 x1 x2 h = some o → ∀ lv : am_LV, (lv.lookup 0 = some x0) → (lv.lookup 1 = some (.int x1)) → (lv.lookup 2 = some (.int x2)) → (am_isR x0 = true) → am_W X (d) 228 2 lv [] h (fun q => q = o)) {lv : am_LV} (x0 : Value) (x1 : Int32) (x2 : Int32) (h : am_H) (o : am_O) (l0 : lv.lookup 0 = some x0) (l1 : lv.lookup 1 = some (.int x1)) (l2 : lv.lookup 2 = some (.int x2)) (i0 : am_isR x0 = true) (hs : fg_228_74 N rec_2 x0 x1 x2 h = some o) : am_W X (d) 228 74 lv [] h (fun q => q = o) := by
  unfold fg_228_74 at hs
  refine aw_iinc (v := (x2 + 1)) (c := 1) (lv1 := am_put1 _ 2 _) (pc1 := 77) at_228_74 l2 (by decide) rfl rfl rfl ?_
  refine aw_goto at_228_77 ?_
  exact q_2 x0 x1 ((x2 + 1)) h o hs _ (am_lk1 l0 rfl rfl) (am_lk1 l1 rfl rfl) am_lk0 i0
def fg_228_72 (N : Nat) (h : am_H) : Option am_O := some (.inl (some (.int 0), h))
theorem rg_228_72 {X : am_X} {d : Nat} {N : Nat} {lv : am_LV} (h : am_H) (o : am_O) (hs : fg_228_72 N h = some o) : am_W X (d) 228 72 lv [] h (fun q => q = o) := by
  unfold fg_228_72 at hs
  refine aw_iconst (v := 0) (pc1 := 73) at_228_72 (by decide) rfl ?_
  cases hs
  exact aw_iret at_228_73 (by rw [rt_228]; decide) rfl
def fg_228_2 (N : Nat) : Nat → Value → Int32 → Int32 → am_H → Option am_O
  | 0 => fun _ _ _ _ => none
  | K + 1 => fun x0 x1 x2 h => ((am_vI (am_pG 256 x0 h)).bind fun v1 => (if v1 ≤ x2 then some (.inl (some (.int 1), h)) else ((am_vR (am_pG 261 x0 h)).bind fun v4 => ((am_pAL v4 x2 h).bind fun v6 => ((am_vR (am_pG 261 x0 h)).bind fun v8 => ((am_pAL v8 x1 h).bind fun v10 => (if 0 < (lg_cmp v6 v10) then (fg_228_74 N (fg_228_2 N K) x0 x1 x2 h) else ((am_vR (am_pG 262 x0 h)).bind fun v13 => ((am_pA 0 v13 x2 h).bind fun v15 => ((am_vR (am_pG 262 x0 h)).bind fun v17 => ((am_pA 0 v17 x1 h).bind fun v19 => (if v19 < v15 then (fg_228_74 N (fg_228_2 N K) x0 x1 x2 h) else ((am_vR (am_pG 261 x0 h)).bind fun v22 => ((am_pAL v22 x2 h).bind fun v24 => ((am_vR (am_pG 261 x0 h)).bind fun v26 => ((am_pAL v26 x1 h).bind fun v28 => (if (lg_cmp v24 v28) < 0 then (fg_228_72 N h) else ((am_vR (am_pG 262 x0 h)).bind fun v31 => ((am_pA 0 v31 x2 h).bind fun v33 => ((am_vR (am_pG 262 x0 h)).bind fun v35 => ((am_pA 0 v35 x1 h).bind fun v37 => (if v37 ≤ v33 then (fg_228_74 N (fg_228_2 N K) x0 x1 x2 h) else (fg_228_72 N h)))))))))))))))))))))))
theorem rg_228_2 {X : am_X} {d : Nat} {N : Nat} : ∀ (K : Nat) (x0 : Value) (x1 : Int32) (x2 : Int32) (h : am_H) (o : am_O), fg_228_2 N K x0 x1 x2 h = some o → ∀ lv : am_LV, (lv.lookup 0 = some x0) → (lv.lookup 1 = some (.int x1)) → (lv.lookup 2 = some (.int x2)) → (am_isR x0 = true) → am_W X (d) 228 2 lv [] h (fun q => q = o) := by
  intro K
  induction K with
  | zero => intro x0 x1 x2 h o hs; cases hs
  | succ K ih =>
    intro x0 x1 x2 h o hs lv l0 l1 l2 i0
    unfold fg_228_2 at hs
    refine aw_iload_n (pc1 := 3) at_228_2 l2 rfl ?_
    refine aw_vload_n (pc1 := 4) at_228_3 l0 i0 rfl ?_
    obtain ⟨v1, e2, hs1⟩ := am_bind hs
    clear hs
    refine aw_pG (pc1 := 7) at_228_4 (am_vI_s e2) rfl ?_
    by_cases c3 : v1 ≤ x2
    · rw [if_pos c3] at hs1
      refine aw_icge_t at_228_7 c3 ?_
      refine aw_iconst (v := 1) (pc1 := 81) at_228_80 (by decide) rfl ?_
      cases hs1
      exact aw_iret at_228_81 (by rw [rt_228]; decide) rfl
    · rw [if_neg c3] at hs1
      refine aw_icge_f (pc1 := 10) at_228_7 c3 rfl ?_
      refine aw_vload_n (pc1 := 11) at_228_10 l0 i0 rfl ?_
      obtain ⟨v4, e5, hs2⟩ := am_bind hs1
      clear hs1
      refine aw_pG (pc1 := 14) at_228_11 (am_vR_s e5).1 rfl ?_
      refine aw_iload_n (pc1 := 15) at_228_14 l2 rfl ?_
      obtain ⟨v6, e7, hs3⟩ := am_bind hs2
      clear hs2
      refine aw_pAL (pc1 := 16) at_228_15 e7 rfl ?_
      refine aw_vload_n (pc1 := 17) at_228_16 l0 i0 rfl ?_
      obtain ⟨v8, e9, hs4⟩ := am_bind hs3
      clear hs3
      refine aw_pG (pc1 := 20) at_228_17 (am_vR_s e9).1 rfl ?_
      refine aw_iload_n (pc1 := 21) at_228_20 l1 rfl ?_
      obtain ⟨v10, e11, hs5⟩ := am_bind hs4
      clear hs4
      refine aw_pAL (pc1 := 22) at_228_21 e11 rfl ?_
      refine aw_lcmp (v := (lg_cmp v6 v10)) (pc1 := 23) at_228_22 rfl rfl ?_
      by_cases c12 : 0 < (lg_cmp v6 v10)
      · rw [if_pos c12] at hs5
        refine aw_ifgt_t at_228_23 c12 ?_
        exact rg_228_74 (fun z0 z1 z2 h o hs5 => ih z0 z1 z2 h o hs5) x0 x1 x2 h o l0 l1 l2 i0 hs5
      · rw [if_neg c12] at hs5
        refine aw_ifgt_f (pc1 := 26) at_228_23 c12 rfl ?_
        refine aw_vload_n (pc1 := 27) at_228_26 l0 i0 rfl ?_
        obtain ⟨v13, e14, hs6⟩ := am_bind hs5
        clear hs5
        refine aw_pG (pc1 := 30) at_228_27 (am_vR_s e14).1 rfl ?_
        refine aw_iload_n (pc1 := 31) at_228_30 l2 rfl ?_
        obtain ⟨v15, e16, hs7⟩ := am_bind hs6
        clear hs6
        refine aw_pA (pc1 := 32) at_228_31 (Or.inl ⟨rfl, rfl⟩) e16 rfl ?_
        refine aw_vload_n (pc1 := 33) at_228_32 l0 i0 rfl ?_
        obtain ⟨v17, e18, hs8⟩ := am_bind hs7
        clear hs7
        refine aw_pG (pc1 := 36) at_228_33 (am_vR_s e18).1 rfl ?_
        refine aw_iload_n (pc1 := 37) at_228_36 l1 rfl ?_
        obtain ⟨v19, e20, hs9⟩ := am_bind hs8
        clear hs8
        refine aw_pA (pc1 := 38) at_228_37 (Or.inl ⟨rfl, rfl⟩) e20 rfl ?_
        by_cases c21 : v19 < v15
        · rw [if_pos c21] at hs9
          refine aw_icgt_t at_228_38 c21 ?_
          exact rg_228_74 (fun z0 z1 z2 h o hs9 => ih z0 z1 z2 h o hs9) x0 x1 x2 h o l0 l1 l2 i0 hs9
        · rw [if_neg c21] at hs9
          refine aw_icgt_f (pc1 := 41) at_228_38 c21 rfl ?_
          refine aw_vload_n (pc1 := 42) at_228_41 l0 i0 rfl ?_
          obtain ⟨v22, e23, hs10⟩ := am_bind hs9
          clear hs9
          refine aw_pG (pc1 := 45) at_228_42 (am_vR_s e23).1 rfl ?_
          refine aw_iload_n (pc1 := 46) at_228_45 l2 rfl ?_
          obtain ⟨v24, e25, hs11⟩ := am_bind hs10
          clear hs10
          refine aw_pAL (pc1 := 47) at_228_46 e25 rfl ?_
          refine aw_vload_n (pc1 := 48) at_228_47 l0 i0 rfl ?_
          obtain ⟨v26, e27, hs12⟩ := am_bind hs11
          clear hs11
          refine aw_pG (pc1 := 51) at_228_48 (am_vR_s e27).1 rfl ?_
          refine aw_iload_n (pc1 := 52) at_228_51 l1 rfl ?_
          obtain ⟨v28, e29, hs13⟩ := am_bind hs12
          clear hs12
          refine aw_pAL (pc1 := 53) at_228_52 e29 rfl ?_
          refine aw_lcmp (v := (lg_cmp v24 v28)) (pc1 := 54) at_228_53 rfl rfl ?_
          by_cases c30 : (lg_cmp v24 v28) < 0
          · rw [if_pos c30] at hs13
            refine aw_iflt_t at_228_54 c30 ?_
            exact rg_228_72 h o   hs13
          · rw [if_neg c30] at hs13
            refine aw_iflt_f (pc1 := 57) at_228_54 c30 rfl ?_
            refine aw_vload_n (pc1 := 58) at_228_57 l0 i0 rfl ?_
            obtain ⟨v31, e32, hs14⟩ := am_bind hs13
            clear hs13
            refine aw_pG (pc1 := 61) at_228_58 (am_vR_s e32).1 rfl ?_
            refine aw_iload_n (pc1 := 62) at_228_61 l2 rfl ?_
            obtain ⟨v33, e34, hs15⟩ := am_bind hs14
            clear hs14
            refine aw_pA (pc1 := 63) at_228_62 (Or.inl ⟨rfl, rfl⟩) e34 rfl ?_
            refine aw_vload_n (pc1 := 64) at_228_63 l0 i0 rfl ?_
            obtain ⟨v35, e36, hs16⟩ := am_bind hs15
            clear hs15
            refine aw_pG (pc1 := 67) at_228_64 (am_vR_s e36).1 rfl ?_
            refine aw_iload_n (pc1 := 68) at_228_67 l1 rfl ?_
            obtain ⟨v37, e38, hs17⟩ := am_bind hs16
            clear hs16
            refine aw_pA (pc1 := 69) at_228_68 (Or.inl ⟨rfl, rfl⟩) e38 rfl ?_
            by_cases c39 : v37 ≤ v33
            · rw [if_pos c39] at hs17
              refine aw_icge_t at_228_69 c39 ?_
              exact rg_228_74 (fun z0 z1 z2 h o hs17 => ih z0 z1 z2 h o hs17) x0 x1 x2 h o l0 l1 l2 i0 hs17
            · rw [if_neg c39] at hs17
              refine aw_icge_f (pc1 := 72) at_228_69 c39 rfl ?_
              exact rg_228_72 h o   hs17
def fg_228_0 (N : Nat) (x0 : Value) (x1 : Int32) (h : am_H) : Option am_O := (fg_228_2 N N x0 x1 0 h)
theorem rg_228_0 {X : am_X} {d : Nat} {N : Nat} {lv : am_LV} (x0 : Value) (x1 : Int32) (h : am_H) (o : am_O) (l0 : lv.lookup 0 = some x0) (l1 : lv.lookup 1 = some (.int x1)) (i0 : am_isR x0 = true) (hs : fg_228_0 N x0 x1 h = some o) : am_W X (d) 228 0 lv [] h (fun q => q = o) := by
  unfold fg_228_0 at hs
  refine aw_iconst (v := 0) (pc1 := 1) at_228_0 (by decide) rfl ?_
  refine aw_istore_n (lv1 := am_put1 _ 2 _) (pc1 := 2) at_228_1 rfl rfl ?_
  exact rg_228_2 N x0 x1 0 h o hs _ (am_lk1 l0 rfl rfl) (am_lk1 l1 rfl rfl) am_lk0 i0
def fm_228 (N : Nat) (y0 : Value) (y1 : Int32) (h : am_H) : Option am_O := fg_228_0 N y0 y1 h
theorem rm_228 {X : am_X} {d : Nat} {N : Nat} (y0 : Value) (y1 : Int32) (h : am_H) (o : am_O) (i0 : am_isR y0 = true) (hs : fm_228 N y0 y1 h = some o) : am_W X (d) 228 0 (am_args 0 [y0, .int y1]) [] h (fun q => q = o) := by
  rw [am_args_R i0, am_args_I]
  exact rg_228_0 y0 y1 h o rfl rfl i0 hs
def fg_227_26 (N : Nat) (rec_4 : Value → Int32 → Int32 → am_H → Option am_O) (x0 : Value) (x2 : Int32) (s0 : Int32) (s1 : Int32) (h : am_H) : Option am_O := (rec_4 x0 ((s0 + s1)) ((x2 + 1)) h)
theorem rg_227_26 {X : am_X} {d : Nat} {N : Nat} {rec_4 : Value → Int32 → Int32 → am_H → Option am_O} (q_4 : ∀ (x0 : Value) (x1 : Int32) (x2 : Int32) (h : am_H) (o : am_O), rec_4 x0 x1 x2 h = some o → ∀ lv : am_LV, (lv.lookup 0 = some x0) → (lv.lookup 1 = some (.int x1)) → (lv.lookup 2 = some (.int x2)) → (am_isR x0 = true) → am_W X (d + 1) 227 4 lv [] h (fun q => q = o)) {lv : am_LV} (x0 : Value) (x2 : Int32) (s0 : Int32) (s1 : Int32) (h : am_H) (o : am_O) (l0 : lv.lookup 0 = some x0) (l2 : lv.lookup 2 = some (.int x2)) (i0 : am_isR x0 = true) (hs : fg_227_26 N rec_4 x0 x2 s0 s1 h = some o) : am_W X (d + 1) 227 26 lv [(.int s1), (.int s0)] h (fun q => q = o) := by
  unfold fg_227_26 at hs
  refine aw_iadd (v := (s0 + s1)) (pc1 := 27) at_227_26 rfl rfl ?_
  refine aw_istore_n (lv1 := am_put1 _ 1 _) (pc1 := 28) at_227_27 rfl rfl ?_
  refine aw_iinc (v := (x2 + 1)) (c := 1) (lv1 := am_put1 _ 2 _) (pc1 := 31) at_227_28 (am_lk1 l2 rfl rfl) (by decide) rfl rfl rfl ?_
  refine aw_goto at_227_31 ?_
  exact q_4 x0 ((s0 + s1)) ((x2 + 1)) h o hs _ (am_lk1 (am_lk1 l0 rfl (by rw [am_isRc i0]; rfl)) rfl rfl) (am_lk1 am_lk0 rfl rfl) am_lk0 i0
def fg_227_4 (N : Nat) : Nat → Value → Int32 → Int32 → am_H → Option am_O
  | 0 => fun _ _ _ _ => none
  | K + 1 => fun x0 x1 x2 h => ((am_vI (am_pG 256 x0 h)).bind fun v1 => (if v1 ≤ x2 then some (.inl (some (.int x1), h)) else (if am_pOk 1 x0 h then am_cI true (fm_228 N x0 x2 h) (fun v5 h6 => (if v5 = 0 then (fg_227_26 N (fg_227_4 N K) x0 x2 x1 0 h6) else (fg_227_26 N (fg_227_4 N K) x0 x2 x1 1 h6))) else none)))
theorem rg_227_4 {X : am_X} {d : Nat} {N : Nat} : ∀ (K : Nat) (x0 : Value) (x1 : Int32) (x2 : Int32) (h : am_H) (o : am_O), fg_227_4 N K x0 x1 x2 h = some o → ∀ lv : am_LV, (lv.lookup 0 = some x0) → (lv.lookup 1 = some (.int x1)) → (lv.lookup 2 = some (.int x2)) → (am_isR x0 = true) → am_W X (d + 1) 227 4 lv [] h (fun q => q = o) := by
  intro K
  induction K with
  | zero => intro x0 x1 x2 h o hs; cases hs
  | succ K ih =>
    intro x0 x1 x2 h o hs lv l0 l1 l2 i0
    unfold fg_227_4 at hs
    refine aw_iload_n (pc1 := 5) at_227_4 l2 rfl ?_
    refine aw_vload_n (pc1 := 6) at_227_5 l0 i0 rfl ?_
    obtain ⟨v1, e2, hs1⟩ := am_bind hs
    clear hs
    refine aw_pG (pc1 := 9) at_227_6 (am_vI_s e2) rfl ?_
    by_cases c3 : v1 ≤ x2
    · rw [if_pos c3] at hs1
      refine aw_icge_t at_227_9 c3 ?_
      refine aw_iload_n (pc1 := 35) at_227_34 l1 rfl ?_
      cases hs1
      exact aw_iret at_227_35 (by rw [rt_227]; rfl) rfl
    · rw [if_neg c3] at hs1
      refine aw_icge_f (pc1 := 12) at_227_9 c3 rfl ?_
      refine aw_iload_n (pc1 := 13) at_227_12 l1 rfl ?_
      refine aw_vload_n (pc1 := 14) at_227_13 l0 i0 rfl ?_
      refine aw_iload_n (pc1 := 15) at_227_14 l2 rfl ?_
      obtain ⟨z4, hs2⟩ := am_ift hs1
      clear hs1
      refine aw_call (F := fm_228 N x0 x2 h) (t := true) (na := 2) (kd := 1) (as := [x0, (.int x2)]) at_227_15 (am_k3v kb_228) mn_228 mk_228 rfl rfl (am_ok_v mi_228 (am_hl rfl (am_ccR i0 (am_ccI am_cats_0)) rfl) z4) (am_hc (am_ccI am_cats_0) rfl) (fun _ => ⟨rfl, hh_227⟩) (fun o1 hz9 => rm_228 x0 x2 h o1 i0 hz9) ?_
      rcases am_cI_s hs2 with ⟨v5, h6, f7, hs3⟩ | hs3
      · clear hs2
        refine Or.inl ⟨_, _, f7, ?_⟩
        show am_W X _ 227 18 _ [(.int v5), (.int x1)] h6 _
        by_cases c8 : v5 = 0
        · rw [if_pos c8] at hs3
          refine aw_ifeq_t at_227_18 c8 ?_
          refine aw_iconst (v := 0) (pc1 := 26) at_227_25 (by decide) rfl ?_
          exact rg_227_26 (fun z0 z1 z2 h o hs3 => ih z0 z1 z2 h o hs3) x0 x2 x1 0 h6 o l0 l2 i0 hs3
        · rw [if_neg c8] at hs3
          refine aw_ifeq_f (pc1 := 21) at_227_18 c8 rfl ?_
          refine aw_iconst (v := 1) (pc1 := 22) at_227_21 (by decide) rfl ?_
          refine aw_goto at_227_22 ?_
          exact rg_227_26 (fun z0 z1 z2 h o hs3 => ih z0 z1 z2 h o hs3) x0 x2 x1 1 h6 o l0 l2 i0 hs3
      · clear hs2
        exact Or.inr hs3
def fg_227_0 (N : Nat) (x0 : Value) (h : am_H) : Option am_O := (fg_227_4 N N x0 0 0 h)
theorem rg_227_0 {X : am_X} {d : Nat} {N : Nat} {lv : am_LV} (x0 : Value) (h : am_H) (o : am_O) (l0 : lv.lookup 0 = some x0) (i0 : am_isR x0 = true) (hs : fg_227_0 N x0 h = some o) : am_W X (d + 1) 227 0 lv [] h (fun q => q = o) := by
  unfold fg_227_0 at hs
  refine aw_iconst (v := 0) (pc1 := 1) at_227_0 (by decide) rfl ?_
  refine aw_istore_n (lv1 := am_put1 _ 1 _) (pc1 := 2) at_227_1 rfl rfl ?_
  refine aw_iconst (v := 0) (pc1 := 3) at_227_2 (by decide) rfl ?_
  refine aw_istore_n (lv1 := am_put1 _ 2 _) (pc1 := 4) at_227_3 rfl rfl ?_
  exact rg_227_4 N x0 0 0 h o hs _ (am_lk1 (am_lk1 l0 rfl (by rw [am_isRc i0]; rfl)) rfl rfl) (am_lk1 am_lk0 rfl rfl) am_lk0 i0
def fm_227 (N : Nat) (y0 : Value) (h : am_H) : Option am_O := fg_227_0 N y0 h
theorem rm_227 {X : am_X} {d : Nat} {N : Nat} (y0 : Value) (h : am_H) (o : am_O) (i0 : am_isR y0 = true) (hs : fm_227 N y0 h = some o) : am_W X (d + 1) 227 0 (am_args 0 [y0]) [] h (fun q => q = o) := by
  rw [am_args_R i0]
  exact rg_227_0 y0 h o rfl i0 hs
def fg_229_29 (N : Nat) (rec_4 : Value → Int32 → Int32 → am_H → Option am_O) (x0 : Value) (x2 : Int32) (x3 : Int32) (h : am_H) : Option am_O := (rec_4 x0 x2 ((x3 + 1)) h)
theorem rg_229_29 {X : am_X} {d : Nat} {N : Nat} {rec_4 : Value → Int32 → Int32 → am_H → Option am_O} (q_4 : ∀ (x0 : Value) (x2 : Int32) (x3 : Int32) (h : am_H) (o : am_O), rec_4 x0 x2 x3 h = some o → ∀ lv : am_LV, (lv.lookup 0 = some x0) → (lv.lookup 2 = some (.int x2)) → (lv.lookup 3 = some (.int x3)) → (am_isR x0 = true) → am_W X (d + 1) 229 4 lv [] h (fun q => q = o)) {lv : am_LV} (x0 : Value) (x2 : Int32) (x3 : Int32) (h : am_H) (o : am_O) (l0 : lv.lookup 0 = some x0) (l2 : lv.lookup 2 = some (.int x2)) (l3 : lv.lookup 3 = some (.int x3)) (i0 : am_isR x0 = true) (hs : fg_229_29 N rec_4 x0 x2 x3 h = some o) : am_W X (d + 1) 229 29 lv [] h (fun q => q = o) := by
  unfold fg_229_29 at hs
  refine aw_iinc (v := (x3 + 1)) (c := 1) (lv1 := am_put1 _ 3 _) (pc1 := 32) at_229_29 l3 (by decide) rfl rfl rfl ?_
  refine aw_goto at_229_32 ?_
  exact q_4 x0 x2 ((x3 + 1)) h o hs _ (am_lk1 l0 rfl rfl) (am_lk1 l2 rfl rfl) am_lk0 i0
def fg_229_4 (N : Nat) : Nat → Value → Int32 → Int32 → am_H → Option am_O
  | 0 => fun _ _ _ _ => none
  | K + 1 => fun x0 x2 x3 h => ((am_vI (am_pG 256 x0 h)).bind fun v1 => (if v1 ≤ x3 then some (.inl (some (.int (-1)), h)) else (if am_pOk 1 x0 h then am_cI true (fm_228 N x0 x3 h) (fun v5 h6 => (if v5 = 0 then (fg_229_29 N (fg_229_4 N K) x0 x2 x3 h6) else (if ¬ x2 = 0 then (fg_229_29 N (fg_229_4 N K) x0 ((x2 + (-1))) x3 h6) else some (.inl (some (.int x3), h6))))) else none)))
theorem rg_229_4 {X : am_X} {d : Nat} {N : Nat} : ∀ (K : Nat) (x0 : Value) (x2 : Int32) (x3 : Int32) (h : am_H) (o : am_O), fg_229_4 N K x0 x2 x3 h = some o → ∀ lv : am_LV, (lv.lookup 0 = some x0) → (lv.lookup 2 = some (.int x2)) → (lv.lookup 3 = some (.int x3)) → (am_isR x0 = true) → am_W X (d + 1) 229 4 lv [] h (fun q => q = o) := by
  intro K
  induction K with
  | zero => intro x0 x2 x3 h o hs; cases hs
  | succ K ih =>
    intro x0 x2 x3 h o hs lv l0 l2 l3 i0
    unfold fg_229_4 at hs
    refine aw_iload_n (pc1 := 5) at_229_4 l3 rfl ?_
    refine aw_vload_n (pc1 := 6) at_229_5 l0 i0 rfl ?_
    obtain ⟨v1, e2, hs1⟩ := am_bind hs
    clear hs
    refine aw_pG (pc1 := 9) at_229_6 (am_vI_s e2) rfl ?_
    by_cases c3 : v1 ≤ x3
    · rw [if_pos c3] at hs1
      refine aw_icge_t at_229_9 c3 ?_
      refine aw_iconst (v := (-1)) (pc1 := 36) at_229_35 (by decide) rfl ?_
      cases hs1
      exact aw_iret at_229_36 (by rw [rt_229]; rfl) rfl
    · rw [if_neg c3] at hs1
      refine aw_icge_f (pc1 := 12) at_229_9 c3 rfl ?_
      refine aw_vload_n (pc1 := 13) at_229_12 l0 i0 rfl ?_
      refine aw_iload_n (pc1 := 14) at_229_13 l3 rfl ?_
      obtain ⟨z4, hs2⟩ := am_ift hs1
      clear hs1
      refine aw_call (F := fm_228 N x0 x3 h) (t := true) (na := 2) (kd := 1) (as := [x0, (.int x3)]) at_229_14 (am_k3v kb_228) mn_228 mk_228 rfl rfl (am_ok_v mi_228 (am_hl rfl (am_ccR i0 (am_ccI am_cats_0)) rfl) z4) (am_hc am_cats_0 rfl) (fun _ => ⟨rfl, hh_229⟩) (fun o1 hz9 => rm_228 x0 x3 h o1 i0 hz9) ?_
      rcases am_cI_s hs2 with ⟨v5, h6, f7, hs3⟩ | hs3
      · clear hs2
        refine Or.inl ⟨_, _, f7, ?_⟩
        show am_W X _ 229 17 _ [(.int v5)] h6 _
        by_cases c8 : v5 = 0
        · rw [if_pos c8] at hs3
          refine aw_ifeq_t at_229_17 c8 ?_
          exact rg_229_29 (fun z0 z1 z2 h o hs3 => ih z0 z1 z2 h o hs3) x0 x2 x3 h6 o l0 l2 l3 i0 hs3
        · rw [if_neg c8] at hs3
          refine aw_ifeq_f (pc1 := 20) at_229_17 c8 rfl ?_
          refine aw_iload_n (pc1 := 21) at_229_20 l2 rfl ?_
          by_cases c9 : ¬ x2 = 0
          · rw [if_pos c9] at hs3
            refine aw_ifne_t at_229_21 c9 ?_
            refine aw_iinc (v := (x2 + (-1))) (c := (-1)) (lv1 := am_put1 _ 2 _) (pc1 := 29) at_229_26 l2 (by decide) rfl rfl rfl ?_
            exact rg_229_29 (fun z0 z1 z2 h o hs3 => ih z0 z1 z2 h o hs3) x0 ((x2 + (-1))) x3 h6 o (am_lk1 l0 rfl rfl) am_lk0 (am_lk1 l3 rfl rfl) i0 hs3
          · rw [if_neg c9] at hs3
            refine aw_ifne_f (pc1 := 24) at_229_21 c9 rfl ?_
            refine aw_iload_n (pc1 := 25) at_229_24 l3 rfl ?_
            cases hs3
            exact aw_iret at_229_25 (by rw [rt_229]; rfl) rfl
      · clear hs2
        exact Or.inr hs3
def fg_229_0 (N : Nat) (x0 : Value) (x1 : Int32) (h : am_H) : Option am_O := (fg_229_4 N N x0 x1 0 h)
theorem rg_229_0 {X : am_X} {d : Nat} {N : Nat} {lv : am_LV} (x0 : Value) (x1 : Int32) (h : am_H) (o : am_O) (l0 : lv.lookup 0 = some x0) (l1 : lv.lookup 1 = some (.int x1)) (i0 : am_isR x0 = true) (hs : fg_229_0 N x0 x1 h = some o) : am_W X (d + 1) 229 0 lv [] h (fun q => q = o) := by
  unfold fg_229_0 at hs
  refine aw_iload_n (pc1 := 1) at_229_0 l1 rfl ?_
  refine aw_istore_n (lv1 := am_put1 _ 2 _) (pc1 := 2) at_229_1 rfl rfl ?_
  refine aw_iconst (v := 0) (pc1 := 3) at_229_2 (by decide) rfl ?_
  refine aw_istore_n (lv1 := am_put1 _ 3 _) (pc1 := 4) at_229_3 rfl rfl ?_
  exact rg_229_4 N x0 x1 0 h o hs _ (am_lk1 (am_lk1 l0 rfl rfl) rfl rfl) (am_lk1 am_lk0 rfl rfl) am_lk0 i0
def fm_229 (N : Nat) (y0 : Value) (y1 : Int32) (h : am_H) : Option am_O := fg_229_0 N y0 y1 h
theorem rm_229 {X : am_X} {d : Nat} {N : Nat} (y0 : Value) (y1 : Int32) (h : am_H) (o : am_O) (i0 : am_isR y0 = true) (hs : fm_229 N y0 y1 h = some o) : am_W X (d + 1) 229 0 (am_args 0 [y0, .int y1]) [] h (fun q => q = o) := by
  rw [am_args_R i0, am_args_I]
  exact rg_229_0 y0 y1 h o rfl rfl i0 hs
def fg_222_67 (N : Nat) (s0 : Int32) (h : am_H) : Option am_O := some (.inl (some (.int s0), h))
theorem rg_222_67 {X : am_X} {d : Nat} {N : Nat} {lv : am_LV} (s0 : Int32) (h : am_H) (o : am_O) (hs : fg_222_67 N s0 h = some o) : am_W X (d + 3) 222 67 lv [(.int s0)] h (fun q => q = o) := by
  unfold fg_222_67 at hs
  cases hs
  exact aw_iret at_222_67 (by rw [rt_222]; rfl) rfl
def fg_222_61 (N : Nat) (x0 : Value) (h : am_H) : Option am_O := ((am_vR (am_pG 257 x0 h)).bind fun v1 => ((am_pA 0 v1 0 h).bind fun v3 => (fg_222_67 N v3 h)))
theorem rg_222_61 {X : am_X} {d : Nat} {N : Nat} {lv : am_LV} (x0 : Value) (h : am_H) (o : am_O) (l0 : lv.lookup 0 = some x0) (i0 : am_isR x0 = true) (hs : fg_222_61 N x0 h = some o) : am_W X (d + 3) 222 61 lv [] h (fun q => q = o) := by
  unfold fg_222_61 at hs
  refine aw_vload_n (pc1 := 62) at_222_61 l0 i0 rfl ?_
  obtain ⟨v1, e2, hs1⟩ := am_bind hs
  clear hs
  refine aw_pG (pc1 := 65) at_222_62 (am_vR_s e2).1 rfl ?_
  refine aw_iconst (v := 0) (pc1 := 66) at_222_65 (by decide) rfl ?_
  obtain ⟨v3, e4, hs2⟩ := am_bind hs1
  clear hs1
  refine aw_pA (pc1 := 67) at_222_66 (Or.inl ⟨rfl, rfl⟩) e4 rfl ?_
  exact rg_222_67 v3 h o   hs2
def fg_222_39 (N : Nat) (x0 : Value) (s0 : Int32) (h : am_H) : Option am_O := (if s0 < 0 then (fg_222_61 N x0 h) else ((am_vI (am_pG 256 x0 h)).bind fun v2 => (if v2 ≤ s0 then (fg_222_61 N x0 h) else ((am_vR (am_pG 257 x0 h)).bind fun v5 => ((am_pA 0 v5 s0 h).bind fun v7 => (fg_222_67 N v7 h))))))
theorem rg_222_39 {X : am_X} {d : Nat} {N : Nat} {lv : am_LV} (x0 : Value) (s0 : Int32) (h : am_H) (o : am_O) (l0 : lv.lookup 0 = some x0) (i0 : am_isR x0 = true) (hs : fg_222_39 N x0 s0 h = some o) : am_W X (d + 3) 222 39 lv [(.int s0)] h (fun q => q = o) := by
  unfold fg_222_39 at hs
  refine aw_istore_n (lv1 := am_put1 _ 3 _) (pc1 := 40) at_222_39 rfl rfl ?_
  refine aw_iload_n (pc1 := 41) at_222_40 am_lk0 rfl ?_
  by_cases c1 : s0 < 0
  · rw [if_pos c1] at hs
    refine aw_iflt_t at_222_41 c1 ?_
    exact rg_222_61 x0 h o (am_lk1 l0 rfl rfl) i0 hs
  · rw [if_neg c1] at hs
    refine aw_iflt_f (pc1 := 44) at_222_41 c1 rfl ?_
    refine aw_iload_n (pc1 := 45) at_222_44 am_lk0 rfl ?_
    refine aw_vload_n (pc1 := 46) at_222_45 (am_lk1 l0 rfl rfl) i0 rfl ?_
    obtain ⟨v2, e3, hs1⟩ := am_bind hs
    clear hs
    refine aw_pG (pc1 := 49) at_222_46 (am_vI_s e3) rfl ?_
    by_cases c4 : v2 ≤ s0
    · rw [if_pos c4] at hs1
      refine aw_icge_t at_222_49 c4 ?_
      exact rg_222_61 x0 h o (am_lk1 l0 rfl rfl) i0 hs1
    · rw [if_neg c4] at hs1
      refine aw_icge_f (pc1 := 52) at_222_49 c4 rfl ?_
      refine aw_vload_n (pc1 := 53) at_222_52 (am_lk1 l0 rfl rfl) i0 rfl ?_
      obtain ⟨v5, e6, hs2⟩ := am_bind hs1
      clear hs1
      refine aw_pG (pc1 := 56) at_222_53 (am_vR_s e6).1 rfl ?_
      refine aw_iload_n (pc1 := 57) at_222_56 am_lk0 rfl ?_
      obtain ⟨v7, e8, hs3⟩ := am_bind hs2
      clear hs2
      refine aw_pA (pc1 := 58) at_222_57 (Or.inl ⟨rfl, rfl⟩) e8 rfl ?_
      refine aw_goto at_222_58 ?_
      exact rg_222_67 v7 h o   hs3
def fg_222_0 (N : Nat) (x0 : Value) (x1 : Int32) (x2 : Int32) (h : am_H) : Option am_O := (if ¬ x1 = 0 then (if ¬ x1 = 1 then ((am_vR (am_pG 258 x0 h)).bind fun v3 => (if am_pOk 1 x0 h then am_cI true (fm_227 N x0 h) (fun v6 h7 => (if am_pOk 8 v3 h7 then am_cI true (fm_192 v3 v6 h7) (fun v10 h11 => (if am_pOk 1 x0 h11 then am_cI true (fm_229 N x0 v10 h11) (fun v14 h15 => (fg_222_39 N x0 v14 h15)) else none)) else none)) else none)) else (if am_pOk 1 x0 h then am_cI true (fm_224 N x0 h) (fun v18 h19 => (fg_222_39 N x0 v18 h19)) else none)) else (if am_pOk 1 x0 h then am_cI true (fm_223 N x0 x2 h) (fun v22 h23 => (fg_222_39 N x0 v22 h23)) else none))
theorem rg_222_0 {X : am_X} {d : Nat} {N : Nat} {lv : am_LV} (x0 : Value) (x1 : Int32) (x2 : Int32) (h : am_H) (o : am_O) (l0 : lv.lookup 0 = some x0) (l1 : lv.lookup 1 = some (.int x1)) (l2 : lv.lookup 2 = some (.int x2)) (i0 : am_isR x0 = true) (hs : fg_222_0 N x0 x1 x2 h = some o) : am_W X (d + 3) 222 0 lv [] h (fun q => q = o) := by
  unfold fg_222_0 at hs
  refine aw_iload_n (pc1 := 1) at_222_0 l1 rfl ?_
  by_cases c1 : ¬ x1 = 0
  · rw [if_pos c1] at hs
    refine aw_ifne_t at_222_1 c1 ?_
    refine aw_iload_n (pc1 := 13) at_222_12 l1 rfl ?_
    refine aw_iconst (v := 1) (pc1 := 14) at_222_13 (by decide) rfl ?_
    by_cases c2 : ¬ x1 = 1
    · rw [if_pos c2] at hs
      refine aw_icne_t at_222_14 c2 ?_
      refine aw_vload_n (pc1 := 25) at_222_24 l0 i0 rfl ?_
      refine aw_vload_n (pc1 := 26) at_222_25 l0 i0 rfl ?_
      obtain ⟨v3, e4, hs1⟩ := am_bind hs
      clear hs
      refine aw_pG (pc1 := 29) at_222_26 (am_vR_s e4).1 rfl ?_
      refine aw_vload_n (pc1 := 30) at_222_29 l0 i0 rfl ?_
      obtain ⟨z5, hs2⟩ := am_ift hs1
      clear hs1
      refine aw_call (F := fm_227 N x0 h) (t := true) (na := 1) (kd := 1) (as := [x0]) at_222_30 (am_k3v kb_227) mn_227 mk_227 rfl rfl (am_ok_v mi_227 (am_hl rfl (am_ccR i0 am_cats_0) rfl) z5) (am_hc (am_ccR (am_vR_s e4).2 (am_ccR i0 am_cats_0)) rfl) (fun _ => ⟨rfl, hh_222⟩) (fun o1 hz9 => rm_227 x0 h o1 i0 hz9) ?_
      rcases am_cI_s hs2 with ⟨v6, h7, f8, hs3⟩ | hs3
      · clear hs2
        refine Or.inl ⟨_, _, f8, ?_⟩
        show am_W X _ 222 33 _ [(.int v6), v3, x0] h7 _
        obtain ⟨z9, hs4⟩ := am_ift hs3
        clear hs3
        refine aw_call (F := fm_192 v3 v6 h7) (t := true) (na := 2) (kd := 1) (as := [v3, (.int v6)]) at_222_33 (am_k3v kb_192) mn_192 mk_192 rfl rfl (am_ok_v mi_192 (am_hl rfl (am_ccR (am_vR_s e4).2 (am_ccI am_cats_0)) rfl) z9) (am_hc (am_ccR i0 am_cats_0) rfl) (fun _ => ⟨rfl, hh_222⟩) (fun o1 hz9 => rm_192 v3 v6 h7 o1 (am_vR_s e4).2 hz9) ?_
        rcases am_cI_s hs4 with ⟨v10, h11, f12, hs5⟩ | hs5
        · clear hs4
          refine Or.inl ⟨_, _, f12, ?_⟩
          show am_W X _ 222 36 _ [(.int v10), x0] h11 _
          obtain ⟨z13, hs6⟩ := am_ift hs5
          clear hs5
          refine aw_call (F := fm_229 N x0 v10 h11) (t := true) (na := 2) (kd := 1) (as := [x0, (.int v10)]) at_222_36 (am_k3v kb_229) mn_229 mk_229 rfl rfl (am_ok_v mi_229 (am_hl rfl (am_ccR i0 (am_ccI am_cats_0)) rfl) z13) (am_hc am_cats_0 rfl) (fun _ => ⟨rfl, hh_222⟩) (fun o1 hz9 => rm_229 x0 v10 h11 o1 i0 hz9) ?_
          rcases am_cI_s hs6 with ⟨v14, h15, f16, hs7⟩ | hs7
          · clear hs6
            refine Or.inl ⟨_, _, f16, ?_⟩
            show am_W X _ 222 39 _ [(.int v14)] h15 _
            exact rg_222_39 x0 v14 h15 o l0 i0 hs7
          · clear hs6
            exact Or.inr hs7
        · clear hs4
          exact Or.inr hs5
      · clear hs2
        exact Or.inr hs3
    · rw [if_neg c2] at hs
      refine aw_icne_f (pc1 := 17) at_222_14 c2 rfl ?_
      refine aw_vload_n (pc1 := 18) at_222_17 l0 i0 rfl ?_
      obtain ⟨z17, hs8⟩ := am_ift hs
      clear hs
      refine aw_call (F := fm_224 N x0 h) (t := true) (na := 1) (kd := 1) (as := [x0]) at_222_18 (am_k3v kb_224) mn_224 mk_224 rfl rfl (am_ok_v mi_224 (am_hl rfl (am_ccR i0 am_cats_0) rfl) z17) (am_hc am_cats_0 rfl) (fun _ => ⟨rfl, hh_222⟩) (fun o1 hz9 => rm_224 x0 h o1 i0 hz9) ?_
      rcases am_cI_s hs8 with ⟨v18, h19, f20, hs9⟩ | hs9
      · clear hs8
        refine Or.inl ⟨_, _, f20, ?_⟩
        show am_W X _ 222 21 _ [(.int v18)] h19 _
        refine aw_goto at_222_21 ?_
        exact rg_222_39 x0 v18 h19 o l0 i0 hs9
      · clear hs8
        exact Or.inr hs9
  · rw [if_neg c1] at hs
    refine aw_ifne_f (pc1 := 4) at_222_1 c1 rfl ?_
    refine aw_vload_n (pc1 := 5) at_222_4 l0 i0 rfl ?_
    refine aw_iload_n (pc1 := 6) at_222_5 l2 rfl ?_
    obtain ⟨z21, hs10⟩ := am_ift hs
    clear hs
    refine aw_call (F := fm_223 N x0 x2 h) (t := true) (na := 2) (kd := 1) (as := [x0, (.int x2)]) at_222_6 (am_k3v kb_223) mn_223 mk_223 rfl rfl (am_ok_v mi_223 (am_hl rfl (am_ccR i0 (am_ccI am_cats_0)) rfl) z21) (am_hc am_cats_0 rfl) (fun _ => ⟨rfl, hh_222⟩) (fun o1 hz9 => rm_223 x0 x2 h o1 i0 hz9) ?_
    rcases am_cI_s hs10 with ⟨v22, h23, f24, hs11⟩ | hs11
    · clear hs10
      refine Or.inl ⟨_, _, f24, ?_⟩
      show am_W X _ 222 9 _ [(.int v22)] h23 _
      refine aw_goto at_222_9 ?_
      exact rg_222_39 x0 v22 h23 o l0 i0 hs11
    · clear hs10
      exact Or.inr hs11
def fm_222 (N : Nat) (y0 : Value) (y1 : Int32) (y2 : Int32) (h : am_H) : Option am_O := fg_222_0 N y0 y1 y2 h
theorem rm_222 {X : am_X} {d : Nat} {N : Nat} (y0 : Value) (y1 : Int32) (y2 : Int32) (h : am_H) (o : am_O) (i0 : am_isR y0 = true) (hs : fm_222 N y0 y1 y2 h = some o) : am_W X (d + 3) 222 0 (am_args 0 [y0, .int y1, .int y2]) [] h (fun q => q = o) := by
  rw [am_args_R i0, am_args_I, am_args_I]
  exact rg_222_0 y0 y1 y2 h o rfl rfl rfl i0 hs
def fg_217_215 (N : Nat) (rec_33 : Value → Value → Int32 → Int32 → Int32 → am_H → Option am_O) (x0 : Value) (x1 : Value) (x2 : Int32) (x3 : Int32) (x4 : Int32) (h : am_H) : Option am_O := (rec_33 x0 x1 x2 x3 ((x4 + 1)) h)
theorem rg_217_215 {X : am_X} {d : Nat} {N : Nat} {rec_33 : Value → Value → Int32 → Int32 → Int32 → am_H → Option am_O} (q_33 : ∀ (x0 : Value) (x1 : Value) (x2 : Int32) (x3 : Int32) (x4 : Int32) (h : am_H) (o : am_O), rec_33 x0 x1 x2 x3 x4 h = some o → ∀ lv : am_LV, (lv.lookup 0 = some x0) → (lv.lookup 1 = some x1) → (lv.lookup 2 = some (.int x2)) → (lv.lookup 3 = some (.int x3)) → (lv.lookup 4 = some (.int x4)) → (am_isR x0 = true) → (am_isR x1 = true) → am_W X (d + 124) 217 33 lv [] h (fun q => q = o)) {lv : am_LV} (x0 : Value) (x1 : Value) (x2 : Int32) (x3 : Int32) (x4 : Int32) (h : am_H) (o : am_O) (l0 : lv.lookup 0 = some x0) (l1 : lv.lookup 1 = some x1) (l2 : lv.lookup 2 = some (.int x2)) (l3 : lv.lookup 3 = some (.int x3)) (l4 : lv.lookup 4 = some (.int x4)) (i0 : am_isR x0 = true) (i1 : am_isR x1 = true) (hs : fg_217_215 N rec_33 x0 x1 x2 x3 x4 h = some o) : am_W X (d + 124) 217 215 lv [] h (fun q => q = o) := by
  unfold fg_217_215 at hs
  refine aw_iinc (v := (x4 + 1)) (c := 1) (lv1 := am_put1 _ 4 _) (pc1 := 218) at_217_215 l4 (by decide) rfl rfl rfl ?_
  refine aw_goto at_217_218 ?_
  exact q_33 x0 x1 x2 x3 ((x4 + 1)) h o hs _ (am_lk1 l0 rfl rfl) (am_lk1 l1 rfl rfl) (am_lk1 l2 rfl rfl) (am_lk1 l3 rfl rfl) am_lk0 i0 i1
def fg_217_184 (N : Nat) (rec_33 : Value → Value → Int32 → Int32 → Int32 → am_H → Option am_O) (x0 : Value) (x1 : Value) (x2 : Int32) (x3 : Int32) (x4 : Int32) (x5 : Int32) (s0 : Value) (s1 : Int32) (h : am_H) : Option am_O := (if am_pOk 8 s0 h then am_cI true (fm_192 s0 s1 h) (fun v2 h3 => ((am_vR (am_pG 2834 x0 h3)).bind fun v5 => ((am_vR (am_pG 258 x1 h3)).bind fun v7 => (if am_pOk 8 v7 h3 then am_cL true (fm_194 v7 4611686018427387904 h3) (fun v10 h11 => (if am_pOk 11 x0 h11 then am_cI true (fm_190 N x0 x5 ((-1)) v2 v10 h11) (fun v14 h15 => ((am_pS 0 v5 x4 v14 h15).bind fun h17 => (fg_217_215 N rec_33 x0 x1 x2 x3 x4 h17))) else none)) else none)))) else none)
theorem rg_217_184 {X : am_X} {d : Nat} {N : Nat} {rec_33 : Value → Value → Int32 → Int32 → Int32 → am_H → Option am_O} (q_33 : ∀ (x0 : Value) (x1 : Value) (x2 : Int32) (x3 : Int32) (x4 : Int32) (h : am_H) (o : am_O), rec_33 x0 x1 x2 x3 x4 h = some o → ∀ lv : am_LV, (lv.lookup 0 = some x0) → (lv.lookup 1 = some x1) → (lv.lookup 2 = some (.int x2)) → (lv.lookup 3 = some (.int x3)) → (lv.lookup 4 = some (.int x4)) → (am_isR x0 = true) → (am_isR x1 = true) → am_W X (d + 124) 217 33 lv [] h (fun q => q = o)) {lv : am_LV} (x0 : Value) (x1 : Value) (x2 : Int32) (x3 : Int32) (x4 : Int32) (x5 : Int32) (s0 : Value) (s1 : Int32) (h : am_H) (o : am_O) (l0 : lv.lookup 0 = some x0) (l1 : lv.lookup 1 = some x1) (l2 : lv.lookup 2 = some (.int x2)) (l3 : lv.lookup 3 = some (.int x3)) (l4 : lv.lookup 4 = some (.int x4)) (l5 : lv.lookup 5 = some (.int x5)) (i0 : am_isR x0 = true) (i1 : am_isR x1 = true) (j0 : am_isR s0 = true) (hs : fg_217_184 N rec_33 x0 x1 x2 x3 x4 x5 s0 s1 h = some o) : am_W X (d + 124) 217 184 lv [(.int s1), s0] h (fun q => q = o) := by
  unfold fg_217_184 at hs
  obtain ⟨z1, hs1⟩ := am_ift hs
  clear hs
  refine aw_call (F := fm_192 s0 s1 h) (t := true) (na := 2) (kd := 1) (as := [s0, (.int s1)]) at_217_184 (am_k3v kb_192) mn_192 mk_192 rfl rfl (am_ok_v mi_192 (am_hl rfl (am_ccR j0 (am_ccI am_cats_0)) rfl) z1) (am_hc am_cats_0 rfl) (fun _ => ⟨rfl, hh_217⟩) (fun o1 hz9 => rm_192 s0 s1 h o1 j0 hz9) ?_
  rcases am_cI_s hs1 with ⟨v2, h3, f4, hs2⟩ | hs2
  · clear hs1
    refine Or.inl ⟨_, _, f4, ?_⟩
    show am_W X _ 217 187 _ [(.int v2)] h3 _
    refine aw_istore (lv1 := am_put1 _ 6 _) (pc1 := 189) at_217_187 rfl rfl ?_
    refine aw_vload_n (pc1 := 190) at_217_189 (am_lk1 l0 rfl rfl) i0 rfl ?_
    obtain ⟨v5, e6, hs3⟩ := am_bind hs2
    clear hs2
    refine aw_pG (pc1 := 193) at_217_190 (am_vR_s e6).1 rfl ?_
    refine aw_iload (pc1 := 195) at_217_193 (am_lk1 l4 rfl rfl) rfl ?_
    refine aw_vload_n (pc1 := 196) at_217_195 (am_lk1 l0 rfl rfl) i0 rfl ?_
    refine aw_iload (pc1 := 198) at_217_196 (am_lk1 l5 rfl rfl) rfl ?_
    refine aw_iconst (v := (-1)) (pc1 := 199) at_217_198 (by decide) rfl ?_
    refine aw_iload (pc1 := 201) at_217_199 am_lk0 rfl ?_
    refine aw_vload_n (pc1 := 202) at_217_201 (am_lk1 l1 rfl rfl) i1 rfl ?_
    obtain ⟨v7, e8, hs4⟩ := am_bind hs3
    clear hs3
    refine aw_pG (pc1 := 205) at_217_202 (am_vR_s e8).1 rfl ?_
    refine aw_ldc2 (v := 4611686018427387904) (pc1 := 208) at_217_205 rfl rfl ?_
    obtain ⟨z9, hs5⟩ := am_ift hs4
    clear hs4
    refine aw_call (F := fm_194 v7 4611686018427387904 h3) (t := true) (na := 2) (kd := 1) (as := [v7, (.long 4611686018427387904)]) at_217_208 (am_k3v kb_194) mn_194 mk_194 rfl rfl (am_ok_v mi_194 (am_hl rfl (am_ccR (am_vR_s e8).2 (am_ccL am_cats_0)) rfl) z9) (am_hc (am_ccI (am_ccI (am_ccI (am_ccR i0 (am_ccI (am_ccR (am_vR_s e6).2 am_cats_0)))))) rfl) (fun _ => ⟨rfl, hh_217⟩) (fun o1 hz9 => rm_194 v7 4611686018427387904 h3 o1 (am_vR_s e8).2 hz9) ?_
    rcases am_cL_s hs5 with ⟨v10, h11, f12, hs6⟩ | hs6
    · clear hs5
      refine Or.inl ⟨_, _, f12, ?_⟩
      show am_W X _ 217 211 _ [(.long v10), (.int v2), (.int (-1)), (.int x5), x0, (.int x4), v5] h11 _
      obtain ⟨z13, hs7⟩ := am_ift hs6
      clear hs6
      refine aw_call (F := fm_190 N x0 x5 ((-1)) v2 v10 h11) (t := true) (na := 5) (kd := 1) (as := [x0, (.int x5), (.int (-1)), (.int v2), (.long v10)]) at_217_211 (am_k3v kb_190) mn_190 mk_190 rfl rfl (am_ok_v mi_190 (am_hl rfl (am_ccR i0 (am_ccI (am_ccI (am_ccI (am_ccL am_cats_0))))) rfl) z13) (am_hc (am_ccI (am_ccR (am_vR_s e6).2 am_cats_0)) rfl) (fun _ => ⟨rfl, hh_217⟩) (fun o1 hz9 => rm_190 x0 x5 ((-1)) v2 v10 h11 o1 i0 hz9) ?_
      rcases am_cI_s hs7 with ⟨v14, h15, f16, hs8⟩ | hs8
      · clear hs7
        refine Or.inl ⟨_, _, f16, ?_⟩
        show am_W X _ 217 214 _ [(.int v14), (.int x4), v5] h15 _
        obtain ⟨h17, e18, hs9⟩ := am_bind hs8
        clear hs8
        refine aw_pS (pc1 := 215) at_217_214 (Or.inl ⟨rfl, rfl⟩) e18 rfl ?_
        exact rg_217_215 q_33 x0 x1 x2 x3 x4 h17 o (am_lk1 l0 rfl rfl) (am_lk1 l1 rfl rfl) (am_lk1 l2 rfl rfl) (am_lk1 l3 rfl rfl) (am_lk1 l4 rfl rfl) i0 i1 hs9
      · clear hs7
        exact Or.inr hs8
    · clear hs5
      exact Or.inr hs6
  · clear hs1
    exact Or.inr hs2
def fg_217_33 (N : Nat) : Nat → Value → Value → Int32 → Int32 → Int32 → am_H → Option am_O
  | 0 => fun _ _ _ _ _ _ => none
  | K + 1 => fun x0 x1 x2 x3 x4 h => ((am_vI (am_pG 256 x1 h)).bind fun v1 => (if v1 ≤ x4 then ((am_vR (am_pG 2834 x0 h)).bind fun v4 => ((am_vR (am_pG 257 x1 h)).bind fun v6 => ((am_vI (am_pG 256 x1 h)).bind fun v8 => ((am_pCpy v4 0 v6 0 v8 h).bind fun h10 => some (.inl (none, h10)))))) else (if x2 ≤ x4 then ((am_vR (am_pG 258 x1 h)).bind fun v13 => (if am_pOk 8 v13 h then am_cI true (fm_192 v13 100 h) (fun v16 h17 => ((am_vR (am_pG 2820 x0 h17)).bind fun v19 => ((am_pA 0 v19 3 h17).bind fun v21 => (if v21 ≤ v16 then ((am_vR (am_pG 2820 x0 h17)).bind fun v24 => ((am_pA 0 v24 4 h17).bind fun v26 => ((am_vR (am_pG 2820 x0 h17)).bind fun v28 => ((am_pA 0 v28 2 h17).bind fun v30 => (if am_pOk 1 x1 h17 then am_cI true (fm_222 N x1 v26 v30 h17) (fun v33 h34 => ((am_vR (am_pG 258 x1 h34)).bind fun v36 => (if ¬ x3 = 0 then (fg_217_184 N (fg_217_33 N K) x0 x1 x2 x3 x4 v33 v36 4 h34) else (fg_217_184 N (fg_217_33 N K) x0 x1 x2 x3 x4 v33 v36 5 h34)))) else none))))) else ((am_vR (am_pG 2820 x0 h17)).bind fun v39 => ((am_pA 0 v39 4 h17).bind fun v41 => ((am_vR (am_pG 2820 x0 h17)).bind fun v43 => ((am_pA 0 v43 2 h17).bind fun v45 => (if am_pOk 1 x1 h17 then am_cI true (fm_222 N x1 v41 v45 h17) (fun v48 h49 => ((am_vR (am_pG 2820 x0 h49)).bind fun v51 => ((am_pA 0 v51 4 h49).bind fun v53 => ((am_vR (am_pG 2820 x0 h49)).bind fun v55 => ((am_pA 0 v55 2 h49).bind fun v57 => (if am_pOk 1 x1 h49 then am_cI true (fm_222 N x1 v53 v57 h49) (fun v60 h61 => ((am_vR (am_pG 2834 x0 h61)).bind fun v63 => ((am_vR (am_pG 258 x1 h61)).bind fun v65 => (if am_pOk 8 v65 h61 then am_cL true (fm_194 v65 4611686018427387904 h61) (fun v68 h69 => (if am_pOk 11 x0 h69 then am_cI true (fm_190 N x0 v48 v60 ((-1)) v68 h69) (fun v72 h73 => ((am_pS 0 v63 x4 v72 h73).bind fun h75 => (fg_217_215 N (fg_217_33 N K) x0 x1 x2 x3 x4 h75))) else none)) else none)))) else none)))))) else none))))))))) else none)) else ((am_vR (am_pG 2834 x0 h)).bind fun v77 => ((am_vR (am_pG 257 x1 h)).bind fun v79 => ((am_vR (am_pG 260 x1 h)).bind fun v81 => ((am_pA 0 v81 x4 h).bind fun v83 => ((am_pA 0 v79 v83 h).bind fun v85 => ((am_pS 0 v77 x4 v85 h).bind fun h87 => (fg_217_215 N (fg_217_33 N K) x0 x1 x2 x3 x4 h87))))))))))
theorem rg_217_33 {X : am_X} {d : Nat} {N : Nat} : ∀ (K : Nat) (x0 : Value) (x1 : Value) (x2 : Int32) (x3 : Int32) (x4 : Int32) (h : am_H) (o : am_O), fg_217_33 N K x0 x1 x2 x3 x4 h = some o → ∀ lv : am_LV, (lv.lookup 0 = some x0) → (lv.lookup 1 = some x1) → (lv.lookup 2 = some (.int x2)) → (lv.lookup 3 = some (.int x3)) → (lv.lookup 4 = some (.int x4)) → (am_isR x0 = true) → (am_isR x1 = true) → am_W X (d + 124) 217 33 lv [] h (fun q => q = o) := by
  intro K
  induction K with
  | zero => intro x0 x1 x2 x3 x4 h o hs; cases hs
  | succ K ih =>
    intro x0 x1 x2 x3 x4 h o hs lv l0 l1 l2 l3 l4 i0 i1
    unfold fg_217_33 at hs
    refine aw_iload (pc1 := 35) at_217_33 l4 rfl ?_
    refine aw_vload_n (pc1 := 36) at_217_35 l1 i1 rfl ?_
    obtain ⟨v1, e2, hs1⟩ := am_bind hs
    clear hs
    refine aw_pG (pc1 := 39) at_217_36 (am_vI_s e2) rfl ?_
    by_cases c3 : v1 ≤ x4
    · rw [if_pos c3] at hs1
      refine aw_icge_t at_217_39 c3 ?_
      refine aw_vload_n (pc1 := 222) at_217_221 l0 i0 rfl ?_
      obtain ⟨v4, e5, hs2⟩ := am_bind hs1
      clear hs1
      refine aw_pG (pc1 := 225) at_217_222 (am_vR_s e5).1 rfl ?_
      refine aw_iconst (v := 0) (pc1 := 226) at_217_225 (by decide) rfl ?_
      refine aw_vload_n (pc1 := 227) at_217_226 l1 i1 rfl ?_
      obtain ⟨v6, e7, hs3⟩ := am_bind hs2
      clear hs2
      refine aw_pG (pc1 := 230) at_217_227 (am_vR_s e7).1 rfl ?_
      refine aw_iconst (v := 0) (pc1 := 231) at_217_230 (by decide) rfl ?_
      refine aw_vload_n (pc1 := 232) at_217_231 l1 i1 rfl ?_
      obtain ⟨v8, e9, hs4⟩ := am_bind hs3
      clear hs3
      refine aw_pG (pc1 := 235) at_217_232 (am_vI_s e9) rfl ?_
      obtain ⟨h10, e11, hs5⟩ := am_bind hs4
      clear hs4
      refine aw_pCpy at_217_235 rfl e11 (am_hc am_cats_0 rfl) ?_
      cases hs5
      exact aw_vret at_217_238 rt_217 rfl
    · rw [if_neg c3] at hs1
      refine aw_icge_f (pc1 := 42) at_217_39 c3 rfl ?_
      refine aw_iload (pc1 := 44) at_217_42 l4 rfl ?_
      refine aw_iload_n (pc1 := 45) at_217_44 l2 rfl ?_
      by_cases c12 : x2 ≤ x4
      · rw [if_pos c12] at hs1
        refine aw_icge_t at_217_45 c12 ?_
        refine aw_vload_n (pc1 := 71) at_217_70 l1 i1 rfl ?_
        obtain ⟨v13, e14, hs6⟩ := am_bind hs1
        clear hs1
        refine aw_pG (pc1 := 74) at_217_71 (am_vR_s e14).1 rfl ?_
        refine aw_bipush (v := 100) (pc1 := 76) at_217_74 (by decide) rfl ?_
        obtain ⟨z15, hs7⟩ := am_ift hs6
        clear hs6
        refine aw_call (F := fm_192 v13 100 h) (t := true) (na := 2) (kd := 1) (as := [v13, (.int 100)]) at_217_76 (am_k3v kb_192) mn_192 mk_192 rfl rfl (am_ok_v mi_192 (am_hl rfl (am_ccR (am_vR_s e14).2 (am_ccI am_cats_0)) rfl) z15) (am_hc am_cats_0 rfl) (fun _ => ⟨rfl, hh_217⟩) (fun o1 hz9 => rm_192 v13 100 h o1 (am_vR_s e14).2 hz9) ?_
        rcases am_cI_s hs7 with ⟨v16, h17, f18, hs8⟩ | hs8
        · clear hs7
          refine Or.inl ⟨_, _, f18, ?_⟩
          show am_W X _ 217 79 _ [(.int v16)] h17 _
          refine aw_vload_n (pc1 := 80) at_217_79 l0 i0 rfl ?_
          obtain ⟨v19, e20, hs9⟩ := am_bind hs8
          clear hs8
          refine aw_pG (pc1 := 83) at_217_80 (am_vR_s e20).1 rfl ?_
          refine aw_iconst (v := 3) (pc1 := 84) at_217_83 (by decide) rfl ?_
          obtain ⟨v21, e22, hs10⟩ := am_bind hs9
          clear hs9
          refine aw_pA (pc1 := 85) at_217_84 (Or.inl ⟨rfl, rfl⟩) e22 rfl ?_
          by_cases c23 : v21 ≤ v16
          · rw [if_pos c23] at hs10
            refine aw_icge_t at_217_85 c23 ?_
            refine aw_vload_n (pc1 := 154) at_217_153 l1 i1 rfl ?_
            refine aw_vload_n (pc1 := 155) at_217_154 l0 i0 rfl ?_
            obtain ⟨v24, e25, hs11⟩ := am_bind hs10
            clear hs10
            refine aw_pG (pc1 := 158) at_217_155 (am_vR_s e25).1 rfl ?_
            refine aw_iconst (v := 4) (pc1 := 159) at_217_158 (by decide) rfl ?_
            obtain ⟨v26, e27, hs12⟩ := am_bind hs11
            clear hs11
            refine aw_pA (pc1 := 160) at_217_159 (Or.inl ⟨rfl, rfl⟩) e27 rfl ?_
            refine aw_vload_n (pc1 := 161) at_217_160 l0 i0 rfl ?_
            obtain ⟨v28, e29, hs13⟩ := am_bind hs12
            clear hs12
            refine aw_pG (pc1 := 164) at_217_161 (am_vR_s e29).1 rfl ?_
            refine aw_iconst (v := 2) (pc1 := 165) at_217_164 (by decide) rfl ?_
            obtain ⟨v30, e31, hs14⟩ := am_bind hs13
            clear hs13
            refine aw_pA (pc1 := 166) at_217_165 (Or.inl ⟨rfl, rfl⟩) e31 rfl ?_
            obtain ⟨z32, hs15⟩ := am_ift hs14
            clear hs14
            refine aw_call (F := fm_222 N x1 v26 v30 h17) (t := true) (na := 3) (kd := 1) (as := [x1, (.int v26), (.int v30)]) at_217_166 (am_k3v kb_222) mn_222 mk_222 rfl rfl (am_ok_v mi_222 (am_hl rfl (am_ccR i1 (am_ccI (am_ccI am_cats_0))) rfl) z32) (am_hc am_cats_0 rfl) (fun _ => ⟨rfl, hh_217⟩) (fun o1 hz9 => rm_222 x1 v26 v30 h17 o1 i1 hz9) ?_
            rcases am_cI_s hs15 with ⟨v33, h34, f35, hs16⟩ | hs16
            · clear hs15
              refine Or.inl ⟨_, _, f35, ?_⟩
              show am_W X _ 217 169 _ [(.int v33)] h34 _
              refine aw_istore (lv1 := am_put1 _ 5 _) (pc1 := 171) at_217_169 rfl rfl ?_
              refine aw_vload_n (pc1 := 172) at_217_171 (am_lk1 l1 rfl rfl) i1 rfl ?_
              obtain ⟨v36, e37, hs17⟩ := am_bind hs16
              clear hs16
              refine aw_pG (pc1 := 175) at_217_172 (am_vR_s e37).1 rfl ?_
              refine aw_iload_n (pc1 := 176) at_217_175 (am_lk1 l3 rfl rfl) rfl ?_
              by_cases c38 : ¬ x3 = 0
              · rw [if_pos c38] at hs17
                refine aw_ifne_t at_217_176 c38 ?_
                refine aw_iconst (v := 4) (pc1 := 184) at_217_183 (by decide) rfl ?_
                exact rg_217_184 (fun z0 z1 z2 z3 z4 h o hs17 => ih z0 z1 z2 z3 z4 h o hs17) x0 x1 x2 x3 x4 v33 v36 4 h34 o (am_lk1 l0 rfl rfl) (am_lk1 l1 rfl rfl) (am_lk1 l2 rfl rfl) (am_lk1 l3 rfl rfl) (am_lk1 l4 rfl rfl) am_lk0 i0 i1 (am_vR_s e37).2 hs17
              · rw [if_neg c38] at hs17
                refine aw_ifne_f (pc1 := 179) at_217_176 c38 rfl ?_
                refine aw_iconst (v := 5) (pc1 := 180) at_217_179 (by decide) rfl ?_
                refine aw_goto at_217_180 ?_
                exact rg_217_184 (fun z0 z1 z2 z3 z4 h o hs17 => ih z0 z1 z2 z3 z4 h o hs17) x0 x1 x2 x3 x4 v33 v36 5 h34 o (am_lk1 l0 rfl rfl) (am_lk1 l1 rfl rfl) (am_lk1 l2 rfl rfl) (am_lk1 l3 rfl rfl) (am_lk1 l4 rfl rfl) am_lk0 i0 i1 (am_vR_s e37).2 hs17
            · clear hs15
              exact Or.inr hs16
          · rw [if_neg c23] at hs10
            refine aw_icge_f (pc1 := 88) at_217_85 c23 rfl ?_
            refine aw_vload_n (pc1 := 89) at_217_88 l1 i1 rfl ?_
            refine aw_vload_n (pc1 := 90) at_217_89 l0 i0 rfl ?_
            obtain ⟨v39, e40, hs18⟩ := am_bind hs10
            clear hs10
            refine aw_pG (pc1 := 93) at_217_90 (am_vR_s e40).1 rfl ?_
            refine aw_iconst (v := 4) (pc1 := 94) at_217_93 (by decide) rfl ?_
            obtain ⟨v41, e42, hs19⟩ := am_bind hs18
            clear hs18
            refine aw_pA (pc1 := 95) at_217_94 (Or.inl ⟨rfl, rfl⟩) e42 rfl ?_
            refine aw_vload_n (pc1 := 96) at_217_95 l0 i0 rfl ?_
            obtain ⟨v43, e44, hs20⟩ := am_bind hs19
            clear hs19
            refine aw_pG (pc1 := 99) at_217_96 (am_vR_s e44).1 rfl ?_
            refine aw_iconst (v := 2) (pc1 := 100) at_217_99 (by decide) rfl ?_
            obtain ⟨v45, e46, hs21⟩ := am_bind hs20
            clear hs20
            refine aw_pA (pc1 := 101) at_217_100 (Or.inl ⟨rfl, rfl⟩) e46 rfl ?_
            obtain ⟨z47, hs22⟩ := am_ift hs21
            clear hs21
            refine aw_call (F := fm_222 N x1 v41 v45 h17) (t := true) (na := 3) (kd := 1) (as := [x1, (.int v41), (.int v45)]) at_217_101 (am_k3v kb_222) mn_222 mk_222 rfl rfl (am_ok_v mi_222 (am_hl rfl (am_ccR i1 (am_ccI (am_ccI am_cats_0))) rfl) z47) (am_hc am_cats_0 rfl) (fun _ => ⟨rfl, hh_217⟩) (fun o1 hz9 => rm_222 x1 v41 v45 h17 o1 i1 hz9) ?_
            rcases am_cI_s hs22 with ⟨v48, h49, f50, hs23⟩ | hs23
            · clear hs22
              refine Or.inl ⟨_, _, f50, ?_⟩
              show am_W X _ 217 104 _ [(.int v48)] h49 _
              refine aw_istore (lv1 := am_put1 _ 5 _) (pc1 := 106) at_217_104 rfl rfl ?_
              refine aw_vload_n (pc1 := 107) at_217_106 (am_lk1 l1 rfl rfl) i1 rfl ?_
              refine aw_vload_n (pc1 := 108) at_217_107 (am_lk1 l0 rfl rfl) i0 rfl ?_
              obtain ⟨v51, e52, hs24⟩ := am_bind hs23
              clear hs23
              refine aw_pG (pc1 := 111) at_217_108 (am_vR_s e52).1 rfl ?_
              refine aw_iconst (v := 4) (pc1 := 112) at_217_111 (by decide) rfl ?_
              obtain ⟨v53, e54, hs25⟩ := am_bind hs24
              clear hs24
              refine aw_pA (pc1 := 113) at_217_112 (Or.inl ⟨rfl, rfl⟩) e54 rfl ?_
              refine aw_vload_n (pc1 := 114) at_217_113 (am_lk1 l0 rfl rfl) i0 rfl ?_
              obtain ⟨v55, e56, hs26⟩ := am_bind hs25
              clear hs25
              refine aw_pG (pc1 := 117) at_217_114 (am_vR_s e56).1 rfl ?_
              refine aw_iconst (v := 2) (pc1 := 118) at_217_117 (by decide) rfl ?_
              obtain ⟨v57, e58, hs27⟩ := am_bind hs26
              clear hs26
              refine aw_pA (pc1 := 119) at_217_118 (Or.inl ⟨rfl, rfl⟩) e58 rfl ?_
              obtain ⟨z59, hs28⟩ := am_ift hs27
              clear hs27
              refine aw_call (F := fm_222 N x1 v53 v57 h49) (t := true) (na := 3) (kd := 1) (as := [x1, (.int v53), (.int v57)]) at_217_119 (am_k3v kb_222) mn_222 mk_222 rfl rfl (am_ok_v mi_222 (am_hl rfl (am_ccR i1 (am_ccI (am_ccI am_cats_0))) rfl) z59) (am_hc am_cats_0 rfl) (fun _ => ⟨rfl, hh_217⟩) (fun o1 hz9 => rm_222 x1 v53 v57 h49 o1 i1 hz9) ?_
              rcases am_cI_s hs28 with ⟨v60, h61, f62, hs29⟩ | hs29
              · clear hs28
                refine Or.inl ⟨_, _, f62, ?_⟩
                show am_W X _ 217 122 _ [(.int v60)] h61 _
                refine aw_istore (lv1 := am_put1 _ 6 _) (pc1 := 124) at_217_122 rfl rfl ?_
                refine aw_vload_n (pc1 := 125) at_217_124 (am_lk1 (am_lk1 l0 rfl rfl) rfl rfl) i0 rfl ?_
                obtain ⟨v63, e64, hs30⟩ := am_bind hs29
                clear hs29
                refine aw_pG (pc1 := 128) at_217_125 (am_vR_s e64).1 rfl ?_
                refine aw_iload (pc1 := 130) at_217_128 (am_lk1 (am_lk1 l4 rfl rfl) rfl rfl) rfl ?_
                refine aw_vload_n (pc1 := 131) at_217_130 (am_lk1 (am_lk1 l0 rfl rfl) rfl rfl) i0 rfl ?_
                refine aw_iload (pc1 := 133) at_217_131 (am_lk1 am_lk0 rfl rfl) rfl ?_
                refine aw_iload (pc1 := 135) at_217_133 am_lk0 rfl ?_
                refine aw_iconst (v := (-1)) (pc1 := 136) at_217_135 (by decide) rfl ?_
                refine aw_vload_n (pc1 := 137) at_217_136 (am_lk1 (am_lk1 l1 rfl rfl) rfl rfl) i1 rfl ?_
                obtain ⟨v65, e66, hs31⟩ := am_bind hs30
                clear hs30
                refine aw_pG (pc1 := 140) at_217_137 (am_vR_s e66).1 rfl ?_
                refine aw_ldc2 (v := 4611686018427387904) (pc1 := 143) at_217_140 rfl rfl ?_
                obtain ⟨z67, hs32⟩ := am_ift hs31
                clear hs31
                refine aw_call (F := fm_194 v65 4611686018427387904 h61) (t := true) (na := 2) (kd := 1) (as := [v65, (.long 4611686018427387904)]) at_217_143 (am_k3v kb_194) mn_194 mk_194 rfl rfl (am_ok_v mi_194 (am_hl rfl (am_ccR (am_vR_s e66).2 (am_ccL am_cats_0)) rfl) z67) (am_hc (am_ccI (am_ccI (am_ccI (am_ccR i0 (am_ccI (am_ccR (am_vR_s e64).2 am_cats_0)))))) rfl) (fun _ => ⟨rfl, hh_217⟩) (fun o1 hz9 => rm_194 v65 4611686018427387904 h61 o1 (am_vR_s e66).2 hz9) ?_
                rcases am_cL_s hs32 with ⟨v68, h69, f70, hs33⟩ | hs33
                · clear hs32
                  refine Or.inl ⟨_, _, f70, ?_⟩
                  show am_W X _ 217 146 _ [(.long v68), (.int (-1)), (.int v60), (.int v48), x0, (.int x4), v63] h69 _
                  obtain ⟨z71, hs34⟩ := am_ift hs33
                  clear hs33
                  refine aw_call (F := fm_190 N x0 v48 v60 ((-1)) v68 h69) (t := true) (na := 5) (kd := 1) (as := [x0, (.int v48), (.int v60), (.int (-1)), (.long v68)]) at_217_146 (am_k3v kb_190) mn_190 mk_190 rfl rfl (am_ok_v mi_190 (am_hl rfl (am_ccR i0 (am_ccI (am_ccI (am_ccI (am_ccL am_cats_0))))) rfl) z71) (am_hc (am_ccI (am_ccR (am_vR_s e64).2 am_cats_0)) rfl) (fun _ => ⟨rfl, hh_217⟩) (fun o1 hz9 => rm_190 x0 v48 v60 ((-1)) v68 h69 o1 i0 hz9) ?_
                  rcases am_cI_s hs34 with ⟨v72, h73, f74, hs35⟩ | hs35
                  · clear hs34
                    refine Or.inl ⟨_, _, f74, ?_⟩
                    show am_W X _ 217 149 _ [(.int v72), (.int x4), v63] h73 _
                    obtain ⟨h75, e76, hs36⟩ := am_bind hs35
                    clear hs35
                    refine aw_pS (pc1 := 150) at_217_149 (Or.inl ⟨rfl, rfl⟩) e76 rfl ?_
                    refine aw_goto at_217_150 ?_
                    exact rg_217_215 (fun z0 z1 z2 z3 z4 h o hs36 => ih z0 z1 z2 z3 z4 h o hs36) x0 x1 x2 x3 x4 h75 o (am_lk1 (am_lk1 l0 rfl rfl) rfl rfl) (am_lk1 (am_lk1 l1 rfl rfl) rfl rfl) (am_lk1 (am_lk1 l2 rfl rfl) rfl rfl) (am_lk1 (am_lk1 l3 rfl rfl) rfl rfl) (am_lk1 (am_lk1 l4 rfl rfl) rfl rfl) i0 i1 hs36
                  · clear hs34
                    exact Or.inr hs35
                · clear hs32
                  exact Or.inr hs33
              · clear hs28
                exact Or.inr hs29
            · clear hs22
              exact Or.inr hs23
        · clear hs7
          exact Or.inr hs8
      · rw [if_neg c12] at hs1
        refine aw_icge_f (pc1 := 48) at_217_45 c12 rfl ?_
        refine aw_vload_n (pc1 := 49) at_217_48 l0 i0 rfl ?_
        obtain ⟨v77, e78, hs37⟩ := am_bind hs1
        clear hs1
        refine aw_pG (pc1 := 52) at_217_49 (am_vR_s e78).1 rfl ?_
        refine aw_iload (pc1 := 54) at_217_52 l4 rfl ?_
        refine aw_vload_n (pc1 := 55) at_217_54 l1 i1 rfl ?_
        obtain ⟨v79, e80, hs38⟩ := am_bind hs37
        clear hs37
        refine aw_pG (pc1 := 58) at_217_55 (am_vR_s e80).1 rfl ?_
        refine aw_vload_n (pc1 := 59) at_217_58 l1 i1 rfl ?_
        obtain ⟨v81, e82, hs39⟩ := am_bind hs38
        clear hs38
        refine aw_pG (pc1 := 62) at_217_59 (am_vR_s e82).1 rfl ?_
        refine aw_iload (pc1 := 64) at_217_62 l4 rfl ?_
        obtain ⟨v83, e84, hs40⟩ := am_bind hs39
        clear hs39
        refine aw_pA (pc1 := 65) at_217_64 (Or.inl ⟨rfl, rfl⟩) e84 rfl ?_
        obtain ⟨v85, e86, hs41⟩ := am_bind hs40
        clear hs40
        refine aw_pA (pc1 := 66) at_217_65 (Or.inl ⟨rfl, rfl⟩) e86 rfl ?_
        obtain ⟨h87, e88, hs42⟩ := am_bind hs41
        clear hs41
        refine aw_pS (pc1 := 67) at_217_66 (Or.inl ⟨rfl, rfl⟩) e88 rfl ?_
        refine aw_goto at_217_67 ?_
        exact rg_217_215 (fun z0 z1 z2 z3 z4 h o hs42 => ih z0 z1 z2 z3 z4 h o hs42) x0 x1 x2 x3 x4 h87 o l0 l1 l2 l3 l4 i0 i1 hs42
def fg_217_0 (N : Nat) (x0 : Value) (x1 : Value) (x2 : Int32) (h : am_H) : Option am_O := ((am_vR (am_pG 2816 x0 h)).bind fun v1 => ((am_vR (am_pG 2819 x0 h)).bind fun v3 => (if am_pOk 1 x1 h then am_cV true (fm_218 N x1 v1 v3 h) (fun h7 => (if am_pOk 1 x1 h7 then am_cV true (fm_220 N x1 h7) (fun h11 => ((am_vR (am_pG 257 x1 h11)).bind fun v13 => ((am_pA 0 v13 0 h11).bind fun v15 => (if am_pOk 11 x0 h11 then am_cR true (fm_63 x0 v15 h11) (fun v18 h19 => ((am_vI (am_pG 769 v18 h19)).bind fun v21 => (fg_217_33 N N x0 x1 x2 v21 0 h19))) else none)))) else none)) else none)))
theorem rg_217_0 {X : am_X} {d : Nat} {N : Nat} {lv : am_LV} (x0 : Value) (x1 : Value) (x2 : Int32) (h : am_H) (o : am_O) (l0 : lv.lookup 0 = some x0) (l1 : lv.lookup 1 = some x1) (l2 : lv.lookup 2 = some (.int x2)) (i0 : am_isR x0 = true) (i1 : am_isR x1 = true) (hs : fg_217_0 N x0 x1 x2 h = some o) : am_W X (d + 124) 217 0 lv [] h (fun q => q = o) := by
  unfold fg_217_0 at hs
  refine aw_vload_n (pc1 := 1) at_217_0 l1 i1 rfl ?_
  refine aw_vload_n (pc1 := 2) at_217_1 l0 i0 rfl ?_
  obtain ⟨v1, e2, hs1⟩ := am_bind hs
  clear hs
  refine aw_pG (pc1 := 5) at_217_2 (am_vR_s e2).1 rfl ?_
  refine aw_vload_n (pc1 := 6) at_217_5 l0 i0 rfl ?_
  obtain ⟨v3, e4, hs2⟩ := am_bind hs1
  clear hs1
  refine aw_pG (pc1 := 9) at_217_6 (am_vR_s e4).1 rfl ?_
  obtain ⟨z5, hs3⟩ := am_ift hs2
  clear hs2
  refine aw_call (F := fm_218 N x1 v1 v3 h) (t := true) (na := 3) (kd := 1) (as := [x1, v1, v3]) at_217_9 (am_k3v kb_218) mn_218 mk_218 rfl rfl (am_ok_v mi_218 (am_hl rfl (am_ccR i1 (am_ccR (am_vR_s e2).2 (am_ccR (am_vR_s e4).2 am_cats_0))) rfl) z5) (am_hc am_cats_0 rfl) (fun _ => ⟨rfl, hh_217⟩) (fun o1 hz9 => rm_218 x1 v1 v3 h o1 i1 (am_vR_s e2).2 (am_vR_s e4).2 hz9) ?_
  rcases am_cV_s hs3 with ⟨h7, f8, hs4⟩ | hs4
  · clear hs3
    refine Or.inl ⟨_, _, f8, ?_⟩
    show am_W X _ 217 12 _ [] h7 _
    refine aw_vload_n (pc1 := 13) at_217_12 l1 i1 rfl ?_
    obtain ⟨z9, hs5⟩ := am_ift hs4
    clear hs4
    refine aw_call (F := fm_220 N x1 h7) (t := true) (na := 1) (kd := 1) (as := [x1]) at_217_13 (am_k3v kb_220) mn_220 mk_220 rfl rfl (am_ok_v mi_220 (am_hl rfl (am_ccR i1 am_cats_0) rfl) z9) (am_hc am_cats_0 rfl) (fun _ => ⟨rfl, hh_217⟩) (fun o1 hz9 => rm_220 x1 h7 o1 i1 hz9) ?_
    rcases am_cV_s hs5 with ⟨h11, f12, hs6⟩ | hs6
    · clear hs5
      refine Or.inl ⟨_, _, f12, ?_⟩
      show am_W X _ 217 16 _ [] h11 _
      refine aw_vload_n (pc1 := 17) at_217_16 l0 i0 rfl ?_
      refine aw_vload_n (pc1 := 18) at_217_17 l1 i1 rfl ?_
      obtain ⟨v13, e14, hs7⟩ := am_bind hs6
      clear hs6
      refine aw_pG (pc1 := 21) at_217_18 (am_vR_s e14).1 rfl ?_
      refine aw_iconst (v := 0) (pc1 := 22) at_217_21 (by decide) rfl ?_
      obtain ⟨v15, e16, hs8⟩ := am_bind hs7
      clear hs7
      refine aw_pA (pc1 := 23) at_217_22 (Or.inl ⟨rfl, rfl⟩) e16 rfl ?_
      obtain ⟨z17, hs9⟩ := am_ift hs8
      clear hs8
      refine aw_call (F := fm_63 x0 v15 h11) (t := true) (na := 2) (kd := 1) (as := [x0, (.int v15)]) at_217_23 (am_k3v kb_63) mn_63 mk_63 rfl rfl (am_ok_v mi_63 (am_hl rfl (am_ccR i0 (am_ccI am_cats_0)) rfl) z17) (am_hc am_cats_0 rfl) (fun _ => ⟨rfl, hh_217⟩) (fun o1 hz9 => rm_63 x0 v15 h11 o1 i0 hz9) ?_
      rcases am_cR_s hs9 with ⟨v18, h19, f20, iv18, hs10⟩ | hs10
      · clear hs9
        refine Or.inl ⟨_, _, f20, ?_⟩
        show am_W X _ 217 26 _ [v18] h19 _
        obtain ⟨v21, e22, hs11⟩ := am_bind hs10
        clear hs10
        refine aw_pG (pc1 := 29) at_217_26 (am_vI_s e22) rfl ?_
        refine aw_istore_n (lv1 := am_put1 _ 3 _) (pc1 := 30) at_217_29 rfl rfl ?_
        refine aw_iconst (v := 0) (pc1 := 31) at_217_30 (by decide) rfl ?_
        refine aw_istore (lv1 := am_put1 _ 4 _) (pc1 := 33) at_217_31 rfl rfl ?_
        exact rg_217_33 N x0 x1 x2 v21 0 h19 o hs11 _ (am_lk1 (am_lk1 l0 rfl rfl) rfl rfl) (am_lk1 (am_lk1 l1 rfl rfl) rfl rfl) (am_lk1 (am_lk1 l2 rfl rfl) rfl rfl) (am_lk1 am_lk0 rfl rfl) am_lk0 i0 i1
      · clear hs9
        exact Or.inr hs10
    · clear hs5
      exact Or.inr hs6
  · clear hs3
    exact Or.inr hs4
def fm_217 (N : Nat) (y0 : Value) (y1 : Value) (y2 : Int32) (h : am_H) : Option am_O := fg_217_0 N y0 y1 y2 h
theorem rm_217 {X : am_X} {d : Nat} {N : Nat} (y0 : Value) (y1 : Value) (y2 : Int32) (h : am_H) (o : am_O) (i0 : am_isR y0 = true) (i1 : am_isR y1 = true) (hs : fm_217 N y0 y1 y2 h = some o) : am_W X (d + 124) 217 0 (am_args 0 [y0, y1, .int y2]) [] h (fun q => q = o) := by
  rw [am_args_R i0, am_args_R i1, am_args_I]
  exact rg_217_0 y0 y1 y2 h o rfl rfl rfl i0 i1 hs
