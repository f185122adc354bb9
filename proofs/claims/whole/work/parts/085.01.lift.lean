/-! ===== methods as functions ===== -/
def fg_445_86 (N : Nat) (s0 : Int32) (h : am_H) : Option am_O := (if am_rfit (some FieldType.boolean) s0 then some (.inl (some (.int s0), h)) else none)
theorem rg_445_86 {X : am_X} {d : Nat} {N : Nat} {lv : am_LV} (s0 : Int32) (h : am_H) (o : am_O) (hs : fg_445_86 N s0 h = some o) : am_W X (d + 2) 445 86 lv [(.int s0)] h (fun q => q = o) := by
  unfold fg_445_86 at hs
  obtain ⟨z1, hs1⟩ := am_ift hs
  clear hs
  cases hs1
  exact aw_iret at_445_86 (by rw [rt_445]; exact z1) rfl
def fg_445_50 (N : Nat) (s0 : Int32) (h : am_H) : Option am_O := (if am_rfit (some FieldType.boolean) s0 then some (.inl (some (.int s0), h)) else none)
theorem rg_445_50 {X : am_X} {d : Nat} {N : Nat} {lv : am_LV} (s0 : Int32) (h : am_H) (o : am_O) (hs : fg_445_50 N s0 h = some o) : am_W X (d + 2) 445 50 lv [(.int s0)] h (fun q => q = o) := by
  unfold fg_445_50 at hs
  obtain ⟨z1, hs1⟩ := am_ift hs
  clear hs
  cases hs1
  exact aw_iret at_445_50 (by rw [rt_445]; exact z1) rfl
def fg_445_49 (N : Nat) (h : am_H) : Option am_O := (fg_445_50 N 0 h)
theorem rg_445_49 {X : am_X} {d : Nat} {N : Nat} {lv : am_LV} (h : am_H) (o : am_O) (hs : fg_445_49 N h = some o) : am_W X (d + 2) 445 49 lv [] h (fun q => q = o) := by
  unfold fg_445_49 at hs
  refine aw_iconst (v := 0) (pc1 := 50) at_445_49 (by decide) rfl ?_
  exact rg_445_50 0 h o   hs
def fg_445_0 (N : Nat) (x0 : Value) (h : am_H) : Option am_O := ((am_vI (am_pG 3085 x0 h)).bind fun v1 => (if ¬ v1 = 0 then ((am_vI (am_pG 3085 x0 h)).bind fun v4 => (if ¬ v4 = 1 then ((am_vI (am_pG 3085 x0 h)).bind fun v7 => (if ¬ v7 = 2 then ((am_vI (am_pG 3086 x0 h)).bind fun v10 => (if 40 < v10 then (fg_445_86 N 0 h) else (fg_445_86 N 1 h))) else ((am_vI (am_pG 3086 x0 h)).bind fun v13 => am_cI false (fm_327 ((Int32.toInt64 v13)) 1 6 h) (fun v15 h16 => (if am_rfit (some FieldType.boolean) v15 then some (.inl (some (.int v15), h16)) else none))))) else ((am_vI (am_pG 3086 x0 h)).bind fun v19 => am_cI false (fm_327 ((Int32.toInt64 v19)) 1 60 h) (fun v21 h22 => (if v21 = 0 then (fg_445_49 N h22) else (if am_pOk 12 x0 h22 then am_cI true (fm_347 N x0 h22) (fun v26 h27 => (if ¬ v26 = (-1) then (fg_445_49 N h27) else (fg_445_50 N 1 h27))) else none)))))) else (if am_pOk 12 x0 h then am_cI true (fm_446 N x0 0 0 h) (fun v31 h32 => (if am_rfit (some FieldType.boolean) v31 then some (.inl (some (.int v31), h32)) else none)) else none)))
theorem rg_445_0 {X : am_X} {d : Nat} {N : Nat} {lv : am_LV} (x0 : Value) (h : am_H) (o : am_O) (l0 : lv.lookup 0 = some x0) (i0 : am_isR x0 = true) (hs : fg_445_0 N x0 h = some o) : am_W X (d + 2) 445 0 lv [] h (fun q => q = o) := by
  unfold fg_445_0 at hs
  refine aw_vload_n (pc1 := 1) at_445_0 l0 i0 rfl ?_
  obtain ⟨v1, e2, hs1⟩ := am_bind hs
  clear hs
  refine aw_pG (pc1 := 4) at_445_1 (am_vI_s e2) rfl ?_
  by_cases c3 : ¬ v1 = 0
  · rw [if_pos c3] at hs1
    refine aw_ifne_t at_445_4 c3 ?_
    refine aw_vload_n (pc1 := 15) at_445_14 l0 i0 rfl ?_
    obtain ⟨v4, e5, hs2⟩ := am_bind hs1
    clear hs1
    refine aw_pG (pc1 := 18) at_445_15 (am_vI_s e5) rfl ?_
    refine aw_iconst (v := 1) (pc1 := 19) at_445_18 (by decide) rfl ?_
    by_cases c6 : ¬ v4 = 1
    · rw [if_pos c6] at hs2
      refine aw_icne_t at_445_19 c6 ?_
      refine aw_vload_n (pc1 := 52) at_445_51 l0 i0 rfl ?_
      obtain ⟨v7, e8, hs3⟩ := am_bind hs2
      clear hs2
      refine aw_pG (pc1 := 55) at_445_52 (am_vI_s e8) rfl ?_
      refine aw_iconst (v := 2) (pc1 := 56) at_445_55 (by decide) rfl ?_
      by_cases c9 : ¬ v7 = 2
      · rw [if_pos c9] at hs3
        refine aw_icne_t at_445_56 c9 ?_
        refine aw_vload_n (pc1 := 73) at_445_72 l0 i0 rfl ?_
        obtain ⟨v10, e11, hs4⟩ := am_bind hs3
        clear hs3
        refine aw_pG (pc1 := 76) at_445_73 (am_vI_s e11) rfl ?_
        refine aw_bipush (v := 40) (pc1 := 78) at_445_76 (by decide) rfl ?_
        by_cases c12 : 40 < v10
        · rw [if_pos c12] at hs4
          refine aw_icgt_t at_445_78 c12 ?_
          refine aw_iconst (v := 0) (pc1 := 86) at_445_85 (by decide) rfl ?_
          exact rg_445_86 0 h o   hs4
        · rw [if_neg c12] at hs4
          refine aw_icgt_f (pc1 := 81) at_445_78 c12 rfl ?_
          refine aw_iconst (v := 1) (pc1 := 82) at_445_81 (by decide) rfl ?_
          refine aw_goto at_445_82 ?_
          exact rg_445_86 1 h o   hs4
      · rw [if_neg c9] at hs3
        refine aw_icne_f (pc1 := 59) at_445_56 c9 rfl ?_
        refine aw_vload_n (pc1 := 60) at_445_59 l0 i0 rfl ?_
        obtain ⟨v13, e14, hs5⟩ := am_bind hs3
        clear hs3
        refine aw_pG (pc1 := 63) at_445_60 (am_vI_s e14) rfl ?_
        refine aw_i2l (v := (Int32.toInt64 v13)) (pc1 := 64) at_445_63 rfl rfl ?_
        refine aw_lconst (v := 1) (pc1 := 65) at_445_64 (by decide) rfl ?_
        refine aw_ldc2 (v := 6) (pc1 := 68) at_445_65 rfl rfl ?_
        refine aw_call (F := fm_327 ((Int32.toInt64 v13)) 1 6 h) (t := false) (na := 3) (kd := 0) (as := [(.long (Int32.toInt64 v13)), (.long 1), (.long 6)]) at_445_68 (am_k3s kb_327) mn_327 mk_327 rfl rfl (am_ok_s mi_327 (am_hl rfl (am_ccL (am_ccL (am_ccL am_cats_0))) rfl)) (am_hc am_cats_0 rfl) (fun hz9 => by cases hz9) (fun o1 hz9 => rm_327 ((Int32.toInt64 v13)) 1 6 h o1  hz9) ?_
        rcases am_cI_s hs5 with ⟨v15, h16, f17, hs6⟩ | hs6
        · clear hs5
          refine Or.inl ⟨_, _, f17, ?_⟩
          show am_W X _ 445 71 _ [(.int v15)] h16 _
          obtain ⟨z18, hs7⟩ := am_ift hs6
          clear hs6
          cases hs7
          exact aw_iret at_445_71 (by rw [rt_445]; exact z18) rfl
        · clear hs5
          exact Or.inr hs6
    · rw [if_neg c6] at hs2
      refine aw_icne_f (pc1 := 22) at_445_19 c6 rfl ?_
      refine aw_vload_n (pc1 := 23) at_445_22 l0 i0 rfl ?_
      obtain ⟨v19, e20, hs8⟩ := am_bind hs2
      clear hs2
      refine aw_pG (pc1 := 26) at_445_23 (am_vI_s e20) rfl ?_
      refine aw_i2l (v := (Int32.toInt64 v19)) (pc1 := 27) at_445_26 rfl rfl ?_
      refine aw_lconst (v := 1) (pc1 := 28) at_445_27 (by decide) rfl ?_
      refine aw_ldc2 (v := 60) (pc1 := 31) at_445_28 rfl rfl ?_
      refine aw_call (F := fm_327 ((Int32.toInt64 v19)) 1 60 h) (t := false) (na := 3) (kd := 0) (as := [(.long (Int32.toInt64 v19)), (.long 1), (.long 60)]) at_445_31 (am_k3s kb_327) mn_327 mk_327 rfl rfl (am_ok_s mi_327 (am_hl rfl (am_ccL (am_ccL (am_ccL am_cats_0))) rfl)) (am_hc am_cats_0 rfl) (fun hz9 => by cases hz9) (fun o1 hz9 => rm_327 ((Int32.toInt64 v19)) 1 60 h o1  hz9) ?_
      rcases am_cI_s hs8 with ⟨v21, h22, f23, hs9⟩ | hs9
      · clear hs8
        refine Or.inl ⟨_, _, f23, ?_⟩
        show am_W X _ 445 34 _ [(.int v21)] h22 _
        by_cases c24 : v21 = 0
        · rw [if_pos c24] at hs9
          refine aw_ifeq_t at_445_34 c24 ?_
          exact rg_445_49 h22 o   hs9
        · rw [if_neg c24] at hs9
          refine aw_ifeq_f (pc1 := 37) at_445_34 c24 rfl ?_
          refine aw_vload_n (pc1 := 38) at_445_37 l0 i0 rfl ?_
          obtain ⟨z25, hs10⟩ := am_ift hs9
          clear hs9
          refine aw_call (F := fm_347 N x0 h22) (t := true) (na := 1) (kd := 1) (as := [x0]) at_445_38 (am_k3v kb_347) mn_347 mk_347 rfl rfl (am_ok_v mi_347 (am_hl rfl (am_ccR i0 am_cats_0) rfl) z25) (am_hc am_cats_0 rfl) (fun _ => ⟨rfl, hh_445⟩) (fun o1 hz9 => rm_347 x0 h22 o1 i0 hz9) ?_
          rcases am_cI_s hs10 with ⟨v26, h27, f28, hs11⟩ | hs11
          · clear hs10
            refine Or.inl ⟨_, _, f28, ?_⟩
            show am_W X _ 445 41 _ [(.int v26)] h27 _
            refine aw_iconst (v := (-1)) (pc1 := 42) at_445_41 (by decide) rfl ?_
            by_cases c29 : ¬ v26 = (-1)
            · rw [if_pos c29] at hs11
              refine aw_icne_t at_445_42 c29 ?_
              exact rg_445_49 h27 o   hs11
            · rw [if_neg c29] at hs11
              refine aw_icne_f (pc1 := 45) at_445_42 c29 rfl ?_
              refine aw_iconst (v := 1) (pc1 := 46) at_445_45 (by decide) rfl ?_
              refine aw_goto at_445_46 ?_
              exact rg_445_50 1 h27 o   hs11
          · clear hs10
            exact Or.inr hs11
      · clear hs8
        exact Or.inr hs9
  · rw [if_neg c3] at hs1
    refine aw_ifne_f (pc1 := 7) at_445_4 c3 rfl ?_
    refine aw_vload_n (pc1 := 8) at_445_7 l0 i0 rfl ?_
    refine aw_iconst (v := 0) (pc1 := 9) at_445_8 (by decide) rfl ?_
    refine aw_iconst (v := 0) (pc1 := 10) at_445_9 (by decide) rfl ?_
    obtain ⟨z30, hs12⟩ := am_ift hs1
    clear hs1
    refine aw_call (F := fm_446 N x0 0 0 h) (t := true) (na := 3) (kd := 1) (as := [x0, (.int 0), (.int 0)]) at_445_10 (am_k3v kb_446) mn_446 mk_446 rfl rfl (am_ok_v mi_446 (am_hl rfl (am_ccR i0 (am_ccI (am_ccI am_cats_0))) rfl) z30) (am_hc am_cats_0 rfl) (fun _ => ⟨rfl, hh_445⟩) (fun o1 hz9 => rm_446 x0 0 0 h o1 i0 hz9) ?_
    rcases am_cI_s hs12 with ⟨v31, h32, f33, hs13⟩ | hs13
    · clear hs12
      refine Or.inl ⟨_, _, f33, ?_⟩
      show am_W X _ 445 13 _ [(.int v31)] h32 _
      obtain ⟨z34, hs14⟩ := am_ift hs13
      clear hs13
      cases hs14
      exact aw_iret at_445_13 (by rw [rt_445]; exact z34) rfl
    · clear hs12
      exact Or.inr hs13
def fm_445 (N : Nat) (y0 : Value) (h : am_H) : Option am_O := fg_445_0 N y0 h
theorem rm_445 {X : am_X} {d : Nat} {N : Nat} (y0 : Value) (h : am_H) (o : am_O) (i0 : am_isR y0 = true) (hs : fm_445 N y0 h = some o) : am_W X (d + 2) 445 0 (am_args 0 [y0]) [] h (fun q => q = o) := by
  rw [am_args_R i0]
  exact rg_445_0 y0 h o rfl i0 hs
def fg_444_38 (N : Nat) (x0 : Value) (s0 : Value) (s1 : Int32) (h : am_H) : Option am_O := ((am_pP 3167 s0 (.int s1) h).bind fun h1 => ((am_vI (am_pG 3167 x0 h1)).bind fun v3 => (if am_rfit (some FieldType.boolean) v3 then some (.inl (some (.int v3), h1)) else none)))
theorem rg_444_38 {X : am_X} {d : Nat} {N : Nat} {lv : am_LV} (x0 : Value) (s0 : Value) (s1 : Int32) (h : am_H) (o : am_O) (l0 : lv.lookup 0 = some x0) (i0 : am_isR x0 = true) (j0 : am_isR s0 = true) (hs : fg_444_38 N x0 s0 s1 h = some o) : am_W X (d + 3) 444 38 lv [(.int s1), s0] h (fun q => q = o) := by
  unfold fg_444_38 at hs
  obtain ⟨h1, e2, hs1⟩ := am_bind hs
  clear hs
  refine aw_pP (pc1 := 41) at_444_38 e2 rfl ?_
  refine aw_vload_n (pc1 := 42) at_444_41 l0 i0 rfl ?_
  obtain ⟨v3, e4, hs2⟩ := am_bind hs1
  clear hs1
  refine aw_pG (pc1 := 45) at_444_42 (am_vI_s e4) rfl ?_
  obtain ⟨z5, hs3⟩ := am_ift hs2
  clear hs2
  cases hs3
  exact aw_iret at_444_45 (by rw [rt_444]; exact z5) rfl
def fg_444_0 (N : Nat) (x0 : Value) (h : am_H) : Option am_O := (if am_pOk 12 x0 h then am_cI true (fm_445 N x0 h) (fun v2 h3 => (if ¬ v2 = 0 then ((am_vI (am_pG 3166 x0 h3)).bind fun v6 => ((am_pP 3166 x0 (.int (v6 + 1)) h3).bind fun h8 => ((am_vI (am_pG 3166 x0 h8)).bind fun v10 => ((am_vI (am_pG 3165 x0 h8)).bind fun v12 => (if ¬ (v10 - 1) = v12 then (fg_444_38 N x0 x0 0 h8) else (fg_444_38 N x0 x0 1 h8)))))) else some (.inl (some (.int 0), h3)))) else none)
theorem rg_444_0 {X : am_X} {d : Nat} {N : Nat} {lv : am_LV} (x0 : Value) (h : am_H) (o : am_O) (l0 : lv.lookup 0 = some x0) (i0 : am_isR x0 = true) (hs : fg_444_0 N x0 h = some o) : am_W X (d + 3) 444 0 lv [] h (fun q => q = o) := by
  unfold fg_444_0 at hs
  refine aw_vload_n (pc1 := 1) at_444_0 l0 i0 rfl ?_
  obtain ⟨z1, hs1⟩ := am_ift hs
  clear hs
  refine aw_call (F := fm_445 N x0 h) (t := true) (na := 1) (kd := 1) (as := [x0]) at_444_1 (am_k3v kb_445) mn_445 mk_445 rfl rfl (am_ok_v mi_445 (am_hl rfl (am_ccR i0 am_cats_0) rfl) z1) (am_hc am_cats_0 rfl) (fun _ => ⟨rfl, hh_444⟩) (fun o1 hz9 => rm_445 x0 h o1 i0 hz9) ?_
  rcases am_cI_s hs1 with ⟨v2, h3, f4, hs2⟩ | hs2
  · clear hs1
    refine Or.inl ⟨_, _, f4, ?_⟩
    show am_W X _ 444 4 _ [(.int v2)] h3 _
    by_cases c5 : ¬ v2 = 0
    · rw [if_pos c5] at hs2
      refine aw_ifne_t at_444_4 c5 ?_
      refine aw_vload_n (pc1 := 10) at_444_9 l0 i0 rfl ?_
      refine aw_vdup (pc1 := 11) at_444_10 i0 rfl ?_
      obtain ⟨v6, e7, hs3⟩ := am_bind hs2
      clear hs2
      refine aw_pG (pc1 := 14) at_444_11 (am_vI_s e7) rfl ?_
      refine aw_iconst (v := 1) (pc1 := 15) at_444_14 (by decide) rfl ?_
      refine aw_iadd (v := (v6 + 1)) (pc1 := 16) at_444_15 rfl rfl ?_
      obtain ⟨h8, e9, hs4⟩ := am_bind hs3
      clear hs3
      refine aw_pP (pc1 := 19) at_444_16 e9 rfl ?_
      refine aw_vload_n (pc1 := 20) at_444_19 l0 i0 rfl ?_
      refine aw_vload_n (pc1 := 21) at_444_20 l0 i0 rfl ?_
      obtain ⟨v10, e11, hs5⟩ := am_bind hs4
      clear hs4
      refine aw_pG (pc1 := 24) at_444_21 (am_vI_s e11) rfl ?_
      refine aw_iconst (v := 1) (pc1 := 25) at_444_24 (by decide) rfl ?_
      refine aw_isub (v := (v10 - 1)) (pc1 := 26) at_444_25 rfl rfl ?_
      refine aw_vload_n (pc1 := 27) at_444_26 l0 i0 rfl ?_
      obtain ⟨v12, e13, hs6⟩ := am_bind hs5
      clear hs5
      refine aw_pG (pc1 := 30) at_444_27 (am_vI_s e13) rfl ?_
      by_cases c14 : ¬ (v10 - 1) = v12
      · rw [if_pos c14] at hs6
        refine aw_icne_t at_444_30 c14 ?_
        refine aw_iconst (v := 0) (pc1 := 38) at_444_37 (by decide) rfl ?_
        exact rg_444_38 x0 x0 0 h8 o l0 i0 i0 hs6
      · rw [if_neg c14] at hs6
        refine aw_icne_f (pc1 := 33) at_444_30 c14 rfl ?_
        refine aw_iconst (v := 1) (pc1 := 34) at_444_33 (by decide) rfl ?_
        refine aw_goto at_444_34 ?_
        exact rg_444_38 x0 x0 1 h8 o l0 i0 i0 hs6
    · rw [if_neg c5] at hs2
      refine aw_ifne_f (pc1 := 7) at_444_4 c5 rfl ?_
      refine aw_iconst (v := 0) (pc1 := 8) at_444_7 (by decide) rfl ?_
      cases hs2
      exact aw_iret at_444_8 (by rw [rt_444]; decide) rfl
  · clear hs1
    exact Or.inr hs2
def fm_444 (N : Nat) (y0 : Value) (h : am_H) : Option am_O := fg_444_0 N y0 h
theorem rm_444 {X : am_X} {d : Nat} {N : Nat} (y0 : Value) (h : am_H) (o : am_O) (i0 : am_isR y0 = true) (hs : fm_444 N y0 h = some o) : am_W X (d + 3) 444 0 (am_args 0 [y0]) [] h (fun q => q = o) := by
  rw [am_args_R i0]
  exact rg_444_0 y0 h o rfl i0 hs
def fg_441_24 (N : Nat) (h : am_H) : Option am_O := some (.inl (some (.int 0), h))
theorem rg_441_24 {X : am_X} {d : Nat} {N : Nat} {lv : am_LV} (h : am_H) (o : am_O) (hs : fg_441_24 N h = some o) : am_W X (d + 4) 441 24 lv [] h (fun q => q = o) := by
  unfold fg_441_24 at hs
  refine aw_iconst (v := 0) (pc1 := 25) at_441_24 (by decide) rfl ?_
  cases hs
  exact aw_iret at_441_25 (by rw [rt_441]; decide) rfl
def fg_441_0 (N : Nat) (x0 : Value) (x1 : Int32) (x2 : Int32) (h : am_H) : Option am_O := am_cI false (fm_327 ((Int32.toInt64 x2)) ((-99)) 99 h) (fun v1 h2 => (if v1 = 0 then (fg_441_24 N h2) else ((am_vR (am_pG 3094 x0 h2)).bind fun v5 => ((am_pA 0 v5 x1 h2).bind fun v7 => (if ¬ x2 = v7 then (if am_pOk 12 x0 h2 then am_cV true (fm_442 N x0 h2) (fun h12 => ((am_vR (am_pG 3089 x0 h12)).bind fun v14 => ((am_pS 0 v14 x1 x2 h12).bind fun h16 => (if am_pOk 12 x0 h16 then am_cI true (fm_444 N x0 h16) (fun v19 h20 => (if am_rfit (some FieldType.boolean) v19 then some (.inl (some (.int v19), h20)) else none)) else none)))) else none) else (fg_441_24 N h2))))))
theorem rg_441_0 {X : am_X} {d : Nat} {N : Nat} {lv : am_LV} (x0 : Value) (x1 : Int32) (x2 : Int32) (h : am_H) (o : am_O) (l0 : lv.lookup 0 = some x0) (l1 : lv.lookup 1 = some (.int x1)) (l2 : lv.lookup 2 = some (.int x2)) (i0 : am_isR x0 = true) (hs : fg_441_0 N x0 x1 x2 h = some o) : am_W X (d + 4) 441 0 lv [] h (fun q => q = o) := by
  unfold fg_441_0 at hs
  refine aw_iload_n (pc1 := 1) at_441_0 l2 rfl ?_
  refine aw_i2l (v := (Int32.toInt64 x2)) (pc1 := 2) at_441_1 rfl rfl ?_
  refine aw_ldc2 (v := (-99)) (pc1 := 5) at_441_2 rfl rfl ?_
  refine aw_ldc2 (v := 99) (pc1 := 8) at_441_5 rfl rfl ?_
  refine aw_call (F := fm_327 ((Int32.toInt64 x2)) ((-99)) 99 h) (t := false) (na := 3) (kd := 0) (as := [(.long (Int32.toInt64 x2)), (.long (-99)), (.long 99)]) at_441_8 (am_k3s kb_327) mn_327 mk_327 rfl rfl (am_ok_s mi_327 (am_hl rfl (am_ccL (am_ccL (am_ccL am_cats_0))) rfl)) (am_hc am_cats_0 rfl) (fun hz9 => by cases hz9) (fun o1 hz9 => rm_327 ((Int32.toInt64 x2)) ((-99)) 99 h o1  hz9) ?_
  rcases am_cI_s hs with ⟨v1, h2, f3, hs1⟩ | hs1
  · clear hs
    refine Or.inl ⟨_, _, f3, ?_⟩
    show am_W X _ 441 11 _ [(.int v1)] h2 _
    by_cases c4 : v1 = 0
    · rw [if_pos c4] at hs1
      refine aw_ifeq_t at_441_11 c4 ?_
      exact rg_441_24 h2 o   hs1
    · rw [if_neg c4] at hs1
      refine aw_ifeq_f (pc1 := 14) at_441_11 c4 rfl ?_
      refine aw_iload_n (pc1 := 15) at_441_14 l2 rfl ?_
      refine aw_vload_n (pc1 := 16) at_441_15 l0 i0 rfl ?_
      obtain ⟨v5, e6, hs2⟩ := am_bind hs1
      clear hs1
      refine aw_pG (pc1 := 19) at_441_16 (am_vR_s e6).1 rfl ?_
      refine aw_iload_n (pc1 := 20) at_441_19 l1 rfl ?_
      obtain ⟨v7, e8, hs3⟩ := am_bind hs2
      clear hs2
      refine aw_pA (pc1 := 21) at_441_20 (Or.inl ⟨rfl, rfl⟩) e8 rfl ?_
      by_cases c9 : ¬ x2 = v7
      · rw [if_pos c9] at hs3
        refine aw_icne_t at_441_21 c9 ?_
        refine aw_vload_n (pc1 := 27) at_441_26 l0 i0 rfl ?_
        obtain ⟨z10, hs4⟩ := am_ift hs3
        clear hs3
        refine aw_call (F := fm_442 N x0 h2) (t := true) (na := 1) (kd := 1) (as := [x0]) at_441_27 (am_k3v kb_442) mn_442 mk_442 rfl rfl (am_ok_v mi_442 (am_hl rfl (am_ccR i0 am_cats_0) rfl) z10) (am_hc am_cats_0 rfl) (fun _ => ⟨rfl, hh_441⟩) (fun o1 hz9 => rm_442 x0 h2 o1 i0 hz9) ?_
        rcases am_cV_s hs4 with ⟨h12, f13, hs5⟩ | hs5
        · clear hs4
          refine Or.inl ⟨_, _, f13, ?_⟩
          show am_W X _ 441 30 _ [] h12 _
          refine aw_vload_n (pc1 := 31) at_441_30 l0 i0 rfl ?_
          obtain ⟨v14, e15, hs6⟩ := am_bind hs5
          clear hs5
          refine aw_pG (pc1 := 34) at_441_31 (am_vR_s e15).1 rfl ?_
          refine aw_iload_n (pc1 := 35) at_441_34 l1 rfl ?_
          refine aw_iload_n (pc1 := 36) at_441_35 l2 rfl ?_
          obtain ⟨h16, e17, hs7⟩ := am_bind hs6
          clear hs6
          refine aw_pS (pc1 := 37) at_441_36 (Or.inl ⟨rfl, rfl⟩) e17 rfl ?_
          refine aw_vload_n (pc1 := 38) at_441_37 l0 i0 rfl ?_
          obtain ⟨z18, hs8⟩ := am_ift hs7
          clear hs7
          refine aw_call (F := fm_444 N x0 h16) (t := true) (na := 1) (kd := 1) (as := [x0]) at_441_38 (am_k3v kb_444) mn_444 mk_444 rfl rfl (am_ok_v mi_444 (am_hl rfl (am_ccR i0 am_cats_0) rfl) z18) (am_hc am_cats_0 rfl) (fun _ => ⟨rfl, hh_441⟩) (fun o1 hz9 => rm_444 x0 h16 o1 i0 hz9) ?_
          rcases am_cI_s hs8 with ⟨v19, h20, f21, hs9⟩ | hs9
          · clear hs8
            refine Or.inl ⟨_, _, f21, ?_⟩
            show am_W X _ 441 41 _ [(.int v19)] h20 _
            obtain ⟨z22, hs10⟩ := am_ift hs9
            clear hs9
            cases hs10
            exact aw_iret at_441_41 (by rw [rt_441]; exact z22) rfl
          · clear hs8
            exact Or.inr hs9
        · clear hs4
          exact Or.inr hs5
      · rw [if_neg c9] at hs3
        refine aw_icne_f (pc1 := 24) at_441_21 c9 rfl ?_
        exact rg_441_24 h2 o   hs3
  · clear hs
    exact Or.inr hs1
def fm_441 (N : Nat) (y0 : Value) (y1 : Int32) (y2 : Int32) (h : am_H) : Option am_O := fg_441_0 N y0 y1 y2 h
theorem rm_441 {X : am_X} {d : Nat} {N : Nat} (y0 : Value) (y1 : Int32) (y2 : Int32) (h : am_H) (o : am_O) (i0 : am_isR y0 = true) (hs : fm_441 N y0 y1 y2 h = some o) : am_W X (d + 4) 441 0 (am_args 0 [y0, .int y1, .int y2]) [] h (fun q => q = o) := by
  rw [am_args_R i0, am_args_I, am_args_I]
  exact rg_441_0 y0 y1 y2 h o rfl rfl rfl i0 hs
def fg_440_96 (N : Nat) (h : am_H) : Option am_O := some (.inl (none, h))
theorem rg_440_96 {X : am_X} {d : Nat} {N : Nat} {lv : am_LV} (h : am_H) (o : am_O) (hs : fg_440_96 N h = some o) : am_W X (d + 5) 440 96 lv [] h (fun q => q = o) := by
  unfold fg_440_96 at hs
  cases hs
  exact aw_vret at_440_96 rt_440 rfl
def fg_440_90 (N : Nat) (rec_2 : Value → Int32 → am_H → Option am_O) (x0 : Value) (x1 : Int32) (h : am_H) : Option am_O := (rec_2 x0 ((x1 + 1)) h)
theorem rg_440_90 {X : am_X} {d : Nat} {N : Nat} {rec_2 : Value → Int32 → am_H → Option am_O} (q_2 : ∀ (x0 : Value) (x1 : Int32) (h : am_H) (o : am_O), rec_2 x0 x1 h = some o → ∀ lv : am_LV, (lv.lookup 0 = some x0) → (lv.lookup 1 = some (.int x1)) → (am_isR x0 = true) → am_W X (d + 5) 440 2 lv [] h (fun q => q = o)) {lv : am_LV} (x0 : Value) (x1 : Int32) (h : am_H) (o : am_O) (l0 : lv.lookup 0 = some x0) (l1 : lv.lookup 1 = some (.int x1)) (i0 : am_isR x0 = true) (hs : fg_440_90 N rec_2 x0 x1 h = some o) : am_W X (d + 5) 440 90 lv [] h (fun q => q = o) := by
  unfold fg_440_90 at hs
  refine aw_iinc (v := (x1 + 1)) (c := 1) (lv1 := am_put1 _ 1 _) (pc1 := 93) at_440_90 l1 (by decide) rfl rfl rfl ?_
  refine aw_goto at_440_93 ?_
  exact q_2 x0 ((x1 + 1)) h o hs _ (am_lk1 l0 rfl (by rw [am_isRc i0]; rfl)) am_lk0 i0
def fg_440_2 (N : Nat) : Nat → Value → Int32 → am_H → Option am_O
  | 0 => fun _ _ _ => none
  | K + 1 => fun x0 x1 h => ((am_vI (am_pG 3090 x0 h)).bind fun v1 => (if v1 ≤ x1 then (fg_440_96 N h) else ((am_vI (am_pG 3167 x0 h)).bind fun v4 => (if ¬ v4 = 0 then (fg_440_96 N h) else ((am_vR (am_pG 3094 x0 h)).bind fun v7 => ((am_pA 0 v7 x1 h).bind fun v9 => ((am_vR (am_pG 3093 x0 h)).bind fun v11 => ((am_pA 0 v11 x1 h).bind fun v13 => (if ¬ v13 = 0 then (fg_440_90 N (fg_440_2 N K) x0 x1 h) else (if am_pOk 12 x0 h then am_cI true (fm_441 N x0 x1 ((v9 + 1)) h) (fun v17 h18 => (if ¬ v17 = 0 then (fg_440_90 N (fg_440_2 N K) x0 x1 h18) else (if am_pOk 12 x0 h18 then am_cI true (fm_441 N x0 x1 ((v9 - 1)) h18) (fun v22 h23 => (if ¬ v22 = 0 then (fg_440_90 N (fg_440_2 N K) x0 x1 h23) else (if am_pOk 12 x0 h23 then am_cI true (fm_441 N x0 x1 ((v9 + 10)) h23) (fun v27 h28 => (if ¬ v27 = 0 then (fg_440_90 N (fg_440_2 N K) x0 x1 h28) else (if am_pOk 12 x0 h28 then am_cI true (fm_441 N x0 x1 ((v9 - 10)) h28) (fun v32 h33 => (if ¬ v32 = 0 then (fg_440_90 N (fg_440_2 N K) x0 x1 h33) else (if am_pOk 12 x0 h33 then am_cI true (fm_441 N x0 x1 ((-v9)) h33) (fun v37 h38 => ((am_pP 3167 x0 (.int v37) h38).bind fun h40 => (fg_440_90 N (fg_440_2 N K) x0 x1 h40))) else none))) else none))) else none))) else none))) else none))))))))))
theorem rg_440_2 {X : am_X} {d : Nat} {N : Nat} : ∀ (K : Nat) (x0 : Value) (x1 : Int32) (h : am_H) (o : am_O), fg_440_2 N K x0 x1 h = some o → ∀ lv : am_LV, (lv.lookup 0 = some x0) → (lv.lookup 1 = some (.int x1)) → (am_isR x0 = true) → am_W X (d + 5) 440 2 lv [] h (fun q => q = o) := by
  intro K
  induction K with
  | zero => intro x0 x1 h o hs; cases hs
  | succ K ih =>
    intro x0 x1 h o hs lv l0 l1 i0
    unfold fg_440_2 at hs
    refine aw_iload_n (pc1 := 3) at_440_2 l1 rfl ?_
    refine aw_vload_n (pc1 := 4) at_440_3 l0 i0 rfl ?_
    obtain ⟨v1, e2, hs1⟩ := am_bind hs
    clear hs
    refine aw_pG (pc1 := 7) at_440_4 (am_vI_s e2) rfl ?_
    by_cases c3 : v1 ≤ x1
    · rw [if_pos c3] at hs1
      refine aw_icge_t at_440_7 c3 ?_
      exact rg_440_96 h o   hs1
    · rw [if_neg c3] at hs1
      refine aw_icge_f (pc1 := 10) at_440_7 c3 rfl ?_
      refine aw_vload_n (pc1 := 11) at_440_10 l0 i0 rfl ?_
      obtain ⟨v4, e5, hs2⟩ := am_bind hs1
      clear hs1
      refine aw_pG (pc1 := 14) at_440_11 (am_vI_s e5) rfl ?_
      by_cases c6 : ¬ v4 = 0
      · rw [if_pos c6] at hs2
        refine aw_ifne_t at_440_14 c6 ?_
        exact rg_440_96 h o   hs2
      · rw [if_neg c6] at hs2
        refine aw_ifne_f (pc1 := 17) at_440_14 c6 rfl ?_
        refine aw_vload_n (pc1 := 18) at_440_17 l0 i0 rfl ?_
        obtain ⟨v7, e8, hs3⟩ := am_bind hs2
        clear hs2
        refine aw_pG (pc1 := 21) at_440_18 (am_vR_s e8).1 rfl ?_
        refine aw_iload_n (pc1 := 22) at_440_21 l1 rfl ?_
        obtain ⟨v9, e10, hs4⟩ := am_bind hs3
        clear hs3
        refine aw_pA (pc1 := 23) at_440_22 (Or.inl ⟨rfl, rfl⟩) e10 rfl ?_
        refine aw_istore_n (lv1 := am_put1 _ 2 _) (pc1 := 24) at_440_23 rfl rfl ?_
        refine aw_vload_n (pc1 := 25) at_440_24 (am_lk1 l0 rfl rfl) i0 rfl ?_
        obtain ⟨v11, e12, hs5⟩ := am_bind hs4
        clear hs4
        refine aw_pG (pc1 := 28) at_440_25 (am_vR_s e12).1 rfl ?_
        refine aw_iload_n (pc1 := 29) at_440_28 (am_lk1 l1 rfl rfl) rfl ?_
        obtain ⟨v13, e14, hs6⟩ := am_bind hs5
        clear hs5
        refine aw_pA (pc1 := 30) at_440_29 (Or.inl ⟨rfl, rfl⟩) e14 rfl ?_
        by_cases c15 : ¬ v13 = 0
        · rw [if_pos c15] at hs6
          refine aw_ifne_t at_440_30 c15 ?_
          exact rg_440_90 (fun z0 z1 h o hs6 => ih z0 z1 h o hs6) x0 x1 h o (am_lk1 l0 rfl rfl) (am_lk1 l1 rfl rfl) i0 hs6
        · rw [if_neg c15] at hs6
          refine aw_ifne_f (pc1 := 33) at_440_30 c15 rfl ?_
          refine aw_vload_n (pc1 := 34) at_440_33 (am_lk1 l0 rfl rfl) i0 rfl ?_
          refine aw_iload_n (pc1 := 35) at_440_34 (am_lk1 l1 rfl rfl) rfl ?_
          refine aw_iload_n (pc1 := 36) at_440_35 am_lk0 rfl ?_
          refine aw_iconst (v := 1) (pc1 := 37) at_440_36 (by decide) rfl ?_
          refine aw_iadd (v := (v9 + 1)) (pc1 := 38) at_440_37 rfl rfl ?_
          obtain ⟨z16, hs7⟩ := am_ift hs6
          clear hs6
          refine aw_call (F := fm_441 N x0 x1 ((v9 + 1)) h) (t := true) (na := 3) (kd := 1) (as := [x0, (.int x1), (.int (v9 + 1))]) at_440_38 (am_k3v kb_441) mn_441 mk_441 rfl rfl (am_ok_v mi_441 (am_hl rfl (am_ccR i0 (am_ccI (am_ccI am_cats_0))) rfl) z16) (am_hc am_cats_0 rfl) (fun _ => ⟨rfl, hh_440⟩) (fun o1 hz9 => rm_441 x0 x1 ((v9 + 1)) h o1 i0 hz9) ?_
          rcases am_cI_s hs7 with ⟨v17, h18, f19, hs8⟩ | hs8
          · clear hs7
            refine Or.inl ⟨_, _, f19, ?_⟩
            show am_W X _ 440 41 _ [(.int v17)] h18 _
            by_cases c20 : ¬ v17 = 0
            · rw [if_pos c20] at hs8
              refine aw_ifne_t at_440_41 c20 ?_
              exact rg_440_90 (fun z0 z1 h o hs8 => ih z0 z1 h o hs8) x0 x1 h18 o (am_lk1 l0 rfl rfl) (am_lk1 l1 rfl rfl) i0 hs8
            · rw [if_neg c20] at hs8
              refine aw_ifne_f (pc1 := 44) at_440_41 c20 rfl ?_
              refine aw_vload_n (pc1 := 45) at_440_44 (am_lk1 l0 rfl rfl) i0 rfl ?_
              refine aw_iload_n (pc1 := 46) at_440_45 (am_lk1 l1 rfl rfl) rfl ?_
              refine aw_iload_n (pc1 := 47) at_440_46 am_lk0 rfl ?_
              refine aw_iconst (v := 1) (pc1 := 48) at_440_47 (by decide) rfl ?_
              refine aw_isub (v := (v9 - 1)) (pc1 := 49) at_440_48 rfl rfl ?_
              obtain ⟨z21, hs9⟩ := am_ift hs8
              clear hs8
              refine aw_call (F := fm_441 N x0 x1 ((v9 - 1)) h18) (t := true) (na := 3) (kd := 1) (as := [x0, (.int x1), (.int (v9 - 1))]) at_440_49 (am_k3v kb_441) mn_441 mk_441 rfl rfl (am_ok_v mi_441 (am_hl rfl (am_ccR i0 (am_ccI (am_ccI am_cats_0))) rfl) z21) (am_hc am_cats_0 rfl) (fun _ => ⟨rfl, hh_440⟩) (fun o1 hz9 => rm_441 x0 x1 ((v9 - 1)) h18 o1 i0 hz9) ?_
              rcases am_cI_s hs9 with ⟨v22, h23, f24, hs10⟩ | hs10
              · clear hs9
                refine Or.inl ⟨_, _, f24, ?_⟩
                show am_W X _ 440 52 _ [(.int v22)] h23 _
                by_cases c25 : ¬ v22 = 0
                · rw [if_pos c25] at hs10
                  refine aw_ifne_t at_440_52 c25 ?_
                  exact rg_440_90 (fun z0 z1 h o hs10 => ih z0 z1 h o hs10) x0 x1 h23 o (am_lk1 l0 rfl rfl) (am_lk1 l1 rfl rfl) i0 hs10
                · rw [if_neg c25] at hs10
                  refine aw_ifne_f (pc1 := 55) at_440_52 c25 rfl ?_
                  refine aw_vload_n (pc1 := 56) at_440_55 (am_lk1 l0 rfl rfl) i0 rfl ?_
                  refine aw_iload_n (pc1 := 57) at_440_56 (am_lk1 l1 rfl rfl) rfl ?_
                  refine aw_iload_n (pc1 := 58) at_440_57 am_lk0 rfl ?_
                  refine aw_bipush (v := 10) (pc1 := 60) at_440_58 (by decide) rfl ?_
                  refine aw_iadd (v := (v9 + 10)) (pc1 := 61) at_440_60 rfl rfl ?_
                  obtain ⟨z26, hs11⟩ := am_ift hs10
                  clear hs10
                  refine aw_call (F := fm_441 N x0 x1 ((v9 + 10)) h23) (t := true) (na := 3) (kd := 1) (as := [x0, (.int x1), (.int (v9 + 10))]) at_440_61 (am_k3v kb_441) mn_441 mk_441 rfl rfl (am_ok_v mi_441 (am_hl rfl (am_ccR i0 (am_ccI (am_ccI am_cats_0))) rfl) z26) (am_hc am_cats_0 rfl) (fun _ => ⟨rfl, hh_440⟩) (fun o1 hz9 => rm_441 x0 x1 ((v9 + 10)) h23 o1 i0 hz9) ?_
                  rcases am_cI_s hs11 with ⟨v27, h28, f29, hs12⟩ | hs12
                  · clear hs11
                    refine Or.inl ⟨_, _, f29, ?_⟩
                    show am_W X _ 440 64 _ [(.int v27)] h28 _
                    by_cases c30 : ¬ v27 = 0
                    · rw [if_pos c30] at hs12
                      refine aw_ifne_t at_440_64 c30 ?_
                      exact rg_440_90 (fun z0 z1 h o hs12 => ih z0 z1 h o hs12) x0 x1 h28 o (am_lk1 l0 rfl rfl) (am_lk1 l1 rfl rfl) i0 hs12
                    · rw [if_neg c30] at hs12
                      refine aw_ifne_f (pc1 := 67) at_440_64 c30 rfl ?_
                      refine aw_vload_n (pc1 := 68) at_440_67 (am_lk1 l0 rfl rfl) i0 rfl ?_
                      refine aw_iload_n (pc1 := 69) at_440_68 (am_lk1 l1 rfl rfl) rfl ?_
                      refine aw_iload_n (pc1 := 70) at_440_69 am_lk0 rfl ?_
                      refine aw_bipush (v := 10) (pc1 := 72) at_440_70 (by decide) rfl ?_
                      refine aw_isub (v := (v9 - 10)) (pc1 := 73) at_440_72 rfl rfl ?_
                      obtain ⟨z31, hs13⟩ := am_ift hs12
                      clear hs12
                      refine aw_call (F := fm_441 N x0 x1 ((v9 - 10)) h28) (t := true) (na := 3) (kd := 1) (as := [x0, (.int x1), (.int (v9 - 10))]) at_440_73 (am_k3v kb_441) mn_441 mk_441 rfl rfl (am_ok_v mi_441 (am_hl rfl (am_ccR i0 (am_ccI (am_ccI am_cats_0))) rfl) z31) (am_hc am_cats_0 rfl) (fun _ => ⟨rfl, hh_440⟩) (fun o1 hz9 => rm_441 x0 x1 ((v9 - 10)) h28 o1 i0 hz9) ?_
                      rcases am_cI_s hs13 with ⟨v32, h33, f34, hs14⟩ | hs14
                      · clear hs13
                        refine Or.inl ⟨_, _, f34, ?_⟩
                        show am_W X _ 440 76 _ [(.int v32)] h33 _
                        by_cases c35 : ¬ v32 = 0
                        · rw [if_pos c35] at hs14
                          refine aw_ifne_t at_440_76 c35 ?_
                          exact rg_440_90 (fun z0 z1 h o hs14 => ih z0 z1 h o hs14) x0 x1 h33 o (am_lk1 l0 rfl rfl) (am_lk1 l1 rfl rfl) i0 hs14
                        · rw [if_neg c35] at hs14
                          refine aw_ifne_f (pc1 := 79) at_440_76 c35 rfl ?_
                          refine aw_vload_n (pc1 := 80) at_440_79 (am_lk1 l0 rfl rfl) i0 rfl ?_
                          refine aw_vload_n (pc1 := 81) at_440_80 (am_lk1 l0 rfl rfl) i0 rfl ?_
                          refine aw_iload_n (pc1 := 82) at_440_81 (am_lk1 l1 rfl rfl) rfl ?_
                          refine aw_iload_n (pc1 := 83) at_440_82 am_lk0 rfl ?_
                          refine aw_ineg (v := (-v9)) (pc1 := 84) at_440_83 rfl rfl ?_
                          obtain ⟨z36, hs15⟩ := am_ift hs14
                          clear hs14
                          refine aw_call (F := fm_441 N x0 x1 ((-v9)) h33) (t := true) (na := 3) (kd := 1) (as := [x0, (.int x1), (.int (-v9))]) at_440_84 (am_k3v kb_441) mn_441 mk_441 rfl rfl (am_ok_v mi_441 (am_hl rfl (am_ccR i0 (am_ccI (am_ccI am_cats_0))) rfl) z36) (am_hc (am_ccR i0 am_cats_0) rfl) (fun _ => ⟨rfl, hh_440⟩) (fun o1 hz9 => rm_441 x0 x1 ((-v9)) h33 o1 i0 hz9) ?_
                          rcases am_cI_s hs15 with ⟨v37, h38, f39, hs16⟩ | hs16
                          · clear hs15
                            refine Or.inl ⟨_, _, f39, ?_⟩
                            show am_W X _ 440 87 _ [(.int v37), x0] h38 _
                            obtain ⟨h40, e41, hs17⟩ := am_bind hs16
                            clear hs16
                            refine aw_pP (pc1 := 90) at_440_87 e41 rfl ?_
                            exact rg_440_90 (fun z0 z1 h o hs17 => ih z0 z1 h o hs17) x0 x1 h40 o (am_lk1 l0 rfl rfl) (am_lk1 l1 rfl rfl) i0 hs17
                          · clear hs15
                            exact Or.inr hs16
                      · clear hs13
                        exact Or.inr hs14
                  · clear hs11
                    exact Or.inr hs12
              · clear hs9
                exact Or.inr hs10
          · clear hs7
            exact Or.inr hs8
def fg_440_0 (N : Nat) (x0 : Value) (h : am_H) : Option am_O := (fg_440_2 N N x0 0 h)
theorem rg_440_0 {X : am_X} {d : Nat} {N : Nat} {lv : am_LV} (x0 : Value) (h : am_H) (o : am_O) (l0 : lv.lookup 0 = some x0) (i0 : am_isR x0 = true) (hs : fg_440_0 N x0 h = some o) : am_W X (d + 5) 440 0 lv [] h (fun q => q = o) := by
  unfold fg_440_0 at hs
  refine aw_iconst (v := 0) (pc1 := 1) at_440_0 (by decide) rfl ?_
  refine aw_istore_n (lv1 := am_put1 _ 1 _) (pc1 := 2) at_440_1 rfl rfl ?_
  exact rg_440_2 N x0 0 h o hs _ (am_lk1 l0 rfl (by rw [am_isRc i0]; rfl)) am_lk0 i0
def fm_440 (N : Nat) (y0 : Value) (h : am_H) : Option am_O := fg_440_0 N y0 h
theorem rm_440 {X : am_X} {d : Nat} {N : Nat} (y0 : Value) (h : am_H) (o : am_O) (i0 : am_isR y0 = true) (hs : fm_440 N y0 h = some o) : am_W X (d + 5) 440 0 (am_args 0 [y0]) [] h (fun q => q = o) := by
  rw [am_args_R i0]
  exact rg_440_0 y0 h o rfl i0 hs
def fg_448_60 (N : Nat) (rec_30 : Int32 → Int32 → Int32 → Int32 → am_H → Option am_O) (x0 : Int32) (x1 : Int32) (x3 : Int32) (s0 : Int32) (h : am_H) : Option am_O := (rec_30 x0 x1 s0 ((x3 + 1)) h)
theorem rg_448_60 {X : am_X} {d : Nat} {N : Nat} {rec_30 : Int32 → Int32 → Int32 → Int32 → am_H → Option am_O} (q_30 : ∀ (x0 : Int32) (x1 : Int32) (x2 : Int32) (x3 : Int32) (h : am_H) (o : am_O), rec_30 x0 x1 x2 x3 h = some o → ∀ lv : am_LV, (lv.lookup 0 = some (.int x0)) → (lv.lookup 1 = some (.int x1)) → (lv.lookup 2 = some (.int x2)) → (lv.lookup 3 = some (.int x3)) → am_W X (d + 1) 448 30 lv [] h (fun q => q = o)) {lv : am_LV} (x0 : Int32) (x1 : Int32) (x3 : Int32) (s0 : Int32) (h : am_H) (o : am_O) (l0 : lv.lookup 0 = some (.int x0)) (l1 : lv.lookup 1 = some (.int x1)) (l3 : lv.lookup 3 = some (.int x3)) (hs : fg_448_60 N rec_30 x0 x1 x3 s0 h = some o) : am_W X (d + 1) 448 60 lv [(.int s0)] h (fun q => q = o) := by
  unfold fg_448_60 at hs
  refine aw_istore_n (lv1 := am_put1 _ 2 _) (pc1 := 61) at_448_60 rfl rfl ?_
  refine aw_iinc (v := (x3 + 1)) (c := 1) (lv1 := am_put1 _ 3 _) (pc1 := 64) at_448_61 (am_lk1 l3 rfl rfl) (by decide) rfl rfl rfl ?_
  refine aw_goto at_448_64 ?_
  exact q_30 x0 x1 s0 ((x3 + 1)) h o hs _ (am_lk1 (am_lk1 l0 rfl rfl) rfl rfl) (am_lk1 (am_lk1 l1 rfl rfl) rfl rfl) (am_lk1 am_lk0 rfl rfl) am_lk0 
def fg_448_59 (N : Nat) (rec_30 : Int32 → Int32 → Int32 → Int32 → am_H → Option am_O) (x0 : Int32) (x1 : Int32) (x3 : Int32) (h : am_H) : Option am_O := (fg_448_60 N rec_30 x0 x1 x3 0 h)
theorem rg_448_59 {X : am_X} {d : Nat} {N : Nat} {rec_30 : Int32 → Int32 → Int32 → Int32 → am_H → Option am_O} (q_30 : ∀ (x0 : Int32) (x1 : Int32) (x2 : Int32) (x3 : Int32) (h : am_H) (o : am_O), rec_30 x0 x1 x2 x3 h = some o → ∀ lv : am_LV, (lv.lookup 0 = some (.int x0)) → (lv.lookup 1 = some (.int x1)) → (lv.lookup 2 = some (.int x2)) → (lv.lookup 3 = some (.int x3)) → am_W X (d + 1) 448 30 lv [] h (fun q => q = o)) {lv : am_LV} (x0 : Int32) (x1 : Int32) (x3 : Int32) (h : am_H) (o : am_O) (l0 : lv.lookup 0 = some (.int x0)) (l1 : lv.lookup 1 = some (.int x1)) (l3 : lv.lookup 3 = some (.int x3)) (hs : fg_448_59 N rec_30 x0 x1 x3 h = some o) : am_W X (d + 1) 448 59 lv [] h (fun q => q = o) := by
  unfold fg_448_59 at hs
  refine aw_iconst (v := 0) (pc1 := 60) at_448_59 (by decide) rfl ?_
  exact rg_448_60 q_30 x0 x1 x3 0 h o l0 l1 l3  hs
def fg_448_30 (N : Nat) : Nat → Int32 → Int32 → Int32 → Int32 → am_H → Option am_O
  | 0 => fun _ _ _ _ _ => none
  | K + 1 => fun x0 x1 x2 x3 h => am_cI false (fm_343 x0 h) (fun v1 h2 => (if v1 ≤ x3 then (if am_rfit (some FieldType.boolean) x2 then some (.inl (some (.int x2), h2)) else none) else (if x2 = 0 then (fg_448_59 N (fg_448_30 N K) x0 x1 x3 h2) else am_cI false (fm_330 x0 x3 h2) (fun v7 h8 => am_cI false (fm_330 x1 x3 h8) (fun v10 h11 => (if ¬ v7 = v10 then (fg_448_59 N (fg_448_30 N K) x0 x1 x3 h11) else (fg_448_60 N (fg_448_30 N K) x0 x1 x3 1 h11)))))))
theorem rg_448_30 {X : am_X} {d : Nat} {N : Nat} : ∀ (K : Nat) (x0 : Int32) (x1 : Int32) (x2 : Int32) (x3 : Int32) (h : am_H) (o : am_O), fg_448_30 N K x0 x1 x2 x3 h = some o → ∀ lv : am_LV, (lv.lookup 0 = some (.int x0)) → (lv.lookup 1 = some (.int x1)) → (lv.lookup 2 = some (.int x2)) → (lv.lookup 3 = some (.int x3)) → am_W X (d + 1) 448 30 lv [] h (fun q => q = o) := by
  intro K
  induction K with
  | zero => intro x0 x1 x2 x3 h o hs; cases hs
  | succ K ih =>
    intro x0 x1 x2 x3 h o hs lv l0 l1 l2 l3
    unfold fg_448_30 at hs
    refine aw_iload_n (pc1 := 31) at_448_30 l3 rfl ?_
    refine aw_iload_n (pc1 := 32) at_448_31 l0 rfl ?_
    refine aw_call (F := fm_343 x0 h) (t := false) (na := 1) (kd := 0) (as := [(.int x0)]) at_448_32 (am_k3s kb_343) mn_343 mk_343 rfl rfl (am_ok_s mi_343 (am_hl rfl (am_ccI am_cats_0) rfl)) (am_hc (am_ccI am_cats_0) rfl) (fun hz9 => by cases hz9) (fun o1 hz9 => rm_343 x0 h o1  hz9) ?_
    rcases am_cI_s hs with ⟨v1, h2, f3, hs1⟩ | hs1
    · clear hs
      refine Or.inl ⟨_, _, f3, ?_⟩
      show am_W X _ 448 35 _ [(.int v1), (.int x3)] h2 _
      by_cases c4 : v1 ≤ x3
      · rw [if_pos c4] at hs1
        refine aw_icge_t at_448_35 c4 ?_
        refine aw_iload_n (pc1 := 68) at_448_67 l2 rfl ?_
        obtain ⟨z5, hs2⟩ := am_ift hs1
        clear hs1
        cases hs2
        exact aw_iret at_448_68 (by rw [rt_448]; exact z5) rfl
      · rw [if_neg c4] at hs1
        refine aw_icge_f (pc1 := 38) at_448_35 c4 rfl ?_
        refine aw_iload_n (pc1 := 39) at_448_38 l2 rfl ?_
        by_cases c6 : x2 = 0
        · rw [if_pos c6] at hs1
          refine aw_ifeq_t at_448_39 c6 ?_
          exact rg_448_59 (fun z0 z1 z2 z3 h o hs1 => ih z0 z1 z2 z3 h o hs1) x0 x1 x3 h2 o l0 l1 l3  hs1
        · rw [if_neg c6] at hs1
          refine aw_ifeq_f (pc1 := 42) at_448_39 c6 rfl ?_
          refine aw_iload_n (pc1 := 43) at_448_42 l0 rfl ?_
          refine aw_iload_n (pc1 := 44) at_448_43 l3 rfl ?_
          refine aw_call (F := fm_330 x0 x3 h2) (t := false) (na := 2) (kd := 0) (as := [(.int x0), (.int x3)]) at_448_44 (am_k3s kb_330) mn_330 mk_330 rfl rfl (am_ok_s mi_330 (am_hl rfl (am_ccI (am_ccI am_cats_0)) rfl)) (am_hc am_cats_0 rfl) (fun hz9 => by cases hz9) (fun o1 hz9 => rm_330 x0 x3 h2 o1  hz9) ?_
          rcases am_cI_s hs1 with ⟨v7, h8, f9, hs3⟩ | hs3
          · clear hs1
            refine Or.inl ⟨_, _, f9, ?_⟩
            show am_W X _ 448 47 _ [(.int v7)] h8 _
            refine aw_iload_n (pc1 := 48) at_448_47 l1 rfl ?_
            refine aw_iload_n (pc1 := 49) at_448_48 l3 rfl ?_
            refine aw_call (F := fm_330 x1 x3 h8) (t := false) (na := 2) (kd := 0) (as := [(.int x1), (.int x3)]) at_448_49 (am_k3s kb_330) mn_330 mk_330 rfl rfl (am_ok_s mi_330 (am_hl rfl (am_ccI (am_ccI am_cats_0)) rfl)) (am_hc (am_ccI am_cats_0) rfl) (fun hz9 => by cases hz9) (fun o1 hz9 => rm_330 x1 x3 h8 o1  hz9) ?_
            rcases am_cI_s hs3 with ⟨v10, h11, f12, hs4⟩ | hs4
            · clear hs3
              refine Or.inl ⟨_, _, f12, ?_⟩
              show am_W X _ 448 52 _ [(.int v10), (.int v7)] h11 _
              by_cases c13 : ¬ v7 = v10
              · rw [if_pos c13] at hs4
                refine aw_icne_t at_448_52 c13 ?_
                exact rg_448_59 (fun z0 z1 z2 z3 h o hs4 => ih z0 z1 z2 z3 h o hs4) x0 x1 x3 h11 o l0 l1 l3  hs4
              · rw [if_neg c13] at hs4
                refine aw_icne_f (pc1 := 55) at_448_52 c13 rfl ?_
                refine aw_iconst (v := 1) (pc1 := 56) at_448_55 (by decide) rfl ?_
                refine aw_goto at_448_56 ?_
                exact rg_448_60 (fun z0 z1 z2 z3 h o hs4 => ih z0 z1 z2 z3 h o hs4) x0 x1 x3 1 h11 o l0 l1 l3  hs4
            · clear hs3
              exact Or.inr hs4
          · clear hs1
            exact Or.inr hs3
    · clear hs
      exact Or.inr hs1
def fg_448_27 (N : Nat) (x0 : Int32) (x1 : Int32) (s0 : Int32) (h : am_H) : Option am_O := (fg_448_30 N N x0 x1 s0 0 h)
theorem rg_448_27 {X : am_X} {d : Nat} {N : Nat} {lv : am_LV} (x0 : Int32) (x1 : Int32) (s0 : Int32) (h : am_H) (o : am_O) (l0 : lv.lookup 0 = some (.int x0)) (l1 : lv.lookup 1 = some (.int x1)) (hs : fg_448_27 N x0 x1 s0 h = some o) : am_W X (d + 1) 448 27 lv [(.int s0)] h (fun q => q = o) := by
  unfold fg_448_27 at hs
  refine aw_istore_n (lv1 := am_put1 _ 2 _) (pc1 := 28) at_448_27 rfl rfl ?_
  refine aw_iconst (v := 0) (pc1 := 29) at_448_28 (by decide) rfl ?_
  refine aw_istore_n (lv1 := am_put1 _ 3 _) (pc1 := 30) at_448_29 rfl rfl ?_
  exact rg_448_30 N x0 x1 s0 0 h o hs _ (am_lk1 (am_lk1 l0 rfl rfl) rfl rfl) (am_lk1 (am_lk1 l1 rfl rfl) rfl rfl) (am_lk1 am_lk0 rfl rfl) am_lk0 
def fg_448_26 (N : Nat) (x0 : Int32) (x1 : Int32) (h : am_H) : Option am_O := (fg_448_27 N x0 x1 0 h)
theorem rg_448_26 {X : am_X} {d : Nat} {N : Nat} {lv : am_LV} (x0 : Int32) (x1 : Int32) (h : am_H) (o : am_O) (l0 : lv.lookup 0 = some (.int x0)) (l1 : lv.lookup 1 = some (.int x1)) (hs : fg_448_26 N x0 x1 h = some o) : am_W X (d + 1) 448 26 lv [] h (fun q => q = o) := by
  unfold fg_448_26 at hs
  refine aw_iconst (v := 0) (pc1 := 27) at_448_26 (by decide) rfl ?_
  exact rg_448_27 x0 x1 0 h o l0 l1  hs
def fg_448_0 (N : Nat) (x0 : Int32) (x1 : Int32) (h : am_H) : Option am_O := am_cI false (fm_343 x0 h) (fun v1 h2 => am_cI false (fm_343 x1 h2) (fun v4 h5 => (if ¬ v1 = v4 then (fg_448_26 N x0 x1 h5) else am_cI false (fm_334 x0 h5) (fun v8 h9 => am_cI false (fm_334 x1 h9) (fun v11 h12 => (if ¬ v8 = v11 then (fg_448_26 N x0 x1 h12) else (fg_448_27 N x0 x1 1 h12)))))))
theorem rg_448_0 {X : am_X} {d : Nat} {N : Nat} {lv : am_LV} (x0 : Int32) (x1 : Int32) (h : am_H) (o : am_O) (l0 : lv.lookup 0 = some (.int x0)) (l1 : lv.lookup 1 = some (.int x1)) (hs : fg_448_0 N x0 x1 h = some o) : am_W X (d + 1) 448 0 lv [] h (fun q => q = o) := by
  unfold fg_448_0 at hs
  refine aw_iload_n (pc1 := 1) at_448_0 l0 rfl ?_
  refine aw_call (F := fm_343 x0 h) (t := false) (na := 1) (kd := 0) (as := [(.int x0)]) at_448_1 (am_k3s kb_343) mn_343 mk_343 rfl rfl (am_ok_s mi_343 (am_hl rfl (am_ccI am_cats_0) rfl)) (am_hc am_cats_0 rfl) (fun hz9 => by cases hz9) (fun o1 hz9 => rm_343 x0 h o1  hz9) ?_
  rcases am_cI_s hs with ⟨v1, h2, f3, hs1⟩ | hs1
  · clear hs
    refine Or.inl ⟨_, _, f3, ?_⟩
    show am_W X _ 448 4 _ [(.int v1)] h2 _
    refine aw_iload_n (pc1 := 5) at_448_4 l1 rfl ?_
    refine aw_call (F := fm_343 x1 h2) (t := false) (na := 1) (kd := 0) (as := [(.int x1)]) at_448_5 (am_k3s kb_343) mn_343 mk_343 rfl rfl (am_ok_s mi_343 (am_hl rfl (am_ccI am_cats_0) rfl)) (am_hc (am_ccI am_cats_0) rfl) (fun hz9 => by cases hz9) (fun o1 hz9 => rm_343 x1 h2 o1  hz9) ?_
    rcases am_cI_s hs1 with ⟨v4, h5, f6, hs2⟩ | hs2
    · clear hs1
      refine Or.inl ⟨_, _, f6, ?_⟩
      show am_W X _ 448 8 _ [(.int v4), (.int v1)] h5 _
      by_cases c7 : ¬ v1 = v4
      · rw [if_pos c7] at hs2
        refine aw_icne_t at_448_8 c7 ?_
        exact rg_448_26 x0 x1 h5 o l0 l1  hs2
      · rw [if_neg c7] at hs2
        refine aw_icne_f (pc1 := 11) at_448_8 c7 rfl ?_
        refine aw_iload_n (pc1 := 12) at_448_11 l0 rfl ?_
        refine aw_call (F := fm_334 x0 h5) (t := false) (na := 1) (kd := 0) (as := [(.int x0)]) at_448_12 (am_k3s kb_334) mn_334 mk_334 rfl rfl (am_ok_s mi_334 (am_hl rfl (am_ccI am_cats_0) rfl)) (am_hc am_cats_0 rfl) (fun hz9 => by cases hz9) (fun o1 hz9 => rm_334 x0 h5 o1  hz9) ?_
        rcases am_cI_s hs2 with ⟨v8, h9, f10, hs3⟩ | hs3
        · clear hs2
          refine Or.inl ⟨_, _, f10, ?_⟩
          show am_W X _ 448 15 _ [(.int v8)] h9 _
          refine aw_iload_n (pc1 := 16) at_448_15 l1 rfl ?_
          refine aw_call (F := fm_334 x1 h9) (t := false) (na := 1) (kd := 0) (as := [(.int x1)]) at_448_16 (am_k3s kb_334) mn_334 mk_334 rfl rfl (am_ok_s mi_334 (am_hl rfl (am_ccI am_cats_0) rfl)) (am_hc (am_ccI am_cats_0) rfl) (fun hz9 => by cases hz9) (fun o1 hz9 => rm_334 x1 h9 o1  hz9) ?_
          rcases am_cI_s hs3 with ⟨v11, h12, f13, hs4⟩ | hs4
          · clear hs3
            refine Or.inl ⟨_, _, f13, ?_⟩
            show am_W X _ 448 19 _ [(.int v11), (.int v8)] h12 _
            by_cases c14 : ¬ v8 = v11
            · rw [if_pos c14] at hs4
              refine aw_icne_t at_448_19 c14 ?_
              exact rg_448_26 x0 x1 h12 o l0 l1  hs4
            · rw [if_neg c14] at hs4
              refine aw_icne_f (pc1 := 22) at_448_19 c14 rfl ?_
              refine aw_iconst (v := 1) (pc1 := 23) at_448_22 (by decide) rfl ?_
              refine aw_goto at_448_23 ?_
              exact rg_448_27 x0 x1 1 h12 o l0 l1  hs4
          · clear hs3
            exact Or.inr hs4
        · clear hs2
          exact Or.inr hs3
    · clear hs1
      exact Or.inr hs2
  · clear hs
    exact Or.inr hs1
def fm_448 (N : Nat) (y0 : Int32) (y1 : Int32) (h : am_H) : Option am_O := fg_448_0 N y0 y1 h
theorem rm_448 {X : am_X} {d : Nat} {N : Nat} (y0 : Int32) (y1 : Int32) (h : am_H) (o : am_O) (hs : fm_448 N y0 y1 h = some o) : am_W X (d + 1) 448 0 (am_args 0 [.int y0, .int y1]) [] h (fun q => q = o) := by
  rw [am_args_I, am_args_I]
  exact rg_448_0 y0 y1 h o rfl rfl  hs
def fg_447_104 (N : Nat) (h : am_H) : Option am_O := some (.inl (none, h))
theorem rg_447_104 {X : am_X} {d : Nat} {N : Nat} {lv : am_LV} (h : am_H) (o : am_O) (hs : fg_447_104 N h = some o) : am_W X (d + 4) 447 104 lv [] h (fun q => q = o) := by
  unfold fg_447_104 at hs
  cases hs
  exact aw_vret at_447_104 rt_447 rfl
def fg_447_98 (N : Nat) (rec_2 : Value → Int32 → am_H → Option am_O) (x0 : Value) (x1 : Int32) (h : am_H) : Option am_O := (rec_2 x0 ((x1 + 1)) h)
theorem rg_447_98 {X : am_X} {d : Nat} {N : Nat} {rec_2 : Value → Int32 → am_H → Option am_O} (q_2 : ∀ (x0 : Value) (x1 : Int32) (h : am_H) (o : am_O), rec_2 x0 x1 h = some o → ∀ lv : am_LV, (lv.lookup 0 = some x0) → (lv.lookup 1 = some (.int x1)) → (am_isR x0 = true) → am_W X (d + 4) 447 2 lv [] h (fun q => q = o)) {lv : am_LV} (x0 : Value) (x1 : Int32) (h : am_H) (o : am_O) (l0 : lv.lookup 0 = some x0) (l1 : lv.lookup 1 = some (.int x1)) (i0 : am_isR x0 = true) (hs : fg_447_98 N rec_2 x0 x1 h = some o) : am_W X (d + 4) 447 98 lv [] h (fun q => q = o) := by
  unfold fg_447_98 at hs
  refine aw_iinc (v := (x1 + 1)) (c := 1) (lv1 := am_put1 _ 1 _) (pc1 := 101) at_447_98 l1 (by decide) rfl rfl rfl ?_
  refine aw_goto at_447_101 ?_
  exact q_2 x0 ((x1 + 1)) h o hs _ (am_lk1 l0 rfl (by rw [am_isRc i0]; rfl)) am_lk0 i0
def fg_447_92 (N : Nat) (rec_2 : Value → Int32 → am_H → Option am_O) (rec_19 : Value → Int32 → Int32 → am_H → Option am_O) (x0 : Value) (x1 : Int32) (x2 : Int32) (h : am_H) : Option am_O := (rec_19 x0 x1 ((x2 + 1)) h)
theorem rg_447_92 {X : am_X} {d : Nat} {N : Nat} {rec_2 : Value → Int32 → am_H → Option am_O} {rec_19 : Value → Int32 → Int32 → am_H → Option am_O} (q_2 : ∀ (x0 : Value) (x1 : Int32) (h : am_H) (o : am_O), rec_2 x0 x1 h = some o → ∀ lv : am_LV, (lv.lookup 0 = some x0) → (lv.lookup 1 = some (.int x1)) → (am_isR x0 = true) → am_W X (d + 4) 447 2 lv [] h (fun q => q = o)) (q_19 : ∀ (x0 : Value) (x1 : Int32) (x2 : Int32) (h : am_H) (o : am_O), rec_19 x0 x1 x2 h = some o → ∀ lv : am_LV, (lv.lookup 0 = some x0) → (lv.lookup 1 = some (.int x1)) → (lv.lookup 2 = some (.int x2)) → (am_isR x0 = true) → am_W X (d + 4) 447 19 lv [] h (fun q => q = o)) {lv : am_LV} (x0 : Value) (x1 : Int32) (x2 : Int32) (h : am_H) (o : am_O) (l0 : lv.lookup 0 = some x0) (l1 : lv.lookup 1 = some (.int x1)) (l2 : lv.lookup 2 = some (.int x2)) (i0 : am_isR x0 = true) (hs : fg_447_92 N rec_2 rec_19 x0 x1 x2 h = some o) : am_W X (d + 4) 447 92 lv [] h (fun q => q = o) := by
  unfold fg_447_92 at hs
  refine aw_iinc (v := (x2 + 1)) (c := 1) (lv1 := am_put1 _ 2 _) (pc1 := 95) at_447_92 l2 (by decide) rfl rfl rfl ?_
  refine aw_goto at_447_95 ?_
  exact q_19 x0 x1 ((x2 + 1)) h o hs _ (am_lk1 l0 rfl rfl) (am_lk1 l1 rfl rfl) am_lk0 i0
def fg_447_83 (N : Nat) (rec_2 : Value → Int32 → am_H → Option am_O) (rec_19 : Value → Int32 → Int32 → am_H → Option am_O) (x0 : Value) (x1 : Int32) (x2 : Int32) (s0 : Value) (s1 : Int32) (s2 : Int32) (h : am_H) : Option am_O := ((am_pS 0 s0 s1 s2 h).bind fun h1 => (if am_pOk 12 x0 h1 then am_cI true (fm_444 N x0 h1) (fun v4 h5 => ((am_pP 3167 x0 (.int v4) h5).bind fun h7 => (fg_447_92 N rec_2 rec_19 x0 x1 x2 h7))) else none))
theorem rg_447_83 {X : am_X} {d : Nat} {N : Nat} {rec_2 : Value → Int32 → am_H → Option am_O} {rec_19 : Value → Int32 → Int32 → am_H → Option am_O} (q_2 : ∀ (x0 : Value) (x1 : Int32) (h : am_H) (o : am_O), rec_2 x0 x1 h = some o → ∀ lv : am_LV, (lv.lookup 0 = some x0) → (lv.lookup 1 = some (.int x1)) → (am_isR x0 = true) → am_W X (d + 4) 447 2 lv [] h (fun q => q = o)) (q_19 : ∀ (x0 : Value) (x1 : Int32) (x2 : Int32) (h : am_H) (o : am_O), rec_19 x0 x1 x2 h = some o → ∀ lv : am_LV, (lv.lookup 0 = some x0) → (lv.lookup 1 = some (.int x1)) → (lv.lookup 2 = some (.int x2)) → (am_isR x0 = true) → am_W X (d + 4) 447 19 lv [] h (fun q => q = o)) {lv : am_LV} (x0 : Value) (x1 : Int32) (x2 : Int32) (s0 : Value) (s1 : Int32) (s2 : Int32) (h : am_H) (o : am_O) (l0 : lv.lookup 0 = some x0) (l1 : lv.lookup 1 = some (.int x1)) (l2 : lv.lookup 2 = some (.int x2)) (i0 : am_isR x0 = true) (j0 : am_isR s0 = true) (hs : fg_447_83 N rec_2 rec_19 x0 x1 x2 s0 s1 s2 h = some o) : am_W X (d + 4) 447 83 lv [(.int s2), (.int s1), s0] h (fun q => q = o) := by
  unfold fg_447_83 at hs
  obtain ⟨h1, e2, hs1⟩ := am_bind hs
  clear hs
  refine aw_pS (pc1 := 84) at_447_83 (Or.inl ⟨rfl, rfl⟩) e2 rfl ?_
  refine aw_vload_n (pc1 := 85) at_447_84 l0 i0 rfl ?_
  refine aw_vload_n (pc1 := 86) at_447_85 l0 i0 rfl ?_
  obtain ⟨z3, hs2⟩ := am_ift hs1
  clear hs1
  refine aw_call (F := fm_444 N x0 h1) (t := true) (na := 1) (kd := 1) (as := [x0]) at_447_86 (am_k3v kb_444) mn_444 mk_444 rfl rfl (am_ok_v mi_444 (am_hl rfl (am_ccR i0 am_cats_0) rfl) z3) (am_hc (am_ccR i0 am_cats_0) rfl) (fun _ => ⟨rfl, hh_447⟩) (fun o1 hz9 => rm_444 x0 h1 o1 i0 hz9) ?_
  rcases am_cI_s hs2 with ⟨v4, h5, f6, hs3⟩ | hs3
  · clear hs2
    refine Or.inl ⟨_, _, f6, ?_⟩
    show am_W X _ 447 89 _ [(.int v4), x0] h5 _
    obtain ⟨h7, e8, hs4⟩ := am_bind hs3
    clear hs3
    refine aw_pP (pc1 := 92) at_447_89 e8 rfl ?_
    exact rg_447_92 q_2 q_19 x0 x1 x2 h7 o l0 l1 l2 i0 hs4
  · clear hs2
    exact Or.inr hs3
def fg_447_19 (N : Nat) (rec_2 : Value → Int32 → am_H → Option am_O) : Nat → Value → Int32 → Int32 → am_H → Option am_O
  | 0 => fun _ _ _ _ => none
  | K + 1 => fun x0 x1 x2 h => (if 21 ≤ x2 then (fg_447_98 N rec_2 x0 x1 h) else ((am_vI (am_pG 3167 x0 h)).bind fun v2 => (if ¬ v2 = 0 then (fg_447_98 N rec_2 x0 x1 h) else ((am_vR (am_pG 3093 x0 h)).bind fun v5 => ((am_pA 0 v5 x1 h).bind fun v7 => (if x2 = v7 then (fg_447_92 N rec_2 (fg_447_19 N rec_2 K) x0 x1 x2 h) else ((am_vR (am_pG 3093 x0 h)).bind fun v10 => ((am_pA 0 v10 x1 h).bind fun v12 => am_cI false (fm_448 N x2 v12 h) (fun v14 h15 => (if ¬ v14 = 0 then (if am_pOk 12 x0 h15 then am_cV true (fm_442 N x0 h15) (fun h20 => ((am_vR (am_pG 3088 x0 h20)).bind fun v22 => ((am_pS 0 v22 x1 x2 h20).bind fun h24 => ((am_vR (am_pG 3089 x0 h24)).bind fun v26 => (if ¬ x2 = 0 then (fg_447_83 N rec_2 (fg_447_19 N rec_2 K) x0 x1 x2 v26 x1 0 h24) else (fg_447_83 N rec_2 (fg_447_19 N rec_2 K) x0 x1 x2 v26 x1 1 h24)))))) else none) else (fg_447_92 N rec_2 (fg_447_19 N rec_2 K) x0 x1 x2 h15)))))))))))
theorem rg_447_19 {X : am_X} {d : Nat} {N : Nat} {rec_2 : Value → Int32 → am_H → Option am_O} (q_2 : ∀ (x0 : Value) (x1 : Int32) (h : am_H) (o : am_O), rec_2 x0 x1 h = some o → ∀ lv : am_LV, (lv.lookup 0 = some x0) → (lv.lookup 1 = some (.int x1)) → (am_isR x0 = true) → am_W X (d + 4) 447 2 lv [] h (fun q => q = o)) : ∀ (K : Nat) (x0 : Value) (x1 : Int32) (x2 : Int32) (h : am_H) (o : am_O), fg_447_19 N rec_2 K x0 x1 x2 h = some o → ∀ lv : am_LV, (lv.lookup 0 = some x0) → (lv.lookup 1 = some (.int x1)) → (lv.lookup 2 = some (.int x2)) → (am_isR x0 = true) → am_W X (d + 4) 447 19 lv [] h (fun q => q = o) := by
  intro K
  induction K with
  | zero => intro x0 x1 x2 h o hs; cases hs
  | succ K ih =>
    intro x0 x1 x2 h o hs lv l0 l1 l2 i0
    unfold fg_447_19 at hs
    refine aw_iload_n (pc1 := 20) at_447_19 l2 rfl ?_
    refine aw_bipush (v := 21) (pc1 := 22) at_447_20 (by decide) rfl ?_
    by_cases c1 : 21 ≤ x2
    · rw [if_pos c1] at hs
      refine aw_icge_t at_447_22 c1 ?_
      exact rg_447_98 q_2 x0 x1 h o l0 l1 i0 hs
    · rw [if_neg c1] at hs
      refine aw_icge_f (pc1 := 25) at_447_22 c1 rfl ?_
      refine aw_vload_n (pc1 := 26) at_447_25 l0 i0 rfl ?_
      obtain ⟨v2, e3, hs1⟩ := am_bind hs
      clear hs
      refine aw_pG (pc1 := 29) at_447_26 (am_vI_s e3) rfl ?_
      by_cases c4 : ¬ v2 = 0
      · rw [if_pos c4] at hs1
        refine aw_ifne_t at_447_29 c4 ?_
        exact rg_447_98 q_2 x0 x1 h o l0 l1 i0 hs1
      · rw [if_neg c4] at hs1
        refine aw_ifne_f (pc1 := 32) at_447_29 c4 rfl ?_
        refine aw_iload_n (pc1 := 33) at_447_32 l2 rfl ?_
        refine aw_vload_n (pc1 := 34) at_447_33 l0 i0 rfl ?_
        obtain ⟨v5, e6, hs2⟩ := am_bind hs1
        clear hs1
        refine aw_pG (pc1 := 37) at_447_34 (am_vR_s e6).1 rfl ?_
        refine aw_iload_n (pc1 := 38) at_447_37 l1 rfl ?_
        obtain ⟨v7, e8, hs3⟩ := am_bind hs2
        clear hs2
        refine aw_pA (pc1 := 39) at_447_38 (Or.inl ⟨rfl, rfl⟩) e8 rfl ?_
        by_cases c9 : x2 = v7
        · rw [if_pos c9] at hs3
          refine aw_iceq_t at_447_39 c9 ?_
          exact rg_447_92 q_2 (fun z0 z1 z2 h o hs3 => ih z0 z1 z2 h o hs3) x0 x1 x2 h o l0 l1 l2 i0 hs3
        · rw [if_neg c9] at hs3
          refine aw_iceq_f (pc1 := 42) at_447_39 c9 rfl ?_
          refine aw_iload_n (pc1 := 43) at_447_42 l2 rfl ?_
          refine aw_vload_n (pc1 := 44) at_447_43 l0 i0 rfl ?_
          obtain ⟨v10, e11, hs4⟩ := am_bind hs3
          clear hs3
          refine aw_pG (pc1 := 47) at_447_44 (am_vR_s e11).1 rfl ?_
          refine aw_iload_n (pc1 := 48) at_447_47 l1 rfl ?_
          obtain ⟨v12, e13, hs5⟩ := am_bind hs4
          clear hs4
          refine aw_pA (pc1 := 49) at_447_48 (Or.inl ⟨rfl, rfl⟩) e13 rfl ?_
          refine aw_call (F := fm_448 N x2 v12 h) (t := false) (na := 2) (kd := 0) (as := [(.int x2), (.int v12)]) at_447_49 (am_k3s kb_448) mn_448 mk_448 rfl rfl (am_ok_s mi_448 (am_hl rfl (am_ccI (am_ccI am_cats_0)) rfl)) (am_hc am_cats_0 rfl) (fun hz9 => by cases hz9) (fun o1 hz9 => rm_448 x2 v12 h o1  hz9) ?_
          rcases am_cI_s hs5 with ⟨v14, h15, f16, hs6⟩ | hs6
          · clear hs5
            refine Or.inl ⟨_, _, f16, ?_⟩
            show am_W X _ 447 52 _ [(.int v14)] h15 _
            by_cases c17 : ¬ v14 = 0
            · rw [if_pos c17] at hs6
              refine aw_ifne_t at_447_52 c17 ?_
              refine aw_vload_n (pc1 := 59) at_447_58 l0 i0 rfl ?_
              obtain ⟨z18, hs7⟩ := am_ift hs6
              clear hs6
              refine aw_call (F := fm_442 N x0 h15) (t := true) (na := 1) (kd := 1) (as := [x0]) at_447_59 (am_k3v kb_442) mn_442 mk_442 rfl rfl (am_ok_v mi_442 (am_hl rfl (am_ccR i0 am_cats_0) rfl) z18) (am_hc am_cats_0 rfl) (fun _ => ⟨rfl, hh_447⟩) (fun o1 hz9 => rm_442 x0 h15 o1 i0 hz9) ?_
              rcases am_cV_s hs7 with ⟨h20, f21, hs8⟩ | hs8
              · clear hs7
                refine Or.inl ⟨_, _, f21, ?_⟩
                show am_W X _ 447 62 _ [] h20 _
                refine aw_vload_n (pc1 := 63) at_447_62 l0 i0 rfl ?_
                obtain ⟨v22, e23, hs9⟩ := am_bind hs8
                clear hs8
                refine aw_pG (pc1 := 66) at_447_63 (am_vR_s e23).1 rfl ?_
                refine aw_iload_n (pc1 := 67) at_447_66 l1 rfl ?_
                refine aw_iload_n (pc1 := 68) at_447_67 l2 rfl ?_
                obtain ⟨h24, e25, hs10⟩ := am_bind hs9
                clear hs9
                refine aw_pS (pc1 := 69) at_447_68 (Or.inl ⟨rfl, rfl⟩) e25 rfl ?_
                refine aw_vload_n (pc1 := 70) at_447_69 l0 i0 rfl ?_
                obtain ⟨v26, e27, hs11⟩ := am_bind hs10
                clear hs10
                refine aw_pG (pc1 := 73) at_447_70 (am_vR_s e27).1 rfl ?_
                refine aw_iload_n (pc1 := 74) at_447_73 l1 rfl ?_
                refine aw_iload_n (pc1 := 75) at_447_74 l2 rfl ?_
                by_cases c28 : ¬ x2 = 0
                · rw [if_pos c28] at hs11
                  refine aw_ifne_t at_447_75 c28 ?_
                  refine aw_iconst (v := 0) (pc1 := 83) at_447_82 (by decide) rfl ?_
                  exact rg_447_83 q_2 (fun z0 z1 z2 h o hs11 => ih z0 z1 z2 h o hs11) x0 x1 x2 v26 x1 0 h24 o l0 l1 l2 i0 (am_vR_s e27).2 hs11
                · rw [if_neg c28] at hs11
                  refine aw_ifne_f (pc1 := 78) at_447_75 c28 rfl ?_
                  refine aw_iconst (v := 1) (pc1 := 79) at_447_78 (by decide) rfl ?_
                  refine aw_goto at_447_79 ?_
                  exact rg_447_83 q_2 (fun z0 z1 z2 h o hs11 => ih z0 z1 z2 h o hs11) x0 x1 x2 v26 x1 1 h24 o l0 l1 l2 i0 (am_vR_s e27).2 hs11
              · clear hs7
                exact Or.inr hs8
            · rw [if_neg c17] at hs6
              refine aw_ifne_f (pc1 := 55) at_447_52 c17 rfl ?_
              refine aw_goto at_447_55 ?_
              exact rg_447_92 q_2 (fun z0 z1 z2 h o hs6 => ih z0 z1 z2 h o hs6) x0 x1 x2 h15 o l0 l1 l2 i0 hs6
          · clear hs5
            exact Or.inr hs6
def fg_447_2 (N : Nat) : Nat → Value → Int32 → am_H → Option am_O
  | 0 => fun _ _ _ => none
  | K + 1 => fun x0 x1 h => ((am_vI (am_pG 3090 x0 h)).bind fun v1 => (if v1 ≤ x1 then (fg_447_104 N h) else ((am_vI (am_pG 3167 x0 h)).bind fun v4 => (if ¬ v4 = 0 then (fg_447_104 N h) else (fg_447_19 N (fg_447_2 N K) N x0 x1 0 h)))))
theorem rg_447_2 {X : am_X} {d : Nat} {N : Nat} : ∀ (K : Nat) (x0 : Value) (x1 : Int32) (h : am_H) (o : am_O), fg_447_2 N K x0 x1 h = some o → ∀ lv : am_LV, (lv.lookup 0 = some x0) → (lv.lookup 1 = some (.int x1)) → (am_isR x0 = true) → am_W X (d + 4) 447 2 lv [] h (fun q => q = o) := by
  intro K
  induction K with
  | zero => intro x0 x1 h o hs; cases hs
  | succ K ih =>
    intro x0 x1 h o hs lv l0 l1 i0
    unfold fg_447_2 at hs
    refine aw_iload_n (pc1 := 3) at_447_2 l1 rfl ?_
    refine aw_vload_n (pc1 := 4) at_447_3 l0 i0 rfl ?_
    obtain ⟨v1, e2, hs1⟩ := am_bind hs
    clear hs
    refine aw_pG (pc1 := 7) at_447_4 (am_vI_s e2) rfl ?_
    by_cases c3 : v1 ≤ x1
    · rw [if_pos c3] at hs1
      refine aw_icge_t at_447_7 c3 ?_
      exact rg_447_104 h o   hs1
    · rw [if_neg c3] at hs1
      refine aw_icge_f (pc1 := 10) at_447_7 c3 rfl ?_
      refine aw_vload_n (pc1 := 11) at_447_10 l0 i0 rfl ?_
      obtain ⟨v4, e5, hs2⟩ := am_bind hs1
      clear hs1
      refine aw_pG (pc1 := 14) at_447_11 (am_vI_s e5) rfl ?_
      by_cases c6 : ¬ v4 = 0
      · rw [if_pos c6] at hs2
        refine aw_ifne_t at_447_14 c6 ?_
        exact rg_447_104 h o   hs2
      · rw [if_neg c6] at hs2
        refine aw_ifne_f (pc1 := 17) at_447_14 c6 rfl ?_
        refine aw_iconst (v := 0) (pc1 := 18) at_447_17 (by decide) rfl ?_
        refine aw_istore_n (lv1 := am_put1 _ 2 _) (pc1 := 19) at_447_18 rfl rfl ?_
        exact rg_447_19 (fun z0 z1 h o hs2 => ih z0 z1 h o hs2) N x0 x1 0 h o hs2 _ (am_lk1 l0 rfl rfl) (am_lk1 l1 rfl rfl) am_lk0 i0
def fg_447_0 (N : Nat) (x0 : Value) (h : am_H) : Option am_O := (fg_447_2 N N x0 0 h)
theorem rg_447_0 {X : am_X} {d : Nat} {N : Nat} {lv : am_LV} (x0 : Value) (h : am_H) (o : am_O) (l0 : lv.lookup 0 = some x0) (i0 : am_isR x0 = true) (hs : fg_447_0 N x0 h = some o) : am_W X (d + 4) 447 0 lv [] h (fun q => q = o) := by
  unfold fg_447_0 at hs
  refine aw_iconst (v := 0) (pc1 := 1) at_447_0 (by decide) rfl ?_
  refine aw_istore_n (lv1 := am_put1 _ 1 _) (pc1 := 2) at_447_1 rfl rfl ?_
  exact rg_447_2 N x0 0 h o hs _ (am_lk1 l0 rfl (by rw [am_isRc i0]; rfl)) am_lk0 i0
def fm_447 (N : Nat) (y0 : Value) (h : am_H) : Option am_O := fg_447_0 N y0 h
theorem rm_447 {X : am_X} {d : Nat} {N : Nat} (y0 : Value) (h : am_H) (o : am_O) (i0 : am_isR y0 = true) (hs : fm_447 N y0 h = some o) : am_W X (d + 4) 447 0 (am_args 0 [y0]) [] h (fun q => q = o) := by
  rw [am_args_R i0]
  exact rg_447_0 y0 h o rfl i0 hs
def fg_451_0 (x0 : Value) (h : am_H) : Option am_O := ((am_vI (am_pG 3092 x0 h)).bind fun v1 => ((am_pP 3085 x0 (.int v1) h).bind fun h3 => ((am_vI (am_pG 3091 x0 h3)).bind fun v5 => ((am_pP 3087 x0 (.int v5) h3).bind fun h7 => ((am_pP 3086 x0 (.int 0) h7).bind fun h9 => some (.inl (none, h9)))))))
theorem rg_451_0 {X : am_X} {d : Nat} {lv : am_LV} (x0 : Value) (h : am_H) (o : am_O) (l0 : lv.lookup 0 = some x0) (i0 : am_isR x0 = true) (hs : fg_451_0 x0 h = some o) : am_W X (d) 451 0 lv [] h (fun q => q = o) := by
  unfold fg_451_0 at hs
  refine aw_vload_n (pc1 := 1) at_451_0 l0 i0 rfl ?_
  refine aw_vload_n (pc1 := 2) at_451_1 l0 i0 rfl ?_
  obtain ⟨v1, e2, hs1⟩ := am_bind hs
  clear hs
  refine aw_pG (pc1 := 5) at_451_2 (am_vI_s e2) rfl ?_
  obtain ⟨h3, e4, hs2⟩ := am_bind hs1
  clear hs1
  refine aw_pP (pc1 := 8) at_451_5 e4 rfl ?_
  refine aw_vload_n (pc1 := 9) at_451_8 l0 i0 rfl ?_
  refine aw_vload_n (pc1 := 10) at_451_9 l0 i0 rfl ?_
  obtain ⟨v5, e6, hs3⟩ := am_bind hs2
  clear hs2
  refine aw_pG (pc1 := 13) at_451_10 (am_vI_s e6) rfl ?_
  obtain ⟨h7, e8, hs4⟩ := am_bind hs3
  clear hs3
  refine aw_pP (pc1 := 16) at_451_13 e8 rfl ?_
  refine aw_vload_n (pc1 := 17) at_451_16 l0 i0 rfl ?_
  refine aw_iconst (v := 0) (pc1 := 18) at_451_17 (by decide) rfl ?_
  obtain ⟨h9, e10, hs5⟩ := am_bind hs4
  clear hs4
  refine aw_pP (pc1 := 21) at_451_18 e10 rfl ?_
  cases hs5
  exact aw_vret at_451_21 rt_451 rfl
def fm_451 (y0 : Value) (h : am_H) : Option am_O := fg_451_0 y0 h
theorem rm_451 {X : am_X} {d : Nat} (y0 : Value) (h : am_H) (o : am_O) (i0 : am_isR y0 = true) (hs : fm_451 y0 h = some o) : am_W X (d) 451 0 (am_args 0 [y0]) [] h (fun q => q = o) := by
  rw [am_args_R i0]
  exact rg_451_0 y0 h o rfl i0 hs
def fg_450_34 (N : Nat) (x0 : Value) (x1 : Int32) (x2 : Int32) (x3 : Int32) (h : am_H) : Option am_O := (if am_pOk 12 x0 h then am_cV true (fm_451 x0 h) (fun h3 => (if am_pOk 12 x0 h3 then am_cV true (fm_443 N x0 0 x1 h3) (fun h7 => (if am_pOk 12 x0 h7 then am_cV true (fm_335 x0 x2 x3 h7) (fun h11 => ((am_vR (am_pG 3098 x0 h11)).bind fun v13 => ((am_pA 0 v13 x1 h11).bind fun v15 => ((am_vI (am_pG 3090 x0 h11)).bind fun v17 => (if am_pOk 12 x0 h11 then am_cV true (fm_443 N x0 ((x1 + v15)) v17 h11) (fun h21 => (if am_pOk 12 x0 h21 then am_cI true (fm_444 N x0 h21) (fun v24 h25 => (if am_rfit (some FieldType.boolean) v24 then some (.inl (some (.int v24), h25)) else none)) else none)) else none))))) else none)) else none)) else none)
theorem rg_450_34 {X : am_X} {d : Nat} {N : Nat} {lv : am_LV} (x0 : Value) (x1 : Int32) (x2 : Int32) (x3 : Int32) (h : am_H) (o : am_O) (l0 : lv.lookup 0 = some x0) (l1 : lv.lookup 1 = some (.int x1)) (l2 : lv.lookup 2 = some (.int x2)) (l3 : lv.lookup 3 = some (.int x3)) (i0 : am_isR x0 = true) (hs : fg_450_34 N x0 x1 x2 x3 h = some o) : am_W X (d + 4) 450 34 lv [] h (fun q => q = o) := by
  unfold fg_450_34 at hs
  refine aw_vload_n (pc1 := 35) at_450_34 l0 i0 rfl ?_
  obtain ⟨z1, hs1⟩ := am_ift hs
  clear hs
  refine aw_call (F := fm_451 x0 h) (t := true) (na := 1) (kd := 1) (as := [x0]) at_450_35 (am_k3v kb_451) mn_451 mk_451 rfl rfl (am_ok_v mi_451 (am_hl rfl (am_ccR i0 am_cats_0) rfl) z1) (am_hc am_cats_0 rfl) (fun _ => ⟨rfl, hh_450⟩) (fun o1 hz9 => rm_451 x0 h o1 i0 hz9) ?_
  rcases am_cV_s hs1 with ⟨h3, f4, hs2⟩ | hs2
  · clear hs1
    refine Or.inl ⟨_, _, f4, ?_⟩
    show am_W X _ 450 38 _ [] h3 _
    refine aw_vload_n (pc1 := 39) at_450_38 l0 i0 rfl ?_
    refine aw_iconst (v := 0) (pc1 := 40) at_450_39 (by decide) rfl ?_
    refine aw_iload_n (pc1 := 41) at_450_40 l1 rfl ?_
    obtain ⟨z5, hs3⟩ := am_ift hs2
    clear hs2
    refine aw_call (F := fm_443 N x0 0 x1 h3) (t := true) (na := 3) (kd := 1) (as := [x0, (.int 0), (.int x1)]) at_450_41 (am_k3v kb_443) mn_443 mk_443 rfl rfl (am_ok_v mi_443 (am_hl rfl (am_ccR i0 (am_ccI (am_ccI am_cats_0))) rfl) z5) (am_hc am_cats_0 rfl) (fun _ => ⟨rfl, hh_450⟩) (fun o1 hz9 => rm_443 x0 0 x1 h3 o1 i0 hz9) ?_
    rcases am_cV_s hs3 with ⟨h7, f8, hs4⟩ | hs4
    · clear hs3
      refine Or.inl ⟨_, _, f8, ?_⟩
      show am_W X _ 450 44 _ [] h7 _
      refine aw_vload_n (pc1 := 45) at_450_44 l0 i0 rfl ?_
      refine aw_iload_n (pc1 := 46) at_450_45 l2 rfl ?_
      refine aw_iload_n (pc1 := 47) at_450_46 l3 rfl ?_
      obtain ⟨z9, hs5⟩ := am_ift hs4
      clear hs4
      refine aw_call (F := fm_335 x0 x2 x3 h7) (t := true) (na := 3) (kd := 1) (as := [x0, (.int x2), (.int x3)]) at_450_47 (am_k3v kb_335) mn_335 mk_335 rfl rfl (am_ok_v mi_335 (am_hl rfl (am_ccR i0 (am_ccI (am_ccI am_cats_0))) rfl) z9) (am_hc am_cats_0 rfl) (fun _ => ⟨rfl, hh_450⟩) (fun o1 hz9 => rm_335 x0 x2 x3 h7 o1 i0 hz9) ?_
      rcases am_cV_s hs5 with ⟨h11, f12, hs6⟩ | hs6
      · clear hs5
        refine Or.inl ⟨_, _, f12, ?_⟩
        show am_W X _ 450 50 _ [] h11 _
        refine aw_vload_n (pc1 := 51) at_450_50 l0 i0 rfl ?_
        refine aw_iload_n (pc1 := 52) at_450_51 l1 rfl ?_
        refine aw_vload_n (pc1 := 53) at_450_52 l0 i0 rfl ?_
        obtain ⟨v13, e14, hs7⟩ := am_bind hs6
        clear hs6
        refine aw_pG (pc1 := 56) at_450_53 (am_vR_s e14).1 rfl ?_
        refine aw_iload_n (pc1 := 57) at_450_56 l1 rfl ?_
        obtain ⟨v15, e16, hs8⟩ := am_bind hs7
        clear hs7
        refine aw_pA (pc1 := 58) at_450_57 (Or.inl ⟨rfl, rfl⟩) e16 rfl ?_
        refine aw_iadd (v := (x1 + v15)) (pc1 := 59) at_450_58 rfl rfl ?_
        refine aw_vload_n (pc1 := 60) at_450_59 l0 i0 rfl ?_
        obtain ⟨v17, e18, hs9⟩ := am_bind hs8
        clear hs8
        refine aw_pG (pc1 := 63) at_450_60 (am_vI_s e18) rfl ?_
        obtain ⟨z19, hs10⟩ := am_ift hs9
        clear hs9
        refine aw_call (F := fm_443 N x0 ((x1 + v15)) v17 h11) (t := true) (na := 3) (kd := 1) (as := [x0, (.int (x1 + v15)), (.int v17)]) at_450_63 (am_k3v kb_443) mn_443 mk_443 rfl rfl (am_ok_v mi_443 (am_hl rfl (am_ccR i0 (am_ccI (am_ccI am_cats_0))) rfl) z19) (am_hc am_cats_0 rfl) (fun _ => ⟨rfl, hh_450⟩) (fun o1 hz9 => rm_443 x0 ((x1 + v15)) v17 h11 o1 i0 hz9) ?_
        rcases am_cV_s hs10 with ⟨h21, f22, hs11⟩ | hs11
        · clear hs10
          refine Or.inl ⟨_, _, f22, ?_⟩
          show am_W X _ 450 66 _ [] h21 _
          refine aw_vload_n (pc1 := 67) at_450_66 l0 i0 rfl ?_
          obtain ⟨z23, hs12⟩ := am_ift hs11
          clear hs11
          refine aw_call (F := fm_444 N x0 h21) (t := true) (na := 1) (kd := 1) (as := [x0]) at_450_67 (am_k3v kb_444) mn_444 mk_444 rfl rfl (am_ok_v mi_444 (am_hl rfl (am_ccR i0 am_cats_0) rfl) z23) (am_hc am_cats_0 rfl) (fun _ => ⟨rfl, hh_450⟩) (fun o1 hz9 => rm_444 x0 h21 o1 i0 hz9) ?_
          rcases am_cI_s hs12 with ⟨v24, h25, f26, hs13⟩ | hs13
          · clear hs12
            refine Or.inl ⟨_, _, f26, ?_⟩
            show am_W X _ 450 70 _ [(.int v24)] h25 _
            obtain ⟨z27, hs14⟩ := am_ift hs13
            clear hs13
            cases hs14
            exact aw_iret at_450_70 (by rw [rt_450]; exact z27) rfl
          · clear hs12
            exact Or.inr hs13
        · clear hs10
          exact Or.inr hs11
      · clear hs5
        exact Or.inr hs6
    · clear hs3
      exact Or.inr hs4
  · clear hs1
    exact Or.inr hs2
def fg_450_32 (N : Nat) (h : am_H) : Option am_O := some (.inl (some (.int 0), h))
theorem rg_450_32 {X : am_X} {d : Nat} {N : Nat} {lv : am_LV} (h : am_H) (o : am_O) (hs : fg_450_32 N h = some o) : am_W X (d + 4) 450 32 lv [] h (fun q => q = o) := by
  unfold fg_450_32 at hs
  refine aw_iconst (v := 0) (pc1 := 33) at_450_32 (by decide) rfl ?_
  cases hs
  exact aw_iret at_450_33 (by rw [rt_450]; decide) rfl
def fg_450_0 (N : Nat) (x0 : Value) (x1 : Int32) (x2 : Int32) (x3 : Int32) (h : am_H) : Option am_O := ((am_vR (am_pG 3093 x0 h)).bind fun v1 => ((am_pA 0 v1 x1 h).bind fun v3 => am_cI false (fm_334 v3 h) (fun v5 h6 => (if ¬ v5 = 0 then (fg_450_32 N h6) else ((am_vR (am_pG 3093 x0 h6)).bind fun v9 => ((am_pA 0 v9 x1 h6).bind fun v11 => (if ¬ v11 = x2 then (fg_450_34 N x0 x1 x2 x3 h6) else ((am_vR (am_pG 3094 x0 h6)).bind fun v14 => ((am_pA 0 v14 x1 h6).bind fun v16 => (if ¬ v16 = x3 then (fg_450_34 N x0 x1 x2 x3 h6) else (fg_450_32 N h6)))))))))))
theorem rg_450_0 {X : am_X} {d : Nat} {N : Nat} {lv : am_LV} (x0 : Value) (x1 : Int32) (x2 : Int32) (x3 : Int32) (h : am_H) (o : am_O) (l0 : lv.lookup 0 = some x0) (l1 : lv.lookup 1 = some (.int x1)) (l2 : lv.lookup 2 = some (.int x2)) (l3 : lv.lookup 3 = some (.int x3)) (i0 : am_isR x0 = true) (hs : fg_450_0 N x0 x1 x2 x3 h = some o) : am_W X (d + 4) 450 0 lv [] h (fun q => q = o) := by
  unfold fg_450_0 at hs
  refine aw_vload_n (pc1 := 1) at_450_0 l0 i0 rfl ?_
  obtain ⟨v1, e2, hs1⟩ := am_bind hs
  clear hs
  refine aw_pG (pc1 := 4) at_450_1 (am_vR_s e2).1 rfl ?_
  refine aw_iload_n (pc1 := 5) at_450_4 l1 rfl ?_
  obtain ⟨v3, e4, hs2⟩ := am_bind hs1
  clear hs1
  refine aw_pA (pc1 := 6) at_450_5 (Or.inl ⟨rfl, rfl⟩) e4 rfl ?_
  refine aw_call (F := fm_334 v3 h) (t := false) (na := 1) (kd := 0) (as := [(.int v3)]) at_450_6 (am_k3s kb_334) mn_334 mk_334 rfl rfl (am_ok_s mi_334 (am_hl rfl (am_ccI am_cats_0) rfl)) (am_hc am_cats_0 rfl) (fun hz9 => by cases hz9) (fun o1 hz9 => rm_334 v3 h o1  hz9) ?_
  rcases am_cI_s hs2 with ⟨v5, h6, f7, hs3⟩ | hs3
  · clear hs2
    refine Or.inl ⟨_, _, f7, ?_⟩
    show am_W X _ 450 9 _ [(.int v5)] h6 _
    by_cases c8 : ¬ v5 = 0
    · rw [if_pos c8] at hs3
      refine aw_ifne_t at_450_9 c8 ?_
      exact rg_450_32 h6 o   hs3
    · rw [if_neg c8] at hs3
      refine aw_ifne_f (pc1 := 12) at_450_9 c8 rfl ?_
      refine aw_vload_n (pc1 := 13) at_450_12 l0 i0 rfl ?_
      obtain ⟨v9, e10, hs4⟩ := am_bind hs3
      clear hs3
      refine aw_pG (pc1 := 16) at_450_13 (am_vR_s e10).1 rfl ?_
      refine aw_iload_n (pc1 := 17) at_450_16 l1 rfl ?_
      obtain ⟨v11, e12, hs5⟩ := am_bind hs4
      clear hs4
      refine aw_pA (pc1 := 18) at_450_17 (Or.inl ⟨rfl, rfl⟩) e12 rfl ?_
      refine aw_iload_n (pc1 := 19) at_450_18 l2 rfl ?_
      by_cases c13 : ¬ v11 = x2
      · rw [if_pos c13] at hs5
        refine aw_icne_t at_450_19 c13 ?_
        exact rg_450_34 x0 x1 x2 x3 h6 o l0 l1 l2 l3 i0 hs5
      · rw [if_neg c13] at hs5
        refine aw_icne_f (pc1 := 22) at_450_19 c13 rfl ?_
        refine aw_vload_n (pc1 := 23) at_450_22 l0 i0 rfl ?_
        obtain ⟨v14, e15, hs6⟩ := am_bind hs5
        clear hs5
        refine aw_pG (pc1 := 26) at_450_23 (am_vR_s e15).1 rfl ?_
        refine aw_iload_n (pc1 := 27) at_450_26 l1 rfl ?_
        obtain ⟨v16, e17, hs7⟩ := am_bind hs6
        clear hs6
        refine aw_pA (pc1 := 28) at_450_27 (Or.inl ⟨rfl, rfl⟩) e17 rfl ?_
        refine aw_iload_n (pc1 := 29) at_450_28 l3 rfl ?_
        by_cases c18 : ¬ v16 = x3
        · rw [if_pos c18] at hs7
          refine aw_icne_t at_450_29 c18 ?_
          exact rg_450_34 x0 x1 x2 x3 h6 o l0 l1 l2 l3 i0 hs7
        · rw [if_neg c18] at hs7
          refine aw_icne_f (pc1 := 32) at_450_29 c18 rfl ?_
          exact rg_450_32 h6 o   hs7
  · clear hs2
    exact Or.inr hs3
def fm_450 (N : Nat) (y0 : Value) (y1 : Int32) (y2 : Int32) (y3 : Int32) (h : am_H) : Option am_O := fg_450_0 N y0 y1 y2 y3 h
theorem rm_450 {X : am_X} {d : Nat} {N : Nat} (y0 : Value) (y1 : Int32) (y2 : Int32) (y3 : Int32) (h : am_H) (o : am_O) (i0 : am_isR y0 = true) (hs : fm_450 N y0 y1 y2 y3 h = some o) : am_W X (d + 4) 450 0 (am_args 0 [y0, .int y1, .int y2, .int y3]) [] h (fun q => q = o) := by
  rw [am_args_R i0, am_args_I, am_args_I, am_args_I]
  exact rg_450_0 y0 y1 y2 y3 h o rfl rfl rfl rfl i0 hs
def fg_449_54 (N : Nat) (h : am_H) : Option am_O := some (.inl (none, h))
theorem rg_449_54 {X : am_X} {d : Nat} {N : Nat} {lv : am_LV} (h : am_H) (o : am_O) (hs : fg_449_54 N h = some o) : am_W X (d + 5) 449 54 lv [] h (fun q => q = o) := by
  unfold fg_449_54 at hs
  cases hs
  exact aw_vret at_449_54 rt_449 rfl
def fg_449_48 (N : Nat) (rec_2 : Value → Int32 → am_H → Option am_O) (x0 : Value) (x1 : Int32) (h : am_H) : Option am_O := (rec_2 x0 ((x1 + 1)) h)
theorem rg_449_48 {X : am_X} {d : Nat} {N : Nat} {rec_2 : Value → Int32 → am_H → Option am_O} (q_2 : ∀ (x0 : Value) (x1 : Int32) (h : am_H) (o : am_O), rec_2 x0 x1 h = some o → ∀ lv : am_LV, (lv.lookup 0 = some x0) → (lv.lookup 1 = some (.int x1)) → (am_isR x0 = true) → am_W X (d + 5) 449 2 lv [] h (fun q => q = o)) {lv : am_LV} (x0 : Value) (x1 : Int32) (h : am_H) (o : am_O) (l0 : lv.lookup 0 = some x0) (l1 : lv.lookup 1 = some (.int x1)) (i0 : am_isR x0 = true) (hs : fg_449_48 N rec_2 x0 x1 h = some o) : am_W X (d + 5) 449 48 lv [] h (fun q => q = o) := by
  unfold fg_449_48 at hs
  refine aw_iinc (v := (x1 + 1)) (c := 1) (lv1 := am_put1 _ 1 _) (pc1 := 51) at_449_48 l1 (by decide) rfl rfl rfl ?_
  refine aw_goto at_449_51 ?_
  exact q_2 x0 ((x1 + 1)) h o hs _ (am_lk1 l0 rfl (by rw [am_isRc i0]; rfl)) am_lk0 i0
def fg_449_2 (N : Nat) : Nat → Value → Int32 → am_H → Option am_O
  | 0 => fun _ _ _ => none
  | K + 1 => fun x0 x1 h => ((am_vI (am_pG 3090 x0 h)).bind fun v1 => (if v1 ≤ x1 then (fg_449_54 N h) else ((am_vI (am_pG 3167 x0 h)).bind fun v4 => (if ¬ v4 = 0 then (fg_449_54 N h) else (if am_pOk 12 x0 h then am_cI true (fm_450 N x0 x1 0 0 h) (fun v8 h9 => (if ¬ v8 = 0 then (fg_449_48 N (fg_449_2 N K) x0 x1 h9) else (if am_pOk 12 x0 h9 then am_cI true (fm_450 N x0 x1 1 0 h9) (fun v13 h14 => (if ¬ v13 = 0 then (fg_449_48 N (fg_449_2 N K) x0 x1 h14) else (if am_pOk 12 x0 h14 then am_cI true (fm_450 N x0 x1 0 1 h14) (fun v18 h19 => ((am_pP 3167 x0 (.int v18) h19).bind fun h21 => (fg_449_48 N (fg_449_2 N K) x0 x1 h21))) else none))) else none))) else none)))))
theorem rg_449_2 {X : am_X} {d : Nat} {N : Nat} : ∀ (K : Nat) (x0 : Value) (x1 : Int32) (h : am_H) (o : am_O), fg_449_2 N K x0 x1 h = some o → ∀ lv : am_LV, (lv.lookup 0 = some x0) → (lv.lookup 1 = some (.int x1)) → (am_isR x0 = true) → am_W X (d + 5) 449 2 lv [] h (fun q => q = o) := by
  intro K
  induction K with
  | zero => intro x0 x1 h o hs; cases hs
  | succ K ih =>
    intro x0 x1 h o hs lv l0 l1 i0
    unfold fg_449_2 at hs
    refine aw_iload_n (pc1 := 3) at_449_2 l1 rfl ?_
    refine aw_vload_n (pc1 := 4) at_449_3 l0 i0 rfl ?_
    obtain ⟨v1, e2, hs1⟩ := am_bind hs
    clear hs
    refine aw_pG (pc1 := 7) at_449_4 (am_vI_s e2) rfl ?_
    by_cases c3 : v1 ≤ x1
    · rw [if_pos c3] at hs1
      refine aw_icge_t at_449_7 c3 ?_
      exact rg_449_54 h o   hs1
    · rw [if_neg c3] at hs1
      refine aw_icge_f (pc1 := 10) at_449_7 c3 rfl ?_
      refine aw_vload_n (pc1 := 11) at_449_10 l0 i0 rfl ?_
      obtain ⟨v4, e5, hs2⟩ := am_bind hs1
      clear hs1
      refine aw_pG (pc1 := 14) at_449_11 (am_vI_s e5) rfl ?_
      by_cases c6 : ¬ v4 = 0
      · rw [if_pos c6] at hs2
        refine aw_ifne_t at_449_14 c6 ?_
        exact rg_449_54 h o   hs2
      · rw [if_neg c6] at hs2
        refine aw_ifne_f (pc1 := 17) at_449_14 c6 rfl ?_
        refine aw_vload_n (pc1 := 18) at_449_17 l0 i0 rfl ?_
        refine aw_iload_n (pc1 := 19) at_449_18 l1 rfl ?_
        refine aw_iconst (v := 0) (pc1 := 20) at_449_19 (by decide) rfl ?_
        refine aw_iconst (v := 0) (pc1 := 21) at_449_20 (by decide) rfl ?_
        obtain ⟨z7, hs3⟩ := am_ift hs2
        clear hs2
        refine aw_call (F := fm_450 N x0 x1 0 0 h) (t := true) (na := 4) (kd := 1) (as := [x0, (.int x1), (.int 0), (.int 0)]) at_449_21 (am_k3v kb_450) mn_450 mk_450 rfl rfl (am_ok_v mi_450 (am_hl rfl (am_ccR i0 (am_ccI (am_ccI (am_ccI am_cats_0)))) rfl) z7) (am_hc am_cats_0 rfl) (fun _ => ⟨rfl, hh_449⟩) (fun o1 hz9 => rm_450 x0 x1 0 0 h o1 i0 hz9) ?_
        rcases am_cI_s hs3 with ⟨v8, h9, f10, hs4⟩ | hs4
        · clear hs3
          refine Or.inl ⟨_, _, f10, ?_⟩
          show am_W X _ 449 24 _ [(.int v8)] h9 _
          by_cases c11 : ¬ v8 = 0
          · rw [if_pos c11] at hs4
            refine aw_ifne_t at_449_24 c11 ?_
            exact rg_449_48 (fun z0 z1 h o hs4 => ih z0 z1 h o hs4) x0 x1 h9 o l0 l1 i0 hs4
          · rw [if_neg c11] at hs4
            refine aw_ifne_f (pc1 := 27) at_449_24 c11 rfl ?_
            refine aw_vload_n (pc1 := 28) at_449_27 l0 i0 rfl ?_
            refine aw_iload_n (pc1 := 29) at_449_28 l1 rfl ?_
            refine aw_iconst (v := 1) (pc1 := 30) at_449_29 (by decide) rfl ?_
            refine aw_iconst (v := 0) (pc1 := 31) at_449_30 (by decide) rfl ?_
            obtain ⟨z12, hs5⟩ := am_ift hs4
            clear hs4
            refine aw_call (F := fm_450 N x0 x1 1 0 h9) (t := true) (na := 4) (kd := 1) (as := [x0, (.int x1), (.int 1), (.int 0)]) at_449_31 (am_k3v kb_450) mn_450 mk_450 rfl rfl (am_ok_v mi_450 (am_hl rfl (am_ccR i0 (am_ccI (am_ccI (am_ccI am_cats_0)))) rfl) z12) (am_hc am_cats_0 rfl) (fun _ => ⟨rfl, hh_449⟩) (fun o1 hz9 => rm_450 x0 x1 1 0 h9 o1 i0 hz9) ?_
            rcases am_cI_s hs5 with ⟨v13, h14, f15, hs6⟩ | hs6
            · clear hs5
              refine Or.inl ⟨_, _, f15, ?_⟩
              show am_W X _ 449 34 _ [(.int v13)] h14 _
              by_cases c16 : ¬ v13 = 0
              · rw [if_pos c16] at hs6
                refine aw_ifne_t at_449_34 c16 ?_
                exact rg_449_48 (fun z0 z1 h o hs6 => ih z0 z1 h o hs6) x0 x1 h14 o l0 l1 i0 hs6
              · rw [if_neg c16] at hs6
                refine aw_ifne_f (pc1 := 37) at_449_34 c16 rfl ?_
                refine aw_vload_n (pc1 := 38) at_449_37 l0 i0 rfl ?_
                refine aw_vload_n (pc1 := 39) at_449_38 l0 i0 rfl ?_
                refine aw_iload_n (pc1 := 40) at_449_39 l1 rfl ?_
                refine aw_iconst (v := 0) (pc1 := 41) at_449_40 (by decide) rfl ?_
                refine aw_iconst (v := 1) (pc1 := 42) at_449_41 (by decide) rfl ?_
                obtain ⟨z17, hs7⟩ := am_ift hs6
                clear hs6
                refine aw_call (F := fm_450 N x0 x1 0 1 h14) (t := true) (na := 4) (kd := 1) (as := [x0, (.int x1), (.int 0), (.int 1)]) at_449_42 (am_k3v kb_450) mn_450 mk_450 rfl rfl (am_ok_v mi_450 (am_hl rfl (am_ccR i0 (am_ccI (am_ccI (am_ccI am_cats_0)))) rfl) z17) (am_hc (am_ccR i0 am_cats_0) rfl) (fun _ => ⟨rfl, hh_449⟩) (fun o1 hz9 => rm_450 x0 x1 0 1 h14 o1 i0 hz9) ?_
                rcases am_cI_s hs7 with ⟨v18, h19, f20, hs8⟩ | hs8
                · clear hs7
                  refine Or.inl ⟨_, _, f20, ?_⟩
                  show am_W X _ 449 45 _ [(.int v18), x0] h19 _
                  obtain ⟨h21, e22, hs9⟩ := am_bind hs8
                  clear hs8
                  refine aw_pP (pc1 := 48) at_449_45 e22 rfl ?_
                  exact rg_449_48 (fun z0 z1 h o hs9 => ih z0 z1 h o hs9) x0 x1 h21 o l0 l1 i0 hs9
                · clear hs7
                  exact Or.inr hs8
            · clear hs5
              exact Or.inr hs6
        · clear hs3
          exact Or.inr hs4
def fg_449_0 (N : Nat) (x0 : Value) (h : am_H) : Option am_O := (fg_449_2 N N x0 0 h)
theorem rg_449_0 {X : am_X} {d : Nat} {N : Nat} {lv : am_LV} (x0 : Value) (h : am_H) (o : am_O) (l0 : lv.lookup 0 = some x0) (i0 : am_isR x0 = true) (hs : fg_449_0 N x0 h = some o) : am_W X (d + 5) 449 0 lv [] h (fun q => q = o) := by
  unfold fg_449_0 at hs
  refine aw_iconst (v := 0) (pc1 := 1) at_449_0 (by decide) rfl ?_
  refine aw_istore_n (lv1 := am_put1 _ 1 _) (pc1 := 2) at_449_1 rfl rfl ?_
  exact rg_449_2 N x0 0 h o hs _ (am_lk1 l0 rfl (by rw [am_isRc i0]; rfl)) am_lk0 i0
def fm_449 (N : Nat) (y0 : Value) (h : am_H) : Option am_O := fg_449_0 N y0 h
theorem rm_449 {X : am_X} {d : Nat} {N : Nat} (y0 : Value) (h : am_H) (o : am_O) (i0 : am_isR y0 = true) (hs : fm_449 N y0 h = some o) : am_W X (d + 5) 449 0 (am_args 0 [y0]) [] h (fun q => q = o) := by
  rw [am_args_R i0]
  exact rg_449_0 y0 h o rfl i0 hs
def fg_452_130 (N : Nat) (h : am_H) : Option am_O := some (.inl (none, h))
theorem rg_452_130 {X : am_X} {d : Nat} {N : Nat} {lv : am_LV} (h : am_H) (o : am_O) (hs : fg_452_130 N h = some o) : am_W X (d + 4) 452 130 lv [] h (fun q => q = o) := by
  unfold fg_452_130 at hs
  cases hs
  exact aw_vret at_452_130 rt_452 rfl
def fg_452_124 (N : Nat) (rec_2 : Value → Int32 → am_H → Option am_O) (x0 : Value) (x1 : Int32) (h : am_H) : Option am_O := (rec_2 x0 ((x1 + 1)) h)
theorem rg_452_124 {X : am_X} {d : Nat} {N : Nat} {rec_2 : Value → Int32 → am_H → Option am_O} (q_2 : ∀ (x0 : Value) (x1 : Int32) (h : am_H) (o : am_O), rec_2 x0 x1 h = some o → ∀ lv : am_LV, (lv.lookup 0 = some x0) → (lv.lookup 1 = some (.int x1)) → (am_isR x0 = true) → am_W X (d + 4) 452 2 lv [] h (fun q => q = o)) {lv : am_LV} (x0 : Value) (x1 : Int32) (h : am_H) (o : am_O) (l0 : lv.lookup 0 = some x0) (l1 : lv.lookup 1 = some (.int x1)) (i0 : am_isR x0 = true) (hs : fg_452_124 N rec_2 x0 x1 h = some o) : am_W X (d + 4) 452 124 lv [] h (fun q => q = o) := by
  unfold fg_452_124 at hs
  refine aw_iinc (v := (x1 + 1)) (c := 1) (lv1 := am_put1 _ 1 _) (pc1 := 127) at_452_124 l1 (by decide) rfl rfl rfl ?_
  refine aw_goto at_452_127 ?_
  exact q_2 x0 ((x1 + 1)) h o hs _ (am_lk1 l0 rfl (by rw [am_isRc i0]; rfl)) am_lk0 i0
def fg_452_118 (N : Nat) (rec_2 : Value → Int32 → am_H → Option am_O) (rec_19 : Value → Int32 → Int32 → am_H → Option am_O) (x0 : Value) (x1 : Int32) (x2 : Int32) (h : am_H) : Option am_O := (rec_19 x0 x1 ((x2 + 1)) h)
theorem rg_452_118 {X : am_X} {d : Nat} {N : Nat} {rec_2 : Value → Int32 → am_H → Option am_O} {rec_19 : Value → Int32 → Int32 → am_H → Option am_O} (q_2 : ∀ (x0 : Value) (x1 : Int32) (h : am_H) (o : am_O), rec_2 x0 x1 h = some o → ∀ lv : am_LV, (lv.lookup 0 = some x0) → (lv.lookup 1 = some (.int x1)) → (am_isR x0 = true) → am_W X (d + 4) 452 2 lv [] h (fun q => q = o)) (q_19 : ∀ (x0 : Value) (x1 : Int32) (x2 : Int32) (h : am_H) (o : am_O), rec_19 x0 x1 x2 h = some o → ∀ lv : am_LV, (lv.lookup 0 = some x0) → (lv.lookup 1 = some (.int x1)) → (lv.lookup 2 = some (.int x2)) → (am_isR x0 = true) → am_W X (d + 4) 452 19 lv [] h (fun q => q = o)) {lv : am_LV} (x0 : Value) (x1 : Int32) (x2 : Int32) (h : am_H) (o : am_O) (l0 : lv.lookup 0 = some x0) (l1 : lv.lookup 1 = some (.int x1)) (l2 : lv.lookup 2 = some (.int x2)) (i0 : am_isR x0 = true) (hs : fg_452_118 N rec_2 rec_19 x0 x1 x2 h = some o) : am_W X (d + 4) 452 118 lv [] h (fun q => q = o) := by
  unfold fg_452_118 at hs
  refine aw_iinc (v := (x2 + 1)) (c := 1) (lv1 := am_put1 _ 2 _) (pc1 := 121) at_452_118 l2 (by decide) rfl rfl rfl ?_
  refine aw_goto at_452_121 ?_
  exact q_19 x0 x1 ((x2 + 1)) h o hs _ (am_lk1 l0 rfl rfl) (am_lk1 l1 rfl rfl) am_lk0 i0
def fg_452_19 (N : Nat) (rec_2 : Value → Int32 → am_H → Option am_O) : Nat → Value → Int32 → Int32 → am_H → Option am_O
  | 0 => fun _ _ _ _ => none
  | K + 1 => fun x0 x1 x2 h => ((am_vR (am_pG 3093 x0 h)).bind fun v1 => ((am_pA 0 v1 x1 h).bind fun v3 => am_cI false (fm_343 v3 h) (fun v5 h6 => (if v5 ≤ x2 then (fg_452_124 N rec_2 x0 x1 h6) else ((am_vI (am_pG 3167 x0 h6)).bind fun v9 => (if ¬ v9 = 0 then (fg_452_124 N rec_2 x0 x1 h6) else ((am_vR (am_pG 3093 x0 h6)).bind fun v12 => ((am_pA 0 v12 x1 h6).bind fun v14 => am_cI false (fm_330 v14 x2 h6) (fun v16 h17 => ((am_vR (am_pG 3093 x0 h17)).bind fun v19 => ((am_pA 0 v19 x1 h17).bind fun v21 => am_cI false (fm_334 v21 h17) (fun v23 h24 => (if v16 = v23 then (if am_pOk 12 x0 h24 then am_cI true (fm_393 N x0 x1 x2 h24) (fun v28 h29 => (if am_pOk 12 x0 h29 then am_cV true (fm_451 x0 h29) (fun h33 => (if am_pOk 12 x0 h33 then am_cV true (fm_443 N x0 0 x1 h33) (fun h37 => ((am_vR (am_pG 3098 x0 h37)).bind fun v39 => ((am_pA 0 v39 v28 h37).bind fun v41 => (if am_pOk 12 x0 h37 then am_cV true (fm_443 N x0 v28 ((v28 + v41)) h37) (fun h45 => ((am_vR (am_pG 3098 x0 h45)).bind fun v47 => ((am_pA 0 v47 x1 h45).bind fun v49 => ((am_vI (am_pG 3090 x0 h45)).bind fun v51 => (if am_pOk 12 x0 h45 then am_cV true (fm_443 N x0 ((x1 + v49)) v51 h45) (fun h55 => (if am_pOk 12 x0 h55 then am_cI true (fm_444 N x0 h55) (fun v58 h59 => ((am_pP 3167 x0 (.int v58) h59).bind fun h61 => (fg_452_118 N rec_2 (fg_452_19 N rec_2 K) x0 x1 x2 h61))) else none)) else none))))) else none)))) else none)) else none)) else none) else (fg_452_118 N rec_2 (fg_452_19 N rec_2 K) x0 x1 x2 h24))))))))))))))
theorem rg_452_19 {X : am_X} {d : Nat} {N : Nat} {rec_2 : Value → Int32 → am_H → Option am_O} (q_2 : ∀ (x0 : Value) (x1 : Int32) (h : am_H) (o : am_O), rec_2 x0 x1 h = some o → ∀ lv : am_LV, (lv.lookup 0 = some x0) → (lv.lookup 1 = some (.int x1)) → (am_isR x0 = true) → am_W X (d + 4) 452 2 lv [] h (fun q => q = o)) : ∀ (K : Nat) (x0 : Value) (x1 : Int32) (x2 : Int32) (h : am_H) (o : am_O), fg_452_19 N rec_2 K x0 x1 x2 h = some o → ∀ lv : am_LV, (lv.lookup 0 = some x0) → (lv.lookup 1 = some (.int x1)) → (lv.lookup 2 = some (.int x2)) → (am_isR x0 = true) → am_W X (d + 4) 452 19 lv [] h (fun q => q = o) := by
  intro K
  induction K with
  | zero => intro x0 x1 x2 h o hs; cases hs
  | succ K ih =>
    intro x0 x1 x2 h o hs lv l0 l1 l2 i0
    unfold fg_452_19 at hs
    refine aw_iload_n (pc1 := 20) at_452_19 l2 rfl ?_
    refine aw_vload_n (pc1 := 21) at_452_20 l0 i0 rfl ?_
    obtain ⟨v1, e2, hs1⟩ := am_bind hs
    clear hs
    refine aw_pG (pc1 := 24) at_452_21 (am_vR_s e2).1 rfl ?_
    refine aw_iload_n (pc1 := 25) at_452_24 l1 rfl ?_
    obtain ⟨v3, e4, hs2⟩ := am_bind hs1
    clear hs1
    refine aw_pA (pc1 := 26) at_452_25 (Or.inl ⟨rfl, rfl⟩) e4 rfl ?_
    refine aw_call (F := fm_343 v3 h) (t := false) (na := 1) (kd := 0) (as := [(.int v3)]) at_452_26 (am_k3s kb_343) mn_343 mk_343 rfl rfl (am_ok_s mi_343 (am_hl rfl (am_ccI am_cats_0) rfl)) (am_hc (am_ccI am_cats_0) rfl) (fun hz9 => by cases hz9) (fun o1 hz9 => rm_343 v3 h o1  hz9) ?_
    rcases am_cI_s hs2 with ⟨v5, h6, f7, hs3⟩ | hs3
    · clear hs2
      refine Or.inl ⟨_, _, f7, ?_⟩
      show am_W X _ 452 29 _ [(.int v5), (.int x2)] h6 _
      by_cases c8 : v5 ≤ x2
      · rw [if_pos c8] at hs3
        refine aw_icge_t at_452_29 c8 ?_
        exact rg_452_124 q_2 x0 x1 h6 o l0 l1 i0 hs3
      · rw [if_neg c8] at hs3
        refine aw_icge_f (pc1 := 32) at_452_29 c8 rfl ?_
        refine aw_vload_n (pc1 := 33) at_452_32 l0 i0 rfl ?_
        obtain ⟨v9, e10, hs4⟩ := am_bind hs3
        clear hs3
        refine aw_pG (pc1 := 36) at_452_33 (am_vI_s e10) rfl ?_
        by_cases c11 : ¬ v9 = 0
        · rw [if_pos c11] at hs4
          refine aw_ifne_t at_452_36 c11 ?_
          exact rg_452_124 q_2 x0 x1 h6 o l0 l1 i0 hs4
        · rw [if_neg c11] at hs4
          refine aw_ifne_f (pc1 := 39) at_452_36 c11 rfl ?_
          refine aw_vload_n (pc1 := 40) at_452_39 l0 i0 rfl ?_
          obtain ⟨v12, e13, hs5⟩ := am_bind hs4
          clear hs4
          refine aw_pG (pc1 := 43) at_452_40 (am_vR_s e13).1 rfl ?_
          refine aw_iload_n (pc1 := 44) at_452_43 l1 rfl ?_
          obtain ⟨v14, e15, hs6⟩ := am_bind hs5
          clear hs5
          refine aw_pA (pc1 := 45) at_452_44 (Or.inl ⟨rfl, rfl⟩) e15 rfl ?_
          refine aw_iload_n (pc1 := 46) at_452_45 l2 rfl ?_
          refine aw_call (F := fm_330 v14 x2 h6) (t := false) (na := 2) (kd := 0) (as := [(.int v14), (.int x2)]) at_452_46 (am_k3s kb_330) mn_330 mk_330 rfl rfl (am_ok_s mi_330 (am_hl rfl (am_ccI (am_ccI am_cats_0)) rfl)) (am_hc am_cats_0 rfl) (fun hz9 => by cases hz9) (fun o1 hz9 => rm_330 v14 x2 h6 o1  hz9) ?_
          rcases am_cI_s hs6 with ⟨v16, h17, f18, hs7⟩ | hs7
          · clear hs6
            refine Or.inl ⟨_, _, f18, ?_⟩
            show am_W X _ 452 49 _ [(.int v16)] h17 _
            refine aw_vload_n (pc1 := 50) at_452_49 l0 i0 rfl ?_
            obtain ⟨v19, e20, hs8⟩ := am_bind hs7
            clear hs7
            refine aw_pG (pc1 := 53) at_452_50 (am_vR_s e20).1 rfl ?_
            refine aw_iload_n (pc1 := 54) at_452_53 l1 rfl ?_
            obtain ⟨v21, e22, hs9⟩ := am_bind hs8
            clear hs8
            refine aw_pA (pc1 := 55) at_452_54 (Or.inl ⟨rfl, rfl⟩) e22 rfl ?_
            refine aw_call (F := fm_334 v21 h17) (t := false) (na := 1) (kd := 0) (as := [(.int v21)]) at_452_55 (am_k3s kb_334) mn_334 mk_334 rfl rfl (am_ok_s mi_334 (am_hl rfl (am_ccI am_cats_0) rfl)) (am_hc (am_ccI am_cats_0) rfl) (fun hz9 => by cases hz9) (fun o1 hz9 => rm_334 v21 h17 o1  hz9) ?_
            rcases am_cI_s hs9 with ⟨v23, h24, f25, hs10⟩ | hs10
            · clear hs9
              refine Or.inl ⟨_, _, f25, ?_⟩
              show am_W X _ 452 58 _ [(.int v23), (.int v16)] h24 _
              by_cases c26 : v16 = v23
              · rw [if_pos c26] at hs10
                refine aw_iceq_t at_452_58 c26 ?_
                refine aw_vload_n (pc1 := 65) at_452_64 l0 i0 rfl ?_
                refine aw_iload_n (pc1 := 66) at_452_65 l1 rfl ?_
                refine aw_iload_n (pc1 := 67) at_452_66 l2 rfl ?_
                obtain ⟨z27, hs11⟩ := am_ift hs10
                clear hs10
                refine aw_call (F := fm_393 N x0 x1 x2 h24) (t := true) (na := 3) (kd := 1) (as := [x0, (.int x1), (.int x2)]) at_452_67 (am_k3v kb_393) mn_393 mk_393 rfl rfl (am_ok_v mi_393 (am_hl rfl (am_ccR i0 (am_ccI (am_ccI am_cats_0))) rfl) z27) (am_hc am_cats_0 rfl) (fun _ => ⟨rfl, hh_452⟩) (fun o1 hz9 => rm_393 x0 x1 x2 h24 o1 i0 hz9) ?_
                rcases am_cI_s hs11 with ⟨v28, h29, f30, hs12⟩ | hs12
                · clear hs11
                  refine Or.inl ⟨_, _, f30, ?_⟩
                  show am_W X _ 452 70 _ [(.int v28)] h29 _
                  refine aw_istore_n (lv1 := am_put1 _ 3 _) (pc1 := 71) at_452_70 rfl rfl ?_
                  refine aw_vload_n (pc1 := 72) at_452_71 (am_lk1 l0 rfl rfl) i0 rfl ?_
                  obtain ⟨z31, hs13⟩ := am_ift hs12
                  clear hs12
                  refine aw_call (F := fm_451 x0 h29) (t := true) (na := 1) (kd := 1) (as := [x0]) at_452_72 (am_k3v kb_451) mn_451 mk_451 rfl rfl (am_ok_v mi_451 (am_hl rfl (am_ccR i0 am_cats_0) rfl) z31) (am_hc am_cats_0 rfl) (fun _ => ⟨rfl, hh_452⟩) (fun o1 hz9 => rm_451 x0 h29 o1 i0 hz9) ?_
                  rcases am_cV_s hs13 with ⟨h33, f34, hs14⟩ | hs14
                  · clear hs13
                    refine Or.inl ⟨_, _, f34, ?_⟩
                    show am_W X _ 452 75 _ [] h33 _
                    refine aw_vload_n (pc1 := 76) at_452_75 (am_lk1 l0 rfl rfl) i0 rfl ?_
                    refine aw_iconst (v := 0) (pc1 := 77) at_452_76 (by decide) rfl ?_
                    refine aw_iload_n (pc1 := 78) at_452_77 (am_lk1 l1 rfl rfl) rfl ?_
                    obtain ⟨z35, hs15⟩ := am_ift hs14
                    clear hs14
                    refine aw_call (F := fm_443 N x0 0 x1 h33) (t := true) (na := 3) (kd := 1) (as := [x0, (.int 0), (.int x1)]) at_452_78 (am_k3v kb_443) mn_443 mk_443 rfl rfl (am_ok_v mi_443 (am_hl rfl (am_ccR i0 (am_ccI (am_ccI am_cats_0))) rfl) z35) (am_hc am_cats_0 rfl) (fun _ => ⟨rfl, hh_452⟩) (fun o1 hz9 => rm_443 x0 0 x1 h33 o1 i0 hz9) ?_
                    rcases am_cV_s hs15 with ⟨h37, f38, hs16⟩ | hs16
                    · clear hs15
                      refine Or.inl ⟨_, _, f38, ?_⟩
                      show am_W X _ 452 81 _ [] h37 _
                      refine aw_vload_n (pc1 := 82) at_452_81 (am_lk1 l0 rfl rfl) i0 rfl ?_
                      refine aw_iload_n (pc1 := 83) at_452_82 am_lk0 rfl ?_
                      refine aw_iload_n (pc1 := 84) at_452_83 am_lk0 rfl ?_
                      refine aw_vload_n (pc1 := 85) at_452_84 (am_lk1 l0 rfl rfl) i0 rfl ?_
                      obtain ⟨v39, e40, hs17⟩ := am_bind hs16
                      clear hs16
                      refine aw_pG (pc1 := 88) at_452_85 (am_vR_s e40).1 rfl ?_
                      refine aw_iload_n (pc1 := 89) at_452_88 am_lk0 rfl ?_
                      obtain ⟨v41, e42, hs18⟩ := am_bind hs17
                      clear hs17
                      refine aw_pA (pc1 := 90) at_452_89 (Or.inl ⟨rfl, rfl⟩) e42 rfl ?_
                      refine aw_iadd (v := (v28 + v41)) (pc1 := 91) at_452_90 rfl rfl ?_
                      obtain ⟨z43, hs19⟩ := am_ift hs18
                      clear hs18
                      refine aw_call (F := fm_443 N x0 v28 ((v28 + v41)) h37) (t := true) (na := 3) (kd := 1) (as := [x0, (.int v28), (.int (v28 + v41))]) at_452_91 (am_k3v kb_443) mn_443 mk_443 rfl rfl (am_ok_v mi_443 (am_hl rfl (am_ccR i0 (am_ccI (am_ccI am_cats_0))) rfl) z43) (am_hc am_cats_0 rfl) (fun _ => ⟨rfl, hh_452⟩) (fun o1 hz9 => rm_443 x0 v28 ((v28 + v41)) h37 o1 i0 hz9) ?_
                      rcases am_cV_s hs19 with ⟨h45, f46, hs20⟩ | hs20
                      · clear hs19
                        refine Or.inl ⟨_, _, f46, ?_⟩
                        show am_W X _ 452 94 _ [] h45 _
                        refine aw_vload_n (pc1 := 95) at_452_94 (am_lk1 l0 rfl rfl) i0 rfl ?_
                        refine aw_iload_n (pc1 := 96) at_452_95 (am_lk1 l1 rfl rfl) rfl ?_
                        refine aw_vload_n (pc1 := 97) at_452_96 (am_lk1 l0 rfl rfl) i0 rfl ?_
                        obtain ⟨v47, e48, hs21⟩ := am_bind hs20
                        clear hs20
                        refine aw_pG (pc1 := 100) at_452_97 (am_vR_s e48).1 rfl ?_
                        refine aw_iload_n (pc1 := 101) at_452_100 (am_lk1 l1 rfl rfl) rfl ?_
                        obtain ⟨v49, e50, hs22⟩ := am_bind hs21
                        clear hs21
                        refine aw_pA (pc1 := 102) at_452_101 (Or.inl ⟨rfl, rfl⟩) e50 rfl ?_
                        refine aw_iadd (v := (x1 + v49)) (pc1 := 103) at_452_102 rfl rfl ?_
                        refine aw_vload_n (pc1 := 104) at_452_103 (am_lk1 l0 rfl rfl) i0 rfl ?_
                        obtain ⟨v51, e52, hs23⟩ := am_bind hs22
                        clear hs22
                        refine aw_pG (pc1 := 107) at_452_104 (am_vI_s e52) rfl ?_
                        obtain ⟨z53, hs24⟩ := am_ift hs23
                        clear hs23
                        refine aw_call (F := fm_443 N x0 ((x1 + v49)) v51 h45) (t := true) (na := 3) (kd := 1) (as := [x0, (.int (x1 + v49)), (.int v51)]) at_452_107 (am_k3v kb_443) mn_443 mk_443 rfl rfl (am_ok_v mi_443 (am_hl rfl (am_ccR i0 (am_ccI (am_ccI am_cats_0))) rfl) z53) (am_hc am_cats_0 rfl) (fun _ => ⟨rfl, hh_452⟩) (fun o1 hz9 => rm_443 x0 ((x1 + v49)) v51 h45 o1 i0 hz9) ?_
                        rcases am_cV_s hs24 with ⟨h55, f56, hs25⟩ | hs25
                        · clear hs24
                          refine Or.inl ⟨_, _, f56, ?_⟩
                          show am_W X _ 452 110 _ [] h55 _
                          refine aw_vload_n (pc1 := 111) at_452_110 (am_lk1 l0 rfl rfl) i0 rfl ?_
                          refine aw_vload_n (pc1 := 112) at_452_111 (am_lk1 l0 rfl rfl) i0 rfl ?_
                          obtain ⟨z57, hs26⟩ := am_ift hs25
                          clear hs25
                          refine aw_call (F := fm_444 N x0 h55) (t := true) (na := 1) (kd := 1) (as := [x0]) at_452_112 (am_k3v kb_444) mn_444 mk_444 rfl rfl (am_ok_v mi_444 (am_hl rfl (am_ccR i0 am_cats_0) rfl) z57) (am_hc (am_ccR i0 am_cats_0) rfl) (fun _ => ⟨rfl, hh_452⟩) (fun o1 hz9 => rm_444 x0 h55 o1 i0 hz9) ?_
                          rcases am_cI_s hs26 with ⟨v58, h59, f60, hs27⟩ | hs27
                          · clear hs26
                            refine Or.inl ⟨_, _, f60, ?_⟩
                            show am_W X _ 452 115 _ [(.int v58), x0] h59 _
                            obtain ⟨h61, e62, hs28⟩ := am_bind hs27
                            clear hs27
                            refine aw_pP (pc1 := 118) at_452_115 e62 rfl ?_
                            exact rg_452_118 q_2 (fun z0 z1 z2 h o hs28 => ih z0 z1 z2 h o hs28) x0 x1 x2 h61 o (am_lk1 l0 rfl rfl) (am_lk1 l1 rfl rfl) (am_lk1 l2 rfl rfl) i0 hs28
                          · clear hs26
                            exact Or.inr hs27
                        · clear hs24
                          exact Or.inr hs25
                      · clear hs19
                        exact Or.inr hs20
                    · clear hs15
                      exact Or.inr hs16
                  · clear hs13
                    exact Or.inr hs14
                · clear hs11
                  exact Or.inr hs12
              · rw [if_neg c26] at hs10
                refine aw_iceq_f (pc1 := 61) at_452_58 c26 rfl ?_
                refine aw_goto at_452_61 ?_
                exact rg_452_118 q_2 (fun z0 z1 z2 h o hs10 => ih z0 z1 z2 h o hs10) x0 x1 x2 h24 o l0 l1 l2 i0 hs10
            · clear hs9
              exact Or.inr hs10
          · clear hs6
            exact Or.inr hs7
    · clear hs2
      exact Or.inr hs3
def fg_452_2 (N : Nat) : Nat → Value → Int32 → am_H → Option am_O
  | 0 => fun _ _ _ => none
  | K + 1 => fun x0 x1 h => ((am_vI (am_pG 3090 x0 h)).bind fun v1 => (if v1 ≤ x1 then (fg_452_130 N h) else ((am_vI (am_pG 3167 x0 h)).bind fun v4 => (if ¬ v4 = 0 then (fg_452_130 N h) else (fg_452_19 N (fg_452_2 N K) N x0 x1 0 h)))))
theorem rg_452_2 {X : am_X} {d : Nat} {N : Nat} : ∀ (K : Nat) (x0 : Value) (x1 : Int32) (h : am_H) (o : am_O), fg_452_2 N K x0 x1 h = some o → ∀ lv : am_LV, (lv.lookup 0 = some x0) → (lv.lookup 1 = some (.int x1)) → (am_isR x0 = true) → am_W X (d + 4) 452 2 lv [] h (fun q => q = o) := by
  intro K
  induction K with
  | zero => intro x0 x1 h o hs; cases hs
  | succ K ih =>
    intro x0 x1 h o hs lv l0 l1 i0
    unfold fg_452_2 at hs
    refine aw_iload_n (pc1 := 3) at_452_2 l1 rfl ?_
    refine aw_vload_n (pc1 := 4) at_452_3 l0 i0 rfl ?_
    obtain ⟨v1, e2, hs1⟩ := am_bind hs
    clear hs
    refine aw_pG (pc1 := 7) at_452_4 (am_vI_s e2) rfl ?_
    by_cases c3 : v1 ≤ x1
    · rw [if_pos c3] at hs1
      refine aw_icge_t at_452_7 c3 ?_
      exact rg_452_130 h o   hs1
    · rw [if_neg c3] at hs1
      refine aw_icge_f (pc1 := 10) at_452_7 c3 rfl ?_
      refine aw_vload_n (pc1 := 11) at_452_10 l0 i0 rfl ?_
      obtain ⟨v4, e5, hs2⟩ := am_bind hs1
      clear hs1
      refine aw_pG (pc1 := 14) at_452_11 (am_vI_s e5) rfl ?_
      by_cases c6 : ¬ v4 = 0
      · rw [if_pos c6] at hs2
        refine aw_ifne_t at_452_14 c6 ?_
        exact rg_452_130 h o   hs2
      · rw [if_neg c6] at hs2
        refine aw_ifne_f (pc1 := 17) at_452_14 c6 rfl ?_
        refine aw_iconst (v := 0) (pc1 := 18) at_452_17 (by decide) rfl ?_
        refine aw_istore_n (lv1 := am_put1 _ 2 _) (pc1 := 19) at_452_18 rfl rfl ?_
        exact rg_452_19 (fun z0 z1 h o hs2 => ih z0 z1 h o hs2) N x0 x1 0 h o hs2 _ (am_lk1 l0 rfl rfl) (am_lk1 l1 rfl rfl) am_lk0 i0
def fg_452_0 (N : Nat) (x0 : Value) (h : am_H) : Option am_O := (fg_452_2 N N x0 0 h)
theorem rg_452_0 {X : am_X} {d : Nat} {N : Nat} {lv : am_LV} (x0 : Value) (h : am_H) (o : am_O) (l0 : lv.lookup 0 = some x0) (i0 : am_isR x0 = true) (hs : fg_452_0 N x0 h = some o) : am_W X (d + 4) 452 0 lv [] h (fun q => q = o) := by
  unfold fg_452_0 at hs
  refine aw_iconst (v := 0) (pc1 := 1) at_452_0 (by decide) rfl ?_
  refine aw_istore_n (lv1 := am_put1 _ 1 _) (pc1 := 2) at_452_1 rfl rfl ?_
  exact rg_452_2 N x0 0 h o hs _ (am_lk1 l0 rfl (by rw [am_isRc i0]; rfl)) am_lk0 i0
def fm_452 (N : Nat) (y0 : Value) (h : am_H) : Option am_O := fg_452_0 N y0 h
theorem rm_452 {X : am_X} {d : Nat} {N : Nat} (y0 : Value) (h : am_H) (o : am_O) (i0 : am_isR y0 = true) (hs : fm_452 N y0 h = some o) : am_W X (d + 4) 452 0 (am_args 0 [y0]) [] h (fun q => q = o) := by
  rw [am_args_R i0]
  exact rg_452_0 y0 h o rfl i0 hs
def fg_454_32 (s0 : Int32) (h : am_H) : Option am_O := some (.inl (some (.int s0), h))
theorem rg_454_32 {X : am_X} {d : Nat} {lv : am_LV} (s0 : Int32) (h : am_H) (o : am_O) (hs : fg_454_32 s0 h = some o) : am_W X (d) 454 32 lv [(.int s0)] h (fun q => q = o) := by
  unfold fg_454_32 at hs
  cases hs
  exact aw_iret at_454_32 (by rw [rt_454]; rfl) rfl
def fg_454_0 (x0 : Int32) (h : am_H) : Option am_O := (if 5 ≤ x0 then (if 7 ≤ x0 then (if 14 ≤ x0 then (fg_454_32 ((3 + x0)) h) else (fg_454_32 2 h)) else (fg_454_32 1 h)) else (fg_454_32 0 h))
theorem rg_454_0 {X : am_X} {d : Nat} {lv : am_LV} (x0 : Int32) (h : am_H) (o : am_O) (l0 : lv.lookup 0 = some (.int x0)) (hs : fg_454_0 x0 h = some o) : am_W X (d) 454 0 lv [] h (fun q => q = o) := by
  unfold fg_454_0 at hs
  refine aw_iload_n (pc1 := 1) at_454_0 l0 rfl ?_
  refine aw_iconst (v := 5) (pc1 := 2) at_454_1 (by decide) rfl ?_
  by_cases c1 : 5 ≤ x0
  · rw [if_pos c1] at hs
    refine aw_icge_t at_454_2 c1 ?_
    refine aw_iload_n (pc1 := 10) at_454_9 l0 rfl ?_
    refine aw_bipush (v := 7) (pc1 := 12) at_454_10 (by decide) rfl ?_
    by_cases c2 : 7 ≤ x0
    · rw [if_pos c2] at hs
      refine aw_icge_t at_454_12 c2 ?_
      refine aw_iload_n (pc1 := 20) at_454_19 l0 rfl ?_
      refine aw_bipush (v := 14) (pc1 := 22) at_454_20 (by decide) rfl ?_
      by_cases c3 : 14 ≤ x0
      · rw [if_pos c3] at hs
        refine aw_icge_t at_454_22 c3 ?_
        refine aw_iconst (v := 3) (pc1 := 30) at_454_29 (by decide) rfl ?_
        refine aw_iload_n (pc1 := 31) at_454_30 l0 rfl ?_
        refine aw_iadd (v := (3 + x0)) (pc1 := 32) at_454_31 rfl rfl ?_
        exact rg_454_32 ((3 + x0)) h o   hs
      · rw [if_neg c3] at hs
        refine aw_icge_f (pc1 := 25) at_454_22 c3 rfl ?_
        refine aw_iconst (v := 2) (pc1 := 26) at_454_25 (by decide) rfl ?_
        refine aw_goto at_454_26 ?_
        exact rg_454_32 2 h o   hs
    · rw [if_neg c2] at hs
      refine aw_icge_f (pc1 := 15) at_454_12 c2 rfl ?_
      refine aw_iconst (v := 1) (pc1 := 16) at_454_15 (by decide) rfl ?_
      refine aw_goto at_454_16 ?_
      exact rg_454_32 1 h o   hs
  · rw [if_neg c1] at hs
    refine aw_icge_f (pc1 := 5) at_454_2 c1 rfl ?_
    refine aw_iconst (v := 0) (pc1 := 6) at_454_5 (by decide) rfl ?_
    refine aw_goto at_454_6 ?_
    exact rg_454_32 0 h o   hs
def fm_454 (y0 : Int32) (h : am_H) : Option am_O := fg_454_0 y0 h
theorem rm_454 {X : am_X} {d : Nat} (y0 : Int32) (h : am_H) (o : am_O) (hs : fm_454 y0 h = some o) : am_W X (d) 454 0 (am_args 0 [.int y0]) [] h (fun q => q = o) := by
  rw [am_args_I]
  exact rg_454_0 y0 h o rfl  hs
def fg_453_107 (N : Nat) (h : am_H) : Option am_O := some (.inl (none, h))
theorem rg_453_107 {X : am_X} {d : Nat} {N : Nat} {lv : am_LV} (h : am_H) (o : am_O) (hs : fg_453_107 N h = some o) : am_W X (d + 4) 453 107 lv [] h (fun q => q = o) := by
  unfold fg_453_107 at hs
  cases hs
  exact aw_vret at_453_107 rt_453 rfl
def fg_453_101 (N : Nat) (rec_2 : Value → Int32 → am_H → Option am_O) (x0 : Value) (x1 : Int32) (h : am_H) : Option am_O := (rec_2 x0 ((x1 + 1)) h)
theorem rg_453_101 {X : am_X} {d : Nat} {N : Nat} {rec_2 : Value → Int32 → am_H → Option am_O} (q_2 : ∀ (x0 : Value) (x1 : Int32) (h : am_H) (o : am_O), rec_2 x0 x1 h = some o → ∀ lv : am_LV, (lv.lookup 0 = some x0) → (lv.lookup 1 = some (.int x1)) → (am_isR x0 = true) → am_W X (d + 4) 453 2 lv [] h (fun q => q = o)) {lv : am_LV} (x0 : Value) (x1 : Int32) (h : am_H) (o : am_O) (l0 : lv.lookup 0 = some x0) (l1 : lv.lookup 1 = some (.int x1)) (i0 : am_isR x0 = true) (hs : fg_453_101 N rec_2 x0 x1 h = some o) : am_W X (d + 4) 453 101 lv [] h (fun q => q = o) := by
  unfold fg_453_101 at hs
  refine aw_iinc (v := (x1 + 1)) (c := 1) (lv1 := am_put1 _ 1 _) (pc1 := 104) at_453_101 l1 (by decide) rfl rfl rfl ?_
  refine aw_goto at_453_104 ?_
  exact q_2 x0 ((x1 + 1)) h o hs _ (am_lk1 l0 rfl (by rw [am_isRc i0]; rfl)) am_lk0 i0
def fg_453_95 (N : Nat) (rec_2 : Value → Int32 → am_H → Option am_O) (rec_19 : Value → Int32 → Int32 → am_H → Option am_O) (x0 : Value) (x1 : Int32) (x2 : Int32) (h : am_H) : Option am_O := (rec_19 x0 x1 ((x2 + 1)) h)
theorem rg_453_95 {X : am_X} {d : Nat} {N : Nat} {rec_2 : Value → Int32 → am_H → Option am_O} {rec_19 : Value → Int32 → Int32 → am_H → Option am_O} (q_2 : ∀ (x0 : Value) (x1 : Int32) (h : am_H) (o : am_O), rec_2 x0 x1 h = some o → ∀ lv : am_LV, (lv.lookup 0 = some x0) → (lv.lookup 1 = some (.int x1)) → (am_isR x0 = true) → am_W X (d + 4) 453 2 lv [] h (fun q => q = o)) (q_19 : ∀ (x0 : Value) (x1 : Int32) (x2 : Int32) (h : am_H) (o : am_O), rec_19 x0 x1 x2 h = some o → ∀ lv : am_LV, (lv.lookup 0 = some x0) → (lv.lookup 1 = some (.int x1)) → (lv.lookup 2 = some (.int x2)) → (am_isR x0 = true) → am_W X (d + 4) 453 19 lv [] h (fun q => q = o)) {lv : am_LV} (x0 : Value) (x1 : Int32) (x2 : Int32) (h : am_H) (o : am_O) (l0 : lv.lookup 0 = some x0) (l1 : lv.lookup 1 = some (.int x1)) (l2 : lv.lookup 2 = some (.int x2)) (i0 : am_isR x0 = true) (hs : fg_453_95 N rec_2 rec_19 x0 x1 x2 h = some o) : am_W X (d + 4) 453 95 lv [] h (fun q => q = o) := by
  unfold fg_453_95 at hs
  refine aw_iinc (v := (x2 + 1)) (c := 1) (lv1 := am_put1 _ 2 _) (pc1 := 98) at_453_95 l2 (by decide) rfl rfl rfl ?_
  refine aw_goto at_453_98 ?_
  exact q_19 x0 x1 ((x2 + 1)) h o hs _ (am_lk1 l0 rfl rfl) (am_lk1 l1 rfl rfl) am_lk0 i0
def fg_453_86 (N : Nat) (rec_2 : Value → Int32 → am_H → Option am_O) (rec_19 : Value → Int32 → Int32 → am_H → Option am_O) (x0 : Value) (x1 : Int32) (x2 : Int32) (s0 : Value) (s1 : Int32) (s2 : Int32) (h : am_H) : Option am_O := ((am_pS 0 s0 s1 s2 h).bind fun h1 => (if am_pOk 12 x0 h1 then am_cI true (fm_444 N x0 h1) (fun v4 h5 => ((am_pP 3167 x0 (.int v4) h5).bind fun h7 => (fg_453_95 N rec_2 rec_19 x0 x1 x2 h7))) else none))
theorem rg_453_86 {X : am_X} {d : Nat} {N : Nat} {rec_2 : Value → Int32 → am_H → Option am_O} {rec_19 : Value → Int32 → Int32 → am_H → Option am_O} (q_2 : ∀ (x0 : Value) (x1 : Int32) (h : am_H) (o : am_O), rec_2 x0 x1 h = some o → ∀ lv : am_LV, (lv.lookup 0 = some x0) → (lv.lookup 1 = some (.int x1)) → (am_isR x0 = true) → am_W X (d + 4) 453 2 lv [] h (fun q => q = o)) (q_19 : ∀ (x0 : Value) (x1 : Int32) (x2 : Int32) (h : am_H) (o : am_O), rec_19 x0 x1 x2 h = some o → ∀ lv : am_LV, (lv.lookup 0 = some x0) → (lv.lookup 1 = some (.int x1)) → (lv.lookup 2 = some (.int x2)) → (am_isR x0 = true) → am_W X (d + 4) 453 19 lv [] h (fun q => q = o)) {lv : am_LV} (x0 : Value) (x1 : Int32) (x2 : Int32) (s0 : Value) (s1 : Int32) (s2 : Int32) (h : am_H) (o : am_O) (l0 : lv.lookup 0 = some x0) (l1 : lv.lookup 1 = some (.int x1)) (l2 : lv.lookup 2 = some (.int x2)) (i0 : am_isR x0 = true) (j0 : am_isR s0 = true) (hs : fg_453_86 N rec_2 rec_19 x0 x1 x2 s0 s1 s2 h = some o) : am_W X (d + 4) 453 86 lv [(.int s2), (.int s1), s0] h (fun q => q = o) := by
  unfold fg_453_86 at hs
  obtain ⟨h1, e2, hs1⟩ := am_bind hs
  clear hs
  refine aw_pS (pc1 := 87) at_453_86 (Or.inl ⟨rfl, rfl⟩) e2 rfl ?_
  refine aw_vload_n (pc1 := 88) at_453_87 l0 i0 rfl ?_
  refine aw_vload_n (pc1 := 89) at_453_88 l0 i0 rfl ?_
  obtain ⟨z3, hs2⟩ := am_ift hs1
  clear hs1
  refine aw_call (F := fm_444 N x0 h1) (t := true) (na := 1) (kd := 1) (as := [x0]) at_453_89 (am_k3v kb_444) mn_444 mk_444 rfl rfl (am_ok_v mi_444 (am_hl rfl (am_ccR i0 am_cats_0) rfl) z3) (am_hc (am_ccR i0 am_cats_0) rfl) (fun _ => ⟨rfl, hh_453⟩) (fun o1 hz9 => rm_444 x0 h1 o1 i0 hz9) ?_
  rcases am_cI_s hs2 with ⟨v4, h5, f6, hs3⟩ | hs3
  · clear hs2
    refine Or.inl ⟨_, _, f6, ?_⟩
    show am_W X _ 453 92 _ [(.int v4), x0] h5 _
    obtain ⟨h7, e8, hs4⟩ := am_bind hs3
    clear hs3
    refine aw_pP (pc1 := 95) at_453_92 e8 rfl ?_
    exact rg_453_95 q_2 q_19 x0 x1 x2 h7 o l0 l1 l2 i0 hs4
  · clear hs2
    exact Or.inr hs3
def fg_453_19 (N : Nat) (rec_2 : Value → Int32 → am_H → Option am_O) : Nat → Value → Int32 → Int32 → am_H → Option am_O
  | 0 => fun _ _ _ _ => none
  | K + 1 => fun x0 x1 x2 h => (if 14 ≤ x2 then (fg_453_101 N rec_2 x0 x1 h) else ((am_vI (am_pG 3167 x0 h)).bind fun v2 => (if ¬ v2 = 0 then (fg_453_101 N rec_2 x0 x1 h) else ((am_vR (am_pG 3093 x0 h)).bind fun v5 => ((am_pA 0 v5 x1 h).bind fun v7 => (if x2 = v7 then (fg_453_95 N rec_2 (fg_453_19 N rec_2 K) x0 x1 x2 h) else am_cI false (fm_454 x2 h) (fun v10 h11 => ((am_vR (am_pG 3093 x0 h11)).bind fun v13 => ((am_pA 0 v13 x1 h11).bind fun v15 => am_cI false (fm_454 v15 h11) (fun v17 h18 => (if v10 = v17 then (if am_pOk 12 x0 h18 then am_cV true (fm_442 N x0 h18) (fun h23 => ((am_vR (am_pG 3088 x0 h23)).bind fun v25 => ((am_pS 0 v25 x1 x2 h23).bind fun h27 => ((am_vR (am_pG 3089 x0 h27)).bind fun v29 => (if ¬ x2 = 0 then (fg_453_86 N rec_2 (fg_453_19 N rec_2 K) x0 x1 x2 v29 x1 0 h27) else (fg_453_86 N rec_2 (fg_453_19 N rec_2 K) x0 x1 x2 v29 x1 1 h27)))))) else none) else (fg_453_95 N rec_2 (fg_453_19 N rec_2 K) x0 x1 x2 h18))))))))))))
theorem rg_453_19 {X : am_X} {d : Nat} {N : Nat} {rec_2 : Value → Int32 → am_H → Option am_O} (q_2 : ∀ (x0 : Value) (x1 : Int32) (h : am_H) (o : am_O), rec_2 x0 x1 h = some o → ∀ lv : am_LV, (lv.lookup 0 = some x0) → (lv.lookup 1 = some (.int x1)) → (am_isR x0 = true) → am_W X (d + 4) 453 2 lv [] h (fun q => q = o)) : ∀ (K : Nat) (x0 : Value) (x1 : Int32) (x2 : Int32) (h : am_H) (o : am_O), fg_453_19 N rec_2 K x0 x1 x2 h = some o → ∀ lv : am_LV, (lv.lookup 0 = some x0) → (lv.lookup 1 = some (.int x1)) → (lv.lookup 2 = some (.int x2)) → (am_isR x0 = true) → am_W X (d + 4) 453 19 lv [] h (fun q => q = o) := by
  intro K
  induction K with
  | zero => intro x0 x1 x2 h o hs; cases hs
  | succ K ih =>
    intro x0 x1 x2 h o hs lv l0 l1 l2 i0
    unfold fg_453_19 at hs
    refine aw_iload_n (pc1 := 20) at_453_19 l2 rfl ?_
    refine aw_bipush (v := 14) (pc1 := 22) at_453_20 (by decide) rfl ?_
    by_cases c1 : 14 ≤ x2
    · rw [if_pos c1] at hs
      refine aw_icge_t at_453_22 c1 ?_
      exact rg_453_101 q_2 x0 x1 h o l0 l1 i0 hs
    · rw [if_neg c1] at hs
      refine aw_icge_f (pc1 := 25) at_453_22 c1 rfl ?_
      refine aw_vload_n (pc1 := 26) at_453_25 l0 i0 rfl ?_
      obtain ⟨v2, e3, hs1⟩ := am_bind hs
      clear hs
      refine aw_pG (pc1 := 29) at_453_26 (am_vI_s e3) rfl ?_
      by_cases c4 : ¬ v2 = 0
      · rw [if_pos c4] at hs1
        refine aw_ifne_t at_453_29 c4 ?_
        exact rg_453_101 q_2 x0 x1 h o l0 l1 i0 hs1
      · rw [if_neg c4] at hs1
        refine aw_ifne_f (pc1 := 32) at_453_29 c4 rfl ?_
        refine aw_iload_n (pc1 := 33) at_453_32 l2 rfl ?_
        refine aw_vload_n (pc1 := 34) at_453_33 l0 i0 rfl ?_
        obtain ⟨v5, e6, hs2⟩ := am_bind hs1
        clear hs1
        refine aw_pG (pc1 := 37) at_453_34 (am_vR_s e6).1 rfl ?_
        refine aw_iload_n (pc1 := 38) at_453_37 l1 rfl ?_
        obtain ⟨v7, e8, hs3⟩ := am_bind hs2
        clear hs2
        refine aw_pA (pc1 := 39) at_453_38 (Or.inl ⟨rfl, rfl⟩) e8 rfl ?_
        by_cases c9 : x2 = v7
        · rw [if_pos c9] at hs3
          refine aw_iceq_t at_453_39 c9 ?_
          exact rg_453_95 q_2 (fun z0 z1 z2 h o hs3 => ih z0 z1 z2 h o hs3) x0 x1 x2 h o l0 l1 l2 i0 hs3
        · rw [if_neg c9] at hs3
          refine aw_iceq_f (pc1 := 42) at_453_39 c9 rfl ?_
          refine aw_iload_n (pc1 := 43) at_453_42 l2 rfl ?_
          refine aw_call (F := fm_454 x2 h) (t := false) (na := 1) (kd := 0) (as := [(.int x2)]) at_453_43 (am_k3s kb_454) mn_454 mk_454 rfl rfl (am_ok_s mi_454 (am_hl rfl (am_ccI am_cats_0) rfl)) (am_hc am_cats_0 rfl) (fun hz9 => by cases hz9) (fun o1 hz9 => rm_454 x2 h o1  hz9) ?_
          rcases am_cI_s hs3 with ⟨v10, h11, f12, hs4⟩ | hs4
          · clear hs3
            refine Or.inl ⟨_, _, f12, ?_⟩
            show am_W X _ 453 46 _ [(.int v10)] h11 _
            refine aw_vload_n (pc1 := 47) at_453_46 l0 i0 rfl ?_
            obtain ⟨v13, e14, hs5⟩ := am_bind hs4
            clear hs4
            refine aw_pG (pc1 := 50) at_453_47 (am_vR_s e14).1 rfl ?_
            refine aw_iload_n (pc1 := 51) at_453_50 l1 rfl ?_
            obtain ⟨v15, e16, hs6⟩ := am_bind hs5
            clear hs5
            refine aw_pA (pc1 := 52) at_453_51 (Or.inl ⟨rfl, rfl⟩) e16 rfl ?_
            refine aw_call (F := fm_454 v15 h11) (t := false) (na := 1) (kd := 0) (as := [(.int v15)]) at_453_52 (am_k3s kb_454) mn_454 mk_454 rfl rfl (am_ok_s mi_454 (am_hl rfl (am_ccI am_cats_0) rfl)) (am_hc (am_ccI am_cats_0) rfl) (fun hz9 => by cases hz9) (fun o1 hz9 => rm_454 v15 h11 o1  hz9) ?_
            rcases am_cI_s hs6 with ⟨v17, h18, f19, hs7⟩ | hs7
            · clear hs6
              refine Or.inl ⟨_, _, f19, ?_⟩
              show am_W X _ 453 55 _ [(.int v17), (.int v10)] h18 _
              by_cases c20 : v10 = v17
              · rw [if_pos c20] at hs7
                refine aw_iceq_t at_453_55 c20 ?_
                refine aw_vload_n (pc1 := 62) at_453_61 l0 i0 rfl ?_
                obtain ⟨z21, hs8⟩ := am_ift hs7
                clear hs7
                refine aw_call (F := fm_442 N x0 h18) (t := true) (na := 1) (kd := 1) (as := [x0]) at_453_62 (am_k3v kb_442) mn_442 mk_442 rfl rfl (am_ok_v mi_442 (am_hl rfl (am_ccR i0 am_cats_0) rfl) z21) (am_hc am_cats_0 rfl) (fun _ => ⟨rfl, hh_453⟩) (fun o1 hz9 => rm_442 x0 h18 o1 i0 hz9) ?_
                rcases am_cV_s hs8 with ⟨h23, f24, hs9⟩ | hs9
                · clear hs8
                  refine Or.inl ⟨_, _, f24, ?_⟩
                  show am_W X _ 453 65 _ [] h23 _
                  refine aw_vload_n (pc1 := 66) at_453_65 l0 i0 rfl ?_
                  obtain ⟨v25, e26, hs10⟩ := am_bind hs9
                  clear hs9
                  refine aw_pG (pc1 := 69) at_453_66 (am_vR_s e26).1 rfl ?_
                  refine aw_iload_n (pc1 := 70) at_453_69 l1 rfl ?_
                  refine aw_iload_n (pc1 := 71) at_453_70 l2 rfl ?_
                  obtain ⟨h27, e28, hs11⟩ := am_bind hs10
                  clear hs10
                  refine aw_pS (pc1 := 72) at_453_71 (Or.inl ⟨rfl, rfl⟩) e28 rfl ?_
                  refine aw_vload_n (pc1 := 73) at_453_72 l0 i0 rfl ?_
                  obtain ⟨v29, e30, hs12⟩ := am_bind hs11
                  clear hs11
                  refine aw_pG (pc1 := 76) at_453_73 (am_vR_s e30).1 rfl ?_
                  refine aw_iload_n (pc1 := 77) at_453_76 l1 rfl ?_
                  refine aw_iload_n (pc1 := 78) at_453_77 l2 rfl ?_
                  by_cases c31 : ¬ x2 = 0
                  · rw [if_pos c31] at hs12
                    refine aw_ifne_t at_453_78 c31 ?_
                    refine aw_iconst (v := 0) (pc1 := 86) at_453_85 (by decide) rfl ?_
                    exact rg_453_86 q_2 (fun z0 z1 z2 h o hs12 => ih z0 z1 z2 h o hs12) x0 x1 x2 v29 x1 0 h27 o l0 l1 l2 i0 (am_vR_s e30).2 hs12
                  · rw [if_neg c31] at hs12
                    refine aw_ifne_f (pc1 := 81) at_453_78 c31 rfl ?_
                    refine aw_iconst (v := 1) (pc1 := 82) at_453_81 (by decide) rfl ?_
                    refine aw_goto at_453_82 ?_
                    exact rg_453_86 q_2 (fun z0 z1 z2 h o hs12 => ih z0 z1 z2 h o hs12) x0 x1 x2 v29 x1 1 h27 o l0 l1 l2 i0 (am_vR_s e30).2 hs12
                · clear hs8
                  exact Or.inr hs9
              · rw [if_neg c20] at hs7
                refine aw_iceq_f (pc1 := 58) at_453_55 c20 rfl ?_
                refine aw_goto at_453_58 ?_
                exact rg_453_95 q_2 (fun z0 z1 z2 h o hs7 => ih z0 z1 z2 h o hs7) x0 x1 x2 h18 o l0 l1 l2 i0 hs7
            · clear hs6
              exact Or.inr hs7
          · clear hs3
            exact Or.inr hs4
def fg_453_2 (N : Nat) : Nat → Value → Int32 → am_H → Option am_O
  | 0 => fun _ _ _ => none
  | K + 1 => fun x0 x1 h => ((am_vI (am_pG 3090 x0 h)).bind fun v1 => (if v1 ≤ x1 then (fg_453_107 N h) else ((am_vI (am_pG 3167 x0 h)).bind fun v4 => (if ¬ v4 = 0 then (fg_453_107 N h) else (fg_453_19 N (fg_453_2 N K) N x0 x1 0 h)))))
theorem rg_453_2 {X : am_X} {d : Nat} {N : Nat} : ∀ (K : Nat) (x0 : Value) (x1 : Int32) (h : am_H) (o : am_O), fg_453_2 N K x0 x1 h = some o → ∀ lv : am_LV, (lv.lookup 0 = some x0) → (lv.lookup 1 = some (.int x1)) → (am_isR x0 = true) → am_W X (d + 4) 453 2 lv [] h (fun q => q = o) := by
  intro K
  induction K with
  | zero => intro x0 x1 h o hs; cases hs
  | succ K ih =>
    intro x0 x1 h o hs lv l0 l1 i0
    unfold fg_453_2 at hs
    refine aw_iload_n (pc1 := 3) at_453_2 l1 rfl ?_
    refine aw_vload_n (pc1 := 4) at_453_3 l0 i0 rfl ?_
    obtain ⟨v1, e2, hs1⟩ := am_bind hs
    clear hs
    refine aw_pG (pc1 := 7) at_453_4 (am_vI_s e2) rfl ?_
    by_cases c3 : v1 ≤ x1
    · rw [if_pos c3] at hs1
      refine aw_icge_t at_453_7 c3 ?_
      exact rg_453_107 h o   hs1
    · rw [if_neg c3] at hs1
      refine aw_icge_f (pc1 := 10) at_453_7 c3 rfl ?_
      refine aw_vload_n (pc1 := 11) at_453_10 l0 i0 rfl ?_
      obtain ⟨v4, e5, hs2⟩ := am_bind hs1
      clear hs1
      refine aw_pG (pc1 := 14) at_453_11 (am_vI_s e5) rfl ?_
      by_cases c6 : ¬ v4 = 0
      · rw [if_pos c6] at hs2
        refine aw_ifne_t at_453_14 c6 ?_
        exact rg_453_107 h o   hs2
      · rw [if_neg c6] at hs2
        refine aw_ifne_f (pc1 := 17) at_453_14 c6 rfl ?_
        refine aw_iconst (v := 0) (pc1 := 18) at_453_17 (by decide) rfl ?_
        refine aw_istore_n (lv1 := am_put1 _ 2 _) (pc1 := 19) at_453_18 rfl rfl ?_
        exact rg_453_19 (fun z0 z1 h o hs2 => ih z0 z1 h o hs2) N x0 x1 0 h o hs2 _ (am_lk1 l0 rfl rfl) (am_lk1 l1 rfl rfl) am_lk0 i0
def fg_453_0 (N : Nat) (x0 : Value) (h : am_H) : Option am_O := (fg_453_2 N N x0 0 h)
theorem rg_453_0 {X : am_X} {d : Nat} {N : Nat} {lv : am_LV} (x0 : Value) (h : am_H) (o : am_O) (l0 : lv.lookup 0 = some x0) (i0 : am_isR x0 = true) (hs : fg_453_0 N x0 h = some o) : am_W X (d + 4) 453 0 lv [] h (fun q => q = o) := by
  unfold fg_453_0 at hs
  refine aw_iconst (v := 0) (pc1 := 1) at_453_0 (by decide) rfl ?_
  refine aw_istore_n (lv1 := am_put1 _ 1 _) (pc1 := 2) at_453_1 rfl rfl ?_
  exact rg_453_2 N x0 0 h o hs _ (am_lk1 l0 rfl (by rw [am_isRc i0]; rfl)) am_lk0 i0
def fm_453 (N : Nat) (y0 : Value) (h : am_H) : Option am_O := fg_453_0 N y0 h
theorem rm_453 {X : am_X} {d : Nat} {N : Nat} (y0 : Value) (h : am_H) (o : am_O) (i0 : am_isR y0 = true) (hs : fm_453 N y0 h = some o) : am_W X (d + 4) 453 0 (am_args 0 [y0]) [] h (fun q => q = o) := by
  rw [am_args_R i0]
  exact rg_453_0 y0 h o rfl i0 hs
def fg_456_108 (N : Nat) (rec_6 : Value → Int32 → Int32 → Int32 → am_H → Option am_O) (x0 : Value) (x1 : Int32) (x2 : Int32) (x3 : Int32) (h : am_H) : Option am_O := (rec_6 x0 x1 x2 ((x3 + 1)) h)
theorem rg_456_108 {X : am_X} {d : Nat} {N : Nat} {rec_6 : Value → Int32 → Int32 → Int32 → am_H → Option am_O} (q_6 : ∀ (x0 : Value) (x1 : Int32) (x2 : Int32) (x3 : Int32) (h : am_H) (o : am_O), rec_6 x0 x1 x2 x3 h = some o → ∀ lv : am_LV, (lv.lookup 0 = some x0) → (lv.lookup 1 = some (.int x1)) → (lv.lookup 2 = some (.int x2)) → (lv.lookup 3 = some (.int x3)) → (am_isR x0 = true) → am_W X (d + 1) 456 6 lv [] h (fun q => q = o)) {lv : am_LV} (x0 : Value) (x1 : Int32) (x2 : Int32) (x3 : Int32) (h : am_H) (o : am_O) (l0 : lv.lookup 0 = some x0) (l1 : lv.lookup 1 = some (.int x1)) (l2 : lv.lookup 2 = some (.int x2)) (l3 : lv.lookup 3 = some (.int x3)) (i0 : am_isR x0 = true) (hs : fg_456_108 N rec_6 x0 x1 x2 x3 h = some o) : am_W X (d + 1) 456 108 lv [] h (fun q => q = o) := by
  unfold fg_456_108 at hs
  refine aw_iinc (v := (x3 + 1)) (c := 1) (lv1 := am_put1 _ 3 _) (pc1 := 111) at_456_108 l3 (by decide) rfl rfl rfl ?_
  refine aw_goto at_456_111 ?_
  exact q_6 x0 x1 x2 ((x3 + 1)) h o hs _ (am_lk1 l0 rfl rfl) (am_lk1 l1 rfl rfl) (am_lk1 l2 rfl rfl) am_lk0 i0
def fg_456_96 (N : Nat) (rec_6 : Value → Int32 → Int32 → Int32 → am_H → Option am_O) (x0 : Value) (x1 : Int32) (x2 : Int32) (x3 : Int32) (x4 : Int32) (h : am_H) : Option am_O := ((am_vR (am_pG 3093 x0 h)).bind fun v1 => ((am_pA 0 v1 x3 h).bind fun v3 => (if am_pOk 12 x0 h then am_cV true (fm_335 x0 v3 x4 h) (fun h7 => (fg_456_108 N rec_6 x0 x1 x2 x3 h7)) else none)))
theorem rg_456_96 {X : am_X} {d : Nat} {N : Nat} {rec_6 : Value → Int32 → Int32 → Int32 → am_H → Option am_O} (q_6 : ∀ (x0 : Value) (x1 : Int32) (x2 : Int32) (x3 : Int32) (h : am_H) (o : am_O), rec_6 x0 x1 x2 x3 h = some o → ∀ lv : am_LV, (lv.lookup 0 = some x0) → (lv.lookup 1 = some (.int x1)) → (lv.lookup 2 = some (.int x2)) → (lv.lookup 3 = some (.int x3)) → (am_isR x0 = true) → am_W X (d + 1) 456 6 lv [] h (fun q => q = o)) {lv : am_LV} (x0 : Value) (x1 : Int32) (x2 : Int32) (x3 : Int32) (x4 : Int32) (h : am_H) (o : am_O) (l0 : lv.lookup 0 = some x0) (l1 : lv.lookup 1 = some (.int x1)) (l2 : lv.lookup 2 = some (.int x2)) (l3 : lv.lookup 3 = some (.int x3)) (l4 : lv.lookup 4 = some (.int x4)) (i0 : am_isR x0 = true) (hs : fg_456_96 N rec_6 x0 x1 x2 x3 x4 h = some o) : am_W X (d + 1) 456 96 lv [] h (fun q => q = o) := by
  unfold fg_456_96 at hs
  refine aw_vload_n (pc1 := 97) at_456_96 l0 i0 rfl ?_
  refine aw_vload_n (pc1 := 98) at_456_97 l0 i0 rfl ?_
  obtain ⟨v1, e2, hs1⟩ := am_bind hs
  clear hs
  refine aw_pG (pc1 := 101) at_456_98 (am_vR_s e2).1 rfl ?_
  refine aw_iload_n (pc1 := 102) at_456_101 l3 rfl ?_
  obtain ⟨v3, e4, hs2⟩ := am_bind hs1
  clear hs1
  refine aw_pA (pc1 := 103) at_456_102 (Or.inl ⟨rfl, rfl⟩) e4 rfl ?_
  refine aw_iload (pc1 := 105) at_456_103 l4 rfl ?_
  obtain ⟨z5, hs3⟩ := am_ift hs2
  clear hs2
  refine aw_call (F := fm_335 x0 v3 x4 h) (t := true) (na := 3) (kd := 1) (as := [x0, (.int v3), (.int x4)]) at_456_105 (am_k3v kb_335) mn_335 mk_335 rfl rfl (am_ok_v mi_335 (am_hl rfl (am_ccR i0 (am_ccI (am_ccI am_cats_0))) rfl) z5) (am_hc am_cats_0 rfl) (fun _ => ⟨rfl, hh_456⟩) (fun o1 hz9 => rm_335 x0 v3 x4 h o1 i0 hz9) ?_
  rcases am_cV_s hs3 with ⟨h7, f8, hs4⟩ | hs4
  · clear hs3
    refine Or.inl ⟨_, _, f8, ?_⟩
    show am_W X _ 456 108 _ [] h7 _
    exact rg_456_108 q_6 x0 x1 x2 x3 h7 o l0 l1 l2 l3 i0 hs4
  · clear hs3
    exact Or.inr hs4
def fg_456_94 (N : Nat) (rec_6 : Value → Int32 → Int32 → Int32 → am_H → Option am_O) (x0 : Value) (x1 : Int32) (x2 : Int32) (x3 : Int32) (s0 : Int32) (h : am_H) : Option am_O := (fg_456_96 N rec_6 x0 x1 x2 x3 s0 h)
theorem rg_456_94 {X : am_X} {d : Nat} {N : Nat} {rec_6 : Value → Int32 → Int32 → Int32 → am_H → Option am_O} (q_6 : ∀ (x0 : Value) (x1 : Int32) (x2 : Int32) (x3 : Int32) (h : am_H) (o : am_O), rec_6 x0 x1 x2 x3 h = some o → ∀ lv : am_LV, (lv.lookup 0 = some x0) → (lv.lookup 1 = some (.int x1)) → (lv.lookup 2 = some (.int x2)) → (lv.lookup 3 = some (.int x3)) → (am_isR x0 = true) → am_W X (d + 1) 456 6 lv [] h (fun q => q = o)) {lv : am_LV} (x0 : Value) (x1 : Int32) (x2 : Int32) (x3 : Int32) (s0 : Int32) (h : am_H) (o : am_O) (l0 : lv.lookup 0 = some x0) (l1 : lv.lookup 1 = some (.int x1)) (l2 : lv.lookup 2 = some (.int x2)) (l3 : lv.lookup 3 = some (.int x3)) (i0 : am_isR x0 = true) (hs : fg_456_94 N rec_6 x0 x1 x2 x3 s0 h = some o) : am_W X (d + 1) 456 94 lv [(.int s0)] h (fun q => q = o) := by
  unfold fg_456_94 at hs
  refine aw_istore (lv1 := am_put1 _ 4 _) (pc1 := 96) at_456_94 rfl rfl ?_
  exact rg_456_96 q_6 x0 x1 x2 x3 s0 h o (am_lk1 l0 rfl rfl) (am_lk1 l1 rfl rfl) (am_lk1 l2 rfl rfl) (am_lk1 l3 rfl rfl) am_lk0 i0 hs
def fg_456_77 (N : Nat) (rec_6 : Value → Int32 → Int32 → Int32 → am_H → Option am_O) (x0 : Value) (x1 : Int32) (x2 : Int32) (x3 : Int32) (x4 : Int32) (x5 : Int32) (h : am_H) : Option am_O := (if x5 < (x1 + x2) then (fg_456_94 N rec_6 x0 x1 x2 x3 x4 h) else (fg_456_94 N rec_6 x0 x1 x2 x3 ((x4 - x2)) h))
theorem rg_456_77 {X : am_X} {d : Nat} {N : Nat} {rec_6 : Value → Int32 → Int32 → Int32 → am_H → Option am_O} (q_6 : ∀ (x0 : Value) (x1 : Int32) (x2 : Int32) (x3 : Int32) (h : am_H) (o : am_O), rec_6 x0 x1 x2 x3 h = some o → ∀ lv : am_LV, (lv.lookup 0 = some x0) → (lv.lookup 1 = some (.int x1)) → (lv.lookup 2 = some (.int x2)) → (lv.lookup 3 = some (.int x3)) → (am_isR x0 = true) → am_W X (d + 1) 456 6 lv [] h (fun q => q = o)) {lv : am_LV} (x0 : Value) (x1 : Int32) (x2 : Int32) (x3 : Int32) (x4 : Int32) (x5 : Int32) (h : am_H) (o : am_O) (l0 : lv.lookup 0 = some x0) (l1 : lv.lookup 1 = some (.int x1)) (l2 : lv.lookup 2 = some (.int x2)) (l3 : lv.lookup 3 = some (.int x3)) (l4 : lv.lookup 4 = some (.int x4)) (l5 : lv.lookup 5 = some (.int x5)) (i0 : am_isR x0 = true) (hs : fg_456_77 N rec_6 x0 x1 x2 x3 x4 x5 h = some o) : am_W X (d + 1) 456 77 lv [] h (fun q => q = o) := by
  unfold fg_456_77 at hs
  refine aw_iload (pc1 := 79) at_456_77 l5 rfl ?_
  refine aw_iload_n (pc1 := 80) at_456_79 l1 rfl ?_
  refine aw_iload_n (pc1 := 81) at_456_80 l2 rfl ?_
  refine aw_iadd (v := (x1 + x2)) (pc1 := 82) at_456_81 rfl rfl ?_
  by_cases c1 : x5 < (x1 + x2)
  · rw [if_pos c1] at hs
    refine aw_iclt_t at_456_82 c1 ?_
    refine aw_iload (pc1 := 94) at_456_92 l4 rfl ?_
    exact rg_456_94 q_6 x0 x1 x2 x3 x4 h o l0 l1 l2 l3 i0 hs
  · rw [if_neg c1] at hs
    refine aw_iclt_f (pc1 := 85) at_456_82 c1 rfl ?_
    refine aw_iload (pc1 := 87) at_456_85 l4 rfl ?_
    refine aw_iload_n (pc1 := 88) at_456_87 l2 rfl ?_
    refine aw_isub (v := (x4 - x2)) (pc1 := 89) at_456_88 rfl rfl ?_
    refine aw_goto at_456_89 ?_
    exact rg_456_94 q_6 x0 x1 x2 x3 ((x4 - x2)) h o l0 l1 l2 l3 i0 hs
def fg_456_29 (N : Nat) (rec_6 : Value → Int32 → Int32 → Int32 → am_H → Option am_O) (x0 : Value) (x1 : Int32) (x2 : Int32) (x3 : Int32) (h : am_H) : Option am_O := ((am_vR (am_pG 3094 x0 h)).bind fun v1 => ((am_pA 0 v1 x3 h).bind fun v3 => ((am_vR (am_pG 3093 x0 h)).bind fun v5 => ((am_pA 0 v5 x3 h).bind fun v7 => (if v7 ≤ 16 then (fg_456_96 N rec_6 x0 x1 x2 x3 v3 h) else (if x1 ≤ x3 then (fg_456_96 N rec_6 x0 x1 x2 x3 v3 h) else (if ((x3 + 1) + v3) ≤ x1 then (fg_456_77 N rec_6 x0 x1 x2 x3 v3 (((x3 + 1) + v3)) h) else (if (x1 + x2) ≤ ((x3 + 1) + v3) then (fg_456_77 N rec_6 x0 x1 x2 x3 v3 (((x3 + 1) + v3)) h) else some (.inl (some (.int 0), h))))))))))
theorem rg_456_29 {X : am_X} {d : Nat} {N : Nat} {rec_6 : Value → Int32 → Int32 → Int32 → am_H → Option am_O} (q_6 : ∀ (x0 : Value) (x1 : Int32) (x2 : Int32) (x3 : Int32) (h : am_H) (o : am_O), rec_6 x0 x1 x2 x3 h = some o → ∀ lv : am_LV, (lv.lookup 0 = some x0) → (lv.lookup 1 = some (.int x1)) → (lv.lookup 2 = some (.int x2)) → (lv.lookup 3 = some (.int x3)) → (am_isR x0 = true) → am_W X (d + 1) 456 6 lv [] h (fun q => q = o)) {lv : am_LV} (x0 : Value) (x1 : Int32) (x2 : Int32) (x3 : Int32) (h : am_H) (o : am_O) (l0 : lv.lookup 0 = some x0) (l1 : lv.lookup 1 = some (.int x1)) (l2 : lv.lookup 2 = some (.int x2)) (l3 : lv.lookup 3 = some (.int x3)) (i0 : am_isR x0 = true) (hs : fg_456_29 N rec_6 x0 x1 x2 x3 h = some o) : am_W X (d + 1) 456 29 lv [] h (fun q => q = o) := by
  unfold fg_456_29 at hs
  refine aw_vload_n (pc1 := 30) at_456_29 l0 i0 rfl ?_
  obtain ⟨v1, e2, hs1⟩ := am_bind hs
  clear hs
  refine aw_pG (pc1 := 33) at_456_30 (am_vR_s e2).1 rfl ?_
  refine aw_iload_n (pc1 := 34) at_456_33 l3 rfl ?_
  obtain ⟨v3, e4, hs2⟩ := am_bind hs1
  clear hs1
  refine aw_pA (pc1 := 35) at_456_34 (Or.inl ⟨rfl, rfl⟩) e4 rfl ?_
  refine aw_istore (lv1 := am_put1 _ 4 _) (pc1 := 37) at_456_35 rfl rfl ?_
  refine aw_vload_n (pc1 := 38) at_456_37 (am_lk1 l0 rfl rfl) i0 rfl ?_
  obtain ⟨v5, e6, hs3⟩ := am_bind hs2
  clear hs2
  refine aw_pG (pc1 := 41) at_456_38 (am_vR_s e6).1 rfl ?_
  refine aw_iload_n (pc1 := 42) at_456_41 (am_lk1 l3 rfl rfl) rfl ?_
  obtain ⟨v7, e8, hs4⟩ := am_bind hs3
  clear hs3
  refine aw_pA (pc1 := 43) at_456_42 (Or.inl ⟨rfl, rfl⟩) e8 rfl ?_
  refine aw_bipush (v := 16) (pc1 := 45) at_456_43 (by decide) rfl ?_
  by_cases c9 : v7 ≤ 16
  · rw [if_pos c9] at hs4
    refine aw_icle_t at_456_45 c9 ?_
    exact rg_456_96 q_6 x0 x1 x2 x3 v3 h o (am_lk1 l0 rfl rfl) (am_lk1 l1 rfl rfl) (am_lk1 l2 rfl rfl) (am_lk1 l3 rfl rfl) am_lk0 i0 hs4
  · rw [if_neg c9] at hs4
    refine aw_icle_f (pc1 := 48) at_456_45 c9 rfl ?_
    refine aw_iload_n (pc1 := 49) at_456_48 (am_lk1 l3 rfl rfl) rfl ?_
    refine aw_iload_n (pc1 := 50) at_456_49 (am_lk1 l1 rfl rfl) rfl ?_
    by_cases c10 : x1 ≤ x3
    · rw [if_pos c10] at hs4
      refine aw_icge_t at_456_50 c10 ?_
      exact rg_456_96 q_6 x0 x1 x2 x3 v3 h o (am_lk1 l0 rfl rfl) (am_lk1 l1 rfl rfl) (am_lk1 l2 rfl rfl) (am_lk1 l3 rfl rfl) am_lk0 i0 hs4
    · rw [if_neg c10] at hs4
      refine aw_icge_f (pc1 := 53) at_456_50 c10 rfl ?_
      refine aw_iload_n (pc1 := 54) at_456_53 (am_lk1 l3 rfl rfl) rfl ?_
      refine aw_iconst (v := 1) (pc1 := 55) at_456_54 (by decide) rfl ?_
      refine aw_iadd (v := (x3 + 1)) (pc1 := 56) at_456_55 rfl rfl ?_
      refine aw_iload (pc1 := 58) at_456_56 am_lk0 rfl ?_
      refine aw_iadd (v := ((x3 + 1) + v3)) (pc1 := 59) at_456_58 rfl rfl ?_
      refine aw_istore (lv1 := am_put1 _ 5 _) (pc1 := 61) at_456_59 rfl rfl ?_
      refine aw_iload (pc1 := 63) at_456_61 am_lk0 rfl ?_
      refine aw_iload_n (pc1 := 64) at_456_63 (am_lk1 (am_lk1 l1 rfl rfl) rfl rfl) rfl ?_
      by_cases c11 : ((x3 + 1) + v3) ≤ x1
      · rw [if_pos c11] at hs4
        refine aw_icle_t at_456_64 c11 ?_
        exact rg_456_77 q_6 x0 x1 x2 x3 v3 (((x3 + 1) + v3)) h o (am_lk1 (am_lk1 l0 rfl rfl) rfl rfl) (am_lk1 (am_lk1 l1 rfl rfl) rfl rfl) (am_lk1 (am_lk1 l2 rfl rfl) rfl rfl) (am_lk1 (am_lk1 l3 rfl rfl) rfl rfl) (am_lk1 am_lk0 rfl rfl) am_lk0 i0 hs4
      · rw [if_neg c11] at hs4
        refine aw_icle_f (pc1 := 67) at_456_64 c11 rfl ?_
        refine aw_iload (pc1 := 69) at_456_67 am_lk0 rfl ?_
        refine aw_iload_n (pc1 := 70) at_456_69 (am_lk1 (am_lk1 l1 rfl rfl) rfl rfl) rfl ?_
        refine aw_iload_n (pc1 := 71) at_456_70 (am_lk1 (am_lk1 l2 rfl rfl) rfl rfl) rfl ?_
        refine aw_iadd (v := (x1 + x2)) (pc1 := 72) at_456_71 rfl rfl ?_
        by_cases c12 : (x1 + x2) ≤ ((x3 + 1) + v3)
        · rw [if_pos c12] at hs4
          refine aw_icge_t at_456_72 c12 ?_
          exact rg_456_77 q_6 x0 x1 x2 x3 v3 (((x3 + 1) + v3)) h o (am_lk1 (am_lk1 l0 rfl rfl) rfl rfl) (am_lk1 (am_lk1 l1 rfl rfl) rfl rfl) (am_lk1 (am_lk1 l2 rfl rfl) rfl rfl) (am_lk1 (am_lk1 l3 rfl rfl) rfl rfl) (am_lk1 am_lk0 rfl rfl) am_lk0 i0 hs4
        · rw [if_neg c12] at hs4
          refine aw_icge_f (pc1 := 75) at_456_72 c12 rfl ?_
          refine aw_iconst (v := 0) (pc1 := 76) at_456_75 (by decide) rfl ?_
          cases hs4
          exact aw_iret at_456_76 (by rw [rt_456]; decide) rfl
def fg_456_6 (N : Nat) : Nat → Value → Int32 → Int32 → Int32 → am_H → Option am_O
  | 0 => fun _ _ _ _ _ => none
  | K + 1 => fun x0 x1 x2 x3 h => ((am_vI (am_pG 3090 x0 h)).bind fun v1 => (if v1 ≤ x3 then some (.inl (some (.int 1), h)) else (if x3 < x1 then (fg_456_29 N (fg_456_6 N K) x0 x1 x2 x3 h) else (if (x1 + x2) ≤ x3 then (fg_456_29 N (fg_456_6 N K) x0 x1 x2 x3 h) else (fg_456_108 N (fg_456_6 N K) x0 x1 x2 x3 h)))))
theorem rg_456_6 {X : am_X} {d : Nat} {N : Nat} : ∀ (K : Nat) (x0 : Value) (x1 : Int32) (x2 : Int32) (x3 : Int32) (h : am_H) (o : am_O), fg_456_6 N K x0 x1 x2 x3 h = some o → ∀ lv : am_LV, (lv.lookup 0 = some x0) → (lv.lookup 1 = some (.int x1)) → (lv.lookup 2 = some (.int x2)) → (lv.lookup 3 = some (.int x3)) → (am_isR x0 = true) → am_W X (d + 1) 456 6 lv [] h (fun q => q = o) := by
  intro K
  induction K with
  | zero => intro x0 x1 x2 x3 h o hs; cases hs
  | succ K ih =>
    intro x0 x1 x2 x3 h o hs lv l0 l1 l2 l3 i0
    unfold fg_456_6 at hs
    refine aw_iload_n (pc1 := 7) at_456_6 l3 rfl ?_
    refine aw_vload_n (pc1 := 8) at_456_7 l0 i0 rfl ?_
    obtain ⟨v1, e2, hs1⟩ := am_bind hs
    clear hs
    refine aw_pG (pc1 := 11) at_456_8 (am_vI_s e2) rfl ?_
    by_cases c3 : v1 ≤ x3
    · rw [if_pos c3] at hs1
      refine aw_icge_t at_456_11 c3 ?_
      refine aw_iconst (v := 1) (pc1 := 115) at_456_114 (by decide) rfl ?_
      cases hs1
      exact aw_iret at_456_115 (by rw [rt_456]; decide) rfl
    · rw [if_neg c3] at hs1
      refine aw_icge_f (pc1 := 14) at_456_11 c3 rfl ?_
      refine aw_iload_n (pc1 := 15) at_456_14 l3 rfl ?_
      refine aw_iload_n (pc1 := 16) at_456_15 l1 rfl ?_
      by_cases c4 : x3 < x1
      · rw [if_pos c4] at hs1
        refine aw_iclt_t at_456_16 c4 ?_
        exact rg_456_29 (fun z0 z1 z2 z3 h o hs1 => ih z0 z1 z2 z3 h o hs1) x0 x1 x2 x3 h o l0 l1 l2 l3 i0 hs1
      · rw [if_neg c4] at hs1
        refine aw_iclt_f (pc1 := 19) at_456_16 c4 rfl ?_
        refine aw_iload_n (pc1 := 20) at_456_19 l3 rfl ?_
        refine aw_iload_n (pc1 := 21) at_456_20 l1 rfl ?_
        refine aw_iload_n (pc1 := 22) at_456_21 l2 rfl ?_
        refine aw_iadd (v := (x1 + x2)) (pc1 := 23) at_456_22 rfl rfl ?_
        by_cases c5 : (x1 + x2) ≤ x3
        · rw [if_pos c5] at hs1
          refine aw_icge_t at_456_23 c5 ?_
          exact rg_456_29 (fun z0 z1 z2 z3 h o hs1 => ih z0 z1 z2 z3 h o hs1) x0 x1 x2 x3 h o l0 l1 l2 l3 i0 hs1
        · rw [if_neg c5] at hs1
          refine aw_icge_f (pc1 := 26) at_456_23 c5 rfl ?_
          refine aw_goto at_456_26 ?_
          exact rg_456_108 (fun z0 z1 z2 z3 h o hs1 => ih z0 z1 z2 z3 h o hs1) x0 x1 x2 x3 h o l0 l1 l2 l3 i0 hs1
def fg_456_0 (N : Nat) (x0 : Value) (x1 : Int32) (x2 : Int32) (h : am_H) : Option am_O := (if am_pOk 12 x0 h then am_cV true (fm_451 x0 h) (fun h3 => (fg_456_6 N N x0 x1 x2 0 h3)) else none)
theorem rg_456_0 {X : am_X} {d : Nat} {N : Nat} {lv : am_LV} (x0 : Value) (x1 : Int32) (x2 : Int32) (h : am_H) (o : am_O) (l0 : lv.lookup 0 = some x0) (l1 : lv.lookup 1 = some (.int x1)) (l2 : lv.lookup 2 = some (.int x2)) (i0 : am_isR x0 = true) (hs : fg_456_0 N x0 x1 x2 h = some o) : am_W X (d + 1) 456 0 lv [] h (fun q => q = o) := by
  unfold fg_456_0 at hs
  refine aw_vload_n (pc1 := 1) at_456_0 l0 i0 rfl ?_
  obtain ⟨z1, hs1⟩ := am_ift hs
  clear hs
  refine aw_call (F := fm_451 x0 h) (t := true) (na := 1) (kd := 1) (as := [x0]) at_456_1 (am_k3v kb_451) mn_451 mk_451 rfl rfl (am_ok_v mi_451 (am_hl rfl (am_ccR i0 am_cats_0) rfl) z1) (am_hc am_cats_0 rfl) (fun _ => ⟨rfl, hh_456⟩) (fun o1 hz9 => rm_451 x0 h o1 i0 hz9) ?_
  rcases am_cV_s hs1 with ⟨h3, f4, hs2⟩ | hs2
  · clear hs1
    refine Or.inl ⟨_, _, f4, ?_⟩
    show am_W X _ 456 4 _ [] h3 _
    refine aw_iconst (v := 0) (pc1 := 5) at_456_4 (by decide) rfl ?_
    refine aw_istore_n (lv1 := am_put1 _ 3 _) (pc1 := 6) at_456_5 rfl rfl ?_
    exact rg_456_6 N x0 x1 x2 0 h3 o hs2 _ (am_lk1 l0 rfl rfl) (am_lk1 l1 rfl rfl) (am_lk1 l2 rfl rfl) am_lk0 i0
  · clear hs1
    exact Or.inr hs2
def fm_456 (N : Nat) (y0 : Value) (y1 : Int32) (y2 : Int32) (h : am_H) : Option am_O := fg_456_0 N y0 y1 y2 h
theorem rm_456 {X : am_X} {d : Nat} {N : Nat} (y0 : Value) (y1 : Int32) (y2 : Int32) (h : am_H) (o : am_O) (i0 : am_isR y0 = true) (hs : fm_456 N y0 y1 y2 h = some o) : am_W X (d + 1) 456 0 (am_args 0 [y0, .int y1, .int y2]) [] h (fun q => q = o) := by
  rw [am_args_R i0, am_args_I, am_args_I]
  exact rg_456_0 y0 y1 y2 h o rfl rfl rfl i0 hs
def fg_455_70 (N : Nat) (h : am_H) : Option am_O := some (.inl (none, h))
theorem rg_455_70 {X : am_X} {d : Nat} {N : Nat} {lv : am_LV} (h : am_H) (o : am_O) (hs : fg_455_70 N h = some o) : am_W X (d + 4) 455 70 lv [] h (fun q => q = o) := by
  unfold fg_455_70 at hs
  cases hs
  exact aw_vret at_455_70 rt_455 rfl
def fg_455_64 (N : Nat) (rec_2 : Value → Int32 → am_H → Option am_O) (x0 : Value) (x1 : Int32) (h : am_H) : Option am_O := (rec_2 x0 ((x1 + 1)) h)
theorem rg_455_64 {X : am_X} {d : Nat} {N : Nat} {rec_2 : Value → Int32 → am_H → Option am_O} (q_2 : ∀ (x0 : Value) (x1 : Int32) (h : am_H) (o : am_O), rec_2 x0 x1 h = some o → ∀ lv : am_LV, (lv.lookup 0 = some x0) → (lv.lookup 1 = some (.int x1)) → (am_isR x0 = true) → am_W X (d + 4) 455 2 lv [] h (fun q => q = o)) {lv : am_LV} (x0 : Value) (x1 : Int32) (h : am_H) (o : am_O) (l0 : lv.lookup 0 = some x0) (l1 : lv.lookup 1 = some (.int x1)) (i0 : am_isR x0 = true) (hs : fg_455_64 N rec_2 x0 x1 h = some o) : am_W X (d + 4) 455 64 lv [] h (fun q => q = o) := by
  unfold fg_455_64 at hs
  refine aw_iinc (v := (x1 + 1)) (c := 1) (lv1 := am_put1 _ 1 _) (pc1 := 67) at_455_64 l1 (by decide) rfl rfl rfl ?_
  refine aw_goto at_455_67 ?_
  exact q_2 x0 ((x1 + 1)) h o hs _ (am_lk1 l0 rfl (by rw [am_isRc i0]; rfl)) am_lk0 i0
def fg_455_58 (N : Nat) (rec_2 : Value → Int32 → am_H → Option am_O) (rec_19 : Value → Int32 → Int32 → am_H → Option am_O) (x0 : Value) (x1 : Int32) (x2 : Int32) (h : am_H) : Option am_O := (rec_19 x0 x1 ((x2 + 1)) h)
theorem rg_455_58 {X : am_X} {d : Nat} {N : Nat} {rec_2 : Value → Int32 → am_H → Option am_O} {rec_19 : Value → Int32 → Int32 → am_H → Option am_O} (q_2 : ∀ (x0 : Value) (x1 : Int32) (h : am_H) (o : am_O), rec_2 x0 x1 h = some o → ∀ lv : am_LV, (lv.lookup 0 = some x0) → (lv.lookup 1 = some (.int x1)) → (am_isR x0 = true) → am_W X (d + 4) 455 2 lv [] h (fun q => q = o)) (q_19 : ∀ (x0 : Value) (x1 : Int32) (x2 : Int32) (h : am_H) (o : am_O), rec_19 x0 x1 x2 h = some o → ∀ lv : am_LV, (lv.lookup 0 = some x0) → (lv.lookup 1 = some (.int x1)) → (lv.lookup 2 = some (.int x2)) → (am_isR x0 = true) → am_W X (d + 4) 455 19 lv [] h (fun q => q = o)) {lv : am_LV} (x0 : Value) (x1 : Int32) (x2 : Int32) (h : am_H) (o : am_O) (l0 : lv.lookup 0 = some x0) (l1 : lv.lookup 1 = some (.int x1)) (l2 : lv.lookup 2 = some (.int x2)) (i0 : am_isR x0 = true) (hs : fg_455_58 N rec_2 rec_19 x0 x1 x2 h = some o) : am_W X (d + 4) 455 58 lv [] h (fun q => q = o) := by
  unfold fg_455_58 at hs
  refine aw_iinc (v := (x2 + 1)) (c := 1) (lv1 := am_put1 _ 2 _) (pc1 := 61) at_455_58 l2 (by decide) rfl rfl rfl ?_
  refine aw_goto at_455_61 ?_
  exact q_19 x0 x1 ((x2 + 1)) h o hs _ (am_lk1 l0 rfl rfl) (am_lk1 l1 rfl rfl) am_lk0 i0
def fg_455_19 (N : Nat) (rec_2 : Value → Int32 → am_H → Option am_O) : Nat → Value → Int32 → Int32 → am_H → Option am_O
  | 0 => fun _ _ _ _ => none
  | K + 1 => fun x0 x1 x2 h => (if 4 ≤ x2 then (fg_455_64 N rec_2 x0 x1 h) else ((am_vI (am_pG 3167 x0 h)).bind fun v2 => (if ¬ v2 = 0 then (fg_455_64 N rec_2 x0 x1 h) else ((am_vI (am_pG 3090 x0 h)).bind fun v5 => (if v5 < (x1 + x2) then (fg_455_58 N rec_2 (fg_455_19 N rec_2 K) x0 x1 x2 h) else (if am_pOk 12 x0 h then am_cI true (fm_456 N x0 x1 x2 h) (fun v9 h10 => (if v9 = 0 then (fg_455_58 N rec_2 (fg_455_19 N rec_2 K) x0 x1 x2 h10) else (if am_pOk 12 x0 h10 then am_cI true (fm_444 N x0 h10) (fun v14 h15 => ((am_pP 3167 x0 (.int v14) h15).bind fun h17 => (fg_455_58 N rec_2 (fg_455_19 N rec_2 K) x0 x1 x2 h17))) else none))) else none))))))
theorem rg_455_19 {X : am_X} {d : Nat} {N : Nat} {rec_2 : Value → Int32 → am_H → Option am_O} (q_2 : ∀ (x0 : Value) (x1 : Int32) (h : am_H) (o : am_O), rec_2 x0 x1 h = some o → ∀ lv : am_LV, (lv.lookup 0 = some x0) → (lv.lookup 1 = some (.int x1)) → (am_isR x0 = true) → am_W X (d + 4) 455 2 lv [] h (fun q => q = o)) : ∀ (K : Nat) (x0 : Value) (x1 : Int32) (x2 : Int32) (h : am_H) (o : am_O), fg_455_19 N rec_2 K x0 x1 x2 h = some o → ∀ lv : am_LV, (lv.lookup 0 = some x0) → (lv.lookup 1 = some (.int x1)) → (lv.lookup 2 = some (.int x2)) → (am_isR x0 = true) → am_W X (d + 4) 455 19 lv [] h (fun q => q = o) := by
  intro K
  induction K with
  | zero => intro x0 x1 x2 h o hs; cases hs
  | succ K ih =>
    intro x0 x1 x2 h o hs lv l0 l1 l2 i0
    unfold fg_455_19 at hs
    refine aw_iload_n (pc1 := 20) at_455_19 l2 rfl ?_
    refine aw_iconst (v := 4) (pc1 := 21) at_455_20 (by decide) rfl ?_
    by_cases c1 : 4 ≤ x2
    · rw [if_pos c1] at hs
      refine aw_icge_t at_455_21 c1 ?_
      exact rg_455_64 q_2 x0 x1 h o l0 l1 i0 hs
    · rw [if_neg c1] at hs
      refine aw_icge_f (pc1 := 24) at_455_21 c1 rfl ?_
      refine aw_vload_n (pc1 := 25) at_455_24 l0 i0 rfl ?_
      obtain ⟨v2, e3, hs1⟩ := am_bind hs
      clear hs
      refine aw_pG (pc1 := 28) at_455_25 (am_vI_s e3) rfl ?_
      by_cases c4 : ¬ v2 = 0
      · rw [if_pos c4] at hs1
        refine aw_ifne_t at_455_28 c4 ?_
        exact rg_455_64 q_2 x0 x1 h o l0 l1 i0 hs1
      · rw [if_neg c4] at hs1
        refine aw_ifne_f (pc1 := 31) at_455_28 c4 rfl ?_
        refine aw_iload_n (pc1 := 32) at_455_31 l1 rfl ?_
        refine aw_iload_n (pc1 := 33) at_455_32 l2 rfl ?_
        refine aw_iadd (v := (x1 + x2)) (pc1 := 34) at_455_33 rfl rfl ?_
        refine aw_vload_n (pc1 := 35) at_455_34 l0 i0 rfl ?_
        obtain ⟨v5, e6, hs2⟩ := am_bind hs1
        clear hs1
        refine aw_pG (pc1 := 38) at_455_35 (am_vI_s e6) rfl ?_
        by_cases c7 : v5 < (x1 + x2)
        · rw [if_pos c7] at hs2
          refine aw_icgt_t at_455_38 c7 ?_
          exact rg_455_58 q_2 (fun z0 z1 z2 h o hs2 => ih z0 z1 z2 h o hs2) x0 x1 x2 h o l0 l1 l2 i0 hs2
        · rw [if_neg c7] at hs2
          refine aw_icgt_f (pc1 := 41) at_455_38 c7 rfl ?_
          refine aw_vload_n (pc1 := 42) at_455_41 l0 i0 rfl ?_
          refine aw_iload_n (pc1 := 43) at_455_42 l1 rfl ?_
          refine aw_iload_n (pc1 := 44) at_455_43 l2 rfl ?_
          obtain ⟨z8, hs3⟩ := am_ift hs2
          clear hs2
          refine aw_call (F := fm_456 N x0 x1 x2 h) (t := true) (na := 3) (kd := 1) (as := [x0, (.int x1), (.int x2)]) at_455_44 (am_k3v kb_456) mn_456 mk_456 rfl rfl (am_ok_v mi_456 (am_hl rfl (am_ccR i0 (am_ccI (am_ccI am_cats_0))) rfl) z8) (am_hc am_cats_0 rfl) (fun _ => ⟨rfl, hh_455⟩) (fun o1 hz9 => rm_456 x0 x1 x2 h o1 i0 hz9) ?_
          rcases am_cI_s hs3 with ⟨v9, h10, f11, hs4⟩ | hs4
          · clear hs3
            refine Or.inl ⟨_, _, f11, ?_⟩
            show am_W X _ 455 47 _ [(.int v9)] h10 _
            by_cases c12 : v9 = 0
            · rw [if_pos c12] at hs4
              refine aw_ifeq_t at_455_47 c12 ?_
              exact rg_455_58 q_2 (fun z0 z1 z2 h o hs4 => ih z0 z1 z2 h o hs4) x0 x1 x2 h10 o l0 l1 l2 i0 hs4
            · rw [if_neg c12] at hs4
              refine aw_ifeq_f (pc1 := 50) at_455_47 c12 rfl ?_
              refine aw_vload_n (pc1 := 51) at_455_50 l0 i0 rfl ?_
              refine aw_vload_n (pc1 := 52) at_455_51 l0 i0 rfl ?_
              obtain ⟨z13, hs5⟩ := am_ift hs4
              clear hs4
              refine aw_call (F := fm_444 N x0 h10) (t := true) (na := 1) (kd := 1) (as := [x0]) at_455_52 (am_k3v kb_444) mn_444 mk_444 rfl rfl (am_ok_v mi_444 (am_hl rfl (am_ccR i0 am_cats_0) rfl) z13) (am_hc (am_ccR i0 am_cats_0) rfl) (fun _ => ⟨rfl, hh_455⟩) (fun o1 hz9 => rm_444 x0 h10 o1 i0 hz9) ?_
              rcases am_cI_s hs5 with ⟨v14, h15, f16, hs6⟩ | hs6
              · clear hs5
                refine Or.inl ⟨_, _, f16, ?_⟩
                show am_W X _ 455 55 _ [(.int v14), x0] h15 _
                obtain ⟨h17, e18, hs7⟩ := am_bind hs6
                clear hs6
                refine aw_pP (pc1 := 58) at_455_55 e18 rfl ?_
                exact rg_455_58 q_2 (fun z0 z1 z2 h o hs7 => ih z0 z1 z2 h o hs7) x0 x1 x2 h17 o l0 l1 l2 i0 hs7
              · clear hs5
                exact Or.inr hs6
          · clear hs3
            exact Or.inr hs4
def fg_455_2 (N : Nat) : Nat → Value → Int32 → am_H → Option am_O
  | 0 => fun _ _ _ => none
  | K + 1 => fun x0 x1 h => ((am_vI (am_pG 3090 x0 h)).bind fun v1 => (if v1 ≤ x1 then (fg_455_70 N h) else ((am_vI (am_pG 3167 x0 h)).bind fun v4 => (if ¬ v4 = 0 then (fg_455_70 N h) else (fg_455_19 N (fg_455_2 N K) N x0 x1 1 h)))))
theorem rg_455_2 {X : am_X} {d : Nat} {N : Nat} : ∀ (K : Nat) (x0 : Value) (x1 : Int32) (h : am_H) (o : am_O), fg_455_2 N K x0 x1 h = some o → ∀ lv : am_LV, (lv.lookup 0 = some x0) → (lv.lookup 1 = some (.int x1)) → (am_isR x0 = true) → am_W X (d + 4) 455 2 lv [] h (fun q => q = o) := by
  intro K
  induction K with
  | zero => intro x0 x1 h o hs; cases hs
  | succ K ih =>
    intro x0 x1 h o hs lv l0 l1 i0
    unfold fg_455_2 at hs
    refine aw_iload_n (pc1 := 3) at_455_2 l1 rfl ?_
    refine aw_vload_n (pc1 := 4) at_455_3 l0 i0 rfl ?_
    obtain ⟨v1, e2, hs1⟩ := am_bind hs
    clear hs
    refine aw_pG (pc1 := 7) at_455_4 (am_vI_s e2) rfl ?_
    by_cases c3 : v1 ≤ x1
    · rw [if_pos c3] at hs1
      refine aw_icge_t at_455_7 c3 ?_
      exact rg_455_70 h o   hs1
    · rw [if_neg c3] at hs1
      refine aw_icge_f (pc1 := 10) at_455_7 c3 rfl ?_
      refine aw_vload_n (pc1 := 11) at_455_10 l0 i0 rfl ?_
      obtain ⟨v4, e5, hs2⟩ := am_bind hs1
      clear hs1
      refine aw_pG (pc1 := 14) at_455_11 (am_vI_s e5) rfl ?_
      by_cases c6 : ¬ v4 = 0
      · rw [if_pos c6] at hs2
        refine aw_ifne_t at_455_14 c6 ?_
        exact rg_455_70 h o   hs2
      · rw [if_neg c6] at hs2
        refine aw_ifne_f (pc1 := 17) at_455_14 c6 rfl ?_
        refine aw_iconst (v := 1) (pc1 := 18) at_455_17 (by decide) rfl ?_
        refine aw_istore_n (lv1 := am_put1 _ 2 _) (pc1 := 19) at_455_18 rfl rfl ?_
        exact rg_455_19 (fun z0 z1 h o hs2 => ih z0 z1 h o hs2) N x0 x1 1 h o hs2 _ (am_lk1 l0 rfl rfl) (am_lk1 l1 rfl rfl) am_lk0 i0
def fg_455_0 (N : Nat) (x0 : Value) (h : am_H) : Option am_O := (fg_455_2 N N x0 0 h)
theorem rg_455_0 {X : am_X} {d : Nat} {N : Nat} {lv : am_LV} (x0 : Value) (h : am_H) (o : am_O) (l0 : lv.lookup 0 = some x0) (i0 : am_isR x0 = true) (hs : fg_455_0 N x0 h = some o) : am_W X (d + 4) 455 0 lv [] h (fun q => q = o) := by
  unfold fg_455_0 at hs
  refine aw_iconst (v := 0) (pc1 := 1) at_455_0 (by decide) rfl ?_
  refine aw_istore_n (lv1 := am_put1 _ 1 _) (pc1 := 2) at_455_1 rfl rfl ?_
  exact rg_455_2 N x0 0 h o hs _ (am_lk1 l0 rfl (by rw [am_isRc i0]; rfl)) am_lk0 i0
def fm_455 (N : Nat) (y0 : Value) (h : am_H) : Option am_O := fg_455_0 N y0 h
theorem rm_455 {X : am_X} {d : Nat} {N : Nat} (y0 : Value) (h : am_H) (o : am_O) (i0 : am_isR y0 = true) (hs : fm_455 N y0 h = some o) : am_W X (d + 4) 455 0 (am_args 0 [y0]) [] h (fun q => q = o) := by
  rw [am_args_R i0]
  exact rg_455_0 y0 h o rfl i0 hs
def fg_459_68 (s0 : Value) (s1 : Int32) (h : am_H) : Option am_O := (if am_pOk 12 s0 h then am_cV true (fm_335 s0 s1 0 h) (fun h3 => some (.inl (none, h3))) else none)
theorem rg_459_68 {X : am_X} {d : Nat} {lv : am_LV} (s0 : Value) (s1 : Int32) (h : am_H) (o : am_O) (j0 : am_isR s0 = true) (hs : fg_459_68 s0 s1 h = some o) : am_W X (d + 1) 459 68 lv [(.int s1), s0] h (fun q => q = o) := by
  unfold fg_459_68 at hs
  refine aw_iconst (v := 0) (pc1 := 69) at_459_68 (by decide) rfl ?_
  obtain ⟨z1, hs1⟩ := am_ift hs
  clear hs
  refine aw_call (F := fm_335 s0 s1 0 h) (t := true) (na := 3) (kd := 1) (as := [s0, (.int s1), (.int 0)]) at_459_69 (am_k3v kb_335) mn_335 mk_335 rfl rfl (am_ok_v mi_335 (am_hl rfl (am_ccR j0 (am_ccI (am_ccI am_cats_0))) rfl) z1) (am_hc am_cats_0 rfl) (fun _ => ⟨rfl, hh_459⟩) (fun o1 hz9 => rm_335 s0 s1 0 h o1 j0 hz9) ?_
  rcases am_cV_s hs1 with ⟨h3, f4, hs2⟩ | hs2
  · clear hs1
    refine Or.inl ⟨_, _, f4, ?_⟩
    show am_W X _ 459 72 _ [] h3 _
    cases hs2
    exact aw_vret at_459_72 rt_459 rfl
  · clear hs1
    exact Or.inr hs2
def fg_459_42 (x0 : Value) (x1 : Int32) (s0 : Value) (s1 : Int32) (s2 : Int32) (h : am_H) : Option am_O := (if am_pOk 12 s0 h then am_cV true (fm_335 s0 s1 s2 h) (fun h3 => (if ¬ x1 = 2 then (if ¬ x1 = 4 then (fg_459_68 x0 7 h3) else (fg_459_68 x0 9 h3)) else (fg_459_68 x0 8 h3))) else none)
theorem rg_459_42 {X : am_X} {d : Nat} {lv : am_LV} (x0 : Value) (x1 : Int32) (s0 : Value) (s1 : Int32) (s2 : Int32) (h : am_H) (o : am_O) (l0 : lv.lookup 0 = some x0) (l1 : lv.lookup 1 = some (.int x1)) (i0 : am_isR x0 = true) (j0 : am_isR s0 = true) (hs : fg_459_42 x0 x1 s0 s1 s2 h = some o) : am_W X (d + 1) 459 42 lv [(.int s2), (.int s1), s0] h (fun q => q = o) := by
  unfold fg_459_42 at hs
  obtain ⟨z1, hs1⟩ := am_ift hs
  clear hs
  refine aw_call (F := fm_335 s0 s1 s2 h) (t := true) (na := 3) (kd := 1) (as := [s0, (.int s1), (.int s2)]) at_459_42 (am_k3v kb_335) mn_335 mk_335 rfl rfl (am_ok_v mi_335 (am_hl rfl (am_ccR j0 (am_ccI (am_ccI am_cats_0))) rfl) z1) (am_hc am_cats_0 rfl) (fun _ => ⟨rfl, hh_459⟩) (fun o1 hz9 => rm_335 s0 s1 s2 h o1 j0 hz9) ?_
  rcases am_cV_s hs1 with ⟨h3, f4, hs2⟩ | hs2
  · clear hs1
    refine Or.inl ⟨_, _, f4, ?_⟩
    show am_W X _ 459 45 _ [] h3 _
    refine aw_vload_n (pc1 := 46) at_459_45 l0 i0 rfl ?_
    refine aw_iload_n (pc1 := 47) at_459_46 l1 rfl ?_
    refine aw_iconst (v := 2) (pc1 := 48) at_459_47 (by decide) rfl ?_
    by_cases c5 : ¬ x1 = 2
    · rw [if_pos c5] at hs2
      refine aw_icne_t at_459_48 c5 ?_
      refine aw_iload_n (pc1 := 57) at_459_56 l1 rfl ?_
      refine aw_iconst (v := 4) (pc1 := 58) at_459_57 (by decide) rfl ?_
      by_cases c6 : ¬ x1 = 4
      · rw [if_pos c6] at hs2
        refine aw_icne_t at_459_58 c6 ?_
        refine aw_bipush (v := 7) (pc1 := 68) at_459_66 (by decide) rfl ?_
        exact rg_459_68 x0 7 h3 o  i0 hs2
      · rw [if_neg c6] at hs2
        refine aw_icne_f (pc1 := 61) at_459_58 c6 rfl ?_
        refine aw_bipush (v := 9) (pc1 := 63) at_459_61 (by decide) rfl ?_
        refine aw_goto at_459_63 ?_
        exact rg_459_68 x0 9 h3 o  i0 hs2
    · rw [if_neg c5] at hs2
      refine aw_icne_f (pc1 := 51) at_459_48 c5 rfl ?_
      refine aw_bipush (v := 8) (pc1 := 53) at_459_51 (by decide) rfl ?_
      refine aw_goto at_459_53 ?_
      exact rg_459_68 x0 8 h3 o  i0 hs2
  · clear hs1
    exact Or.inr hs2
def fg_459_32 (x0 : Value) (x1 : Int32) (s0 : Value) (s1 : Int32) (h : am_H) : Option am_O := (if 3 ≤ x1 then (fg_459_42 x0 x1 s0 s1 0 h) else (fg_459_42 x0 x1 s0 s1 1 h))
theorem rg_459_32 {X : am_X} {d : Nat} {lv : am_LV} (x0 : Value) (x1 : Int32) (s0 : Value) (s1 : Int32) (h : am_H) (o : am_O) (l0 : lv.lookup 0 = some x0) (l1 : lv.lookup 1 = some (.int x1)) (i0 : am_isR x0 = true) (j0 : am_isR s0 = true) (hs : fg_459_32 x0 x1 s0 s1 h = some o) : am_W X (d + 1) 459 32 lv [(.int s1), s0] h (fun q => q = o) := by
  unfold fg_459_32 at hs
  refine aw_iload_n (pc1 := 33) at_459_32 l1 rfl ?_
  refine aw_iconst (v := 3) (pc1 := 34) at_459_33 (by decide) rfl ?_
  by_cases c1 : 3 ≤ x1
  · rw [if_pos c1] at hs
    refine aw_icge_t at_459_34 c1 ?_
    refine aw_iconst (v := 0) (pc1 := 42) at_459_41 (by decide) rfl ?_
    exact rg_459_42 x0 x1 s0 s1 0 h o l0 l1 i0 j0 hs
  · rw [if_neg c1] at hs
    refine aw_icge_f (pc1 := 37) at_459_34 c1 rfl ?_
    refine aw_iconst (v := 1) (pc1 := 38) at_459_37 (by decide) rfl ?_
    refine aw_goto at_459_38 ?_
    exact rg_459_42 x0 x1 s0 s1 1 h o l0 l1 i0 j0 hs
def fg_459_0 (x0 : Value) (x1 : Int32) (h : am_H) : Option am_O := (if ¬ x1 = 0 then (if 3 ≤ x1 then (if ¬ x1 = 3 then (fg_459_32 x0 x1 x0 14 h) else (fg_459_32 x0 x1 x0 1 h)) else (fg_459_32 x0 x1 x0 0 h)) else (if am_pOk 12 x0 h then am_cV true (fm_335 x0 5 0 h) (fun h6 => some (.inl (none, h6))) else none))
theorem rg_459_0 {X : am_X} {d : Nat} {lv : am_LV} (x0 : Value) (x1 : Int32) (h : am_H) (o : am_O) (l0 : lv.lookup 0 = some x0) (l1 : lv.lookup 1 = some (.int x1)) (i0 : am_isR x0 = true) (hs : fg_459_0 x0 x1 h = some o) : am_W X (d + 1) 459 0 lv [] h (fun q => q = o) := by
  unfold fg_459_0 at hs
  refine aw_iload_n (pc1 := 1) at_459_0 l1 rfl ?_
  by_cases c1 : ¬ x1 = 0
  · rw [if_pos c1] at hs
    refine aw_ifne_t at_459_1 c1 ?_
    refine aw_vload_n (pc1 := 12) at_459_11 l0 i0 rfl ?_
    refine aw_iload_n (pc1 := 13) at_459_12 l1 rfl ?_
    refine aw_iconst (v := 3) (pc1 := 14) at_459_13 (by decide) rfl ?_
    by_cases c2 : 3 ≤ x1
    · rw [if_pos c2] at hs
      refine aw_icge_t at_459_14 c2 ?_
      refine aw_iload_n (pc1 := 22) at_459_21 l1 rfl ?_
      refine aw_iconst (v := 3) (pc1 := 23) at_459_22 (by decide) rfl ?_
      by_cases c3 : ¬ x1 = 3
      · rw [if_pos c3] at hs
        refine aw_icne_t at_459_23 c3 ?_
        refine aw_bipush (v := 14) (pc1 := 32) at_459_30 (by decide) rfl ?_
        exact rg_459_32 x0 x1 x0 14 h o l0 l1 i0 i0 hs
      · rw [if_neg c3] at hs
        refine aw_icne_f (pc1 := 26) at_459_23 c3 rfl ?_
        refine aw_iconst (v := 1) (pc1 := 27) at_459_26 (by decide) rfl ?_
        refine aw_goto at_459_27 ?_
        exact rg_459_32 x0 x1 x0 1 h o l0 l1 i0 i0 hs
    · rw [if_neg c2] at hs
      refine aw_icge_f (pc1 := 17) at_459_14 c2 rfl ?_
      refine aw_iconst (v := 0) (pc1 := 18) at_459_17 (by decide) rfl ?_
      refine aw_goto at_459_18 ?_
      exact rg_459_32 x0 x1 x0 0 h o l0 l1 i0 i0 hs
  · rw [if_neg c1] at hs
    refine aw_ifne_f (pc1 := 4) at_459_1 c1 rfl ?_
    refine aw_vload_n (pc1 := 5) at_459_4 l0 i0 rfl ?_
    refine aw_iconst (v := 5) (pc1 := 6) at_459_5 (by decide) rfl ?_
    refine aw_iconst (v := 0) (pc1 := 7) at_459_6 (by decide) rfl ?_
    obtain ⟨z4, hs1⟩ := am_ift hs
    clear hs
    refine aw_call (F := fm_335 x0 5 0 h) (t := true) (na := 3) (kd := 1) (as := [x0, (.int 5), (.int 0)]) at_459_7 (am_k3v kb_335) mn_335 mk_335 rfl rfl (am_ok_v mi_335 (am_hl rfl (am_ccR i0 (am_ccI (am_ccI am_cats_0))) rfl) z4) (am_hc am_cats_0 rfl) (fun _ => ⟨rfl, hh_459⟩) (fun o1 hz9 => rm_335 x0 5 0 h o1 i0 hz9) ?_
    rcases am_cV_s hs1 with ⟨h6, f7, hs2⟩ | hs2
    · clear hs1
      refine Or.inl ⟨_, _, f7, ?_⟩
      show am_W X _ 459 10 _ [] h6 _
      cases hs2
      exact aw_vret at_459_10 rt_459 rfl
    · clear hs1
      exact Or.inr hs2
def fm_459 (y0 : Value) (y1 : Int32) (h : am_H) : Option am_O := fg_459_0 y0 y1 h
theorem rm_459 {X : am_X} {d : Nat} (y0 : Value) (y1 : Int32) (h : am_H) (o : am_O) (i0 : am_isR y0 = true) (hs : fm_459 y0 y1 h = some o) : am_W X (d + 1) 459 0 (am_args 0 [y0, .int y1]) [] h (fun q => q = o) := by
  rw [am_args_R i0, am_args_I]
  exact rg_459_0 y0 y1 h o rfl rfl i0 hs
def fg_458_118 (N : Nat) (h : am_H) : Option am_O := some (.inl (none, h))
theorem rg_458_118 {X : am_X} {d : Nat} {N : Nat} {lv : am_LV} (h : am_H) (o : am_O) (hs : fg_458_118 N h = some o) : am_W X (d + 2) 458 118 lv [] h (fun q => q = o) := by
  unfold fg_458_118 at hs
  cases hs
  exact aw_vret at_458_118 rt_458 rfl
def fg_458_84 (N : Nat) (rec_17 : Value → Int32 → Int32 → Int32 → Int32 → am_H → Option am_O) (x0 : Value) (x1 : Int32) (x2 : Int32) (x3 : Int32) (x4 : Int32) (s0 : Int32) (h : am_H) : Option am_O := ((am_vR (am_pG 3093 x0 h)).bind fun v1 => ((am_pA 0 v1 x4 h).bind fun v3 => (if am_pOk 12 x0 h then am_cV true (fm_335 x0 v3 s0 h) (fun h7 => (rec_17 x0 x1 x2 x3 ((x4 + 1)) h7)) else none)))
theorem rg_458_84 {X : am_X} {d : Nat} {N : Nat} {rec_17 : Value → Int32 → Int32 → Int32 → Int32 → am_H → Option am_O} (q_17 : ∀ (x0 : Value) (x1 : Int32) (x2 : Int32) (x3 : Int32) (x4 : Int32) (h : am_H) (o : am_O), rec_17 x0 x1 x2 x3 x4 h = some o → ∀ lv : am_LV, (lv.lookup 0 = some x0) → (lv.lookup 1 = some (.int x1)) → (lv.lookup 2 = some (.int x2)) → (lv.lookup 3 = some (.int x3)) → (lv.lookup 4 = some (.int x4)) → (am_isR x0 = true) → am_W X (d + 2) 458 17 lv [] h (fun q => q = o)) {lv : am_LV} (x0 : Value) (x1 : Int32) (x2 : Int32) (x3 : Int32) (x4 : Int32) (s0 : Int32) (h : am_H) (o : am_O) (l0 : lv.lookup 0 = some x0) (l1 : lv.lookup 1 = some (.int x1)) (l2 : lv.lookup 2 = some (.int x2)) (l3 : lv.lookup 3 = some (.int x3)) (l4 : lv.lookup 4 = some (.int x4)) (i0 : am_isR x0 = true) (hs : fg_458_84 N rec_17 x0 x1 x2 x3 x4 s0 h = some o) : am_W X (d + 2) 458 84 lv [(.int s0)] h (fun q => q = o) := by
  unfold fg_458_84 at hs
  refine aw_istore (lv1 := am_put1 _ 5 _) (pc1 := 86) at_458_84 rfl rfl ?_
  refine aw_vload_n (pc1 := 87) at_458_86 (am_lk1 l0 rfl rfl) i0 rfl ?_
  refine aw_vload_n (pc1 := 88) at_458_87 (am_lk1 l0 rfl rfl) i0 rfl ?_
  obtain ⟨v1, e2, hs1⟩ := am_bind hs
  clear hs
  refine aw_pG (pc1 := 91) at_458_88 (am_vR_s e2).1 rfl ?_
  refine aw_iload (pc1 := 93) at_458_91 (am_lk1 l4 rfl rfl) rfl ?_
  obtain ⟨v3, e4, hs2⟩ := am_bind hs1
  clear hs1
  refine aw_pA (pc1 := 94) at_458_93 (Or.inl ⟨rfl, rfl⟩) e4 rfl ?_
  refine aw_iload (pc1 := 96) at_458_94 am_lk0 rfl ?_
  obtain ⟨z5, hs3⟩ := am_ift hs2
  clear hs2
  refine aw_call (F := fm_335 x0 v3 s0 h) (t := true) (na := 3) (kd := 1) (as := [x0, (.int v3), (.int s0)]) at_458_96 (am_k3v kb_335) mn_335 mk_335 rfl rfl (am_ok_v mi_335 (am_hl rfl (am_ccR i0 (am_ccI (am_ccI am_cats_0))) rfl) z5) (am_hc am_cats_0 rfl) (fun _ => ⟨rfl, hh_458⟩) (fun o1 hz9 => rm_335 x0 v3 s0 h o1 i0 hz9) ?_
  rcases am_cV_s hs3 with ⟨h7, f8, hs4⟩ | hs4
  · clear hs3
    refine Or.inl ⟨_, _, f8, ?_⟩
    show am_W X _ 458 99 _ [] h7 _
    refine aw_iinc (v := (x4 + 1)) (c := 1) (lv1 := am_put1 _ 4 _) (pc1 := 102) at_458_99 (am_lk1 l4 rfl rfl) (by decide) rfl rfl rfl ?_
    refine aw_goto at_458_102 ?_
    exact q_17 x0 x1 x2 x3 ((x4 + 1)) h7 o hs4 _ (am_lk1 (am_lk1 l0 rfl rfl) rfl rfl) (am_lk1 (am_lk1 l1 rfl rfl) rfl rfl) (am_lk1 (am_lk1 l2 rfl rfl) rfl rfl) (am_lk1 (am_lk1 l3 rfl rfl) rfl rfl) am_lk0 i0
  · clear hs3
    exact Or.inr hs4
def fg_458_82 (N : Nat) (rec_17 : Value → Int32 → Int32 → Int32 → Int32 → am_H → Option am_O) (x0 : Value) (x1 : Int32) (x2 : Int32) (x3 : Int32) (x4 : Int32) (x5 : Int32) (h : am_H) : Option am_O := (fg_458_84 N rec_17 x0 x1 x2 x3 x4 x5 h)
theorem rg_458_82 {X : am_X} {d : Nat} {N : Nat} {rec_17 : Value → Int32 → Int32 → Int32 → Int32 → am_H → Option am_O} (q_17 : ∀ (x0 : Value) (x1 : Int32) (x2 : Int32) (x3 : Int32) (x4 : Int32) (h : am_H) (o : am_O), rec_17 x0 x1 x2 x3 x4 h = some o → ∀ lv : am_LV, (lv.lookup 0 = some x0) → (lv.lookup 1 = some (.int x1)) → (lv.lookup 2 = some (.int x2)) → (lv.lookup 3 = some (.int x3)) → (lv.lookup 4 = some (.int x4)) → (am_isR x0 = true) → am_W X (d + 2) 458 17 lv [] h (fun q => q = o)) {lv : am_LV} (x0 : Value) (x1 : Int32) (x2 : Int32) (x3 : Int32) (x4 : Int32) (x5 : Int32) (h : am_H) (o : am_O) (l0 : lv.lookup 0 = some x0) (l1 : lv.lookup 1 = some (.int x1)) (l2 : lv.lookup 2 = some (.int x2)) (l3 : lv.lookup 3 = some (.int x3)) (l4 : lv.lookup 4 = some (.int x4)) (l5 : lv.lookup 5 = some (.int x5)) (i0 : am_isR x0 = true) (hs : fg_458_82 N rec_17 x0 x1 x2 x3 x4 x5 h = some o) : am_W X (d + 2) 458 82 lv [] h (fun q => q = o) := by
  unfold fg_458_82 at hs
  refine aw_iload (pc1 := 84) at_458_82 l5 rfl ?_
  exact rg_458_84 q_17 x0 x1 x2 x3 x4 x5 h o l0 l1 l2 l3 l4 i0 hs
def fg_458_37 (N : Nat) (rec_17 : Value → Int32 → Int32 → Int32 → Int32 → am_H → Option am_O) (x0 : Value) (x1 : Int32) (x2 : Int32) (x3 : Int32) (x4 : Int32) (h : am_H) : Option am_O := ((am_vR (am_pG 3094 x0 h)).bind fun v1 => ((am_pA 0 v1 x4 h).bind fun v3 => ((am_vR (am_pG 3093 x0 h)).bind fun v5 => ((am_pA 0 v5 x4 h).bind fun v7 => (if v7 ≤ 16 then (fg_458_82 N rec_17 x0 x1 x2 x3 x4 v3 h) else (if x1 ≤ x4 then (fg_458_82 N rec_17 x0 x1 x2 x3 x4 v3 h) else (if ((x4 + 1) + v3) ≤ x1 then (fg_458_82 N rec_17 x0 x1 x2 x3 x4 v3 h) else (fg_458_84 N rec_17 x0 x1 x2 x3 x4 ((v3 + x3)) h))))))))
theorem rg_458_37 {X : am_X} {d : Nat} {N : Nat} {rec_17 : Value → Int32 → Int32 → Int32 → Int32 → am_H → Option am_O} (q_17 : ∀ (x0 : Value) (x1 : Int32) (x2 : Int32) (x3 : Int32) (x4 : Int32) (h : am_H) (o : am_O), rec_17 x0 x1 x2 x3 x4 h = some o → ∀ lv : am_LV, (lv.lookup 0 = some x0) → (lv.lookup 1 = some (.int x1)) → (lv.lookup 2 = some (.int x2)) → (lv.lookup 3 = some (.int x3)) → (lv.lookup 4 = some (.int x4)) → (am_isR x0 = true) → am_W X (d + 2) 458 17 lv [] h (fun q => q = o)) {lv : am_LV} (x0 : Value) (x1 : Int32) (x2 : Int32) (x3 : Int32) (x4 : Int32) (h : am_H) (o : am_O) (l0 : lv.lookup 0 = some x0) (l1 : lv.lookup 1 = some (.int x1)) (l2 : lv.lookup 2 = some (.int x2)) (l3 : lv.lookup 3 = some (.int x3)) (l4 : lv.lookup 4 = some (.int x4)) (i0 : am_isR x0 = true) (hs : fg_458_37 N rec_17 x0 x1 x2 x3 x4 h = some o) : am_W X (d + 2) 458 37 lv [] h (fun q => q = o) := by
  unfold fg_458_37 at hs
  refine aw_vload_n (pc1 := 38) at_458_37 l0 i0 rfl ?_
  obtain ⟨v1, e2, hs1⟩ := am_bind hs
  clear hs
  refine aw_pG (pc1 := 41) at_458_38 (am_vR_s e2).1 rfl ?_
  refine aw_iload (pc1 := 43) at_458_41 l4 rfl ?_
  obtain ⟨v3, e4, hs2⟩ := am_bind hs1
  clear hs1
  refine aw_pA (pc1 := 44) at_458_43 (Or.inl ⟨rfl, rfl⟩) e4 rfl ?_
  refine aw_istore (lv1 := am_put1 _ 5 _) (pc1 := 46) at_458_44 rfl rfl ?_
  refine aw_vload_n (pc1 := 47) at_458_46 (am_lk1 l0 rfl rfl) i0 rfl ?_
  obtain ⟨v5, e6, hs3⟩ := am_bind hs2
  clear hs2
  refine aw_pG (pc1 := 50) at_458_47 (am_vR_s e6).1 rfl ?_
  refine aw_iload (pc1 := 52) at_458_50 (am_lk1 l4 rfl rfl) rfl ?_
  obtain ⟨v7, e8, hs4⟩ := am_bind hs3
  clear hs3
  refine aw_pA (pc1 := 53) at_458_52 (Or.inl ⟨rfl, rfl⟩) e8 rfl ?_
  refine aw_bipush (v := 16) (pc1 := 55) at_458_53 (by decide) rfl ?_
  by_cases c9 : v7 ≤ 16
  · rw [if_pos c9] at hs4
    refine aw_icle_t at_458_55 c9 ?_
    exact rg_458_82 q_17 x0 x1 x2 x3 x4 v3 h o (am_lk1 l0 rfl rfl) (am_lk1 l1 rfl rfl) (am_lk1 l2 rfl rfl) (am_lk1 l3 rfl rfl) (am_lk1 l4 rfl rfl) am_lk0 i0 hs4
  · rw [if_neg c9] at hs4
    refine aw_icle_f (pc1 := 58) at_458_55 c9 rfl ?_
    refine aw_iload (pc1 := 60) at_458_58 (am_lk1 l4 rfl rfl) rfl ?_
    refine aw_iload_n (pc1 := 61) at_458_60 (am_lk1 l1 rfl rfl) rfl ?_
    by_cases c10 : x1 ≤ x4
    · rw [if_pos c10] at hs4
      refine aw_icge_t at_458_61 c10 ?_
      exact rg_458_82 q_17 x0 x1 x2 x3 x4 v3 h o (am_lk1 l0 rfl rfl) (am_lk1 l1 rfl rfl) (am_lk1 l2 rfl rfl) (am_lk1 l3 rfl rfl) (am_lk1 l4 rfl rfl) am_lk0 i0 hs4
    · rw [if_neg c10] at hs4
      refine aw_icge_f (pc1 := 64) at_458_61 c10 rfl ?_
      refine aw_iload (pc1 := 66) at_458_64 (am_lk1 l4 rfl rfl) rfl ?_
      refine aw_iconst (v := 1) (pc1 := 67) at_458_66 (by decide) rfl ?_
      refine aw_iadd (v := (x4 + 1)) (pc1 := 68) at_458_67 rfl rfl ?_
      refine aw_iload (pc1 := 70) at_458_68 am_lk0 rfl ?_
      refine aw_iadd (v := ((x4 + 1) + v3)) (pc1 := 71) at_458_70 rfl rfl ?_
      refine aw_iload_n (pc1 := 72) at_458_71 (am_lk1 l1 rfl rfl) rfl ?_
      by_cases c11 : ((x4 + 1) + v3) ≤ x1
      · rw [if_pos c11] at hs4
        refine aw_icle_t at_458_72 c11 ?_
        exact rg_458_82 q_17 x0 x1 x2 x3 x4 v3 h o (am_lk1 l0 rfl rfl) (am_lk1 l1 rfl rfl) (am_lk1 l2 rfl rfl) (am_lk1 l3 rfl rfl) (am_lk1 l4 rfl rfl) am_lk0 i0 hs4
      · rw [if_neg c11] at hs4
        refine aw_icle_f (pc1 := 75) at_458_72 c11 rfl ?_
        refine aw_iload (pc1 := 77) at_458_75 am_lk0 rfl ?_
        refine aw_iload_n (pc1 := 78) at_458_77 (am_lk1 l3 rfl rfl) rfl ?_
        refine aw_iadd (v := (v3 + x3)) (pc1 := 79) at_458_78 rfl rfl ?_
        refine aw_goto at_458_79 ?_
        exact rg_458_84 q_17 x0 x1 x2 x3 x4 ((v3 + x3)) h o (am_lk1 l0 rfl rfl) (am_lk1 l1 rfl rfl) (am_lk1 l2 rfl rfl) (am_lk1 l3 rfl rfl) (am_lk1 l4 rfl rfl) i0 hs4
def fg_458_17 (N : Nat) : Nat → Value → Int32 → Int32 → Int32 → Int32 → am_H → Option am_O
  | 0 => fun _ _ _ _ _ _ => none
  | K + 1 => fun x0 x1 x2 x3 x4 h => ((am_vI (am_pG 3090 x0 h)).bind fun v1 => (if v1 ≤ x4 then ((am_vI (am_pG 3090 x0 h)).bind fun v4 => (if ¬ x1 = v4 then (fg_458_118 N h) else (if am_pOk 12 x0 h then am_cV true (fm_459 x0 x2 h) (fun h9 => (fg_458_118 N h9)) else none))) else (if ¬ x4 = x1 then (fg_458_37 N (fg_458_17 N K) x0 x1 x2 x3 x4 h) else (if am_pOk 12 x0 h then am_cV true (fm_459 x0 x2 h) (fun h14 => (fg_458_37 N (fg_458_17 N K) x0 x1 x2 x3 x4 h14)) else none))))
theorem rg_458_17 {X : am_X} {d : Nat} {N : Nat} : ∀ (K : Nat) (x0 : Value) (x1 : Int32) (x2 : Int32) (x3 : Int32) (x4 : Int32) (h : am_H) (o : am_O), fg_458_17 N K x0 x1 x2 x3 x4 h = some o → ∀ lv : am_LV, (lv.lookup 0 = some x0) → (lv.lookup 1 = some (.int x1)) → (lv.lookup 2 = some (.int x2)) → (lv.lookup 3 = some (.int x3)) → (lv.lookup 4 = some (.int x4)) → (am_isR x0 = true) → am_W X (d + 2) 458 17 lv [] h (fun q => q = o) := by
  intro K
  induction K with
  | zero => intro x0 x1 x2 x3 x4 h o hs; cases hs
  | succ K ih =>
    intro x0 x1 x2 x3 x4 h o hs lv l0 l1 l2 l3 l4 i0
    unfold fg_458_17 at hs
    refine aw_iload (pc1 := 19) at_458_17 l4 rfl ?_
    refine aw_vload_n (pc1 := 20) at_458_19 l0 i0 rfl ?_
    obtain ⟨v1, e2, hs1⟩ := am_bind hs
    clear hs
    refine aw_pG (pc1 := 23) at_458_20 (am_vI_s e2) rfl ?_
    by_cases c3 : v1 ≤ x4
    · rw [if_pos c3] at hs1
      refine aw_icge_t at_458_23 c3 ?_
      refine aw_iload_n (pc1 := 106) at_458_105 l1 rfl ?_
      refine aw_vload_n (pc1 := 107) at_458_106 l0 i0 rfl ?_
      obtain ⟨v4, e5, hs2⟩ := am_bind hs1
      clear hs1
      refine aw_pG (pc1 := 110) at_458_107 (am_vI_s e5) rfl ?_
      by_cases c6 : ¬ x1 = v4
      · rw [if_pos c6] at hs2
        refine aw_icne_t at_458_110 c6 ?_
        exact rg_458_118 h o   hs2
      · rw [if_neg c6] at hs2
        refine aw_icne_f (pc1 := 113) at_458_110 c6 rfl ?_
        refine aw_vload_n (pc1 := 114) at_458_113 l0 i0 rfl ?_
        refine aw_iload_n (pc1 := 115) at_458_114 l2 rfl ?_
        obtain ⟨z7, hs3⟩ := am_ift hs2
        clear hs2
        refine aw_call (F := fm_459 x0 x2 h) (t := true) (na := 2) (kd := 1) (as := [x0, (.int x2)]) at_458_115 (am_k3v kb_459) mn_459 mk_459 rfl rfl (am_ok_v mi_459 (am_hl rfl (am_ccR i0 (am_ccI am_cats_0)) rfl) z7) (am_hc am_cats_0 rfl) (fun _ => ⟨rfl, hh_458⟩) (fun o1 hz9 => rm_459 x0 x2 h o1 i0 hz9) ?_
        rcases am_cV_s hs3 with ⟨h9, f10, hs4⟩ | hs4
        · clear hs3
          refine Or.inl ⟨_, _, f10, ?_⟩
          show am_W X _ 458 118 _ [] h9 _
          exact rg_458_118 h9 o   hs4
        · clear hs3
          exact Or.inr hs4
    · rw [if_neg c3] at hs1
      refine aw_icge_f (pc1 := 26) at_458_23 c3 rfl ?_
      refine aw_iload (pc1 := 28) at_458_26 l4 rfl ?_
      refine aw_iload_n (pc1 := 29) at_458_28 l1 rfl ?_
      by_cases c11 : ¬ x4 = x1
      · rw [if_pos c11] at hs1
        refine aw_icne_t at_458_29 c11 ?_
        exact rg_458_37 (fun z0 z1 z2 z3 z4 h o hs1 => ih z0 z1 z2 z3 z4 h o hs1) x0 x1 x2 x3 x4 h o l0 l1 l2 l3 l4 i0 hs1
      · rw [if_neg c11] at hs1
        refine aw_icne_f (pc1 := 32) at_458_29 c11 rfl ?_
        refine aw_vload_n (pc1 := 33) at_458_32 l0 i0 rfl ?_
        refine aw_iload_n (pc1 := 34) at_458_33 l2 rfl ?_
        obtain ⟨z12, hs5⟩ := am_ift hs1
        clear hs1
        refine aw_call (F := fm_459 x0 x2 h) (t := true) (na := 2) (kd := 1) (as := [x0, (.int x2)]) at_458_34 (am_k3v kb_459) mn_459 mk_459 rfl rfl (am_ok_v mi_459 (am_hl rfl (am_ccR i0 (am_ccI am_cats_0)) rfl) z12) (am_hc am_cats_0 rfl) (fun _ => ⟨rfl, hh_458⟩) (fun o1 hz9 => rm_459 x0 x2 h o1 i0 hz9) ?_
        rcases am_cV_s hs5 with ⟨h14, f15, hs6⟩ | hs6
        · clear hs5
          refine Or.inl ⟨_, _, f15, ?_⟩
          show am_W X _ 458 37 _ [] h14 _
          exact rg_458_37 (fun z0 z1 z2 z3 z4 h o hs6 => ih z0 z1 z2 z3 z4 h o hs6) x0 x1 x2 x3 x4 h14 o l0 l1 l2 l3 l4 i0 hs6
        · clear hs5
          exact Or.inr hs6
def fg_458_9 (N : Nat) (x0 : Value) (x1 : Int32) (x2 : Int32) (s0 : Int32) (h : am_H) : Option am_O := (if am_pOk 12 x0 h then am_cV true (fm_451 x0 h) (fun h3 => (fg_458_17 N N x0 x1 x2 s0 0 h3)) else none)
theorem rg_458_9 {X : am_X} {d : Nat} {N : Nat} {lv : am_LV} (x0 : Value) (x1 : Int32) (x2 : Int32) (s0 : Int32) (h : am_H) (o : am_O) (l0 : lv.lookup 0 = some x0) (l1 : lv.lookup 1 = some (.int x1)) (l2 : lv.lookup 2 = some (.int x2)) (i0 : am_isR x0 = true) (hs : fg_458_9 N x0 x1 x2 s0 h = some o) : am_W X (d + 2) 458 9 lv [(.int s0)] h (fun q => q = o) := by
  unfold fg_458_9 at hs
  refine aw_istore_n (lv1 := am_put1 _ 3 _) (pc1 := 10) at_458_9 rfl rfl ?_
  refine aw_vload_n (pc1 := 11) at_458_10 (am_lk1 l0 rfl rfl) i0 rfl ?_
  obtain ⟨z1, hs1⟩ := am_ift hs
  clear hs
  refine aw_call (F := fm_451 x0 h) (t := true) (na := 1) (kd := 1) (as := [x0]) at_458_11 (am_k3v kb_451) mn_451 mk_451 rfl rfl (am_ok_v mi_451 (am_hl rfl (am_ccR i0 am_cats_0) rfl) z1) (am_hc am_cats_0 rfl) (fun _ => ⟨rfl, hh_458⟩) (fun o1 hz9 => rm_451 x0 h o1 i0 hz9) ?_
  rcases am_cV_s hs1 with ⟨h3, f4, hs2⟩ | hs2
  · clear hs1
    refine Or.inl ⟨_, _, f4, ?_⟩
    show am_W X _ 458 14 _ [] h3 _
    refine aw_iconst (v := 0) (pc1 := 15) at_458_14 (by decide) rfl ?_
    refine aw_istore (lv1 := am_put1 _ 4 _) (pc1 := 17) at_458_15 rfl rfl ?_
    exact rg_458_17 N x0 x1 x2 s0 0 h3 o hs2 _ (am_lk1 (am_lk1 l0 rfl rfl) rfl rfl) (am_lk1 (am_lk1 l1 rfl rfl) rfl rfl) (am_lk1 (am_lk1 l2 rfl rfl) rfl rfl) (am_lk1 am_lk0 rfl rfl) am_lk0 i0
  · clear hs1
    exact Or.inr hs2
def fg_458_0 (N : Nat) (x0 : Value) (x1 : Int32) (x2 : Int32) (h : am_H) : Option am_O := (if ¬ x2 = 0 then (fg_458_9 N x0 x1 x2 2 h) else (fg_458_9 N x0 x1 x2 1 h))
theorem rg_458_0 {X : am_X} {d : Nat} {N : Nat} {lv : am_LV} (x0 : Value) (x1 : Int32) (x2 : Int32) (h : am_H) (o : am_O) (l0 : lv.lookup 0 = some x0) (l1 : lv.lookup 1 = some (.int x1)) (l2 : lv.lookup 2 = some (.int x2)) (i0 : am_isR x0 = true) (hs : fg_458_0 N x0 x1 x2 h = some o) : am_W X (d + 2) 458 0 lv [] h (fun q => q = o) := by
  unfold fg_458_0 at hs
  refine aw_iload_n (pc1 := 1) at_458_0 l2 rfl ?_
  by_cases c1 : ¬ x2 = 0
  · rw [if_pos c1] at hs
    refine aw_ifne_t at_458_1 c1 ?_
    refine aw_iconst (v := 2) (pc1 := 9) at_458_8 (by decide) rfl ?_
    exact rg_458_9 x0 x1 x2 2 h o l0 l1 l2 i0 hs
  · rw [if_neg c1] at hs
    refine aw_ifne_f (pc1 := 4) at_458_1 c1 rfl ?_
    refine aw_iconst (v := 1) (pc1 := 5) at_458_4 (by decide) rfl ?_
    refine aw_goto at_458_5 ?_
    exact rg_458_9 x0 x1 x2 1 h o l0 l1 l2 i0 hs
def fm_458 (N : Nat) (y0 : Value) (y1 : Int32) (y2 : Int32) (h : am_H) : Option am_O := fg_458_0 N y0 y1 y2 h
theorem rm_458 {X : am_X} {d : Nat} {N : Nat} (y0 : Value) (y1 : Int32) (y2 : Int32) (h : am_H) (o : am_O) (i0 : am_isR y0 = true) (hs : fm_458 N y0 y1 y2 h = some o) : am_W X (d + 2) 458 0 (am_args 0 [y0, .int y1, .int y2]) [] h (fun q => q = o) := by
  rw [am_args_R i0, am_args_I, am_args_I]
  exact rg_458_0 y0 y1 y2 h o rfl rfl rfl i0 hs
def fg_457_57 (N : Nat) (h : am_H) : Option am_O := some (.inl (none, h))
theorem rg_457_57 {X : am_X} {d : Nat} {N : Nat} {lv : am_LV} (h : am_H) (o : am_O) (hs : fg_457_57 N h = some o) : am_W X (d + 4) 457 57 lv [] h (fun q => q = o) := by
  unfold fg_457_57 at hs
  cases hs
  exact aw_vret at_457_57 rt_457 rfl
def fg_457_51 (N : Nat) (rec_2 : Value → Int32 → am_H → Option am_O) (x0 : Value) (x1 : Int32) (h : am_H) : Option am_O := (rec_2 x0 ((x1 + 1)) h)
theorem rg_457_51 {X : am_X} {d : Nat} {N : Nat} {rec_2 : Value → Int32 → am_H → Option am_O} (q_2 : ∀ (x0 : Value) (x1 : Int32) (h : am_H) (o : am_O), rec_2 x0 x1 h = some o → ∀ lv : am_LV, (lv.lookup 0 = some x0) → (lv.lookup 1 = some (.int x1)) → (am_isR x0 = true) → am_W X (d + 4) 457 2 lv [] h (fun q => q = o)) {lv : am_LV} (x0 : Value) (x1 : Int32) (h : am_H) (o : am_O) (l0 : lv.lookup 0 = some x0) (l1 : lv.lookup 1 = some (.int x1)) (i0 : am_isR x0 = true) (hs : fg_457_51 N rec_2 x0 x1 h = some o) : am_W X (d + 4) 457 51 lv [] h (fun q => q = o) := by
  unfold fg_457_51 at hs
  refine aw_iinc (v := (x1 + 1)) (c := 1) (lv1 := am_put1 _ 1 _) (pc1 := 54) at_457_51 l1 (by decide) rfl rfl rfl ?_
  refine aw_goto at_457_54 ?_
  exact q_2 x0 ((x1 + 1)) h o hs _ (am_lk1 l0 rfl (by rw [am_isRc i0]; rfl)) am_lk0 i0
def fg_457_19 (N : Nat) (rec_2 : Value → Int32 → am_H → Option am_O) : Nat → Value → Int32 → Int32 → am_H → Option am_O
  | 0 => fun _ _ _ _ => none
  | K + 1 => fun x0 x1 x2 h => (if 5 ≤ x2 then (fg_457_51 N rec_2 x0 x1 h) else ((am_vI (am_pG 3167 x0 h)).bind fun v2 => (if ¬ v2 = 0 then (fg_457_51 N rec_2 x0 x1 h) else (if am_pOk 12 x0 h then am_cV true (fm_458 N x0 x1 x2 h) (fun h7 => (if am_pOk 12 x0 h7 then am_cI true (fm_444 N x0 h7) (fun v10 h11 => ((am_pP 3167 x0 (.int v10) h11).bind fun h13 => (fg_457_19 N rec_2 K x0 x1 ((x2 + 1)) h13))) else none)) else none))))
theorem rg_457_19 {X : am_X} {d : Nat} {N : Nat} {rec_2 : Value → Int32 → am_H → Option am_O} (q_2 : ∀ (x0 : Value) (x1 : Int32) (h : am_H) (o : am_O), rec_2 x0 x1 h = some o → ∀ lv : am_LV, (lv.lookup 0 = some x0) → (lv.lookup 1 = some (.int x1)) → (am_isR x0 = true) → am_W X (d + 4) 457 2 lv [] h (fun q => q = o)) : ∀ (K : Nat) (x0 : Value) (x1 : Int32) (x2 : Int32) (h : am_H) (o : am_O), fg_457_19 N rec_2 K x0 x1 x2 h = some o → ∀ lv : am_LV, (lv.lookup 0 = some x0) → (lv.lookup 1 = some (.int x1)) → (lv.lookup 2 = some (.int x2)) → (am_isR x0 = true) → am_W X (d + 4) 457 19 lv [] h (fun q => q = o) := by
  intro K
  induction K with
  | zero => intro x0 x1 x2 h o hs; cases hs
  | succ K ih =>
    intro x0 x1 x2 h o hs lv l0 l1 l2 i0
    unfold fg_457_19 at hs
    refine aw_iload_n (pc1 := 20) at_457_19 l2 rfl ?_
    refine aw_iconst (v := 5) (pc1 := 21) at_457_20 (by decide) rfl ?_
    by_cases c1 : 5 ≤ x2
    · rw [if_pos c1] at hs
      refine aw_icge_t at_457_21 c1 ?_
      exact rg_457_51 q_2 x0 x1 h o l0 l1 i0 hs
    · rw [if_neg c1] at hs
      refine aw_icge_f (pc1 := 24) at_457_21 c1 rfl ?_
      refine aw_vload_n (pc1 := 25) at_457_24 l0 i0 rfl ?_
      obtain ⟨v2, e3, hs1⟩ := am_bind hs
      clear hs
      refine aw_pG (pc1 := 28) at_457_25 (am_vI_s e3) rfl ?_
      by_cases c4 : ¬ v2 = 0
      · rw [if_pos c4] at hs1
        refine aw_ifne_t at_457_28 c4 ?_
        exact rg_457_51 q_2 x0 x1 h o l0 l1 i0 hs1
      · rw [if_neg c4] at hs1
        refine aw_ifne_f (pc1 := 31) at_457_28 c4 rfl ?_
        refine aw_vload_n (pc1 := 32) at_457_31 l0 i0 rfl ?_
        refine aw_iload_n (pc1 := 33) at_457_32 l1 rfl ?_
        refine aw_iload_n (pc1 := 34) at_457_33 l2 rfl ?_
        obtain ⟨z5, hs2⟩ := am_ift hs1
        clear hs1
        refine aw_call (F := fm_458 N x0 x1 x2 h) (t := true) (na := 3) (kd := 1) (as := [x0, (.int x1), (.int x2)]) at_457_34 (am_k3v kb_458) mn_458 mk_458 rfl rfl (am_ok_v mi_458 (am_hl rfl (am_ccR i0 (am_ccI (am_ccI am_cats_0))) rfl) z5) (am_hc am_cats_0 rfl) (fun _ => ⟨rfl, hh_457⟩) (fun o1 hz9 => rm_458 x0 x1 x2 h o1 i0 hz9) ?_
        rcases am_cV_s hs2 with ⟨h7, f8, hs3⟩ | hs3
        · clear hs2
          refine Or.inl ⟨_, _, f8, ?_⟩
          show am_W X _ 457 37 _ [] h7 _
          refine aw_vload_n (pc1 := 38) at_457_37 l0 i0 rfl ?_
          refine aw_vload_n (pc1 := 39) at_457_38 l0 i0 rfl ?_
          obtain ⟨z9, hs4⟩ := am_ift hs3
          clear hs3
          refine aw_call (F := fm_444 N x0 h7) (t := true) (na := 1) (kd := 1) (as := [x0]) at_457_39 (am_k3v kb_444) mn_444 mk_444 rfl rfl (am_ok_v mi_444 (am_hl rfl (am_ccR i0 am_cats_0) rfl) z9) (am_hc (am_ccR i0 am_cats_0) rfl) (fun _ => ⟨rfl, hh_457⟩) (fun o1 hz9 => rm_444 x0 h7 o1 i0 hz9) ?_
          rcases am_cI_s hs4 with ⟨v10, h11, f12, hs5⟩ | hs5
          · clear hs4
            refine Or.inl ⟨_, _, f12, ?_⟩
            show am_W X _ 457 42 _ [(.int v10), x0] h11 _
            obtain ⟨h13, e14, hs6⟩ := am_bind hs5
            clear hs5
            refine aw_pP (pc1 := 45) at_457_42 e14 rfl ?_
            refine aw_iinc (v := (x2 + 1)) (c := 1) (lv1 := am_put1 _ 2 _) (pc1 := 48) at_457_45 l2 (by decide) rfl rfl rfl ?_
            refine aw_goto at_457_48 ?_
            exact ih x0 x1 ((x2 + 1)) h13 o hs6 _ (am_lk1 l0 rfl rfl) (am_lk1 l1 rfl rfl) am_lk0 i0
          · clear hs4
            exact Or.inr hs5
        · clear hs2
          exact Or.inr hs3
def fg_457_2 (N : Nat) : Nat → Value → Int32 → am_H → Option am_O
  | 0 => fun _ _ _ => none
  | K + 1 => fun x0 x1 h => ((am_vI (am_pG 3090 x0 h)).bind fun v1 => (if v1 < x1 then (fg_457_57 N h) else ((am_vI (am_pG 3167 x0 h)).bind fun v4 => (if ¬ v4 = 0 then (fg_457_57 N h) else (fg_457_19 N (fg_457_2 N K) N x0 x1 0 h)))))
theorem rg_457_2 {X : am_X} {d : Nat} {N : Nat} : ∀ (K : Nat) (x0 : Value) (x1 : Int32) (h : am_H) (o : am_O), fg_457_2 N K x0 x1 h = some o → ∀ lv : am_LV, (lv.lookup 0 = some x0) → (lv.lookup 1 = some (.int x1)) → (am_isR x0 = true) → am_W X (d + 4) 457 2 lv [] h (fun q => q = o) := by
  intro K
  induction K with
  | zero => intro x0 x1 h o hs; cases hs
  | succ K ih =>
    intro x0 x1 h o hs lv l0 l1 i0
    unfold fg_457_2 at hs
    refine aw_iload_n (pc1 := 3) at_457_2 l1 rfl ?_
    refine aw_vload_n (pc1 := 4) at_457_3 l0 i0 rfl ?_
    obtain ⟨v1, e2, hs1⟩ := am_bind hs
    clear hs
    refine aw_pG (pc1 := 7) at_457_4 (am_vI_s e2) rfl ?_
    by_cases c3 : v1 < x1
    · rw [if_pos c3] at hs1
      refine aw_icgt_t at_457_7 c3 ?_
      exact rg_457_57 h o   hs1
    · rw [if_neg c3] at hs1
      refine aw_icgt_f (pc1 := 10) at_457_7 c3 rfl ?_
      refine aw_vload_n (pc1 := 11) at_457_10 l0 i0 rfl ?_
      obtain ⟨v4, e5, hs2⟩ := am_bind hs1
      clear hs1
      refine aw_pG (pc1 := 14) at_457_11 (am_vI_s e5) rfl ?_
      by_cases c6 : ¬ v4 = 0
      · rw [if_pos c6] at hs2
        refine aw_ifne_t at_457_14 c6 ?_
        exact rg_457_57 h o   hs2
      · rw [if_neg c6] at hs2
        refine aw_ifne_f (pc1 := 17) at_457_14 c6 rfl ?_
        refine aw_iconst (v := 0) (pc1 := 18) at_457_17 (by decide) rfl ?_
        refine aw_istore_n (lv1 := am_put1 _ 2 _) (pc1 := 19) at_457_18 rfl rfl ?_
        exact rg_457_19 (fun z0 z1 h o hs2 => ih z0 z1 h o hs2) N x0 x1 0 h o hs2 _ (am_lk1 l0 rfl rfl) (am_lk1 l1 rfl rfl) am_lk0 i0
def fg_457_0 (N : Nat) (x0 : Value) (h : am_H) : Option am_O := (fg_457_2 N N x0 0 h)
theorem rg_457_0 {X : am_X} {d : Nat} {N : Nat} {lv : am_LV} (x0 : Value) (h : am_H) (o : am_O) (l0 : lv.lookup 0 = some x0) (i0 : am_isR x0 = true) (hs : fg_457_0 N x0 h = some o) : am_W X (d + 4) 457 0 lv [] h (fun q => q = o) := by
  unfold fg_457_0 at hs
  refine aw_iconst (v := 0) (pc1 := 1) at_457_0 (by decide) rfl ?_
  refine aw_istore_n (lv1 := am_put1 _ 1 _) (pc1 := 2) at_457_1 rfl rfl ?_
  exact rg_457_2 N x0 0 h o hs _ (am_lk1 l0 rfl (by rw [am_isRc i0]; rfl)) am_lk0 i0
def fm_457 (N : Nat) (y0 : Value) (h : am_H) : Option am_O := fg_457_0 N y0 h
theorem rm_457 {X : am_X} {d : Nat} {N : Nat} (y0 : Value) (h : am_H) (o : am_O) (i0 : am_isR y0 = true) (hs : fm_457 N y0 h = some o) : am_W X (d + 4) 457 0 (am_args 0 [y0]) [] h (fun q => q = o) := by
  rw [am_args_R i0]
  exact rg_457_0 y0 h o rfl i0 hs
def fg_461_24 (N : Nat) (h : am_H) : Option am_O := some (.inl (some (.int 0), h))
theorem rg_461_24 {X : am_X} {d : Nat} {N : Nat} {lv : am_LV} (h : am_H) (o : am_O) (hs : fg_461_24 N h = some o) : am_W X (d + 4) 461 24 lv [] h (fun q => q = o) := by
  unfold fg_461_24 at hs
  refine aw_iconst (v := 0) (pc1 := 25) at_461_24 (by decide) rfl ?_
  cases hs
  exact aw_iret at_461_25 (by rw [rt_461]; decide) rfl
def fg_461_0 (N : Nat) (x0 : Value) (x1 : Int32) (x2 : Int32) (h : am_H) : Option am_O := am_cI false (fm_327 ((Int32.toInt64 x2)) ((-99)) 99 h) (fun v1 h2 => (if v1 = 0 then (fg_461_24 N h2) else ((am_vR (am_pG 3093 x0 h2)).bind fun v5 => ((am_pA 0 v5 x1 h2).bind fun v7 => (if ¬ x2 = v7 then (if am_pOk 12 x0 h2 then am_cV true (fm_442 N x0 h2) (fun h12 => ((am_vR (am_pG 3088 x0 h12)).bind fun v14 => ((am_pS 0 v14 x1 x2 h12).bind fun h16 => (if am_pOk 12 x0 h16 then am_cI true (fm_444 N x0 h16) (fun v19 h20 => (if am_rfit (some FieldType.boolean) v19 then some (.inl (some (.int v19), h20)) else none)) else none)))) else none) else (fg_461_24 N h2))))))
theorem rg_461_0 {X : am_X} {d : Nat} {N : Nat} {lv : am_LV} (x0 : Value) (x1 : Int32) (x2 : Int32) (h : am_H) (o : am_O) (l0 : lv.lookup 0 = some x0) (l1 : lv.lookup 1 = some (.int x1)) (l2 : lv.lookup 2 = some (.int x2)) (i0 : am_isR x0 = true) (hs : fg_461_0 N x0 x1 x2 h = some o) : am_W X (d + 4) 461 0 lv [] h (fun q => q = o) := by
  unfold fg_461_0 at hs
  refine aw_iload_n (pc1 := 1) at_461_0 l2 rfl ?_
  refine aw_i2l (v := (Int32.toInt64 x2)) (pc1 := 2) at_461_1 rfl rfl ?_
  refine aw_ldc2 (v := (-99)) (pc1 := 5) at_461_2 rfl rfl ?_
  refine aw_ldc2 (v := 99) (pc1 := 8) at_461_5 rfl rfl ?_
  refine aw_call (F := fm_327 ((Int32.toInt64 x2)) ((-99)) 99 h) (t := false) (na := 3) (kd := 0) (as := [(.long (Int32.toInt64 x2)), (.long (-99)), (.long 99)]) at_461_8 (am_k3s kb_327) mn_327 mk_327 rfl rfl (am_ok_s mi_327 (am_hl rfl (am_ccL (am_ccL (am_ccL am_cats_0))) rfl)) (am_hc am_cats_0 rfl) (fun hz9 => by cases hz9) (fun o1 hz9 => rm_327 ((Int32.toInt64 x2)) ((-99)) 99 h o1  hz9) ?_
  rcases am_cI_s hs with ⟨v1, h2, f3, hs1⟩ | hs1
  · clear hs
    refine Or.inl ⟨_, _, f3, ?_⟩
    show am_W X _ 461 11 _ [(.int v1)] h2 _
    by_cases c4 : v1 = 0
    · rw [if_pos c4] at hs1
      refine aw_ifeq_t at_461_11 c4 ?_
      exact rg_461_24 h2 o   hs1
    · rw [if_neg c4] at hs1
      refine aw_ifeq_f (pc1 := 14) at_461_11 c4 rfl ?_
      refine aw_iload_n (pc1 := 15) at_461_14 l2 rfl ?_
      refine aw_vload_n (pc1 := 16) at_461_15 l0 i0 rfl ?_
      obtain ⟨v5, e6, hs2⟩ := am_bind hs1
      clear hs1
      refine aw_pG (pc1 := 19) at_461_16 (am_vR_s e6).1 rfl ?_
      refine aw_iload_n (pc1 := 20) at_461_19 l1 rfl ?_
      obtain ⟨v7, e8, hs3⟩ := am_bind hs2
      clear hs2
      refine aw_pA (pc1 := 21) at_461_20 (Or.inl ⟨rfl, rfl⟩) e8 rfl ?_
      by_cases c9 : ¬ x2 = v7
      · rw [if_pos c9] at hs3
        refine aw_icne_t at_461_21 c9 ?_
        refine aw_vload_n (pc1 := 27) at_461_26 l0 i0 rfl ?_
        obtain ⟨z10, hs4⟩ := am_ift hs3
        clear hs3
        refine aw_call (F := fm_442 N x0 h2) (t := true) (na := 1) (kd := 1) (as := [x0]) at_461_27 (am_k3v kb_442) mn_442 mk_442 rfl rfl (am_ok_v mi_442 (am_hl rfl (am_ccR i0 am_cats_0) rfl) z10) (am_hc am_cats_0 rfl) (fun _ => ⟨rfl, hh_461⟩) (fun o1 hz9 => rm_442 x0 h2 o1 i0 hz9) ?_
        rcases am_cV_s hs4 with ⟨h12, f13, hs5⟩ | hs5
        · clear hs4
          refine Or.inl ⟨_, _, f13, ?_⟩
          show am_W X _ 461 30 _ [] h12 _
          refine aw_vload_n (pc1 := 31) at_461_30 l0 i0 rfl ?_
          obtain ⟨v14, e15, hs6⟩ := am_bind hs5
          clear hs5
          refine aw_pG (pc1 := 34) at_461_31 (am_vR_s e15).1 rfl ?_
          refine aw_iload_n (pc1 := 35) at_461_34 l1 rfl ?_
          refine aw_iload_n (pc1 := 36) at_461_35 l2 rfl ?_
          obtain ⟨h16, e17, hs7⟩ := am_bind hs6
          clear hs6
          refine aw_pS (pc1 := 37) at_461_36 (Or.inl ⟨rfl, rfl⟩) e17 rfl ?_
          refine aw_vload_n (pc1 := 38) at_461_37 l0 i0 rfl ?_
          obtain ⟨z18, hs8⟩ := am_ift hs7
          clear hs7
          refine aw_call (F := fm_444 N x0 h16) (t := true) (na := 1) (kd := 1) (as := [x0]) at_461_38 (am_k3v kb_444) mn_444 mk_444 rfl rfl (am_ok_v mi_444 (am_hl rfl (am_ccR i0 am_cats_0) rfl) z18) (am_hc am_cats_0 rfl) (fun _ => ⟨rfl, hh_461⟩) (fun o1 hz9 => rm_444 x0 h16 o1 i0 hz9) ?_
          rcases am_cI_s hs8 with ⟨v19, h20, f21, hs9⟩ | hs9
          · clear hs8
            refine Or.inl ⟨_, _, f21, ?_⟩
            show am_W X _ 461 41 _ [(.int v19)] h20 _
            obtain ⟨z22, hs10⟩ := am_ift hs9
            clear hs9
            cases hs10
            exact aw_iret at_461_41 (by rw [rt_461]; exact z22) rfl
          · clear hs8
            exact Or.inr hs9
        · clear hs4
          exact Or.inr hs5
      · rw [if_neg c9] at hs3
        refine aw_icne_f (pc1 := 24) at_461_21 c9 rfl ?_
        exact rg_461_24 h2 o   hs3
  · clear hs
    exact Or.inr hs1
def fm_461 (N : Nat) (y0 : Value) (y1 : Int32) (y2 : Int32) (h : am_H) : Option am_O := fg_461_0 N y0 y1 y2 h
theorem rm_461 {X : am_X} {d : Nat} {N : Nat} (y0 : Value) (y1 : Int32) (y2 : Int32) (h : am_H) (o : am_O) (i0 : am_isR y0 = true) (hs : fm_461 N y0 y1 y2 h = some o) : am_W X (d + 4) 461 0 (am_args 0 [y0, .int y1, .int y2]) [] h (fun q => q = o) := by
  rw [am_args_R i0, am_args_I, am_args_I]
  exact rg_461_0 y0 y1 y2 h o rfl rfl rfl i0 hs
def fg_460_87 (N : Nat) (h : am_H) : Option am_O := some (.inl (none, h))
theorem rg_460_87 {X : am_X} {d : Nat} {N : Nat} {lv : am_LV} (h : am_H) (o : am_O) (hs : fg_460_87 N h = some o) : am_W X (d + 5) 460 87 lv [] h (fun q => q = o) := by
  unfold fg_460_87 at hs
  cases hs
  exact aw_vret at_460_87 rt_460 rfl
def fg_460_81 (N : Nat) (rec_2 : Value → Int32 → am_H → Option am_O) (x0 : Value) (x1 : Int32) (h : am_H) : Option am_O := (rec_2 x0 ((x1 + 1)) h)
theorem rg_460_81 {X : am_X} {d : Nat} {N : Nat} {rec_2 : Value → Int32 → am_H → Option am_O} (q_2 : ∀ (x0 : Value) (x1 : Int32) (h : am_H) (o : am_O), rec_2 x0 x1 h = some o → ∀ lv : am_LV, (lv.lookup 0 = some x0) → (lv.lookup 1 = some (.int x1)) → (am_isR x0 = true) → am_W X (d + 5) 460 2 lv [] h (fun q => q = o)) {lv : am_LV} (x0 : Value) (x1 : Int32) (h : am_H) (o : am_O) (l0 : lv.lookup 0 = some x0) (l1 : lv.lookup 1 = some (.int x1)) (i0 : am_isR x0 = true) (hs : fg_460_81 N rec_2 x0 x1 h = some o) : am_W X (d + 5) 460 81 lv [] h (fun q => q = o) := by
  unfold fg_460_81 at hs
  refine aw_iinc (v := (x1 + 1)) (c := 1) (lv1 := am_put1 _ 1 _) (pc1 := 84) at_460_81 l1 (by decide) rfl rfl rfl ?_
  refine aw_goto at_460_84 ?_
  exact q_2 x0 ((x1 + 1)) h o hs _ (am_lk1 l0 rfl (by rw [am_isRc i0]; rfl)) am_lk0 i0
def fg_460_2 (N : Nat) : Nat → Value → Int32 → am_H → Option am_O
  | 0 => fun _ _ _ => none
  | K + 1 => fun x0 x1 h => ((am_vI (am_pG 3090 x0 h)).bind fun v1 => (if v1 ≤ x1 then (fg_460_87 N h) else ((am_vI (am_pG 3167 x0 h)).bind fun v4 => (if ¬ v4 = 0 then (fg_460_87 N h) else ((am_vR (am_pG 3093 x0 h)).bind fun v7 => ((am_pA 0 v7 x1 h).bind fun v9 => (if am_pOk 12 x0 h then am_cI true (fm_461 N x0 x1 ((v9 + 1)) h) (fun v12 h13 => (if ¬ v12 = 0 then (fg_460_81 N (fg_460_2 N K) x0 x1 h13) else (if am_pOk 12 x0 h13 then am_cI true (fm_461 N x0 x1 ((v9 - 1)) h13) (fun v17 h18 => (if ¬ v17 = 0 then (fg_460_81 N (fg_460_2 N K) x0 x1 h18) else (if am_pOk 12 x0 h18 then am_cI true (fm_461 N x0 x1 ((v9 + 10)) h18) (fun v22 h23 => (if ¬ v22 = 0 then (fg_460_81 N (fg_460_2 N K) x0 x1 h23) else (if am_pOk 12 x0 h23 then am_cI true (fm_461 N x0 x1 ((v9 - 10)) h23) (fun v27 h28 => (if ¬ v27 = 0 then (fg_460_81 N (fg_460_2 N K) x0 x1 h28) else (if am_pOk 12 x0 h28 then am_cI true (fm_461 N x0 x1 ((-v9)) h28) (fun v32 h33 => ((am_pP 3167 x0 (.int v32) h33).bind fun h35 => (fg_460_81 N (fg_460_2 N K) x0 x1 h35))) else none))) else none))) else none))) else none))) else none)))))))
theorem rg_460_2 {X : am_X} {d : Nat} {N : Nat} : ∀ (K : Nat) (x0 : Value) (x1 : Int32) (h : am_H) (o : am_O), fg_460_2 N K x0 x1 h = some o → ∀ lv : am_LV, (lv.lookup 0 = some x0) → (lv.lookup 1 = some (.int x1)) → (am_isR x0 = true) → am_W X (d + 5) 460 2 lv [] h (fun q => q = o) := by
  intro K
  induction K with
  | zero => intro x0 x1 h o hs; cases hs
  | succ K ih =>
    intro x0 x1 h o hs lv l0 l1 i0
    unfold fg_460_2 at hs
    refine aw_iload_n (pc1 := 3) at_460_2 l1 rfl ?_
    refine aw_vload_n (pc1 := 4) at_460_3 l0 i0 rfl ?_
    obtain ⟨v1, e2, hs1⟩ := am_bind hs
    clear hs
    refine aw_pG (pc1 := 7) at_460_4 (am_vI_s e2) rfl ?_
    by_cases c3 : v1 ≤ x1
    · rw [if_pos c3] at hs1
      refine aw_icge_t at_460_7 c3 ?_
      exact rg_460_87 h o   hs1
    · rw [if_neg c3] at hs1
      refine aw_icge_f (pc1 := 10) at_460_7 c3 rfl ?_
      refine aw_vload_n (pc1 := 11) at_460_10 l0 i0 rfl ?_
      obtain ⟨v4, e5, hs2⟩ := am_bind hs1
      clear hs1
      refine aw_pG (pc1 := 14) at_460_11 (am_vI_s e5) rfl ?_
      by_cases c6 : ¬ v4 = 0
      · rw [if_pos c6] at hs2
        refine aw_ifne_t at_460_14 c6 ?_
        exact rg_460_87 h o   hs2
      · rw [if_neg c6] at hs2
        refine aw_ifne_f (pc1 := 17) at_460_14 c6 rfl ?_
        refine aw_vload_n (pc1 := 18) at_460_17 l0 i0 rfl ?_
        obtain ⟨v7, e8, hs3⟩ := am_bind hs2
        clear hs2
        refine aw_pG (pc1 := 21) at_460_18 (am_vR_s e8).1 rfl ?_
        refine aw_iload_n (pc1 := 22) at_460_21 l1 rfl ?_
        obtain ⟨v9, e10, hs4⟩ := am_bind hs3
        clear hs3
        refine aw_pA (pc1 := 23) at_460_22 (Or.inl ⟨rfl, rfl⟩) e10 rfl ?_
        refine aw_istore_n (lv1 := am_put1 _ 2 _) (pc1 := 24) at_460_23 rfl rfl ?_
        refine aw_vload_n (pc1 := 25) at_460_24 (am_lk1 l0 rfl rfl) i0 rfl ?_
        refine aw_iload_n (pc1 := 26) at_460_25 (am_lk1 l1 rfl rfl) rfl ?_
        refine aw_iload_n (pc1 := 27) at_460_26 am_lk0 rfl ?_
        refine aw_iconst (v := 1) (pc1 := 28) at_460_27 (by decide) rfl ?_
        refine aw_iadd (v := (v9 + 1)) (pc1 := 29) at_460_28 rfl rfl ?_
        obtain ⟨z11, hs5⟩ := am_ift hs4
        clear hs4
        refine aw_call (F := fm_461 N x0 x1 ((v9 + 1)) h) (t := true) (na := 3) (kd := 1) (as := [x0, (.int x1), (.int (v9 + 1))]) at_460_29 (am_k3v kb_461) mn_461 mk_461 rfl rfl (am_ok_v mi_461 (am_hl rfl (am_ccR i0 (am_ccI (am_ccI am_cats_0))) rfl) z11) (am_hc am_cats_0 rfl) (fun _ => ⟨rfl, hh_460⟩) (fun o1 hz9 => rm_461 x0 x1 ((v9 + 1)) h o1 i0 hz9) ?_
        rcases am_cI_s hs5 with ⟨v12, h13, f14, hs6⟩ | hs6
        · clear hs5
          refine Or.inl ⟨_, _, f14, ?_⟩
          show am_W X _ 460 32 _ [(.int v12)] h13 _
          by_cases c15 : ¬ v12 = 0
          · rw [if_pos c15] at hs6
            refine aw_ifne_t at_460_32 c15 ?_
            exact rg_460_81 (fun z0 z1 h o hs6 => ih z0 z1 h o hs6) x0 x1 h13 o (am_lk1 l0 rfl rfl) (am_lk1 l1 rfl rfl) i0 hs6
          · rw [if_neg c15] at hs6
            refine aw_ifne_f (pc1 := 35) at_460_32 c15 rfl ?_
            refine aw_vload_n (pc1 := 36) at_460_35 (am_lk1 l0 rfl rfl) i0 rfl ?_
            refine aw_iload_n (pc1 := 37) at_460_36 (am_lk1 l1 rfl rfl) rfl ?_
            refine aw_iload_n (pc1 := 38) at_460_37 am_lk0 rfl ?_
            refine aw_iconst (v := 1) (pc1 := 39) at_460_38 (by decide) rfl ?_
            refine aw_isub (v := (v9 - 1)) (pc1 := 40) at_460_39 rfl rfl ?_
            obtain ⟨z16, hs7⟩ := am_ift hs6
            clear hs6
            refine aw_call (F := fm_461 N x0 x1 ((v9 - 1)) h13) (t := true) (na := 3) (kd := 1) (as := [x0, (.int x1), (.int (v9 - 1))]) at_460_40 (am_k3v kb_461) mn_461 mk_461 rfl rfl (am_ok_v mi_461 (am_hl rfl (am_ccR i0 (am_ccI (am_ccI am_cats_0))) rfl) z16) (am_hc am_cats_0 rfl) (fun _ => ⟨rfl, hh_460⟩) (fun o1 hz9 => rm_461 x0 x1 ((v9 - 1)) h13 o1 i0 hz9) ?_
            rcases am_cI_s hs7 with ⟨v17, h18, f19, hs8⟩ | hs8
            · clear hs7
              refine Or.inl ⟨_, _, f19, ?_⟩
              show am_W X _ 460 43 _ [(.int v17)] h18 _
              by_cases c20 : ¬ v17 = 0
              · rw [if_pos c20] at hs8
                refine aw_ifne_t at_460_43 c20 ?_
                exact rg_460_81 (fun z0 z1 h o hs8 => ih z0 z1 h o hs8) x0 x1 h18 o (am_lk1 l0 rfl rfl) (am_lk1 l1 rfl rfl) i0 hs8
              · rw [if_neg c20] at hs8
                refine aw_ifne_f (pc1 := 46) at_460_43 c20 rfl ?_
                refine aw_vload_n (pc1 := 47) at_460_46 (am_lk1 l0 rfl rfl) i0 rfl ?_
                refine aw_iload_n (pc1 := 48) at_460_47 (am_lk1 l1 rfl rfl) rfl ?_
                refine aw_iload_n (pc1 := 49) at_460_48 am_lk0 rfl ?_
                refine aw_bipush (v := 10) (pc1 := 51) at_460_49 (by decide) rfl ?_
                refine aw_iadd (v := (v9 + 10)) (pc1 := 52) at_460_51 rfl rfl ?_
                obtain ⟨z21, hs9⟩ := am_ift hs8
                clear hs8
                refine aw_call (F := fm_461 N x0 x1 ((v9 + 10)) h18) (t := true) (na := 3) (kd := 1) (as := [x0, (.int x1), (.int (v9 + 10))]) at_460_52 (am_k3v kb_461) mn_461 mk_461 rfl rfl (am_ok_v mi_461 (am_hl rfl (am_ccR i0 (am_ccI (am_ccI am_cats_0))) rfl) z21) (am_hc am_cats_0 rfl) (fun _ => ⟨rfl, hh_460⟩) (fun o1 hz9 => rm_461 x0 x1 ((v9 + 10)) h18 o1 i0 hz9) ?_
                rcases am_cI_s hs9 with ⟨v22, h23, f24, hs10⟩ | hs10
                · clear hs9
                  refine Or.inl ⟨_, _, f24, ?_⟩
                  show am_W X _ 460 55 _ [(.int v22)] h23 _
                  by_cases c25 : ¬ v22 = 0
                  · rw [if_pos c25] at hs10
                    refine aw_ifne_t at_460_55 c25 ?_
                    exact rg_460_81 (fun z0 z1 h o hs10 => ih z0 z1 h o hs10) x0 x1 h23 o (am_lk1 l0 rfl rfl) (am_lk1 l1 rfl rfl) i0 hs10
                  · rw [if_neg c25] at hs10
                    refine aw_ifne_f (pc1 := 58) at_460_55 c25 rfl ?_
                    refine aw_vload_n (pc1 := 59) at_460_58 (am_lk1 l0 rfl rfl) i0 rfl ?_
                    refine aw_iload_n (pc1 := 60) at_460_59 (am_lk1 l1 rfl rfl) rfl ?_
                    refine aw_iload_n (pc1 := 61) at_460_60 am_lk0 rfl ?_
                    refine aw_bipush (v := 10) (pc1 := 63) at_460_61 (by decide) rfl ?_
                    refine aw_isub (v := (v9 - 10)) (pc1 := 64) at_460_63 rfl rfl ?_
                    obtain ⟨z26, hs11⟩ := am_ift hs10
                    clear hs10
                    refine aw_call (F := fm_461 N x0 x1 ((v9 - 10)) h23) (t := true) (na := 3) (kd := 1) (as := [x0, (.int x1), (.int (v9 - 10))]) at_460_64 (am_k3v kb_461) mn_461 mk_461 rfl rfl (am_ok_v mi_461 (am_hl rfl (am_ccR i0 (am_ccI (am_ccI am_cats_0))) rfl) z26) (am_hc am_cats_0 rfl) (fun _ => ⟨rfl, hh_460⟩) (fun o1 hz9 => rm_461 x0 x1 ((v9 - 10)) h23 o1 i0 hz9) ?_
                    rcases am_cI_s hs11 with ⟨v27, h28, f29, hs12⟩ | hs12
                    · clear hs11
                      refine Or.inl ⟨_, _, f29, ?_⟩
                      show am_W X _ 460 67 _ [(.int v27)] h28 _
                      by_cases c30 : ¬ v27 = 0
                      · rw [if_pos c30] at hs12
                        refine aw_ifne_t at_460_67 c30 ?_
                        exact rg_460_81 (fun z0 z1 h o hs12 => ih z0 z1 h o hs12) x0 x1 h28 o (am_lk1 l0 rfl rfl) (am_lk1 l1 rfl rfl) i0 hs12
                      · rw [if_neg c30] at hs12
                        refine aw_ifne_f (pc1 := 70) at_460_67 c30 rfl ?_
                        refine aw_vload_n (pc1 := 71) at_460_70 (am_lk1 l0 rfl rfl) i0 rfl ?_
                        refine aw_vload_n (pc1 := 72) at_460_71 (am_lk1 l0 rfl rfl) i0 rfl ?_
                        refine aw_iload_n (pc1 := 73) at_460_72 (am_lk1 l1 rfl rfl) rfl ?_
                        refine aw_iload_n (pc1 := 74) at_460_73 am_lk0 rfl ?_
                        refine aw_ineg (v := (-v9)) (pc1 := 75) at_460_74 rfl rfl ?_
                        obtain ⟨z31, hs13⟩ := am_ift hs12
                        clear hs12
                        refine aw_call (F := fm_461 N x0 x1 ((-v9)) h28) (t := true) (na := 3) (kd := 1) (as := [x0, (.int x1), (.int (-v9))]) at_460_75 (am_k3v kb_461) mn_461 mk_461 rfl rfl (am_ok_v mi_461 (am_hl rfl (am_ccR i0 (am_ccI (am_ccI am_cats_0))) rfl) z31) (am_hc (am_ccR i0 am_cats_0) rfl) (fun _ => ⟨rfl, hh_460⟩) (fun o1 hz9 => rm_461 x0 x1 ((-v9)) h28 o1 i0 hz9) ?_
                        rcases am_cI_s hs13 with ⟨v32, h33, f34, hs14⟩ | hs14
                        · clear hs13
                          refine Or.inl ⟨_, _, f34, ?_⟩
                          show am_W X _ 460 78 _ [(.int v32), x0] h33 _
                          obtain ⟨h35, e36, hs15⟩ := am_bind hs14
                          clear hs14
                          refine aw_pP (pc1 := 81) at_460_78 e36 rfl ?_
                          exact rg_460_81 (fun z0 z1 h o hs15 => ih z0 z1 h o hs15) x0 x1 h35 o (am_lk1 l0 rfl rfl) (am_lk1 l1 rfl rfl) i0 hs15
                        · clear hs13
                          exact Or.inr hs14
                    · clear hs11
                      exact Or.inr hs12
                · clear hs9
                  exact Or.inr hs10
            · clear hs7
              exact Or.inr hs8
        · clear hs5
          exact Or.inr hs6
def fg_460_0 (N : Nat) (x0 : Value) (h : am_H) : Option am_O := (fg_460_2 N N x0 0 h)
theorem rg_460_0 {X : am_X} {d : Nat} {N : Nat} {lv : am_LV} (x0 : Value) (h : am_H) (o : am_O) (l0 : lv.lookup 0 = some x0) (i0 : am_isR x0 = true) (hs : fg_460_0 N x0 h = some o) : am_W X (d + 5) 460 0 lv [] h (fun q => q = o) := by
  unfold fg_460_0 at hs
  refine aw_iconst (v := 0) (pc1 := 1) at_460_0 (by decide) rfl ?_
  refine aw_istore_n (lv1 := am_put1 _ 1 _) (pc1 := 2) at_460_1 rfl rfl ?_
  exact rg_460_2 N x0 0 h o hs _ (am_lk1 l0 rfl (by rw [am_isRc i0]; rfl)) am_lk0 i0
def fm_460 (N : Nat) (y0 : Value) (h : am_H) : Option am_O := fg_460_0 N y0 h
theorem rm_460 {X : am_X} {d : Nat} {N : Nat} (y0 : Value) (h : am_H) (o : am_O) (i0 : am_isR y0 = true) (hs : fm_460 N y0 h = some o) : am_W X (d + 5) 460 0 (am_args 0 [y0]) [] h (fun q => q = o) := by
  rw [am_args_R i0]
  exact rg_460_0 y0 h o rfl i0 hs
def fg_462_112 (N : Nat) (h : am_H) : Option am_O := some (.inl (none, h))
theorem rg_462_112 {X : am_X} {d : Nat} {N : Nat} {lv : am_LV} (h : am_H) (o : am_O) (hs : fg_462_112 N h = some o) : am_W X (d + 4) 462 112 lv [] h (fun q => q = o) := by
  unfold fg_462_112 at hs
  cases hs
  exact aw_vret at_462_112 rt_462 rfl
def fg_462_106 (N : Nat) (rec_2 : Value → Int32 → am_H → Option am_O) (x0 : Value) (x1 : Int32) (h : am_H) : Option am_O := (rec_2 x0 ((x1 + 1)) h)
theorem rg_462_106 {X : am_X} {d : Nat} {N : Nat} {rec_2 : Value → Int32 → am_H → Option am_O} (q_2 : ∀ (x0 : Value) (x1 : Int32) (h : am_H) (o : am_O), rec_2 x0 x1 h = some o → ∀ lv : am_LV, (lv.lookup 0 = some x0) → (lv.lookup 1 = some (.int x1)) → (am_isR x0 = true) → am_W X (d + 4) 462 2 lv [] h (fun q => q = o)) {lv : am_LV} (x0 : Value) (x1 : Int32) (h : am_H) (o : am_O) (l0 : lv.lookup 0 = some x0) (l1 : lv.lookup 1 = some (.int x1)) (i0 : am_isR x0 = true) (hs : fg_462_106 N rec_2 x0 x1 h = some o) : am_W X (d + 4) 462 106 lv [] h (fun q => q = o) := by
  unfold fg_462_106 at hs
  refine aw_iinc (v := (x1 + 1)) (c := 1) (lv1 := am_put1 _ 1 _) (pc1 := 109) at_462_106 l1 (by decide) rfl rfl rfl ?_
  refine aw_goto at_462_109 ?_
  exact q_2 x0 ((x1 + 1)) h o hs _ (am_lk1 l0 rfl (by rw [am_isRc i0]; rfl)) am_lk0 i0
def fg_462_100 (N : Nat) (rec_2 : Value → Int32 → am_H → Option am_O) (rec_19 : Value → Int32 → Int32 → am_H → Option am_O) (x0 : Value) (x1 : Int32) (x2 : Int32) (h : am_H) : Option am_O := (rec_19 x0 x1 ((x2 + 1)) h)
theorem rg_462_100 {X : am_X} {d : Nat} {N : Nat} {rec_2 : Value → Int32 → am_H → Option am_O} {rec_19 : Value → Int32 → Int32 → am_H → Option am_O} (q_2 : ∀ (x0 : Value) (x1 : Int32) (h : am_H) (o : am_O), rec_2 x0 x1 h = some o → ∀ lv : am_LV, (lv.lookup 0 = some x0) → (lv.lookup 1 = some (.int x1)) → (am_isR x0 = true) → am_W X (d + 4) 462 2 lv [] h (fun q => q = o)) (q_19 : ∀ (x0 : Value) (x1 : Int32) (x2 : Int32) (h : am_H) (o : am_O), rec_19 x0 x1 x2 h = some o → ∀ lv : am_LV, (lv.lookup 0 = some x0) → (lv.lookup 1 = some (.int x1)) → (lv.lookup 2 = some (.int x2)) → (am_isR x0 = true) → am_W X (d + 4) 462 19 lv [] h (fun q => q = o)) {lv : am_LV} (x0 : Value) (x1 : Int32) (x2 : Int32) (h : am_H) (o : am_O) (l0 : lv.lookup 0 = some x0) (l1 : lv.lookup 1 = some (.int x1)) (l2 : lv.lookup 2 = some (.int x2)) (i0 : am_isR x0 = true) (hs : fg_462_100 N rec_2 rec_19 x0 x1 x2 h = some o) : am_W X (d + 4) 462 100 lv [] h (fun q => q = o) := by
  unfold fg_462_100 at hs
  refine aw_iinc (v := (x2 + 1)) (c := 1) (lv1 := am_put1 _ 2 _) (pc1 := 103) at_462_100 l2 (by decide) rfl rfl rfl ?_
  refine aw_goto at_462_103 ?_
  exact q_19 x0 x1 ((x2 + 1)) h o hs _ (am_lk1 l0 rfl rfl) (am_lk1 l1 rfl rfl) am_lk0 i0
def fg_462_94 (N : Nat) (rec_2 : Value → Int32 → am_H → Option am_O) (rec_19 : Value → Int32 → Int32 → am_H → Option am_O) (rec_33 : Value → Int32 → Int32 → Int32 → am_H → Option am_O) (x0 : Value) (x1 : Int32) (x2 : Int32) (x3 : Int32) (h : am_H) : Option am_O := (rec_33 x0 x1 x2 ((x3 + 1)) h)
theorem rg_462_94 {X : am_X} {d : Nat} {N : Nat} {rec_2 : Value → Int32 → am_H → Option am_O} {rec_19 : Value → Int32 → Int32 → am_H → Option am_O} {rec_33 : Value → Int32 → Int32 → Int32 → am_H → Option am_O} (q_2 : ∀ (x0 : Value) (x1 : Int32) (h : am_H) (o : am_O), rec_2 x0 x1 h = some o → ∀ lv : am_LV, (lv.lookup 0 = some x0) → (lv.lookup 1 = some (.int x1)) → (am_isR x0 = true) → am_W X (d + 4) 462 2 lv [] h (fun q => q = o)) (q_19 : ∀ (x0 : Value) (x1 : Int32) (x2 : Int32) (h : am_H) (o : am_O), rec_19 x0 x1 x2 h = some o → ∀ lv : am_LV, (lv.lookup 0 = some x0) → (lv.lookup 1 = some (.int x1)) → (lv.lookup 2 = some (.int x2)) → (am_isR x0 = true) → am_W X (d + 4) 462 19 lv [] h (fun q => q = o)) (q_33 : ∀ (x0 : Value) (x1 : Int32) (x2 : Int32) (x3 : Int32) (h : am_H) (o : am_O), rec_33 x0 x1 x2 x3 h = some o → ∀ lv : am_LV, (lv.lookup 0 = some x0) → (lv.lookup 1 = some (.int x1)) → (lv.lookup 2 = some (.int x2)) → (lv.lookup 3 = some (.int x3)) → (am_isR x0 = true) → am_W X (d + 4) 462 33 lv [] h (fun q => q = o)) {lv : am_LV} (x0 : Value) (x1 : Int32) (x2 : Int32) (x3 : Int32) (h : am_H) (o : am_O) (l0 : lv.lookup 0 = some x0) (l1 : lv.lookup 1 = some (.int x1)) (l2 : lv.lookup 2 = some (.int x2)) (l3 : lv.lookup 3 = some (.int x3)) (i0 : am_isR x0 = true) (hs : fg_462_94 N rec_2 rec_19 rec_33 x0 x1 x2 x3 h = some o) : am_W X (d + 4) 462 94 lv [] h (fun q => q = o) := by
  unfold fg_462_94 at hs
  refine aw_iinc (v := (x3 + 1)) (c := 1) (lv1 := am_put1 _ 3 _) (pc1 := 97) at_462_94 l3 (by decide) rfl rfl rfl ?_
  refine aw_goto at_462_97 ?_
  exact q_33 x0 x1 x2 ((x3 + 1)) h o hs _ (am_lk1 l0 rfl rfl) (am_lk1 l1 rfl rfl) (am_lk1 l2 rfl rfl) am_lk0 i0
def fg_462_33 (N : Nat) (rec_2 : Value → Int32 → am_H → Option am_O) (rec_19 : Value → Int32 → Int32 → am_H → Option am_O) : Nat → Value → Int32 → Int32 → Int32 → am_H → Option am_O
  | 0 => fun _ _ _ _ _ => none
  | K + 1 => fun x0 x1 x2 x3 h => ((am_vI (am_pG 3090 x0 h)).bind fun v1 => (if v1 ≤ x3 then (fg_462_100 N rec_2 rec_19 x0 x1 x2 h) else ((am_vI (am_pG 3167 x0 h)).bind fun v4 => (if ¬ v4 = 0 then (fg_462_100 N rec_2 rec_19 x0 x1 x2 h) else ((am_vR (am_pG 3094 x0 h)).bind fun v7 => ((am_pA 0 v7 x1 h).bind fun v9 => am_cI false (fm_367 v9 x2 h) (fun v11 h12 => (if ¬ x3 = v11 then (if am_pOk 12 x0 h12 then am_cV true (fm_442 N x0 h12) (fun h17 => ((am_vR (am_pG 3089 x0 h17)).bind fun v19 => ((am_vR (am_pG 3089 x0 h17)).bind fun v21 => ((am_pA 0 v21 x1 h17).bind fun v23 => am_cI false (fm_353 v23 x2 x3 h17) (fun v25 h26 => ((am_pS 0 v19 x1 v25 h26).bind fun h28 => (if am_pOk 12 x0 h28 then am_cI true (fm_444 N x0 h28) (fun v31 h32 => ((am_pP 3167 x0 (.int v31) h32).bind fun h34 => (fg_462_94 N rec_2 rec_19 (fg_462_33 N rec_2 rec_19 K) x0 x1 x2 x3 h34))) else none))))))) else none) else (fg_462_94 N rec_2 rec_19 (fg_462_33 N rec_2 rec_19 K) x0 x1 x2 x3 h12)))))))))
theorem rg_462_33 {X : am_X} {d : Nat} {N : Nat} {rec_2 : Value → Int32 → am_H → Option am_O} {rec_19 : Value → Int32 → Int32 → am_H → Option am_O} (q_2 : ∀ (x0 : Value) (x1 : Int32) (h : am_H) (o : am_O), rec_2 x0 x1 h = some o → ∀ lv : am_LV, (lv.lookup 0 = some x0) → (lv.lookup 1 = some (.int x1)) → (am_isR x0 = true) → am_W X (d + 4) 462 2 lv [] h (fun q => q = o)) (q_19 : ∀ (x0 : Value) (x1 : Int32) (x2 : Int32) (h : am_H) (o : am_O), rec_19 x0 x1 x2 h = some o → ∀ lv : am_LV, (lv.lookup 0 = some x0) → (lv.lookup 1 = some (.int x1)) → (lv.lookup 2 = some (.int x2)) → (am_isR x0 = true) → am_W X (d + 4) 462 19 lv [] h (fun q => q = o)) : ∀ (K : Nat) (x0 : Value) (x1 : Int32) (x2 : Int32) (x3 : Int32) (h : am_H) (o : am_O), fg_462_33 N rec_2 rec_19 K x0 x1 x2 x3 h = some o → ∀ lv : am_LV, (lv.lookup 0 = some x0) → (lv.lookup 1 = some (.int x1)) → (lv.lookup 2 = some (.int x2)) → (lv.lookup 3 = some (.int x3)) → (am_isR x0 = true) → am_W X (d + 4) 462 33 lv [] h (fun q => q = o) := by
  intro K
  induction K with
  | zero => intro x0 x1 x2 x3 h o hs; cases hs
  | succ K ih =>
    intro x0 x1 x2 x3 h o hs lv l0 l1 l2 l3 i0
    unfold fg_462_33 at hs
    refine aw_iload_n (pc1 := 34) at_462_33 l3 rfl ?_
    refine aw_vload_n (pc1 := 35) at_462_34 l0 i0 rfl ?_
    obtain ⟨v1, e2, hs1⟩ := am_bind hs
    clear hs
    refine aw_pG (pc1 := 38) at_462_35 (am_vI_s e2) rfl ?_
    by_cases c3 : v1 ≤ x3
    · rw [if_pos c3] at hs1
      refine aw_icge_t at_462_38 c3 ?_
      exact rg_462_100 q_2 q_19 x0 x1 x2 h o l0 l1 l2 i0 hs1
    · rw [if_neg c3] at hs1
      refine aw_icge_f (pc1 := 41) at_462_38 c3 rfl ?_
      refine aw_vload_n (pc1 := 42) at_462_41 l0 i0 rfl ?_
      obtain ⟨v4, e5, hs2⟩ := am_bind hs1
      clear hs1
      refine aw_pG (pc1 := 45) at_462_42 (am_vI_s e5) rfl ?_
      by_cases c6 : ¬ v4 = 0
      · rw [if_pos c6] at hs2
        refine aw_ifne_t at_462_45 c6 ?_
        exact rg_462_100 q_2 q_19 x0 x1 x2 h o l0 l1 l2 i0 hs2
      · rw [if_neg c6] at hs2
        refine aw_ifne_f (pc1 := 48) at_462_45 c6 rfl ?_
        refine aw_iload_n (pc1 := 49) at_462_48 l3 rfl ?_
        refine aw_vload_n (pc1 := 50) at_462_49 l0 i0 rfl ?_
        obtain ⟨v7, e8, hs3⟩ := am_bind hs2
        clear hs2
        refine aw_pG (pc1 := 53) at_462_50 (am_vR_s e8).1 rfl ?_
        refine aw_iload_n (pc1 := 54) at_462_53 l1 rfl ?_
        obtain ⟨v9, e10, hs4⟩ := am_bind hs3
        clear hs3
        refine aw_pA (pc1 := 55) at_462_54 (Or.inl ⟨rfl, rfl⟩) e10 rfl ?_
        refine aw_iload_n (pc1 := 56) at_462_55 l2 rfl ?_
        refine aw_call (F := fm_367 v9 x2 h) (t := false) (na := 2) (kd := 0) (as := [(.int v9), (.int x2)]) at_462_56 (am_k3s kb_367) mn_367 mk_367 rfl rfl (am_ok_s mi_367 (am_hl rfl (am_ccI (am_ccI am_cats_0)) rfl)) (am_hc (am_ccI am_cats_0) rfl) (fun hz9 => by cases hz9) (fun o1 hz9 => rm_367 v9 x2 h o1  hz9) ?_
        rcases am_cI_s hs4 with ⟨v11, h12, f13, hs5⟩ | hs5
        · clear hs4
          refine Or.inl ⟨_, _, f13, ?_⟩
          show am_W X _ 462 59 _ [(.int v11), (.int x3)] h12 _
          by_cases c14 : ¬ x3 = v11
          · rw [if_pos c14] at hs5
            refine aw_icne_t at_462_59 c14 ?_
            refine aw_vload_n (pc1 := 66) at_462_65 l0 i0 rfl ?_
            obtain ⟨z15, hs6⟩ := am_ift hs5
            clear hs5
            refine aw_call (F := fm_442 N x0 h12) (t := true) (na := 1) (kd := 1) (as := [x0]) at_462_66 (am_k3v kb_442) mn_442 mk_442 rfl rfl (am_ok_v mi_442 (am_hl rfl (am_ccR i0 am_cats_0) rfl) z15) (am_hc am_cats_0 rfl) (fun _ => ⟨rfl, hh_462⟩) (fun o1 hz9 => rm_442 x0 h12 o1 i0 hz9) ?_
            rcases am_cV_s hs6 with ⟨h17, f18, hs7⟩ | hs7
            · clear hs6
              refine Or.inl ⟨_, _, f18, ?_⟩
              show am_W X _ 462 69 _ [] h17 _
              refine aw_vload_n (pc1 := 70) at_462_69 l0 i0 rfl ?_
              obtain ⟨v19, e20, hs8⟩ := am_bind hs7
              clear hs7
              refine aw_pG (pc1 := 73) at_462_70 (am_vR_s e20).1 rfl ?_
              refine aw_iload_n (pc1 := 74) at_462_73 l1 rfl ?_
              refine aw_vload_n (pc1 := 75) at_462_74 l0 i0 rfl ?_
              obtain ⟨v21, e22, hs9⟩ := am_bind hs8
              clear hs8
              refine aw_pG (pc1 := 78) at_462_75 (am_vR_s e22).1 rfl ?_
              refine aw_iload_n (pc1 := 79) at_462_78 l1 rfl ?_
              obtain ⟨v23, e24, hs10⟩ := am_bind hs9
              clear hs9
              refine aw_pA (pc1 := 80) at_462_79 (Or.inl ⟨rfl, rfl⟩) e24 rfl ?_
              refine aw_iload_n (pc1 := 81) at_462_80 l2 rfl ?_
              refine aw_iload_n (pc1 := 82) at_462_81 l3 rfl ?_
              refine aw_call (F := fm_353 v23 x2 x3 h17) (t := false) (na := 3) (kd := 0) (as := [(.int v23), (.int x2), (.int x3)]) at_462_82 (am_k3s kb_353) mn_353 mk_353 rfl rfl (am_ok_s mi_353 (am_hl rfl (am_ccI (am_ccI (am_ccI am_cats_0))) rfl)) (am_hc (am_ccI (am_ccR (am_vR_s e20).2 am_cats_0)) rfl) (fun hz9 => by cases hz9) (fun o1 hz9 => rm_353 v23 x2 x3 h17 o1  hz9) ?_
              rcases am_cI_s hs10 with ⟨v25, h26, f27, hs11⟩ | hs11
              · clear hs10
                refine Or.inl ⟨_, _, f27, ?_⟩
                show am_W X _ 462 85 _ [(.int v25), (.int x1), v19] h26 _
                obtain ⟨h28, e29, hs12⟩ := am_bind hs11
                clear hs11
                refine aw_pS (pc1 := 86) at_462_85 (Or.inl ⟨rfl, rfl⟩) e29 rfl ?_
                refine aw_vload_n (pc1 := 87) at_462_86 l0 i0 rfl ?_
                refine aw_vload_n (pc1 := 88) at_462_87 l0 i0 rfl ?_
                obtain ⟨z30, hs13⟩ := am_ift hs12
                clear hs12
                refine aw_call (F := fm_444 N x0 h28) (t := true) (na := 1) (kd := 1) (as := [x0]) at_462_88 (am_k3v kb_444) mn_444 mk_444 rfl rfl (am_ok_v mi_444 (am_hl rfl (am_ccR i0 am_cats_0) rfl) z30) (am_hc (am_ccR i0 am_cats_0) rfl) (fun _ => ⟨rfl, hh_462⟩) (fun o1 hz9 => rm_444 x0 h28 o1 i0 hz9) ?_
                rcases am_cI_s hs13 with ⟨v31, h32, f33, hs14⟩ | hs14
                · clear hs13
                  refine Or.inl ⟨_, _, f33, ?_⟩
                  show am_W X _ 462 91 _ [(.int v31), x0] h32 _
                  obtain ⟨h34, e35, hs15⟩ := am_bind hs14
                  clear hs14
                  refine aw_pP (pc1 := 94) at_462_91 e35 rfl ?_
                  exact rg_462_94 q_2 q_19 (fun z0 z1 z2 z3 h o hs15 => ih z0 z1 z2 z3 h o hs15) x0 x1 x2 x3 h34 o l0 l1 l2 l3 i0 hs15
                · clear hs13
                  exact Or.inr hs14
              · clear hs10
                exact Or.inr hs11
            · clear hs6
              exact Or.inr hs7
          · rw [if_neg c14] at hs5
            refine aw_icne_f (pc1 := 62) at_462_59 c14 rfl ?_
            refine aw_goto at_462_62 ?_
            exact rg_462_94 q_2 q_19 (fun z0 z1 z2 z3 h o hs5 => ih z0 z1 z2 z3 h o hs5) x0 x1 x2 x3 h12 o l0 l1 l2 l3 i0 hs5
        · clear hs4
          exact Or.inr hs5
def fg_462_19 (N : Nat) (rec_2 : Value → Int32 → am_H → Option am_O) : Nat → Value → Int32 → Int32 → am_H → Option am_O
  | 0 => fun _ _ _ _ => none
  | K + 1 => fun x0 x1 x2 h => (if 4 ≤ x2 then (fg_462_106 N rec_2 x0 x1 h) else ((am_vI (am_pG 3167 x0 h)).bind fun v2 => (if ¬ v2 = 0 then (fg_462_106 N rec_2 x0 x1 h) else (fg_462_33 N rec_2 (fg_462_19 N rec_2 K) N x0 x1 x2 0 h))))
theorem rg_462_19 {X : am_X} {d : Nat} {N : Nat} {rec_2 : Value → Int32 → am_H → Option am_O} (q_2 : ∀ (x0 : Value) (x1 : Int32) (h : am_H) (o : am_O), rec_2 x0 x1 h = some o → ∀ lv : am_LV, (lv.lookup 0 = some x0) → (lv.lookup 1 = some (.int x1)) → (am_isR x0 = true) → am_W X (d + 4) 462 2 lv [] h (fun q => q = o)) : ∀ (K : Nat) (x0 : Value) (x1 : Int32) (x2 : Int32) (h : am_H) (o : am_O), fg_462_19 N rec_2 K x0 x1 x2 h = some o → ∀ lv : am_LV, (lv.lookup 0 = some x0) → (lv.lookup 1 = some (.int x1)) → (lv.lookup 2 = some (.int x2)) → (am_isR x0 = true) → am_W X (d + 4) 462 19 lv [] h (fun q => q = o) := by
  intro K
  induction K with
  | zero => intro x0 x1 x2 h o hs; cases hs
  | succ K ih =>
    intro x0 x1 x2 h o hs lv l0 l1 l2 i0
    unfold fg_462_19 at hs
    refine aw_iload_n (pc1 := 20) at_462_19 l2 rfl ?_
    refine aw_iconst (v := 4) (pc1 := 21) at_462_20 (by decide) rfl ?_
    by_cases c1 : 4 ≤ x2
    · rw [if_pos c1] at hs
      refine aw_icge_t at_462_21 c1 ?_
      exact rg_462_106 q_2 x0 x1 h o l0 l1 i0 hs
    · rw [if_neg c1] at hs
      refine aw_icge_f (pc1 := 24) at_462_21 c1 rfl ?_
      refine aw_vload_n (pc1 := 25) at_462_24 l0 i0 rfl ?_
      obtain ⟨v2, e3, hs1⟩ := am_bind hs
      clear hs
      refine aw_pG (pc1 := 28) at_462_25 (am_vI_s e3) rfl ?_
      by_cases c4 : ¬ v2 = 0
      · rw [if_pos c4] at hs1
        refine aw_ifne_t at_462_28 c4 ?_
        exact rg_462_106 q_2 x0 x1 h o l0 l1 i0 hs1
      · rw [if_neg c4] at hs1
        refine aw_ifne_f (pc1 := 31) at_462_28 c4 rfl ?_
        refine aw_iconst (v := 0) (pc1 := 32) at_462_31 (by decide) rfl ?_
        refine aw_istore_n (lv1 := am_put1 _ 3 _) (pc1 := 33) at_462_32 rfl rfl ?_
        exact rg_462_33 q_2 (fun z0 z1 z2 h o hs1 => ih z0 z1 z2 h o hs1) N x0 x1 x2 0 h o hs1 _ (am_lk1 l0 rfl rfl) (am_lk1 l1 rfl rfl) (am_lk1 l2 rfl rfl) am_lk0 i0
def fg_462_2 (N : Nat) : Nat → Value → Int32 → am_H → Option am_O
  | 0 => fun _ _ _ => none
  | K + 1 => fun x0 x1 h => ((am_vI (am_pG 3090 x0 h)).bind fun v1 => (if v1 ≤ x1 then (fg_462_112 N h) else ((am_vI (am_pG 3167 x0 h)).bind fun v4 => (if ¬ v4 = 0 then (fg_462_112 N h) else (fg_462_19 N (fg_462_2 N K) N x0 x1 0 h)))))
theorem rg_462_2 {X : am_X} {d : Nat} {N : Nat} : ∀ (K : Nat) (x0 : Value) (x1 : Int32) (h : am_H) (o : am_O), fg_462_2 N K x0 x1 h = some o → ∀ lv : am_LV, (lv.lookup 0 = some x0) → (lv.lookup 1 = some (.int x1)) → (am_isR x0 = true) → am_W X (d + 4) 462 2 lv [] h (fun q => q = o) := by
  intro K
  induction K with
  | zero => intro x0 x1 h o hs; cases hs
  | succ K ih =>
    intro x0 x1 h o hs lv l0 l1 i0
    unfold fg_462_2 at hs
    refine aw_iload_n (pc1 := 3) at_462_2 l1 rfl ?_
    refine aw_vload_n (pc1 := 4) at_462_3 l0 i0 rfl ?_
    obtain ⟨v1, e2, hs1⟩ := am_bind hs
    clear hs
    refine aw_pG (pc1 := 7) at_462_4 (am_vI_s e2) rfl ?_
    by_cases c3 : v1 ≤ x1
    · rw [if_pos c3] at hs1
      refine aw_icge_t at_462_7 c3 ?_
      exact rg_462_112 h o   hs1
    · rw [if_neg c3] at hs1
      refine aw_icge_f (pc1 := 10) at_462_7 c3 rfl ?_
      refine aw_vload_n (pc1 := 11) at_462_10 l0 i0 rfl ?_
      obtain ⟨v4, e5, hs2⟩ := am_bind hs1
      clear hs1
      refine aw_pG (pc1 := 14) at_462_11 (am_vI_s e5) rfl ?_
      by_cases c6 : ¬ v4 = 0
      · rw [if_pos c6] at hs2
        refine aw_ifne_t at_462_14 c6 ?_
        exact rg_462_112 h o   hs2
      · rw [if_neg c6] at hs2
        refine aw_ifne_f (pc1 := 17) at_462_14 c6 rfl ?_
        refine aw_iconst (v := 0) (pc1 := 18) at_462_17 (by decide) rfl ?_
        refine aw_istore_n (lv1 := am_put1 _ 2 _) (pc1 := 19) at_462_18 rfl rfl ?_
        exact rg_462_19 (fun z0 z1 h o hs2 => ih z0 z1 h o hs2) N x0 x1 0 h o hs2 _ (am_lk1 l0 rfl rfl) (am_lk1 l1 rfl rfl) am_lk0 i0
def fg_462_0 (N : Nat) (x0 : Value) (h : am_H) : Option am_O := (fg_462_2 N N x0 0 h)
theorem rg_462_0 {X : am_X} {d : Nat} {N : Nat} {lv : am_LV} (x0 : Value) (h : am_H) (o : am_O) (l0 : lv.lookup 0 = some x0) (i0 : am_isR x0 = true) (hs : fg_462_0 N x0 h = some o) : am_W X (d + 4) 462 0 lv [] h (fun q => q = o) := by
  unfold fg_462_0 at hs
  refine aw_iconst (v := 0) (pc1 := 1) at_462_0 (by decide) rfl ?_
  refine aw_istore_n (lv1 := am_put1 _ 1 _) (pc1 := 2) at_462_1 rfl rfl ?_
  exact rg_462_2 N x0 0 h o hs _ (am_lk1 l0 rfl (by rw [am_isRc i0]; rfl)) am_lk0 i0
def fm_462 (N : Nat) (y0 : Value) (h : am_H) : Option am_O := fg_462_0 N y0 h
theorem rm_462 {X : am_X} {d : Nat} {N : Nat} (y0 : Value) (h : am_H) (o : am_O) (i0 : am_isR y0 = true) (hs : fm_462 N y0 h = some o) : am_W X (d + 4) 462 0 (am_args 0 [y0]) [] h (fun q => q = o) := by
  rw [am_args_R i0]
  exact rg_462_0 y0 h o rfl i0 hs
def fg_463_111 (N : Nat) (h : am_H) : Option am_O := some (.inl (none, h))
theorem rg_463_111 {X : am_X} {d : Nat} {N : Nat} {lv : am_LV} (h : am_H) (o : am_O) (hs : fg_463_111 N h = some o) : am_W X (d + 4) 463 111 lv [] h (fun q => q = o) := by
  unfold fg_463_111 at hs
  cases hs
  exact aw_vret at_463_111 rt_463 rfl
def fg_463_105 (N : Nat) (rec_2 : Value → Int32 → am_H → Option am_O) (x0 : Value) (x1 : Int32) (h : am_H) : Option am_O := (rec_2 x0 ((x1 + 1)) h)
theorem rg_463_105 {X : am_X} {d : Nat} {N : Nat} {rec_2 : Value → Int32 → am_H → Option am_O} (q_2 : ∀ (x0 : Value) (x1 : Int32) (h : am_H) (o : am_O), rec_2 x0 x1 h = some o → ∀ lv : am_LV, (lv.lookup 0 = some x0) → (lv.lookup 1 = some (.int x1)) → (am_isR x0 = true) → am_W X (d + 4) 463 2 lv [] h (fun q => q = o)) {lv : am_LV} (x0 : Value) (x1 : Int32) (h : am_H) (o : am_O) (l0 : lv.lookup 0 = some x0) (l1 : lv.lookup 1 = some (.int x1)) (i0 : am_isR x0 = true) (hs : fg_463_105 N rec_2 x0 x1 h = some o) : am_W X (d + 4) 463 105 lv [] h (fun q => q = o) := by
  unfold fg_463_105 at hs
  refine aw_iinc (v := (x1 + 1)) (c := 1) (lv1 := am_put1 _ 1 _) (pc1 := 108) at_463_105 l1 (by decide) rfl rfl rfl ?_
  refine aw_goto at_463_108 ?_
  exact q_2 x0 ((x1 + 1)) h o hs _ (am_lk1 l0 rfl (by rw [am_isRc i0]; rfl)) am_lk0 i0
def fg_463_28 (N : Nat) (rec_2 : Value → Int32 → am_H → Option am_O) : Nat → Value → Int32 → Int32 → am_H → Option am_O
  | 0 => fun _ _ _ _ => none
  | K + 1 => fun x0 x1 x2 h => (if 4 ≤ x2 then (fg_463_105 N rec_2 x0 x1 h) else ((am_vI (am_pG 3167 x0 h)).bind fun v2 => (if ¬ v2 = 0 then (fg_463_105 N rec_2 x0 x1 h) else ((am_vR (am_pG 3094 x0 h)).bind fun v5 => ((am_pA 0 v5 x1 h).bind fun v7 => am_cI false (fm_367 v7 x2 h) (fun v9 h10 => (if am_pOk 12 x0 h10 then am_cV true (fm_442 N x0 h10) (fun h14 => ((am_vR (am_pG 3093 x0 h14)).bind fun v16 => ((am_pA 0 v16 v9 h14).bind fun v18 => ((am_vR (am_pG 3094 x0 h14)).bind fun v20 => ((am_pA 0 v20 v9 h14).bind fun v22 => (if am_pOk 12 x0 h14 then am_cV true (fm_335 x0 v18 v22 h14) (fun h26 => ((am_vR (am_pG 3089 x0 h26)).bind fun v28 => ((am_vR (am_pG 3089 x0 h26)).bind fun v30 => ((am_pA 0 v30 x1 h26).bind fun v32 => ((am_vI (am_pG 3090 x0 h26)).bind fun v34 => am_cI false (fm_353 v32 x2 v34 h26) (fun v36 h37 => ((am_pS 0 v28 x1 v36 h37).bind fun h39 => (if am_pOk 12 x0 h39 then am_cI true (fm_444 N x0 h39) (fun v42 h43 => ((am_pP 3167 x0 (.int v42) h43).bind fun h45 => (fg_463_28 N rec_2 K x0 x1 ((x2 + 1)) h45))) else none)))))))) else none)))))) else none)))))))
theorem rg_463_28 {X : am_X} {d : Nat} {N : Nat} {rec_2 : Value → Int32 → am_H → Option am_O} (q_2 : ∀ (x0 : Value) (x1 : Int32) (h : am_H) (o : am_O), rec_2 x0 x1 h = some o → ∀ lv : am_LV, (lv.lookup 0 = some x0) → (lv.lookup 1 = some (.int x1)) → (am_isR x0 = true) → am_W X (d + 4) 463 2 lv [] h (fun q => q = o)) : ∀ (K : Nat) (x0 : Value) (x1 : Int32) (x2 : Int32) (h : am_H) (o : am_O), fg_463_28 N rec_2 K x0 x1 x2 h = some o → ∀ lv : am_LV, (lv.lookup 0 = some x0) → (lv.lookup 1 = some (.int x1)) → (lv.lookup 2 = some (.int x2)) → (am_isR x0 = true) → am_W X (d + 4) 463 28 lv [] h (fun q => q = o) := by
  intro K
  induction K with
  | zero => intro x0 x1 x2 h o hs; cases hs
  | succ K ih =>
    intro x0 x1 x2 h o hs lv l0 l1 l2 i0
    unfold fg_463_28 at hs
    refine aw_iload_n (pc1 := 29) at_463_28 l2 rfl ?_
    refine aw_iconst (v := 4) (pc1 := 30) at_463_29 (by decide) rfl ?_
    by_cases c1 : 4 ≤ x2
    · rw [if_pos c1] at hs
      refine aw_icge_t at_463_30 c1 ?_
      exact rg_463_105 q_2 x0 x1 h o l0 l1 i0 hs
    · rw [if_neg c1] at hs
      refine aw_icge_f (pc1 := 33) at_463_30 c1 rfl ?_
      refine aw_vload_n (pc1 := 34) at_463_33 l0 i0 rfl ?_
      obtain ⟨v2, e3, hs1⟩ := am_bind hs
      clear hs
      refine aw_pG (pc1 := 37) at_463_34 (am_vI_s e3) rfl ?_
      by_cases c4 : ¬ v2 = 0
      · rw [if_pos c4] at hs1
        refine aw_ifne_t at_463_37 c4 ?_
        exact rg_463_105 q_2 x0 x1 h o l0 l1 i0 hs1
      · rw [if_neg c4] at hs1
        refine aw_ifne_f (pc1 := 40) at_463_37 c4 rfl ?_
        refine aw_vload_n (pc1 := 41) at_463_40 l0 i0 rfl ?_
        obtain ⟨v5, e6, hs2⟩ := am_bind hs1
        clear hs1
        refine aw_pG (pc1 := 44) at_463_41 (am_vR_s e6).1 rfl ?_
        refine aw_iload_n (pc1 := 45) at_463_44 l1 rfl ?_
        obtain ⟨v7, e8, hs3⟩ := am_bind hs2
        clear hs2
        refine aw_pA (pc1 := 46) at_463_45 (Or.inl ⟨rfl, rfl⟩) e8 rfl ?_
        refine aw_iload_n (pc1 := 47) at_463_46 l2 rfl ?_
        refine aw_call (F := fm_367 v7 x2 h) (t := false) (na := 2) (kd := 0) (as := [(.int v7), (.int x2)]) at_463_47 (am_k3s kb_367) mn_367 mk_367 rfl rfl (am_ok_s mi_367 (am_hl rfl (am_ccI (am_ccI am_cats_0)) rfl)) (am_hc am_cats_0 rfl) (fun hz9 => by cases hz9) (fun o1 hz9 => rm_367 v7 x2 h o1  hz9) ?_
        rcases am_cI_s hs3 with ⟨v9, h10, f11, hs4⟩ | hs4
        · clear hs3
          refine Or.inl ⟨_, _, f11, ?_⟩
          show am_W X _ 463 50 _ [(.int v9)] h10 _
          refine aw_istore_n (lv1 := am_put1 _ 3 _) (pc1 := 51) at_463_50 rfl rfl ?_
          refine aw_vload_n (pc1 := 52) at_463_51 (am_lk1 l0 rfl rfl) i0 rfl ?_
          obtain ⟨z12, hs5⟩ := am_ift hs4
          clear hs4
          refine aw_call (F := fm_442 N x0 h10) (t := true) (na := 1) (kd := 1) (as := [x0]) at_463_52 (am_k3v kb_442) mn_442 mk_442 rfl rfl (am_ok_v mi_442 (am_hl rfl (am_ccR i0 am_cats_0) rfl) z12) (am_hc am_cats_0 rfl) (fun _ => ⟨rfl, hh_463⟩) (fun o1 hz9 => rm_442 x0 h10 o1 i0 hz9) ?_
          rcases am_cV_s hs5 with ⟨h14, f15, hs6⟩ | hs6
          · clear hs5
            refine Or.inl ⟨_, _, f15, ?_⟩
            show am_W X _ 463 55 _ [] h14 _
            refine aw_vload_n (pc1 := 56) at_463_55 (am_lk1 l0 rfl rfl) i0 rfl ?_
            refine aw_vload_n (pc1 := 57) at_463_56 (am_lk1 l0 rfl rfl) i0 rfl ?_
            obtain ⟨v16, e17, hs7⟩ := am_bind hs6
            clear hs6
            refine aw_pG (pc1 := 60) at_463_57 (am_vR_s e17).1 rfl ?_
            refine aw_iload_n (pc1 := 61) at_463_60 am_lk0 rfl ?_
            obtain ⟨v18, e19, hs8⟩ := am_bind hs7
            clear hs7
            refine aw_pA (pc1 := 62) at_463_61 (Or.inl ⟨rfl, rfl⟩) e19 rfl ?_
            refine aw_vload_n (pc1 := 63) at_463_62 (am_lk1 l0 rfl rfl) i0 rfl ?_
            obtain ⟨v20, e21, hs9⟩ := am_bind hs8
            clear hs8
            refine aw_pG (pc1 := 66) at_463_63 (am_vR_s e21).1 rfl ?_
            refine aw_iload_n (pc1 := 67) at_463_66 am_lk0 rfl ?_
            obtain ⟨v22, e23, hs10⟩ := am_bind hs9
            clear hs9
            refine aw_pA (pc1 := 68) at_463_67 (Or.inl ⟨rfl, rfl⟩) e23 rfl ?_
            obtain ⟨z24, hs11⟩ := am_ift hs10
            clear hs10
            refine aw_call (F := fm_335 x0 v18 v22 h14) (t := true) (na := 3) (kd := 1) (as := [x0, (.int v18), (.int v22)]) at_463_68 (am_k3v kb_335) mn_335 mk_335 rfl rfl (am_ok_v mi_335 (am_hl rfl (am_ccR i0 (am_ccI (am_ccI am_cats_0))) rfl) z24) (am_hc am_cats_0 rfl) (fun _ => ⟨rfl, hh_463⟩) (fun o1 hz9 => rm_335 x0 v18 v22 h14 o1 i0 hz9) ?_
            rcases am_cV_s hs11 with ⟨h26, f27, hs12⟩ | hs12
            · clear hs11
              refine Or.inl ⟨_, _, f27, ?_⟩
              show am_W X _ 463 71 _ [] h26 _
              refine aw_vload_n (pc1 := 72) at_463_71 (am_lk1 l0 rfl rfl) i0 rfl ?_
              obtain ⟨v28, e29, hs13⟩ := am_bind hs12
              clear hs12
              refine aw_pG (pc1 := 75) at_463_72 (am_vR_s e29).1 rfl ?_
              refine aw_iload_n (pc1 := 76) at_463_75 (am_lk1 l1 rfl rfl) rfl ?_
              refine aw_vload_n (pc1 := 77) at_463_76 (am_lk1 l0 rfl rfl) i0 rfl ?_
              obtain ⟨v30, e31, hs14⟩ := am_bind hs13
              clear hs13
              refine aw_pG (pc1 := 80) at_463_77 (am_vR_s e31).1 rfl ?_
              refine aw_iload_n (pc1 := 81) at_463_80 (am_lk1 l1 rfl rfl) rfl ?_
              obtain ⟨v32, e33, hs15⟩ := am_bind hs14
              clear hs14
              refine aw_pA (pc1 := 82) at_463_81 (Or.inl ⟨rfl, rfl⟩) e33 rfl ?_
              refine aw_iload_n (pc1 := 83) at_463_82 (am_lk1 l2 rfl rfl) rfl ?_
              refine aw_vload_n (pc1 := 84) at_463_83 (am_lk1 l0 rfl rfl) i0 rfl ?_
              obtain ⟨v34, e35, hs16⟩ := am_bind hs15
              clear hs15
              refine aw_pG (pc1 := 87) at_463_84 (am_vI_s e35) rfl ?_
              refine aw_call (F := fm_353 v32 x2 v34 h26) (t := false) (na := 3) (kd := 0) (as := [(.int v32), (.int x2), (.int v34)]) at_463_87 (am_k3s kb_353) mn_353 mk_353 rfl rfl (am_ok_s mi_353 (am_hl rfl (am_ccI (am_ccI (am_ccI am_cats_0))) rfl)) (am_hc (am_ccI (am_ccR (am_vR_s e29).2 am_cats_0)) rfl) (fun hz9 => by cases hz9) (fun o1 hz9 => rm_353 v32 x2 v34 h26 o1  hz9) ?_
              rcases am_cI_s hs16 with ⟨v36, h37, f38, hs17⟩ | hs17
              · clear hs16
                refine Or.inl ⟨_, _, f38, ?_⟩
                show am_W X _ 463 90 _ [(.int v36), (.int x1), v28] h37 _
                obtain ⟨h39, e40, hs18⟩ := am_bind hs17
                clear hs17
                refine aw_pS (pc1 := 91) at_463_90 (Or.inl ⟨rfl, rfl⟩) e40 rfl ?_
                refine aw_vload_n (pc1 := 92) at_463_91 (am_lk1 l0 rfl rfl) i0 rfl ?_
                refine aw_vload_n (pc1 := 93) at_463_92 (am_lk1 l0 rfl rfl) i0 rfl ?_
                obtain ⟨z41, hs19⟩ := am_ift hs18
                clear hs18
                refine aw_call (F := fm_444 N x0 h39) (t := true) (na := 1) (kd := 1) (as := [x0]) at_463_93 (am_k3v kb_444) mn_444 mk_444 rfl rfl (am_ok_v mi_444 (am_hl rfl (am_ccR i0 am_cats_0) rfl) z41) (am_hc (am_ccR i0 am_cats_0) rfl) (fun _ => ⟨rfl, hh_463⟩) (fun o1 hz9 => rm_444 x0 h39 o1 i0 hz9) ?_
                rcases am_cI_s hs19 with ⟨v42, h43, f44, hs20⟩ | hs20
                · clear hs19
                  refine Or.inl ⟨_, _, f44, ?_⟩
                  show am_W X _ 463 96 _ [(.int v42), x0] h43 _
                  obtain ⟨h45, e46, hs21⟩ := am_bind hs20
                  clear hs20
                  refine aw_pP (pc1 := 99) at_463_96 e46 rfl ?_
                  refine aw_iinc (v := (x2 + 1)) (c := 1) (lv1 := am_put1 _ 2 _) (pc1 := 102) at_463_99 (am_lk1 l2 rfl rfl) (by decide) rfl rfl rfl ?_
                  refine aw_goto at_463_102 ?_
                  exact ih x0 x1 ((x2 + 1)) h45 o hs21 _ (am_lk1 (am_lk1 l0 rfl rfl) rfl rfl) (am_lk1 (am_lk1 l1 rfl rfl) rfl rfl) am_lk0 i0
                · clear hs19
                  exact Or.inr hs20
              · clear hs16
                exact Or.inr hs17
            · clear hs11
              exact Or.inr hs12
          · clear hs5
            exact Or.inr hs6
        · clear hs3
          exact Or.inr hs4
def fg_463_2 (N : Nat) : Nat → Value → Int32 → am_H → Option am_O
  | 0 => fun _ _ _ => none
  | K + 1 => fun x0 x1 h => ((am_vI (am_pG 3090 x0 h)).bind fun v1 => (if v1 ≤ x1 then (fg_463_111 N h) else ((am_vI (am_pG 3090 x0 h)).bind fun v4 => (if 6 ≤ v4 then (fg_463_111 N h) else ((am_vI (am_pG 3167 x0 h)).bind fun v7 => (if ¬ v7 = 0 then (fg_463_111 N h) else (fg_463_28 N (fg_463_2 N K) N x0 x1 0 h)))))))
theorem rg_463_2 {X : am_X} {d : Nat} {N : Nat} : ∀ (K : Nat) (x0 : Value) (x1 : Int32) (h : am_H) (o : am_O), fg_463_2 N K x0 x1 h = some o → ∀ lv : am_LV, (lv.lookup 0 = some x0) → (lv.lookup 1 = some (.int x1)) → (am_isR x0 = true) → am_W X (d + 4) 463 2 lv [] h (fun q => q = o) := by
  intro K
  induction K with
  | zero => intro x0 x1 h o hs; cases hs
  | succ K ih =>
    intro x0 x1 h o hs lv l0 l1 i0
    unfold fg_463_2 at hs
    refine aw_iload_n (pc1 := 3) at_463_2 l1 rfl ?_
    refine aw_vload_n (pc1 := 4) at_463_3 l0 i0 rfl ?_
    obtain ⟨v1, e2, hs1⟩ := am_bind hs
    clear hs
    refine aw_pG (pc1 := 7) at_463_4 (am_vI_s e2) rfl ?_
    by_cases c3 : v1 ≤ x1
    · rw [if_pos c3] at hs1
      refine aw_icge_t at_463_7 c3 ?_
      exact rg_463_111 h o   hs1
    · rw [if_neg c3] at hs1
      refine aw_icge_f (pc1 := 10) at_463_7 c3 rfl ?_
      refine aw_vload_n (pc1 := 11) at_463_10 l0 i0 rfl ?_
      obtain ⟨v4, e5, hs2⟩ := am_bind hs1
      clear hs1
      refine aw_pG (pc1 := 14) at_463_11 (am_vI_s e5) rfl ?_
      refine aw_bipush (v := 6) (pc1 := 16) at_463_14 (by decide) rfl ?_
      by_cases c6 : 6 ≤ v4
      · rw [if_pos c6] at hs2
        refine aw_icge_t at_463_16 c6 ?_
        exact rg_463_111 h o   hs2
      · rw [if_neg c6] at hs2
        refine aw_icge_f (pc1 := 19) at_463_16 c6 rfl ?_
        refine aw_vload_n (pc1 := 20) at_463_19 l0 i0 rfl ?_
        obtain ⟨v7, e8, hs3⟩ := am_bind hs2
        clear hs2
        refine aw_pG (pc1 := 23) at_463_20 (am_vI_s e8) rfl ?_
        by_cases c9 : ¬ v7 = 0
        · rw [if_pos c9] at hs3
          refine aw_ifne_t at_463_23 c9 ?_
          exact rg_463_111 h o   hs3
        · rw [if_neg c9] at hs3
          refine aw_ifne_f (pc1 := 26) at_463_23 c9 rfl ?_
          refine aw_iconst (v := 0) (pc1 := 27) at_463_26 (by decide) rfl ?_
          refine aw_istore_n (lv1 := am_put1 _ 2 _) (pc1 := 28) at_463_27 rfl rfl ?_
          exact rg_463_28 (fun z0 z1 h o hs3 => ih z0 z1 h o hs3) N x0 x1 0 h o hs3 _ (am_lk1 l0 rfl rfl) (am_lk1 l1 rfl rfl) am_lk0 i0
def fg_463_0 (N : Nat) (x0 : Value) (h : am_H) : Option am_O := (fg_463_2 N N x0 0 h)
theorem rg_463_0 {X : am_X} {d : Nat} {N : Nat} {lv : am_LV} (x0 : Value) (h : am_H) (o : am_O) (l0 : lv.lookup 0 = some x0) (i0 : am_isR x0 = true) (hs : fg_463_0 N x0 h = some o) : am_W X (d + 4) 463 0 lv [] h (fun q => q = o) := by
  unfold fg_463_0 at hs
  refine aw_iconst (v := 0) (pc1 := 1) at_463_0 (by decide) rfl ?_
  refine aw_istore_n (lv1 := am_put1 _ 1 _) (pc1 := 2) at_463_1 rfl rfl ?_
  exact rg_463_2 N x0 0 h o hs _ (am_lk1 l0 rfl (by rw [am_isRc i0]; rfl)) am_lk0 i0
def fm_463 (N : Nat) (y0 : Value) (h : am_H) : Option am_O := fg_463_0 N y0 h
theorem rm_463 {X : am_X} {d : Nat} {N : Nat} (y0 : Value) (h : am_H) (o : am_O) (i0 : am_isR y0 = true) (hs : fm_463 N y0 h = some o) : am_W X (d + 4) 463 0 (am_args 0 [y0]) [] h (fun q => q = o) := by
  rw [am_args_R i0]
  exact rg_463_0 y0 h o rfl i0 hs
def fg_464_132 (N : Nat) (h : am_H) : Option am_O := some (.inl (none, h))
theorem rg_464_132 {X : am_X} {d : Nat} {N : Nat} {lv : am_LV} (h : am_H) (o : am_O) (hs : fg_464_132 N h = some o) : am_W X (d + 4) 464 132 lv [] h (fun q => q = o) := by
  unfold fg_464_132 at hs
  cases hs
  exact aw_vret at_464_132 rt_464 rfl
def fg_464_112 (N : Nat) (rec_2 : Value → Int32 → am_H → Option am_O) (rec_23 : Value → Int32 → Int32 → am_H → Option am_O) (x0 : Value) (x1 : Int32) (x2 : Int32) (h : am_H) : Option am_O := (rec_23 x0 x1 ((x2 + 1)) h)
theorem rg_464_112 {X : am_X} {d : Nat} {N : Nat} {rec_2 : Value → Int32 → am_H → Option am_O} {rec_23 : Value → Int32 → Int32 → am_H → Option am_O} (q_2 : ∀ (x0 : Value) (x1 : Int32) (h : am_H) (o : am_O), rec_2 x0 x1 h = some o → ∀ lv : am_LV, (lv.lookup 0 = some x0) → (lv.lookup 1 = some (.int x1)) → (am_isR x0 = true) → am_W X (d + 4) 464 2 lv [] h (fun q => q = o)) (q_23 : ∀ (x0 : Value) (x1 : Int32) (x2 : Int32) (h : am_H) (o : am_O), rec_23 x0 x1 x2 h = some o → ∀ lv : am_LV, (lv.lookup 0 = some x0) → (lv.lookup 1 = some (.int x1)) → (lv.lookup 2 = some (.int x2)) → (am_isR x0 = true) → am_W X (d + 4) 464 23 lv [] h (fun q => q = o)) {lv : am_LV} (x0 : Value) (x1 : Int32) (x2 : Int32) (h : am_H) (o : am_O) (l0 : lv.lookup 0 = some x0) (l1 : lv.lookup 1 = some (.int x1)) (l2 : lv.lookup 2 = some (.int x2)) (i0 : am_isR x0 = true) (hs : fg_464_112 N rec_2 rec_23 x0 x1 x2 h = some o) : am_W X (d + 4) 464 112 lv [] h (fun q => q = o) := by
  unfold fg_464_112 at hs
  refine aw_iinc (v := (x2 + 1)) (c := 1) (lv1 := am_put1 _ 2 _) (pc1 := 115) at_464_112 l2 (by decide) rfl rfl rfl ?_
  refine aw_goto at_464_115 ?_
  exact q_23 x0 x1 ((x2 + 1)) h o hs _ (am_lk1 l0 rfl rfl) (am_lk1 l1 rfl rfl) am_lk0 i0
def fg_464_91 (N : Nat) (rec_2 : Value → Int32 → am_H → Option am_O) (rec_23 : Value → Int32 → Int32 → am_H → Option am_O) (rec_44 : Value → Int32 → Int32 → Int32 → Int32 → am_H → Option am_O) (x0 : Value) (x1 : Int32) (x2 : Int32) (x4 : Int32) (s0 : Int32) (s1 : Int32) (s2 : Int32) (h : am_H) : Option am_O := am_cI false (fm_353 s0 s1 s2 h) (fun v1 h2 => (rec_44 x0 x1 x2 v1 ((x4 + 1)) h2))
theorem rg_464_91 {X : am_X} {d : Nat} {N : Nat} {rec_2 : Value → Int32 → am_H → Option am_O} {rec_23 : Value → Int32 → Int32 → am_H → Option am_O} {rec_44 : Value → Int32 → Int32 → Int32 → Int32 → am_H → Option am_O} (q_2 : ∀ (x0 : Value) (x1 : Int32) (h : am_H) (o : am_O), rec_2 x0 x1 h = some o → ∀ lv : am_LV, (lv.lookup 0 = some x0) → (lv.lookup 1 = some (.int x1)) → (am_isR x0 = true) → am_W X (d + 4) 464 2 lv [] h (fun q => q = o)) (q_23 : ∀ (x0 : Value) (x1 : Int32) (x2 : Int32) (h : am_H) (o : am_O), rec_23 x0 x1 x2 h = some o → ∀ lv : am_LV, (lv.lookup 0 = some x0) → (lv.lookup 1 = some (.int x1)) → (lv.lookup 2 = some (.int x2)) → (am_isR x0 = true) → am_W X (d + 4) 464 23 lv [] h (fun q => q = o)) (q_44 : ∀ (x0 : Value) (x1 : Int32) (x2 : Int32) (x3 : Int32) (x4 : Int32) (h : am_H) (o : am_O), rec_44 x0 x1 x2 x3 x4 h = some o → ∀ lv : am_LV, (lv.lookup 0 = some x0) → (lv.lookup 1 = some (.int x1)) → (lv.lookup 2 = some (.int x2)) → (lv.lookup 3 = some (.int x3)) → (lv.lookup 4 = some (.int x4)) → (am_isR x0 = true) → am_W X (d + 4) 464 44 lv [] h (fun q => q = o)) {lv : am_LV} (x0 : Value) (x1 : Int32) (x2 : Int32) (x4 : Int32) (s0 : Int32) (s1 : Int32) (s2 : Int32) (h : am_H) (o : am_O) (l0 : lv.lookup 0 = some x0) (l1 : lv.lookup 1 = some (.int x1)) (l2 : lv.lookup 2 = some (.int x2)) (l4 : lv.lookup 4 = some (.int x4)) (i0 : am_isR x0 = true) (hs : fg_464_91 N rec_2 rec_23 rec_44 x0 x1 x2 x4 s0 s1 s2 h = some o) : am_W X (d + 4) 464 91 lv [(.int s2), (.int s1), (.int s0)] h (fun q => q = o) := by
  unfold fg_464_91 at hs
  refine aw_call (F := fm_353 s0 s1 s2 h) (t := false) (na := 3) (kd := 0) (as := [(.int s0), (.int s1), (.int s2)]) at_464_91 (am_k3s kb_353) mn_353 mk_353 rfl rfl (am_ok_s mi_353 (am_hl rfl (am_ccI (am_ccI (am_ccI am_cats_0))) rfl)) (am_hc am_cats_0 rfl) (fun hz9 => by cases hz9) (fun o1 hz9 => rm_353 s0 s1 s2 h o1  hz9) ?_
  rcases am_cI_s hs with ⟨v1, h2, f3, hs1⟩ | hs1
  · clear hs
    refine Or.inl ⟨_, _, f3, ?_⟩
    show am_W X _ 464 94 _ [(.int v1)] h2 _
    refine aw_istore_n (lv1 := am_put1 _ 3 _) (pc1 := 95) at_464_94 rfl rfl ?_
    refine aw_iinc (v := (x4 + 1)) (c := 1) (lv1 := am_put1 _ 4 _) (pc1 := 98) at_464_95 (am_lk1 l4 rfl rfl) (by decide) rfl rfl rfl ?_
    refine aw_goto at_464_98 ?_
    exact q_44 x0 x1 x2 v1 ((x4 + 1)) h2 o hs1 _ (am_lk1 (am_lk1 l0 rfl rfl) rfl rfl) (am_lk1 (am_lk1 l1 rfl rfl) rfl rfl) (am_lk1 (am_lk1 l2 rfl rfl) rfl rfl) (am_lk1 am_lk0 rfl rfl) am_lk0 i0
  · clear hs
    exact Or.inr hs1
def fg_464_44 (N : Nat) (rec_2 : Value → Int32 → am_H → Option am_O) (rec_23 : Value → Int32 → Int32 → am_H → Option am_O) : Nat → Value → Int32 → Int32 → Int32 → Int32 → am_H → Option am_O
  | 0 => fun _ _ _ _ _ _ => none
  | K + 1 => fun x0 x1 x2 x3 x4 h => (if 4 ≤ x4 then ((am_vR (am_pG 3093 x0 h)).bind fun v2 => ((am_pA 0 v2 x2 h).bind fun v4 => (if am_pOk 12 x0 h then am_cV true (fm_335 x0 v4 x3 h) (fun h8 => (fg_464_112 N rec_2 rec_23 x0 x1 x2 h8)) else none))) else ((am_vR (am_pG 3094 x0 h)).bind fun v10 => ((am_pA 0 v10 x2 h).bind fun v12 => am_cI false (fm_367 v12 x4 h) (fun v14 h15 => (if ¬ v14 = x1 then (if v14 ≤ x1 then (fg_464_91 N rec_2 rec_23 (fg_464_44 N rec_2 rec_23 K) x0 x1 x2 x4 x3 x4 v14 h15) else (fg_464_91 N rec_2 rec_23 (fg_464_44 N rec_2 rec_23 K) x0 x1 x2 x4 x3 x4 ((v14 - 1)) h15)) else (fg_464_91 N rec_2 rec_23 (fg_464_44 N rec_2 rec_23 K) x0 x1 x2 x4 x3 x4 0 h15))))))
theorem rg_464_44 {X : am_X} {d : Nat} {N : Nat} {rec_2 : Value → Int32 → am_H → Option am_O} {rec_23 : Value → Int32 → Int32 → am_H → Option am_O} (q_2 : ∀ (x0 : Value) (x1 : Int32) (h : am_H) (o : am_O), rec_2 x0 x1 h = some o → ∀ lv : am_LV, (lv.lookup 0 = some x0) → (lv.lookup 1 = some (.int x1)) → (am_isR x0 = true) → am_W X (d + 4) 464 2 lv [] h (fun q => q = o)) (q_23 : ∀ (x0 : Value) (x1 : Int32) (x2 : Int32) (h : am_H) (o : am_O), rec_23 x0 x1 x2 h = some o → ∀ lv : am_LV, (lv.lookup 0 = some x0) → (lv.lookup 1 = some (.int x1)) → (lv.lookup 2 = some (.int x2)) → (am_isR x0 = true) → am_W X (d + 4) 464 23 lv [] h (fun q => q = o)) : ∀ (K : Nat) (x0 : Value) (x1 : Int32) (x2 : Int32) (x3 : Int32) (x4 : Int32) (h : am_H) (o : am_O), fg_464_44 N rec_2 rec_23 K x0 x1 x2 x3 x4 h = some o → ∀ lv : am_LV, (lv.lookup 0 = some x0) → (lv.lookup 1 = some (.int x1)) → (lv.lookup 2 = some (.int x2)) → (lv.lookup 3 = some (.int x3)) → (lv.lookup 4 = some (.int x4)) → (am_isR x0 = true) → am_W X (d + 4) 464 44 lv [] h (fun q => q = o) := by
  intro K
  induction K with
  | zero => intro x0 x1 x2 x3 x4 h o hs; cases hs
  | succ K ih =>
    intro x0 x1 x2 x3 x4 h o hs lv l0 l1 l2 l3 l4 i0
    unfold fg_464_44 at hs
    refine aw_iload (pc1 := 46) at_464_44 l4 rfl ?_
    refine aw_iconst (v := 4) (pc1 := 47) at_464_46 (by decide) rfl ?_
    by_cases c1 : 4 ≤ x4
    · rw [if_pos c1] at hs
      refine aw_icge_t at_464_47 c1 ?_
      refine aw_vload_n (pc1 := 102) at_464_101 l0 i0 rfl ?_
      refine aw_vload_n (pc1 := 103) at_464_102 l0 i0 rfl ?_
      obtain ⟨v2, e3, hs1⟩ := am_bind hs
      clear hs
      refine aw_pG (pc1 := 106) at_464_103 (am_vR_s e3).1 rfl ?_
      refine aw_iload_n (pc1 := 107) at_464_106 l2 rfl ?_
      obtain ⟨v4, e5, hs2⟩ := am_bind hs1
      clear hs1
      refine aw_pA (pc1 := 108) at_464_107 (Or.inl ⟨rfl, rfl⟩) e5 rfl ?_
      refine aw_iload_n (pc1 := 109) at_464_108 l3 rfl ?_
      obtain ⟨z6, hs3⟩ := am_ift hs2
      clear hs2
      refine aw_call (F := fm_335 x0 v4 x3 h) (t := true) (na := 3) (kd := 1) (as := [x0, (.int v4), (.int x3)]) at_464_109 (am_k3v kb_335) mn_335 mk_335 rfl rfl (am_ok_v mi_335 (am_hl rfl (am_ccR i0 (am_ccI (am_ccI am_cats_0))) rfl) z6) (am_hc am_cats_0 rfl) (fun _ => ⟨rfl, hh_464⟩) (fun o1 hz9 => rm_335 x0 v4 x3 h o1 i0 hz9) ?_
      rcases am_cV_s hs3 with ⟨h8, f9, hs4⟩ | hs4
      · clear hs3
        refine Or.inl ⟨_, _, f9, ?_⟩
        show am_W X _ 464 112 _ [] h8 _
        exact rg_464_112 q_2 q_23 x0 x1 x2 h8 o l0 l1 l2 i0 hs4
      · clear hs3
        exact Or.inr hs4
    · rw [if_neg c1] at hs
      refine aw_icge_f (pc1 := 50) at_464_47 c1 rfl ?_
      refine aw_vload_n (pc1 := 51) at_464_50 l0 i0 rfl ?_
      obtain ⟨v10, e11, hs5⟩ := am_bind hs
      clear hs
      refine aw_pG (pc1 := 54) at_464_51 (am_vR_s e11).1 rfl ?_
      refine aw_iload_n (pc1 := 55) at_464_54 l2 rfl ?_
      obtain ⟨v12, e13, hs6⟩ := am_bind hs5
      clear hs5
      refine aw_pA (pc1 := 56) at_464_55 (Or.inl ⟨rfl, rfl⟩) e13 rfl ?_
      refine aw_iload (pc1 := 58) at_464_56 l4 rfl ?_
      refine aw_call (F := fm_367 v12 x4 h) (t := false) (na := 2) (kd := 0) (as := [(.int v12), (.int x4)]) at_464_58 (am_k3s kb_367) mn_367 mk_367 rfl rfl (am_ok_s mi_367 (am_hl rfl (am_ccI (am_ccI am_cats_0)) rfl)) (am_hc am_cats_0 rfl) (fun hz9 => by cases hz9) (fun o1 hz9 => rm_367 v12 x4 h o1  hz9) ?_
      rcases am_cI_s hs6 with ⟨v14, h15, f16, hs7⟩ | hs7
      · clear hs6
        refine Or.inl ⟨_, _, f16, ?_⟩
        show am_W X _ 464 61 _ [(.int v14)] h15 _
        refine aw_istore (lv1 := am_put1 _ 5 _) (pc1 := 63) at_464_61 rfl rfl ?_
        refine aw_iload_n (pc1 := 64) at_464_63 (am_lk1 l3 rfl rfl) rfl ?_
        refine aw_iload (pc1 := 66) at_464_64 (am_lk1 l4 rfl rfl) rfl ?_
        refine aw_iload (pc1 := 68) at_464_66 am_lk0 rfl ?_
        refine aw_iload_n (pc1 := 69) at_464_68 (am_lk1 l1 rfl rfl) rfl ?_
        by_cases c17 : ¬ v14 = x1
        · rw [if_pos c17] at hs7
          refine aw_icne_t at_464_69 c17 ?_
          refine aw_iload (pc1 := 78) at_464_76 am_lk0 rfl ?_
          refine aw_iload_n (pc1 := 79) at_464_78 (am_lk1 l1 rfl rfl) rfl ?_
          by_cases c18 : v14 ≤ x1
          · rw [if_pos c18] at hs7
            refine aw_icle_t at_464_79 c18 ?_
            refine aw_iload (pc1 := 91) at_464_89 am_lk0 rfl ?_
            exact rg_464_91 q_2 q_23 (fun z0 z1 z2 z3 z4 h o hs7 => ih z0 z1 z2 z3 z4 h o hs7) x0 x1 x2 x4 x3 x4 v14 h15 o (am_lk1 l0 rfl rfl) (am_lk1 l1 rfl rfl) (am_lk1 l2 rfl rfl) (am_lk1 l4 rfl rfl) i0 hs7
          · rw [if_neg c18] at hs7
            refine aw_icle_f (pc1 := 82) at_464_79 c18 rfl ?_
            refine aw_iload (pc1 := 84) at_464_82 am_lk0 rfl ?_
            refine aw_iconst (v := 1) (pc1 := 85) at_464_84 (by decide) rfl ?_
            refine aw_isub (v := (v14 - 1)) (pc1 := 86) at_464_85 rfl rfl ?_
            refine aw_goto at_464_86 ?_
            exact rg_464_91 q_2 q_23 (fun z0 z1 z2 z3 z4 h o hs7 => ih z0 z1 z2 z3 z4 h o hs7) x0 x1 x2 x4 x3 x4 ((v14 - 1)) h15 o (am_lk1 l0 rfl rfl) (am_lk1 l1 rfl rfl) (am_lk1 l2 rfl rfl) (am_lk1 l4 rfl rfl) i0 hs7
        · rw [if_neg c17] at hs7
          refine aw_icne_f (pc1 := 72) at_464_69 c17 rfl ?_
          refine aw_iconst (v := 0) (pc1 := 73) at_464_72 (by decide) rfl ?_
          refine aw_goto at_464_73 ?_
          exact rg_464_91 q_2 q_23 (fun z0 z1 z2 z3 z4 h o hs7 => ih z0 z1 z2 z3 z4 h o hs7) x0 x1 x2 x4 x3 x4 0 h15 o (am_lk1 l0 rfl rfl) (am_lk1 l1 rfl rfl) (am_lk1 l2 rfl rfl) (am_lk1 l4 rfl rfl) i0 hs7
      · clear hs6
        exact Or.inr hs7
def fg_464_23 (N : Nat) (rec_2 : Value → Int32 → am_H → Option am_O) : Nat → Value → Int32 → Int32 → am_H → Option am_O
  | 0 => fun _ _ _ _ => none
  | K + 1 => fun x0 x1 x2 h => ((am_vI (am_pG 3090 x0 h)).bind fun v1 => (if v1 ≤ x2 then (if am_pOk 12 x0 h then am_cI true (fm_444 N x0 h) (fun v5 h6 => ((am_pP 3167 x0 (.int v5) h6).bind fun h8 => (rec_2 x0 ((x1 + 1)) h8))) else none) else (if ¬ x2 = x1 then (fg_464_44 N rec_2 (fg_464_23 N rec_2 K) N x0 x1 x2 0 0 h) else (fg_464_112 N rec_2 (fg_464_23 N rec_2 K) x0 x1 x2 h))))
theorem rg_464_23 {X : am_X} {d : Nat} {N : Nat} {rec_2 : Value → Int32 → am_H → Option am_O} (q_2 : ∀ (x0 : Value) (x1 : Int32) (h : am_H) (o : am_O), rec_2 x0 x1 h = some o → ∀ lv : am_LV, (lv.lookup 0 = some x0) → (lv.lookup 1 = some (.int x1)) → (am_isR x0 = true) → am_W X (d + 4) 464 2 lv [] h (fun q => q = o)) : ∀ (K : Nat) (x0 : Value) (x1 : Int32) (x2 : Int32) (h : am_H) (o : am_O), fg_464_23 N rec_2 K x0 x1 x2 h = some o → ∀ lv : am_LV, (lv.lookup 0 = some x0) → (lv.lookup 1 = some (.int x1)) → (lv.lookup 2 = some (.int x2)) → (am_isR x0 = true) → am_W X (d + 4) 464 23 lv [] h (fun q => q = o) := by
  intro K
  induction K with
  | zero => intro x0 x1 x2 h o hs; cases hs
  | succ K ih =>
    intro x0 x1 x2 h o hs lv l0 l1 l2 i0
    unfold fg_464_23 at hs
    refine aw_iload_n (pc1 := 24) at_464_23 l2 rfl ?_
    refine aw_vload_n (pc1 := 25) at_464_24 l0 i0 rfl ?_
    obtain ⟨v1, e2, hs1⟩ := am_bind hs
    clear hs
    refine aw_pG (pc1 := 28) at_464_25 (am_vI_s e2) rfl ?_
    by_cases c3 : v1 ≤ x2
    · rw [if_pos c3] at hs1
      refine aw_icge_t at_464_28 c3 ?_
      refine aw_vload_n (pc1 := 119) at_464_118 l0 i0 rfl ?_
      refine aw_vload_n (pc1 := 120) at_464_119 l0 i0 rfl ?_
      obtain ⟨z4, hs2⟩ := am_ift hs1
      clear hs1
      refine aw_call (F := fm_444 N x0 h) (t := true) (na := 1) (kd := 1) (as := [x0]) at_464_120 (am_k3v kb_444) mn_444 mk_444 rfl rfl (am_ok_v mi_444 (am_hl rfl (am_ccR i0 am_cats_0) rfl) z4) (am_hc (am_ccR i0 am_cats_0) rfl) (fun _ => ⟨rfl, hh_464⟩) (fun o1 hz9 => rm_444 x0 h o1 i0 hz9) ?_
      rcases am_cI_s hs2 with ⟨v5, h6, f7, hs3⟩ | hs3
      · clear hs2
        refine Or.inl ⟨_, _, f7, ?_⟩
        show am_W X _ 464 123 _ [(.int v5), x0] h6 _
        obtain ⟨h8, e9, hs4⟩ := am_bind hs3
        clear hs3
        refine aw_pP (pc1 := 126) at_464_123 e9 rfl ?_
        refine aw_iinc (v := (x1 + 1)) (c := 1) (lv1 := am_put1 _ 1 _) (pc1 := 129) at_464_126 l1 (by decide) rfl rfl rfl ?_
        refine aw_goto at_464_129 ?_
        exact q_2 x0 ((x1 + 1)) h8 o hs4 _ (am_lk1 l0 rfl (by rw [am_isRc i0]; rfl)) am_lk0 i0
      · clear hs2
        exact Or.inr hs3
    · rw [if_neg c3] at hs1
      refine aw_icge_f (pc1 := 31) at_464_28 c3 rfl ?_
      refine aw_iload_n (pc1 := 32) at_464_31 l2 rfl ?_
      refine aw_iload_n (pc1 := 33) at_464_32 l1 rfl ?_
      by_cases c10 : ¬ x2 = x1
      · rw [if_pos c10] at hs1
        refine aw_icne_t at_464_33 c10 ?_
        refine aw_iconst (v := 0) (pc1 := 40) at_464_39 (by decide) rfl ?_
        refine aw_istore_n (lv1 := am_put1 _ 3 _) (pc1 := 41) at_464_40 rfl rfl ?_
        refine aw_iconst (v := 0) (pc1 := 42) at_464_41 (by decide) rfl ?_
        refine aw_istore (lv1 := am_put1 _ 4 _) (pc1 := 44) at_464_42 rfl rfl ?_
        exact rg_464_44 q_2 (fun z0 z1 z2 h o hs1 => ih z0 z1 z2 h o hs1) N x0 x1 x2 0 0 h o hs1 _ (am_lk1 (am_lk1 l0 rfl rfl) rfl rfl) (am_lk1 (am_lk1 l1 rfl rfl) rfl rfl) (am_lk1 (am_lk1 l2 rfl rfl) rfl rfl) (am_lk1 am_lk0 rfl rfl) am_lk0 i0
      · rw [if_neg c10] at hs1
        refine aw_icne_f (pc1 := 36) at_464_33 c10 rfl ?_
        refine aw_goto at_464_36 ?_
        exact rg_464_112 q_2 (fun z0 z1 z2 h o hs1 => ih z0 z1 z2 h o hs1) x0 x1 x2 h o l0 l1 l2 i0 hs1
def fg_464_2 (N : Nat) : Nat → Value → Int32 → am_H → Option am_O
  | 0 => fun _ _ _ => none
  | K + 1 => fun x0 x1 h => ((am_vI (am_pG 3090 x0 h)).bind fun v1 => (if v1 ≤ x1 then (fg_464_132 N h) else ((am_vI (am_pG 3167 x0 h)).bind fun v4 => (if ¬ v4 = 0 then (fg_464_132 N h) else (if am_pOk 12 x0 h then am_cV true (fm_451 x0 h) (fun h9 => (fg_464_23 N (fg_464_2 N K) N x0 x1 0 h9)) else none)))))
theorem rg_464_2 {X : am_X} {d : Nat} {N : Nat} : ∀ (K : Nat) (x0 : Value) (x1 : Int32) (h : am_H) (o : am_O), fg_464_2 N K x0 x1 h = some o → ∀ lv : am_LV, (lv.lookup 0 = some x0) → (lv.lookup 1 = some (.int x1)) → (am_isR x0 = true) → am_W X (d + 4) 464 2 lv [] h (fun q => q = o) := by
  intro K
  induction K with
  | zero => intro x0 x1 h o hs; cases hs
  | succ K ih =>
    intro x0 x1 h o hs lv l0 l1 i0
    unfold fg_464_2 at hs
    refine aw_iload_n (pc1 := 3) at_464_2 l1 rfl ?_
    refine aw_vload_n (pc1 := 4) at_464_3 l0 i0 rfl ?_
    obtain ⟨v1, e2, hs1⟩ := am_bind hs
    clear hs
    refine aw_pG (pc1 := 7) at_464_4 (am_vI_s e2) rfl ?_
    by_cases c3 : v1 ≤ x1
    · rw [if_pos c3] at hs1
      refine aw_icge_t at_464_7 c3 ?_
      exact rg_464_132 h o   hs1
    · rw [if_neg c3] at hs1
      refine aw_icge_f (pc1 := 10) at_464_7 c3 rfl ?_
      refine aw_vload_n (pc1 := 11) at_464_10 l0 i0 rfl ?_
      obtain ⟨v4, e5, hs2⟩ := am_bind hs1
      clear hs1
      refine aw_pG (pc1 := 14) at_464_11 (am_vI_s e5) rfl ?_
      by_cases c6 : ¬ v4 = 0
      · rw [if_pos c6] at hs2
        refine aw_ifne_t at_464_14 c6 ?_
        exact rg_464_132 h o   hs2
      · rw [if_neg c6] at hs2
        refine aw_ifne_f (pc1 := 17) at_464_14 c6 rfl ?_
        refine aw_vload_n (pc1 := 18) at_464_17 l0 i0 rfl ?_
        obtain ⟨z7, hs3⟩ := am_ift hs2
        clear hs2
        refine aw_call (F := fm_451 x0 h) (t := true) (na := 1) (kd := 1) (as := [x0]) at_464_18 (am_k3v kb_451) mn_451 mk_451 rfl rfl (am_ok_v mi_451 (am_hl rfl (am_ccR i0 am_cats_0) rfl) z7) (am_hc am_cats_0 rfl) (fun _ => ⟨rfl, hh_464⟩) (fun o1 hz9 => rm_451 x0 h o1 i0 hz9) ?_
        rcases am_cV_s hs3 with ⟨h9, f10, hs4⟩ | hs4
        · clear hs3
          refine Or.inl ⟨_, _, f10, ?_⟩
          show am_W X _ 464 21 _ [] h9 _
          refine aw_iconst (v := 0) (pc1 := 22) at_464_21 (by decide) rfl ?_
          refine aw_istore_n (lv1 := am_put1 _ 2 _) (pc1 := 23) at_464_22 rfl rfl ?_
          exact rg_464_23 (fun z0 z1 h o hs4 => ih z0 z1 h o hs4) N x0 x1 0 h9 o hs4 _ (am_lk1 l0 rfl rfl) (am_lk1 l1 rfl rfl) am_lk0 i0
        · clear hs3
          exact Or.inr hs4
def fg_464_0 (N : Nat) (x0 : Value) (h : am_H) : Option am_O := (fg_464_2 N N x0 1 h)
theorem rg_464_0 {X : am_X} {d : Nat} {N : Nat} {lv : am_LV} (x0 : Value) (h : am_H) (o : am_O) (l0 : lv.lookup 0 = some x0) (i0 : am_isR x0 = true) (hs : fg_464_0 N x0 h = some o) : am_W X (d + 4) 464 0 lv [] h (fun q => q = o) := by
  unfold fg_464_0 at hs
  refine aw_iconst (v := 1) (pc1 := 1) at_464_0 (by decide) rfl ?_
  refine aw_istore_n (lv1 := am_put1 _ 1 _) (pc1 := 2) at_464_1 rfl rfl ?_
  exact rg_464_2 N x0 1 h o hs _ (am_lk1 l0 rfl (by rw [am_isRc i0]; rfl)) am_lk0 i0
def fm_464 (N : Nat) (y0 : Value) (h : am_H) : Option am_O := fg_464_0 N y0 h
theorem rm_464 {X : am_X} {d : Nat} {N : Nat} (y0 : Value) (h : am_H) (o : am_O) (i0 : am_isR y0 = true) (hs : fm_464 N y0 h = some o) : am_W X (d + 4) 464 0 (am_args 0 [y0]) [] h (fun q => q = o) := by
  rw [am_args_R i0]
  exact rg_464_0 y0 h o rfl i0 hs
def fg_465_120 (N : Nat) (h : am_H) : Option am_O := some (.inl (none, h))
theorem rg_465_120 {X : am_X} {d : Nat} {N : Nat} {lv : am_LV} (h : am_H) (o : am_O) (hs : fg_465_120 N h = some o) : am_W X (d + 4) 465 120 lv [] h (fun q => q = o) := by
  unfold fg_465_120 at hs
  cases hs
  exact aw_vret at_465_120 rt_465 rfl
def fg_465_114 (N : Nat) (rec_2 : Value → Int32 → am_H → Option am_O) (x0 : Value) (x1 : Int32) (h : am_H) : Option am_O := (rec_2 x0 ((x1 + 1)) h)
theorem rg_465_114 {X : am_X} {d : Nat} {N : Nat} {rec_2 : Value → Int32 → am_H → Option am_O} (q_2 : ∀ (x0 : Value) (x1 : Int32) (h : am_H) (o : am_O), rec_2 x0 x1 h = some o → ∀ lv : am_LV, (lv.lookup 0 = some x0) → (lv.lookup 1 = some (.int x1)) → (am_isR x0 = true) → am_W X (d + 4) 465 2 lv [] h (fun q => q = o)) {lv : am_LV} (x0 : Value) (x1 : Int32) (h : am_H) (o : am_O) (l0 : lv.lookup 0 = some x0) (l1 : lv.lookup 1 = some (.int x1)) (i0 : am_isR x0 = true) (hs : fg_465_114 N rec_2 x0 x1 h = some o) : am_W X (d + 4) 465 114 lv [] h (fun q => q = o) := by
  unfold fg_465_114 at hs
  refine aw_iinc (v := (x1 + 1)) (c := 1) (lv1 := am_put1 _ 1 _) (pc1 := 117) at_465_114 l1 (by decide) rfl rfl rfl ?_
  refine aw_goto at_465_117 ?_
  exact q_2 x0 ((x1 + 1)) h o hs _ (am_lk1 l0 rfl (by rw [am_isRc i0]; rfl)) am_lk0 i0
def fg_465_108 (N : Nat) (rec_2 : Value → Int32 → am_H → Option am_O) (rec_19 : Value → Int32 → Int32 → am_H → Option am_O) (x0 : Value) (x1 : Int32) (x2 : Int32) (h : am_H) : Option am_O := (rec_19 x0 x1 ((x2 + 1)) h)
theorem rg_465_108 {X : am_X} {d : Nat} {N : Nat} {rec_2 : Value → Int32 → am_H → Option am_O} {rec_19 : Value → Int32 → Int32 → am_H → Option am_O} (q_2 : ∀ (x0 : Value) (x1 : Int32) (h : am_H) (o : am_O), rec_2 x0 x1 h = some o → ∀ lv : am_LV, (lv.lookup 0 = some x0) → (lv.lookup 1 = some (.int x1)) → (am_isR x0 = true) → am_W X (d + 4) 465 2 lv [] h (fun q => q = o)) (q_19 : ∀ (x0 : Value) (x1 : Int32) (x2 : Int32) (h : am_H) (o : am_O), rec_19 x0 x1 x2 h = some o → ∀ lv : am_LV, (lv.lookup 0 = some x0) → (lv.lookup 1 = some (.int x1)) → (lv.lookup 2 = some (.int x2)) → (am_isR x0 = true) → am_W X (d + 4) 465 19 lv [] h (fun q => q = o)) {lv : am_LV} (x0 : Value) (x1 : Int32) (x2 : Int32) (h : am_H) (o : am_O) (l0 : lv.lookup 0 = some x0) (l1 : lv.lookup 1 = some (.int x1)) (l2 : lv.lookup 2 = some (.int x2)) (i0 : am_isR x0 = true) (hs : fg_465_108 N rec_2 rec_19 x0 x1 x2 h = some o) : am_W X (d + 4) 465 108 lv [] h (fun q => q = o) := by
  unfold fg_465_108 at hs
  refine aw_iinc (v := (x2 + 1)) (c := 1) (lv1 := am_put1 _ 2 _) (pc1 := 111) at_465_108 l2 (by decide) rfl rfl rfl ?_
  refine aw_goto at_465_111 ?_
  exact q_19 x0 x1 ((x2 + 1)) h o hs _ (am_lk1 l0 rfl rfl) (am_lk1 l1 rfl rfl) am_lk0 i0
def fg_465_102 (N : Nat) (rec_2 : Value → Int32 → am_H → Option am_O) (rec_19 : Value → Int32 → Int32 → am_H → Option am_O) (rec_38 : Value → Int32 → Int32 → Int32 → am_H → Option am_O) (x0 : Value) (x1 : Int32) (x2 : Int32) (x3 : Int32) (h : am_H) : Option am_O := (rec_38 x0 x1 x2 ((x3 + 1)) h)
theorem rg_465_102 {X : am_X} {d : Nat} {N : Nat} {rec_2 : Value → Int32 → am_H → Option am_O} {rec_19 : Value → Int32 → Int32 → am_H → Option am_O} {rec_38 : Value → Int32 → Int32 → Int32 → am_H → Option am_O} (q_2 : ∀ (x0 : Value) (x1 : Int32) (h : am_H) (o : am_O), rec_2 x0 x1 h = some o → ∀ lv : am_LV, (lv.lookup 0 = some x0) → (lv.lookup 1 = some (.int x1)) → (am_isR x0 = true) → am_W X (d + 4) 465 2 lv [] h (fun q => q = o)) (q_19 : ∀ (x0 : Value) (x1 : Int32) (x2 : Int32) (h : am_H) (o : am_O), rec_19 x0 x1 x2 h = some o → ∀ lv : am_LV, (lv.lookup 0 = some x0) → (lv.lookup 1 = some (.int x1)) → (lv.lookup 2 = some (.int x2)) → (am_isR x0 = true) → am_W X (d + 4) 465 19 lv [] h (fun q => q = o)) (q_38 : ∀ (x0 : Value) (x1 : Int32) (x2 : Int32) (x3 : Int32) (h : am_H) (o : am_O), rec_38 x0 x1 x2 x3 h = some o → ∀ lv : am_LV, (lv.lookup 0 = some x0) → (lv.lookup 1 = some (.int x1)) → (lv.lookup 2 = some (.int x2)) → (lv.lookup 3 = some (.int x3)) → (am_isR x0 = true) → am_W X (d + 4) 465 38 lv [] h (fun q => q = o)) {lv : am_LV} (x0 : Value) (x1 : Int32) (x2 : Int32) (x3 : Int32) (h : am_H) (o : am_O) (l0 : lv.lookup 0 = some x0) (l1 : lv.lookup 1 = some (.int x1)) (l2 : lv.lookup 2 = some (.int x2)) (l3 : lv.lookup 3 = some (.int x3)) (i0 : am_isR x0 = true) (hs : fg_465_102 N rec_2 rec_19 rec_38 x0 x1 x2 x3 h = some o) : am_W X (d + 4) 465 102 lv [] h (fun q => q = o) := by
  unfold fg_465_102 at hs
  refine aw_iinc (v := (x3 + 1)) (c := 1) (lv1 := am_put1 _ 3 _) (pc1 := 105) at_465_102 l3 (by decide) rfl rfl rfl ?_
  refine aw_goto at_465_105 ?_
  exact q_38 x0 x1 x2 ((x3 + 1)) h o hs _ (am_lk1 l0 rfl rfl) (am_lk1 l1 rfl rfl) (am_lk1 l2 rfl rfl) am_lk0 i0
def fg_465_76 (N : Nat) (rec_2 : Value → Int32 → am_H → Option am_O) (rec_19 : Value → Int32 → Int32 → am_H → Option am_O) (rec_38 : Value → Int32 → Int32 → Int32 → am_H → Option am_O) (x0 : Value) (x1 : Int32) (x2 : Int32) (x3 : Int32) (h : am_H) : Option am_O := (if am_pOk 12 x0 h then am_cV true (fm_442 N x0 h) (fun h3 => ((am_vR (am_pG 3088 x0 h3)).bind fun v5 => ((am_pS 0 v5 x1 x2 h3).bind fun h7 => ((am_vR (am_pG 3089 x0 h7)).bind fun v9 => ((am_pS 0 v9 x1 x3 h7).bind fun h11 => (if am_pOk 12 x0 h11 then am_cI true (fm_444 N x0 h11) (fun v14 h15 => ((am_pP 3167 x0 (.int v14) h15).bind fun h17 => (fg_465_102 N rec_2 rec_19 rec_38 x0 x1 x2 x3 h17))) else none)))))) else none)
theorem rg_465_76 {X : am_X} {d : Nat} {N : Nat} {rec_2 : Value → Int32 → am_H → Option am_O} {rec_19 : Value → Int32 → Int32 → am_H → Option am_O} {rec_38 : Value → Int32 → Int32 → Int32 → am_H → Option am_O} (q_2 : ∀ (x0 : Value) (x1 : Int32) (h : am_H) (o : am_O), rec_2 x0 x1 h = some o → ∀ lv : am_LV, (lv.lookup 0 = some x0) → (lv.lookup 1 = some (.int x1)) → (am_isR x0 = true) → am_W X (d + 4) 465 2 lv [] h (fun q => q = o)) (q_19 : ∀ (x0 : Value) (x1 : Int32) (x2 : Int32) (h : am_H) (o : am_O), rec_19 x0 x1 x2 h = some o → ∀ lv : am_LV, (lv.lookup 0 = some x0) → (lv.lookup 1 = some (.int x1)) → (lv.lookup 2 = some (.int x2)) → (am_isR x0 = true) → am_W X (d + 4) 465 19 lv [] h (fun q => q = o)) (q_38 : ∀ (x0 : Value) (x1 : Int32) (x2 : Int32) (x3 : Int32) (h : am_H) (o : am_O), rec_38 x0 x1 x2 x3 h = some o → ∀ lv : am_LV, (lv.lookup 0 = some x0) → (lv.lookup 1 = some (.int x1)) → (lv.lookup 2 = some (.int x2)) → (lv.lookup 3 = some (.int x3)) → (am_isR x0 = true) → am_W X (d + 4) 465 38 lv [] h (fun q => q = o)) {lv : am_LV} (x0 : Value) (x1 : Int32) (x2 : Int32) (x3 : Int32) (h : am_H) (o : am_O) (l0 : lv.lookup 0 = some x0) (l1 : lv.lookup 1 = some (.int x1)) (l2 : lv.lookup 2 = some (.int x2)) (l3 : lv.lookup 3 = some (.int x3)) (i0 : am_isR x0 = true) (hs : fg_465_76 N rec_2 rec_19 rec_38 x0 x1 x2 x3 h = some o) : am_W X (d + 4) 465 76 lv [] h (fun q => q = o) := by
  unfold fg_465_76 at hs
  refine aw_vload_n (pc1 := 77) at_465_76 l0 i0 rfl ?_
  obtain ⟨z1, hs1⟩ := am_ift hs
  clear hs
  refine aw_call (F := fm_442 N x0 h) (t := true) (na := 1) (kd := 1) (as := [x0]) at_465_77 (am_k3v kb_442) mn_442 mk_442 rfl rfl (am_ok_v mi_442 (am_hl rfl (am_ccR i0 am_cats_0) rfl) z1) (am_hc am_cats_0 rfl) (fun _ => ⟨rfl, hh_465⟩) (fun o1 hz9 => rm_442 x0 h o1 i0 hz9) ?_
  rcases am_cV_s hs1 with ⟨h3, f4, hs2⟩ | hs2
  · clear hs1
    refine Or.inl ⟨_, _, f4, ?_⟩
    show am_W X _ 465 80 _ [] h3 _
    refine aw_vload_n (pc1 := 81) at_465_80 l0 i0 rfl ?_
    obtain ⟨v5, e6, hs3⟩ := am_bind hs2
    clear hs2
    refine aw_pG (pc1 := 84) at_465_81 (am_vR_s e6).1 rfl ?_
    refine aw_iload_n (pc1 := 85) at_465_84 l1 rfl ?_
    refine aw_iload_n (pc1 := 86) at_465_85 l2 rfl ?_
    obtain ⟨h7, e8, hs4⟩ := am_bind hs3
    clear hs3
    refine aw_pS (pc1 := 87) at_465_86 (Or.inl ⟨rfl, rfl⟩) e8 rfl ?_
    refine aw_vload_n (pc1 := 88) at_465_87 l0 i0 rfl ?_
    obtain ⟨v9, e10, hs5⟩ := am_bind hs4
    clear hs4
    refine aw_pG (pc1 := 91) at_465_88 (am_vR_s e10).1 rfl ?_
    refine aw_iload_n (pc1 := 92) at_465_91 l1 rfl ?_
    refine aw_iload_n (pc1 := 93) at_465_92 l3 rfl ?_
    obtain ⟨h11, e12, hs6⟩ := am_bind hs5
    clear hs5
    refine aw_pS (pc1 := 94) at_465_93 (Or.inl ⟨rfl, rfl⟩) e12 rfl ?_
    refine aw_vload_n (pc1 := 95) at_465_94 l0 i0 rfl ?_
    refine aw_vload_n (pc1 := 96) at_465_95 l0 i0 rfl ?_
    obtain ⟨z13, hs7⟩ := am_ift hs6
    clear hs6
    refine aw_call (F := fm_444 N x0 h11) (t := true) (na := 1) (kd := 1) (as := [x0]) at_465_96 (am_k3v kb_444) mn_444 mk_444 rfl rfl (am_ok_v mi_444 (am_hl rfl (am_ccR i0 am_cats_0) rfl) z13) (am_hc (am_ccR i0 am_cats_0) rfl) (fun _ => ⟨rfl, hh_465⟩) (fun o1 hz9 => rm_444 x0 h11 o1 i0 hz9) ?_
    rcases am_cI_s hs7 with ⟨v14, h15, f16, hs8⟩ | hs8
    · clear hs7
      refine Or.inl ⟨_, _, f16, ?_⟩
      show am_W X _ 465 99 _ [(.int v14), x0] h15 _
      obtain ⟨h17, e18, hs9⟩ := am_bind hs8
      clear hs8
      refine aw_pP (pc1 := 102) at_465_99 e18 rfl ?_
      exact rg_465_102 q_2 q_19 q_38 x0 x1 x2 x3 h17 o l0 l1 l2 l3 i0 hs9
    · clear hs7
      exact Or.inr hs8
  · clear hs1
    exact Or.inr hs2
def fg_465_38 (N : Nat) (rec_2 : Value → Int32 → am_H → Option am_O) (rec_19 : Value → Int32 → Int32 → am_H → Option am_O) : Nat → Value → Int32 → Int32 → Int32 → am_H → Option am_O
  | 0 => fun _ _ _ _ _ => none
  | K + 1 => fun x0 x1 x2 x3 h => ((am_vI (am_pG 3091 x0 h)).bind fun v1 => (if v1 ≤ x3 then (fg_465_108 N rec_2 rec_19 x0 x1 x2 h) else ((am_vI (am_pG 3167 x0 h)).bind fun v4 => (if ¬ v4 = 0 then (fg_465_108 N rec_2 rec_19 x0 x1 x2 h) else ((am_vR (am_pG 3093 x0 h)).bind fun v7 => ((am_pA 0 v7 x1 h).bind fun v9 => (if ¬ x2 = v9 then (fg_465_76 N rec_2 rec_19 (fg_465_38 N rec_2 rec_19 K) x0 x1 x2 x3 h) else ((am_vR (am_pG 3094 x0 h)).bind fun v12 => ((am_pA 0 v12 x1 h).bind fun v14 => (if ¬ x3 = v14 then (fg_465_76 N rec_2 rec_19 (fg_465_38 N rec_2 rec_19 K) x0 x1 x2 x3 h) else (fg_465_102 N rec_2 rec_19 (fg_465_38 N rec_2 rec_19 K) x0 x1 x2 x3 h)))))))))))
theorem rg_465_38 {X : am_X} {d : Nat} {N : Nat} {rec_2 : Value → Int32 → am_H → Option am_O} {rec_19 : Value → Int32 → Int32 → am_H → Option am_O} (q_2 : ∀ (x0 : Value) (x1 : Int32) (h : am_H) (o : am_O), rec_2 x0 x1 h = some o → ∀ lv : am_LV, (lv.lookup 0 = some x0) → (lv.lookup 1 = some (.int x1)) → (am_isR x0 = true) → am_W X (d + 4) 465 2 lv [] h (fun q => q = o)) (q_19 : ∀ (x0 : Value) (x1 : Int32) (x2 : Int32) (h : am_H) (o : am_O), rec_19 x0 x1 x2 h = some o → ∀ lv : am_LV, (lv.lookup 0 = some x0) → (lv.lookup 1 = some (.int x1)) → (lv.lookup 2 = some (.int x2)) → (am_isR x0 = true) → am_W X (d + 4) 465 19 lv [] h (fun q => q = o)) : ∀ (K : Nat) (x0 : Value) (x1 : Int32) (x2 : Int32) (x3 : Int32) (h : am_H) (o : am_O), fg_465_38 N rec_2 rec_19 K x0 x1 x2 x3 h = some o → ∀ lv : am_LV, (lv.lookup 0 = some x0) → (lv.lookup 1 = some (.int x1)) → (lv.lookup 2 = some (.int x2)) → (lv.lookup 3 = some (.int x3)) → (am_isR x0 = true) → am_W X (d + 4) 465 38 lv [] h (fun q => q = o) := by
  intro K
  induction K with
  | zero => intro x0 x1 x2 x3 h o hs; cases hs
  | succ K ih =>
    intro x0 x1 x2 x3 h o hs lv l0 l1 l2 l3 i0
    unfold fg_465_38 at hs
    refine aw_iload_n (pc1 := 39) at_465_38 l3 rfl ?_
    refine aw_vload_n (pc1 := 40) at_465_39 l0 i0 rfl ?_
    obtain ⟨v1, e2, hs1⟩ := am_bind hs
    clear hs
    refine aw_pG (pc1 := 43) at_465_40 (am_vI_s e2) rfl ?_
    by_cases c3 : v1 ≤ x3
    · rw [if_pos c3] at hs1
      refine aw_icge_t at_465_43 c3 ?_
      exact rg_465_108 q_2 q_19 x0 x1 x2 h o l0 l1 l2 i0 hs1
    · rw [if_neg c3] at hs1
      refine aw_icge_f (pc1 := 46) at_465_43 c3 rfl ?_
      refine aw_vload_n (pc1 := 47) at_465_46 l0 i0 rfl ?_
      obtain ⟨v4, e5, hs2⟩ := am_bind hs1
      clear hs1
      refine aw_pG (pc1 := 50) at_465_47 (am_vI_s e5) rfl ?_
      by_cases c6 : ¬ v4 = 0
      · rw [if_pos c6] at hs2
        refine aw_ifne_t at_465_50 c6 ?_
        exact rg_465_108 q_2 q_19 x0 x1 x2 h o l0 l1 l2 i0 hs2
      · rw [if_neg c6] at hs2
        refine aw_ifne_f (pc1 := 53) at_465_50 c6 rfl ?_
        refine aw_iload_n (pc1 := 54) at_465_53 l2 rfl ?_
        refine aw_vload_n (pc1 := 55) at_465_54 l0 i0 rfl ?_
        obtain ⟨v7, e8, hs3⟩ := am_bind hs2
        clear hs2
        refine aw_pG (pc1 := 58) at_465_55 (am_vR_s e8).1 rfl ?_
        refine aw_iload_n (pc1 := 59) at_465_58 l1 rfl ?_
        obtain ⟨v9, e10, hs4⟩ := am_bind hs3
        clear hs3
        refine aw_pA (pc1 := 60) at_465_59 (Or.inl ⟨rfl, rfl⟩) e10 rfl ?_
        by_cases c11 : ¬ x2 = v9
        · rw [if_pos c11] at hs4
          refine aw_icne_t at_465_60 c11 ?_
          exact rg_465_76 q_2 q_19 (fun z0 z1 z2 z3 h o hs4 => ih z0 z1 z2 z3 h o hs4) x0 x1 x2 x3 h o l0 l1 l2 l3 i0 hs4
        · rw [if_neg c11] at hs4
          refine aw_icne_f (pc1 := 63) at_465_60 c11 rfl ?_
          refine aw_iload_n (pc1 := 64) at_465_63 l3 rfl ?_
          refine aw_vload_n (pc1 := 65) at_465_64 l0 i0 rfl ?_
          obtain ⟨v12, e13, hs5⟩ := am_bind hs4
          clear hs4
          refine aw_pG (pc1 := 68) at_465_65 (am_vR_s e13).1 rfl ?_
          refine aw_iload_n (pc1 := 69) at_465_68 l1 rfl ?_
          obtain ⟨v14, e15, hs6⟩ := am_bind hs5
          clear hs5
          refine aw_pA (pc1 := 70) at_465_69 (Or.inl ⟨rfl, rfl⟩) e15 rfl ?_
          by_cases c16 : ¬ x3 = v14
          · rw [if_pos c16] at hs6
            refine aw_icne_t at_465_70 c16 ?_
            exact rg_465_76 q_2 q_19 (fun z0 z1 z2 z3 h o hs6 => ih z0 z1 z2 z3 h o hs6) x0 x1 x2 x3 h o l0 l1 l2 l3 i0 hs6
          · rw [if_neg c16] at hs6
            refine aw_icne_f (pc1 := 73) at_465_70 c16 rfl ?_
            refine aw_goto at_465_73 ?_
            exact rg_465_102 q_2 q_19 (fun z0 z1 z2 z3 h o hs6 => ih z0 z1 z2 z3 h o hs6) x0 x1 x2 x3 h o l0 l1 l2 l3 i0 hs6
def fg_465_19 (N : Nat) (rec_2 : Value → Int32 → am_H → Option am_O) : Nat → Value → Int32 → Int32 → am_H → Option am_O
  | 0 => fun _ _ _ _ => none
  | K + 1 => fun x0 x1 x2 h => ((am_vI (am_pG 3091 x0 h)).bind fun v1 => (if v1 ≤ x2 then (fg_465_114 N rec_2 x0 x1 h) else ((am_vI (am_pG 3167 x0 h)).bind fun v4 => (if ¬ v4 = 0 then (fg_465_114 N rec_2 x0 x1 h) else (fg_465_38 N rec_2 (fg_465_19 N rec_2 K) N x0 x1 x2 ((x2 + 1)) h)))))
theorem rg_465_19 {X : am_X} {d : Nat} {N : Nat} {rec_2 : Value → Int32 → am_H → Option am_O} (q_2 : ∀ (x0 : Value) (x1 : Int32) (h : am_H) (o : am_O), rec_2 x0 x1 h = some o → ∀ lv : am_LV, (lv.lookup 0 = some x0) → (lv.lookup 1 = some (.int x1)) → (am_isR x0 = true) → am_W X (d + 4) 465 2 lv [] h (fun q => q = o)) : ∀ (K : Nat) (x0 : Value) (x1 : Int32) (x2 : Int32) (h : am_H) (o : am_O), fg_465_19 N rec_2 K x0 x1 x2 h = some o → ∀ lv : am_LV, (lv.lookup 0 = some x0) → (lv.lookup 1 = some (.int x1)) → (lv.lookup 2 = some (.int x2)) → (am_isR x0 = true) → am_W X (d + 4) 465 19 lv [] h (fun q => q = o) := by
  intro K
  induction K with
  | zero => intro x0 x1 x2 h o hs; cases hs
  | succ K ih =>
    intro x0 x1 x2 h o hs lv l0 l1 l2 i0
    unfold fg_465_19 at hs
    refine aw_iload_n (pc1 := 20) at_465_19 l2 rfl ?_
    refine aw_vload_n (pc1 := 21) at_465_20 l0 i0 rfl ?_
    obtain ⟨v1, e2, hs1⟩ := am_bind hs
    clear hs
    refine aw_pG (pc1 := 24) at_465_21 (am_vI_s e2) rfl ?_
    by_cases c3 : v1 ≤ x2
    · rw [if_pos c3] at hs1
      refine aw_icge_t at_465_24 c3 ?_
      exact rg_465_114 q_2 x0 x1 h o l0 l1 i0 hs1
    · rw [if_neg c3] at hs1
      refine aw_icge_f (pc1 := 27) at_465_24 c3 rfl ?_
      refine aw_vload_n (pc1 := 28) at_465_27 l0 i0 rfl ?_
      obtain ⟨v4, e5, hs2⟩ := am_bind hs1
      clear hs1
      refine aw_pG (pc1 := 31) at_465_28 (am_vI_s e5) rfl ?_
      by_cases c6 : ¬ v4 = 0
      · rw [if_pos c6] at hs2
        refine aw_ifne_t at_465_31 c6 ?_
        exact rg_465_114 q_2 x0 x1 h o l0 l1 i0 hs2
      · rw [if_neg c6] at hs2
        refine aw_ifne_f (pc1 := 34) at_465_31 c6 rfl ?_
        refine aw_iload_n (pc1 := 35) at_465_34 l2 rfl ?_
        refine aw_iconst (v := 1) (pc1 := 36) at_465_35 (by decide) rfl ?_
        refine aw_iadd (v := (x2 + 1)) (pc1 := 37) at_465_36 rfl rfl ?_
        refine aw_istore_n (lv1 := am_put1 _ 3 _) (pc1 := 38) at_465_37 rfl rfl ?_
        exact rg_465_38 q_2 (fun z0 z1 z2 h o hs2 => ih z0 z1 z2 h o hs2) N x0 x1 x2 ((x2 + 1)) h o hs2 _ (am_lk1 l0 rfl rfl) (am_lk1 l1 rfl rfl) (am_lk1 l2 rfl rfl) am_lk0 i0
def fg_465_2 (N : Nat) : Nat → Value → Int32 → am_H → Option am_O
  | 0 => fun _ _ _ => none
  | K + 1 => fun x0 x1 h => ((am_vI (am_pG 3090 x0 h)).bind fun v1 => (if v1 ≤ x1 then (fg_465_120 N h) else ((am_vI (am_pG 3167 x0 h)).bind fun v4 => (if ¬ v4 = 0 then (fg_465_120 N h) else (fg_465_19 N (fg_465_2 N K) N x0 x1 0 h)))))
theorem rg_465_2 {X : am_X} {d : Nat} {N : Nat} : ∀ (K : Nat) (x0 : Value) (x1 : Int32) (h : am_H) (o : am_O), fg_465_2 N K x0 x1 h = some o → ∀ lv : am_LV, (lv.lookup 0 = some x0) → (lv.lookup 1 = some (.int x1)) → (am_isR x0 = true) → am_W X (d + 4) 465 2 lv [] h (fun q => q = o) := by
  intro K
  induction K with
  | zero => intro x0 x1 h o hs; cases hs
  | succ K ih =>
    intro x0 x1 h o hs lv l0 l1 i0
    unfold fg_465_2 at hs
    refine aw_iload_n (pc1 := 3) at_465_2 l1 rfl ?_
    refine aw_vload_n (pc1 := 4) at_465_3 l0 i0 rfl ?_
    obtain ⟨v1, e2, hs1⟩ := am_bind hs
    clear hs
    refine aw_pG (pc1 := 7) at_465_4 (am_vI_s e2) rfl ?_
    by_cases c3 : v1 ≤ x1
    · rw [if_pos c3] at hs1
      refine aw_icge_t at_465_7 c3 ?_
      exact rg_465_120 h o   hs1
    · rw [if_neg c3] at hs1
      refine aw_icge_f (pc1 := 10) at_465_7 c3 rfl ?_
      refine aw_vload_n (pc1 := 11) at_465_10 l0 i0 rfl ?_
      obtain ⟨v4, e5, hs2⟩ := am_bind hs1
      clear hs1
      refine aw_pG (pc1 := 14) at_465_11 (am_vI_s e5) rfl ?_
      by_cases c6 : ¬ v4 = 0
      · rw [if_pos c6] at hs2
        refine aw_ifne_t at_465_14 c6 ?_
        exact rg_465_120 h o   hs2
      · rw [if_neg c6] at hs2
        refine aw_ifne_f (pc1 := 17) at_465_14 c6 rfl ?_
        refine aw_iconst (v := 0) (pc1 := 18) at_465_17 (by decide) rfl ?_
        refine aw_istore_n (lv1 := am_put1 _ 2 _) (pc1 := 19) at_465_18 rfl rfl ?_
        exact rg_465_19 (fun z0 z1 h o hs2 => ih z0 z1 h o hs2) N x0 x1 0 h o hs2 _ (am_lk1 l0 rfl rfl) (am_lk1 l1 rfl rfl) am_lk0 i0
def fg_465_0 (N : Nat) (x0 : Value) (h : am_H) : Option am_O := (fg_465_2 N N x0 0 h)
theorem rg_465_0 {X : am_X} {d : Nat} {N : Nat} {lv : am_LV} (x0 : Value) (h : am_H) (o : am_O) (l0 : lv.lookup 0 = some x0) (i0 : am_isR x0 = true) (hs : fg_465_0 N x0 h = some o) : am_W X (d + 4) 465 0 lv [] h (fun q => q = o) := by
  unfold fg_465_0 at hs
  refine aw_iconst (v := 0) (pc1 := 1) at_465_0 (by decide) rfl ?_
  refine aw_istore_n (lv1 := am_put1 _ 1 _) (pc1 := 2) at_465_1 rfl rfl ?_
  exact rg_465_2 N x0 0 h o hs _ (am_lk1 l0 rfl (by rw [am_isRc i0]; rfl)) am_lk0 i0
def fm_465 (N : Nat) (y0 : Value) (h : am_H) : Option am_O := fg_465_0 N y0 h
theorem rm_465 {X : am_X} {d : Nat} {N : Nat} (y0 : Value) (h : am_H) (o : am_O) (i0 : am_isR y0 = true) (hs : fm_465 N y0 h = some o) : am_W X (d + 4) 465 0 (am_args 0 [y0]) [] h (fun q => q = o) := by
  rw [am_args_R i0]
  exact rg_465_0 y0 h o rfl i0 hs
def fg_466_52 (N : Nat) (h : am_H) : Option am_O := some (.inl (none, h))
theorem rg_466_52 {X : am_X} {d : Nat} {N : Nat} {lv : am_LV} (h : am_H) (o : am_O) (hs : fg_466_52 N h = some o) : am_W X (d + 4) 466 52 lv [] h (fun q => q = o) := by
  unfold fg_466_52 at hs
  cases hs
  exact aw_vret at_466_52 rt_466 rfl
def fg_466_2 (N : Nat) : Nat → Value → Int32 → am_H → Option am_O
  | 0 => fun _ _ _ => none
  | K + 1 => fun x0 x1 h => ((am_vI (am_pG 3090 x0 h)).bind fun v1 => (if v1 ≤ x1 then (fg_466_52 N h) else ((am_vI (am_pG 3167 x0 h)).bind fun v4 => (if ¬ v4 = 0 then (fg_466_52 N h) else (if am_pOk 12 x0 h then am_cV true (fm_451 x0 h) (fun h9 => (if am_pOk 12 x0 h9 then am_cV true (fm_443 N x0 0 x1 h9) (fun h13 => ((am_vI (am_pG 3090 x0 h13)).bind fun v15 => (if am_pOk 12 x0 h13 then am_cV true (fm_443 N x0 ((x1 + 1)) v15 h13) (fun h19 => (if am_pOk 12 x0 h19 then am_cI true (fm_444 N x0 h19) (fun v22 h23 => ((am_pP 3167 x0 (.int v22) h23).bind fun h25 => (fg_466_2 N K x0 ((x1 + 1)) h25))) else none)) else none))) else none)) else none)))))
theorem rg_466_2 {X : am_X} {d : Nat} {N : Nat} : ∀ (K : Nat) (x0 : Value) (x1 : Int32) (h : am_H) (o : am_O), fg_466_2 N K x0 x1 h = some o → ∀ lv : am_LV, (lv.lookup 0 = some x0) → (lv.lookup 1 = some (.int x1)) → (am_isR x0 = true) → am_W X (d + 4) 466 2 lv [] h (fun q => q = o) := by
  intro K
  induction K with
  | zero => intro x0 x1 h o hs; cases hs
  | succ K ih =>
    intro x0 x1 h o hs lv l0 l1 i0
    unfold fg_466_2 at hs
    refine aw_iload_n (pc1 := 3) at_466_2 l1 rfl ?_
    refine aw_vload_n (pc1 := 4) at_466_3 l0 i0 rfl ?_
    obtain ⟨v1, e2, hs1⟩ := am_bind hs
    clear hs
    refine aw_pG (pc1 := 7) at_466_4 (am_vI_s e2) rfl ?_
    by_cases c3 : v1 ≤ x1
    · rw [if_pos c3] at hs1
      refine aw_icge_t at_466_7 c3 ?_
      exact rg_466_52 h o   hs1
    · rw [if_neg c3] at hs1
      refine aw_icge_f (pc1 := 10) at_466_7 c3 rfl ?_
      refine aw_vload_n (pc1 := 11) at_466_10 l0 i0 rfl ?_
      obtain ⟨v4, e5, hs2⟩ := am_bind hs1
      clear hs1
      refine aw_pG (pc1 := 14) at_466_11 (am_vI_s e5) rfl ?_
      by_cases c6 : ¬ v4 = 0
      · rw [if_pos c6] at hs2
        refine aw_ifne_t at_466_14 c6 ?_
        exact rg_466_52 h o   hs2
      · rw [if_neg c6] at hs2
        refine aw_ifne_f (pc1 := 17) at_466_14 c6 rfl ?_
        refine aw_vload_n (pc1 := 18) at_466_17 l0 i0 rfl ?_
        obtain ⟨z7, hs3⟩ := am_ift hs2
        clear hs2
        refine aw_call (F := fm_451 x0 h) (t := true) (na := 1) (kd := 1) (as := [x0]) at_466_18 (am_k3v kb_451) mn_451 mk_451 rfl rfl (am_ok_v mi_451 (am_hl rfl (am_ccR i0 am_cats_0) rfl) z7) (am_hc am_cats_0 rfl) (fun _ => ⟨rfl, hh_466⟩) (fun o1 hz9 => rm_451 x0 h o1 i0 hz9) ?_
        rcases am_cV_s hs3 with ⟨h9, f10, hs4⟩ | hs4
        · clear hs3
          refine Or.inl ⟨_, _, f10, ?_⟩
          show am_W X _ 466 21 _ [] h9 _
          refine aw_vload_n (pc1 := 22) at_466_21 l0 i0 rfl ?_
          refine aw_iconst (v := 0) (pc1 := 23) at_466_22 (by decide) rfl ?_
          refine aw_iload_n (pc1 := 24) at_466_23 l1 rfl ?_
          obtain ⟨z11, hs5⟩ := am_ift hs4
          clear hs4
          refine aw_call (F := fm_443 N x0 0 x1 h9) (t := true) (na := 3) (kd := 1) (as := [x0, (.int 0), (.int x1)]) at_466_24 (am_k3v kb_443) mn_443 mk_443 rfl rfl (am_ok_v mi_443 (am_hl rfl (am_ccR i0 (am_ccI (am_ccI am_cats_0))) rfl) z11) (am_hc am_cats_0 rfl) (fun _ => ⟨rfl, hh_466⟩) (fun o1 hz9 => rm_443 x0 0 x1 h9 o1 i0 hz9) ?_
          rcases am_cV_s hs5 with ⟨h13, f14, hs6⟩ | hs6
          · clear hs5
            refine Or.inl ⟨_, _, f14, ?_⟩
            show am_W X _ 466 27 _ [] h13 _
            refine aw_vload_n (pc1 := 28) at_466_27 l0 i0 rfl ?_
            refine aw_iload_n (pc1 := 29) at_466_28 l1 rfl ?_
            refine aw_iconst (v := 1) (pc1 := 30) at_466_29 (by decide) rfl ?_
            refine aw_iadd (v := (x1 + 1)) (pc1 := 31) at_466_30 rfl rfl ?_
            refine aw_vload_n (pc1 := 32) at_466_31 l0 i0 rfl ?_
            obtain ⟨v15, e16, hs7⟩ := am_bind hs6
            clear hs6
            refine aw_pG (pc1 := 35) at_466_32 (am_vI_s e16) rfl ?_
            obtain ⟨z17, hs8⟩ := am_ift hs7
            clear hs7
            refine aw_call (F := fm_443 N x0 ((x1 + 1)) v15 h13) (t := true) (na := 3) (kd := 1) (as := [x0, (.int (x1 + 1)), (.int v15)]) at_466_35 (am_k3v kb_443) mn_443 mk_443 rfl rfl (am_ok_v mi_443 (am_hl rfl (am_ccR i0 (am_ccI (am_ccI am_cats_0))) rfl) z17) (am_hc am_cats_0 rfl) (fun _ => ⟨rfl, hh_466⟩) (fun o1 hz9 => rm_443 x0 ((x1 + 1)) v15 h13 o1 i0 hz9) ?_
            rcases am_cV_s hs8 with ⟨h19, f20, hs9⟩ | hs9
            · clear hs8
              refine Or.inl ⟨_, _, f20, ?_⟩
              show am_W X _ 466 38 _ [] h19 _
              refine aw_vload_n (pc1 := 39) at_466_38 l0 i0 rfl ?_
              refine aw_vload_n (pc1 := 40) at_466_39 l0 i0 rfl ?_
              obtain ⟨z21, hs10⟩ := am_ift hs9
              clear hs9
              refine aw_call (F := fm_444 N x0 h19) (t := true) (na := 1) (kd := 1) (as := [x0]) at_466_40 (am_k3v kb_444) mn_444 mk_444 rfl rfl (am_ok_v mi_444 (am_hl rfl (am_ccR i0 am_cats_0) rfl) z21) (am_hc (am_ccR i0 am_cats_0) rfl) (fun _ => ⟨rfl, hh_466⟩) (fun o1 hz9 => rm_444 x0 h19 o1 i0 hz9) ?_
              rcases am_cI_s hs10 with ⟨v22, h23, f24, hs11⟩ | hs11
              · clear hs10
                refine Or.inl ⟨_, _, f24, ?_⟩
                show am_W X _ 466 43 _ [(.int v22), x0] h23 _
                obtain ⟨h25, e26, hs12⟩ := am_bind hs11
                clear hs11
                refine aw_pP (pc1 := 46) at_466_43 e26 rfl ?_
                refine aw_iinc (v := (x1 + 1)) (c := 1) (lv1 := am_put1 _ 1 _) (pc1 := 49) at_466_46 l1 (by decide) rfl rfl rfl ?_
                refine aw_goto at_466_49 ?_
                exact ih x0 ((x1 + 1)) h25 o hs12 _ (am_lk1 l0 rfl (by rw [am_isRc i0]; rfl)) am_lk0 i0
              · clear hs10
                exact Or.inr hs11
            · clear hs8
              exact Or.inr hs9
          · clear hs5
            exact Or.inr hs6
        · clear hs3
          exact Or.inr hs4
def fg_466_0 (N : Nat) (x0 : Value) (h : am_H) : Option am_O := (fg_466_2 N N x0 0 h)
theorem rg_466_0 {X : am_X} {d : Nat} {N : Nat} {lv : am_LV} (x0 : Value) (h : am_H) (o : am_O) (l0 : lv.lookup 0 = some x0) (i0 : am_isR x0 = true) (hs : fg_466_0 N x0 h = some o) : am_W X (d + 4) 466 0 lv [] h (fun q => q = o) := by
  unfold fg_466_0 at hs
  refine aw_iconst (v := 0) (pc1 := 1) at_466_0 (by decide) rfl ?_
  refine aw_istore_n (lv1 := am_put1 _ 1 _) (pc1 := 2) at_466_1 rfl rfl ?_
  exact rg_466_2 N x0 0 h o hs _ (am_lk1 l0 rfl (by rw [am_isRc i0]; rfl)) am_lk0 i0
def fm_466 (N : Nat) (y0 : Value) (h : am_H) : Option am_O := fg_466_0 N y0 h
theorem rm_466 {X : am_X} {d : Nat} {N : Nat} (y0 : Value) (h : am_H) (o : am_O) (i0 : am_isR y0 = true) (hs : fm_466 N y0 h = some o) : am_W X (d + 4) 466 0 (am_args 0 [y0]) [] h (fun q => q = o) := by
  rw [am_args_R i0]
  exact rg_466_0 y0 h o rfl i0 hs
def fg_467_104 (N : Nat) (h : am_H) : Option am_O := some (.inl (none, h))
theorem rg_467_104 {X : am_X} {d : Nat} {N : Nat} {lv : am_LV} (h : am_H) (o : am_O) (hs : fg_467_104 N h = some o) : am_W X (d + 4) 467 104 lv [] h (fun q => q = o) := by
  unfold fg_467_104 at hs
  cases hs
  exact aw_vret at_467_104 rt_467 rfl
def fg_467_98 (N : Nat) (rec_2 : Value → Int32 → am_H → Option am_O) (x0 : Value) (x1 : Int32) (h : am_H) : Option am_O := (rec_2 x0 ((x1 + 1)) h)
theorem rg_467_98 {X : am_X} {d : Nat} {N : Nat} {rec_2 : Value → Int32 → am_H → Option am_O} (q_2 : ∀ (x0 : Value) (x1 : Int32) (h : am_H) (o : am_O), rec_2 x0 x1 h = some o → ∀ lv : am_LV, (lv.lookup 0 = some x0) → (lv.lookup 1 = some (.int x1)) → (am_isR x0 = true) → am_W X (d + 4) 467 2 lv [] h (fun q => q = o)) {lv : am_LV} (x0 : Value) (x1 : Int32) (h : am_H) (o : am_O) (l0 : lv.lookup 0 = some x0) (l1 : lv.lookup 1 = some (.int x1)) (i0 : am_isR x0 = true) (hs : fg_467_98 N rec_2 x0 x1 h = some o) : am_W X (d + 4) 467 98 lv [] h (fun q => q = o) := by
  unfold fg_467_98 at hs
  refine aw_iinc (v := (x1 + 1)) (c := 1) (lv1 := am_put1 _ 1 _) (pc1 := 101) at_467_98 l1 (by decide) rfl rfl rfl ?_
  refine aw_goto at_467_101 ?_
  exact q_2 x0 ((x1 + 1)) h o hs _ (am_lk1 l0 rfl (by rw [am_isRc i0]; rfl)) am_lk0 i0
def fg_467_92 (N : Nat) (rec_2 : Value → Int32 → am_H → Option am_O) (rec_19 : Value → Int32 → Int32 → am_H → Option am_O) (x0 : Value) (x1 : Int32) (x2 : Int32) (h : am_H) : Option am_O := (rec_19 x0 x1 ((x2 + 1)) h)
theorem rg_467_92 {X : am_X} {d : Nat} {N : Nat} {rec_2 : Value → Int32 → am_H → Option am_O} {rec_19 : Value → Int32 → Int32 → am_H → Option am_O} (q_2 : ∀ (x0 : Value) (x1 : Int32) (h : am_H) (o : am_O), rec_2 x0 x1 h = some o → ∀ lv : am_LV, (lv.lookup 0 = some x0) → (lv.lookup 1 = some (.int x1)) → (am_isR x0 = true) → am_W X (d + 4) 467 2 lv [] h (fun q => q = o)) (q_19 : ∀ (x0 : Value) (x1 : Int32) (x2 : Int32) (h : am_H) (o : am_O), rec_19 x0 x1 x2 h = some o → ∀ lv : am_LV, (lv.lookup 0 = some x0) → (lv.lookup 1 = some (.int x1)) → (lv.lookup 2 = some (.int x2)) → (am_isR x0 = true) → am_W X (d + 4) 467 19 lv [] h (fun q => q = o)) {lv : am_LV} (x0 : Value) (x1 : Int32) (x2 : Int32) (h : am_H) (o : am_O) (l0 : lv.lookup 0 = some x0) (l1 : lv.lookup 1 = some (.int x1)) (l2 : lv.lookup 2 = some (.int x2)) (i0 : am_isR x0 = true) (hs : fg_467_92 N rec_2 rec_19 x0 x1 x2 h = some o) : am_W X (d + 4) 467 92 lv [] h (fun q => q = o) := by
  unfold fg_467_92 at hs
  refine aw_iinc (v := (x2 + 1)) (c := 1) (lv1 := am_put1 _ 2 _) (pc1 := 95) at_467_92 l2 (by decide) rfl rfl rfl ?_
  refine aw_goto at_467_95 ?_
  exact q_19 x0 x1 ((x2 + 1)) h o hs _ (am_lk1 l0 rfl rfl) (am_lk1 l1 rfl rfl) am_lk0 i0
def fg_467_38 (N : Nat) (rec_2 : Value → Int32 → am_H → Option am_O) (rec_19 : Value → Int32 → Int32 → am_H → Option am_O) : Nat → Value → Int32 → Int32 → Int32 → am_H → Option am_O
  | 0 => fun _ _ _ _ _ => none
  | K + 1 => fun x0 x1 x2 x3 h => ((am_vI (am_pG 3091 x0 h)).bind fun v1 => (if v1 ≤ x3 then (fg_467_92 N rec_2 rec_19 x0 x1 x2 h) else ((am_vI (am_pG 3167 x0 h)).bind fun v4 => (if ¬ v4 = 0 then (fg_467_92 N rec_2 rec_19 x0 x1 x2 h) else (if am_pOk 12 x0 h then am_cV true (fm_451 x0 h) (fun h9 => (if am_pOk 12 x0 h9 then am_cV true (fm_443 N x0 0 x1 h9) (fun h13 => (if am_pOk 12 x0 h13 then am_cV true (fm_335 x0 x2 x3 h13) (fun h17 => ((am_vI (am_pG 3090 x0 h17)).bind fun v19 => (if am_pOk 12 x0 h17 then am_cV true (fm_443 N x0 x1 v19 h17) (fun h23 => (if am_pOk 12 x0 h23 then am_cI true (fm_444 N x0 h23) (fun v26 h27 => ((am_pP 3167 x0 (.int v26) h27).bind fun h29 => (fg_467_38 N rec_2 rec_19 K x0 x1 x2 ((x3 + 1)) h29))) else none)) else none))) else none)) else none)) else none)))))
theorem rg_467_38 {X : am_X} {d : Nat} {N : Nat} {rec_2 : Value → Int32 → am_H → Option am_O} {rec_19 : Value → Int32 → Int32 → am_H → Option am_O} (q_2 : ∀ (x0 : Value) (x1 : Int32) (h : am_H) (o : am_O), rec_2 x0 x1 h = some o → ∀ lv : am_LV, (lv.lookup 0 = some x0) → (lv.lookup 1 = some (.int x1)) → (am_isR x0 = true) → am_W X (d + 4) 467 2 lv [] h (fun q => q = o)) (q_19 : ∀ (x0 : Value) (x1 : Int32) (x2 : Int32) (h : am_H) (o : am_O), rec_19 x0 x1 x2 h = some o → ∀ lv : am_LV, (lv.lookup 0 = some x0) → (lv.lookup 1 = some (.int x1)) → (lv.lookup 2 = some (.int x2)) → (am_isR x0 = true) → am_W X (d + 4) 467 19 lv [] h (fun q => q = o)) : ∀ (K : Nat) (x0 : Value) (x1 : Int32) (x2 : Int32) (x3 : Int32) (h : am_H) (o : am_O), fg_467_38 N rec_2 rec_19 K x0 x1 x2 x3 h = some o → ∀ lv : am_LV, (lv.lookup 0 = some x0) → (lv.lookup 1 = some (.int x1)) → (lv.lookup 2 = some (.int x2)) → (lv.lookup 3 = some (.int x3)) → (am_isR x0 = true) → am_W X (d + 4) 467 38 lv [] h (fun q => q = o) := by
  intro K
  induction K with
  | zero => intro x0 x1 x2 x3 h o hs; cases hs
  | succ K ih =>
    intro x0 x1 x2 x3 h o hs lv l0 l1 l2 l3 i0
    unfold fg_467_38 at hs
    refine aw_iload_n (pc1 := 39) at_467_38 l3 rfl ?_
    refine aw_vload_n (pc1 := 40) at_467_39 l0 i0 rfl ?_
    obtain ⟨v1, e2, hs1⟩ := am_bind hs
    clear hs
    refine aw_pG (pc1 := 43) at_467_40 (am_vI_s e2) rfl ?_
    by_cases c3 : v1 ≤ x3
    · rw [if_pos c3] at hs1
      refine aw_icge_t at_467_43 c3 ?_
      exact rg_467_92 q_2 q_19 x0 x1 x2 h o l0 l1 l2 i0 hs1
    · rw [if_neg c3] at hs1
      refine aw_icge_f (pc1 := 46) at_467_43 c3 rfl ?_
      refine aw_vload_n (pc1 := 47) at_467_46 l0 i0 rfl ?_
      obtain ⟨v4, e5, hs2⟩ := am_bind hs1
      clear hs1
      refine aw_pG (pc1 := 50) at_467_47 (am_vI_s e5) rfl ?_
      by_cases c6 : ¬ v4 = 0
      · rw [if_pos c6] at hs2
        refine aw_ifne_t at_467_50 c6 ?_
        exact rg_467_92 q_2 q_19 x0 x1 x2 h o l0 l1 l2 i0 hs2
      · rw [if_neg c6] at hs2
        refine aw_ifne_f (pc1 := 53) at_467_50 c6 rfl ?_
        refine aw_vload_n (pc1 := 54) at_467_53 l0 i0 rfl ?_
        obtain ⟨z7, hs3⟩ := am_ift hs2
        clear hs2
        refine aw_call (F := fm_451 x0 h) (t := true) (na := 1) (kd := 1) (as := [x0]) at_467_54 (am_k3v kb_451) mn_451 mk_451 rfl rfl (am_ok_v mi_451 (am_hl rfl (am_ccR i0 am_cats_0) rfl) z7) (am_hc am_cats_0 rfl) (fun _ => ⟨rfl, hh_467⟩) (fun o1 hz9 => rm_451 x0 h o1 i0 hz9) ?_
        rcases am_cV_s hs3 with ⟨h9, f10, hs4⟩ | hs4
        · clear hs3
          refine Or.inl ⟨_, _, f10, ?_⟩
          show am_W X _ 467 57 _ [] h9 _
          refine aw_vload_n (pc1 := 58) at_467_57 l0 i0 rfl ?_
          refine aw_iconst (v := 0) (pc1 := 59) at_467_58 (by decide) rfl ?_
          refine aw_iload_n (pc1 := 60) at_467_59 l1 rfl ?_
          obtain ⟨z11, hs5⟩ := am_ift hs4
          clear hs4
          refine aw_call (F := fm_443 N x0 0 x1 h9) (t := true) (na := 3) (kd := 1) (as := [x0, (.int 0), (.int x1)]) at_467_60 (am_k3v kb_443) mn_443 mk_443 rfl rfl (am_ok_v mi_443 (am_hl rfl (am_ccR i0 (am_ccI (am_ccI am_cats_0))) rfl) z11) (am_hc am_cats_0 rfl) (fun _ => ⟨rfl, hh_467⟩) (fun o1 hz9 => rm_443 x0 0 x1 h9 o1 i0 hz9) ?_
          rcases am_cV_s hs5 with ⟨h13, f14, hs6⟩ | hs6
          · clear hs5
            refine Or.inl ⟨_, _, f14, ?_⟩
            show am_W X _ 467 63 _ [] h13 _
            refine aw_vload_n (pc1 := 64) at_467_63 l0 i0 rfl ?_
            refine aw_iload_n (pc1 := 65) at_467_64 l2 rfl ?_
            refine aw_iload_n (pc1 := 66) at_467_65 l3 rfl ?_
            obtain ⟨z15, hs7⟩ := am_ift hs6
            clear hs6
            refine aw_call (F := fm_335 x0 x2 x3 h13) (t := true) (na := 3) (kd := 1) (as := [x0, (.int x2), (.int x3)]) at_467_66 (am_k3v kb_335) mn_335 mk_335 rfl rfl (am_ok_v mi_335 (am_hl rfl (am_ccR i0 (am_ccI (am_ccI am_cats_0))) rfl) z15) (am_hc am_cats_0 rfl) (fun _ => ⟨rfl, hh_467⟩) (fun o1 hz9 => rm_335 x0 x2 x3 h13 o1 i0 hz9) ?_
            rcases am_cV_s hs7 with ⟨h17, f18, hs8⟩ | hs8
            · clear hs7
              refine Or.inl ⟨_, _, f18, ?_⟩
              show am_W X _ 467 69 _ [] h17 _
              refine aw_vload_n (pc1 := 70) at_467_69 l0 i0 rfl ?_
              refine aw_iload_n (pc1 := 71) at_467_70 l1 rfl ?_
              refine aw_vload_n (pc1 := 72) at_467_71 l0 i0 rfl ?_
              obtain ⟨v19, e20, hs9⟩ := am_bind hs8
              clear hs8
              refine aw_pG (pc1 := 75) at_467_72 (am_vI_s e20) rfl ?_
              obtain ⟨z21, hs10⟩ := am_ift hs9
              clear hs9
              refine aw_call (F := fm_443 N x0 x1 v19 h17) (t := true) (na := 3) (kd := 1) (as := [x0, (.int x1), (.int v19)]) at_467_75 (am_k3v kb_443) mn_443 mk_443 rfl rfl (am_ok_v mi_443 (am_hl rfl (am_ccR i0 (am_ccI (am_ccI am_cats_0))) rfl) z21) (am_hc am_cats_0 rfl) (fun _ => ⟨rfl, hh_467⟩) (fun o1 hz9 => rm_443 x0 x1 v19 h17 o1 i0 hz9) ?_
              rcases am_cV_s hs10 with ⟨h23, f24, hs11⟩ | hs11
              · clear hs10
                refine Or.inl ⟨_, _, f24, ?_⟩
                show am_W X _ 467 78 _ [] h23 _
                refine aw_vload_n (pc1 := 79) at_467_78 l0 i0 rfl ?_
                refine aw_vload_n (pc1 := 80) at_467_79 l0 i0 rfl ?_
                obtain ⟨z25, hs12⟩ := am_ift hs11
                clear hs11
                refine aw_call (F := fm_444 N x0 h23) (t := true) (na := 1) (kd := 1) (as := [x0]) at_467_80 (am_k3v kb_444) mn_444 mk_444 rfl rfl (am_ok_v mi_444 (am_hl rfl (am_ccR i0 am_cats_0) rfl) z25) (am_hc (am_ccR i0 am_cats_0) rfl) (fun _ => ⟨rfl, hh_467⟩) (fun o1 hz9 => rm_444 x0 h23 o1 i0 hz9) ?_
                rcases am_cI_s hs12 with ⟨v26, h27, f28, hs13⟩ | hs13
                · clear hs12
                  refine Or.inl ⟨_, _, f28, ?_⟩
                  show am_W X _ 467 83 _ [(.int v26), x0] h27 _
                  obtain ⟨h29, e30, hs14⟩ := am_bind hs13
                  clear hs13
                  refine aw_pP (pc1 := 86) at_467_83 e30 rfl ?_
                  refine aw_iinc (v := (x3 + 1)) (c := 1) (lv1 := am_put1 _ 3 _) (pc1 := 89) at_467_86 l3 (by decide) rfl rfl rfl ?_
                  refine aw_goto at_467_89 ?_
                  exact ih x0 x1 x2 ((x3 + 1)) h29 o hs14 _ (am_lk1 l0 rfl rfl) (am_lk1 l1 rfl rfl) (am_lk1 l2 rfl rfl) am_lk0 i0
                · clear hs12
                  exact Or.inr hs13
              · clear hs10
                exact Or.inr hs11
            · clear hs7
              exact Or.inr hs8
          · clear hs5
            exact Or.inr hs6
        · clear hs3
          exact Or.inr hs4
def fg_467_19 (N : Nat) (rec_2 : Value → Int32 → am_H → Option am_O) : Nat → Value → Int32 → Int32 → am_H → Option am_O
  | 0 => fun _ _ _ _ => none
  | K + 1 => fun x0 x1 x2 h => ((am_vI (am_pG 3091 x0 h)).bind fun v1 => (if v1 ≤ x2 then (fg_467_98 N rec_2 x0 x1 h) else ((am_vI (am_pG 3167 x0 h)).bind fun v4 => (if ¬ v4 = 0 then (fg_467_98 N rec_2 x0 x1 h) else (fg_467_38 N rec_2 (fg_467_19 N rec_2 K) N x0 x1 x2 ((x2 + 1)) h)))))
theorem rg_467_19 {X : am_X} {d : Nat} {N : Nat} {rec_2 : Value → Int32 → am_H → Option am_O} (q_2 : ∀ (x0 : Value) (x1 : Int32) (h : am_H) (o : am_O), rec_2 x0 x1 h = some o → ∀ lv : am_LV, (lv.lookup 0 = some x0) → (lv.lookup 1 = some (.int x1)) → (am_isR x0 = true) → am_W X (d + 4) 467 2 lv [] h (fun q => q = o)) : ∀ (K : Nat) (x0 : Value) (x1 : Int32) (x2 : Int32) (h : am_H) (o : am_O), fg_467_19 N rec_2 K x0 x1 x2 h = some o → ∀ lv : am_LV, (lv.lookup 0 = some x0) → (lv.lookup 1 = some (.int x1)) → (lv.lookup 2 = some (.int x2)) → (am_isR x0 = true) → am_W X (d + 4) 467 19 lv [] h (fun q => q = o) := by
  intro K
  induction K with
  | zero => intro x0 x1 x2 h o hs; cases hs
  | succ K ih =>
    intro x0 x1 x2 h o hs lv l0 l1 l2 i0
    unfold fg_467_19 at hs
    refine aw_iload_n (pc1 := 20) at_467_19 l2 rfl ?_
    refine aw_vload_n (pc1 := 21) at_467_20 l0 i0 rfl ?_
    obtain ⟨v1, e2, hs1⟩ := am_bind hs
    clear hs
    refine aw_pG (pc1 := 24) at_467_21 (am_vI_s e2) rfl ?_
    by_cases c3 : v1 ≤ x2
    · rw [if_pos c3] at hs1
      refine aw_icge_t at_467_24 c3 ?_
      exact rg_467_98 q_2 x0 x1 h o l0 l1 i0 hs1
    · rw [if_neg c3] at hs1
      refine aw_icge_f (pc1 := 27) at_467_24 c3 rfl ?_
      refine aw_vload_n (pc1 := 28) at_467_27 l0 i0 rfl ?_
      obtain ⟨v4, e5, hs2⟩ := am_bind hs1
      clear hs1
      refine aw_pG (pc1 := 31) at_467_28 (am_vI_s e5) rfl ?_
      by_cases c6 : ¬ v4 = 0
      · rw [if_pos c6] at hs2
        refine aw_ifne_t at_467_31 c6 ?_
        exact rg_467_98 q_2 x0 x1 h o l0 l1 i0 hs2
      · rw [if_neg c6] at hs2
        refine aw_ifne_f (pc1 := 34) at_467_31 c6 rfl ?_
        refine aw_iload_n (pc1 := 35) at_467_34 l2 rfl ?_
        refine aw_iconst (v := 1) (pc1 := 36) at_467_35 (by decide) rfl ?_
        refine aw_iadd (v := (x2 + 1)) (pc1 := 37) at_467_36 rfl rfl ?_
        refine aw_istore_n (lv1 := am_put1 _ 3 _) (pc1 := 38) at_467_37 rfl rfl ?_
        exact rg_467_38 q_2 (fun z0 z1 z2 h o hs2 => ih z0 z1 z2 h o hs2) N x0 x1 x2 ((x2 + 1)) h o hs2 _ (am_lk1 l0 rfl rfl) (am_lk1 l1 rfl rfl) (am_lk1 l2 rfl rfl) am_lk0 i0
def fg_467_2 (N : Nat) : Nat → Value → Int32 → am_H → Option am_O
  | 0 => fun _ _ _ => none
  | K + 1 => fun x0 x1 h => ((am_vI (am_pG 3090 x0 h)).bind fun v1 => (if v1 < x1 then (fg_467_104 N h) else ((am_vI (am_pG 3167 x0 h)).bind fun v4 => (if ¬ v4 = 0 then (fg_467_104 N h) else (fg_467_19 N (fg_467_2 N K) N x0 x1 0 h)))))
theorem rg_467_2 {X : am_X} {d : Nat} {N : Nat} : ∀ (K : Nat) (x0 : Value) (x1 : Int32) (h : am_H) (o : am_O), fg_467_2 N K x0 x1 h = some o → ∀ lv : am_LV, (lv.lookup 0 = some x0) → (lv.lookup 1 = some (.int x1)) → (am_isR x0 = true) → am_W X (d + 4) 467 2 lv [] h (fun q => q = o) := by
  intro K
  induction K with
  | zero => intro x0 x1 h o hs; cases hs
  | succ K ih =>
    intro x0 x1 h o hs lv l0 l1 i0
    unfold fg_467_2 at hs
    refine aw_iload_n (pc1 := 3) at_467_2 l1 rfl ?_
    refine aw_vload_n (pc1 := 4) at_467_3 l0 i0 rfl ?_
    obtain ⟨v1, e2, hs1⟩ := am_bind hs
    clear hs
    refine aw_pG (pc1 := 7) at_467_4 (am_vI_s e2) rfl ?_
    by_cases c3 : v1 < x1
    · rw [if_pos c3] at hs1
      refine aw_icgt_t at_467_7 c3 ?_
      exact rg_467_104 h o   hs1
    · rw [if_neg c3] at hs1
      refine aw_icgt_f (pc1 := 10) at_467_7 c3 rfl ?_
      refine aw_vload_n (pc1 := 11) at_467_10 l0 i0 rfl ?_
      obtain ⟨v4, e5, hs2⟩ := am_bind hs1
      clear hs1
      refine aw_pG (pc1 := 14) at_467_11 (am_vI_s e5) rfl ?_
      by_cases c6 : ¬ v4 = 0
      · rw [if_pos c6] at hs2
        refine aw_ifne_t at_467_14 c6 ?_
        exact rg_467_104 h o   hs2
      · rw [if_neg c6] at hs2
        refine aw_ifne_f (pc1 := 17) at_467_14 c6 rfl ?_
        refine aw_iconst (v := 0) (pc1 := 18) at_467_17 (by decide) rfl ?_
        refine aw_istore_n (lv1 := am_put1 _ 2 _) (pc1 := 19) at_467_18 rfl rfl ?_
        exact rg_467_19 (fun z0 z1 h o hs2 => ih z0 z1 h o hs2) N x0 x1 0 h o hs2 _ (am_lk1 l0 rfl rfl) (am_lk1 l1 rfl rfl) am_lk0 i0
def fg_467_0 (N : Nat) (x0 : Value) (h : am_H) : Option am_O := (fg_467_2 N N x0 0 h)
theorem rg_467_0 {X : am_X} {d : Nat} {N : Nat} {lv : am_LV} (x0 : Value) (h : am_H) (o : am_O) (l0 : lv.lookup 0 = some x0) (i0 : am_isR x0 = true) (hs : fg_467_0 N x0 h = some o) : am_W X (d + 4) 467 0 lv [] h (fun q => q = o) := by
  unfold fg_467_0 at hs
  refine aw_iconst (v := 0) (pc1 := 1) at_467_0 (by decide) rfl ?_
  refine aw_istore_n (lv1 := am_put1 _ 1 _) (pc1 := 2) at_467_1 rfl rfl ?_
  exact rg_467_2 N x0 0 h o hs _ (am_lk1 l0 rfl (by rw [am_isRc i0]; rfl)) am_lk0 i0
def fm_467 (N : Nat) (y0 : Value) (h : am_H) : Option am_O := fg_467_0 N y0 h
theorem rm_467 {X : am_X} {d : Nat} {N : Nat} (y0 : Value) (h : am_H) (o : am_O) (i0 : am_isR y0 = true) (hs : fm_467 N y0 h = some o) : am_W X (d + 4) 467 0 (am_args 0 [y0]) [] h (fun q => q = o) := by
  rw [am_args_R i0]
  exact rg_467_0 y0 h o rfl i0 hs
def fg_468_130 (N : Nat) (h : am_H) : Option am_O := some (.inl (none, h))
theorem rg_468_130 {X : am_X} {d : Nat} {N : Nat} {lv : am_LV} (h : am_H) (o : am_O) (hs : fg_468_130 N h = some o) : am_W X (d + 4) 468 130 lv [] h (fun q => q = o) := by
  unfold fg_468_130 at hs
  cases hs
  exact aw_vret at_468_130 rt_468 rfl
def fg_468_124 (N : Nat) (rec_2 : Value → Int32 → am_H → Option am_O) (x0 : Value) (x1 : Int32) (h : am_H) : Option am_O := (rec_2 x0 ((x1 + 1)) h)
theorem rg_468_124 {X : am_X} {d : Nat} {N : Nat} {rec_2 : Value → Int32 → am_H → Option am_O} (q_2 : ∀ (x0 : Value) (x1 : Int32) (h : am_H) (o : am_O), rec_2 x0 x1 h = some o → ∀ lv : am_LV, (lv.lookup 0 = some x0) → (lv.lookup 1 = some (.int x1)) → (am_isR x0 = true) → am_W X (d + 4) 468 2 lv [] h (fun q => q = o)) {lv : am_LV} (x0 : Value) (x1 : Int32) (h : am_H) (o : am_O) (l0 : lv.lookup 0 = some x0) (l1 : lv.lookup 1 = some (.int x1)) (i0 : am_isR x0 = true) (hs : fg_468_124 N rec_2 x0 x1 h = some o) : am_W X (d + 4) 468 124 lv [] h (fun q => q = o) := by
  unfold fg_468_124 at hs
  refine aw_iinc (v := (x1 + 1)) (c := 1) (lv1 := am_put1 _ 1 _) (pc1 := 127) at_468_124 l1 (by decide) rfl rfl rfl ?_
  refine aw_goto at_468_127 ?_
  exact q_2 x0 ((x1 + 1)) h o hs _ (am_lk1 l0 rfl (by rw [am_isRc i0]; rfl)) am_lk0 i0
def fg_468_56 (N : Nat) (rec_2 : Value → Int32 → am_H → Option am_O) (x0 : Value) (x1 : Int32) (h : am_H) : Option am_O := (if am_pOk 12 x0 h then am_cV true (fm_442 N x0 h) (fun h3 => ((am_vR (am_pG 3088 x0 h3)).bind fun v5 => ((am_vR (am_pG 3093 x0 h3)).bind fun v7 => ((am_pA 0 v7 (x1 + 1) h3).bind fun v9 => ((am_pS 0 v5 x1 v9 h3).bind fun h11 => ((am_vR (am_pG 3089 x0 h11)).bind fun v13 => ((am_vR (am_pG 3094 x0 h11)).bind fun v15 => ((am_pA 0 v15 (x1 + 1) h11).bind fun v17 => ((am_pS 0 v13 x1 v17 h11).bind fun h19 => ((am_vR (am_pG 3088 x0 h19)).bind fun v21 => ((am_vR (am_pG 3093 x0 h19)).bind fun v23 => ((am_pA 0 v23 x1 h19).bind fun v25 => ((am_pS 0 v21 (x1 + 1) v25 h19).bind fun h27 => ((am_vR (am_pG 3089 x0 h27)).bind fun v29 => ((am_vR (am_pG 3094 x0 h27)).bind fun v31 => ((am_pA 0 v31 x1 h27).bind fun v33 => ((am_pS 0 v29 (x1 + 1) v33 h27).bind fun h35 => (if am_pOk 12 x0 h35 then am_cI true (fm_444 N x0 h35) (fun v38 h39 => ((am_pP 3167 x0 (.int v38) h39).bind fun h41 => (fg_468_124 N rec_2 x0 x1 h41))) else none)))))))))))))))))) else none)
theorem rg_468_56 {X : am_X} {d : Nat} {N : Nat} {rec_2 : Value → Int32 → am_H → Option am_O} (q_2 : ∀ (x0 : Value) (x1 : Int32) (h : am_H) (o : am_O), rec_2 x0 x1 h = some o → ∀ lv : am_LV, (lv.lookup 0 = some x0) → (lv.lookup 1 = some (.int x1)) → (am_isR x0 = true) → am_W X (d + 4) 468 2 lv [] h (fun q => q = o)) {lv : am_LV} (x0 : Value) (x1 : Int32) (h : am_H) (o : am_O) (l0 : lv.lookup 0 = some x0) (l1 : lv.lookup 1 = some (.int x1)) (i0 : am_isR x0 = true) (hs : fg_468_56 N rec_2 x0 x1 h = some o) : am_W X (d + 4) 468 56 lv [] h (fun q => q = o) := by
  unfold fg_468_56 at hs
  refine aw_vload_n (pc1 := 57) at_468_56 l0 i0 rfl ?_
  obtain ⟨z1, hs1⟩ := am_ift hs
  clear hs
  refine aw_call (F := fm_442 N x0 h) (t := true) (na := 1) (kd := 1) (as := [x0]) at_468_57 (am_k3v kb_442) mn_442 mk_442 rfl rfl (am_ok_v mi_442 (am_hl rfl (am_ccR i0 am_cats_0) rfl) z1) (am_hc am_cats_0 rfl) (fun _ => ⟨rfl, hh_468⟩) (fun o1 hz9 => rm_442 x0 h o1 i0 hz9) ?_
  rcases am_cV_s hs1 with ⟨h3, f4, hs2⟩ | hs2
  · clear hs1
    refine Or.inl ⟨_, _, f4, ?_⟩
    show am_W X _ 468 60 _ [] h3 _
    refine aw_vload_n (pc1 := 61) at_468_60 l0 i0 rfl ?_
    obtain ⟨v5, e6, hs3⟩ := am_bind hs2
    clear hs2
    refine aw_pG (pc1 := 64) at_468_61 (am_vR_s e6).1 rfl ?_
    refine aw_iload_n (pc1 := 65) at_468_64 l1 rfl ?_
    refine aw_vload_n (pc1 := 66) at_468_65 l0 i0 rfl ?_
    obtain ⟨v7, e8, hs4⟩ := am_bind hs3
    clear hs3
    refine aw_pG (pc1 := 69) at_468_66 (am_vR_s e8).1 rfl ?_
    refine aw_iload_n (pc1 := 70) at_468_69 l1 rfl ?_
    refine aw_iconst (v := 1) (pc1 := 71) at_468_70 (by decide) rfl ?_
    refine aw_iadd (v := (x1 + 1)) (pc1 := 72) at_468_71 rfl rfl ?_
    obtain ⟨v9, e10, hs5⟩ := am_bind hs4
    clear hs4
    refine aw_pA (pc1 := 73) at_468_72 (Or.inl ⟨rfl, rfl⟩) e10 rfl ?_
    obtain ⟨h11, e12, hs6⟩ := am_bind hs5
    clear hs5
    refine aw_pS (pc1 := 74) at_468_73 (Or.inl ⟨rfl, rfl⟩) e12 rfl ?_
    refine aw_vload_n (pc1 := 75) at_468_74 l0 i0 rfl ?_
    obtain ⟨v13, e14, hs7⟩ := am_bind hs6
    clear hs6
    refine aw_pG (pc1 := 78) at_468_75 (am_vR_s e14).1 rfl ?_
    refine aw_iload_n (pc1 := 79) at_468_78 l1 rfl ?_
    refine aw_vload_n (pc1 := 80) at_468_79 l0 i0 rfl ?_
    obtain ⟨v15, e16, hs8⟩ := am_bind hs7
    clear hs7
    refine aw_pG (pc1 := 83) at_468_80 (am_vR_s e16).1 rfl ?_
    refine aw_iload_n (pc1 := 84) at_468_83 l1 rfl ?_
    refine aw_iconst (v := 1) (pc1 := 85) at_468_84 (by decide) rfl ?_
    refine aw_iadd (v := (x1 + 1)) (pc1 := 86) at_468_85 rfl rfl ?_
    obtain ⟨v17, e18, hs9⟩ := am_bind hs8
    clear hs8
    refine aw_pA (pc1 := 87) at_468_86 (Or.inl ⟨rfl, rfl⟩) e18 rfl ?_
    obtain ⟨h19, e20, hs10⟩ := am_bind hs9
    clear hs9
    refine aw_pS (pc1 := 88) at_468_87 (Or.inl ⟨rfl, rfl⟩) e20 rfl ?_
    refine aw_vload_n (pc1 := 89) at_468_88 l0 i0 rfl ?_
    obtain ⟨v21, e22, hs11⟩ := am_bind hs10
    clear hs10
    refine aw_pG (pc1 := 92) at_468_89 (am_vR_s e22).1 rfl ?_
    refine aw_iload_n (pc1 := 93) at_468_92 l1 rfl ?_
    refine aw_iconst (v := 1) (pc1 := 94) at_468_93 (by decide) rfl ?_
    refine aw_iadd (v := (x1 + 1)) (pc1 := 95) at_468_94 rfl rfl ?_
    refine aw_vload_n (pc1 := 96) at_468_95 l0 i0 rfl ?_
    obtain ⟨v23, e24, hs12⟩ := am_bind hs11
    clear hs11
    refine aw_pG (pc1 := 99) at_468_96 (am_vR_s e24).1 rfl ?_
    refine aw_iload_n (pc1 := 100) at_468_99 l1 rfl ?_
    obtain ⟨v25, e26, hs13⟩ := am_bind hs12
    clear hs12
    refine aw_pA (pc1 := 101) at_468_100 (Or.inl ⟨rfl, rfl⟩) e26 rfl ?_
    obtain ⟨h27, e28, hs14⟩ := am_bind hs13
    clear hs13
    refine aw_pS (pc1 := 102) at_468_101 (Or.inl ⟨rfl, rfl⟩) e28 rfl ?_
    refine aw_vload_n (pc1 := 103) at_468_102 l0 i0 rfl ?_
    obtain ⟨v29, e30, hs15⟩ := am_bind hs14
    clear hs14
    refine aw_pG (pc1 := 106) at_468_103 (am_vR_s e30).1 rfl ?_
    refine aw_iload_n (pc1 := 107) at_468_106 l1 rfl ?_
    refine aw_iconst (v := 1) (pc1 := 108) at_468_107 (by decide) rfl ?_
    refine aw_iadd (v := (x1 + 1)) (pc1 := 109) at_468_108 rfl rfl ?_
    refine aw_vload_n (pc1 := 110) at_468_109 l0 i0 rfl ?_
    obtain ⟨v31, e32, hs16⟩ := am_bind hs15
    clear hs15
    refine aw_pG (pc1 := 113) at_468_110 (am_vR_s e32).1 rfl ?_
    refine aw_iload_n (pc1 := 114) at_468_113 l1 rfl ?_
    obtain ⟨v33, e34, hs17⟩ := am_bind hs16
    clear hs16
    refine aw_pA (pc1 := 115) at_468_114 (Or.inl ⟨rfl, rfl⟩) e34 rfl ?_
    obtain ⟨h35, e36, hs18⟩ := am_bind hs17
    clear hs17
    refine aw_pS (pc1 := 116) at_468_115 (Or.inl ⟨rfl, rfl⟩) e36 rfl ?_
    refine aw_vload_n (pc1 := 117) at_468_116 l0 i0 rfl ?_
    refine aw_vload_n (pc1 := 118) at_468_117 l0 i0 rfl ?_
    obtain ⟨z37, hs19⟩ := am_ift hs18
    clear hs18
    refine aw_call (F := fm_444 N x0 h35) (t := true) (na := 1) (kd := 1) (as := [x0]) at_468_118 (am_k3v kb_444) mn_444 mk_444 rfl rfl (am_ok_v mi_444 (am_hl rfl (am_ccR i0 am_cats_0) rfl) z37) (am_hc (am_ccR i0 am_cats_0) rfl) (fun _ => ⟨rfl, hh_468⟩) (fun o1 hz9 => rm_444 x0 h35 o1 i0 hz9) ?_
    rcases am_cI_s hs19 with ⟨v38, h39, f40, hs20⟩ | hs20
    · clear hs19
      refine Or.inl ⟨_, _, f40, ?_⟩
      show am_W X _ 468 121 _ [(.int v38), x0] h39 _
      obtain ⟨h41, e42, hs21⟩ := am_bind hs20
      clear hs20
      refine aw_pP (pc1 := 124) at_468_121 e42 rfl ?_
      exact rg_468_124 q_2 x0 x1 h41 o l0 l1 i0 hs21
    · clear hs19
      exact Or.inr hs20
  · clear hs1
    exact Or.inr hs2
def fg_468_2 (N : Nat) : Nat → Value → Int32 → am_H → Option am_O
  | 0 => fun _ _ _ => none
  | K + 1 => fun x0 x1 h => ((am_vI (am_pG 3090 x0 h)).bind fun v1 => (if v1 ≤ (x1 + 1) then (fg_468_130 N h) else ((am_vI (am_pG 3167 x0 h)).bind fun v4 => (if ¬ v4 = 0 then (fg_468_130 N h) else ((am_vR (am_pG 3093 x0 h)).bind fun v7 => ((am_pA 0 v7 x1 h).bind fun v9 => ((am_vR (am_pG 3093 x0 h)).bind fun v11 => ((am_pA 0 v11 (x1 + 1) h).bind fun v13 => (if ¬ v9 = v13 then (fg_468_56 N (fg_468_2 N K) x0 x1 h) else ((am_vR (am_pG 3094 x0 h)).bind fun v16 => ((am_pA 0 v16 x1 h).bind fun v18 => ((am_vR (am_pG 3094 x0 h)).bind fun v20 => ((am_pA 0 v20 (x1 + 1) h).bind fun v22 => (if ¬ v18 = v22 then (fg_468_56 N (fg_468_2 N K) x0 x1 h) else (fg_468_124 N (fg_468_2 N K) x0 x1 h)))))))))))))))
theorem rg_468_2 {X : am_X} {d : Nat} {N : Nat} : ∀ (K : Nat) (x0 : Value) (x1 : Int32) (h : am_H) (o : am_O), fg_468_2 N K x0 x1 h = some o → ∀ lv : am_LV, (lv.lookup 0 = some x0) → (lv.lookup 1 = some (.int x1)) → (am_isR x0 = true) → am_W X (d + 4) 468 2 lv [] h (fun q => q = o) := by
  intro K
  induction K with
  | zero => intro x0 x1 h o hs; cases hs
  | succ K ih =>
    intro x0 x1 h o hs lv l0 l1 i0
    unfold fg_468_2 at hs
    refine aw_iload_n (pc1 := 3) at_468_2 l1 rfl ?_
    refine aw_iconst (v := 1) (pc1 := 4) at_468_3 (by decide) rfl ?_
    refine aw_iadd (v := (x1 + 1)) (pc1 := 5) at_468_4 rfl rfl ?_
    refine aw_vload_n (pc1 := 6) at_468_5 l0 i0 rfl ?_
    obtain ⟨v1, e2, hs1⟩ := am_bind hs
    clear hs
    refine aw_pG (pc1 := 9) at_468_6 (am_vI_s e2) rfl ?_
    by_cases c3 : v1 ≤ (x1 + 1)
    · rw [if_pos c3] at hs1
      refine aw_icge_t at_468_9 c3 ?_
      exact rg_468_130 h o   hs1
    · rw [if_neg c3] at hs1
      refine aw_icge_f (pc1 := 12) at_468_9 c3 rfl ?_
      refine aw_vload_n (pc1 := 13) at_468_12 l0 i0 rfl ?_
      obtain ⟨v4, e5, hs2⟩ := am_bind hs1
      clear hs1
      refine aw_pG (pc1 := 16) at_468_13 (am_vI_s e5) rfl ?_
      by_cases c6 : ¬ v4 = 0
      · rw [if_pos c6] at hs2
        refine aw_ifne_t at_468_16 c6 ?_
        exact rg_468_130 h o   hs2
      · rw [if_neg c6] at hs2
        refine aw_ifne_f (pc1 := 19) at_468_16 c6 rfl ?_
        refine aw_vload_n (pc1 := 20) at_468_19 l0 i0 rfl ?_
        obtain ⟨v7, e8, hs3⟩ := am_bind hs2
        clear hs2
        refine aw_pG (pc1 := 23) at_468_20 (am_vR_s e8).1 rfl ?_
        refine aw_iload_n (pc1 := 24) at_468_23 l1 rfl ?_
        obtain ⟨v9, e10, hs4⟩ := am_bind hs3
        clear hs3
        refine aw_pA (pc1 := 25) at_468_24 (Or.inl ⟨rfl, rfl⟩) e10 rfl ?_
        refine aw_vload_n (pc1 := 26) at_468_25 l0 i0 rfl ?_
        obtain ⟨v11, e12, hs5⟩ := am_bind hs4
        clear hs4
        refine aw_pG (pc1 := 29) at_468_26 (am_vR_s e12).1 rfl ?_
        refine aw_iload_n (pc1 := 30) at_468_29 l1 rfl ?_
        refine aw_iconst (v := 1) (pc1 := 31) at_468_30 (by decide) rfl ?_
        refine aw_iadd (v := (x1 + 1)) (pc1 := 32) at_468_31 rfl rfl ?_
        obtain ⟨v13, e14, hs6⟩ := am_bind hs5
        clear hs5
        refine aw_pA (pc1 := 33) at_468_32 (Or.inl ⟨rfl, rfl⟩) e14 rfl ?_
        by_cases c15 : ¬ v9 = v13
        · rw [if_pos c15] at hs6
          refine aw_icne_t at_468_33 c15 ?_
          exact rg_468_56 (fun z0 z1 h o hs6 => ih z0 z1 h o hs6) x0 x1 h o l0 l1 i0 hs6
        · rw [if_neg c15] at hs6
          refine aw_icne_f (pc1 := 36) at_468_33 c15 rfl ?_
          refine aw_vload_n (pc1 := 37) at_468_36 l0 i0 rfl ?_
          obtain ⟨v16, e17, hs7⟩ := am_bind hs6
          clear hs6
          refine aw_pG (pc1 := 40) at_468_37 (am_vR_s e17).1 rfl ?_
          refine aw_iload_n (pc1 := 41) at_468_40 l1 rfl ?_
          obtain ⟨v18, e19, hs8⟩ := am_bind hs7
          clear hs7
          refine aw_pA (pc1 := 42) at_468_41 (Or.inl ⟨rfl, rfl⟩) e19 rfl ?_
          refine aw_vload_n (pc1 := 43) at_468_42 l0 i0 rfl ?_
          obtain ⟨v20, e21, hs9⟩ := am_bind hs8
          clear hs8
          refine aw_pG (pc1 := 46) at_468_43 (am_vR_s e21).1 rfl ?_
          refine aw_iload_n (pc1 := 47) at_468_46 l1 rfl ?_
          refine aw_iconst (v := 1) (pc1 := 48) at_468_47 (by decide) rfl ?_
          refine aw_iadd (v := (x1 + 1)) (pc1 := 49) at_468_48 rfl rfl ?_
          obtain ⟨v22, e23, hs10⟩ := am_bind hs9
          clear hs9
          refine aw_pA (pc1 := 50) at_468_49 (Or.inl ⟨rfl, rfl⟩) e23 rfl ?_
          by_cases c24 : ¬ v18 = v22
          · rw [if_pos c24] at hs10
            refine aw_icne_t at_468_50 c24 ?_
            exact rg_468_56 (fun z0 z1 h o hs10 => ih z0 z1 h o hs10) x0 x1 h o l0 l1 i0 hs10
          · rw [if_neg c24] at hs10
            refine aw_icne_f (pc1 := 53) at_468_50 c24 rfl ?_
            refine aw_goto at_468_53 ?_
            exact rg_468_124 (fun z0 z1 h o hs10 => ih z0 z1 h o hs10) x0 x1 h o l0 l1 i0 hs10
def fg_468_0 (N : Nat) (x0 : Value) (h : am_H) : Option am_O := (fg_468_2 N N x0 0 h)
theorem rg_468_0 {X : am_X} {d : Nat} {N : Nat} {lv : am_LV} (x0 : Value) (h : am_H) (o : am_O) (l0 : lv.lookup 0 = some x0) (i0 : am_isR x0 = true) (hs : fg_468_0 N x0 h = some o) : am_W X (d + 4) 468 0 lv [] h (fun q => q = o) := by
  unfold fg_468_0 at hs
  refine aw_iconst (v := 0) (pc1 := 1) at_468_0 (by decide) rfl ?_
  refine aw_istore_n (lv1 := am_put1 _ 1 _) (pc1 := 2) at_468_1 rfl rfl ?_
  exact rg_468_2 N x0 0 h o hs _ (am_lk1 l0 rfl (by rw [am_isRc i0]; rfl)) am_lk0 i0
def fm_468 (N : Nat) (y0 : Value) (h : am_H) : Option am_O := fg_468_0 N y0 h
theorem rm_468 {X : am_X} {d : Nat} {N : Nat} (y0 : Value) (h : am_H) (o : am_O) (i0 : am_isR y0 = true) (hs : fm_468 N y0 h = some o) : am_W X (d + 4) 468 0 (am_args 0 [y0]) [] h (fun q => q = o) := by
  rw [am_args_R i0]
  exact rg_468_0 y0 h o rfl i0 hs
def fg_439_274 (N : Nat) (x0 : Value) (h : am_H) : Option am_O := ((am_vI (am_pG 3166 x0 h)).bind fun v1 => some (.inl (some (.int v1), h)))
theorem rg_439_274 {X : am_X} {d : Nat} {N : Nat} {lv : am_LV} (x0 : Value) (h : am_H) (o : am_O) (l0 : lv.lookup 0 = some x0) (i0 : am_isR x0 = true) (hs : fg_439_274 N x0 h = some o) : am_W X (d + 6) 439 274 lv [] h (fun q => q = o) := by
  unfold fg_439_274 at hs
  refine aw_vload_n (pc1 := 275) at_439_274 l0 i0 rfl ?_
  obtain ⟨v1, e2, hs1⟩ := am_bind hs
  clear hs
  refine aw_pG (pc1 := 278) at_439_275 (am_vI_s e2) rfl ?_
  cases hs1
  exact aw_iret at_439_278 (by rw [rt_439]; rfl) rfl
def fg_439_270 (N : Nat) (x0 : Value) (h : am_H) : Option am_O := (if am_pOk 12 x0 h then am_cV true (fm_468 N x0 h) (fun h3 => (fg_439_274 N x0 h3)) else none)
theorem rg_439_270 {X : am_X} {d : Nat} {N : Nat} {lv : am_LV} (x0 : Value) (h : am_H) (o : am_O) (l0 : lv.lookup 0 = some x0) (i0 : am_isR x0 = true) (hs : fg_439_270 N x0 h = some o) : am_W X (d + 6) 439 270 lv [] h (fun q => q = o) := by
  unfold fg_439_270 at hs
  refine aw_vload_n (pc1 := 271) at_439_270 l0 i0 rfl ?_
  obtain ⟨z1, hs1⟩ := am_ift hs
  clear hs
  refine aw_call (F := fm_468 N x0 h) (t := true) (na := 1) (kd := 1) (as := [x0]) at_439_271 (am_k3v kb_468) mn_468 mk_468 rfl rfl (am_ok_v mi_468 (am_hl rfl (am_ccR i0 am_cats_0) rfl) z1) (am_hc am_cats_0 rfl) (fun _ => ⟨rfl, hh_439⟩) (fun o1 hz9 => rm_468 x0 h o1 i0 hz9) ?_
  rcases am_cV_s hs1 with ⟨h3, f4, hs2⟩ | hs2
  · clear hs1
    refine Or.inl ⟨_, _, f4, ?_⟩
    show am_W X _ 439 274 _ [] h3 _
    exact rg_439_274 x0 h3 o l0 i0 hs2
  · clear hs1
    exact Or.inr hs2
def fg_439_172 (N : Nat) (x0 : Value) (h : am_H) : Option am_O := (if am_pOk 12 x0 h then am_cV true (fm_440 N x0 h) (fun h3 => (fg_439_274 N x0 h3)) else none)
theorem rg_439_172 {X : am_X} {d : Nat} {N : Nat} {lv : am_LV} (x0 : Value) (h : am_H) (o : am_O) (l0 : lv.lookup 0 = some x0) (i0 : am_isR x0 = true) (hs : fg_439_172 N x0 h = some o) : am_W X (d + 6) 439 172 lv [] h (fun q => q = o) := by
  unfold fg_439_172 at hs
  refine aw_vload_n (pc1 := 173) at_439_172 l0 i0 rfl ?_
  obtain ⟨z1, hs1⟩ := am_ift hs
  clear hs
  refine aw_call (F := fm_440 N x0 h) (t := true) (na := 1) (kd := 1) (as := [x0]) at_439_173 (am_k3v kb_440) mn_440 mk_440 rfl rfl (am_ok_v mi_440 (am_hl rfl (am_ccR i0 am_cats_0) rfl) z1) (am_hc am_cats_0 rfl) (fun _ => ⟨rfl, hh_439⟩) (fun o1 hz9 => rm_440 x0 h o1 i0 hz9) ?_
  rcases am_cV_s hs1 with ⟨h3, f4, hs2⟩ | hs2
  · clear hs1
    refine Or.inl ⟨_, _, f4, ?_⟩
    show am_W X _ 439 176 _ [] h3 _
    refine aw_goto at_439_176 ?_
    exact rg_439_274 x0 h3 o l0 i0 hs2
  · clear hs1
    exact Or.inr hs2
def fg_439_0 (N : Nat) (x0 : Value) (x1 : Int32) (x2 : Int32) (h : am_H) : Option am_O := ((am_pP 3165 x0 (.int x2) h).bind fun h1 => ((am_pP 3166 x0 (.int 0) h1).bind fun h3 => ((am_pP 3167 x0 (.int 0) h3).bind fun h5 => ((am_vI (am_pG 3092 x0 h5)).bind fun v7 => (if ((10 * v7) + x1) = 0 then (fg_439_172 N x0 h5) else (if ((10 * v7) + x1) = 1 then (if am_pOk 12 x0 h5 then am_cV true (fm_447 N x0 h5) (fun h13 => (fg_439_274 N x0 h13)) else none) else (if ((10 * v7) + x1) = 2 then (if am_pOk 12 x0 h5 then am_cV true (fm_449 N x0 h5) (fun h18 => (fg_439_274 N x0 h18)) else none) else (if ((10 * v7) + x1) = 3 then (if am_pOk 12 x0 h5 then am_cV true (fm_452 N x0 h5) (fun h23 => (fg_439_274 N x0 h23)) else none) else (if ((10 * v7) + x1) = 10 then (fg_439_172 N x0 h5) else (if ((10 * v7) + x1) = 11 then (if am_pOk 12 x0 h5 then am_cV true (fm_453 N x0 h5) (fun h29 => (fg_439_274 N x0 h29)) else none) else (if ((10 * v7) + x1) = 12 then (if am_pOk 12 x0 h5 then am_cV true (fm_455 N x0 h5) (fun h34 => (fg_439_274 N x0 h34)) else none) else (if ((10 * v7) + x1) = 13 then (if am_pOk 12 x0 h5 then am_cV true (fm_457 N x0 h5) (fun h39 => (fg_439_274 N x0 h39)) else none) else (if ((10 * v7) + x1) = 20 then (if am_pOk 12 x0 h5 then am_cV true (fm_460 N x0 h5) (fun h44 => (fg_439_274 N x0 h44)) else none) else (if ((10 * v7) + x1) = 21 then (if am_pOk 12 x0 h5 then am_cV true (fm_462 N x0 h5) (fun h49 => (fg_439_274 N x0 h49)) else none) else (if ((10 * v7) + x1) = 22 then (if am_pOk 12 x0 h5 then am_cV true (fm_463 N x0 h5) (fun h54 => (fg_439_274 N x0 h54)) else none) else (if ((10 * v7) + x1) = 23 then (if am_pOk 12 x0 h5 then am_cV true (fm_464 N x0 h5) (fun h59 => (fg_439_274 N x0 h59)) else none) else (if ((10 * v7) + x1) = 30 then (if am_pOk 12 x0 h5 then am_cV true (fm_465 N x0 h5) (fun h64 => (fg_439_274 N x0 h64)) else none) else (if ((10 * v7) + x1) = 31 then (if am_pOk 12 x0 h5 then am_cV true (fm_466 N x0 h5) (fun h69 => (fg_439_274 N x0 h69)) else none) else (if ((10 * v7) + x1) = 32 then (if am_pOk 12 x0 h5 then am_cV true (fm_467 N x0 h5) (fun h74 => (fg_439_274 N x0 h74)) else none) else (fg_439_270 N x0 h5))))))))))))))))))))
theorem rg_439_0 {X : am_X} {d : Nat} {N : Nat} {lv : am_LV} (x0 : Value) (x1 : Int32) (x2 : Int32) (h : am_H) (o : am_O) (l0 : lv.lookup 0 = some x0) (l1 : lv.lookup 1 = some (.int x1)) (l2 : lv.lookup 2 = some (.int x2)) (i0 : am_isR x0 = true) (hs : fg_439_0 N x0 x1 x2 h = some o) : am_W X (d + 6) 439 0 lv [] h (fun q => q = o) := by
  unfold fg_439_0 at hs
  refine aw_vload_n (pc1 := 1) at_439_0 l0 i0 rfl ?_
  refine aw_iload_n (pc1 := 2) at_439_1 l2 rfl ?_
  obtain ⟨h1, e2, hs1⟩ := am_bind hs
  clear hs
  refine aw_pP (pc1 := 5) at_439_2 e2 rfl ?_
  refine aw_vload_n (pc1 := 6) at_439_5 l0 i0 rfl ?_
  refine aw_iconst (v := 0) (pc1 := 7) at_439_6 (by decide) rfl ?_
  obtain ⟨h3, e4, hs2⟩ := am_bind hs1
  clear hs1
  refine aw_pP (pc1 := 10) at_439_7 e4 rfl ?_
  refine aw_vload_n (pc1 := 11) at_439_10 l0 i0 rfl ?_
  refine aw_iconst (v := 0) (pc1 := 12) at_439_11 (by decide) rfl ?_
  obtain ⟨h5, e6, hs3⟩ := am_bind hs2
  clear hs2
  refine aw_pP (pc1 := 15) at_439_12 e6 rfl ?_
  refine aw_bipush (v := 10) (pc1 := 17) at_439_15 (by decide) rfl ?_
  refine aw_vload_n (pc1 := 18) at_439_17 l0 i0 rfl ?_
  obtain ⟨v7, e8, hs4⟩ := am_bind hs3
  clear hs3
  refine aw_pG (pc1 := 21) at_439_18 (am_vI_s e8) rfl ?_
  refine aw_imul (v := (10 * v7)) (pc1 := 22) at_439_21 rfl rfl ?_
  refine aw_iload_n (pc1 := 23) at_439_22 l1 rfl ?_
  refine aw_iadd (v := ((10 * v7) + x1)) (pc1 := 24) at_439_23 rfl rfl ?_
  by_cases c9 : ((10 * v7) + x1) = 0
  · rw [if_pos c9] at hs4
    refine aw_tsw (t := 172) at_439_24 (by rw [c9]; rfl) ?_
    exact rg_439_172 x0 h5 o l0 i0 hs4
  · rw [if_neg c9] at hs4
    by_cases c10 : ((10 * v7) + x1) = 1
    · rw [if_pos c10] at hs4
      refine aw_tsw (t := 179) at_439_24 (by rw [c10]; rfl) ?_
      refine aw_vload_n (pc1 := 180) at_439_179 l0 i0 rfl ?_
      obtain ⟨z11, hs5⟩ := am_ift hs4
      clear hs4
      refine aw_call (F := fm_447 N x0 h5) (t := true) (na := 1) (kd := 1) (as := [x0]) at_439_180 (am_k3v kb_447) mn_447 mk_447 rfl rfl (am_ok_v mi_447 (am_hl rfl (am_ccR i0 am_cats_0) rfl) z11) (am_hc am_cats_0 rfl) (fun _ => ⟨rfl, hh_439⟩) (fun o1 hz9 => rm_447 x0 h5 o1 i0 hz9) ?_
      rcases am_cV_s hs5 with ⟨h13, f14, hs6⟩ | hs6
      · clear hs5
        refine Or.inl ⟨_, _, f14, ?_⟩
        show am_W X _ 439 183 _ [] h13 _
        refine aw_goto at_439_183 ?_
        exact rg_439_274 x0 h13 o l0 i0 hs6
      · clear hs5
        exact Or.inr hs6
    · rw [if_neg c10] at hs4
      by_cases c15 : ((10 * v7) + x1) = 2
      · rw [if_pos c15] at hs4
        refine aw_tsw (t := 186) at_439_24 (by rw [c15]; rfl) ?_
        refine aw_vload_n (pc1 := 187) at_439_186 l0 i0 rfl ?_
        obtain ⟨z16, hs7⟩ := am_ift hs4
        clear hs4
        refine aw_call (F := fm_449 N x0 h5) (t := true) (na := 1) (kd := 1) (as := [x0]) at_439_187 (am_k3v kb_449) mn_449 mk_449 rfl rfl (am_ok_v mi_449 (am_hl rfl (am_ccR i0 am_cats_0) rfl) z16) (am_hc am_cats_0 rfl) (fun _ => ⟨rfl, hh_439⟩) (fun o1 hz9 => rm_449 x0 h5 o1 i0 hz9) ?_
        rcases am_cV_s hs7 with ⟨h18, f19, hs8⟩ | hs8
        · clear hs7
          refine Or.inl ⟨_, _, f19, ?_⟩
          show am_W X _ 439 190 _ [] h18 _
          refine aw_goto at_439_190 ?_
          exact rg_439_274 x0 h18 o l0 i0 hs8
        · clear hs7
          exact Or.inr hs8
      · rw [if_neg c15] at hs4
        by_cases c20 : ((10 * v7) + x1) = 3
        · rw [if_pos c20] at hs4
          refine aw_tsw (t := 193) at_439_24 (by rw [c20]; rfl) ?_
          refine aw_vload_n (pc1 := 194) at_439_193 l0 i0 rfl ?_
          obtain ⟨z21, hs9⟩ := am_ift hs4
          clear hs4
          refine aw_call (F := fm_452 N x0 h5) (t := true) (na := 1) (kd := 1) (as := [x0]) at_439_194 (am_k3v kb_452) mn_452 mk_452 rfl rfl (am_ok_v mi_452 (am_hl rfl (am_ccR i0 am_cats_0) rfl) z21) (am_hc am_cats_0 rfl) (fun _ => ⟨rfl, hh_439⟩) (fun o1 hz9 => rm_452 x0 h5 o1 i0 hz9) ?_
          rcases am_cV_s hs9 with ⟨h23, f24, hs10⟩ | hs10
          · clear hs9
            refine Or.inl ⟨_, _, f24, ?_⟩
            show am_W X _ 439 197 _ [] h23 _
            refine aw_goto at_439_197 ?_
            exact rg_439_274 x0 h23 o l0 i0 hs10
          · clear hs9
            exact Or.inr hs10
        · rw [if_neg c20] at hs4
          by_cases c25 : ((10 * v7) + x1) = 10
          · rw [if_pos c25] at hs4
            refine aw_tsw (t := 172) at_439_24 (by rw [c25]; rfl) ?_
            exact rg_439_172 x0 h5 o l0 i0 hs4
          · rw [if_neg c25] at hs4
            by_cases c26 : ((10 * v7) + x1) = 11
            · rw [if_pos c26] at hs4
              refine aw_tsw (t := 200) at_439_24 (by rw [c26]; rfl) ?_
              refine aw_vload_n (pc1 := 201) at_439_200 l0 i0 rfl ?_
              obtain ⟨z27, hs11⟩ := am_ift hs4
              clear hs4
              refine aw_call (F := fm_453 N x0 h5) (t := true) (na := 1) (kd := 1) (as := [x0]) at_439_201 (am_k3v kb_453) mn_453 mk_453 rfl rfl (am_ok_v mi_453 (am_hl rfl (am_ccR i0 am_cats_0) rfl) z27) (am_hc am_cats_0 rfl) (fun _ => ⟨rfl, hh_439⟩) (fun o1 hz9 => rm_453 x0 h5 o1 i0 hz9) ?_
              rcases am_cV_s hs11 with ⟨h29, f30, hs12⟩ | hs12
              · clear hs11
                refine Or.inl ⟨_, _, f30, ?_⟩
                show am_W X _ 439 204 _ [] h29 _
                refine aw_goto at_439_204 ?_
                exact rg_439_274 x0 h29 o l0 i0 hs12
              · clear hs11
                exact Or.inr hs12
            · rw [if_neg c26] at hs4
              by_cases c31 : ((10 * v7) + x1) = 12
              · rw [if_pos c31] at hs4
                refine aw_tsw (t := 207) at_439_24 (by rw [c31]; rfl) ?_
                refine aw_vload_n (pc1 := 208) at_439_207 l0 i0 rfl ?_
                obtain ⟨z32, hs13⟩ := am_ift hs4
                clear hs4
                refine aw_call (F := fm_455 N x0 h5) (t := true) (na := 1) (kd := 1) (as := [x0]) at_439_208 (am_k3v kb_455) mn_455 mk_455 rfl rfl (am_ok_v mi_455 (am_hl rfl (am_ccR i0 am_cats_0) rfl) z32) (am_hc am_cats_0 rfl) (fun _ => ⟨rfl, hh_439⟩) (fun o1 hz9 => rm_455 x0 h5 o1 i0 hz9) ?_
                rcases am_cV_s hs13 with ⟨h34, f35, hs14⟩ | hs14
                · clear hs13
                  refine Or.inl ⟨_, _, f35, ?_⟩
                  show am_W X _ 439 211 _ [] h34 _
                  refine aw_goto at_439_211 ?_
                  exact rg_439_274 x0 h34 o l0 i0 hs14
                · clear hs13
                  exact Or.inr hs14
              · rw [if_neg c31] at hs4
                by_cases c36 : ((10 * v7) + x1) = 13
                · rw [if_pos c36] at hs4
                  refine aw_tsw (t := 214) at_439_24 (by rw [c36]; rfl) ?_
                  refine aw_vload_n (pc1 := 215) at_439_214 l0 i0 rfl ?_
                  obtain ⟨z37, hs15⟩ := am_ift hs4
                  clear hs4
                  refine aw_call (F := fm_457 N x0 h5) (t := true) (na := 1) (kd := 1) (as := [x0]) at_439_215 (am_k3v kb_457) mn_457 mk_457 rfl rfl (am_ok_v mi_457 (am_hl rfl (am_ccR i0 am_cats_0) rfl) z37) (am_hc am_cats_0 rfl) (fun _ => ⟨rfl, hh_439⟩) (fun o1 hz9 => rm_457 x0 h5 o1 i0 hz9) ?_
                  rcases am_cV_s hs15 with ⟨h39, f40, hs16⟩ | hs16
                  · clear hs15
                    refine Or.inl ⟨_, _, f40, ?_⟩
                    show am_W X _ 439 218 _ [] h39 _
                    refine aw_goto at_439_218 ?_
                    exact rg_439_274 x0 h39 o l0 i0 hs16
                  · clear hs15
                    exact Or.inr hs16
                · rw [if_neg c36] at hs4
                  by_cases c41 : ((10 * v7) + x1) = 20
                  · rw [if_pos c41] at hs4
                    refine aw_tsw (t := 221) at_439_24 (by rw [c41]; rfl) ?_
                    refine aw_vload_n (pc1 := 222) at_439_221 l0 i0 rfl ?_
                    obtain ⟨z42, hs17⟩ := am_ift hs4
                    clear hs4
                    refine aw_call (F := fm_460 N x0 h5) (t := true) (na := 1) (kd := 1) (as := [x0]) at_439_222 (am_k3v kb_460) mn_460 mk_460 rfl rfl (am_ok_v mi_460 (am_hl rfl (am_ccR i0 am_cats_0) rfl) z42) (am_hc am_cats_0 rfl) (fun _ => ⟨rfl, hh_439⟩) (fun o1 hz9 => rm_460 x0 h5 o1 i0 hz9) ?_
                    rcases am_cV_s hs17 with ⟨h44, f45, hs18⟩ | hs18
                    · clear hs17
                      refine Or.inl ⟨_, _, f45, ?_⟩
                      show am_W X _ 439 225 _ [] h44 _
                      refine aw_goto at_439_225 ?_
                      exact rg_439_274 x0 h44 o l0 i0 hs18
                    · clear hs17
                      exact Or.inr hs18
                  · rw [if_neg c41] at hs4
                    by_cases c46 : ((10 * v7) + x1) = 21
                    · rw [if_pos c46] at hs4
                      refine aw_tsw (t := 228) at_439_24 (by rw [c46]; rfl) ?_
                      refine aw_vload_n (pc1 := 229) at_439_228 l0 i0 rfl ?_
                      obtain ⟨z47, hs19⟩ := am_ift hs4
                      clear hs4
                      refine aw_call (F := fm_462 N x0 h5) (t := true) (na := 1) (kd := 1) (as := [x0]) at_439_229 (am_k3v kb_462) mn_462 mk_462 rfl rfl (am_ok_v mi_462 (am_hl rfl (am_ccR i0 am_cats_0) rfl) z47) (am_hc am_cats_0 rfl) (fun _ => ⟨rfl, hh_439⟩) (fun o1 hz9 => rm_462 x0 h5 o1 i0 hz9) ?_
                      rcases am_cV_s hs19 with ⟨h49, f50, hs20⟩ | hs20
                      · clear hs19
                        refine Or.inl ⟨_, _, f50, ?_⟩
                        show am_W X _ 439 232 _ [] h49 _
                        refine aw_goto at_439_232 ?_
                        exact rg_439_274 x0 h49 o l0 i0 hs20
                      · clear hs19
                        exact Or.inr hs20
                    · rw [if_neg c46] at hs4
                      by_cases c51 : ((10 * v7) + x1) = 22
                      · rw [if_pos c51] at hs4
                        refine aw_tsw (t := 235) at_439_24 (by rw [c51]; rfl) ?_
                        refine aw_vload_n (pc1 := 236) at_439_235 l0 i0 rfl ?_
                        obtain ⟨z52, hs21⟩ := am_ift hs4
                        clear hs4
                        refine aw_call (F := fm_463 N x0 h5) (t := true) (na := 1) (kd := 1) (as := [x0]) at_439_236 (am_k3v kb_463) mn_463 mk_463 rfl rfl (am_ok_v mi_463 (am_hl rfl (am_ccR i0 am_cats_0) rfl) z52) (am_hc am_cats_0 rfl) (fun _ => ⟨rfl, hh_439⟩) (fun o1 hz9 => rm_463 x0 h5 o1 i0 hz9) ?_
                        rcases am_cV_s hs21 with ⟨h54, f55, hs22⟩ | hs22
                        · clear hs21
                          refine Or.inl ⟨_, _, f55, ?_⟩
                          show am_W X _ 439 239 _ [] h54 _
                          refine aw_goto at_439_239 ?_
                          exact rg_439_274 x0 h54 o l0 i0 hs22
                        · clear hs21
                          exact Or.inr hs22
                      · rw [if_neg c51] at hs4
                        by_cases c56 : ((10 * v7) + x1) = 23
                        · rw [if_pos c56] at hs4
                          refine aw_tsw (t := 242) at_439_24 (by rw [c56]; rfl) ?_
                          refine aw_vload_n (pc1 := 243) at_439_242 l0 i0 rfl ?_
                          obtain ⟨z57, hs23⟩ := am_ift hs4
                          clear hs4
                          refine aw_call (F := fm_464 N x0 h5) (t := true) (na := 1) (kd := 1) (as := [x0]) at_439_243 (am_k3v kb_464) mn_464 mk_464 rfl rfl (am_ok_v mi_464 (am_hl rfl (am_ccR i0 am_cats_0) rfl) z57) (am_hc am_cats_0 rfl) (fun _ => ⟨rfl, hh_439⟩) (fun o1 hz9 => rm_464 x0 h5 o1 i0 hz9) ?_
                          rcases am_cV_s hs23 with ⟨h59, f60, hs24⟩ | hs24
                          · clear hs23
                            refine Or.inl ⟨_, _, f60, ?_⟩
                            show am_W X _ 439 246 _ [] h59 _
                            refine aw_goto at_439_246 ?_
                            exact rg_439_274 x0 h59 o l0 i0 hs24
                          · clear hs23
                            exact Or.inr hs24
                        · rw [if_neg c56] at hs4
                          by_cases c61 : ((10 * v7) + x1) = 30
                          · rw [if_pos c61] at hs4
                            refine aw_tsw (t := 249) at_439_24 (by rw [c61]; rfl) ?_
                            refine aw_vload_n (pc1 := 250) at_439_249 l0 i0 rfl ?_
                            obtain ⟨z62, hs25⟩ := am_ift hs4
                            clear hs4
                            refine aw_call (F := fm_465 N x0 h5) (t := true) (na := 1) (kd := 1) (as := [x0]) at_439_250 (am_k3v kb_465) mn_465 mk_465 rfl rfl (am_ok_v mi_465 (am_hl rfl (am_ccR i0 am_cats_0) rfl) z62) (am_hc am_cats_0 rfl) (fun _ => ⟨rfl, hh_439⟩) (fun o1 hz9 => rm_465 x0 h5 o1 i0 hz9) ?_
                            rcases am_cV_s hs25 with ⟨h64, f65, hs26⟩ | hs26
                            · clear hs25
                              refine Or.inl ⟨_, _, f65, ?_⟩
                              show am_W X _ 439 253 _ [] h64 _
                              refine aw_goto at_439_253 ?_
                              exact rg_439_274 x0 h64 o l0 i0 hs26
                            · clear hs25
                              exact Or.inr hs26
                          · rw [if_neg c61] at hs4
                            by_cases c66 : ((10 * v7) + x1) = 31
                            · rw [if_pos c66] at hs4
                              refine aw_tsw (t := 256) at_439_24 (by rw [c66]; rfl) ?_
                              refine aw_vload_n (pc1 := 257) at_439_256 l0 i0 rfl ?_
                              obtain ⟨z67, hs27⟩ := am_ift hs4
                              clear hs4
                              refine aw_call (F := fm_466 N x0 h5) (t := true) (na := 1) (kd := 1) (as := [x0]) at_439_257 (am_k3v kb_466) mn_466 mk_466 rfl rfl (am_ok_v mi_466 (am_hl rfl (am_ccR i0 am_cats_0) rfl) z67) (am_hc am_cats_0 rfl) (fun _ => ⟨rfl, hh_439⟩) (fun o1 hz9 => rm_466 x0 h5 o1 i0 hz9) ?_
                              rcases am_cV_s hs27 with ⟨h69, f70, hs28⟩ | hs28
                              · clear hs27
                                refine Or.inl ⟨_, _, f70, ?_⟩
                                show am_W X _ 439 260 _ [] h69 _
                                refine aw_goto at_439_260 ?_
                                exact rg_439_274 x0 h69 o l0 i0 hs28
                              · clear hs27
                                exact Or.inr hs28
                            · rw [if_neg c66] at hs4
                              by_cases c71 : ((10 * v7) + x1) = 32
                              · rw [if_pos c71] at hs4
                                refine aw_tsw (t := 263) at_439_24 (by rw [c71]; rfl) ?_
                                refine aw_vload_n (pc1 := 264) at_439_263 l0 i0 rfl ?_
                                obtain ⟨z72, hs29⟩ := am_ift hs4
                                clear hs4
                                refine aw_call (F := fm_467 N x0 h5) (t := true) (na := 1) (kd := 1) (as := [x0]) at_439_264 (am_k3v kb_467) mn_467 mk_467 rfl rfl (am_ok_v mi_467 (am_hl rfl (am_ccR i0 am_cats_0) rfl) z72) (am_hc am_cats_0 rfl) (fun _ => ⟨rfl, hh_439⟩) (fun o1 hz9 => rm_467 x0 h5 o1 i0 hz9) ?_
                                rcases am_cV_s hs29 with ⟨h74, f75, hs30⟩ | hs30
                                · clear hs29
                                  refine Or.inl ⟨_, _, f75, ?_⟩
                                  show am_W X _ 439 267 _ [] h74 _
                                  refine aw_goto at_439_267 ?_
                                  exact rg_439_274 x0 h74 o l0 i0 hs30
                                · clear hs29
                                  exact Or.inr hs30
                              · rw [if_neg c71] at hs4
                                have tc9 : (((10 * v7) + x1)).toInt ≠ 0 := fun e9 => c9 (Int32.toInt_inj.mp e9)
                                have tc10 : (((10 * v7) + x1)).toInt ≠ 1 := fun e9 => c10 (Int32.toInt_inj.mp e9)
                                have tc15 : (((10 * v7) + x1)).toInt ≠ 2 := fun e9 => c15 (Int32.toInt_inj.mp e9)
                                have tc20 : (((10 * v7) + x1)).toInt ≠ 3 := fun e9 => c20 (Int32.toInt_inj.mp e9)
                                have tc25 : (((10 * v7) + x1)).toInt ≠ 10 := fun e9 => c25 (Int32.toInt_inj.mp e9)
                                have tc26 : (((10 * v7) + x1)).toInt ≠ 11 := fun e9 => c26 (Int32.toInt_inj.mp e9)
                                have tc31 : (((10 * v7) + x1)).toInt ≠ 12 := fun e9 => c31 (Int32.toInt_inj.mp e9)
                                have tc36 : (((10 * v7) + x1)).toInt ≠ 13 := fun e9 => c36 (Int32.toInt_inj.mp e9)
                                have tc41 : (((10 * v7) + x1)).toInt ≠ 20 := fun e9 => c41 (Int32.toInt_inj.mp e9)
                                have tc46 : (((10 * v7) + x1)).toInt ≠ 21 := fun e9 => c46 (Int32.toInt_inj.mp e9)
                                have tc51 : (((10 * v7) + x1)).toInt ≠ 22 := fun e9 => c51 (Int32.toInt_inj.mp e9)
                                have tc56 : (((10 * v7) + x1)).toInt ≠ 23 := fun e9 => c56 (Int32.toInt_inj.mp e9)
                                have tc61 : (((10 * v7) + x1)).toInt ≠ 30 := fun e9 => c61 (Int32.toInt_inj.mp e9)
                                have tc66 : (((10 * v7) + x1)).toInt ≠ 31 := fun e9 => c66 (Int32.toInt_inj.mp e9)
                                have tc71 : (((10 * v7) + x1)).toInt ≠ 32 := fun e9 => c71 (Int32.toInt_inj.mp e9)
                                have hw : ((((10 * v7) + x1)).toInt < 0 ∨ 32 < (((10 * v7) + x1)).toInt) ∨ (((10 * v7) + x1)).toInt = 4 ∨ (((10 * v7) + x1)).toInt = 5 ∨ (((10 * v7) + x1)).toInt = 6 ∨ (((10 * v7) + x1)).toInt = 7 ∨ (((10 * v7) + x1)).toInt = 8 ∨ (((10 * v7) + x1)).toInt = 9 ∨ (((10 * v7) + x1)).toInt = 14 ∨ (((10 * v7) + x1)).toInt = 15 ∨ (((10 * v7) + x1)).toInt = 16 ∨ (((10 * v7) + x1)).toInt = 17 ∨ (((10 * v7) + x1)).toInt = 18 ∨ (((10 * v7) + x1)).toInt = 19 ∨ (((10 * v7) + x1)).toInt = 24 ∨ (((10 * v7) + x1)).toInt = 25 ∨ (((10 * v7) + x1)).toInt = 26 ∨ (((10 * v7) + x1)).toInt = 27 ∨ (((10 * v7) + x1)).toInt = 28 ∨ (((10 * v7) + x1)).toInt = 29 := by omega
                                refine aw_tsw (t := 270) at_439_24 ?_ ?_
                                · rcases hw with hw | hw | hw | hw | hw | hw | hw | hw | hw | hw | hw | hw | hw | hw | hw | hw | hw | hw | hw
                                  · exact am_tsw_d hw
                                  · rw [show (((10 * v7) + x1)) = 4 from Int32.toInt_inj.mp hw]; rfl
                                  · rw [show (((10 * v7) + x1)) = 5 from Int32.toInt_inj.mp hw]; rfl
                                  · rw [show (((10 * v7) + x1)) = 6 from Int32.toInt_inj.mp hw]; rfl
                                  · rw [show (((10 * v7) + x1)) = 7 from Int32.toInt_inj.mp hw]; rfl
                                  · rw [show (((10 * v7) + x1)) = 8 from Int32.toInt_inj.mp hw]; rfl
                                  · rw [show (((10 * v7) + x1)) = 9 from Int32.toInt_inj.mp hw]; rfl
                                  · rw [show (((10 * v7) + x1)) = 14 from Int32.toInt_inj.mp hw]; rfl
                                  · rw [show (((10 * v7) + x1)) = 15 from Int32.toInt_inj.mp hw]; rfl
                                  · rw [show (((10 * v7) + x1)) = 16 from Int32.toInt_inj.mp hw]; rfl
                                  · rw [show (((10 * v7) + x1)) = 17 from Int32.toInt_inj.mp hw]; rfl
                                  · rw [show (((10 * v7) + x1)) = 18 from Int32.toInt_inj.mp hw]; rfl
                                  · rw [show (((10 * v7) + x1)) = 19 from Int32.toInt_inj.mp hw]; rfl
                                  · rw [show (((10 * v7) + x1)) = 24 from Int32.toInt_inj.mp hw]; rfl
                                  · rw [show (((10 * v7) + x1)) = 25 from Int32.toInt_inj.mp hw]; rfl
                                  · rw [show (((10 * v7) + x1)) = 26 from Int32.toInt_inj.mp hw]; rfl
                                  · rw [show (((10 * v7) + x1)) = 27 from Int32.toInt_inj.mp hw]; rfl
                                  · rw [show (((10 * v7) + x1)) = 28 from Int32.toInt_inj.mp hw]; rfl
                                  · rw [show (((10 * v7) + x1)) = 29 from Int32.toInt_inj.mp hw]; rfl
                                exact rg_439_270 x0 h5 o l0 i0 hs4
def fm_439 (N : Nat) (y0 : Value) (y1 : Int32) (y2 : Int32) (h : am_H) : Option am_O := fg_439_0 N y0 y1 y2 h
theorem rm_439 {X : am_X} {d : Nat} {N : Nat} (y0 : Value) (y1 : Int32) (y2 : Int32) (h : am_H) (o : am_O) (i0 : am_isR y0 = true) (hs : fm_439 N y0 y1 y2 h = some o) : am_W X (d + 6) 439 0 (am_args 0 [y0, .int y1, .int y2]) [] h (fun q => q = o) := by
  rw [am_args_R i0, am_args_I, am_args_I]
  exact rg_439_0 y0 y1 y2 h o rfl rfl rfl i0 hs
