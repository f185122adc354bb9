/-! ===== methods as functions ===== -/
def fg_168_0 (x0 : Value) (x1 : Value) (x2 : Int32) (x3 : Int32) (h : am_H) : Option am_O := ((am_pP 10 x0 x1 h).bind fun h1 => ((am_pP 11 x0 (.int x2) h1).bind fun h3 => ((am_pP 12 x0 (.int x3) h3).bind fun h5 => some (.inl (some (.int 1), h5)))))
theorem rg_168_0 {X : am_X} {d : Nat} {lv : am_LV} (x0 : Value) (x1 : Value) (x2 : Int32) (x3 : Int32) (h : am_H) (o : am_O) (l0 : lv.lookup 0 = some x0) (l1 : lv.lookup 1 = some x1) (l2 : lv.lookup 2 = some (.int x2)) (l3 : lv.lookup 3 = some (.int x3)) (i0 : am_isR x0 = true) (i1 : am_isR x1 = true) (hs : fg_168_0 x0 x1 x2 x3 h = some o) : am_W X (d) 168 0 lv [] h (fun q => q = o) := by
  unfold fg_168_0 at hs
  refine aw_vload_n (pc1 := 1) at_168_0 l0 i0 rfl ?_
  refine aw_vload_n (pc1 := 2) at_168_1 l1 i1 rfl ?_
  obtain ⟨h1, e2, hs1⟩ := am_bind hs
  clear hs
  refine aw_pP (pc1 := 5) at_168_2 e2 rfl ?_
  refine aw_vload_n (pc1 := 6) at_168_5 l0 i0 rfl ?_
  refine aw_iload_n (pc1 := 7) at_168_6 l2 rfl ?_
  obtain ⟨h3, e4, hs2⟩ := am_bind hs1
  clear hs1
  refine aw_pP (pc1 := 10) at_168_7 e4 rfl ?_
  refine aw_vload_n (pc1 := 11) at_168_10 l0 i0 rfl ?_
  refine aw_iload_n (pc1 := 12) at_168_11 l3 rfl ?_
  obtain ⟨h5, e6, hs3⟩ := am_bind hs2
  clear hs2
  refine aw_pP (pc1 := 15) at_168_12 e6 rfl ?_
  refine aw_iconst (v := 1) (pc1 := 16) at_168_15 (by decide) rfl ?_
  cases hs3
  exact aw_iret at_168_16 (by rw [rt_168]; decide) rfl
def fm_168 (y0 : Value) (y1 : Value) (y2 : Int32) (y3 : Int32) (h : am_H) : Option am_O := fg_168_0 y0 y1 y2 y3 h
theorem rm_168 {X : am_X} {d : Nat} (y0 : Value) (y1 : Value) (y2 : Int32) (y3 : Int32) (h : am_H) (o : am_O) (i0 : am_isR y0 = true) (i1 : am_isR y1 = true) (hs : fm_168 y0 y1 y2 y3 h = some o) : am_W X (d) 168 0 (am_args 0 [y0, y1, .int y2, .int y3]) [] h (fun q => q = o) := by
  rw [am_args_R i0, am_args_R i1, am_args_I, am_args_I]
  exact rg_168_0 y0 y1 y2 y3 h o rfl rfl rfl rfl i0 i1 hs
def fg_167_64 (N : Nat) (x0 : Value) (x3 : Int32) (x4 : Int32) (h : am_H) : Option am_O := ((am_vR (am_pG 1 x0 h)).bind fun v1 => (if am_pOk 3 v1 h then am_cV true (fm_34 v1 0 0 h) (fun h5 => ((am_vR (am_pG 1 x0 h5)).bind fun v7 => (if am_pOk 3 v7 h5 then am_cI true (fm_41 N v7 x3 x4 h5) (fun v10 h11 => ((am_vR (am_pG 1 x0 h11)).bind fun v13 => (if am_pOk 0 x0 h11 then am_cI true (fm_168 x0 v13 0 1 h11) (fun v16 h17 => (if am_rfit (some FieldType.boolean) v16 then some (.inl (some (.int v16), h17)) else none)) else none))) else none))) else none))
theorem rg_167_64 {X : am_X} {d : Nat} {N : Nat} {lv : am_LV} (x0 : Value) (x3 : Int32) (x4 : Int32) (h : am_H) (o : am_O) (l0 : lv.lookup 0 = some x0) (l3 : lv.lookup 3 = some (.int x3)) (l4 : lv.lookup 4 = some (.int x4)) (i0 : am_isR x0 = true) (hs : fg_167_64 N x0 x3 x4 h = some o) : am_W X (d + 1) 167 64 lv [] h (fun q => q = o) := by
  unfold fg_167_64 at hs
  refine aw_vload_n (pc1 := 65) at_167_64 l0 i0 rfl ?_
  obtain ⟨v1, e2, hs1⟩ := am_bind hs
  clear hs
  refine aw_pG (pc1 := 68) at_167_65 (am_vR_s e2).1 rfl ?_
  refine aw_iconst (v := 0) (pc1 := 69) at_167_68 (by decide) rfl ?_
  refine aw_iconst (v := 0) (pc1 := 70) at_167_69 (by decide) rfl ?_
  obtain ⟨z3, hs2⟩ := am_ift hs1
  clear hs1
  refine aw_call (F := fm_34 v1 0 0 h) (t := true) (na := 3) (kd := 1) (as := [v1, (.int 0), (.int 0)]) at_167_70 (am_k3v kb_34) mn_34 mk_34 rfl rfl (am_ok_v mi_34 (am_hl rfl (am_ccR (am_vR_s e2).2 (am_ccI (am_ccI am_cats_0))) rfl) z3) (am_hc am_cats_0 rfl) (fun _ => ⟨rfl, hh_167⟩) (fun o1 hz9 => rm_34 v1 0 0 h o1 (am_vR_s e2).2 hz9) ?_
  rcases am_cV_s hs2 with ⟨h5, f6, hs3⟩ | hs3
  · clear hs2
    refine Or.inl ⟨_, _, f6, ?_⟩
    show am_W X _ 167 73 _ [] h5 _
    refine aw_vload_n (pc1 := 74) at_167_73 l0 i0 rfl ?_
    obtain ⟨v7, e8, hs4⟩ := am_bind hs3
    clear hs3
    refine aw_pG (pc1 := 77) at_167_74 (am_vR_s e8).1 rfl ?_
    refine aw_iload_n (pc1 := 78) at_167_77 l3 rfl ?_
    refine aw_iload (pc1 := 80) at_167_78 l4 rfl ?_
    obtain ⟨z9, hs5⟩ := am_ift hs4
    clear hs4
    refine aw_call (F := fm_41 N v7 x3 x4 h5) (t := true) (na := 3) (kd := 1) (as := [v7, (.int x3), (.int x4)]) at_167_80 (am_k3v kb_41) mn_41 mk_41 rfl rfl (am_ok_v mi_41 (am_hl rfl (am_ccR (am_vR_s e8).2 (am_ccI (am_ccI am_cats_0))) rfl) z9) (am_hc am_cats_0 rfl) (fun _ => ⟨rfl, hh_167⟩) (fun o1 hz9 => rm_41 v7 x3 x4 h5 o1 (am_vR_s e8).2 hz9) ?_
    rcases am_cI_s hs5 with ⟨v10, h11, f12, hs6⟩ | hs6
    · clear hs5
      refine Or.inl ⟨_, _, f12, ?_⟩
      show am_W X _ 167 83 _ [(.int v10)] h11 _
      refine aw_popi (pc1 := 84) at_167_83 rfl ?_
      refine aw_vload_n (pc1 := 85) at_167_84 l0 i0 rfl ?_
      refine aw_vload_n (pc1 := 86) at_167_85 l0 i0 rfl ?_
      obtain ⟨v13, e14, hs7⟩ := am_bind hs6
      clear hs6
      refine aw_pG (pc1 := 89) at_167_86 (am_vR_s e14).1 rfl ?_
      refine aw_iconst (v := 0) (pc1 := 90) at_167_89 (by decide) rfl ?_
      refine aw_iconst (v := 1) (pc1 := 91) at_167_90 (by decide) rfl ?_
      obtain ⟨z15, hs8⟩ := am_ift hs7
      clear hs7
      refine aw_call (F := fm_168 x0 v13 0 1 h11) (t := true) (na := 4) (kd := 1) (as := [x0, v13, (.int 0), (.int 1)]) at_167_91 (am_k3v kb_168) mn_168 mk_168 rfl rfl (am_ok_v mi_168 (am_hl rfl (am_ccR i0 (am_ccR (am_vR_s e14).2 (am_ccI (am_ccI am_cats_0)))) rfl) z15) (am_hc am_cats_0 rfl) (fun _ => ⟨rfl, hh_167⟩) (fun o1 hz9 => rm_168 x0 v13 0 1 h11 o1 i0 (am_vR_s e14).2 hz9) ?_
      rcases am_cI_s hs8 with ⟨v16, h17, f18, hs9⟩ | hs9
      · clear hs8
        refine Or.inl ⟨_, _, f18, ?_⟩
        show am_W X _ 167 94 _ [(.int v16)] h17 _
        obtain ⟨z19, hs10⟩ := am_ift hs9
        clear hs9
        cases hs10
        exact aw_iret at_167_94 (by rw [rt_167]; exact z19) rfl
      · clear hs8
        exact Or.inr hs9
    · clear hs5
      exact Or.inr hs6
  · clear hs2
    exact Or.inr hs3
def fg_167_62 (N : Nat) (h : am_H) : Option am_O := some (.inl (some (.int 0), h))
theorem rg_167_62 {X : am_X} {d : Nat} {N : Nat} {lv : am_LV} (h : am_H) (o : am_O) (hs : fg_167_62 N h = some o) : am_W X (d + 1) 167 62 lv [] h (fun q => q = o) := by
  unfold fg_167_62 at hs
  refine aw_iconst (v := 0) (pc1 := 63) at_167_62 (by decide) rfl ?_
  cases hs
  exact aw_iret at_167_63 (by rw [rt_167]; decide) rfl
def fg_167_21 (N : Nat) (x0 : Value) (x1 : Int32) (x3 : Int32) (s0 : Int32) (h : am_H) : Option am_O := ((am_vR (am_pG 5 x0 h)).bind fun v1 => (if am_pOk 3 v1 h then am_cI true (fm_54 v1 x1 0 h) (fun v4 h5 => am_cI false (fm_11 v4 h5) (fun v7 h8 => (if ¬ v7 = 0 then (fg_167_62 N h8) else (if ¬ v4 = x3 then (fg_167_64 N x0 x3 s0 h8) else ((am_vR (am_pG 5 x0 h8)).bind fun v12 => (if am_pOk 3 v12 h8 then am_cI true (fm_54 v12 x1 1 h8) (fun v15 h16 => (if ¬ v15 = s0 then (fg_167_64 N x0 x3 s0 h16) else (fg_167_62 N h16))) else none)))))) else none))
theorem rg_167_21 {X : am_X} {d : Nat} {N : Nat} {lv : am_LV} (x0 : Value) (x1 : Int32) (x3 : Int32) (s0 : Int32) (h : am_H) (o : am_O) (l0 : lv.lookup 0 = some x0) (l1 : lv.lookup 1 = some (.int x1)) (l3 : lv.lookup 3 = some (.int x3)) (i0 : am_isR x0 = true) (hs : fg_167_21 N x0 x1 x3 s0 h = some o) : am_W X (d + 1) 167 21 lv [(.int s0)] h (fun q => q = o) := by
  unfold fg_167_21 at hs
  refine aw_istore (lv1 := am_put1 _ 4 _) (pc1 := 23) at_167_21 rfl rfl ?_
  refine aw_vload_n (pc1 := 24) at_167_23 (am_lk1 l0 rfl rfl) i0 rfl ?_
  obtain ⟨v1, e2, hs1⟩ := am_bind hs
  clear hs
  refine aw_pG (pc1 := 27) at_167_24 (am_vR_s e2).1 rfl ?_
  refine aw_iload_n (pc1 := 28) at_167_27 (am_lk1 l1 rfl rfl) rfl ?_
  refine aw_iconst (v := 0) (pc1 := 29) at_167_28 (by decide) rfl ?_
  obtain ⟨z3, hs2⟩ := am_ift hs1
  clear hs1
  refine aw_call (F := fm_54 v1 x1 0 h) (t := true) (na := 3) (kd := 1) (as := [v1, (.int x1), (.int 0)]) at_167_29 (am_k3v kb_54) mn_54 mk_54 rfl rfl (am_ok_v mi_54 (am_hl rfl (am_ccR (am_vR_s e2).2 (am_ccI (am_ccI am_cats_0))) rfl) z3) (am_hc am_cats_0 rfl) (fun _ => ⟨rfl, hh_167⟩) (fun o1 hz9 => rm_54 v1 x1 0 h o1 (am_vR_s e2).2 hz9) ?_
  rcases am_cI_s hs2 with ⟨v4, h5, f6, hs3⟩ | hs3
  · clear hs2
    refine Or.inl ⟨_, _, f6, ?_⟩
    show am_W X _ 167 32 _ [(.int v4)] h5 _
    refine aw_istore (lv1 := am_put1 _ 5 _) (pc1 := 34) at_167_32 rfl rfl ?_
    refine aw_iload (pc1 := 36) at_167_34 am_lk0 rfl ?_
    refine aw_call (F := fm_11 v4 h5) (t := false) (na := 1) (kd := 0) (as := [(.int v4)]) at_167_36 (am_k3s kb_11) mn_11 mk_11 rfl rfl (am_ok_s mi_11 (am_hl rfl (am_ccI am_cats_0) rfl)) (am_hc am_cats_0 rfl) (fun hz9 => by cases hz9) (fun o1 hz9 => rm_11 v4 h5 o1  hz9) ?_
    rcases am_cI_s hs3 with ⟨v7, h8, f9, hs4⟩ | hs4
    · clear hs3
      refine Or.inl ⟨_, _, f9, ?_⟩
      show am_W X _ 167 39 _ [(.int v7)] h8 _
      by_cases c10 : ¬ v7 = 0
      · rw [if_pos c10] at hs4
        refine aw_ifne_t at_167_39 c10 ?_
        exact rg_167_62 h8 o   hs4
      · rw [if_neg c10] at hs4
        refine aw_ifne_f (pc1 := 42) at_167_39 c10 rfl ?_
        refine aw_iload (pc1 := 44) at_167_42 am_lk0 rfl ?_
        refine aw_iload_n (pc1 := 45) at_167_44 (am_lk1 (am_lk1 l3 rfl rfl) rfl rfl) rfl ?_
        by_cases c11 : ¬ v4 = x3
        · rw [if_pos c11] at hs4
          refine aw_icne_t at_167_45 c11 ?_
          exact rg_167_64 x0 x3 s0 h8 o (am_lk1 (am_lk1 l0 rfl rfl) rfl rfl) (am_lk1 (am_lk1 l3 rfl rfl) rfl rfl) (am_lk1 am_lk0 rfl rfl) i0 hs4
        · rw [if_neg c11] at hs4
          refine aw_icne_f (pc1 := 48) at_167_45 c11 rfl ?_
          refine aw_vload_n (pc1 := 49) at_167_48 (am_lk1 (am_lk1 l0 rfl rfl) rfl rfl) i0 rfl ?_
          obtain ⟨v12, e13, hs5⟩ := am_bind hs4
          clear hs4
          refine aw_pG (pc1 := 52) at_167_49 (am_vR_s e13).1 rfl ?_
          refine aw_iload_n (pc1 := 53) at_167_52 (am_lk1 (am_lk1 l1 rfl rfl) rfl rfl) rfl ?_
          refine aw_iconst (v := 1) (pc1 := 54) at_167_53 (by decide) rfl ?_
          obtain ⟨z14, hs6⟩ := am_ift hs5
          clear hs5
          refine aw_call (F := fm_54 v12 x1 1 h8) (t := true) (na := 3) (kd := 1) (as := [v12, (.int x1), (.int 1)]) at_167_54 (am_k3v kb_54) mn_54 mk_54 rfl rfl (am_ok_v mi_54 (am_hl rfl (am_ccR (am_vR_s e13).2 (am_ccI (am_ccI am_cats_0))) rfl) z14) (am_hc am_cats_0 rfl) (fun _ => ⟨rfl, hh_167⟩) (fun o1 hz9 => rm_54 v12 x1 1 h8 o1 (am_vR_s e13).2 hz9) ?_
          rcases am_cI_s hs6 with ⟨v15, h16, f17, hs7⟩ | hs7
          · clear hs6
            refine Or.inl ⟨_, _, f17, ?_⟩
            show am_W X _ 167 57 _ [(.int v15)] h16 _
            refine aw_iload (pc1 := 59) at_167_57 (am_lk1 am_lk0 rfl rfl) rfl ?_
            by_cases c18 : ¬ v15 = s0
            · rw [if_pos c18] at hs7
              refine aw_icne_t at_167_59 c18 ?_
              exact rg_167_64 x0 x3 s0 h16 o (am_lk1 (am_lk1 l0 rfl rfl) rfl rfl) (am_lk1 (am_lk1 l3 rfl rfl) rfl rfl) (am_lk1 am_lk0 rfl rfl) i0 hs7
            · rw [if_neg c18] at hs7
              refine aw_icne_f (pc1 := 62) at_167_59 c18 rfl ?_
              exact rg_167_62 h16 o   hs7
          · clear hs6
            exact Or.inr hs7
    · clear hs3
      exact Or.inr hs4
  · clear hs2
    exact Or.inr hs3
def fg_167_10 (N : Nat) (x0 : Value) (x1 : Int32) (x2 : Int32) (s0 : Int32) (h : am_H) : Option am_O := (if ¬ x2 = 2 then (fg_167_21 N x0 x1 s0 0 h) else (fg_167_21 N x0 x1 s0 1 h))
theorem rg_167_10 {X : am_X} {d : Nat} {N : Nat} {lv : am_LV} (x0 : Value) (x1 : Int32) (x2 : Int32) (s0 : Int32) (h : am_H) (o : am_O) (l0 : lv.lookup 0 = some x0) (l1 : lv.lookup 1 = some (.int x1)) (l2 : lv.lookup 2 = some (.int x2)) (i0 : am_isR x0 = true) (hs : fg_167_10 N x0 x1 x2 s0 h = some o) : am_W X (d + 1) 167 10 lv [(.int s0)] h (fun q => q = o) := by
  unfold fg_167_10 at hs
  refine aw_istore_n (lv1 := am_put1 _ 3 _) (pc1 := 11) at_167_10 rfl rfl ?_
  refine aw_iload_n (pc1 := 12) at_167_11 (am_lk1 l2 rfl rfl) rfl ?_
  refine aw_iconst (v := 2) (pc1 := 13) at_167_12 (by decide) rfl ?_
  by_cases c1 : ¬ x2 = 2
  · rw [if_pos c1] at hs
    refine aw_icne_t at_167_13 c1 ?_
    refine aw_iconst (v := 0) (pc1 := 21) at_167_20 (by decide) rfl ?_
    exact rg_167_21 x0 x1 s0 0 h o (am_lk1 l0 rfl rfl) (am_lk1 l1 rfl rfl) am_lk0 i0 hs
  · rw [if_neg c1] at hs
    refine aw_icne_f (pc1 := 16) at_167_13 c1 rfl ?_
    refine aw_iconst (v := 1) (pc1 := 17) at_167_16 (by decide) rfl ?_
    refine aw_goto at_167_17 ?_
    exact rg_167_21 x0 x1 s0 1 h o (am_lk1 l0 rfl rfl) (am_lk1 l1 rfl rfl) am_lk0 i0 hs
def fg_167_0 (N : Nat) (x0 : Value) (x1 : Int32) (x2 : Int32) (h : am_H) : Option am_O := (if ¬ x2 = 1 then (fg_167_10 N x0 x1 x2 0 h) else (fg_167_10 N x0 x1 x2 1 h))
theorem rg_167_0 {X : am_X} {d : Nat} {N : Nat} {lv : am_LV} (x0 : Value) (x1 : Int32) (x2 : Int32) (h : am_H) (o : am_O) (l0 : lv.lookup 0 = some x0) (l1 : lv.lookup 1 = some (.int x1)) (l2 : lv.lookup 2 = some (.int x2)) (i0 : am_isR x0 = true) (hs : fg_167_0 N x0 x1 x2 h = some o) : am_W X (d + 1) 167 0 lv [] h (fun q => q = o) := by
  unfold fg_167_0 at hs
  refine aw_iload_n (pc1 := 1) at_167_0 l2 rfl ?_
  refine aw_iconst (v := 1) (pc1 := 2) at_167_1 (by decide) rfl ?_
  by_cases c1 : ¬ x2 = 1
  · rw [if_pos c1] at hs
    refine aw_icne_t at_167_2 c1 ?_
    refine aw_iconst (v := 0) (pc1 := 10) at_167_9 (by decide) rfl ?_
    exact rg_167_10 x0 x1 x2 0 h o l0 l1 l2 i0 hs
  · rw [if_neg c1] at hs
    refine aw_icne_f (pc1 := 5) at_167_2 c1 rfl ?_
    refine aw_iconst (v := 1) (pc1 := 6) at_167_5 (by decide) rfl ?_
    refine aw_goto at_167_6 ?_
    exact rg_167_10 x0 x1 x2 1 h o l0 l1 l2 i0 hs
def fm_167 (N : Nat) (y0 : Value) (y1 : Int32) (y2 : Int32) (h : am_H) : Option am_O := fg_167_0 N y0 y1 y2 h
theorem rm_167 {X : am_X} {d : Nat} {N : Nat} (y0 : Value) (y1 : Int32) (y2 : Int32) (h : am_H) (o : am_O) (i0 : am_isR y0 = true) (hs : fm_167 N y0 y1 y2 h = some o) : am_W X (d + 1) 167 0 (am_args 0 [y0, .int y1, .int y2]) [] h (fun q => q = o) := by
  rw [am_args_R i0, am_args_I, am_args_I]
  exact rg_167_0 y0 y1 y2 h o rfl rfl rfl i0 hs
def fg_170_53 (h : am_H) : Option am_O := some (.inl (some (.int 0), h))
theorem rg_170_53 {X : am_X} {d : Nat} {lv : am_LV} (h : am_H) (o : am_O) (hs : fg_170_53 h = some o) : am_W X (d) 170 53 lv [] h (fun q => q = o) := by
  unfold fg_170_53 at hs
  refine aw_iconst (v := 0) (pc1 := 54) at_170_53 (by decide) rfl ?_
  cases hs
  exact aw_iret at_170_54 (by rw [rt_170]; decide) rfl
def fg_170_0 (x0 : Value) (x1 : Value) (x2 : Int32) (x3 : Int32) (h : am_H) : Option am_O := ((am_vI (am_pG 772 x1 h)).bind fun v1 => ((am_vI (am_pG 772 x0 h)).bind fun v3 => (if ¬ v1 = v3 then (fg_170_53 h) else (if x2 < 0 then (fg_170_53 h) else (if (x3 - x2) < 0 then (fg_170_53 h) else ((am_vI (am_pG 771 x1 h)).bind fun v8 => (if v8 < x3 then (fg_170_53 h) else ((am_vI (am_pG 771 x0 h)).bind fun v11 => ((am_vI (am_pG 772 x0 h)).bind fun v13 => ((am_vR (am_pG 768 x0 h)).bind fun v15 => ((am_pLen v15 h).bind fun v17 => (if ((v11 + (x3 - x2)) * v13) ≤ v17 then ((am_vR (am_pG 768 x1 h)).bind fun v20 => ((am_vI (am_pG 772 x0 h)).bind fun v22 => ((am_vR (am_pG 768 x0 h)).bind fun v24 => ((am_vI (am_pG 771 x0 h)).bind fun v26 => ((am_vI (am_pG 772 x0 h)).bind fun v28 => ((am_vI (am_pG 772 x0 h)).bind fun v30 => ((am_pCpy v20 (x2 * v22) v24 (v26 * v28) ((x3 - x2) * v30) h).bind fun h32 => ((am_vI (am_pG 771 x0 h32)).bind fun v34 => ((am_pP 771 x0 (.int (v34 + (x3 - x2))) h32).bind fun h36 => some (.inl (some (.int 1), h36))))))))))) else (fg_170_53 h)))))))))))))
theorem rg_170_0 {X : am_X} {d : Nat} {lv : am_LV} (x0 : Value) (x1 : Value) (x2 : Int32) (x3 : Int32) (h : am_H) (o : am_O) (l0 : lv.lookup 0 = some x0) (l1 : lv.lookup 1 = some x1) (l2 : lv.lookup 2 = some (.int x2)) (l3 : lv.lookup 3 = some (.int x3)) (i0 : am_isR x0 = true) (i1 : am_isR x1 = true) (hs : fg_170_0 x0 x1 x2 x3 h = some o) : am_W X (d) 170 0 lv [] h (fun q => q = o) := by
  unfold fg_170_0 at hs
  refine aw_iload_n (pc1 := 1) at_170_0 l3 rfl ?_
  refine aw_iload_n (pc1 := 2) at_170_1 l2 rfl ?_
  refine aw_isub (v := (x3 - x2)) (pc1 := 3) at_170_2 rfl rfl ?_
  refine aw_istore (lv1 := am_put1 _ 4 _) (pc1 := 5) at_170_3 rfl rfl ?_
  refine aw_vload_n (pc1 := 6) at_170_5 (am_lk1 l1 rfl rfl) i1 rfl ?_
  obtain ⟨v1, e2, hs1⟩ := am_bind hs
  clear hs
  refine aw_pG (pc1 := 9) at_170_6 (am_vI_s e2) rfl ?_
  refine aw_vload_n (pc1 := 10) at_170_9 (am_lk1 l0 rfl rfl) i0 rfl ?_
  obtain ⟨v3, e4, hs2⟩ := am_bind hs1
  clear hs1
  refine aw_pG (pc1 := 13) at_170_10 (am_vI_s e4) rfl ?_
  by_cases c5 : ¬ v1 = v3
  · rw [if_pos c5] at hs2
    refine aw_icne_t at_170_13 c5 ?_
    exact rg_170_53 h o   hs2
  · rw [if_neg c5] at hs2
    refine aw_icne_f (pc1 := 16) at_170_13 c5 rfl ?_
    refine aw_iload_n (pc1 := 17) at_170_16 (am_lk1 l2 rfl rfl) rfl ?_
    by_cases c6 : x2 < 0
    · rw [if_pos c6] at hs2
      refine aw_iflt_t at_170_17 c6 ?_
      exact rg_170_53 h o   hs2
    · rw [if_neg c6] at hs2
      refine aw_iflt_f (pc1 := 20) at_170_17 c6 rfl ?_
      refine aw_iload (pc1 := 22) at_170_20 am_lk0 rfl ?_
      by_cases c7 : (x3 - x2) < 0
      · rw [if_pos c7] at hs2
        refine aw_iflt_t at_170_22 c7 ?_
        exact rg_170_53 h o   hs2
      · rw [if_neg c7] at hs2
        refine aw_iflt_f (pc1 := 25) at_170_22 c7 rfl ?_
        refine aw_iload_n (pc1 := 26) at_170_25 (am_lk1 l3 rfl rfl) rfl ?_
        refine aw_vload_n (pc1 := 27) at_170_26 (am_lk1 l1 rfl rfl) i1 rfl ?_
        obtain ⟨v8, e9, hs3⟩ := am_bind hs2
        clear hs2
        refine aw_pG (pc1 := 30) at_170_27 (am_vI_s e9) rfl ?_
        by_cases c10 : v8 < x3
        · rw [if_pos c10] at hs3
          refine aw_icgt_t at_170_30 c10 ?_
          exact rg_170_53 h o   hs3
        · rw [if_neg c10] at hs3
          refine aw_icgt_f (pc1 := 33) at_170_30 c10 rfl ?_
          refine aw_vload_n (pc1 := 34) at_170_33 (am_lk1 l0 rfl rfl) i0 rfl ?_
          obtain ⟨v11, e12, hs4⟩ := am_bind hs3
          clear hs3
          refine aw_pG (pc1 := 37) at_170_34 (am_vI_s e12) rfl ?_
          refine aw_iload (pc1 := 39) at_170_37 am_lk0 rfl ?_
          refine aw_iadd (v := (v11 + (x3 - x2))) (pc1 := 40) at_170_39 rfl rfl ?_
          refine aw_vload_n (pc1 := 41) at_170_40 (am_lk1 l0 rfl rfl) i0 rfl ?_
          obtain ⟨v13, e14, hs5⟩ := am_bind hs4
          clear hs4
          refine aw_pG (pc1 := 44) at_170_41 (am_vI_s e14) rfl ?_
          refine aw_imul (v := ((v11 + (x3 - x2)) * v13)) (pc1 := 45) at_170_44 rfl rfl ?_
          refine aw_vload_n (pc1 := 46) at_170_45 (am_lk1 l0 rfl rfl) i0 rfl ?_
          obtain ⟨v15, e16, hs6⟩ := am_bind hs5
          clear hs5
          refine aw_pG (pc1 := 49) at_170_46 (am_vR_s e16).1 rfl ?_
          obtain ⟨v17, e18, hs7⟩ := am_bind hs6
          clear hs6
          refine aw_pLen (pc1 := 50) at_170_49 e18 rfl ?_
          by_cases c19 : ((v11 + (x3 - x2)) * v13) ≤ v17
          · rw [if_pos c19] at hs7
            refine aw_icle_t at_170_50 c19 ?_
            refine aw_vload_n (pc1 := 56) at_170_55 (am_lk1 l1 rfl rfl) i1 rfl ?_
            obtain ⟨v20, e21, hs8⟩ := am_bind hs7
            clear hs7
            refine aw_pG (pc1 := 59) at_170_56 (am_vR_s e21).1 rfl ?_
            refine aw_iload_n (pc1 := 60) at_170_59 (am_lk1 l2 rfl rfl) rfl ?_
            refine aw_vload_n (pc1 := 61) at_170_60 (am_lk1 l0 rfl rfl) i0 rfl ?_
            obtain ⟨v22, e23, hs9⟩ := am_bind hs8
            clear hs8
            refine aw_pG (pc1 := 64) at_170_61 (am_vI_s e23) rfl ?_
            refine aw_imul (v := (x2 * v22)) (pc1 := 65) at_170_64 rfl rfl ?_
            refine aw_vload_n (pc1 := 66) at_170_65 (am_lk1 l0 rfl rfl) i0 rfl ?_
            obtain ⟨v24, e25, hs10⟩ := am_bind hs9
            clear hs9
            refine aw_pG (pc1 := 69) at_170_66 (am_vR_s e25).1 rfl ?_
            refine aw_vload_n (pc1 := 70) at_170_69 (am_lk1 l0 rfl rfl) i0 rfl ?_
            obtain ⟨v26, e27, hs11⟩ := am_bind hs10
            clear hs10
            refine aw_pG (pc1 := 73) at_170_70 (am_vI_s e27) rfl ?_
            refine aw_vload_n (pc1 := 74) at_170_73 (am_lk1 l0 rfl rfl) i0 rfl ?_
            obtain ⟨v28, e29, hs12⟩ := am_bind hs11
            clear hs11
            refine aw_pG (pc1 := 77) at_170_74 (am_vI_s e29) rfl ?_
            refine aw_imul (v := (v26 * v28)) (pc1 := 78) at_170_77 rfl rfl ?_
            refine aw_iload (pc1 := 80) at_170_78 am_lk0 rfl ?_
            refine aw_vload_n (pc1 := 81) at_170_80 (am_lk1 l0 rfl rfl) i0 rfl ?_
            obtain ⟨v30, e31, hs13⟩ := am_bind hs12
            clear hs12
            refine aw_pG (pc1 := 84) at_170_81 (am_vI_s e31) rfl ?_
            refine aw_imul (v := ((x3 - x2) * v30)) (pc1 := 85) at_170_84 rfl rfl ?_
            obtain ⟨h32, e33, hs14⟩ := am_bind hs13
            clear hs13
            refine aw_pCpy at_170_85 rfl e33 (am_hc am_cats_0 rfl) ?_
            refine aw_vload_n (pc1 := 89) at_170_88 (am_lk1 l0 rfl rfl) i0 rfl ?_
            refine aw_vdup (pc1 := 90) at_170_89 i0 rfl ?_
            obtain ⟨v34, e35, hs15⟩ := am_bind hs14
            clear hs14
            refine aw_pG (pc1 := 93) at_170_90 (am_vI_s e35) rfl ?_
            refine aw_iload (pc1 := 95) at_170_93 am_lk0 rfl ?_
            refine aw_iadd (v := (v34 + (x3 - x2))) (pc1 := 96) at_170_95 rfl rfl ?_
            obtain ⟨h36, e37, hs16⟩ := am_bind hs15
            clear hs15
            refine aw_pP (pc1 := 99) at_170_96 e37 rfl ?_
            refine aw_iconst (v := 1) (pc1 := 100) at_170_99 (by decide) rfl ?_
            cases hs16
            exact aw_iret at_170_100 (by rw [rt_170]; decide) rfl
          · rw [if_neg c19] at hs7
            refine aw_icle_f (pc1 := 53) at_170_50 c19 rfl ?_
            exact rg_170_53 h o   hs7
def fm_170 (y0 : Value) (y1 : Value) (y2 : Int32) (y3 : Int32) (h : am_H) : Option am_O := fg_170_0 y0 y1 y2 y3 h
theorem rm_170 {X : am_X} {d : Nat} (y0 : Value) (y1 : Value) (y2 : Int32) (y3 : Int32) (h : am_H) (o : am_O) (i0 : am_isR y0 = true) (i1 : am_isR y1 = true) (hs : fm_170 y0 y1 y2 y3 h = some o) : am_W X (d) 170 0 (am_args 0 [y0, y1, .int y2, .int y3]) [] h (fun q => q = o) := by
  rw [am_args_R i0, am_args_R i1, am_args_I, am_args_I]
  exact rg_170_0 y0 y1 y2 y3 h o rfl rfl rfl rfl i0 i1 hs
def fg_169_88 (s0 : Int32) (h : am_H) : Option am_O := (if am_rfit (some FieldType.boolean) s0 then some (.inl (some (.int s0), h)) else none)
theorem rg_169_88 {X : am_X} {d : Nat} {lv : am_LV} (s0 : Int32) (h : am_H) (o : am_O) (hs : fg_169_88 s0 h = some o) : am_W X (d + 1) 169 88 lv [(.int s0)] h (fun q => q = o) := by
  unfold fg_169_88 at hs
  obtain ⟨z1, hs1⟩ := am_ift hs
  clear hs
  cases hs1
  exact aw_iret at_169_88 (by rw [rt_169]; exact z1) rfl
def fg_169_87 (h : am_H) : Option am_O := (fg_169_88 0 h)
theorem rg_169_87 {X : am_X} {d : Nat} {lv : am_LV} (h : am_H) (o : am_O) (hs : fg_169_87 h = some o) : am_W X (d + 1) 169 87 lv [] h (fun q => q = o) := by
  unfold fg_169_87 at hs
  refine aw_iconst (v := 0) (pc1 := 88) at_169_87 (by decide) rfl ?_
  exact rg_169_88 0 h o   hs
def fg_169_0 (x0 : Value) (x1 : Int32) (h : am_H) : Option am_O := ((am_vR (am_pG 0 x0 h)).bind fun v1 => (if am_pOk 3 v1 h then am_cV true (fm_34 v1 0 0 h) (fun h5 => ((am_vR (am_pG 10 x0 h5)).bind fun v7 => ((am_pZ v7).bind fun b9 => if b9 = true then (fg_169_87 h5) else ((am_vR (am_pG 0 x0 h5)).bind fun v11 => ((am_vR (am_pG 5 x0 h5)).bind fun v13 => (if am_pOk 3 v11 h5 then am_cI true (fm_170 v11 v13 0 x1 h5) (fun v16 h17 => (if v16 = 0 then (fg_169_87 h17) else ((am_vR (am_pG 0 x0 h17)).bind fun v20 => ((am_vR (am_pG 10 x0 h17)).bind fun v22 => ((am_vI (am_pG 11 x0 h17)).bind fun v24 => ((am_vI (am_pG 12 x0 h17)).bind fun v26 => (if am_pOk 3 v20 h17 then am_cI true (fm_170 v20 v22 v24 v26 h17) (fun v29 h30 => (if v29 = 0 then (fg_169_87 h30) else ((am_vR (am_pG 0 x0 h30)).bind fun v33 => ((am_vR (am_pG 5 x0 h30)).bind fun v35 => ((am_vR (am_pG 2 x0 h30)).bind fun v37 => (if am_pOk 7 v37 h30 then am_cI true (fm_100 v37 x1 h30) (fun v40 h41 => ((am_vR (am_pG 5 x0 h41)).bind fun v43 => ((am_vI (am_pG 771 v43 h41)).bind fun v45 => (if am_pOk 3 v33 h41 then am_cI true (fm_170 v33 v35 v40 v45 h41) (fun v48 h49 => (if v48 = 0 then (fg_169_87 h49) else (fg_169_88 1 h49))) else none)))) else none)))))) else none))))))) else none)))))) else none))
theorem rg_169_0 {X : am_X} {d : Nat} {lv : am_LV} (x0 : Value) (x1 : Int32) (h : am_H) (o : am_O) (l0 : lv.lookup 0 = some x0) (l1 : lv.lookup 1 = some (.int x1)) (i0 : am_isR x0 = true) (hs : fg_169_0 x0 x1 h = some o) : am_W X (d + 1) 169 0 lv [] h (fun q => q = o) := by
  unfold fg_169_0 at hs
  refine aw_vload_n (pc1 := 1) at_169_0 l0 i0 rfl ?_
  obtain ⟨v1, e2, hs1⟩ := am_bind hs
  clear hs
  refine aw_pG (pc1 := 4) at_169_1 (am_vR_s e2).1 rfl ?_
  refine aw_iconst (v := 0) (pc1 := 5) at_169_4 (by decide) rfl ?_
  refine aw_iconst (v := 0) (pc1 := 6) at_169_5 (by decide) rfl ?_
  obtain ⟨z3, hs2⟩ := am_ift hs1
  clear hs1
  refine aw_call (F := fm_34 v1 0 0 h) (t := true) (na := 3) (kd := 1) (as := [v1, (.int 0), (.int 0)]) at_169_6 (am_k3v kb_34) mn_34 mk_34 rfl rfl (am_ok_v mi_34 (am_hl rfl (am_ccR (am_vR_s e2).2 (am_ccI (am_ccI am_cats_0))) rfl) z3) (am_hc am_cats_0 rfl) (fun _ => ⟨rfl, hh_169⟩) (fun o1 hz9 => rm_34 v1 0 0 h o1 (am_vR_s e2).2 hz9) ?_
  rcases am_cV_s hs2 with ⟨h5, f6, hs3⟩ | hs3
  · clear hs2
    refine Or.inl ⟨_, _, f6, ?_⟩
    show am_W X _ 169 9 _ [] h5 _
    refine aw_vload_n (pc1 := 10) at_169_9 l0 i0 rfl ?_
    obtain ⟨v7, e8, hs4⟩ := am_bind hs3
    clear hs3
    refine aw_pG (pc1 := 13) at_169_10 (am_vR_s e8).1 rfl ?_
    obtain ⟨b9, e10, hs5⟩ := am_bind hs4
    clear hs4
    cases b9
    · rw [if_neg (by decide)] at hs5
      refine aw_pZf (pc1 := 16) at_169_13 e10 rfl ?_
      refine aw_vload_n (pc1 := 17) at_169_16 l0 i0 rfl ?_
      obtain ⟨v11, e12, hs6⟩ := am_bind hs5
      clear hs5
      refine aw_pG (pc1 := 20) at_169_17 (am_vR_s e12).1 rfl ?_
      refine aw_vload_n (pc1 := 21) at_169_20 l0 i0 rfl ?_
      obtain ⟨v13, e14, hs7⟩ := am_bind hs6
      clear hs6
      refine aw_pG (pc1 := 24) at_169_21 (am_vR_s e14).1 rfl ?_
      refine aw_iconst (v := 0) (pc1 := 25) at_169_24 (by decide) rfl ?_
      refine aw_iload_n (pc1 := 26) at_169_25 l1 rfl ?_
      obtain ⟨z15, hs8⟩ := am_ift hs7
      clear hs7
      refine aw_call (F := fm_170 v11 v13 0 x1 h5) (t := true) (na := 4) (kd := 1) (as := [v11, v13, (.int 0), (.int x1)]) at_169_26 (am_k3v kb_170) mn_170 mk_170 rfl rfl (am_ok_v mi_170 (am_hl rfl (am_ccR (am_vR_s e12).2 (am_ccR (am_vR_s e14).2 (am_ccI (am_ccI am_cats_0)))) rfl) z15) (am_hc am_cats_0 rfl) (fun _ => ⟨rfl, hh_169⟩) (fun o1 hz9 => rm_170 v11 v13 0 x1 h5 o1 (am_vR_s e12).2 (am_vR_s e14).2 hz9) ?_
      rcases am_cI_s hs8 with ⟨v16, h17, f18, hs9⟩ | hs9
      · clear hs8
        refine Or.inl ⟨_, _, f18, ?_⟩
        show am_W X _ 169 29 _ [(.int v16)] h17 _
        by_cases c19 : v16 = 0
        · rw [if_pos c19] at hs9
          refine aw_ifeq_t at_169_29 c19 ?_
          exact rg_169_87 h17 o   hs9
        · rw [if_neg c19] at hs9
          refine aw_ifeq_f (pc1 := 32) at_169_29 c19 rfl ?_
          refine aw_vload_n (pc1 := 33) at_169_32 l0 i0 rfl ?_
          obtain ⟨v20, e21, hs10⟩ := am_bind hs9
          clear hs9
          refine aw_pG (pc1 := 36) at_169_33 (am_vR_s e21).1 rfl ?_
          refine aw_vload_n (pc1 := 37) at_169_36 l0 i0 rfl ?_
          obtain ⟨v22, e23, hs11⟩ := am_bind hs10
          clear hs10
          refine aw_pG (pc1 := 40) at_169_37 (am_vR_s e23).1 rfl ?_
          refine aw_vload_n (pc1 := 41) at_169_40 l0 i0 rfl ?_
          obtain ⟨v24, e25, hs12⟩ := am_bind hs11
          clear hs11
          refine aw_pG (pc1 := 44) at_169_41 (am_vI_s e25) rfl ?_
          refine aw_vload_n (pc1 := 45) at_169_44 l0 i0 rfl ?_
          obtain ⟨v26, e27, hs13⟩ := am_bind hs12
          clear hs12
          refine aw_pG (pc1 := 48) at_169_45 (am_vI_s e27) rfl ?_
          obtain ⟨z28, hs14⟩ := am_ift hs13
          clear hs13
          refine aw_call (F := fm_170 v20 v22 v24 v26 h17) (t := true) (na := 4) (kd := 1) (as := [v20, v22, (.int v24), (.int v26)]) at_169_48 (am_k3v kb_170) mn_170 mk_170 rfl rfl (am_ok_v mi_170 (am_hl rfl (am_ccR (am_vR_s e21).2 (am_ccR (am_vR_s e23).2 (am_ccI (am_ccI am_cats_0)))) rfl) z28) (am_hc am_cats_0 rfl) (fun _ => ⟨rfl, hh_169⟩) (fun o1 hz9 => rm_170 v20 v22 v24 v26 h17 o1 (am_vR_s e21).2 (am_vR_s e23).2 hz9) ?_
          rcases am_cI_s hs14 with ⟨v29, h30, f31, hs15⟩ | hs15
          · clear hs14
            refine Or.inl ⟨_, _, f31, ?_⟩
            show am_W X _ 169 51 _ [(.int v29)] h30 _
            by_cases c32 : v29 = 0
            · rw [if_pos c32] at hs15
              refine aw_ifeq_t at_169_51 c32 ?_
              exact rg_169_87 h30 o   hs15
            · rw [if_neg c32] at hs15
              refine aw_ifeq_f (pc1 := 54) at_169_51 c32 rfl ?_
              refine aw_vload_n (pc1 := 55) at_169_54 l0 i0 rfl ?_
              obtain ⟨v33, e34, hs16⟩ := am_bind hs15
              clear hs15
              refine aw_pG (pc1 := 58) at_169_55 (am_vR_s e34).1 rfl ?_
              refine aw_vload_n (pc1 := 59) at_169_58 l0 i0 rfl ?_
              obtain ⟨v35, e36, hs17⟩ := am_bind hs16
              clear hs16
              refine aw_pG (pc1 := 62) at_169_59 (am_vR_s e36).1 rfl ?_
              refine aw_vload_n (pc1 := 63) at_169_62 l0 i0 rfl ?_
              obtain ⟨v37, e38, hs18⟩ := am_bind hs17
              clear hs17
              refine aw_pG (pc1 := 66) at_169_63 (am_vR_s e38).1 rfl ?_
              refine aw_iload_n (pc1 := 67) at_169_66 l1 rfl ?_
              obtain ⟨z39, hs19⟩ := am_ift hs18
              clear hs18
              refine aw_call (F := fm_100 v37 x1 h30) (t := true) (na := 2) (kd := 1) (as := [v37, (.int x1)]) at_169_67 (am_k3v kb_100) mn_100 mk_100 rfl rfl (am_ok_v mi_100 (am_hl rfl (am_ccR (am_vR_s e38).2 (am_ccI am_cats_0)) rfl) z39) (am_hc (am_ccR (am_vR_s e36).2 (am_ccR (am_vR_s e34).2 am_cats_0)) rfl) (fun _ => ⟨rfl, hh_169⟩) (fun o1 hz9 => rm_100 v37 x1 h30 o1 (am_vR_s e38).2 hz9) ?_
              rcases am_cI_s hs19 with ⟨v40, h41, f42, hs20⟩ | hs20
              · clear hs19
                refine Or.inl ⟨_, _, f42, ?_⟩
                show am_W X _ 169 70 _ [(.int v40), v35, v33] h41 _
                refine aw_vload_n (pc1 := 71) at_169_70 l0 i0 rfl ?_
                obtain ⟨v43, e44, hs21⟩ := am_bind hs20
                clear hs20
                refine aw_pG (pc1 := 74) at_169_71 (am_vR_s e44).1 rfl ?_
                obtain ⟨v45, e46, hs22⟩ := am_bind hs21
                clear hs21
                refine aw_pG (pc1 := 77) at_169_74 (am_vI_s e46) rfl ?_
                obtain ⟨z47, hs23⟩ := am_ift hs22
                clear hs22
                refine aw_call (F := fm_170 v33 v35 v40 v45 h41) (t := true) (na := 4) (kd := 1) (as := [v33, v35, (.int v40), (.int v45)]) at_169_77 (am_k3v kb_170) mn_170 mk_170 rfl rfl (am_ok_v mi_170 (am_hl rfl (am_ccR (am_vR_s e34).2 (am_ccR (am_vR_s e36).2 (am_ccI (am_ccI am_cats_0)))) rfl) z47) (am_hc am_cats_0 rfl) (fun _ => ⟨rfl, hh_169⟩) (fun o1 hz9 => rm_170 v33 v35 v40 v45 h41 o1 (am_vR_s e34).2 (am_vR_s e36).2 hz9) ?_
                rcases am_cI_s hs23 with ⟨v48, h49, f50, hs24⟩ | hs24
                · clear hs23
                  refine Or.inl ⟨_, _, f50, ?_⟩
                  show am_W X _ 169 80 _ [(.int v48)] h49 _
                  by_cases c51 : v48 = 0
                  · rw [if_pos c51] at hs24
                    refine aw_ifeq_t at_169_80 c51 ?_
                    exact rg_169_87 h49 o   hs24
                  · rw [if_neg c51] at hs24
                    refine aw_ifeq_f (pc1 := 83) at_169_80 c51 rfl ?_
                    refine aw_iconst (v := 1) (pc1 := 84) at_169_83 (by decide) rfl ?_
                    refine aw_goto at_169_84 ?_
                    exact rg_169_88 1 h49 o   hs24
                · clear hs23
                  exact Or.inr hs24
              · clear hs19
                exact Or.inr hs20
          · clear hs14
            exact Or.inr hs15
      · clear hs8
        exact Or.inr hs9
    · rw [if_pos rfl] at hs5
      refine aw_pZt at_169_13 e10 ?_
      exact rg_169_87 h5 o   hs5
  · clear hs2
    exact Or.inr hs3
def fm_169 (y0 : Value) (y1 : Int32) (h : am_H) : Option am_O := fg_169_0 y0 y1 h
theorem rm_169 {X : am_X} {d : Nat} (y0 : Value) (y1 : Int32) (h : am_H) (o : am_O) (i0 : am_isR y0 = true) (hs : fm_169 y0 y1 h = some o) : am_W X (d + 1) 169 0 (am_args 0 [y0, .int y1]) [] h (fun q => q = o) := by
  rw [am_args_R i0, am_args_I]
  exact rg_169_0 y0 y1 h o rfl rfl i0 hs
def fg_171_79 (N : Nat) (x0 : Value) (x4 : Int32) (h : am_H) : Option am_O := ((am_vR (am_pG 5 x0 h)).bind fun v1 => ((am_vR (am_pG 2 x0 h)).bind fun v3 => (if am_pOk 7 v3 h then am_cI true (fm_100 v3 x4 h) (fun v6 h7 => (if am_pOk 0 x0 h7 then am_cI true (fm_168 x0 v1 x4 v6 h7) (fun v10 h11 => (if am_rfit (some FieldType.boolean) v10 then some (.inl (some (.int v10), h11)) else none)) else none)) else none)))
theorem rg_171_79 {X : am_X} {d : Nat} {N : Nat} {lv : am_LV} (x0 : Value) (x4 : Int32) (h : am_H) (o : am_O) (l0 : lv.lookup 0 = some x0) (l4 : lv.lookup 4 = some (.int x4)) (i0 : am_isR x0 = true) (hs : fg_171_79 N x0 x4 h = some o) : am_W X (d + 2) 171 79 lv [] h (fun q => q = o) := by
  unfold fg_171_79 at hs
  refine aw_vload_n (pc1 := 80) at_171_79 l0 i0 rfl ?_
  refine aw_vload_n (pc1 := 81) at_171_80 l0 i0 rfl ?_
  obtain ⟨v1, e2, hs1⟩ := am_bind hs
  clear hs
  refine aw_pG (pc1 := 84) at_171_81 (am_vR_s e2).1 rfl ?_
  refine aw_iload (pc1 := 86) at_171_84 l4 rfl ?_
  refine aw_vload_n (pc1 := 87) at_171_86 l0 i0 rfl ?_
  obtain ⟨v3, e4, hs2⟩ := am_bind hs1
  clear hs1
  refine aw_pG (pc1 := 90) at_171_87 (am_vR_s e4).1 rfl ?_
  refine aw_iload (pc1 := 92) at_171_90 l4 rfl ?_
  obtain ⟨z5, hs3⟩ := am_ift hs2
  clear hs2
  refine aw_call (F := fm_100 v3 x4 h) (t := true) (na := 2) (kd := 1) (as := [v3, (.int x4)]) at_171_92 (am_k3v kb_100) mn_100 mk_100 rfl rfl (am_ok_v mi_100 (am_hl rfl (am_ccR (am_vR_s e4).2 (am_ccI am_cats_0)) rfl) z5) (am_hc (am_ccI (am_ccR (am_vR_s e2).2 (am_ccR i0 am_cats_0))) rfl) (fun _ => ⟨rfl, hh_171⟩) (fun o1 hz9 => rm_100 v3 x4 h o1 (am_vR_s e4).2 hz9) ?_
  rcases am_cI_s hs3 with ⟨v6, h7, f8, hs4⟩ | hs4
  · clear hs3
    refine Or.inl ⟨_, _, f8, ?_⟩
    show am_W X _ 171 95 _ [(.int v6), (.int x4), v1, x0] h7 _
    obtain ⟨z9, hs5⟩ := am_ift hs4
    clear hs4
    refine aw_call (F := fm_168 x0 v1 x4 v6 h7) (t := true) (na := 4) (kd := 1) (as := [x0, v1, (.int x4), (.int v6)]) at_171_95 (am_k3v kb_168) mn_168 mk_168 rfl rfl (am_ok_v mi_168 (am_hl rfl (am_ccR i0 (am_ccR (am_vR_s e2).2 (am_ccI (am_ccI am_cats_0)))) rfl) z9) (am_hc am_cats_0 rfl) (fun _ => ⟨rfl, hh_171⟩) (fun o1 hz9 => rm_168 x0 v1 x4 v6 h7 o1 i0 (am_vR_s e2).2 hz9) ?_
    rcases am_cI_s hs5 with ⟨v10, h11, f12, hs6⟩ | hs6
    · clear hs5
      refine Or.inl ⟨_, _, f12, ?_⟩
      show am_W X _ 171 98 _ [(.int v10)] h11 _
      obtain ⟨z13, hs7⟩ := am_ift hs6
      clear hs6
      cases hs7
      exact aw_iret at_171_98 (by rw [rt_171]; exact z13) rfl
    · clear hs5
      exact Or.inr hs6
  · clear hs3
    exact Or.inr hs4
def fg_171_77 (N : Nat) (h : am_H) : Option am_O := some (.inl (some (.int 0), h))
theorem rg_171_77 {X : am_X} {d : Nat} {N : Nat} {lv : am_LV} (h : am_H) (o : am_O) (hs : fg_171_77 N h = some o) : am_W X (d + 2) 171 77 lv [] h (fun q => q = o) := by
  unfold fg_171_77 at hs
  refine aw_iconst (v := 0) (pc1 := 78) at_171_77 (by decide) rfl ?_
  cases hs
  exact aw_iret at_171_78 (by rw [rt_171]; decide) rfl
def fg_171_0 (N : Nat) (x0 : Value) (x1 : Int32) (x2 : Int32) (h : am_H) : Option am_O := ((am_vR (am_pG 5 x0 h)).bind fun v1 => (if am_pOk 3 v1 h then am_cI true (fm_54 v1 x1 0 h) (fun v4 h5 => ((am_vR (am_pG 2 x0 h5)).bind fun v7 => (if am_pOk 7 v7 h5 then am_cI true (fm_166 N v7 x1 x2 h5) (fun v10 h11 => am_cI false (fm_14 v4 h11) (fun v13 h14 => (if v13 ≤ x2 then (fg_171_77 N h14) else ((am_vR (am_pG 5 x0 h14)).bind fun v17 => ((am_vI (am_pG 771 v17 h14)).bind fun v19 => (if v19 ≤ v10 then (fg_171_77 N h14) else am_cI false (fm_13 v4 x2 h14) (fun v22 h23 => am_cI false (fm_11 v4 h23) (fun v25 h26 => (if ¬ v22 = v25 then (fg_171_77 N h26) else (if ¬ v4 = 19 then (fg_171_79 N x0 v10 h26) else (if ¬ x2 = 1 then (fg_171_79 N x0 v10 h26) else ((am_vR (am_pG 2 x0 h26)).bind fun v31 => ((am_vR (am_pG 1797 v31 h26)).bind fun v33 => ((am_pA 2 v33 v10 h26).bind fun v35 => (if v35 = 0 then (fg_171_79 N x0 v10 h26) else (fg_171_77 N h26)))))))))))))))) else none))) else none))
theorem rg_171_0 {X : am_X} {d : Nat} {N : Nat} {lv : am_LV} (x0 : Value) (x1 : Int32) (x2 : Int32) (h : am_H) (o : am_O) (l0 : lv.lookup 0 = some x0) (l1 : lv.lookup 1 = some (.int x1)) (l2 : lv.lookup 2 = some (.int x2)) (i0 : am_isR x0 = true) (hs : fg_171_0 N x0 x1 x2 h = some o) : am_W X (d + 2) 171 0 lv [] h (fun q => q = o) := by
  unfold fg_171_0 at hs
  refine aw_vload_n (pc1 := 1) at_171_0 l0 i0 rfl ?_
  obtain ⟨v1, e2, hs1⟩ := am_bind hs
  clear hs
  refine aw_pG (pc1 := 4) at_171_1 (am_vR_s e2).1 rfl ?_
  refine aw_iload_n (pc1 := 5) at_171_4 l1 rfl ?_
  refine aw_iconst (v := 0) (pc1 := 6) at_171_5 (by decide) rfl ?_
  obtain ⟨z3, hs2⟩ := am_ift hs1
  clear hs1
  refine aw_call (F := fm_54 v1 x1 0 h) (t := true) (na := 3) (kd := 1) (as := [v1, (.int x1), (.int 0)]) at_171_6 (am_k3v kb_54) mn_54 mk_54 rfl rfl (am_ok_v mi_54 (am_hl rfl (am_ccR (am_vR_s e2).2 (am_ccI (am_ccI am_cats_0))) rfl) z3) (am_hc am_cats_0 rfl) (fun _ => ⟨rfl, hh_171⟩) (fun o1 hz9 => rm_54 v1 x1 0 h o1 (am_vR_s e2).2 hz9) ?_
  rcases am_cI_s hs2 with ⟨v4, h5, f6, hs3⟩ | hs3
  · clear hs2
    refine Or.inl ⟨_, _, f6, ?_⟩
    show am_W X _ 171 9 _ [(.int v4)] h5 _
    refine aw_istore_n (lv1 := am_put1 _ 3 _) (pc1 := 10) at_171_9 rfl rfl ?_
    refine aw_vload_n (pc1 := 11) at_171_10 (am_lk1 l0 rfl rfl) i0 rfl ?_
    obtain ⟨v7, e8, hs4⟩ := am_bind hs3
    clear hs3
    refine aw_pG (pc1 := 14) at_171_11 (am_vR_s e8).1 rfl ?_
    refine aw_iload_n (pc1 := 15) at_171_14 (am_lk1 l1 rfl rfl) rfl ?_
    refine aw_iload_n (pc1 := 16) at_171_15 (am_lk1 l2 rfl rfl) rfl ?_
    obtain ⟨z9, hs5⟩ := am_ift hs4
    clear hs4
    refine aw_call (F := fm_166 N v7 x1 x2 h5) (t := true) (na := 3) (kd := 1) (as := [v7, (.int x1), (.int x2)]) at_171_16 (am_k3v kb_166) mn_166 mk_166 rfl rfl (am_ok_v mi_166 (am_hl rfl (am_ccR (am_vR_s e8).2 (am_ccI (am_ccI am_cats_0))) rfl) z9) (am_hc am_cats_0 rfl) (fun _ => ⟨rfl, hh_171⟩) (fun o1 hz9 => rm_166 v7 x1 x2 h5 o1 (am_vR_s e8).2 hz9) ?_
    rcases am_cI_s hs5 with ⟨v10, h11, f12, hs6⟩ | hs6
    · clear hs5
      refine Or.inl ⟨_, _, f12, ?_⟩
      show am_W X _ 171 19 _ [(.int v10)] h11 _
      refine aw_istore (lv1 := am_put1 _ 4 _) (pc1 := 21) at_171_19 rfl rfl ?_
      refine aw_iload_n (pc1 := 22) at_171_21 (am_lk1 (am_lk1 l2 rfl rfl) rfl rfl) rfl ?_
      refine aw_iload_n (pc1 := 23) at_171_22 (am_lk1 am_lk0 rfl rfl) rfl ?_
      refine aw_call (F := fm_14 v4 h11) (t := false) (na := 1) (kd := 0) (as := [(.int v4)]) at_171_23 (am_k3s kb_14) mn_14 mk_14 rfl rfl (am_ok_s mi_14 (am_hl rfl (am_ccI am_cats_0) rfl)) (am_hc (am_ccI am_cats_0) rfl) (fun hz9 => by cases hz9) (fun o1 hz9 => rm_14 v4 h11 o1  hz9) ?_
      rcases am_cI_s hs6 with ⟨v13, h14, f15, hs7⟩ | hs7
      · clear hs6
        refine Or.inl ⟨_, _, f15, ?_⟩
        show am_W X _ 171 26 _ [(.int v13), (.int x2)] h14 _
        by_cases c16 : v13 ≤ x2
        · rw [if_pos c16] at hs7
          refine aw_icge_t at_171_26 c16 ?_
          exact rg_171_77 h14 o   hs7
        · rw [if_neg c16] at hs7
          refine aw_icge_f (pc1 := 29) at_171_26 c16 rfl ?_
          refine aw_iload (pc1 := 31) at_171_29 am_lk0 rfl ?_
          refine aw_vload_n (pc1 := 32) at_171_31 (am_lk1 (am_lk1 l0 rfl rfl) rfl rfl) i0 rfl ?_
          obtain ⟨v17, e18, hs8⟩ := am_bind hs7
          clear hs7
          refine aw_pG (pc1 := 35) at_171_32 (am_vR_s e18).1 rfl ?_
          obtain ⟨v19, e20, hs9⟩ := am_bind hs8
          clear hs8
          refine aw_pG (pc1 := 38) at_171_35 (am_vI_s e20) rfl ?_
          by_cases c21 : v19 ≤ v10
          · rw [if_pos c21] at hs9
            refine aw_icge_t at_171_38 c21 ?_
            exact rg_171_77 h14 o   hs9
          · rw [if_neg c21] at hs9
            refine aw_icge_f (pc1 := 41) at_171_38 c21 rfl ?_
            refine aw_iload_n (pc1 := 42) at_171_41 (am_lk1 am_lk0 rfl rfl) rfl ?_
            refine aw_iload_n (pc1 := 43) at_171_42 (am_lk1 (am_lk1 l2 rfl rfl) rfl rfl) rfl ?_
            refine aw_call (F := fm_13 v4 x2 h14) (t := false) (na := 2) (kd := 0) (as := [(.int v4), (.int x2)]) at_171_43 (am_k3s kb_13) mn_13 mk_13 rfl rfl (am_ok_s mi_13 (am_hl rfl (am_ccI (am_ccI am_cats_0)) rfl)) (am_hc am_cats_0 rfl) (fun hz9 => by cases hz9) (fun o1 hz9 => rm_13 v4 x2 h14 o1  hz9) ?_
            rcases am_cI_s hs9 with ⟨v22, h23, f24, hs10⟩ | hs10
            · clear hs9
              refine Or.inl ⟨_, _, f24, ?_⟩
              show am_W X _ 171 46 _ [(.int v22)] h23 _
              refine aw_iload_n (pc1 := 47) at_171_46 (am_lk1 am_lk0 rfl rfl) rfl ?_
              refine aw_call (F := fm_11 v4 h23) (t := false) (na := 1) (kd := 0) (as := [(.int v4)]) at_171_47 (am_k3s kb_11) mn_11 mk_11 rfl rfl (am_ok_s mi_11 (am_hl rfl (am_ccI am_cats_0) rfl)) (am_hc (am_ccI am_cats_0) rfl) (fun hz9 => by cases hz9) (fun o1 hz9 => rm_11 v4 h23 o1  hz9) ?_
              rcases am_cI_s hs10 with ⟨v25, h26, f27, hs11⟩ | hs11
              · clear hs10
                refine Or.inl ⟨_, _, f27, ?_⟩
                show am_W X _ 171 50 _ [(.int v25), (.int v22)] h26 _
                by_cases c28 : ¬ v22 = v25
                · rw [if_pos c28] at hs11
                  refine aw_icne_t at_171_50 c28 ?_
                  exact rg_171_77 h26 o   hs11
                · rw [if_neg c28] at hs11
                  refine aw_icne_f (pc1 := 53) at_171_50 c28 rfl ?_
                  refine aw_iload_n (pc1 := 54) at_171_53 (am_lk1 am_lk0 rfl rfl) rfl ?_
                  refine aw_bipush (v := 19) (pc1 := 56) at_171_54 (by decide) rfl ?_
                  by_cases c29 : ¬ v4 = 19
                  · rw [if_pos c29] at hs11
                    refine aw_icne_t at_171_56 c29 ?_
                    exact rg_171_79 x0 v10 h26 o (am_lk1 (am_lk1 l0 rfl rfl) rfl rfl) am_lk0 i0 hs11
                  · rw [if_neg c29] at hs11
                    refine aw_icne_f (pc1 := 59) at_171_56 c29 rfl ?_
                    refine aw_iload_n (pc1 := 60) at_171_59 (am_lk1 (am_lk1 l2 rfl rfl) rfl rfl) rfl ?_
                    refine aw_iconst (v := 1) (pc1 := 61) at_171_60 (by decide) rfl ?_
                    by_cases c30 : ¬ x2 = 1
                    · rw [if_pos c30] at hs11
                      refine aw_icne_t at_171_61 c30 ?_
                      exact rg_171_79 x0 v10 h26 o (am_lk1 (am_lk1 l0 rfl rfl) rfl rfl) am_lk0 i0 hs11
                    · rw [if_neg c30] at hs11
                      refine aw_icne_f (pc1 := 64) at_171_61 c30 rfl ?_
                      refine aw_vload_n (pc1 := 65) at_171_64 (am_lk1 (am_lk1 l0 rfl rfl) rfl rfl) i0 rfl ?_
                      obtain ⟨v31, e32, hs12⟩ := am_bind hs11
                      clear hs11
                      refine aw_pG (pc1 := 68) at_171_65 (am_vR_s e32).1 rfl ?_
                      obtain ⟨v33, e34, hs13⟩ := am_bind hs12
                      clear hs12
                      refine aw_pG (pc1 := 71) at_171_68 (am_vR_s e34).1 rfl ?_
                      refine aw_iload (pc1 := 73) at_171_71 am_lk0 rfl ?_
                      obtain ⟨v35, e36, hs14⟩ := am_bind hs13
                      clear hs13
                      refine aw_pA (pc1 := 74) at_171_73 (Or.inr (Or.inl ⟨rfl, rfl⟩)) e36 rfl ?_
                      by_cases c37 : v35 = 0
                      · rw [if_pos c37] at hs14
                        refine aw_ifeq_t at_171_74 c37 ?_
                        exact rg_171_79 x0 v10 h26 o (am_lk1 (am_lk1 l0 rfl rfl) rfl rfl) am_lk0 i0 hs14
                      · rw [if_neg c37] at hs14
                        refine aw_ifeq_f (pc1 := 77) at_171_74 c37 rfl ?_
                        exact rg_171_77 h26 o   hs14
              · clear hs10
                exact Or.inr hs11
            · clear hs9
              exact Or.inr hs10
      · clear hs6
        exact Or.inr hs7
    · clear hs5
      exact Or.inr hs6
  · clear hs2
    exact Or.inr hs3
def fm_171 (N : Nat) (y0 : Value) (y1 : Int32) (y2 : Int32) (h : am_H) : Option am_O := fg_171_0 N y0 y1 y2 h
theorem rm_171 {X : am_X} {d : Nat} {N : Nat} (y0 : Value) (y1 : Int32) (y2 : Int32) (h : am_H) (o : am_O) (i0 : am_isR y0 = true) (hs : fm_171 N y0 y1 y2 h = some o) : am_W X (d + 2) 171 0 (am_args 0 [y0, .int y1, .int y2]) [] h (fun q => q = o) := by
  rw [am_args_R i0, am_args_I, am_args_I]
  exact rg_171_0 y0 y1 y2 h o rfl rfl rfl i0 hs
def fg_172_126 (s0 : Int32) (h : am_H) : Option am_O := (if am_rfit (some FieldType.boolean) s0 then some (.inl (some (.int s0), h)) else none)
theorem rg_172_126 {X : am_X} {d : Nat} {lv : am_LV} (s0 : Int32) (h : am_H) (o : am_O) (hs : fg_172_126 s0 h = some o) : am_W X (d + 1) 172 126 lv [(.int s0)] h (fun q => q = o) := by
  unfold fg_172_126 at hs
  obtain ⟨z1, hs1⟩ := am_ift hs
  clear hs
  cases hs1
  exact aw_iret at_172_126 (by rw [rt_172]; exact z1) rfl
def fg_172_125 (h : am_H) : Option am_O := (fg_172_126 0 h)
theorem rg_172_125 {X : am_X} {d : Nat} {lv : am_LV} (h : am_H) (o : am_O) (hs : fg_172_125 h = some o) : am_W X (d + 1) 172 125 lv [] h (fun q => q = o) := by
  unfold fg_172_125 at hs
  refine aw_iconst (v := 0) (pc1 := 126) at_172_125 (by decide) rfl ?_
  exact rg_172_126 0 h o   hs
def fg_172_101 (x0 : Value) (x2 : Int32) (h : am_H) : Option am_O := ((am_vR (am_pG 6 x0 h)).bind fun v1 => ((am_vR (am_pG 3 x0 h)).bind fun v3 => (if am_pOk 7 v3 h then am_cI true (fm_100 v3 x2 h) (fun v6 h7 => (if am_pOk 0 x0 h7 then am_cI true (fm_168 x0 v1 x2 v6 h7) (fun v10 h11 => (if v10 = 0 then (fg_172_125 h11) else (fg_172_126 1 h11))) else none)) else none)))
theorem rg_172_101 {X : am_X} {d : Nat} {lv : am_LV} (x0 : Value) (x2 : Int32) (h : am_H) (o : am_O) (l0 : lv.lookup 0 = some x0) (l2 : lv.lookup 2 = some (.int x2)) (i0 : am_isR x0 = true) (hs : fg_172_101 x0 x2 h = some o) : am_W X (d + 1) 172 101 lv [] h (fun q => q = o) := by
  unfold fg_172_101 at hs
  refine aw_vload_n (pc1 := 102) at_172_101 l0 i0 rfl ?_
  refine aw_vload_n (pc1 := 103) at_172_102 l0 i0 rfl ?_
  obtain ⟨v1, e2, hs1⟩ := am_bind hs
  clear hs
  refine aw_pG (pc1 := 106) at_172_103 (am_vR_s e2).1 rfl ?_
  refine aw_iload_n (pc1 := 107) at_172_106 l2 rfl ?_
  refine aw_vload_n (pc1 := 108) at_172_107 l0 i0 rfl ?_
  obtain ⟨v3, e4, hs2⟩ := am_bind hs1
  clear hs1
  refine aw_pG (pc1 := 111) at_172_108 (am_vR_s e4).1 rfl ?_
  refine aw_iload_n (pc1 := 112) at_172_111 l2 rfl ?_
  obtain ⟨z5, hs3⟩ := am_ift hs2
  clear hs2
  refine aw_call (F := fm_100 v3 x2 h) (t := true) (na := 2) (kd := 1) (as := [v3, (.int x2)]) at_172_112 (am_k3v kb_100) mn_100 mk_100 rfl rfl (am_ok_v mi_100 (am_hl rfl (am_ccR (am_vR_s e4).2 (am_ccI am_cats_0)) rfl) z5) (am_hc (am_ccI (am_ccR (am_vR_s e2).2 (am_ccR i0 am_cats_0))) rfl) (fun _ => ⟨rfl, hh_172⟩) (fun o1 hz9 => rm_100 v3 x2 h o1 (am_vR_s e4).2 hz9) ?_
  rcases am_cI_s hs3 with ⟨v6, h7, f8, hs4⟩ | hs4
  · clear hs3
    refine Or.inl ⟨_, _, f8, ?_⟩
    show am_W X _ 172 115 _ [(.int v6), (.int x2), v1, x0] h7 _
    obtain ⟨z9, hs5⟩ := am_ift hs4
    clear hs4
    refine aw_call (F := fm_168 x0 v1 x2 v6 h7) (t := true) (na := 4) (kd := 1) (as := [x0, v1, (.int x2), (.int v6)]) at_172_115 (am_k3v kb_168) mn_168 mk_168 rfl rfl (am_ok_v mi_168 (am_hl rfl (am_ccR i0 (am_ccR (am_vR_s e2).2 (am_ccI (am_ccI am_cats_0)))) rfl) z9) (am_hc am_cats_0 rfl) (fun _ => ⟨rfl, hh_172⟩) (fun o1 hz9 => rm_168 x0 v1 x2 v6 h7 o1 i0 (am_vR_s e2).2 hz9) ?_
    rcases am_cI_s hs5 with ⟨v10, h11, f12, hs6⟩ | hs6
    · clear hs5
      refine Or.inl ⟨_, _, f12, ?_⟩
      show am_W X _ 172 118 _ [(.int v10)] h11 _
      by_cases c13 : v10 = 0
      · rw [if_pos c13] at hs6
        refine aw_ifeq_t at_172_118 c13 ?_
        exact rg_172_125 h11 o   hs6
      · rw [if_neg c13] at hs6
        refine aw_ifeq_f (pc1 := 121) at_172_118 c13 rfl ?_
        refine aw_iconst (v := 1) (pc1 := 122) at_172_121 (by decide) rfl ?_
        refine aw_goto at_172_122 ?_
        exact rg_172_126 1 h11 o   hs6
    · clear hs5
      exact Or.inr hs6
  · clear hs3
    exact Or.inr hs4
def fg_172_77 (x0 : Value) (x1 : Int32) (x2 : Int32) (h : am_H) : Option am_O := ((am_vR (am_pG 3 x0 h)).bind fun v1 => ((am_vR (am_pG 1797 v1 h)).bind fun v3 => ((am_pA 2 v3 x2 h).bind fun v5 => (if v5 = 0 then (fg_172_101 x0 x2 h) else ((am_vR (am_pG 2 x0 h)).bind fun v8 => ((am_vR (am_pG 1795 v8 h)).bind fun v10 => ((am_pA 2 v10 x1 h).bind fun v12 => (if v12 = 0 then (fg_172_125 h) else (fg_172_101 x0 x2 h)))))))))
theorem rg_172_77 {X : am_X} {d : Nat} {lv : am_LV} (x0 : Value) (x1 : Int32) (x2 : Int32) (h : am_H) (o : am_O) (l0 : lv.lookup 0 = some x0) (l1 : lv.lookup 1 = some (.int x1)) (l2 : lv.lookup 2 = some (.int x2)) (i0 : am_isR x0 = true) (hs : fg_172_77 x0 x1 x2 h = some o) : am_W X (d + 1) 172 77 lv [] h (fun q => q = o) := by
  unfold fg_172_77 at hs
  refine aw_vload_n (pc1 := 78) at_172_77 l0 i0 rfl ?_
  obtain ⟨v1, e2, hs1⟩ := am_bind hs
  clear hs
  refine aw_pG (pc1 := 81) at_172_78 (am_vR_s e2).1 rfl ?_
  obtain ⟨v3, e4, hs2⟩ := am_bind hs1
  clear hs1
  refine aw_pG (pc1 := 84) at_172_81 (am_vR_s e4).1 rfl ?_
  refine aw_iload_n (pc1 := 85) at_172_84 l2 rfl ?_
  obtain ⟨v5, e6, hs3⟩ := am_bind hs2
  clear hs2
  refine aw_pA (pc1 := 86) at_172_85 (Or.inr (Or.inl ⟨rfl, rfl⟩)) e6 rfl ?_
  by_cases c7 : v5 = 0
  · rw [if_pos c7] at hs3
    refine aw_ifeq_t at_172_86 c7 ?_
    exact rg_172_101 x0 x2 h o l0 l2 i0 hs3
  · rw [if_neg c7] at hs3
    refine aw_ifeq_f (pc1 := 89) at_172_86 c7 rfl ?_
    refine aw_vload_n (pc1 := 90) at_172_89 l0 i0 rfl ?_
    obtain ⟨v8, e9, hs4⟩ := am_bind hs3
    clear hs3
    refine aw_pG (pc1 := 93) at_172_90 (am_vR_s e9).1 rfl ?_
    obtain ⟨v10, e11, hs5⟩ := am_bind hs4
    clear hs4
    refine aw_pG (pc1 := 96) at_172_93 (am_vR_s e11).1 rfl ?_
    refine aw_iload_n (pc1 := 97) at_172_96 l1 rfl ?_
    obtain ⟨v12, e13, hs6⟩ := am_bind hs5
    clear hs5
    refine aw_pA (pc1 := 98) at_172_97 (Or.inr (Or.inl ⟨rfl, rfl⟩)) e13 rfl ?_
    by_cases c14 : v12 = 0
    · rw [if_pos c14] at hs6
      refine aw_ifeq_t at_172_98 c14 ?_
      exact rg_172_125 h o   hs6
    · rw [if_neg c14] at hs6
      refine aw_ifeq_f (pc1 := 101) at_172_98 c14 rfl ?_
      exact rg_172_101 x0 x2 h o l0 l2 i0 hs6
def fg_172_0 (x0 : Value) (x1 : Int32) (x2 : Int32) (h : am_H) : Option am_O := ((am_vR (am_pG 5 x0 h)).bind fun v1 => (if am_pOk 3 v1 h then am_cI true (fm_54 v1 x1 0 h) (fun v4 h5 => am_cI false (fm_11 v4 h5) (fun v7 h8 => ((am_vR (am_pG 6 x0 h8)).bind fun v10 => (if am_pOk 3 v10 h8 then am_cI true (fm_54 v10 x2 0 h8) (fun v13 h14 => am_cI false (fm_11 v13 h14) (fun v16 h17 => (if ¬ v7 = v16 then (fg_172_125 h17) else ((am_vR (am_pG 2 x0 h17)).bind fun v20 => ((am_vR (am_pG 1793 v20 h17)).bind fun v22 => ((am_pA 0 v22 x1 h17).bind fun v24 => ((am_vR (am_pG 3 x0 h17)).bind fun v26 => ((am_vR (am_pG 1794 v26 h17)).bind fun v28 => ((am_pA 0 v28 x2 h17).bind fun v30 => (if 12 < ((v24 - 1) + v30) then (fg_172_125 h17) else ((am_vR (am_pG 2 x0 h17)).bind fun v33 => ((am_vR (am_pG 1795 v33 h17)).bind fun v35 => ((am_pA 2 v35 x1 h17).bind fun v37 => (if v37 = 0 then (fg_172_77 x0 x1 x2 h17) else ((am_vR (am_pG 3 x0 h17)).bind fun v40 => ((am_vR (am_pG 1796 v40 h17)).bind fun v42 => ((am_pA 2 v42 x2 h17).bind fun v44 => (if ¬ v44 = 0 then (fg_172_125 h17) else (fg_172_77 x0 x1 x2 h17))))))))))))))))))) else none)))) else none))
theorem rg_172_0 {X : am_X} {d : Nat} {lv : am_LV} (x0 : Value) (x1 : Int32) (x2 : Int32) (h : am_H) (o : am_O) (l0 : lv.lookup 0 = some x0) (l1 : lv.lookup 1 = some (.int x1)) (l2 : lv.lookup 2 = some (.int x2)) (i0 : am_isR x0 = true) (hs : fg_172_0 x0 x1 x2 h = some o) : am_W X (d + 1) 172 0 lv [] h (fun q => q = o) := by
  unfold fg_172_0 at hs
  refine aw_vload_n (pc1 := 1) at_172_0 l0 i0 rfl ?_
  obtain ⟨v1, e2, hs1⟩ := am_bind hs
  clear hs
  refine aw_pG (pc1 := 4) at_172_1 (am_vR_s e2).1 rfl ?_
  refine aw_iload_n (pc1 := 5) at_172_4 l1 rfl ?_
  refine aw_iconst (v := 0) (pc1 := 6) at_172_5 (by decide) rfl ?_
  obtain ⟨z3, hs2⟩ := am_ift hs1
  clear hs1
  refine aw_call (F := fm_54 v1 x1 0 h) (t := true) (na := 3) (kd := 1) (as := [v1, (.int x1), (.int 0)]) at_172_6 (am_k3v kb_54) mn_54 mk_54 rfl rfl (am_ok_v mi_54 (am_hl rfl (am_ccR (am_vR_s e2).2 (am_ccI (am_ccI am_cats_0))) rfl) z3) (am_hc am_cats_0 rfl) (fun _ => ⟨rfl, hh_172⟩) (fun o1 hz9 => rm_54 v1 x1 0 h o1 (am_vR_s e2).2 hz9) ?_
  rcases am_cI_s hs2 with ⟨v4, h5, f6, hs3⟩ | hs3
  · clear hs2
    refine Or.inl ⟨_, _, f6, ?_⟩
    show am_W X _ 172 9 _ [(.int v4)] h5 _
    refine aw_call (F := fm_11 v4 h5) (t := false) (na := 1) (kd := 0) (as := [(.int v4)]) at_172_9 (am_k3s kb_11) mn_11 mk_11 rfl rfl (am_ok_s mi_11 (am_hl rfl (am_ccI am_cats_0) rfl)) (am_hc am_cats_0 rfl) (fun hz9 => by cases hz9) (fun o1 hz9 => rm_11 v4 h5 o1  hz9) ?_
    rcases am_cI_s hs3 with ⟨v7, h8, f9, hs4⟩ | hs4
    · clear hs3
      refine Or.inl ⟨_, _, f9, ?_⟩
      show am_W X _ 172 12 _ [(.int v7)] h8 _
      refine aw_vload_n (pc1 := 13) at_172_12 l0 i0 rfl ?_
      obtain ⟨v10, e11, hs5⟩ := am_bind hs4
      clear hs4
      refine aw_pG (pc1 := 16) at_172_13 (am_vR_s e11).1 rfl ?_
      refine aw_iload_n (pc1 := 17) at_172_16 l2 rfl ?_
      refine aw_iconst (v := 0) (pc1 := 18) at_172_17 (by decide) rfl ?_
      obtain ⟨z12, hs6⟩ := am_ift hs5
      clear hs5
      refine aw_call (F := fm_54 v10 x2 0 h8) (t := true) (na := 3) (kd := 1) (as := [v10, (.int x2), (.int 0)]) at_172_18 (am_k3v kb_54) mn_54 mk_54 rfl rfl (am_ok_v mi_54 (am_hl rfl (am_ccR (am_vR_s e11).2 (am_ccI (am_ccI am_cats_0))) rfl) z12) (am_hc (am_ccI am_cats_0) rfl) (fun _ => ⟨rfl, hh_172⟩) (fun o1 hz9 => rm_54 v10 x2 0 h8 o1 (am_vR_s e11).2 hz9) ?_
      rcases am_cI_s hs6 with ⟨v13, h14, f15, hs7⟩ | hs7
      · clear hs6
        refine Or.inl ⟨_, _, f15, ?_⟩
        show am_W X _ 172 21 _ [(.int v13), (.int v7)] h14 _
        refine aw_call (F := fm_11 v13 h14) (t := false) (na := 1) (kd := 0) (as := [(.int v13)]) at_172_21 (am_k3s kb_11) mn_11 mk_11 rfl rfl (am_ok_s mi_11 (am_hl rfl (am_ccI am_cats_0) rfl)) (am_hc (am_ccI am_cats_0) rfl) (fun hz9 => by cases hz9) (fun o1 hz9 => rm_11 v13 h14 o1  hz9) ?_
        rcases am_cI_s hs7 with ⟨v16, h17, f18, hs8⟩ | hs8
        · clear hs7
          refine Or.inl ⟨_, _, f18, ?_⟩
          show am_W X _ 172 24 _ [(.int v16), (.int v7)] h17 _
          by_cases c19 : ¬ v7 = v16
          · rw [if_pos c19] at hs8
            refine aw_icne_t at_172_24 c19 ?_
            exact rg_172_125 h17 o   hs8
          · rw [if_neg c19] at hs8
            refine aw_icne_f (pc1 := 27) at_172_24 c19 rfl ?_
            refine aw_vload_n (pc1 := 28) at_172_27 l0 i0 rfl ?_
            obtain ⟨v20, e21, hs9⟩ := am_bind hs8
            clear hs8
            refine aw_pG (pc1 := 31) at_172_28 (am_vR_s e21).1 rfl ?_
            obtain ⟨v22, e23, hs10⟩ := am_bind hs9
            clear hs9
            refine aw_pG (pc1 := 34) at_172_31 (am_vR_s e23).1 rfl ?_
            refine aw_iload_n (pc1 := 35) at_172_34 l1 rfl ?_
            obtain ⟨v24, e25, hs11⟩ := am_bind hs10
            clear hs10
            refine aw_pA (pc1 := 36) at_172_35 (Or.inl ⟨rfl, rfl⟩) e25 rfl ?_
            refine aw_iconst (v := 1) (pc1 := 37) at_172_36 (by decide) rfl ?_
            refine aw_isub (v := (v24 - 1)) (pc1 := 38) at_172_37 rfl rfl ?_
            refine aw_vload_n (pc1 := 39) at_172_38 l0 i0 rfl ?_
            obtain ⟨v26, e27, hs12⟩ := am_bind hs11
            clear hs11
            refine aw_pG (pc1 := 42) at_172_39 (am_vR_s e27).1 rfl ?_
            obtain ⟨v28, e29, hs13⟩ := am_bind hs12
            clear hs12
            refine aw_pG (pc1 := 45) at_172_42 (am_vR_s e29).1 rfl ?_
            refine aw_iload_n (pc1 := 46) at_172_45 l2 rfl ?_
            obtain ⟨v30, e31, hs14⟩ := am_bind hs13
            clear hs13
            refine aw_pA (pc1 := 47) at_172_46 (Or.inl ⟨rfl, rfl⟩) e31 rfl ?_
            refine aw_iadd (v := ((v24 - 1) + v30)) (pc1 := 48) at_172_47 rfl rfl ?_
            refine aw_bipush (v := 12) (pc1 := 50) at_172_48 (by decide) rfl ?_
            by_cases c32 : 12 < ((v24 - 1) + v30)
            · rw [if_pos c32] at hs14
              refine aw_icgt_t at_172_50 c32 ?_
              exact rg_172_125 h17 o   hs14
            · rw [if_neg c32] at hs14
              refine aw_icgt_f (pc1 := 53) at_172_50 c32 rfl ?_
              refine aw_vload_n (pc1 := 54) at_172_53 l0 i0 rfl ?_
              obtain ⟨v33, e34, hs15⟩ := am_bind hs14
              clear hs14
              refine aw_pG (pc1 := 57) at_172_54 (am_vR_s e34).1 rfl ?_
              obtain ⟨v35, e36, hs16⟩ := am_bind hs15
              clear hs15
              refine aw_pG (pc1 := 60) at_172_57 (am_vR_s e36).1 rfl ?_
              refine aw_iload_n (pc1 := 61) at_172_60 l1 rfl ?_
              obtain ⟨v37, e38, hs17⟩ := am_bind hs16
              clear hs16
              refine aw_pA (pc1 := 62) at_172_61 (Or.inr (Or.inl ⟨rfl, rfl⟩)) e38 rfl ?_
              by_cases c39 : v37 = 0
              · rw [if_pos c39] at hs17
                refine aw_ifeq_t at_172_62 c39 ?_
                exact rg_172_77 x0 x1 x2 h17 o l0 l1 l2 i0 hs17
              · rw [if_neg c39] at hs17
                refine aw_ifeq_f (pc1 := 65) at_172_62 c39 rfl ?_
                refine aw_vload_n (pc1 := 66) at_172_65 l0 i0 rfl ?_
                obtain ⟨v40, e41, hs18⟩ := am_bind hs17
                clear hs17
                refine aw_pG (pc1 := 69) at_172_66 (am_vR_s e41).1 rfl ?_
                obtain ⟨v42, e43, hs19⟩ := am_bind hs18
                clear hs18
                refine aw_pG (pc1 := 72) at_172_69 (am_vR_s e43).1 rfl ?_
                refine aw_iload_n (pc1 := 73) at_172_72 l2 rfl ?_
                obtain ⟨v44, e45, hs20⟩ := am_bind hs19
                clear hs19
                refine aw_pA (pc1 := 74) at_172_73 (Or.inr (Or.inl ⟨rfl, rfl⟩)) e45 rfl ?_
                by_cases c46 : ¬ v44 = 0
                · rw [if_pos c46] at hs20
                  refine aw_ifne_t at_172_74 c46 ?_
                  exact rg_172_125 h17 o   hs20
                · rw [if_neg c46] at hs20
                  refine aw_ifne_f (pc1 := 77) at_172_74 c46 rfl ?_
                  exact rg_172_77 x0 x1 x2 h17 o l0 l1 l2 i0 hs20
        · clear hs7
          exact Or.inr hs8
      · clear hs6
        exact Or.inr hs7
    · clear hs3
      exact Or.inr hs4
  · clear hs2
    exact Or.inr hs3
def fm_172 (y0 : Value) (y1 : Int32) (y2 : Int32) (h : am_H) : Option am_O := fg_172_0 y0 y1 y2 h
theorem rm_172 {X : am_X} {d : Nat} (y0 : Value) (y1 : Int32) (y2 : Int32) (h : am_H) (o : am_O) (i0 : am_isR y0 = true) (hs : fm_172 y0 y1 y2 h = some o) : am_W X (d + 1) 172 0 (am_args 0 [y0, .int y1, .int y2]) [] h (fun q => q = o) := by
  rw [am_args_R i0, am_args_I, am_args_I]
  exact rg_172_0 y0 y1 y2 h o rfl rfl rfl i0 hs
def fg_174_30 (s0 : Int32) (h : am_H) : Option am_O := some (.inl (some (.int s0), h))
theorem rg_174_30 {X : am_X} {d : Nat} {lv : am_LV} (s0 : Int32) (h : am_H) (o : am_O) (hs : fg_174_30 s0 h = some o) : am_W X (d) 174 30 lv [(.int s0)] h (fun q => q = o) := by
  unfold fg_174_30 at hs
  cases hs
  exact aw_iret at_174_30 (by rw [rt_174]; rfl) rfl
def fg_174_0 (x0 : Int32) (h : am_H) : Option am_O := (if 4 < x0 then (if 6 < x0 then (if 13 < x0 then (fg_174_30 3 h) else (fg_174_30 2 h)) else (fg_174_30 1 h)) else (fg_174_30 0 h))
theorem rg_174_0 {X : am_X} {d : Nat} {lv : am_LV} (x0 : Int32) (h : am_H) (o : am_O) (l0 : lv.lookup 0 = some (.int x0)) (hs : fg_174_0 x0 h = some o) : am_W X (d) 174 0 lv [] h (fun q => q = o) := by
  unfold fg_174_0 at hs
  refine aw_iload_n (pc1 := 1) at_174_0 l0 rfl ?_
  refine aw_iconst (v := 4) (pc1 := 2) at_174_1 (by decide) rfl ?_
  by_cases c1 : 4 < x0
  · rw [if_pos c1] at hs
    refine aw_icgt_t at_174_2 c1 ?_
    refine aw_iload_n (pc1 := 10) at_174_9 l0 rfl ?_
    refine aw_bipush (v := 6) (pc1 := 12) at_174_10 (by decide) rfl ?_
    by_cases c2 : 6 < x0
    · rw [if_pos c2] at hs
      refine aw_icgt_t at_174_12 c2 ?_
      refine aw_iload_n (pc1 := 20) at_174_19 l0 rfl ?_
      refine aw_bipush (v := 13) (pc1 := 22) at_174_20 (by decide) rfl ?_
      by_cases c3 : 13 < x0
      · rw [if_pos c3] at hs
        refine aw_icgt_t at_174_22 c3 ?_
        refine aw_iconst (v := 3) (pc1 := 30) at_174_29 (by decide) rfl ?_
        exact rg_174_30 3 h o   hs
      · rw [if_neg c3] at hs
        refine aw_icgt_f (pc1 := 25) at_174_22 c3 rfl ?_
        refine aw_iconst (v := 2) (pc1 := 26) at_174_25 (by decide) rfl ?_
        refine aw_goto at_174_26 ?_
        exact rg_174_30 2 h o   hs
    · rw [if_neg c2] at hs
      refine aw_icgt_f (pc1 := 15) at_174_12 c2 rfl ?_
      refine aw_iconst (v := 1) (pc1 := 16) at_174_15 (by decide) rfl ?_
      refine aw_goto at_174_16 ?_
      exact rg_174_30 1 h o   hs
  · rw [if_neg c1] at hs
    refine aw_icgt_f (pc1 := 5) at_174_2 c1 rfl ?_
    refine aw_iconst (v := 0) (pc1 := 6) at_174_5 (by decide) rfl ?_
    refine aw_goto at_174_6 ?_
    exact rg_174_30 0 h o   hs
def fm_174 (y0 : Int32) (h : am_H) : Option am_O := fg_174_0 y0 h
theorem rm_174 {X : am_X} {d : Nat} (y0 : Int32) (h : am_H) (o : am_O) (hs : fm_174 y0 h = some o) : am_W X (d) 174 0 (am_args 0 [.int y0]) [] h (fun q => q = o) := by
  rw [am_args_I]
  exact rg_174_0 y0 h o rfl  hs
def fg_173_64 (s0 : Value) (s1 : Int32) (s2 : Int32) (s3 : Int32) (h : am_H) : Option am_O := (if am_pOk 3 s0 h then am_cV true (fm_51 s0 s1 s2 s3 h) (fun h3 => some (.inl (some (.int 1), h3))) else none)
theorem rg_173_64 {X : am_X} {d : Nat} {lv : am_LV} (s0 : Value) (s1 : Int32) (s2 : Int32) (s3 : Int32) (h : am_H) (o : am_O) (j0 : am_isR s0 = true) (hs : fg_173_64 s0 s1 s2 s3 h = some o) : am_W X (d + 2) 173 64 lv [(.int s3), (.int s2), (.int s1), s0] h (fun q => q = o) := by
  unfold fg_173_64 at hs
  obtain ⟨z1, hs1⟩ := am_ift hs
  clear hs
  refine aw_call (F := fm_51 s0 s1 s2 s3 h) (t := true) (na := 4) (kd := 1) (as := [s0, (.int s1), (.int s2), (.int s3)]) at_173_64 (am_k3v kb_51) mn_51 mk_51 rfl rfl (am_ok_v mi_51 (am_hl rfl (am_ccR j0 (am_ccI (am_ccI (am_ccI am_cats_0)))) rfl) z1) (am_hc am_cats_0 rfl) (fun _ => ⟨rfl, hh_173⟩) (fun o1 hz9 => rm_51 s0 s1 s2 s3 h o1 j0 hz9) ?_
  rcases am_cV_s hs1 with ⟨h3, f4, hs2⟩ | hs2
  · clear hs1
    refine Or.inl ⟨_, _, f4, ?_⟩
    show am_W X _ 173 67 _ [] h3 _
    refine aw_iconst (v := 1) (pc1 := 68) at_173_67 (by decide) rfl ?_
    cases hs2
    exact aw_iret at_173_68 (by rw [rt_173]; decide) rfl
  · clear hs1
    exact Or.inr hs2
def fg_173_26 (h : am_H) : Option am_O := some (.inl (some (.int 0), h))
theorem rg_173_26 {X : am_X} {d : Nat} {lv : am_LV} (h : am_H) (o : am_O) (hs : fg_173_26 h = some o) : am_W X (d + 2) 173 26 lv [] h (fun q => q = o) := by
  unfold fg_173_26 at hs
  refine aw_iconst (v := 0) (pc1 := 27) at_173_26 (by decide) rfl ?_
  cases hs
  exact aw_iret at_173_27 (by rw [rt_173]; decide) rfl
def fg_173_0 (x0 : Value) (x1 : Int32) (x2 : Int32) (h : am_H) : Option am_O := ((am_vR (am_pG 5 x0 h)).bind fun v1 => (if am_pOk 3 v1 h then am_cI true (fm_54 v1 x1 0 h) (fun v4 h5 => (if x2 = v4 then (fg_173_26 h5) else am_cI false (fm_174 x2 h5) (fun v8 h9 => am_cI false (fm_174 v4 h9) (fun v11 h12 => (if v8 = v11 then ((am_vR (am_pG 0 x0 h12)).bind fun v15 => ((am_vR (am_pG 5 x0 h12)).bind fun v17 => (if am_pOk 3 v15 h12 then am_cV true (fm_60 v15 v17 h12) (fun h21 => ((am_vR (am_pG 0 x0 h21)).bind fun v23 => (if am_pOk 3 v23 h21 then am_cV true (fm_51 v23 x1 0 x2 h21) (fun h27 => ((am_vR (am_pG 0 x0 h27)).bind fun v29 => (if ¬ x2 = 0 then (fg_173_64 v29 x1 1 0 h27) else (fg_173_64 v29 x1 1 1 h27)))) else none))) else none))) else (fg_173_26 h12)))))) else none))
theorem rg_173_0 {X : am_X} {d : Nat} {lv : am_LV} (x0 : Value) (x1 : Int32) (x2 : Int32) (h : am_H) (o : am_O) (l0 : lv.lookup 0 = some x0) (l1 : lv.lookup 1 = some (.int x1)) (l2 : lv.lookup 2 = some (.int x2)) (i0 : am_isR x0 = true) (hs : fg_173_0 x0 x1 x2 h = some o) : am_W X (d + 2) 173 0 lv [] h (fun q => q = o) := by
  unfold fg_173_0 at hs
  refine aw_vload_n (pc1 := 1) at_173_0 l0 i0 rfl ?_
  obtain ⟨v1, e2, hs1⟩ := am_bind hs
  clear hs
  refine aw_pG (pc1 := 4) at_173_1 (am_vR_s e2).1 rfl ?_
  refine aw_iload_n (pc1 := 5) at_173_4 l1 rfl ?_
  refine aw_iconst (v := 0) (pc1 := 6) at_173_5 (by decide) rfl ?_
  obtain ⟨z3, hs2⟩ := am_ift hs1
  clear hs1
  refine aw_call (F := fm_54 v1 x1 0 h) (t := true) (na := 3) (kd := 1) (as := [v1, (.int x1), (.int 0)]) at_173_6 (am_k3v kb_54) mn_54 mk_54 rfl rfl (am_ok_v mi_54 (am_hl rfl (am_ccR (am_vR_s e2).2 (am_ccI (am_ccI am_cats_0))) rfl) z3) (am_hc am_cats_0 rfl) (fun _ => ⟨rfl, hh_173⟩) (fun o1 hz9 => rm_54 v1 x1 0 h o1 (am_vR_s e2).2 hz9) ?_
  rcases am_cI_s hs2 with ⟨v4, h5, f6, hs3⟩ | hs3
  · clear hs2
    refine Or.inl ⟨_, _, f6, ?_⟩
    show am_W X _ 173 9 _ [(.int v4)] h5 _
    refine aw_istore_n (lv1 := am_put1 _ 3 _) (pc1 := 10) at_173_9 rfl rfl ?_
    refine aw_iload_n (pc1 := 11) at_173_10 (am_lk1 l2 rfl rfl) rfl ?_
    refine aw_iload_n (pc1 := 12) at_173_11 am_lk0 rfl ?_
    by_cases c7 : x2 = v4
    · rw [if_pos c7] at hs3
      refine aw_iceq_t at_173_12 c7 ?_
      exact rg_173_26 h5 o   hs3
    · rw [if_neg c7] at hs3
      refine aw_iceq_f (pc1 := 15) at_173_12 c7 rfl ?_
      refine aw_iload_n (pc1 := 16) at_173_15 (am_lk1 l2 rfl rfl) rfl ?_
      refine aw_call (F := fm_174 x2 h5) (t := false) (na := 1) (kd := 0) (as := [(.int x2)]) at_173_16 (am_k3s kb_174) mn_174 mk_174 rfl rfl (am_ok_s mi_174 (am_hl rfl (am_ccI am_cats_0) rfl)) (am_hc am_cats_0 rfl) (fun hz9 => by cases hz9) (fun o1 hz9 => rm_174 x2 h5 o1  hz9) ?_
      rcases am_cI_s hs3 with ⟨v8, h9, f10, hs4⟩ | hs4
      · clear hs3
        refine Or.inl ⟨_, _, f10, ?_⟩
        show am_W X _ 173 19 _ [(.int v8)] h9 _
        refine aw_iload_n (pc1 := 20) at_173_19 am_lk0 rfl ?_
        refine aw_call (F := fm_174 v4 h9) (t := false) (na := 1) (kd := 0) (as := [(.int v4)]) at_173_20 (am_k3s kb_174) mn_174 mk_174 rfl rfl (am_ok_s mi_174 (am_hl rfl (am_ccI am_cats_0) rfl)) (am_hc (am_ccI am_cats_0) rfl) (fun hz9 => by cases hz9) (fun o1 hz9 => rm_174 v4 h9 o1  hz9) ?_
        rcases am_cI_s hs4 with ⟨v11, h12, f13, hs5⟩ | hs5
        · clear hs4
          refine Or.inl ⟨_, _, f13, ?_⟩
          show am_W X _ 173 23 _ [(.int v11), (.int v8)] h12 _
          by_cases c14 : v8 = v11
          · rw [if_pos c14] at hs5
            refine aw_iceq_t at_173_23 c14 ?_
            refine aw_vload_n (pc1 := 29) at_173_28 (am_lk1 l0 rfl rfl) i0 rfl ?_
            obtain ⟨v15, e16, hs6⟩ := am_bind hs5
            clear hs5
            refine aw_pG (pc1 := 32) at_173_29 (am_vR_s e16).1 rfl ?_
            refine aw_vload_n (pc1 := 33) at_173_32 (am_lk1 l0 rfl rfl) i0 rfl ?_
            obtain ⟨v17, e18, hs7⟩ := am_bind hs6
            clear hs6
            refine aw_pG (pc1 := 36) at_173_33 (am_vR_s e18).1 rfl ?_
            obtain ⟨z19, hs8⟩ := am_ift hs7
            clear hs7
            refine aw_call (F := fm_60 v15 v17 h12) (t := true) (na := 2) (kd := 1) (as := [v15, v17]) at_173_36 (am_k3v kb_60) mn_60 mk_60 rfl rfl (am_ok_v mi_60 (am_hl rfl (am_ccR (am_vR_s e16).2 (am_ccR (am_vR_s e18).2 am_cats_0)) rfl) z19) (am_hc am_cats_0 rfl) (fun _ => ⟨rfl, hh_173⟩) (fun o1 hz9 => rm_60 v15 v17 h12 o1 (am_vR_s e16).2 (am_vR_s e18).2 hz9) ?_
            rcases am_cV_s hs8 with ⟨h21, f22, hs9⟩ | hs9
            · clear hs8
              refine Or.inl ⟨_, _, f22, ?_⟩
              show am_W X _ 173 39 _ [] h21 _
              refine aw_vload_n (pc1 := 40) at_173_39 (am_lk1 l0 rfl rfl) i0 rfl ?_
              obtain ⟨v23, e24, hs10⟩ := am_bind hs9
              clear hs9
              refine aw_pG (pc1 := 43) at_173_40 (am_vR_s e24).1 rfl ?_
              refine aw_iload_n (pc1 := 44) at_173_43 (am_lk1 l1 rfl rfl) rfl ?_
              refine aw_iconst (v := 0) (pc1 := 45) at_173_44 (by decide) rfl ?_
              refine aw_iload_n (pc1 := 46) at_173_45 (am_lk1 l2 rfl rfl) rfl ?_
              obtain ⟨z25, hs11⟩ := am_ift hs10
              clear hs10
              refine aw_call (F := fm_51 v23 x1 0 x2 h21) (t := true) (na := 4) (kd := 1) (as := [v23, (.int x1), (.int 0), (.int x2)]) at_173_46 (am_k3v kb_51) mn_51 mk_51 rfl rfl (am_ok_v mi_51 (am_hl rfl (am_ccR (am_vR_s e24).2 (am_ccI (am_ccI (am_ccI am_cats_0)))) rfl) z25) (am_hc am_cats_0 rfl) (fun _ => ⟨rfl, hh_173⟩) (fun o1 hz9 => rm_51 v23 x1 0 x2 h21 o1 (am_vR_s e24).2 hz9) ?_
              rcases am_cV_s hs11 with ⟨h27, f28, hs12⟩ | hs12
              · clear hs11
                refine Or.inl ⟨_, _, f28, ?_⟩
                show am_W X _ 173 49 _ [] h27 _
                refine aw_vload_n (pc1 := 50) at_173_49 (am_lk1 l0 rfl rfl) i0 rfl ?_
                obtain ⟨v29, e30, hs13⟩ := am_bind hs12
                clear hs12
                refine aw_pG (pc1 := 53) at_173_50 (am_vR_s e30).1 rfl ?_
                refine aw_iload_n (pc1 := 54) at_173_53 (am_lk1 l1 rfl rfl) rfl ?_
                refine aw_iconst (v := 1) (pc1 := 55) at_173_54 (by decide) rfl ?_
                refine aw_iload_n (pc1 := 56) at_173_55 (am_lk1 l2 rfl rfl) rfl ?_
                by_cases c31 : ¬ x2 = 0
                · rw [if_pos c31] at hs13
                  refine aw_ifne_t at_173_56 c31 ?_
                  refine aw_iconst (v := 0) (pc1 := 64) at_173_63 (by decide) rfl ?_
                  exact rg_173_64 v29 x1 1 0 h27 o  (am_vR_s e30).2 hs13
                · rw [if_neg c31] at hs13
                  refine aw_ifne_f (pc1 := 59) at_173_56 c31 rfl ?_
                  refine aw_iconst (v := 1) (pc1 := 60) at_173_59 (by decide) rfl ?_
                  refine aw_goto at_173_60 ?_
                  exact rg_173_64 v29 x1 1 1 h27 o  (am_vR_s e30).2 hs13
              · clear hs11
                exact Or.inr hs12
            · clear hs8
              exact Or.inr hs9
          · rw [if_neg c14] at hs5
            refine aw_iceq_f (pc1 := 26) at_173_23 c14 rfl ?_
            exact rg_173_26 h12 o   hs5
        · clear hs4
          exact Or.inr hs5
      · clear hs3
        exact Or.inr hs4
  · clear hs2
    exact Or.inr hs3
def fm_173 (y0 : Value) (y1 : Int32) (y2 : Int32) (h : am_H) : Option am_O := fg_173_0 y0 y1 y2 h
theorem rm_173 {X : am_X} {d : Nat} (y0 : Value) (y1 : Int32) (y2 : Int32) (h : am_H) (o : am_O) (i0 : am_isR y0 = true) (hs : fm_173 y0 y1 y2 h = some o) : am_W X (d + 2) 173 0 (am_args 0 [y0, .int y1, .int y2]) [] h (fun q => q = o) := by
  rw [am_args_R i0, am_args_I, am_args_I]
  exact rg_173_0 y0 y1 y2 h o rfl rfl rfl i0 hs
def fg_175_132 (N : Nat) (rec_62 : Value → Int32 → Int32 → Int32 → am_H → Option am_O) (x0 : Value) (x1 : Int32) (x2 : Int32) (x3 : Int32) (h : am_H) : Option am_O := (rec_62 x0 x1 x2 ((x3 + 1)) h)
theorem rg_175_132 {X : am_X} {d : Nat} {N : Nat} {rec_62 : Value → Int32 → Int32 → Int32 → am_H → Option am_O} (q_62 : ∀ (x0 : Value) (x1 : Int32) (x2 : Int32) (x3 : Int32) (h : am_H) (o : am_O), rec_62 x0 x1 x2 x3 h = some o → ∀ lv : am_LV, (lv.lookup 0 = some x0) → (lv.lookup 1 = some (.int x1)) → (lv.lookup 2 = some (.int x2)) → (lv.lookup 3 = some (.int x3)) → (am_isR x0 = true) → am_W X (d + 1) 175 62 lv [] h (fun q => q = o)) {lv : am_LV} (x0 : Value) (x1 : Int32) (x2 : Int32) (x3 : Int32) (h : am_H) (o : am_O) (l0 : lv.lookup 0 = some x0) (l1 : lv.lookup 1 = some (.int x1)) (l2 : lv.lookup 2 = some (.int x2)) (l3 : lv.lookup 3 = some (.int x3)) (i0 : am_isR x0 = true) (hs : fg_175_132 N rec_62 x0 x1 x2 x3 h = some o) : am_W X (d + 1) 175 132 lv [] h (fun q => q = o) := by
  unfold fg_175_132 at hs
  refine aw_iinc (v := (x3 + 1)) (c := 1) (lv1 := am_put1 _ 3 _) (pc1 := 135) at_175_132 l3 (by decide) rfl rfl rfl ?_
  refine aw_goto at_175_135 ?_
  exact q_62 x0 x1 x2 ((x3 + 1)) h o hs _ (am_lk1 l0 rfl rfl) (am_lk1 l1 rfl rfl) (am_lk1 l2 rfl rfl) am_lk0 i0
def fg_175_62 (N : Nat) : Nat → Value → Int32 → Int32 → Int32 → am_H → Option am_O
  | 0 => fun _ _ _ _ _ => none
  | K + 1 => fun x0 x1 x2 x3 h => (if x1 ≤ x3 then some (.inl (some (.int 1), h)) else ((am_vR (am_pG 5 x0 h)).bind fun v2 => (if am_pOk 3 v2 h then am_cI true (fm_54 v2 x3 1 h) (fun v5 h6 => ((am_vR (am_pG 5 x0 h6)).bind fun v8 => (if am_pOk 3 v8 h6 then am_cI true (fm_54 v8 x3 0 h6) (fun v11 h12 => (if v11 < 17 then (fg_175_132 N (fg_175_62 N K) x0 x1 x2 x3 h12) else (if ((x3 + 1) + v5) ≤ x1 then (fg_175_132 N (fg_175_62 N K) x0 x1 x2 x3 h12) else (if (x1 + x2) ≤ ((x3 + 1) + v5) then ((am_vR (am_pG 0 x0 h12)).bind fun v17 => ((am_vR (am_pG 5 x0 h12)).bind fun v19 => (if am_pOk 3 v19 h12 then am_cI true (fm_54 v19 x3 1 h12) (fun v22 h23 => (if am_pOk 3 v17 h23 then am_cV true (fm_51 v17 x3 1 ((v22 - x2)) h23) (fun h27 => (fg_175_132 N (fg_175_62 N K) x0 x1 x2 x3 h27)) else none)) else none))) else some (.inl (some (.int 0), h12)))))) else none))) else none)))
theorem rg_175_62 {X : am_X} {d : Nat} {N : Nat} : ∀ (K : Nat) (x0 : Value) (x1 : Int32) (x2 : Int32) (x3 : Int32) (h : am_H) (o : am_O), fg_175_62 N K x0 x1 x2 x3 h = some o → ∀ lv : am_LV, (lv.lookup 0 = some x0) → (lv.lookup 1 = some (.int x1)) → (lv.lookup 2 = some (.int x2)) → (lv.lookup 3 = some (.int x3)) → (am_isR x0 = true) → am_W X (d + 1) 175 62 lv [] h (fun q => q = o) := by
  intro K
  induction K with
  | zero => intro x0 x1 x2 x3 h o hs; cases hs
  | succ K ih =>
    intro x0 x1 x2 x3 h o hs lv l0 l1 l2 l3 i0
    unfold fg_175_62 at hs
    refine aw_iload_n (pc1 := 63) at_175_62 l3 rfl ?_
    refine aw_iload_n (pc1 := 64) at_175_63 l1 rfl ?_
    by_cases c1 : x1 ≤ x3
    · rw [if_pos c1] at hs
      refine aw_icge_t at_175_64 c1 ?_
      refine aw_iconst (v := 1) (pc1 := 139) at_175_138 (by decide) rfl ?_
      cases hs
      exact aw_iret at_175_139 (by rw [rt_175]; decide) rfl
    · rw [if_neg c1] at hs
      refine aw_icge_f (pc1 := 67) at_175_64 c1 rfl ?_
      refine aw_iload_n (pc1 := 68) at_175_67 l3 rfl ?_
      refine aw_iconst (v := 1) (pc1 := 69) at_175_68 (by decide) rfl ?_
      refine aw_iadd (v := (x3 + 1)) (pc1 := 70) at_175_69 rfl rfl ?_
      refine aw_vload_n (pc1 := 71) at_175_70 l0 i0 rfl ?_
      obtain ⟨v2, e3, hs1⟩ := am_bind hs
      clear hs
      refine aw_pG (pc1 := 74) at_175_71 (am_vR_s e3).1 rfl ?_
      refine aw_iload_n (pc1 := 75) at_175_74 l3 rfl ?_
      refine aw_iconst (v := 1) (pc1 := 76) at_175_75 (by decide) rfl ?_
      obtain ⟨z4, hs2⟩ := am_ift hs1
      clear hs1
      refine aw_call (F := fm_54 v2 x3 1 h) (t := true) (na := 3) (kd := 1) (as := [v2, (.int x3), (.int 1)]) at_175_76 (am_k3v kb_54) mn_54 mk_54 rfl rfl (am_ok_v mi_54 (am_hl rfl (am_ccR (am_vR_s e3).2 (am_ccI (am_ccI am_cats_0))) rfl) z4) (am_hc (am_ccI am_cats_0) rfl) (fun _ => ⟨rfl, hh_175⟩) (fun o1 hz9 => rm_54 v2 x3 1 h o1 (am_vR_s e3).2 hz9) ?_
      rcases am_cI_s hs2 with ⟨v5, h6, f7, hs3⟩ | hs3
      · clear hs2
        refine Or.inl ⟨_, _, f7, ?_⟩
        show am_W X _ 175 79 _ [(.int v5), (.int (x3 + 1))] h6 _
        refine aw_iadd (v := ((x3 + 1) + v5)) (pc1 := 80) at_175_79 rfl rfl ?_
        refine aw_istore (lv1 := am_put1 _ 4 _) (pc1 := 82) at_175_80 rfl rfl ?_
        refine aw_vload_n (pc1 := 83) at_175_82 (am_lk1 l0 rfl rfl) i0 rfl ?_
        obtain ⟨v8, e9, hs4⟩ := am_bind hs3
        clear hs3
        refine aw_pG (pc1 := 86) at_175_83 (am_vR_s e9).1 rfl ?_
        refine aw_iload_n (pc1 := 87) at_175_86 (am_lk1 l3 rfl rfl) rfl ?_
        refine aw_iconst (v := 0) (pc1 := 88) at_175_87 (by decide) rfl ?_
        obtain ⟨z10, hs5⟩ := am_ift hs4
        clear hs4
        refine aw_call (F := fm_54 v8 x3 0 h6) (t := true) (na := 3) (kd := 1) (as := [v8, (.int x3), (.int 0)]) at_175_88 (am_k3v kb_54) mn_54 mk_54 rfl rfl (am_ok_v mi_54 (am_hl rfl (am_ccR (am_vR_s e9).2 (am_ccI (am_ccI am_cats_0))) rfl) z10) (am_hc am_cats_0 rfl) (fun _ => ⟨rfl, hh_175⟩) (fun o1 hz9 => rm_54 v8 x3 0 h6 o1 (am_vR_s e9).2 hz9) ?_
        rcases am_cI_s hs5 with ⟨v11, h12, f13, hs6⟩ | hs6
        · clear hs5
          refine Or.inl ⟨_, _, f13, ?_⟩
          show am_W X _ 175 91 _ [(.int v11)] h12 _
          refine aw_bipush (v := 17) (pc1 := 93) at_175_91 (by decide) rfl ?_
          by_cases c14 : v11 < 17
          · rw [if_pos c14] at hs6
            refine aw_iclt_t at_175_93 c14 ?_
            exact rg_175_132 (fun z0 z1 z2 z3 h o hs6 => ih z0 z1 z2 z3 h o hs6) x0 x1 x2 x3 h12 o (am_lk1 l0 rfl rfl) (am_lk1 l1 rfl rfl) (am_lk1 l2 rfl rfl) (am_lk1 l3 rfl rfl) i0 hs6
          · rw [if_neg c14] at hs6
            refine aw_iclt_f (pc1 := 96) at_175_93 c14 rfl ?_
            refine aw_iload (pc1 := 98) at_175_96 am_lk0 rfl ?_
            refine aw_iload_n (pc1 := 99) at_175_98 (am_lk1 l1 rfl rfl) rfl ?_
            by_cases c15 : ((x3 + 1) + v5) ≤ x1
            · rw [if_pos c15] at hs6
              refine aw_icle_t at_175_99 c15 ?_
              exact rg_175_132 (fun z0 z1 z2 z3 h o hs6 => ih z0 z1 z2 z3 h o hs6) x0 x1 x2 x3 h12 o (am_lk1 l0 rfl rfl) (am_lk1 l1 rfl rfl) (am_lk1 l2 rfl rfl) (am_lk1 l3 rfl rfl) i0 hs6
            · rw [if_neg c15] at hs6
              refine aw_icle_f (pc1 := 102) at_175_99 c15 rfl ?_
              refine aw_iload (pc1 := 104) at_175_102 am_lk0 rfl ?_
              refine aw_iload_n (pc1 := 105) at_175_104 (am_lk1 l1 rfl rfl) rfl ?_
              refine aw_iload_n (pc1 := 106) at_175_105 (am_lk1 l2 rfl rfl) rfl ?_
              refine aw_iadd (v := (x1 + x2)) (pc1 := 107) at_175_106 rfl rfl ?_
              by_cases c16 : (x1 + x2) ≤ ((x3 + 1) + v5)
              · rw [if_pos c16] at hs6
                refine aw_icge_t at_175_107 c16 ?_
                refine aw_vload_n (pc1 := 113) at_175_112 (am_lk1 l0 rfl rfl) i0 rfl ?_
                obtain ⟨v17, e18, hs7⟩ := am_bind hs6
                clear hs6
                refine aw_pG (pc1 := 116) at_175_113 (am_vR_s e18).1 rfl ?_
                refine aw_iload_n (pc1 := 117) at_175_116 (am_lk1 l3 rfl rfl) rfl ?_
                refine aw_iconst (v := 1) (pc1 := 118) at_175_117 (by decide) rfl ?_
                refine aw_vload_n (pc1 := 119) at_175_118 (am_lk1 l0 rfl rfl) i0 rfl ?_
                obtain ⟨v19, e20, hs8⟩ := am_bind hs7
                clear hs7
                refine aw_pG (pc1 := 122) at_175_119 (am_vR_s e20).1 rfl ?_
                refine aw_iload_n (pc1 := 123) at_175_122 (am_lk1 l3 rfl rfl) rfl ?_
                refine aw_iconst (v := 1) (pc1 := 124) at_175_123 (by decide) rfl ?_
                obtain ⟨z21, hs9⟩ := am_ift hs8
                clear hs8
                refine aw_call (F := fm_54 v19 x3 1 h12) (t := true) (na := 3) (kd := 1) (as := [v19, (.int x3), (.int 1)]) at_175_124 (am_k3v kb_54) mn_54 mk_54 rfl rfl (am_ok_v mi_54 (am_hl rfl (am_ccR (am_vR_s e20).2 (am_ccI (am_ccI am_cats_0))) rfl) z21) (am_hc (am_ccI (am_ccI (am_ccR (am_vR_s e18).2 am_cats_0))) rfl) (fun _ => ⟨rfl, hh_175⟩) (fun o1 hz9 => rm_54 v19 x3 1 h12 o1 (am_vR_s e20).2 hz9) ?_
                rcases am_cI_s hs9 with ⟨v22, h23, f24, hs10⟩ | hs10
                · clear hs9
                  refine Or.inl ⟨_, _, f24, ?_⟩
                  show am_W X _ 175 127 _ [(.int v22), (.int 1), (.int x3), v17] h23 _
                  refine aw_iload_n (pc1 := 128) at_175_127 (am_lk1 l2 rfl rfl) rfl ?_
                  refine aw_isub (v := (v22 - x2)) (pc1 := 129) at_175_128 rfl rfl ?_
                  obtain ⟨z25, hs11⟩ := am_ift hs10
                  clear hs10
                  refine aw_call (F := fm_51 v17 x3 1 ((v22 - x2)) h23) (t := true) (na := 4) (kd := 1) (as := [v17, (.int x3), (.int 1), (.int (v22 - x2))]) at_175_129 (am_k3v kb_51) mn_51 mk_51 rfl rfl (am_ok_v mi_51 (am_hl rfl (am_ccR (am_vR_s e18).2 (am_ccI (am_ccI (am_ccI am_cats_0)))) rfl) z25) (am_hc am_cats_0 rfl) (fun _ => ⟨rfl, hh_175⟩) (fun o1 hz9 => rm_51 v17 x3 1 ((v22 - x2)) h23 o1 (am_vR_s e18).2 hz9) ?_
                  rcases am_cV_s hs11 with ⟨h27, f28, hs12⟩ | hs12
                  · clear hs11
                    refine Or.inl ⟨_, _, f28, ?_⟩
                    show am_W X _ 175 132 _ [] h27 _
                    exact rg_175_132 (fun z0 z1 z2 z3 h o hs12 => ih z0 z1 z2 z3 h o hs12) x0 x1 x2 x3 h27 o (am_lk1 l0 rfl rfl) (am_lk1 l1 rfl rfl) (am_lk1 l2 rfl rfl) (am_lk1 l3 rfl rfl) i0 hs12
                  · clear hs11
                    exact Or.inr hs12
                · clear hs9
                  exact Or.inr hs10
              · rw [if_neg c16] at hs6
                refine aw_icge_f (pc1 := 110) at_175_107 c16 rfl ?_
                refine aw_iconst (v := 0) (pc1 := 111) at_175_110 (by decide) rfl ?_
                cases hs6
                exact aw_iret at_175_111 (by rw [rt_175]; decide) rfl
        · clear hs5
          exact Or.inr hs6
      · clear hs2
        exact Or.inr hs3
def fg_175_0 (N : Nat) (x0 : Value) (x1 : Int32) (x2 : Int32) (h : am_H) : Option am_O := ((am_vR (am_pG 5 x0 h)).bind fun v1 => ((am_vI (am_pG 771 v1 h)).bind fun v3 => (if (x1 + x2) ≤ v3 then ((am_vR (am_pG 0 x0 h)).bind fun v6 => (if am_pOk 3 v6 h then am_cV true (fm_34 v6 1 0 h) (fun h10 => ((am_vR (am_pG 0 x0 h10)).bind fun v12 => ((am_vR (am_pG 5 x0 h10)).bind fun v14 => (if am_pOk 3 v12 h10 then am_cI true (fm_170 v12 v14 0 x1 h10) (fun v17 h18 => ((am_vR (am_pG 0 x0 h18)).bind fun v20 => ((am_vR (am_pG 5 x0 h18)).bind fun v22 => ((am_vR (am_pG 5 x0 h18)).bind fun v24 => ((am_vI (am_pG 771 v24 h18)).bind fun v26 => (if am_pOk 3 v20 h18 then am_cI true (fm_170 v20 v22 ((x1 + x2)) v26 h18) (fun v29 h30 => (fg_175_62 N N x0 x1 x2 0 h30)) else none)))))) else none)))) else none)) else some (.inl (some (.int 0), h)))))
theorem rg_175_0 {X : am_X} {d : Nat} {N : Nat} {lv : am_LV} (x0 : Value) (x1 : Int32) (x2 : Int32) (h : am_H) (o : am_O) (l0 : lv.lookup 0 = some x0) (l1 : lv.lookup 1 = some (.int x1)) (l2 : lv.lookup 2 = some (.int x2)) (i0 : am_isR x0 = true) (hs : fg_175_0 N x0 x1 x2 h = some o) : am_W X (d + 1) 175 0 lv [] h (fun q => q = o) := by
  unfold fg_175_0 at hs
  refine aw_iload_n (pc1 := 1) at_175_0 l1 rfl ?_
  refine aw_iload_n (pc1 := 2) at_175_1 l2 rfl ?_
  refine aw_iadd (v := (x1 + x2)) (pc1 := 3) at_175_2 rfl rfl ?_
  refine aw_vload_n (pc1 := 4) at_175_3 l0 i0 rfl ?_
  obtain ⟨v1, e2, hs1⟩ := am_bind hs
  clear hs
  refine aw_pG (pc1 := 7) at_175_4 (am_vR_s e2).1 rfl ?_
  obtain ⟨v3, e4, hs2⟩ := am_bind hs1
  clear hs1
  refine aw_pG (pc1 := 10) at_175_7 (am_vI_s e4) rfl ?_
  by_cases c5 : (x1 + x2) ≤ v3
  · rw [if_pos c5] at hs2
    refine aw_icle_t at_175_10 c5 ?_
    refine aw_vload_n (pc1 := 16) at_175_15 l0 i0 rfl ?_
    obtain ⟨v6, e7, hs3⟩ := am_bind hs2
    clear hs2
    refine aw_pG (pc1 := 19) at_175_16 (am_vR_s e7).1 rfl ?_
    refine aw_iconst (v := 1) (pc1 := 20) at_175_19 (by decide) rfl ?_
    refine aw_iconst (v := 0) (pc1 := 21) at_175_20 (by decide) rfl ?_
    obtain ⟨z8, hs4⟩ := am_ift hs3
    clear hs3
    refine aw_call (F := fm_34 v6 1 0 h) (t := true) (na := 3) (kd := 1) (as := [v6, (.int 1), (.int 0)]) at_175_21 (am_k3v kb_34) mn_34 mk_34 rfl rfl (am_ok_v mi_34 (am_hl rfl (am_ccR (am_vR_s e7).2 (am_ccI (am_ccI am_cats_0))) rfl) z8) (am_hc am_cats_0 rfl) (fun _ => ⟨rfl, hh_175⟩) (fun o1 hz9 => rm_34 v6 1 0 h o1 (am_vR_s e7).2 hz9) ?_
    rcases am_cV_s hs4 with ⟨h10, f11, hs5⟩ | hs5
    · clear hs4
      refine Or.inl ⟨_, _, f11, ?_⟩
      show am_W X _ 175 24 _ [] h10 _
      refine aw_vload_n (pc1 := 25) at_175_24 l0 i0 rfl ?_
      obtain ⟨v12, e13, hs6⟩ := am_bind hs5
      clear hs5
      refine aw_pG (pc1 := 28) at_175_25 (am_vR_s e13).1 rfl ?_
      refine aw_vload_n (pc1 := 29) at_175_28 l0 i0 rfl ?_
      obtain ⟨v14, e15, hs7⟩ := am_bind hs6
      clear hs6
      refine aw_pG (pc1 := 32) at_175_29 (am_vR_s e15).1 rfl ?_
      refine aw_iconst (v := 0) (pc1 := 33) at_175_32 (by decide) rfl ?_
      refine aw_iload_n (pc1 := 34) at_175_33 l1 rfl ?_
      obtain ⟨z16, hs8⟩ := am_ift hs7
      clear hs7
      refine aw_call (F := fm_170 v12 v14 0 x1 h10) (t := true) (na := 4) (kd := 1) (as := [v12, v14, (.int 0), (.int x1)]) at_175_34 (am_k3v kb_170) mn_170 mk_170 rfl rfl (am_ok_v mi_170 (am_hl rfl (am_ccR (am_vR_s e13).2 (am_ccR (am_vR_s e15).2 (am_ccI (am_ccI am_cats_0)))) rfl) z16) (am_hc am_cats_0 rfl) (fun _ => ⟨rfl, hh_175⟩) (fun o1 hz9 => rm_170 v12 v14 0 x1 h10 o1 (am_vR_s e13).2 (am_vR_s e15).2 hz9) ?_
      rcases am_cI_s hs8 with ⟨v17, h18, f19, hs9⟩ | hs9
      · clear hs8
        refine Or.inl ⟨_, _, f19, ?_⟩
        show am_W X _ 175 37 _ [(.int v17)] h18 _
        refine aw_popi (pc1 := 38) at_175_37 rfl ?_
        refine aw_vload_n (pc1 := 39) at_175_38 l0 i0 rfl ?_
        obtain ⟨v20, e21, hs10⟩ := am_bind hs9
        clear hs9
        refine aw_pG (pc1 := 42) at_175_39 (am_vR_s e21).1 rfl ?_
        refine aw_vload_n (pc1 := 43) at_175_42 l0 i0 rfl ?_
        obtain ⟨v22, e23, hs11⟩ := am_bind hs10
        clear hs10
        refine aw_pG (pc1 := 46) at_175_43 (am_vR_s e23).1 rfl ?_
        refine aw_iload_n (pc1 := 47) at_175_46 l1 rfl ?_
        refine aw_iload_n (pc1 := 48) at_175_47 l2 rfl ?_
        refine aw_iadd (v := (x1 + x2)) (pc1 := 49) at_175_48 rfl rfl ?_
        refine aw_vload_n (pc1 := 50) at_175_49 l0 i0 rfl ?_
        obtain ⟨v24, e25, hs12⟩ := am_bind hs11
        clear hs11
        refine aw_pG (pc1 := 53) at_175_50 (am_vR_s e25).1 rfl ?_
        obtain ⟨v26, e27, hs13⟩ := am_bind hs12
        clear hs12
        refine aw_pG (pc1 := 56) at_175_53 (am_vI_s e27) rfl ?_
        obtain ⟨z28, hs14⟩ := am_ift hs13
        clear hs13
        refine aw_call (F := fm_170 v20 v22 ((x1 + x2)) v26 h18) (t := true) (na := 4) (kd := 1) (as := [v20, v22, (.int (x1 + x2)), (.int v26)]) at_175_56 (am_k3v kb_170) mn_170 mk_170 rfl rfl (am_ok_v mi_170 (am_hl rfl (am_ccR (am_vR_s e21).2 (am_ccR (am_vR_s e23).2 (am_ccI (am_ccI am_cats_0)))) rfl) z28) (am_hc am_cats_0 rfl) (fun _ => ⟨rfl, hh_175⟩) (fun o1 hz9 => rm_170 v20 v22 ((x1 + x2)) v26 h18 o1 (am_vR_s e21).2 (am_vR_s e23).2 hz9) ?_
        rcases am_cI_s hs14 with ⟨v29, h30, f31, hs15⟩ | hs15
        · clear hs14
          refine Or.inl ⟨_, _, f31, ?_⟩
          show am_W X _ 175 59 _ [(.int v29)] h30 _
          refine aw_popi (pc1 := 60) at_175_59 rfl ?_
          refine aw_iconst (v := 0) (pc1 := 61) at_175_60 (by decide) rfl ?_
          refine aw_istore_n (lv1 := am_put1 _ 3 _) (pc1 := 62) at_175_61 rfl rfl ?_
          exact rg_175_62 N x0 x1 x2 0 h30 o hs15 _ (am_lk1 l0 rfl rfl) (am_lk1 l1 rfl rfl) (am_lk1 l2 rfl rfl) am_lk0 i0
        · clear hs14
          exact Or.inr hs15
      · clear hs8
        exact Or.inr hs9
    · clear hs4
      exact Or.inr hs5
  · rw [if_neg c5] at hs2
    refine aw_icle_f (pc1 := 13) at_175_10 c5 rfl ?_
    refine aw_iconst (v := 0) (pc1 := 14) at_175_13 (by decide) rfl ?_
    cases hs2
    exact aw_iret at_175_14 (by rw [rt_175]; decide) rfl
def fm_175 (N : Nat) (y0 : Value) (y1 : Int32) (y2 : Int32) (h : am_H) : Option am_O := fg_175_0 N y0 y1 y2 h
theorem rm_175 {X : am_X} {d : Nat} {N : Nat} (y0 : Value) (y1 : Int32) (y2 : Int32) (h : am_H) (o : am_O) (i0 : am_isR y0 = true) (hs : fm_175 N y0 y1 y2 h = some o) : am_W X (d + 1) 175 0 (am_args 0 [y0, .int y1, .int y2]) [] h (fun q => q = o) := by
  rw [am_args_R i0, am_args_I, am_args_I]
  exact rg_175_0 y0 y1 y2 h o rfl rfl rfl i0 hs
def fg_176_230 (N : Nat) (rec_168 : Value → Int32 → Int32 → am_H → Option am_O) (x0 : Value) (x1 : Int32) (x3 : Int32) (h : am_H) : Option am_O := (rec_168 x0 x1 ((x3 + 1)) h)
theorem rg_176_230 {X : am_X} {d : Nat} {N : Nat} {rec_168 : Value → Int32 → Int32 → am_H → Option am_O} (q_168 : ∀ (x0 : Value) (x1 : Int32) (x3 : Int32) (h : am_H) (o : am_O), rec_168 x0 x1 x3 h = some o → ∀ lv : am_LV, (lv.lookup 0 = some x0) → (lv.lookup 1 = some (.int x1)) → (lv.lookup 3 = some (.int x3)) → (am_isR x0 = true) → am_W X (d + 1) 176 168 lv [] h (fun q => q = o)) {lv : am_LV} (x0 : Value) (x1 : Int32) (x3 : Int32) (h : am_H) (o : am_O) (l0 : lv.lookup 0 = some x0) (l1 : lv.lookup 1 = some (.int x1)) (l3 : lv.lookup 3 = some (.int x3)) (i0 : am_isR x0 = true) (hs : fg_176_230 N rec_168 x0 x1 x3 h = some o) : am_W X (d + 1) 176 230 lv [] h (fun q => q = o) := by
  unfold fg_176_230 at hs
  refine aw_iinc (v := (x3 + 1)) (c := 1) (lv1 := am_put1 _ 3 _) (pc1 := 233) at_176_230 l3 (by decide) rfl rfl rfl ?_
  refine aw_goto at_176_233 ?_
  exact q_168 x0 x1 ((x3 + 1)) h o hs _ (am_lk1 l0 rfl rfl) (am_lk1 l1 rfl rfl) am_lk0 i0
def fg_176_168 (N : Nat) : Nat → Value → Int32 → Int32 → am_H → Option am_O
  | 0 => fun _ _ _ _ => none
  | K + 1 => fun x0 x1 x3 h => (if x1 ≤ x3 then some (.inl (some (.int 1), h)) else ((am_vR (am_pG 5 x0 h)).bind fun v2 => (if am_pOk 3 v2 h then am_cI true (fm_54 v2 x3 0 h) (fun v5 h6 => (if v5 < 17 then (fg_176_230 N (fg_176_168 N K) x0 x1 x3 h6) else ((am_vR (am_pG 5 x0 h6)).bind fun v9 => (if am_pOk 3 v9 h6 then am_cI true (fm_54 v9 x3 1 h6) (fun v12 h13 => (if ((x3 + 1) + v12) ≤ x1 then (fg_176_230 N (fg_176_168 N K) x0 x1 x3 h13) else ((am_vR (am_pG 0 x0 h13)).bind fun v16 => ((am_vR (am_pG 5 x0 h13)).bind fun v18 => (if am_pOk 3 v18 h13 then am_cI true (fm_54 v18 x3 1 h13) (fun v21 h22 => ((am_vR (am_pG 1 x0 h22)).bind fun v24 => ((am_vI (am_pG 771 v24 h22)).bind fun v26 => (if am_pOk 3 v16 h22 then am_cV true (fm_51 v16 x3 1 ((v21 + v26)) h22) (fun h30 => (fg_176_230 N (fg_176_168 N K) x0 x1 x3 h30)) else none)))) else none))))) else none)))) else none)))
theorem rg_176_168 {X : am_X} {d : Nat} {N : Nat} : ∀ (K : Nat) (x0 : Value) (x1 : Int32) (x3 : Int32) (h : am_H) (o : am_O), fg_176_168 N K x0 x1 x3 h = some o → ∀ lv : am_LV, (lv.lookup 0 = some x0) → (lv.lookup 1 = some (.int x1)) → (lv.lookup 3 = some (.int x3)) → (am_isR x0 = true) → am_W X (d + 1) 176 168 lv [] h (fun q => q = o) := by
  intro K
  induction K with
  | zero => intro x0 x1 x3 h o hs; cases hs
  | succ K ih =>
    intro x0 x1 x3 h o hs lv l0 l1 l3 i0
    unfold fg_176_168 at hs
    refine aw_iload_n (pc1 := 169) at_176_168 l3 rfl ?_
    refine aw_iload_n (pc1 := 170) at_176_169 l1 rfl ?_
    by_cases c1 : x1 ≤ x3
    · rw [if_pos c1] at hs
      refine aw_icge_t at_176_170 c1 ?_
      refine aw_iconst (v := 1) (pc1 := 237) at_176_236 (by decide) rfl ?_
      cases hs
      exact aw_iret at_176_237 (by rw [rt_176]; decide) rfl
    · rw [if_neg c1] at hs
      refine aw_icge_f (pc1 := 173) at_176_170 c1 rfl ?_
      refine aw_vload_n (pc1 := 174) at_176_173 l0 i0 rfl ?_
      obtain ⟨v2, e3, hs1⟩ := am_bind hs
      clear hs
      refine aw_pG (pc1 := 177) at_176_174 (am_vR_s e3).1 rfl ?_
      refine aw_iload_n (pc1 := 178) at_176_177 l3 rfl ?_
      refine aw_iconst (v := 0) (pc1 := 179) at_176_178 (by decide) rfl ?_
      obtain ⟨z4, hs2⟩ := am_ift hs1
      clear hs1
      refine aw_call (F := fm_54 v2 x3 0 h) (t := true) (na := 3) (kd := 1) (as := [v2, (.int x3), (.int 0)]) at_176_179 (am_k3v kb_54) mn_54 mk_54 rfl rfl (am_ok_v mi_54 (am_hl rfl (am_ccR (am_vR_s e3).2 (am_ccI (am_ccI am_cats_0))) rfl) z4) (am_hc am_cats_0 rfl) (fun _ => ⟨rfl, hh_176⟩) (fun o1 hz9 => rm_54 v2 x3 0 h o1 (am_vR_s e3).2 hz9) ?_
      rcases am_cI_s hs2 with ⟨v5, h6, f7, hs3⟩ | hs3
      · clear hs2
        refine Or.inl ⟨_, _, f7, ?_⟩
        show am_W X _ 176 182 _ [(.int v5)] h6 _
        refine aw_bipush (v := 17) (pc1 := 184) at_176_182 (by decide) rfl ?_
        by_cases c8 : v5 < 17
        · rw [if_pos c8] at hs3
          refine aw_iclt_t at_176_184 c8 ?_
          exact rg_176_230 (fun z0 z1 z2 h o hs3 => ih z0 z1 z2 h o hs3) x0 x1 x3 h6 o l0 l1 l3 i0 hs3
        · rw [if_neg c8] at hs3
          refine aw_iclt_f (pc1 := 187) at_176_184 c8 rfl ?_
          refine aw_iload_n (pc1 := 188) at_176_187 l3 rfl ?_
          refine aw_iconst (v := 1) (pc1 := 189) at_176_188 (by decide) rfl ?_
          refine aw_iadd (v := (x3 + 1)) (pc1 := 190) at_176_189 rfl rfl ?_
          refine aw_vload_n (pc1 := 191) at_176_190 l0 i0 rfl ?_
          obtain ⟨v9, e10, hs4⟩ := am_bind hs3
          clear hs3
          refine aw_pG (pc1 := 194) at_176_191 (am_vR_s e10).1 rfl ?_
          refine aw_iload_n (pc1 := 195) at_176_194 l3 rfl ?_
          refine aw_iconst (v := 1) (pc1 := 196) at_176_195 (by decide) rfl ?_
          obtain ⟨z11, hs5⟩ := am_ift hs4
          clear hs4
          refine aw_call (F := fm_54 v9 x3 1 h6) (t := true) (na := 3) (kd := 1) (as := [v9, (.int x3), (.int 1)]) at_176_196 (am_k3v kb_54) mn_54 mk_54 rfl rfl (am_ok_v mi_54 (am_hl rfl (am_ccR (am_vR_s e10).2 (am_ccI (am_ccI am_cats_0))) rfl) z11) (am_hc (am_ccI am_cats_0) rfl) (fun _ => ⟨rfl, hh_176⟩) (fun o1 hz9 => rm_54 v9 x3 1 h6 o1 (am_vR_s e10).2 hz9) ?_
          rcases am_cI_s hs5 with ⟨v12, h13, f14, hs6⟩ | hs6
          · clear hs5
            refine Or.inl ⟨_, _, f14, ?_⟩
            show am_W X _ 176 199 _ [(.int v12), (.int (x3 + 1))] h13 _
            refine aw_iadd (v := ((x3 + 1) + v12)) (pc1 := 200) at_176_199 rfl rfl ?_
            refine aw_iload_n (pc1 := 201) at_176_200 l1 rfl ?_
            by_cases c15 : ((x3 + 1) + v12) ≤ x1
            · rw [if_pos c15] at hs6
              refine aw_icle_t at_176_201 c15 ?_
              exact rg_176_230 (fun z0 z1 z2 h o hs6 => ih z0 z1 z2 h o hs6) x0 x1 x3 h13 o l0 l1 l3 i0 hs6
            · rw [if_neg c15] at hs6
              refine aw_icle_f (pc1 := 204) at_176_201 c15 rfl ?_
              refine aw_vload_n (pc1 := 205) at_176_204 l0 i0 rfl ?_
              obtain ⟨v16, e17, hs7⟩ := am_bind hs6
              clear hs6
              refine aw_pG (pc1 := 208) at_176_205 (am_vR_s e17).1 rfl ?_
              refine aw_iload_n (pc1 := 209) at_176_208 l3 rfl ?_
              refine aw_iconst (v := 1) (pc1 := 210) at_176_209 (by decide) rfl ?_
              refine aw_vload_n (pc1 := 211) at_176_210 l0 i0 rfl ?_
              obtain ⟨v18, e19, hs8⟩ := am_bind hs7
              clear hs7
              refine aw_pG (pc1 := 214) at_176_211 (am_vR_s e19).1 rfl ?_
              refine aw_iload_n (pc1 := 215) at_176_214 l3 rfl ?_
              refine aw_iconst (v := 1) (pc1 := 216) at_176_215 (by decide) rfl ?_
              obtain ⟨z20, hs9⟩ := am_ift hs8
              clear hs8
              refine aw_call (F := fm_54 v18 x3 1 h13) (t := true) (na := 3) (kd := 1) (as := [v18, (.int x3), (.int 1)]) at_176_216 (am_k3v kb_54) mn_54 mk_54 rfl rfl (am_ok_v mi_54 (am_hl rfl (am_ccR (am_vR_s e19).2 (am_ccI (am_ccI am_cats_0))) rfl) z20) (am_hc (am_ccI (am_ccI (am_ccR (am_vR_s e17).2 am_cats_0))) rfl) (fun _ => ⟨rfl, hh_176⟩) (fun o1 hz9 => rm_54 v18 x3 1 h13 o1 (am_vR_s e19).2 hz9) ?_
              rcases am_cI_s hs9 with ⟨v21, h22, f23, hs10⟩ | hs10
              · clear hs9
                refine Or.inl ⟨_, _, f23, ?_⟩
                show am_W X _ 176 219 _ [(.int v21), (.int 1), (.int x3), v16] h22 _
                refine aw_vload_n (pc1 := 220) at_176_219 l0 i0 rfl ?_
                obtain ⟨v24, e25, hs11⟩ := am_bind hs10
                clear hs10
                refine aw_pG (pc1 := 223) at_176_220 (am_vR_s e25).1 rfl ?_
                obtain ⟨v26, e27, hs12⟩ := am_bind hs11
                clear hs11
                refine aw_pG (pc1 := 226) at_176_223 (am_vI_s e27) rfl ?_
                refine aw_iadd (v := (v21 + v26)) (pc1 := 227) at_176_226 rfl rfl ?_
                obtain ⟨z28, hs13⟩ := am_ift hs12
                clear hs12
                refine aw_call (F := fm_51 v16 x3 1 ((v21 + v26)) h22) (t := true) (na := 4) (kd := 1) (as := [v16, (.int x3), (.int 1), (.int (v21 + v26))]) at_176_227 (am_k3v kb_51) mn_51 mk_51 rfl rfl (am_ok_v mi_51 (am_hl rfl (am_ccR (am_vR_s e17).2 (am_ccI (am_ccI (am_ccI am_cats_0)))) rfl) z28) (am_hc am_cats_0 rfl) (fun _ => ⟨rfl, hh_176⟩) (fun o1 hz9 => rm_51 v16 x3 1 ((v21 + v26)) h22 o1 (am_vR_s e17).2 hz9) ?_
                rcases am_cV_s hs13 with ⟨h30, f31, hs14⟩ | hs14
                · clear hs13
                  refine Or.inl ⟨_, _, f31, ?_⟩
                  show am_W X _ 176 230 _ [] h30 _
                  exact rg_176_230 (fun z0 z1 z2 h o hs14 => ih z0 z1 z2 h o hs14) x0 x1 x3 h30 o l0 l1 l3 i0 hs14
                · clear hs13
                  exact Or.inr hs14
              · clear hs9
                exact Or.inr hs10
          · clear hs5
            exact Or.inr hs6
      · clear hs2
        exact Or.inr hs3
def fg_176_164 (N : Nat) (h : am_H) : Option am_O := some (.inl (some (.int 0), h))
theorem rg_176_164 {X : am_X} {d : Nat} {N : Nat} {lv : am_LV} (h : am_H) (o : am_O) (hs : fg_176_164 N h = some o) : am_W X (d + 1) 176 164 lv [] h (fun q => q = o) := by
  unfold fg_176_164 at hs
  refine aw_iconst (v := 0) (pc1 := 165) at_176_164 (by decide) rfl ?_
  cases hs
  exact aw_iret at_176_165 (by rw [rt_176]; decide) rfl
def fg_176_95 (N : Nat) (x0 : Value) (x1 : Int32) (h : am_H) : Option am_O := ((am_vR (am_pG 0 x0 h)).bind fun v1 => (if am_pOk 3 v1 h then am_cV true (fm_34 v1 1 0 h) (fun h5 => ((am_vR (am_pG 0 x0 h5)).bind fun v7 => ((am_vR (am_pG 5 x0 h5)).bind fun v9 => (if am_pOk 3 v7 h5 then am_cI true (fm_170 v7 v9 0 x1 h5) (fun v12 h13 => (if v12 = 0 then (fg_176_164 N h13) else ((am_vR (am_pG 0 x0 h13)).bind fun v16 => ((am_vR (am_pG 1 x0 h13)).bind fun v18 => ((am_vR (am_pG 1 x0 h13)).bind fun v20 => ((am_vI (am_pG 771 v20 h13)).bind fun v22 => (if am_pOk 3 v16 h13 then am_cI true (fm_170 v16 v18 0 v22 h13) (fun v25 h26 => (if v25 = 0 then (fg_176_164 N h26) else ((am_vR (am_pG 0 x0 h26)).bind fun v29 => ((am_vR (am_pG 5 x0 h26)).bind fun v31 => ((am_vR (am_pG 5 x0 h26)).bind fun v33 => ((am_vI (am_pG 771 v33 h26)).bind fun v35 => (if am_pOk 3 v29 h26 then am_cI true (fm_170 v29 v31 x1 v35 h26) (fun v38 h39 => (if ¬ v38 = 0 then (fg_176_168 N N x0 x1 0 h39) else (fg_176_164 N h39))) else none))))))) else none))))))) else none)))) else none))
theorem rg_176_95 {X : am_X} {d : Nat} {N : Nat} {lv : am_LV} (x0 : Value) (x1 : Int32) (h : am_H) (o : am_O) (l0 : lv.lookup 0 = some x0) (l1 : lv.lookup 1 = some (.int x1)) (i0 : am_isR x0 = true) (hs : fg_176_95 N x0 x1 h = some o) : am_W X (d + 1) 176 95 lv [] h (fun q => q = o) := by
  unfold fg_176_95 at hs
  refine aw_vload_n (pc1 := 96) at_176_95 l0 i0 rfl ?_
  obtain ⟨v1, e2, hs1⟩ := am_bind hs
  clear hs
  refine aw_pG (pc1 := 99) at_176_96 (am_vR_s e2).1 rfl ?_
  refine aw_iconst (v := 1) (pc1 := 100) at_176_99 (by decide) rfl ?_
  refine aw_iconst (v := 0) (pc1 := 101) at_176_100 (by decide) rfl ?_
  obtain ⟨z3, hs2⟩ := am_ift hs1
  clear hs1
  refine aw_call (F := fm_34 v1 1 0 h) (t := true) (na := 3) (kd := 1) (as := [v1, (.int 1), (.int 0)]) at_176_101 (am_k3v kb_34) mn_34 mk_34 rfl rfl (am_ok_v mi_34 (am_hl rfl (am_ccR (am_vR_s e2).2 (am_ccI (am_ccI am_cats_0))) rfl) z3) (am_hc am_cats_0 rfl) (fun _ => ⟨rfl, hh_176⟩) (fun o1 hz9 => rm_34 v1 1 0 h o1 (am_vR_s e2).2 hz9) ?_
  rcases am_cV_s hs2 with ⟨h5, f6, hs3⟩ | hs3
  · clear hs2
    refine Or.inl ⟨_, _, f6, ?_⟩
    show am_W X _ 176 104 _ [] h5 _
    refine aw_vload_n (pc1 := 105) at_176_104 l0 i0 rfl ?_
    obtain ⟨v7, e8, hs4⟩ := am_bind hs3
    clear hs3
    refine aw_pG (pc1 := 108) at_176_105 (am_vR_s e8).1 rfl ?_
    refine aw_vload_n (pc1 := 109) at_176_108 l0 i0 rfl ?_
    obtain ⟨v9, e10, hs5⟩ := am_bind hs4
    clear hs4
    refine aw_pG (pc1 := 112) at_176_109 (am_vR_s e10).1 rfl ?_
    refine aw_iconst (v := 0) (pc1 := 113) at_176_112 (by decide) rfl ?_
    refine aw_iload_n (pc1 := 114) at_176_113 l1 rfl ?_
    obtain ⟨z11, hs6⟩ := am_ift hs5
    clear hs5
    refine aw_call (F := fm_170 v7 v9 0 x1 h5) (t := true) (na := 4) (kd := 1) (as := [v7, v9, (.int 0), (.int x1)]) at_176_114 (am_k3v kb_170) mn_170 mk_170 rfl rfl (am_ok_v mi_170 (am_hl rfl (am_ccR (am_vR_s e8).2 (am_ccR (am_vR_s e10).2 (am_ccI (am_ccI am_cats_0)))) rfl) z11) (am_hc am_cats_0 rfl) (fun _ => ⟨rfl, hh_176⟩) (fun o1 hz9 => rm_170 v7 v9 0 x1 h5 o1 (am_vR_s e8).2 (am_vR_s e10).2 hz9) ?_
    rcases am_cI_s hs6 with ⟨v12, h13, f14, hs7⟩ | hs7
    · clear hs6
      refine Or.inl ⟨_, _, f14, ?_⟩
      show am_W X _ 176 117 _ [(.int v12)] h13 _
      by_cases c15 : v12 = 0
      · rw [if_pos c15] at hs7
        refine aw_ifeq_t at_176_117 c15 ?_
        exact rg_176_164 h13 o   hs7
      · rw [if_neg c15] at hs7
        refine aw_ifeq_f (pc1 := 120) at_176_117 c15 rfl ?_
        refine aw_vload_n (pc1 := 121) at_176_120 l0 i0 rfl ?_
        obtain ⟨v16, e17, hs8⟩ := am_bind hs7
        clear hs7
        refine aw_pG (pc1 := 124) at_176_121 (am_vR_s e17).1 rfl ?_
        refine aw_vload_n (pc1 := 125) at_176_124 l0 i0 rfl ?_
        obtain ⟨v18, e19, hs9⟩ := am_bind hs8
        clear hs8
        refine aw_pG (pc1 := 128) at_176_125 (am_vR_s e19).1 rfl ?_
        refine aw_iconst (v := 0) (pc1 := 129) at_176_128 (by decide) rfl ?_
        refine aw_vload_n (pc1 := 130) at_176_129 l0 i0 rfl ?_
        obtain ⟨v20, e21, hs10⟩ := am_bind hs9
        clear hs9
        refine aw_pG (pc1 := 133) at_176_130 (am_vR_s e21).1 rfl ?_
        obtain ⟨v22, e23, hs11⟩ := am_bind hs10
        clear hs10
        refine aw_pG (pc1 := 136) at_176_133 (am_vI_s e23) rfl ?_
        obtain ⟨z24, hs12⟩ := am_ift hs11
        clear hs11
        refine aw_call (F := fm_170 v16 v18 0 v22 h13) (t := true) (na := 4) (kd := 1) (as := [v16, v18, (.int 0), (.int v22)]) at_176_136 (am_k3v kb_170) mn_170 mk_170 rfl rfl (am_ok_v mi_170 (am_hl rfl (am_ccR (am_vR_s e17).2 (am_ccR (am_vR_s e19).2 (am_ccI (am_ccI am_cats_0)))) rfl) z24) (am_hc am_cats_0 rfl) (fun _ => ⟨rfl, hh_176⟩) (fun o1 hz9 => rm_170 v16 v18 0 v22 h13 o1 (am_vR_s e17).2 (am_vR_s e19).2 hz9) ?_
        rcases am_cI_s hs12 with ⟨v25, h26, f27, hs13⟩ | hs13
        · clear hs12
          refine Or.inl ⟨_, _, f27, ?_⟩
          show am_W X _ 176 139 _ [(.int v25)] h26 _
          by_cases c28 : v25 = 0
          · rw [if_pos c28] at hs13
            refine aw_ifeq_t at_176_139 c28 ?_
            exact rg_176_164 h26 o   hs13
          · rw [if_neg c28] at hs13
            refine aw_ifeq_f (pc1 := 142) at_176_139 c28 rfl ?_
            refine aw_vload_n (pc1 := 143) at_176_142 l0 i0 rfl ?_
            obtain ⟨v29, e30, hs14⟩ := am_bind hs13
            clear hs13
            refine aw_pG (pc1 := 146) at_176_143 (am_vR_s e30).1 rfl ?_
            refine aw_vload_n (pc1 := 147) at_176_146 l0 i0 rfl ?_
            obtain ⟨v31, e32, hs15⟩ := am_bind hs14
            clear hs14
            refine aw_pG (pc1 := 150) at_176_147 (am_vR_s e32).1 rfl ?_
            refine aw_iload_n (pc1 := 151) at_176_150 l1 rfl ?_
            refine aw_vload_n (pc1 := 152) at_176_151 l0 i0 rfl ?_
            obtain ⟨v33, e34, hs16⟩ := am_bind hs15
            clear hs15
            refine aw_pG (pc1 := 155) at_176_152 (am_vR_s e34).1 rfl ?_
            obtain ⟨v35, e36, hs17⟩ := am_bind hs16
            clear hs16
            refine aw_pG (pc1 := 158) at_176_155 (am_vI_s e36) rfl ?_
            obtain ⟨z37, hs18⟩ := am_ift hs17
            clear hs17
            refine aw_call (F := fm_170 v29 v31 x1 v35 h26) (t := true) (na := 4) (kd := 1) (as := [v29, v31, (.int x1), (.int v35)]) at_176_158 (am_k3v kb_170) mn_170 mk_170 rfl rfl (am_ok_v mi_170 (am_hl rfl (am_ccR (am_vR_s e30).2 (am_ccR (am_vR_s e32).2 (am_ccI (am_ccI am_cats_0)))) rfl) z37) (am_hc am_cats_0 rfl) (fun _ => ⟨rfl, hh_176⟩) (fun o1 hz9 => rm_170 v29 v31 x1 v35 h26 o1 (am_vR_s e30).2 (am_vR_s e32).2 hz9) ?_
            rcases am_cI_s hs18 with ⟨v38, h39, f40, hs19⟩ | hs19
            · clear hs18
              refine Or.inl ⟨_, _, f40, ?_⟩
              show am_W X _ 176 161 _ [(.int v38)] h39 _
              by_cases c41 : ¬ v38 = 0
              · rw [if_pos c41] at hs19
                refine aw_ifne_t at_176_161 c41 ?_
                refine aw_iconst (v := 0) (pc1 := 167) at_176_166 (by decide) rfl ?_
                refine aw_istore_n (lv1 := am_put1 _ 3 _) (pc1 := 168) at_176_167 rfl rfl ?_
                exact rg_176_168 N x0 x1 0 h39 o hs19 _ (am_lk1 l0 rfl rfl) (am_lk1 l1 rfl rfl) am_lk0 i0
              · rw [if_neg c41] at hs19
                refine aw_ifne_f (pc1 := 164) at_176_161 c41 rfl ?_
                exact rg_176_164 h39 o   hs19
            · clear hs18
              exact Or.inr hs19
        · clear hs12
          exact Or.inr hs13
    · clear hs6
      exact Or.inr hs7
  · clear hs2
    exact Or.inr hs3
def fg_176_90 (N : Nat) (x0 : Value) (x1 : Int32) (s0 : Value) (s1 : Int32) (h : am_H) : Option am_O := (if am_pOk 3 s0 h then am_cI true (fm_41 N s0 s1 0 h) (fun v2 h3 => (fg_176_95 N x0 x1 h3)) else none)
theorem rg_176_90 {X : am_X} {d : Nat} {N : Nat} {lv : am_LV} (x0 : Value) (x1 : Int32) (s0 : Value) (s1 : Int32) (h : am_H) (o : am_O) (l0 : lv.lookup 0 = some x0) (l1 : lv.lookup 1 = some (.int x1)) (i0 : am_isR x0 = true) (j0 : am_isR s0 = true) (hs : fg_176_90 N x0 x1 s0 s1 h = some o) : am_W X (d + 1) 176 90 lv [(.int s1), s0] h (fun q => q = o) := by
  unfold fg_176_90 at hs
  refine aw_iconst (v := 0) (pc1 := 91) at_176_90 (by decide) rfl ?_
  obtain ⟨z1, hs1⟩ := am_ift hs
  clear hs
  refine aw_call (F := fm_41 N s0 s1 0 h) (t := true) (na := 3) (kd := 1) (as := [s0, (.int s1), (.int 0)]) at_176_91 (am_k3v kb_41) mn_41 mk_41 rfl rfl (am_ok_v mi_41 (am_hl rfl (am_ccR j0 (am_ccI (am_ccI am_cats_0))) rfl) z1) (am_hc am_cats_0 rfl) (fun _ => ⟨rfl, hh_176⟩) (fun o1 hz9 => rm_41 s0 s1 0 h o1 j0 hz9) ?_
  rcases am_cI_s hs1 with ⟨v2, h3, f4, hs2⟩ | hs2
  · clear hs1
    refine Or.inl ⟨_, _, f4, ?_⟩
    show am_W X _ 176 94 _ [(.int v2)] h3 _
    refine aw_popi (pc1 := 95) at_176_94 rfl ?_
    exact rg_176_95 x0 x1 h3 o l0 l1 i0 hs2
  · clear hs1
    exact Or.inr hs2
def fg_176_60 (N : Nat) (x0 : Value) (x1 : Int32) (x2 : Int32) (s0 : Value) (s1 : Int32) (s2 : Int32) (h : am_H) : Option am_O := (if am_pOk 3 s0 h then am_cI true (fm_41 N s0 s1 s2 h) (fun v2 h3 => ((am_vR (am_pG 1 x0 h3)).bind fun v5 => (if ¬ x2 = 2 then (if ¬ x2 = 4 then (fg_176_90 N x0 x1 v5 7 h3) else (fg_176_90 N x0 x1 v5 9 h3)) else (fg_176_90 N x0 x1 v5 8 h3)))) else none)
theorem rg_176_60 {X : am_X} {d : Nat} {N : Nat} {lv : am_LV} (x0 : Value) (x1 : Int32) (x2 : Int32) (s0 : Value) (s1 : Int32) (s2 : Int32) (h : am_H) (o : am_O) (l0 : lv.lookup 0 = some x0) (l1 : lv.lookup 1 = some (.int x1)) (l2 : lv.lookup 2 = some (.int x2)) (i0 : am_isR x0 = true) (j0 : am_isR s0 = true) (hs : fg_176_60 N x0 x1 x2 s0 s1 s2 h = some o) : am_W X (d + 1) 176 60 lv [(.int s2), (.int s1), s0] h (fun q => q = o) := by
  unfold fg_176_60 at hs
  obtain ⟨z1, hs1⟩ := am_ift hs
  clear hs
  refine aw_call (F := fm_41 N s0 s1 s2 h) (t := true) (na := 3) (kd := 1) (as := [s0, (.int s1), (.int s2)]) at_176_60 (am_k3v kb_41) mn_41 mk_41 rfl rfl (am_ok_v mi_41 (am_hl rfl (am_ccR j0 (am_ccI (am_ccI am_cats_0))) rfl) z1) (am_hc am_cats_0 rfl) (fun _ => ⟨rfl, hh_176⟩) (fun o1 hz9 => rm_41 s0 s1 s2 h o1 j0 hz9) ?_
  rcases am_cI_s hs1 with ⟨v2, h3, f4, hs2⟩ | hs2
  · clear hs1
    refine Or.inl ⟨_, _, f4, ?_⟩
    show am_W X _ 176 63 _ [(.int v2)] h3 _
    refine aw_popi (pc1 := 64) at_176_63 rfl ?_
    refine aw_vload_n (pc1 := 65) at_176_64 l0 i0 rfl ?_
    obtain ⟨v5, e6, hs3⟩ := am_bind hs2
    clear hs2
    refine aw_pG (pc1 := 68) at_176_65 (am_vR_s e6).1 rfl ?_
    refine aw_iload_n (pc1 := 69) at_176_68 l2 rfl ?_
    refine aw_iconst (v := 2) (pc1 := 70) at_176_69 (by decide) rfl ?_
    by_cases c7 : ¬ x2 = 2
    · rw [if_pos c7] at hs3
      refine aw_icne_t at_176_70 c7 ?_
      refine aw_iload_n (pc1 := 79) at_176_78 l2 rfl ?_
      refine aw_iconst (v := 4) (pc1 := 80) at_176_79 (by decide) rfl ?_
      by_cases c8 : ¬ x2 = 4
      · rw [if_pos c8] at hs3
        refine aw_icne_t at_176_80 c8 ?_
        refine aw_bipush (v := 7) (pc1 := 90) at_176_88 (by decide) rfl ?_
        exact rg_176_90 x0 x1 v5 7 h3 o l0 l1 i0 (am_vR_s e6).2 hs3
      · rw [if_neg c8] at hs3
        refine aw_icne_f (pc1 := 83) at_176_80 c8 rfl ?_
        refine aw_bipush (v := 9) (pc1 := 85) at_176_83 (by decide) rfl ?_
        refine aw_goto at_176_85 ?_
        exact rg_176_90 x0 x1 v5 9 h3 o l0 l1 i0 (am_vR_s e6).2 hs3
    · rw [if_neg c7] at hs3
      refine aw_icne_f (pc1 := 73) at_176_70 c7 rfl ?_
      refine aw_bipush (v := 8) (pc1 := 75) at_176_73 (by decide) rfl ?_
      refine aw_goto at_176_75 ?_
      exact rg_176_90 x0 x1 v5 8 h3 o l0 l1 i0 (am_vR_s e6).2 hs3
  · clear hs1
    exact Or.inr hs2
def fg_176_50 (N : Nat) (x0 : Value) (x1 : Int32) (x2 : Int32) (s0 : Value) (s1 : Int32) (h : am_H) : Option am_O := (if 3 ≤ x2 then (fg_176_60 N x0 x1 x2 s0 s1 0 h) else (fg_176_60 N x0 x1 x2 s0 s1 1 h))
theorem rg_176_50 {X : am_X} {d : Nat} {N : Nat} {lv : am_LV} (x0 : Value) (x1 : Int32) (x2 : Int32) (s0 : Value) (s1 : Int32) (h : am_H) (o : am_O) (l0 : lv.lookup 0 = some x0) (l1 : lv.lookup 1 = some (.int x1)) (l2 : lv.lookup 2 = some (.int x2)) (i0 : am_isR x0 = true) (j0 : am_isR s0 = true) (hs : fg_176_50 N x0 x1 x2 s0 s1 h = some o) : am_W X (d + 1) 176 50 lv [(.int s1), s0] h (fun q => q = o) := by
  unfold fg_176_50 at hs
  refine aw_iload_n (pc1 := 51) at_176_50 l2 rfl ?_
  refine aw_iconst (v := 3) (pc1 := 52) at_176_51 (by decide) rfl ?_
  by_cases c1 : 3 ≤ x2
  · rw [if_pos c1] at hs
    refine aw_icge_t at_176_52 c1 ?_
    refine aw_iconst (v := 0) (pc1 := 60) at_176_59 (by decide) rfl ?_
    exact rg_176_60 x0 x1 x2 s0 s1 0 h o l0 l1 l2 i0 j0 hs
  · rw [if_neg c1] at hs
    refine aw_icge_f (pc1 := 55) at_176_52 c1 rfl ?_
    refine aw_iconst (v := 1) (pc1 := 56) at_176_55 (by decide) rfl ?_
    refine aw_goto at_176_56 ?_
    exact rg_176_60 x0 x1 x2 s0 s1 1 h o l0 l1 l2 i0 j0 hs
def fg_176_0 (N : Nat) (x0 : Value) (x1 : Int32) (x2 : Int32) (h : am_H) : Option am_O := ((am_vR (am_pG 1 x0 h)).bind fun v1 => (if am_pOk 3 v1 h then am_cV true (fm_34 v1 1 0 h) (fun h5 => (if ¬ x2 = 0 then ((am_vR (am_pG 1 x0 h5)).bind fun v8 => (if 3 ≤ x2 then (if ¬ x2 = 3 then (fg_176_50 N x0 x1 x2 v8 14 h5) else (fg_176_50 N x0 x1 x2 v8 1 h5)) else (fg_176_50 N x0 x1 x2 v8 0 h5))) else ((am_vR (am_pG 1 x0 h5)).bind fun v12 => (if am_pOk 3 v12 h5 then am_cI true (fm_41 N v12 5 0 h5) (fun v15 h16 => (fg_176_95 N x0 x1 h16)) else none)))) else none))
theorem rg_176_0 {X : am_X} {d : Nat} {N : Nat} {lv : am_LV} (x0 : Value) (x1 : Int32) (x2 : Int32) (h : am_H) (o : am_O) (l0 : lv.lookup 0 = some x0) (l1 : lv.lookup 1 = some (.int x1)) (l2 : lv.lookup 2 = some (.int x2)) (i0 : am_isR x0 = true) (hs : fg_176_0 N x0 x1 x2 h = some o) : am_W X (d + 1) 176 0 lv [] h (fun q => q = o) := by
  unfold fg_176_0 at hs
  refine aw_vload_n (pc1 := 1) at_176_0 l0 i0 rfl ?_
  obtain ⟨v1, e2, hs1⟩ := am_bind hs
  clear hs
  refine aw_pG (pc1 := 4) at_176_1 (am_vR_s e2).1 rfl ?_
  refine aw_iconst (v := 1) (pc1 := 5) at_176_4 (by decide) rfl ?_
  refine aw_iconst (v := 0) (pc1 := 6) at_176_5 (by decide) rfl ?_
  obtain ⟨z3, hs2⟩ := am_ift hs1
  clear hs1
  refine aw_call (F := fm_34 v1 1 0 h) (t := true) (na := 3) (kd := 1) (as := [v1, (.int 1), (.int 0)]) at_176_6 (am_k3v kb_34) mn_34 mk_34 rfl rfl (am_ok_v mi_34 (am_hl rfl (am_ccR (am_vR_s e2).2 (am_ccI (am_ccI am_cats_0))) rfl) z3) (am_hc am_cats_0 rfl) (fun _ => ⟨rfl, hh_176⟩) (fun o1 hz9 => rm_34 v1 1 0 h o1 (am_vR_s e2).2 hz9) ?_
  rcases am_cV_s hs2 with ⟨h5, f6, hs3⟩ | hs3
  · clear hs2
    refine Or.inl ⟨_, _, f6, ?_⟩
    show am_W X _ 176 9 _ [] h5 _
    refine aw_iload_n (pc1 := 10) at_176_9 l2 rfl ?_
    by_cases c7 : ¬ x2 = 0
    · rw [if_pos c7] at hs3
      refine aw_ifne_t at_176_10 c7 ?_
      refine aw_vload_n (pc1 := 27) at_176_26 l0 i0 rfl ?_
      obtain ⟨v8, e9, hs4⟩ := am_bind hs3
      clear hs3
      refine aw_pG (pc1 := 30) at_176_27 (am_vR_s e9).1 rfl ?_
      refine aw_iload_n (pc1 := 31) at_176_30 l2 rfl ?_
      refine aw_iconst (v := 3) (pc1 := 32) at_176_31 (by decide) rfl ?_
      by_cases c10 : 3 ≤ x2
      · rw [if_pos c10] at hs4
        refine aw_icge_t at_176_32 c10 ?_
        refine aw_iload_n (pc1 := 40) at_176_39 l2 rfl ?_
        refine aw_iconst (v := 3) (pc1 := 41) at_176_40 (by decide) rfl ?_
        by_cases c11 : ¬ x2 = 3
        · rw [if_pos c11] at hs4
          refine aw_icne_t at_176_41 c11 ?_
          refine aw_bipush (v := 14) (pc1 := 50) at_176_48 (by decide) rfl ?_
          exact rg_176_50 x0 x1 x2 v8 14 h5 o l0 l1 l2 i0 (am_vR_s e9).2 hs4
        · rw [if_neg c11] at hs4
          refine aw_icne_f (pc1 := 44) at_176_41 c11 rfl ?_
          refine aw_iconst (v := 1) (pc1 := 45) at_176_44 (by decide) rfl ?_
          refine aw_goto at_176_45 ?_
          exact rg_176_50 x0 x1 x2 v8 1 h5 o l0 l1 l2 i0 (am_vR_s e9).2 hs4
      · rw [if_neg c10] at hs4
        refine aw_icge_f (pc1 := 35) at_176_32 c10 rfl ?_
        refine aw_iconst (v := 0) (pc1 := 36) at_176_35 (by decide) rfl ?_
        refine aw_goto at_176_36 ?_
        exact rg_176_50 x0 x1 x2 v8 0 h5 o l0 l1 l2 i0 (am_vR_s e9).2 hs4
    · rw [if_neg c7] at hs3
      refine aw_ifne_f (pc1 := 13) at_176_10 c7 rfl ?_
      refine aw_vload_n (pc1 := 14) at_176_13 l0 i0 rfl ?_
      obtain ⟨v12, e13, hs5⟩ := am_bind hs3
      clear hs3
      refine aw_pG (pc1 := 17) at_176_14 (am_vR_s e13).1 rfl ?_
      refine aw_iconst (v := 5) (pc1 := 18) at_176_17 (by decide) rfl ?_
      refine aw_iconst (v := 0) (pc1 := 19) at_176_18 (by decide) rfl ?_
      obtain ⟨z14, hs6⟩ := am_ift hs5
      clear hs5
      refine aw_call (F := fm_41 N v12 5 0 h5) (t := true) (na := 3) (kd := 1) (as := [v12, (.int 5), (.int 0)]) at_176_19 (am_k3v kb_41) mn_41 mk_41 rfl rfl (am_ok_v mi_41 (am_hl rfl (am_ccR (am_vR_s e13).2 (am_ccI (am_ccI am_cats_0))) rfl) z14) (am_hc am_cats_0 rfl) (fun _ => ⟨rfl, hh_176⟩) (fun o1 hz9 => rm_41 v12 5 0 h5 o1 (am_vR_s e13).2 hz9) ?_
      rcases am_cI_s hs6 with ⟨v15, h16, f17, hs7⟩ | hs7
      · clear hs6
        refine Or.inl ⟨_, _, f17, ?_⟩
        show am_W X _ 176 22 _ [(.int v15)] h16 _
        refine aw_popi (pc1 := 23) at_176_22 rfl ?_
        refine aw_goto at_176_23 ?_
        exact rg_176_95 x0 x1 h16 o l0 l1 i0 hs7
      · clear hs6
        exact Or.inr hs7
  · clear hs2
    exact Or.inr hs3
def fm_176 (N : Nat) (y0 : Value) (y1 : Int32) (y2 : Int32) (h : am_H) : Option am_O := fg_176_0 N y0 y1 y2 h
theorem rm_176 {X : am_X} {d : Nat} {N : Nat} (y0 : Value) (y1 : Int32) (y2 : Int32) (h : am_H) (o : am_O) (i0 : am_isR y0 = true) (hs : fm_176 N y0 y1 y2 h = some o) : am_W X (d + 1) 176 0 (am_args 0 [y0, .int y1, .int y2]) [] h (fun q => q = o) := by
  rw [am_args_R i0, am_args_I, am_args_I]
  exact rg_176_0 y0 y1 y2 h o rfl rfl rfl i0 hs
def fg_177_98 (s0 : Int32) (h : am_H) : Option am_O := (if am_rfit (some FieldType.boolean) s0 then some (.inl (some (.int s0), h)) else none)
theorem rg_177_98 {X : am_X} {d : Nat} {lv : am_LV} (s0 : Int32) (h : am_H) (o : am_O) (hs : fg_177_98 s0 h = some o) : am_W X (d + 1) 177 98 lv [(.int s0)] h (fun q => q = o) := by
  unfold fg_177_98 at hs
  obtain ⟨z1, hs1⟩ := am_ift hs
  clear hs
  cases hs1
  exact aw_iret at_177_98 (by rw [rt_177]; exact z1) rfl
def fg_177_97 (h : am_H) : Option am_O := (fg_177_98 0 h)
theorem rg_177_97 {X : am_X} {d : Nat} {lv : am_LV} (h : am_H) (o : am_O) (hs : fg_177_97 h = some o) : am_W X (d + 1) 177 97 lv [] h (fun q => q = o) := by
  unfold fg_177_97 at hs
  refine aw_iconst (v := 0) (pc1 := 98) at_177_97 (by decide) rfl ?_
  exact rg_177_98 0 h o   hs
def fg_177_34 (x0 : Value) (x1 : Int32) (x2 : Int32) (h : am_H) : Option am_O := ((am_vR (am_pG 0 x0 h)).bind fun v1 => ((am_vR (am_pG 5 x0 h)).bind fun v3 => ((am_vI (am_pG 769 v3 h)).bind fun v5 => ((am_vR (am_pG 5 x0 h)).bind fun v7 => ((am_vI (am_pG 770 v7 h)).bind fun v9 => (if am_pOk 3 v1 h then am_cV true (fm_34 v1 v5 v9 h) (fun h13 => ((am_vR (am_pG 0 x0 h13)).bind fun v15 => ((am_vR (am_pG 5 x0 h13)).bind fun v17 => (if am_pOk 3 v15 h13 then am_cI true (fm_170 v15 v17 0 x1 h13) (fun v20 h21 => (if v20 = 0 then (fg_177_97 h21) else ((am_vR (am_pG 0 x0 h21)).bind fun v24 => ((am_vR (am_pG 6 x0 h21)).bind fun v26 => ((am_vR (am_pG 6 x0 h21)).bind fun v28 => ((am_vI (am_pG 771 v28 h21)).bind fun v30 => (if am_pOk 3 v24 h21 then am_cI true (fm_170 v24 v26 x2 v30 h21) (fun v33 h34 => (if v33 = 0 then (fg_177_97 h34) else (fg_177_98 1 h34))) else none))))))) else none)))) else none))))))
theorem rg_177_34 {X : am_X} {d : Nat} {lv : am_LV} (x0 : Value) (x1 : Int32) (x2 : Int32) (h : am_H) (o : am_O) (l0 : lv.lookup 0 = some x0) (l1 : lv.lookup 1 = some (.int x1)) (l2 : lv.lookup 2 = some (.int x2)) (i0 : am_isR x0 = true) (hs : fg_177_34 x0 x1 x2 h = some o) : am_W X (d + 1) 177 34 lv [] h (fun q => q = o) := by
  unfold fg_177_34 at hs
  refine aw_vload_n (pc1 := 35) at_177_34 l0 i0 rfl ?_
  obtain ⟨v1, e2, hs1⟩ := am_bind hs
  clear hs
  refine aw_pG (pc1 := 38) at_177_35 (am_vR_s e2).1 rfl ?_
  refine aw_vload_n (pc1 := 39) at_177_38 l0 i0 rfl ?_
  obtain ⟨v3, e4, hs2⟩ := am_bind hs1
  clear hs1
  refine aw_pG (pc1 := 42) at_177_39 (am_vR_s e4).1 rfl ?_
  obtain ⟨v5, e6, hs3⟩ := am_bind hs2
  clear hs2
  refine aw_pG (pc1 := 45) at_177_42 (am_vI_s e6) rfl ?_
  refine aw_vload_n (pc1 := 46) at_177_45 l0 i0 rfl ?_
  obtain ⟨v7, e8, hs4⟩ := am_bind hs3
  clear hs3
  refine aw_pG (pc1 := 49) at_177_46 (am_vR_s e8).1 rfl ?_
  obtain ⟨v9, e10, hs5⟩ := am_bind hs4
  clear hs4
  refine aw_pG (pc1 := 52) at_177_49 (am_vI_s e10) rfl ?_
  obtain ⟨z11, hs6⟩ := am_ift hs5
  clear hs5
  refine aw_call (F := fm_34 v1 v5 v9 h) (t := true) (na := 3) (kd := 1) (as := [v1, (.int v5), (.int v9)]) at_177_52 (am_k3v kb_34) mn_34 mk_34 rfl rfl (am_ok_v mi_34 (am_hl rfl (am_ccR (am_vR_s e2).2 (am_ccI (am_ccI am_cats_0))) rfl) z11) (am_hc am_cats_0 rfl) (fun _ => ⟨rfl, hh_177⟩) (fun o1 hz9 => rm_34 v1 v5 v9 h o1 (am_vR_s e2).2 hz9) ?_
  rcases am_cV_s hs6 with ⟨h13, f14, hs7⟩ | hs7
  · clear hs6
    refine Or.inl ⟨_, _, f14, ?_⟩
    show am_W X _ 177 55 _ [] h13 _
    refine aw_vload_n (pc1 := 56) at_177_55 l0 i0 rfl ?_
    obtain ⟨v15, e16, hs8⟩ := am_bind hs7
    clear hs7
    refine aw_pG (pc1 := 59) at_177_56 (am_vR_s e16).1 rfl ?_
    refine aw_vload_n (pc1 := 60) at_177_59 l0 i0 rfl ?_
    obtain ⟨v17, e18, hs9⟩ := am_bind hs8
    clear hs8
    refine aw_pG (pc1 := 63) at_177_60 (am_vR_s e18).1 rfl ?_
    refine aw_iconst (v := 0) (pc1 := 64) at_177_63 (by decide) rfl ?_
    refine aw_iload_n (pc1 := 65) at_177_64 l1 rfl ?_
    obtain ⟨z19, hs10⟩ := am_ift hs9
    clear hs9
    refine aw_call (F := fm_170 v15 v17 0 x1 h13) (t := true) (na := 4) (kd := 1) (as := [v15, v17, (.int 0), (.int x1)]) at_177_65 (am_k3v kb_170) mn_170 mk_170 rfl rfl (am_ok_v mi_170 (am_hl rfl (am_ccR (am_vR_s e16).2 (am_ccR (am_vR_s e18).2 (am_ccI (am_ccI am_cats_0)))) rfl) z19) (am_hc am_cats_0 rfl) (fun _ => ⟨rfl, hh_177⟩) (fun o1 hz9 => rm_170 v15 v17 0 x1 h13 o1 (am_vR_s e16).2 (am_vR_s e18).2 hz9) ?_
    rcases am_cI_s hs10 with ⟨v20, h21, f22, hs11⟩ | hs11
    · clear hs10
      refine Or.inl ⟨_, _, f22, ?_⟩
      show am_W X _ 177 68 _ [(.int v20)] h21 _
      by_cases c23 : v20 = 0
      · rw [if_pos c23] at hs11
        refine aw_ifeq_t at_177_68 c23 ?_
        exact rg_177_97 h21 o   hs11
      · rw [if_neg c23] at hs11
        refine aw_ifeq_f (pc1 := 71) at_177_68 c23 rfl ?_
        refine aw_vload_n (pc1 := 72) at_177_71 l0 i0 rfl ?_
        obtain ⟨v24, e25, hs12⟩ := am_bind hs11
        clear hs11
        refine aw_pG (pc1 := 75) at_177_72 (am_vR_s e25).1 rfl ?_
        refine aw_vload_n (pc1 := 76) at_177_75 l0 i0 rfl ?_
        obtain ⟨v26, e27, hs13⟩ := am_bind hs12
        clear hs12
        refine aw_pG (pc1 := 79) at_177_76 (am_vR_s e27).1 rfl ?_
        refine aw_iload_n (pc1 := 80) at_177_79 l2 rfl ?_
        refine aw_vload_n (pc1 := 81) at_177_80 l0 i0 rfl ?_
        obtain ⟨v28, e29, hs14⟩ := am_bind hs13
        clear hs13
        refine aw_pG (pc1 := 84) at_177_81 (am_vR_s e29).1 rfl ?_
        obtain ⟨v30, e31, hs15⟩ := am_bind hs14
        clear hs14
        refine aw_pG (pc1 := 87) at_177_84 (am_vI_s e31) rfl ?_
        obtain ⟨z32, hs16⟩ := am_ift hs15
        clear hs15
        refine aw_call (F := fm_170 v24 v26 x2 v30 h21) (t := true) (na := 4) (kd := 1) (as := [v24, v26, (.int x2), (.int v30)]) at_177_87 (am_k3v kb_170) mn_170 mk_170 rfl rfl (am_ok_v mi_170 (am_hl rfl (am_ccR (am_vR_s e25).2 (am_ccR (am_vR_s e27).2 (am_ccI (am_ccI am_cats_0)))) rfl) z32) (am_hc am_cats_0 rfl) (fun _ => ⟨rfl, hh_177⟩) (fun o1 hz9 => rm_170 v24 v26 x2 v30 h21 o1 (am_vR_s e25).2 (am_vR_s e27).2 hz9) ?_
        rcases am_cI_s hs16 with ⟨v33, h34, f35, hs17⟩ | hs17
        · clear hs16
          refine Or.inl ⟨_, _, f35, ?_⟩
          show am_W X _ 177 90 _ [(.int v33)] h34 _
          by_cases c36 : v33 = 0
          · rw [if_pos c36] at hs17
            refine aw_ifeq_t at_177_90 c36 ?_
            exact rg_177_97 h34 o   hs17
          · rw [if_neg c36] at hs17
            refine aw_ifeq_f (pc1 := 93) at_177_90 c36 rfl ?_
            refine aw_iconst (v := 1) (pc1 := 94) at_177_93 (by decide) rfl ?_
            refine aw_goto at_177_94 ?_
            exact rg_177_98 1 h34 o   hs17
        · clear hs16
          exact Or.inr hs17
    · clear hs10
      exact Or.inr hs11
  · clear hs6
    exact Or.inr hs7
def fg_177_0 (x0 : Value) (x1 : Int32) (x2 : Int32) (h : am_H) : Option am_O := ((am_vR (am_pG 5 x0 h)).bind fun v1 => ((am_vI (am_pG 769 v1 h)).bind fun v3 => (if ¬ v3 = 1 then (fg_177_34 x0 x1 x2 h) else ((am_vR (am_pG 2 x0 h)).bind fun v6 => ((am_vR (am_pG 1798 v6 h)).bind fun v8 => ((am_pA 0 v8 x1 h).bind fun v10 => ((am_vR (am_pG 3 x0 h)).bind fun v12 => ((am_vR (am_pG 1798 v12 h)).bind fun v14 => ((am_pA 0 v14 x2 h).bind fun v16 => (if v10 = v16 then (fg_177_34 x0 x1 x2 h) else some (.inl (some (.int 0), h))))))))))))
theorem rg_177_0 {X : am_X} {d : Nat} {lv : am_LV} (x0 : Value) (x1 : Int32) (x2 : Int32) (h : am_H) (o : am_O) (l0 : lv.lookup 0 = some x0) (l1 : lv.lookup 1 = some (.int x1)) (l2 : lv.lookup 2 = some (.int x2)) (i0 : am_isR x0 = true) (hs : fg_177_0 x0 x1 x2 h = some o) : am_W X (d + 1) 177 0 lv [] h (fun q => q = o) := by
  unfold fg_177_0 at hs
  refine aw_vload_n (pc1 := 1) at_177_0 l0 i0 rfl ?_
  obtain ⟨v1, e2, hs1⟩ := am_bind hs
  clear hs
  refine aw_pG (pc1 := 4) at_177_1 (am_vR_s e2).1 rfl ?_
  obtain ⟨v3, e4, hs2⟩ := am_bind hs1
  clear hs1
  refine aw_pG (pc1 := 7) at_177_4 (am_vI_s e4) rfl ?_
  refine aw_iconst (v := 1) (pc1 := 8) at_177_7 (by decide) rfl ?_
  by_cases c5 : ¬ v3 = 1
  · rw [if_pos c5] at hs2
    refine aw_icne_t at_177_8 c5 ?_
    exact rg_177_34 x0 x1 x2 h o l0 l1 l2 i0 hs2
  · rw [if_neg c5] at hs2
    refine aw_icne_f (pc1 := 11) at_177_8 c5 rfl ?_
    refine aw_vload_n (pc1 := 12) at_177_11 l0 i0 rfl ?_
    obtain ⟨v6, e7, hs3⟩ := am_bind hs2
    clear hs2
    refine aw_pG (pc1 := 15) at_177_12 (am_vR_s e7).1 rfl ?_
    obtain ⟨v8, e9, hs4⟩ := am_bind hs3
    clear hs3
    refine aw_pG (pc1 := 18) at_177_15 (am_vR_s e9).1 rfl ?_
    refine aw_iload_n (pc1 := 19) at_177_18 l1 rfl ?_
    obtain ⟨v10, e11, hs5⟩ := am_bind hs4
    clear hs4
    refine aw_pA (pc1 := 20) at_177_19 (Or.inl ⟨rfl, rfl⟩) e11 rfl ?_
    refine aw_vload_n (pc1 := 21) at_177_20 l0 i0 rfl ?_
    obtain ⟨v12, e13, hs6⟩ := am_bind hs5
    clear hs5
    refine aw_pG (pc1 := 24) at_177_21 (am_vR_s e13).1 rfl ?_
    obtain ⟨v14, e15, hs7⟩ := am_bind hs6
    clear hs6
    refine aw_pG (pc1 := 27) at_177_24 (am_vR_s e15).1 rfl ?_
    refine aw_iload_n (pc1 := 28) at_177_27 l2 rfl ?_
    obtain ⟨v16, e17, hs8⟩ := am_bind hs7
    clear hs7
    refine aw_pA (pc1 := 29) at_177_28 (Or.inl ⟨rfl, rfl⟩) e17 rfl ?_
    by_cases c18 : v10 = v16
    · rw [if_pos c18] at hs8
      refine aw_iceq_t at_177_29 c18 ?_
      exact rg_177_34 x0 x1 x2 h o l0 l1 l2 i0 hs8
    · rw [if_neg c18] at hs8
      refine aw_iceq_f (pc1 := 32) at_177_29 c18 rfl ?_
      refine aw_iconst (v := 0) (pc1 := 33) at_177_32 (by decide) rfl ?_
      cases hs8
      exact aw_iret at_177_33 (by rw [rt_177]; decide) rfl
def fm_177 (y0 : Value) (y1 : Int32) (y2 : Int32) (h : am_H) : Option am_O := fg_177_0 y0 y1 y2 h
theorem rm_177 {X : am_X} {d : Nat} (y0 : Value) (y1 : Int32) (y2 : Int32) (h : am_H) (o : am_O) (i0 : am_isR y0 = true) (hs : fm_177 y0 y1 y2 h = some o) : am_W X (d + 1) 177 0 (am_args 0 [y0, .int y1, .int y2]) [] h (fun q => q = o) := by
  rw [am_args_R i0, am_args_I, am_args_I]
  exact rg_177_0 y0 y1 y2 h o rfl rfl rfl i0 hs
def fg_178_0 (x0 : Value) (x1 : Int32) (x2 : Int32) (h : am_H) : Option am_O := ((am_vR (am_pG 5 x0 h)).bind fun v1 => (if am_pOk 3 v1 h then am_cI true (fm_54 v1 ((x1 / 4)) ((1 + (x1 - x1 / 4 * 4))) h) (fun v4 h5 => (if ¬ v4 = x2 then ((am_vR (am_pG 0 x0 h5)).bind fun v8 => ((am_vR (am_pG 5 x0 h5)).bind fun v10 => (if am_pOk 3 v8 h5 then am_cV true (fm_60 v8 v10 h5) (fun h14 => ((am_vR (am_pG 0 x0 h14)).bind fun v16 => (if am_pOk 3 v16 h14 then am_cV true (fm_51 v16 ((x1 / 4)) ((1 + (x1 - x1 / 4 * 4))) x2 h14) (fun h20 => some (.inl (some (.int 1), h20))) else none))) else none))) else some (.inl (some (.int 0), h5)))) else none))
theorem rg_178_0 {X : am_X} {d : Nat} {lv : am_LV} (x0 : Value) (x1 : Int32) (x2 : Int32) (h : am_H) (o : am_O) (l0 : lv.lookup 0 = some x0) (l1 : lv.lookup 1 = some (.int x1)) (l2 : lv.lookup 2 = some (.int x2)) (i0 : am_isR x0 = true) (hs : fg_178_0 x0 x1 x2 h = some o) : am_W X (d + 2) 178 0 lv [] h (fun q => q = o) := by
  unfold fg_178_0 at hs
  refine aw_iload_n (pc1 := 1) at_178_0 l1 rfl ?_
  refine aw_iconst (v := 4) (pc1 := 2) at_178_1 (by decide) rfl ?_
  refine aw_idiv (v := (x1 / 4)) (pc1 := 3) at_178_2 (by decide) rfl rfl ?_
  refine aw_istore_n (lv1 := am_put1 _ 3 _) (pc1 := 4) at_178_3 rfl rfl ?_
  refine aw_iconst (v := 1) (pc1 := 5) at_178_4 (by decide) rfl ?_
  refine aw_iload_n (pc1 := 6) at_178_5 (am_lk1 l1 rfl rfl) rfl ?_
  refine aw_iconst (v := 4) (pc1 := 7) at_178_6 (by decide) rfl ?_
  refine aw_irem (v := (x1 - x1 / 4 * 4)) (pc1 := 8) at_178_7 (by decide) rfl rfl ?_
  refine aw_iadd (v := (1 + (x1 - x1 / 4 * 4))) (pc1 := 9) at_178_8 rfl rfl ?_
  refine aw_istore (lv1 := am_put1 _ 4 _) (pc1 := 11) at_178_9 rfl rfl ?_
  refine aw_vload_n (pc1 := 12) at_178_11 (am_lk1 (am_lk1 l0 rfl rfl) rfl rfl) i0 rfl ?_
  obtain ⟨v1, e2, hs1⟩ := am_bind hs
  clear hs
  refine aw_pG (pc1 := 15) at_178_12 (am_vR_s e2).1 rfl ?_
  refine aw_iload_n (pc1 := 16) at_178_15 (am_lk1 am_lk0 rfl rfl) rfl ?_
  refine aw_iload (pc1 := 18) at_178_16 am_lk0 rfl ?_
  obtain ⟨z3, hs2⟩ := am_ift hs1
  clear hs1
  refine aw_call (F := fm_54 v1 ((x1 / 4)) ((1 + (x1 - x1 / 4 * 4))) h) (t := true) (na := 3) (kd := 1) (as := [v1, (.int (x1 / 4)), (.int (1 + (x1 - x1 / 4 * 4)))]) at_178_18 (am_k3v kb_54) mn_54 mk_54 rfl rfl (am_ok_v mi_54 (am_hl rfl (am_ccR (am_vR_s e2).2 (am_ccI (am_ccI am_cats_0))) rfl) z3) (am_hc am_cats_0 rfl) (fun _ => ⟨rfl, hh_178⟩) (fun o1 hz9 => rm_54 v1 ((x1 / 4)) ((1 + (x1 - x1 / 4 * 4))) h o1 (am_vR_s e2).2 hz9) ?_
  rcases am_cI_s hs2 with ⟨v4, h5, f6, hs3⟩ | hs3
  · clear hs2
    refine Or.inl ⟨_, _, f6, ?_⟩
    show am_W X _ 178 21 _ [(.int v4)] h5 _
    refine aw_iload_n (pc1 := 22) at_178_21 (am_lk1 (am_lk1 l2 rfl rfl) rfl rfl) rfl ?_
    by_cases c7 : ¬ v4 = x2
    · rw [if_pos c7] at hs3
      refine aw_icne_t at_178_22 c7 ?_
      refine aw_vload_n (pc1 := 28) at_178_27 (am_lk1 (am_lk1 l0 rfl rfl) rfl rfl) i0 rfl ?_
      obtain ⟨v8, e9, hs4⟩ := am_bind hs3
      clear hs3
      refine aw_pG (pc1 := 31) at_178_28 (am_vR_s e9).1 rfl ?_
      refine aw_vload_n (pc1 := 32) at_178_31 (am_lk1 (am_lk1 l0 rfl rfl) rfl rfl) i0 rfl ?_
      obtain ⟨v10, e11, hs5⟩ := am_bind hs4
      clear hs4
      refine aw_pG (pc1 := 35) at_178_32 (am_vR_s e11).1 rfl ?_
      obtain ⟨z12, hs6⟩ := am_ift hs5
      clear hs5
      refine aw_call (F := fm_60 v8 v10 h5) (t := true) (na := 2) (kd := 1) (as := [v8, v10]) at_178_35 (am_k3v kb_60) mn_60 mk_60 rfl rfl (am_ok_v mi_60 (am_hl rfl (am_ccR (am_vR_s e9).2 (am_ccR (am_vR_s e11).2 am_cats_0)) rfl) z12) (am_hc am_cats_0 rfl) (fun _ => ⟨rfl, hh_178⟩) (fun o1 hz9 => rm_60 v8 v10 h5 o1 (am_vR_s e9).2 (am_vR_s e11).2 hz9) ?_
      rcases am_cV_s hs6 with ⟨h14, f15, hs7⟩ | hs7
      · clear hs6
        refine Or.inl ⟨_, _, f15, ?_⟩
        show am_W X _ 178 38 _ [] h14 _
        refine aw_vload_n (pc1 := 39) at_178_38 (am_lk1 (am_lk1 l0 rfl rfl) rfl rfl) i0 rfl ?_
        obtain ⟨v16, e17, hs8⟩ := am_bind hs7
        clear hs7
        refine aw_pG (pc1 := 42) at_178_39 (am_vR_s e17).1 rfl ?_
        refine aw_iload_n (pc1 := 43) at_178_42 (am_lk1 am_lk0 rfl rfl) rfl ?_
        refine aw_iload (pc1 := 45) at_178_43 am_lk0 rfl ?_
        refine aw_iload_n (pc1 := 46) at_178_45 (am_lk1 (am_lk1 l2 rfl rfl) rfl rfl) rfl ?_
        obtain ⟨z18, hs9⟩ := am_ift hs8
        clear hs8
        refine aw_call (F := fm_51 v16 ((x1 / 4)) ((1 + (x1 - x1 / 4 * 4))) x2 h14) (t := true) (na := 4) (kd := 1) (as := [v16, (.int (x1 / 4)), (.int (1 + (x1 - x1 / 4 * 4))), (.int x2)]) at_178_46 (am_k3v kb_51) mn_51 mk_51 rfl rfl (am_ok_v mi_51 (am_hl rfl (am_ccR (am_vR_s e17).2 (am_ccI (am_ccI (am_ccI am_cats_0)))) rfl) z18) (am_hc am_cats_0 rfl) (fun _ => ⟨rfl, hh_178⟩) (fun o1 hz9 => rm_51 v16 ((x1 / 4)) ((1 + (x1 - x1 / 4 * 4))) x2 h14 o1 (am_vR_s e17).2 hz9) ?_
        rcases am_cV_s hs9 with ⟨h20, f21, hs10⟩ | hs10
        · clear hs9
          refine Or.inl ⟨_, _, f21, ?_⟩
          show am_W X _ 178 49 _ [] h20 _
          refine aw_iconst (v := 1) (pc1 := 50) at_178_49 (by decide) rfl ?_
          cases hs10
          exact aw_iret at_178_50 (by rw [rt_178]; decide) rfl
        · clear hs9
          exact Or.inr hs10
      · clear hs6
        exact Or.inr hs7
    · rw [if_neg c7] at hs3
      refine aw_icne_f (pc1 := 25) at_178_22 c7 rfl ?_
      refine aw_iconst (v := 0) (pc1 := 26) at_178_25 (by decide) rfl ?_
      cases hs3
      exact aw_iret at_178_26 (by rw [rt_178]; decide) rfl
  · clear hs2
    exact Or.inr hs3
def fm_178 (y0 : Value) (y1 : Int32) (y2 : Int32) (h : am_H) : Option am_O := fg_178_0 y0 y1 y2 h
theorem rm_178 {X : am_X} {d : Nat} (y0 : Value) (y1 : Int32) (y2 : Int32) (h : am_H) (o : am_O) (i0 : am_isR y0 = true) (hs : fm_178 y0 y1 y2 h = some o) : am_W X (d + 2) 178 0 (am_args 0 [y0, .int y1, .int y2]) [] h (fun q => q = o) := by
  rw [am_args_R i0, am_args_I, am_args_I]
  exact rg_178_0 y0 y1 y2 h o rfl rfl rfl i0 hs
def fg_179_0 (x0 : Value) (x1 : Int32) (h : am_H) : Option am_O := ((am_vR (am_pG 5 x0 h)).bind fun v1 => (if am_pOk 3 v1 h then am_cI true (fm_54 v1 ((x1 / 4)) ((1 + (x1 - x1 / 4 * 4))) h) (fun v4 h5 => ((am_vR (am_pG 0 x0 h5)).bind fun v7 => ((am_vR (am_pG 5 x0 h5)).bind fun v9 => (if am_pOk 3 v7 h5 then am_cV true (fm_60 v7 v9 h5) (fun h13 => ((am_vR (am_pG 0 x0 h13)).bind fun v15 => ((am_vR (am_pG 5 x0 h13)).bind fun v17 => (if am_pOk 3 v15 h13 then am_cI true (fm_170 v15 v17 v4 ((v4 + 1)) h13) (fun v20 h21 => (if ¬ v20 = 0 then ((am_vR (am_pG 0 x0 h21)).bind fun v24 => ((am_vR (am_pG 5 x0 h21)).bind fun v26 => ((am_vI (am_pG 771 v26 h21)).bind fun v28 => (if am_pOk 3 v24 h21 then am_cV true (fm_51 v24 ((x1 / 4)) ((1 + (x1 - x1 / 4 * 4))) v28 h21) (fun h32 => some (.inl (some (.int 1), h32))) else none)))) else some (.inl (some (.int 0), h21)))) else none)))) else none)))) else none))
theorem rg_179_0 {X : am_X} {d : Nat} {lv : am_LV} (x0 : Value) (x1 : Int32) (h : am_H) (o : am_O) (l0 : lv.lookup 0 = some x0) (l1 : lv.lookup 1 = some (.int x1)) (i0 : am_isR x0 = true) (hs : fg_179_0 x0 x1 h = some o) : am_W X (d + 2) 179 0 lv [] h (fun q => q = o) := by
  unfold fg_179_0 at hs
  refine aw_vload_n (pc1 := 1) at_179_0 l0 i0 rfl ?_
  obtain ⟨v1, e2, hs1⟩ := am_bind hs
  clear hs
  refine aw_pG (pc1 := 4) at_179_1 (am_vR_s e2).1 rfl ?_
  refine aw_iload_n (pc1 := 5) at_179_4 l1 rfl ?_
  refine aw_iconst (v := 4) (pc1 := 6) at_179_5 (by decide) rfl ?_
  refine aw_idiv (v := (x1 / 4)) (pc1 := 7) at_179_6 (by decide) rfl rfl ?_
  refine aw_iconst (v := 1) (pc1 := 8) at_179_7 (by decide) rfl ?_
  refine aw_iload_n (pc1 := 9) at_179_8 l1 rfl ?_
  refine aw_iconst (v := 4) (pc1 := 10) at_179_9 (by decide) rfl ?_
  refine aw_irem (v := (x1 - x1 / 4 * 4)) (pc1 := 11) at_179_10 (by decide) rfl rfl ?_
  refine aw_iadd (v := (1 + (x1 - x1 / 4 * 4))) (pc1 := 12) at_179_11 rfl rfl ?_
  obtain ⟨z3, hs2⟩ := am_ift hs1
  clear hs1
  refine aw_call (F := fm_54 v1 ((x1 / 4)) ((1 + (x1 - x1 / 4 * 4))) h) (t := true) (na := 3) (kd := 1) (as := [v1, (.int (x1 / 4)), (.int (1 + (x1 - x1 / 4 * 4)))]) at_179_12 (am_k3v kb_54) mn_54 mk_54 rfl rfl (am_ok_v mi_54 (am_hl rfl (am_ccR (am_vR_s e2).2 (am_ccI (am_ccI am_cats_0))) rfl) z3) (am_hc am_cats_0 rfl) (fun _ => ⟨rfl, hh_179⟩) (fun o1 hz9 => rm_54 v1 ((x1 / 4)) ((1 + (x1 - x1 / 4 * 4))) h o1 (am_vR_s e2).2 hz9) ?_
  rcases am_cI_s hs2 with ⟨v4, h5, f6, hs3⟩ | hs3
  · clear hs2
    refine Or.inl ⟨_, _, f6, ?_⟩
    show am_W X _ 179 15 _ [(.int v4)] h5 _
    refine aw_istore_n (lv1 := am_put1 _ 2 _) (pc1 := 16) at_179_15 rfl rfl ?_
    refine aw_vload_n (pc1 := 17) at_179_16 (am_lk1 l0 rfl rfl) i0 rfl ?_
    obtain ⟨v7, e8, hs4⟩ := am_bind hs3
    clear hs3
    refine aw_pG (pc1 := 20) at_179_17 (am_vR_s e8).1 rfl ?_
    refine aw_vload_n (pc1 := 21) at_179_20 (am_lk1 l0 rfl rfl) i0 rfl ?_
    obtain ⟨v9, e10, hs5⟩ := am_bind hs4
    clear hs4
    refine aw_pG (pc1 := 24) at_179_21 (am_vR_s e10).1 rfl ?_
    obtain ⟨z11, hs6⟩ := am_ift hs5
    clear hs5
    refine aw_call (F := fm_60 v7 v9 h5) (t := true) (na := 2) (kd := 1) (as := [v7, v9]) at_179_24 (am_k3v kb_60) mn_60 mk_60 rfl rfl (am_ok_v mi_60 (am_hl rfl (am_ccR (am_vR_s e8).2 (am_ccR (am_vR_s e10).2 am_cats_0)) rfl) z11) (am_hc am_cats_0 rfl) (fun _ => ⟨rfl, hh_179⟩) (fun o1 hz9 => rm_60 v7 v9 h5 o1 (am_vR_s e8).2 (am_vR_s e10).2 hz9) ?_
    rcases am_cV_s hs6 with ⟨h13, f14, hs7⟩ | hs7
    · clear hs6
      refine Or.inl ⟨_, _, f14, ?_⟩
      show am_W X _ 179 27 _ [] h13 _
      refine aw_vload_n (pc1 := 28) at_179_27 (am_lk1 l0 rfl rfl) i0 rfl ?_
      obtain ⟨v15, e16, hs8⟩ := am_bind hs7
      clear hs7
      refine aw_pG (pc1 := 31) at_179_28 (am_vR_s e16).1 rfl ?_
      refine aw_vload_n (pc1 := 32) at_179_31 (am_lk1 l0 rfl rfl) i0 rfl ?_
      obtain ⟨v17, e18, hs9⟩ := am_bind hs8
      clear hs8
      refine aw_pG (pc1 := 35) at_179_32 (am_vR_s e18).1 rfl ?_
      refine aw_iload_n (pc1 := 36) at_179_35 am_lk0 rfl ?_
      refine aw_iload_n (pc1 := 37) at_179_36 am_lk0 rfl ?_
      refine aw_iconst (v := 1) (pc1 := 38) at_179_37 (by decide) rfl ?_
      refine aw_iadd (v := (v4 + 1)) (pc1 := 39) at_179_38 rfl rfl ?_
      obtain ⟨z19, hs10⟩ := am_ift hs9
      clear hs9
      refine aw_call (F := fm_170 v15 v17 v4 ((v4 + 1)) h13) (t := true) (na := 4) (kd := 1) (as := [v15, v17, (.int v4), (.int (v4 + 1))]) at_179_39 (am_k3v kb_170) mn_170 mk_170 rfl rfl (am_ok_v mi_170 (am_hl rfl (am_ccR (am_vR_s e16).2 (am_ccR (am_vR_s e18).2 (am_ccI (am_ccI am_cats_0)))) rfl) z19) (am_hc am_cats_0 rfl) (fun _ => ⟨rfl, hh_179⟩) (fun o1 hz9 => rm_170 v15 v17 v4 ((v4 + 1)) h13 o1 (am_vR_s e16).2 (am_vR_s e18).2 hz9) ?_
      rcases am_cI_s hs10 with ⟨v20, h21, f22, hs11⟩ | hs11
      · clear hs10
        refine Or.inl ⟨_, _, f22, ?_⟩
        show am_W X _ 179 42 _ [(.int v20)] h21 _
        by_cases c23 : ¬ v20 = 0
        · rw [if_pos c23] at hs11
          refine aw_ifne_t at_179_42 c23 ?_
          refine aw_vload_n (pc1 := 48) at_179_47 (am_lk1 l0 rfl rfl) i0 rfl ?_
          obtain ⟨v24, e25, hs12⟩ := am_bind hs11
          clear hs11
          refine aw_pG (pc1 := 51) at_179_48 (am_vR_s e25).1 rfl ?_
          refine aw_iload_n (pc1 := 52) at_179_51 (am_lk1 l1 rfl rfl) rfl ?_
          refine aw_iconst (v := 4) (pc1 := 53) at_179_52 (by decide) rfl ?_
          refine aw_idiv (v := (x1 / 4)) (pc1 := 54) at_179_53 (by decide) rfl rfl ?_
          refine aw_iconst (v := 1) (pc1 := 55) at_179_54 (by decide) rfl ?_
          refine aw_iload_n (pc1 := 56) at_179_55 (am_lk1 l1 rfl rfl) rfl ?_
          refine aw_iconst (v := 4) (pc1 := 57) at_179_56 (by decide) rfl ?_
          refine aw_irem (v := (x1 - x1 / 4 * 4)) (pc1 := 58) at_179_57 (by decide) rfl rfl ?_
          refine aw_iadd (v := (1 + (x1 - x1 / 4 * 4))) (pc1 := 59) at_179_58 rfl rfl ?_
          refine aw_vload_n (pc1 := 60) at_179_59 (am_lk1 l0 rfl rfl) i0 rfl ?_
          obtain ⟨v26, e27, hs13⟩ := am_bind hs12
          clear hs12
          refine aw_pG (pc1 := 63) at_179_60 (am_vR_s e27).1 rfl ?_
          obtain ⟨v28, e29, hs14⟩ := am_bind hs13
          clear hs13
          refine aw_pG (pc1 := 66) at_179_63 (am_vI_s e29) rfl ?_
          obtain ⟨z30, hs15⟩ := am_ift hs14
          clear hs14
          refine aw_call (F := fm_51 v24 ((x1 / 4)) ((1 + (x1 - x1 / 4 * 4))) v28 h21) (t := true) (na := 4) (kd := 1) (as := [v24, (.int (x1 / 4)), (.int (1 + (x1 - x1 / 4 * 4))), (.int v28)]) at_179_66 (am_k3v kb_51) mn_51 mk_51 rfl rfl (am_ok_v mi_51 (am_hl rfl (am_ccR (am_vR_s e25).2 (am_ccI (am_ccI (am_ccI am_cats_0)))) rfl) z30) (am_hc am_cats_0 rfl) (fun _ => ⟨rfl, hh_179⟩) (fun o1 hz9 => rm_51 v24 ((x1 / 4)) ((1 + (x1 - x1 / 4 * 4))) v28 h21 o1 (am_vR_s e25).2 hz9) ?_
          rcases am_cV_s hs15 with ⟨h32, f33, hs16⟩ | hs16
          · clear hs15
            refine Or.inl ⟨_, _, f33, ?_⟩
            show am_W X _ 179 69 _ [] h32 _
            refine aw_iconst (v := 1) (pc1 := 70) at_179_69 (by decide) rfl ?_
            cases hs16
            exact aw_iret at_179_70 (by rw [rt_179]; decide) rfl
          · clear hs15
            exact Or.inr hs16
        · rw [if_neg c23] at hs11
          refine aw_ifne_f (pc1 := 45) at_179_42 c23 rfl ?_
          refine aw_iconst (v := 0) (pc1 := 46) at_179_45 (by decide) rfl ?_
          cases hs11
          exact aw_iret at_179_46 (by rw [rt_179]; decide) rfl
      · clear hs10
        exact Or.inr hs11
    · clear hs6
      exact Or.inr hs7
  · clear hs2
    exact Or.inr hs3
def fm_179 (y0 : Value) (y1 : Int32) (h : am_H) : Option am_O := fg_179_0 y0 y1 h
theorem rm_179 {X : am_X} {d : Nat} (y0 : Value) (y1 : Int32) (h : am_H) (o : am_O) (i0 : am_isR y0 = true) (hs : fm_179 y0 y1 h = some o) : am_W X (d + 2) 179 0 (am_args 0 [y0, .int y1]) [] h (fun q => q = o) := by
  rw [am_args_R i0, am_args_I]
  exact rg_179_0 y0 y1 h o rfl rfl i0 hs
def fg_180_109 (N : Nat) (rec_47 : Value → Int32 → Int32 → am_H → Option am_O) (x0 : Value) (x1 : Int32) (x2 : Int32) (s0 : Value) (s1 : Int32) (s2 : Int32) (s3 : Int32) (h : am_H) : Option am_O := (if am_pOk 3 s0 h then am_cV true (fm_51 s0 s1 s2 s3 h) (fun h3 => (rec_47 x0 x1 ((x2 + 1)) h3)) else none)
theorem rg_180_109 {X : am_X} {d : Nat} {N : Nat} {rec_47 : Value → Int32 → Int32 → am_H → Option am_O} (q_47 : ∀ (x0 : Value) (x1 : Int32) (x2 : Int32) (h : am_H) (o : am_O), rec_47 x0 x1 x2 h = some o → ∀ lv : am_LV, (lv.lookup 0 = some x0) → (lv.lookup 1 = some (.int x1)) → (lv.lookup 2 = some (.int x2)) → (am_isR x0 = true) → am_W X (d + 1) 180 47 lv [] h (fun q => q = o)) {lv : am_LV} (x0 : Value) (x1 : Int32) (x2 : Int32) (s0 : Value) (s1 : Int32) (s2 : Int32) (s3 : Int32) (h : am_H) (o : am_O) (l0 : lv.lookup 0 = some x0) (l1 : lv.lookup 1 = some (.int x1)) (l2 : lv.lookup 2 = some (.int x2)) (i0 : am_isR x0 = true) (j0 : am_isR s0 = true) (hs : fg_180_109 N rec_47 x0 x1 x2 s0 s1 s2 s3 h = some o) : am_W X (d + 1) 180 109 lv [(.int s3), (.int s2), (.int s1), s0] h (fun q => q = o) := by
  unfold fg_180_109 at hs
  obtain ⟨z1, hs1⟩ := am_ift hs
  clear hs
  refine aw_call (F := fm_51 s0 s1 s2 s3 h) (t := true) (na := 4) (kd := 1) (as := [s0, (.int s1), (.int s2), (.int s3)]) at_180_109 (am_k3v kb_51) mn_51 mk_51 rfl rfl (am_ok_v mi_51 (am_hl rfl (am_ccR j0 (am_ccI (am_ccI (am_ccI am_cats_0)))) rfl) z1) (am_hc am_cats_0 rfl) (fun _ => ⟨rfl, hh_180⟩) (fun o1 hz9 => rm_51 s0 s1 s2 s3 h o1 j0 hz9) ?_
  rcases am_cV_s hs1 with ⟨h3, f4, hs2⟩ | hs2
  · clear hs1
    refine Or.inl ⟨_, _, f4, ?_⟩
    show am_W X _ 180 112 _ [] h3 _
    refine aw_iinc (v := (x2 + 1)) (c := 1) (lv1 := am_put1 _ 2 _) (pc1 := 115) at_180_112 l2 (by decide) rfl rfl rfl ?_
    refine aw_goto at_180_115 ?_
    exact q_47 x0 x1 ((x2 + 1)) h3 o hs2 _ (am_lk1 l0 rfl rfl) (am_lk1 l1 rfl rfl) am_lk0 i0
  · clear hs1
    exact Or.inr hs2
def fg_180_47 (N : Nat) : Nat → Value → Int32 → Int32 → am_H → Option am_O
  | 0 => fun _ _ _ _ => none
  | K + 1 => fun x0 x1 x2 h => ((am_vR (am_pG 0 x0 h)).bind fun v1 => ((am_vI (am_pG 771 v1 h)).bind fun v3 => (if (4 * v3) ≤ x2 then some (.inl (some (.int 1), h)) else ((am_vR (am_pG 0 x0 h)).bind fun v6 => (if am_pOk 3 v6 h then am_cI true (fm_54 v6 ((x2 / 4)) ((1 + (x2 - x2 / 4 * 4))) h) (fun v9 h10 => ((am_vR (am_pG 0 x0 h10)).bind fun v12 => (if ¬ v9 = x1 then (if v9 ≤ x1 then (fg_180_109 N (fg_180_47 N K) x0 x1 x2 v12 ((x2 / 4)) ((1 + (x2 - x2 / 4 * 4))) v9 h10) else (fg_180_109 N (fg_180_47 N K) x0 x1 x2 v12 ((x2 / 4)) ((1 + (x2 - x2 / 4 * 4))) ((v9 - 1)) h10)) else (fg_180_109 N (fg_180_47 N K) x0 x1 x2 v12 ((x2 / 4)) ((1 + (x2 - x2 / 4 * 4))) 0 h10)))) else none)))))
theorem rg_180_47 {X : am_X} {d : Nat} {N : Nat} : ∀ (K : Nat) (x0 : Value) (x1 : Int32) (x2 : Int32) (h : am_H) (o : am_O), fg_180_47 N K x0 x1 x2 h = some o → ∀ lv : am_LV, (lv.lookup 0 = some x0) → (lv.lookup 1 = some (.int x1)) → (lv.lookup 2 = some (.int x2)) → (am_isR x0 = true) → am_W X (d + 1) 180 47 lv [] h (fun q => q = o) := by
  intro K
  induction K with
  | zero => intro x0 x1 x2 h o hs; cases hs
  | succ K ih =>
    intro x0 x1 x2 h o hs lv l0 l1 l2 i0
    unfold fg_180_47 at hs
    refine aw_iload_n (pc1 := 48) at_180_47 l2 rfl ?_
    refine aw_iconst (v := 4) (pc1 := 49) at_180_48 (by decide) rfl ?_
    refine aw_vload_n (pc1 := 50) at_180_49 l0 i0 rfl ?_
    obtain ⟨v1, e2, hs1⟩ := am_bind hs
    clear hs
    refine aw_pG (pc1 := 53) at_180_50 (am_vR_s e2).1 rfl ?_
    obtain ⟨v3, e4, hs2⟩ := am_bind hs1
    clear hs1
    refine aw_pG (pc1 := 56) at_180_53 (am_vI_s e4) rfl ?_
    refine aw_imul (v := (4 * v3)) (pc1 := 57) at_180_56 rfl rfl ?_
    by_cases c5 : (4 * v3) ≤ x2
    · rw [if_pos c5] at hs2
      refine aw_icge_t at_180_57 c5 ?_
      refine aw_iconst (v := 1) (pc1 := 119) at_180_118 (by decide) rfl ?_
      cases hs2
      exact aw_iret at_180_119 (by rw [rt_180]; decide) rfl
    · rw [if_neg c5] at hs2
      refine aw_icge_f (pc1 := 60) at_180_57 c5 rfl ?_
      refine aw_vload_n (pc1 := 61) at_180_60 l0 i0 rfl ?_
      obtain ⟨v6, e7, hs3⟩ := am_bind hs2
      clear hs2
      refine aw_pG (pc1 := 64) at_180_61 (am_vR_s e7).1 rfl ?_
      refine aw_iload_n (pc1 := 65) at_180_64 l2 rfl ?_
      refine aw_iconst (v := 4) (pc1 := 66) at_180_65 (by decide) rfl ?_
      refine aw_idiv (v := (x2 / 4)) (pc1 := 67) at_180_66 (by decide) rfl rfl ?_
      refine aw_iconst (v := 1) (pc1 := 68) at_180_67 (by decide) rfl ?_
      refine aw_iload_n (pc1 := 69) at_180_68 l2 rfl ?_
      refine aw_iconst (v := 4) (pc1 := 70) at_180_69 (by decide) rfl ?_
      refine aw_irem (v := (x2 - x2 / 4 * 4)) (pc1 := 71) at_180_70 (by decide) rfl rfl ?_
      refine aw_iadd (v := (1 + (x2 - x2 / 4 * 4))) (pc1 := 72) at_180_71 rfl rfl ?_
      obtain ⟨z8, hs4⟩ := am_ift hs3
      clear hs3
      refine aw_call (F := fm_54 v6 ((x2 / 4)) ((1 + (x2 - x2 / 4 * 4))) h) (t := true) (na := 3) (kd := 1) (as := [v6, (.int (x2 / 4)), (.int (1 + (x2 - x2 / 4 * 4)))]) at_180_72 (am_k3v kb_54) mn_54 mk_54 rfl rfl (am_ok_v mi_54 (am_hl rfl (am_ccR (am_vR_s e7).2 (am_ccI (am_ccI am_cats_0))) rfl) z8) (am_hc am_cats_0 rfl) (fun _ => ⟨rfl, hh_180⟩) (fun o1 hz9 => rm_54 v6 ((x2 / 4)) ((1 + (x2 - x2 / 4 * 4))) h o1 (am_vR_s e7).2 hz9) ?_
      rcases am_cI_s hs4 with ⟨v9, h10, f11, hs5⟩ | hs5
      · clear hs4
        refine Or.inl ⟨_, _, f11, ?_⟩
        show am_W X _ 180 75 _ [(.int v9)] h10 _
        refine aw_istore_n (lv1 := am_put1 _ 3 _) (pc1 := 76) at_180_75 rfl rfl ?_
        refine aw_vload_n (pc1 := 77) at_180_76 (am_lk1 l0 rfl rfl) i0 rfl ?_
        obtain ⟨v12, e13, hs6⟩ := am_bind hs5
        clear hs5
        refine aw_pG (pc1 := 80) at_180_77 (am_vR_s e13).1 rfl ?_
        refine aw_iload_n (pc1 := 81) at_180_80 (am_lk1 l2 rfl rfl) rfl ?_
        refine aw_iconst (v := 4) (pc1 := 82) at_180_81 (by decide) rfl ?_
        refine aw_idiv (v := (x2 / 4)) (pc1 := 83) at_180_82 (by decide) rfl rfl ?_
        refine aw_iconst (v := 1) (pc1 := 84) at_180_83 (by decide) rfl ?_
        refine aw_iload_n (pc1 := 85) at_180_84 (am_lk1 l2 rfl rfl) rfl ?_
        refine aw_iconst (v := 4) (pc1 := 86) at_180_85 (by decide) rfl ?_
        refine aw_irem (v := (x2 - x2 / 4 * 4)) (pc1 := 87) at_180_86 (by decide) rfl rfl ?_
        refine aw_iadd (v := (1 + (x2 - x2 / 4 * 4))) (pc1 := 88) at_180_87 rfl rfl ?_
        refine aw_iload_n (pc1 := 89) at_180_88 am_lk0 rfl ?_
        refine aw_iload_n (pc1 := 90) at_180_89 (am_lk1 l1 rfl rfl) rfl ?_
        by_cases c14 : ¬ v9 = x1
        · rw [if_pos c14] at hs6
          refine aw_icne_t at_180_90 c14 ?_
          refine aw_iload_n (pc1 := 98) at_180_97 am_lk0 rfl ?_
          refine aw_iload_n (pc1 := 99) at_180_98 (am_lk1 l1 rfl rfl) rfl ?_
          by_cases c15 : v9 ≤ x1
          · rw [if_pos c15] at hs6
            refine aw_icle_t at_180_99 c15 ?_
            refine aw_iload_n (pc1 := 109) at_180_108 am_lk0 rfl ?_
            exact rg_180_109 (fun z0 z1 z2 h o hs6 => ih z0 z1 z2 h o hs6) x0 x1 x2 v12 ((x2 / 4)) ((1 + (x2 - x2 / 4 * 4))) v9 h10 o (am_lk1 l0 rfl rfl) (am_lk1 l1 rfl rfl) (am_lk1 l2 rfl rfl) i0 (am_vR_s e13).2 hs6
          · rw [if_neg c15] at hs6
            refine aw_icle_f (pc1 := 102) at_180_99 c15 rfl ?_
            refine aw_iload_n (pc1 := 103) at_180_102 am_lk0 rfl ?_
            refine aw_iconst (v := 1) (pc1 := 104) at_180_103 (by decide) rfl ?_
            refine aw_isub (v := (v9 - 1)) (pc1 := 105) at_180_104 rfl rfl ?_
            refine aw_goto at_180_105 ?_
            exact rg_180_109 (fun z0 z1 z2 h o hs6 => ih z0 z1 z2 h o hs6) x0 x1 x2 v12 ((x2 / 4)) ((1 + (x2 - x2 / 4 * 4))) ((v9 - 1)) h10 o (am_lk1 l0 rfl rfl) (am_lk1 l1 rfl rfl) (am_lk1 l2 rfl rfl) i0 (am_vR_s e13).2 hs6
        · rw [if_neg c14] at hs6
          refine aw_icne_f (pc1 := 93) at_180_90 c14 rfl ?_
          refine aw_iconst (v := 0) (pc1 := 94) at_180_93 (by decide) rfl ?_
          refine aw_goto at_180_94 ?_
          exact rg_180_109 (fun z0 z1 z2 h o hs6 => ih z0 z1 z2 h o hs6) x0 x1 x2 v12 ((x2 / 4)) ((1 + (x2 - x2 / 4 * 4))) 0 h10 o (am_lk1 l0 rfl rfl) (am_lk1 l1 rfl rfl) (am_lk1 l2 rfl rfl) i0 (am_vR_s e13).2 hs6
      · clear hs4
        exact Or.inr hs5
def fg_180_0 (N : Nat) (x0 : Value) (x1 : Int32) (h : am_H) : Option am_O := ((am_vR (am_pG 0 x0 h)).bind fun v1 => (if am_pOk 3 v1 h then am_cV true (fm_34 v1 2 0 h) (fun h5 => ((am_vR (am_pG 0 x0 h5)).bind fun v7 => ((am_vR (am_pG 5 x0 h5)).bind fun v9 => (if am_pOk 3 v7 h5 then am_cI true (fm_170 v7 v9 0 x1 h5) (fun v12 h13 => ((am_vR (am_pG 0 x0 h13)).bind fun v15 => ((am_vR (am_pG 5 x0 h13)).bind fun v17 => ((am_vR (am_pG 5 x0 h13)).bind fun v19 => ((am_vI (am_pG 771 v19 h13)).bind fun v21 => (if am_pOk 3 v15 h13 then am_cI true (fm_170 v15 v17 ((x1 + 1)) v21 h13) (fun v24 h25 => (fg_180_47 N N x0 x1 0 h25)) else none)))))) else none)))) else none))
theorem rg_180_0 {X : am_X} {d : Nat} {N : Nat} {lv : am_LV} (x0 : Value) (x1 : Int32) (h : am_H) (o : am_O) (l0 : lv.lookup 0 = some x0) (l1 : lv.lookup 1 = some (.int x1)) (i0 : am_isR x0 = true) (hs : fg_180_0 N x0 x1 h = some o) : am_W X (d + 1) 180 0 lv [] h (fun q => q = o) := by
  unfold fg_180_0 at hs
  refine aw_vload_n (pc1 := 1) at_180_0 l0 i0 rfl ?_
  obtain ⟨v1, e2, hs1⟩ := am_bind hs
  clear hs
  refine aw_pG (pc1 := 4) at_180_1 (am_vR_s e2).1 rfl ?_
  refine aw_iconst (v := 2) (pc1 := 5) at_180_4 (by decide) rfl ?_
  refine aw_iconst (v := 0) (pc1 := 6) at_180_5 (by decide) rfl ?_
  obtain ⟨z3, hs2⟩ := am_ift hs1
  clear hs1
  refine aw_call (F := fm_34 v1 2 0 h) (t := true) (na := 3) (kd := 1) (as := [v1, (.int 2), (.int 0)]) at_180_6 (am_k3v kb_34) mn_34 mk_34 rfl rfl (am_ok_v mi_34 (am_hl rfl (am_ccR (am_vR_s e2).2 (am_ccI (am_ccI am_cats_0))) rfl) z3) (am_hc am_cats_0 rfl) (fun _ => ⟨rfl, hh_180⟩) (fun o1 hz9 => rm_34 v1 2 0 h o1 (am_vR_s e2).2 hz9) ?_
  rcases am_cV_s hs2 with ⟨h5, f6, hs3⟩ | hs3
  · clear hs2
    refine Or.inl ⟨_, _, f6, ?_⟩
    show am_W X _ 180 9 _ [] h5 _
    refine aw_vload_n (pc1 := 10) at_180_9 l0 i0 rfl ?_
    obtain ⟨v7, e8, hs4⟩ := am_bind hs3
    clear hs3
    refine aw_pG (pc1 := 13) at_180_10 (am_vR_s e8).1 rfl ?_
    refine aw_vload_n (pc1 := 14) at_180_13 l0 i0 rfl ?_
    obtain ⟨v9, e10, hs5⟩ := am_bind hs4
    clear hs4
    refine aw_pG (pc1 := 17) at_180_14 (am_vR_s e10).1 rfl ?_
    refine aw_iconst (v := 0) (pc1 := 18) at_180_17 (by decide) rfl ?_
    refine aw_iload_n (pc1 := 19) at_180_18 l1 rfl ?_
    obtain ⟨z11, hs6⟩ := am_ift hs5
    clear hs5
    refine aw_call (F := fm_170 v7 v9 0 x1 h5) (t := true) (na := 4) (kd := 1) (as := [v7, v9, (.int 0), (.int x1)]) at_180_19 (am_k3v kb_170) mn_170 mk_170 rfl rfl (am_ok_v mi_170 (am_hl rfl (am_ccR (am_vR_s e8).2 (am_ccR (am_vR_s e10).2 (am_ccI (am_ccI am_cats_0)))) rfl) z11) (am_hc am_cats_0 rfl) (fun _ => ⟨rfl, hh_180⟩) (fun o1 hz9 => rm_170 v7 v9 0 x1 h5 o1 (am_vR_s e8).2 (am_vR_s e10).2 hz9) ?_
    rcases am_cI_s hs6 with ⟨v12, h13, f14, hs7⟩ | hs7
    · clear hs6
      refine Or.inl ⟨_, _, f14, ?_⟩
      show am_W X _ 180 22 _ [(.int v12)] h13 _
      refine aw_popi (pc1 := 23) at_180_22 rfl ?_
      refine aw_vload_n (pc1 := 24) at_180_23 l0 i0 rfl ?_
      obtain ⟨v15, e16, hs8⟩ := am_bind hs7
      clear hs7
      refine aw_pG (pc1 := 27) at_180_24 (am_vR_s e16).1 rfl ?_
      refine aw_vload_n (pc1 := 28) at_180_27 l0 i0 rfl ?_
      obtain ⟨v17, e18, hs9⟩ := am_bind hs8
      clear hs8
      refine aw_pG (pc1 := 31) at_180_28 (am_vR_s e18).1 rfl ?_
      refine aw_iload_n (pc1 := 32) at_180_31 l1 rfl ?_
      refine aw_iconst (v := 1) (pc1 := 33) at_180_32 (by decide) rfl ?_
      refine aw_iadd (v := (x1 + 1)) (pc1 := 34) at_180_33 rfl rfl ?_
      refine aw_vload_n (pc1 := 35) at_180_34 l0 i0 rfl ?_
      obtain ⟨v19, e20, hs10⟩ := am_bind hs9
      clear hs9
      refine aw_pG (pc1 := 38) at_180_35 (am_vR_s e20).1 rfl ?_
      obtain ⟨v21, e22, hs11⟩ := am_bind hs10
      clear hs10
      refine aw_pG (pc1 := 41) at_180_38 (am_vI_s e22) rfl ?_
      obtain ⟨z23, hs12⟩ := am_ift hs11
      clear hs11
      refine aw_call (F := fm_170 v15 v17 ((x1 + 1)) v21 h13) (t := true) (na := 4) (kd := 1) (as := [v15, v17, (.int (x1 + 1)), (.int v21)]) at_180_41 (am_k3v kb_170) mn_170 mk_170 rfl rfl (am_ok_v mi_170 (am_hl rfl (am_ccR (am_vR_s e16).2 (am_ccR (am_vR_s e18).2 (am_ccI (am_ccI am_cats_0)))) rfl) z23) (am_hc am_cats_0 rfl) (fun _ => ⟨rfl, hh_180⟩) (fun o1 hz9 => rm_170 v15 v17 ((x1 + 1)) v21 h13 o1 (am_vR_s e16).2 (am_vR_s e18).2 hz9) ?_
      rcases am_cI_s hs12 with ⟨v24, h25, f26, hs13⟩ | hs13
      · clear hs12
        refine Or.inl ⟨_, _, f26, ?_⟩
        show am_W X _ 180 44 _ [(.int v24)] h25 _
        refine aw_popi (pc1 := 45) at_180_44 rfl ?_
        refine aw_iconst (v := 0) (pc1 := 46) at_180_45 (by decide) rfl ?_
        refine aw_istore_n (lv1 := am_put1 _ 2 _) (pc1 := 47) at_180_46 rfl rfl ?_
        exact rg_180_47 N x0 x1 0 h25 o hs13 _ (am_lk1 l0 rfl rfl) (am_lk1 l1 rfl rfl) am_lk0 i0
      · clear hs12
        exact Or.inr hs13
    · clear hs6
      exact Or.inr hs7
  · clear hs2
    exact Or.inr hs3
def fm_180 (N : Nat) (y0 : Value) (y1 : Int32) (h : am_H) : Option am_O := fg_180_0 N y0 y1 h
theorem rm_180 {X : am_X} {d : Nat} {N : Nat} (y0 : Value) (y1 : Int32) (h : am_H) (o : am_O) (i0 : am_isR y0 = true) (hs : fm_180 N y0 y1 h = some o) : am_W X (d + 1) 180 0 (am_args 0 [y0, .int y1]) [] h (fun q => q = o) := by
  rw [am_args_R i0, am_args_I]
  exact rg_180_0 y0 y1 h o rfl rfl i0 hs
def fg_181_46 (N : Nat) (rec_11 : Value → Int32 → Int32 → am_H → Option am_O) (x0 : Value) (x1 : Int32) (x2 : Int32) (s0 : Value) (s1 : Value) (h : am_H) : Option am_O := (if am_pOk 3 s0 h then am_cI true (fm_170 s0 s1 x2 ((x2 + 1)) h) (fun v2 h3 => (rec_11 x0 x1 ((x2 + 1)) h3)) else none)
theorem rg_181_46 {X : am_X} {d : Nat} {N : Nat} {rec_11 : Value → Int32 → Int32 → am_H → Option am_O} (q_11 : ∀ (x0 : Value) (x1 : Int32) (x2 : Int32) (h : am_H) (o : am_O), rec_11 x0 x1 x2 h = some o → ∀ lv : am_LV, (lv.lookup 0 = some x0) → (lv.lookup 1 = some (.int x1)) → (lv.lookup 2 = some (.int x2)) → (am_isR x0 = true) → am_W X (d + 1) 181 11 lv [] h (fun q => q = o)) {lv : am_LV} (x0 : Value) (x1 : Int32) (x2 : Int32) (s0 : Value) (s1 : Value) (h : am_H) (o : am_O) (l0 : lv.lookup 0 = some x0) (l1 : lv.lookup 1 = some (.int x1)) (l2 : lv.lookup 2 = some (.int x2)) (i0 : am_isR x0 = true) (j0 : am_isR s0 = true) (j1 : am_isR s1 = true) (hs : fg_181_46 N rec_11 x0 x1 x2 s0 s1 h = some o) : am_W X (d + 1) 181 46 lv [s1, s0] h (fun q => q = o) := by
  unfold fg_181_46 at hs
  refine aw_iload_n (pc1 := 47) at_181_46 l2 rfl ?_
  refine aw_iload_n (pc1 := 48) at_181_47 l2 rfl ?_
  refine aw_iconst (v := 1) (pc1 := 49) at_181_48 (by decide) rfl ?_
  refine aw_iadd (v := (x2 + 1)) (pc1 := 50) at_181_49 rfl rfl ?_
  obtain ⟨z1, hs1⟩ := am_ift hs
  clear hs
  refine aw_call (F := fm_170 s0 s1 x2 ((x2 + 1)) h) (t := true) (na := 4) (kd := 1) (as := [s0, s1, (.int x2), (.int (x2 + 1))]) at_181_50 (am_k3v kb_170) mn_170 mk_170 rfl rfl (am_ok_v mi_170 (am_hl rfl (am_ccR j0 (am_ccR j1 (am_ccI (am_ccI am_cats_0)))) rfl) z1) (am_hc am_cats_0 rfl) (fun _ => ⟨rfl, hh_181⟩) (fun o1 hz9 => rm_170 s0 s1 x2 ((x2 + 1)) h o1 j0 j1 hz9) ?_
  rcases am_cI_s hs1 with ⟨v2, h3, f4, hs2⟩ | hs2
  · clear hs1
    refine Or.inl ⟨_, _, f4, ?_⟩
    show am_W X _ 181 53 _ [(.int v2)] h3 _
    refine aw_popi (pc1 := 54) at_181_53 rfl ?_
    refine aw_iinc (v := (x2 + 1)) (c := 1) (lv1 := am_put1 _ 2 _) (pc1 := 57) at_181_54 l2 (by decide) rfl rfl rfl ?_
    refine aw_goto at_181_57 ?_
    exact q_11 x0 x1 ((x2 + 1)) h3 o hs2 _ (am_lk1 l0 rfl rfl) (am_lk1 l1 rfl rfl) am_lk0 i0
  · clear hs1
    exact Or.inr hs2
def fg_181_11 (N : Nat) : Nat → Value → Int32 → Int32 → am_H → Option am_O
  | 0 => fun _ _ _ _ => none
  | K + 1 => fun x0 x1 x2 h => ((am_vR (am_pG 5 x0 h)).bind fun v1 => ((am_vI (am_pG 771 v1 h)).bind fun v3 => (if v3 ≤ x2 then some (.inl (some (.int 1), h)) else ((am_vR (am_pG 0 x0 h)).bind fun v6 => (if ¬ ((x1 >>> (x2 &&& 31)) &&& 1) = 1 then ((am_vR (am_pG 5 x0 h)).bind fun v9 => (fg_181_46 N (fg_181_11 N K) x0 x1 x2 v6 v9 h)) else ((am_vR (am_pG 6 x0 h)).bind fun v11 => (fg_181_46 N (fg_181_11 N K) x0 x1 x2 v6 v11 h)))))))
theorem rg_181_11 {X : am_X} {d : Nat} {N : Nat} : ∀ (K : Nat) (x0 : Value) (x1 : Int32) (x2 : Int32) (h : am_H) (o : am_O), fg_181_11 N K x0 x1 x2 h = some o → ∀ lv : am_LV, (lv.lookup 0 = some x0) → (lv.lookup 1 = some (.int x1)) → (lv.lookup 2 = some (.int x2)) → (am_isR x0 = true) → am_W X (d + 1) 181 11 lv [] h (fun q => q = o) := by
  intro K
  induction K with
  | zero => intro x0 x1 x2 h o hs; cases hs
  | succ K ih =>
    intro x0 x1 x2 h o hs lv l0 l1 l2 i0
    unfold fg_181_11 at hs
    refine aw_iload_n (pc1 := 12) at_181_11 l2 rfl ?_
    refine aw_vload_n (pc1 := 13) at_181_12 l0 i0 rfl ?_
    obtain ⟨v1, e2, hs1⟩ := am_bind hs
    clear hs
    refine aw_pG (pc1 := 16) at_181_13 (am_vR_s e2).1 rfl ?_
    obtain ⟨v3, e4, hs2⟩ := am_bind hs1
    clear hs1
    refine aw_pG (pc1 := 19) at_181_16 (am_vI_s e4) rfl ?_
    by_cases c5 : v3 ≤ x2
    · rw [if_pos c5] at hs2
      refine aw_icge_t at_181_19 c5 ?_
      refine aw_iconst (v := 1) (pc1 := 61) at_181_60 (by decide) rfl ?_
      cases hs2
      exact aw_iret at_181_61 (by rw [rt_181]; decide) rfl
    · rw [if_neg c5] at hs2
      refine aw_icge_f (pc1 := 22) at_181_19 c5 rfl ?_
      refine aw_vload_n (pc1 := 23) at_181_22 l0 i0 rfl ?_
      obtain ⟨v6, e7, hs3⟩ := am_bind hs2
      clear hs2
      refine aw_pG (pc1 := 26) at_181_23 (am_vR_s e7).1 rfl ?_
      refine aw_iload_n (pc1 := 27) at_181_26 l1 rfl ?_
      refine aw_iload_n (pc1 := 28) at_181_27 l2 rfl ?_
      refine aw_ishr (v := (x1 >>> (x2 &&& 31))) (pc1 := 29) at_181_28 rfl rfl ?_
      refine aw_iconst (v := 1) (pc1 := 30) at_181_29 (by decide) rfl ?_
      refine aw_iand (v := ((x1 >>> (x2 &&& 31)) &&& 1)) (pc1 := 31) at_181_30 rfl rfl ?_
      refine aw_iconst (v := 1) (pc1 := 32) at_181_31 (by decide) rfl ?_
      by_cases c8 : ¬ ((x1 >>> (x2 &&& 31)) &&& 1) = 1
      · rw [if_pos c8] at hs3
        refine aw_icne_t at_181_32 c8 ?_
        refine aw_vload_n (pc1 := 43) at_181_42 l0 i0 rfl ?_
        obtain ⟨v9, e10, hs4⟩ := am_bind hs3
        clear hs3
        refine aw_pG (pc1 := 46) at_181_43 (am_vR_s e10).1 rfl ?_
        exact rg_181_46 (fun z0 z1 z2 h o hs4 => ih z0 z1 z2 h o hs4) x0 x1 x2 v6 v9 h o l0 l1 l2 i0 (am_vR_s e7).2 (am_vR_s e10).2 hs4
      · rw [if_neg c8] at hs3
        refine aw_icne_f (pc1 := 35) at_181_32 c8 rfl ?_
        refine aw_vload_n (pc1 := 36) at_181_35 l0 i0 rfl ?_
        obtain ⟨v11, e12, hs5⟩ := am_bind hs3
        clear hs3
        refine aw_pG (pc1 := 39) at_181_36 (am_vR_s e12).1 rfl ?_
        refine aw_goto at_181_39 ?_
        exact rg_181_46 (fun z0 z1 z2 h o hs5 => ih z0 z1 z2 h o hs5) x0 x1 x2 v6 v11 h o l0 l1 l2 i0 (am_vR_s e7).2 (am_vR_s e12).2 hs5
def fg_181_0 (N : Nat) (x0 : Value) (x1 : Int32) (h : am_H) : Option am_O := ((am_vR (am_pG 0 x0 h)).bind fun v1 => (if am_pOk 3 v1 h then am_cV true (fm_34 v1 2 0 h) (fun h5 => (fg_181_11 N N x0 x1 0 h5)) else none))
theorem rg_181_0 {X : am_X} {d : Nat} {N : Nat} {lv : am_LV} (x0 : Value) (x1 : Int32) (h : am_H) (o : am_O) (l0 : lv.lookup 0 = some x0) (l1 : lv.lookup 1 = some (.int x1)) (i0 : am_isR x0 = true) (hs : fg_181_0 N x0 x1 h = some o) : am_W X (d + 1) 181 0 lv [] h (fun q => q = o) := by
  unfold fg_181_0 at hs
  refine aw_vload_n (pc1 := 1) at_181_0 l0 i0 rfl ?_
  obtain ⟨v1, e2, hs1⟩ := am_bind hs
  clear hs
  refine aw_pG (pc1 := 4) at_181_1 (am_vR_s e2).1 rfl ?_
  refine aw_iconst (v := 2) (pc1 := 5) at_181_4 (by decide) rfl ?_
  refine aw_iconst (v := 0) (pc1 := 6) at_181_5 (by decide) rfl ?_
  obtain ⟨z3, hs2⟩ := am_ift hs1
  clear hs1
  refine aw_call (F := fm_34 v1 2 0 h) (t := true) (na := 3) (kd := 1) (as := [v1, (.int 2), (.int 0)]) at_181_6 (am_k3v kb_34) mn_34 mk_34 rfl rfl (am_ok_v mi_34 (am_hl rfl (am_ccR (am_vR_s e2).2 (am_ccI (am_ccI am_cats_0))) rfl) z3) (am_hc am_cats_0 rfl) (fun _ => ⟨rfl, hh_181⟩) (fun o1 hz9 => rm_34 v1 2 0 h o1 (am_vR_s e2).2 hz9) ?_
  rcases am_cV_s hs2 with ⟨h5, f6, hs3⟩ | hs3
  · clear hs2
    refine Or.inl ⟨_, _, f6, ?_⟩
    show am_W X _ 181 9 _ [] h5 _
    refine aw_iconst (v := 0) (pc1 := 10) at_181_9 (by decide) rfl ?_
    refine aw_istore_n (lv1 := am_put1 _ 2 _) (pc1 := 11) at_181_10 rfl rfl ?_
    exact rg_181_11 N x0 x1 0 h5 o hs3 _ (am_lk1 l0 rfl rfl) (am_lk1 l1 rfl rfl) am_lk0 i0
  · clear hs2
    exact Or.inr hs3
def fm_181 (N : Nat) (y0 : Value) (y1 : Int32) (h : am_H) : Option am_O := fg_181_0 N y0 y1 h
theorem rm_181 {X : am_X} {d : Nat} {N : Nat} (y0 : Value) (y1 : Int32) (h : am_H) (o : am_O) (i0 : am_isR y0 = true) (hs : fm_181 N y0 y1 h = some o) : am_W X (d + 1) 181 0 (am_args 0 [y0, .int y1]) [] h (fun q => q = o) := by
  rw [am_args_R i0, am_args_I]
  exact rg_181_0 y0 y1 h o rfl rfl i0 hs
def fg_182_178 (N : Nat) (s0 : Int32) (h : am_H) : Option am_O := (if am_rfit (some FieldType.boolean) s0 then some (.inl (some (.int s0), h)) else none)
theorem rg_182_178 {X : am_X} {d : Nat} {N : Nat} {lv : am_LV} (s0 : Int32) (h : am_H) (o : am_O) (hs : fg_182_178 N s0 h = some o) : am_W X (d + 1) 182 178 lv [(.int s0)] h (fun q => q = o) := by
  unfold fg_182_178 at hs
  obtain ⟨z1, hs1⟩ := am_ift hs
  clear hs
  cases hs1
  exact aw_iret at_182_178 (by rw [rt_182]; exact z1) rfl
def fg_182_177 (N : Nat) (h : am_H) : Option am_O := (fg_182_178 N 0 h)
theorem rg_182_177 {X : am_X} {d : Nat} {N : Nat} {lv : am_LV} (h : am_H) (o : am_O) (hs : fg_182_177 N h = some o) : am_W X (d + 1) 182 177 lv [] h (fun q => q = o) := by
  unfold fg_182_177 at hs
  refine aw_iconst (v := 0) (pc1 := 178) at_182_177 (by decide) rfl ?_
  exact rg_182_178 0 h o   hs
def fg_182_104 (N : Nat) (x0 : Value) (x1 : Int32) (x3 : Int32) (x5 : Int32) (x6 : Int32) (h : am_H) : Option am_O := ((am_vR (am_pG 0 x0 h)).bind fun v1 => ((am_vR (am_pG 5 x0 h)).bind fun v3 => ((am_vI (am_pG 770 v3 h)).bind fun v5 => (if am_pOk 3 v1 h then am_cV true (fm_34 v1 3 v5 h) (fun h9 => ((am_vR (am_pG 0 x0 h9)).bind fun v11 => ((am_vR (am_pG 5 x0 h9)).bind fun v13 => (if am_pOk 3 v11 h9 then am_cI true (fm_170 v11 v13 0 x1 h9) (fun v16 h17 => (if v16 = 0 then (fg_182_177 N h17) else ((am_vR (am_pG 0 x0 h17)).bind fun v20 => (if am_pOk 3 v20 h17 then am_cI true (fm_41 N v20 x5 x6 h17) (fun v23 h24 => (if v23 = 0 then (fg_182_177 N h24) else ((am_vR (am_pG 0 x0 h24)).bind fun v27 => ((am_vR (am_pG 5 x0 h24)).bind fun v29 => ((am_vR (am_pG 5 x0 h24)).bind fun v31 => ((am_vI (am_pG 771 v31 h24)).bind fun v33 => (if am_pOk 3 v27 h24 then am_cI true (fm_170 v27 v29 ((x1 + x3)) v33 h24) (fun v36 h37 => (if v36 = 0 then (fg_182_177 N h37) else (fg_182_178 N 1 h37))) else none))))))) else none)))) else none)))) else none))))
theorem rg_182_104 {X : am_X} {d : Nat} {N : Nat} {lv : am_LV} (x0 : Value) (x1 : Int32) (x3 : Int32) (x5 : Int32) (x6 : Int32) (h : am_H) (o : am_O) (l0 : lv.lookup 0 = some x0) (l1 : lv.lookup 1 = some (.int x1)) (l3 : lv.lookup 3 = some (.int x3)) (l5 : lv.lookup 5 = some (.int x5)) (l6 : lv.lookup 6 = some (.int x6)) (i0 : am_isR x0 = true) (hs : fg_182_104 N x0 x1 x3 x5 x6 h = some o) : am_W X (d + 1) 182 104 lv [] h (fun q => q = o) := by
  unfold fg_182_104 at hs
  refine aw_vload_n (pc1 := 105) at_182_104 l0 i0 rfl ?_
  obtain ⟨v1, e2, hs1⟩ := am_bind hs
  clear hs
  refine aw_pG (pc1 := 108) at_182_105 (am_vR_s e2).1 rfl ?_
  refine aw_iconst (v := 3) (pc1 := 109) at_182_108 (by decide) rfl ?_
  refine aw_vload_n (pc1 := 110) at_182_109 l0 i0 rfl ?_
  obtain ⟨v3, e4, hs2⟩ := am_bind hs1
  clear hs1
  refine aw_pG (pc1 := 113) at_182_110 (am_vR_s e4).1 rfl ?_
  obtain ⟨v5, e6, hs3⟩ := am_bind hs2
  clear hs2
  refine aw_pG (pc1 := 116) at_182_113 (am_vI_s e6) rfl ?_
  obtain ⟨z7, hs4⟩ := am_ift hs3
  clear hs3
  refine aw_call (F := fm_34 v1 3 v5 h) (t := true) (na := 3) (kd := 1) (as := [v1, (.int 3), (.int v5)]) at_182_116 (am_k3v kb_34) mn_34 mk_34 rfl rfl (am_ok_v mi_34 (am_hl rfl (am_ccR (am_vR_s e2).2 (am_ccI (am_ccI am_cats_0))) rfl) z7) (am_hc am_cats_0 rfl) (fun _ => ⟨rfl, hh_182⟩) (fun o1 hz9 => rm_34 v1 3 v5 h o1 (am_vR_s e2).2 hz9) ?_
  rcases am_cV_s hs4 with ⟨h9, f10, hs5⟩ | hs5
  · clear hs4
    refine Or.inl ⟨_, _, f10, ?_⟩
    show am_W X _ 182 119 _ [] h9 _
    refine aw_vload_n (pc1 := 120) at_182_119 l0 i0 rfl ?_
    obtain ⟨v11, e12, hs6⟩ := am_bind hs5
    clear hs5
    refine aw_pG (pc1 := 123) at_182_120 (am_vR_s e12).1 rfl ?_
    refine aw_vload_n (pc1 := 124) at_182_123 l0 i0 rfl ?_
    obtain ⟨v13, e14, hs7⟩ := am_bind hs6
    clear hs6
    refine aw_pG (pc1 := 127) at_182_124 (am_vR_s e14).1 rfl ?_
    refine aw_iconst (v := 0) (pc1 := 128) at_182_127 (by decide) rfl ?_
    refine aw_iload_n (pc1 := 129) at_182_128 l1 rfl ?_
    obtain ⟨z15, hs8⟩ := am_ift hs7
    clear hs7
    refine aw_call (F := fm_170 v11 v13 0 x1 h9) (t := true) (na := 4) (kd := 1) (as := [v11, v13, (.int 0), (.int x1)]) at_182_129 (am_k3v kb_170) mn_170 mk_170 rfl rfl (am_ok_v mi_170 (am_hl rfl (am_ccR (am_vR_s e12).2 (am_ccR (am_vR_s e14).2 (am_ccI (am_ccI am_cats_0)))) rfl) z15) (am_hc am_cats_0 rfl) (fun _ => ⟨rfl, hh_182⟩) (fun o1 hz9 => rm_170 v11 v13 0 x1 h9 o1 (am_vR_s e12).2 (am_vR_s e14).2 hz9) ?_
    rcases am_cI_s hs8 with ⟨v16, h17, f18, hs9⟩ | hs9
    · clear hs8
      refine Or.inl ⟨_, _, f18, ?_⟩
      show am_W X _ 182 132 _ [(.int v16)] h17 _
      by_cases c19 : v16 = 0
      · rw [if_pos c19] at hs9
        refine aw_ifeq_t at_182_132 c19 ?_
        exact rg_182_177 h17 o   hs9
      · rw [if_neg c19] at hs9
        refine aw_ifeq_f (pc1 := 135) at_182_132 c19 rfl ?_
        refine aw_vload_n (pc1 := 136) at_182_135 l0 i0 rfl ?_
        obtain ⟨v20, e21, hs10⟩ := am_bind hs9
        clear hs9
        refine aw_pG (pc1 := 139) at_182_136 (am_vR_s e21).1 rfl ?_
        refine aw_iload (pc1 := 141) at_182_139 l5 rfl ?_
        refine aw_iload (pc1 := 143) at_182_141 l6 rfl ?_
        obtain ⟨z22, hs11⟩ := am_ift hs10
        clear hs10
        refine aw_call (F := fm_41 N v20 x5 x6 h17) (t := true) (na := 3) (kd := 1) (as := [v20, (.int x5), (.int x6)]) at_182_143 (am_k3v kb_41) mn_41 mk_41 rfl rfl (am_ok_v mi_41 (am_hl rfl (am_ccR (am_vR_s e21).2 (am_ccI (am_ccI am_cats_0))) rfl) z22) (am_hc am_cats_0 rfl) (fun _ => ⟨rfl, hh_182⟩) (fun o1 hz9 => rm_41 v20 x5 x6 h17 o1 (am_vR_s e21).2 hz9) ?_
        rcases am_cI_s hs11 with ⟨v23, h24, f25, hs12⟩ | hs12
        · clear hs11
          refine Or.inl ⟨_, _, f25, ?_⟩
          show am_W X _ 182 146 _ [(.int v23)] h24 _
          by_cases c26 : v23 = 0
          · rw [if_pos c26] at hs12
            refine aw_ifeq_t at_182_146 c26 ?_
            exact rg_182_177 h24 o   hs12
          · rw [if_neg c26] at hs12
            refine aw_ifeq_f (pc1 := 149) at_182_146 c26 rfl ?_
            refine aw_vload_n (pc1 := 150) at_182_149 l0 i0 rfl ?_
            obtain ⟨v27, e28, hs13⟩ := am_bind hs12
            clear hs12
            refine aw_pG (pc1 := 153) at_182_150 (am_vR_s e28).1 rfl ?_
            refine aw_vload_n (pc1 := 154) at_182_153 l0 i0 rfl ?_
            obtain ⟨v29, e30, hs14⟩ := am_bind hs13
            clear hs13
            refine aw_pG (pc1 := 157) at_182_154 (am_vR_s e30).1 rfl ?_
            refine aw_iload_n (pc1 := 158) at_182_157 l1 rfl ?_
            refine aw_iload_n (pc1 := 159) at_182_158 l3 rfl ?_
            refine aw_iadd (v := (x1 + x3)) (pc1 := 160) at_182_159 rfl rfl ?_
            refine aw_vload_n (pc1 := 161) at_182_160 l0 i0 rfl ?_
            obtain ⟨v31, e32, hs15⟩ := am_bind hs14
            clear hs14
            refine aw_pG (pc1 := 164) at_182_161 (am_vR_s e32).1 rfl ?_
            obtain ⟨v33, e34, hs16⟩ := am_bind hs15
            clear hs15
            refine aw_pG (pc1 := 167) at_182_164 (am_vI_s e34) rfl ?_
            obtain ⟨z35, hs17⟩ := am_ift hs16
            clear hs16
            refine aw_call (F := fm_170 v27 v29 ((x1 + x3)) v33 h24) (t := true) (na := 4) (kd := 1) (as := [v27, v29, (.int (x1 + x3)), (.int v33)]) at_182_167 (am_k3v kb_170) mn_170 mk_170 rfl rfl (am_ok_v mi_170 (am_hl rfl (am_ccR (am_vR_s e28).2 (am_ccR (am_vR_s e30).2 (am_ccI (am_ccI am_cats_0)))) rfl) z35) (am_hc am_cats_0 rfl) (fun _ => ⟨rfl, hh_182⟩) (fun o1 hz9 => rm_170 v27 v29 ((x1 + x3)) v33 h24 o1 (am_vR_s e28).2 (am_vR_s e30).2 hz9) ?_
            rcases am_cI_s hs17 with ⟨v36, h37, f38, hs18⟩ | hs18
            · clear hs17
              refine Or.inl ⟨_, _, f38, ?_⟩
              show am_W X _ 182 170 _ [(.int v36)] h37 _
              by_cases c39 : v36 = 0
              · rw [if_pos c39] at hs18
                refine aw_ifeq_t at_182_170 c39 ?_
                exact rg_182_177 h37 o   hs18
              · rw [if_neg c39] at hs18
                refine aw_ifeq_f (pc1 := 173) at_182_170 c39 rfl ?_
                refine aw_iconst (v := 1) (pc1 := 174) at_182_173 (by decide) rfl ?_
                refine aw_goto at_182_174 ?_
                exact rg_182_178 1 h37 o   hs18
            · clear hs17
              exact Or.inr hs18
        · clear hs11
          exact Or.inr hs12
    · clear hs8
      exact Or.inr hs9
  · clear hs4
    exact Or.inr hs5
def fg_182_60 (N : Nat) (x0 : Value) (x1 : Int32) (x3 : Int32) (x4 : Int32) (x5 : Int32) (h : am_H) : Option am_O := (if ¬ x3 = 1 then (fg_182_104 N x0 x1 x3 x5 (((x5 + 1) + x4)) h) else ((am_vR (am_pG 5 x0 h)).bind fun v2 => (if am_pOk 3 v2 h then am_cI true (fm_54 v2 x1 0 h) (fun v5 h6 => (if ¬ v5 = x5 then (fg_182_104 N x0 x1 x3 x5 (((x5 + 1) + x4)) h6) else ((am_vR (am_pG 5 x0 h6)).bind fun v9 => (if am_pOk 3 v9 h6 then am_cI true (fm_54 v9 x1 1 h6) (fun v12 h13 => (if ¬ v12 = ((x5 + 1) + x4) then (fg_182_104 N x0 x1 x3 x5 (((x5 + 1) + x4)) h13) else some (.inl (some (.int 0), h13)))) else none)))) else none)))
theorem rg_182_60 {X : am_X} {d : Nat} {N : Nat} {lv : am_LV} (x0 : Value) (x1 : Int32) (x3 : Int32) (x4 : Int32) (x5 : Int32) (h : am_H) (o : am_O) (l0 : lv.lookup 0 = some x0) (l1 : lv.lookup 1 = some (.int x1)) (l3 : lv.lookup 3 = some (.int x3)) (l4 : lv.lookup 4 = some (.int x4)) (l5 : lv.lookup 5 = some (.int x5)) (i0 : am_isR x0 = true) (hs : fg_182_60 N x0 x1 x3 x4 x5 h = some o) : am_W X (d + 1) 182 60 lv [] h (fun q => q = o) := by
  unfold fg_182_60 at hs
  refine aw_iload (pc1 := 62) at_182_60 l5 rfl ?_
  refine aw_iconst (v := 1) (pc1 := 63) at_182_62 (by decide) rfl ?_
  refine aw_iadd (v := (x5 + 1)) (pc1 := 64) at_182_63 rfl rfl ?_
  refine aw_iload (pc1 := 66) at_182_64 l4 rfl ?_
  refine aw_iadd (v := ((x5 + 1) + x4)) (pc1 := 67) at_182_66 rfl rfl ?_
  refine aw_istore (lv1 := am_put1 _ 6 _) (pc1 := 69) at_182_67 rfl rfl ?_
  refine aw_iload_n (pc1 := 70) at_182_69 (am_lk1 l3 rfl rfl) rfl ?_
  refine aw_iconst (v := 1) (pc1 := 71) at_182_70 (by decide) rfl ?_
  by_cases c1 : ¬ x3 = 1
  · rw [if_pos c1] at hs
    refine aw_icne_t at_182_71 c1 ?_
    exact rg_182_104 x0 x1 x3 x5 (((x5 + 1) + x4)) h o (am_lk1 l0 rfl rfl) (am_lk1 l1 rfl rfl) (am_lk1 l3 rfl rfl) (am_lk1 l5 rfl rfl) am_lk0 i0 hs
  · rw [if_neg c1] at hs
    refine aw_icne_f (pc1 := 74) at_182_71 c1 rfl ?_
    refine aw_vload_n (pc1 := 75) at_182_74 (am_lk1 l0 rfl rfl) i0 rfl ?_
    obtain ⟨v2, e3, hs1⟩ := am_bind hs
    clear hs
    refine aw_pG (pc1 := 78) at_182_75 (am_vR_s e3).1 rfl ?_
    refine aw_iload_n (pc1 := 79) at_182_78 (am_lk1 l1 rfl rfl) rfl ?_
    refine aw_iconst (v := 0) (pc1 := 80) at_182_79 (by decide) rfl ?_
    obtain ⟨z4, hs2⟩ := am_ift hs1
    clear hs1
    refine aw_call (F := fm_54 v2 x1 0 h) (t := true) (na := 3) (kd := 1) (as := [v2, (.int x1), (.int 0)]) at_182_80 (am_k3v kb_54) mn_54 mk_54 rfl rfl (am_ok_v mi_54 (am_hl rfl (am_ccR (am_vR_s e3).2 (am_ccI (am_ccI am_cats_0))) rfl) z4) (am_hc am_cats_0 rfl) (fun _ => ⟨rfl, hh_182⟩) (fun o1 hz9 => rm_54 v2 x1 0 h o1 (am_vR_s e3).2 hz9) ?_
    rcases am_cI_s hs2 with ⟨v5, h6, f7, hs3⟩ | hs3
    · clear hs2
      refine Or.inl ⟨_, _, f7, ?_⟩
      show am_W X _ 182 83 _ [(.int v5)] h6 _
      refine aw_iload (pc1 := 85) at_182_83 (am_lk1 l5 rfl rfl) rfl ?_
      by_cases c8 : ¬ v5 = x5
      · rw [if_pos c8] at hs3
        refine aw_icne_t at_182_85 c8 ?_
        exact rg_182_104 x0 x1 x3 x5 (((x5 + 1) + x4)) h6 o (am_lk1 l0 rfl rfl) (am_lk1 l1 rfl rfl) (am_lk1 l3 rfl rfl) (am_lk1 l5 rfl rfl) am_lk0 i0 hs3
      · rw [if_neg c8] at hs3
        refine aw_icne_f (pc1 := 88) at_182_85 c8 rfl ?_
        refine aw_vload_n (pc1 := 89) at_182_88 (am_lk1 l0 rfl rfl) i0 rfl ?_
        obtain ⟨v9, e10, hs4⟩ := am_bind hs3
        clear hs3
        refine aw_pG (pc1 := 92) at_182_89 (am_vR_s e10).1 rfl ?_
        refine aw_iload_n (pc1 := 93) at_182_92 (am_lk1 l1 rfl rfl) rfl ?_
        refine aw_iconst (v := 1) (pc1 := 94) at_182_93 (by decide) rfl ?_
        obtain ⟨z11, hs5⟩ := am_ift hs4
        clear hs4
        refine aw_call (F := fm_54 v9 x1 1 h6) (t := true) (na := 3) (kd := 1) (as := [v9, (.int x1), (.int 1)]) at_182_94 (am_k3v kb_54) mn_54 mk_54 rfl rfl (am_ok_v mi_54 (am_hl rfl (am_ccR (am_vR_s e10).2 (am_ccI (am_ccI am_cats_0))) rfl) z11) (am_hc am_cats_0 rfl) (fun _ => ⟨rfl, hh_182⟩) (fun o1 hz9 => rm_54 v9 x1 1 h6 o1 (am_vR_s e10).2 hz9) ?_
        rcases am_cI_s hs5 with ⟨v12, h13, f14, hs6⟩ | hs6
        · clear hs5
          refine Or.inl ⟨_, _, f14, ?_⟩
          show am_W X _ 182 97 _ [(.int v12)] h13 _
          refine aw_iload (pc1 := 99) at_182_97 am_lk0 rfl ?_
          by_cases c15 : ¬ v12 = ((x5 + 1) + x4)
          · rw [if_pos c15] at hs6
            refine aw_icne_t at_182_99 c15 ?_
            exact rg_182_104 x0 x1 x3 x5 (((x5 + 1) + x4)) h13 o (am_lk1 l0 rfl rfl) (am_lk1 l1 rfl rfl) (am_lk1 l3 rfl rfl) (am_lk1 l5 rfl rfl) am_lk0 i0 hs6
          · rw [if_neg c15] at hs6
            refine aw_icne_f (pc1 := 102) at_182_99 c15 rfl ?_
            refine aw_iconst (v := 0) (pc1 := 103) at_182_102 (by decide) rfl ?_
            cases hs6
            exact aw_iret at_182_103 (by rw [rt_182]; decide) rfl
        · clear hs5
          exact Or.inr hs6
    · clear hs2
      exact Or.inr hs3
def fg_182_6 (N : Nat) : Nat → Value → Int32 → Int32 → Int32 → Int32 → am_H → Option am_O
  | 0 => fun _ _ _ _ _ _ => none
  | K + 1 => fun x0 x1 x3 x4 x5 h => ((am_vR (am_pG 5 x0 h)).bind fun v1 => ((am_vI (am_pG 770 v1 h)).bind fun v3 => (if (v3 - 1) ≤ x5 then (fg_182_60 N x0 x1 x3 x4 x5 h) else ((am_vR (am_pG 5 x0 h)).bind fun v6 => ((am_vI (am_pG 770 v6 h)).bind fun v8 => (if x4 < ((v8 - 1) - x5) then (fg_182_60 N x0 x1 x3 x4 x5 h) else ((am_vR (am_pG 5 x0 h)).bind fun v11 => ((am_vI (am_pG 770 v11 h)).bind fun v13 => (fg_182_6 N K x0 x1 x3 ((x4 - ((v13 - 1) - x5))) ((x5 + 1)) h)))))))))
theorem rg_182_6 {X : am_X} {d : Nat} {N : Nat} : ∀ (K : Nat) (x0 : Value) (x1 : Int32) (x3 : Int32) (x4 : Int32) (x5 : Int32) (h : am_H) (o : am_O), fg_182_6 N K x0 x1 x3 x4 x5 h = some o → ∀ lv : am_LV, (lv.lookup 0 = some x0) → (lv.lookup 1 = some (.int x1)) → (lv.lookup 3 = some (.int x3)) → (lv.lookup 4 = some (.int x4)) → (lv.lookup 5 = some (.int x5)) → (am_isR x0 = true) → am_W X (d + 1) 182 6 lv [] h (fun q => q = o) := by
  intro K
  induction K with
  | zero => intro x0 x1 x3 x4 x5 h o hs; cases hs
  | succ K ih =>
    intro x0 x1 x3 x4 x5 h o hs lv l0 l1 l3 l4 l5 i0
    unfold fg_182_6 at hs
    refine aw_iload (pc1 := 8) at_182_6 l5 rfl ?_
    refine aw_vload_n (pc1 := 9) at_182_8 l0 i0 rfl ?_
    obtain ⟨v1, e2, hs1⟩ := am_bind hs
    clear hs
    refine aw_pG (pc1 := 12) at_182_9 (am_vR_s e2).1 rfl ?_
    obtain ⟨v3, e4, hs2⟩ := am_bind hs1
    clear hs1
    refine aw_pG (pc1 := 15) at_182_12 (am_vI_s e4) rfl ?_
    refine aw_iconst (v := 1) (pc1 := 16) at_182_15 (by decide) rfl ?_
    refine aw_isub (v := (v3 - 1)) (pc1 := 17) at_182_16 rfl rfl ?_
    by_cases c5 : (v3 - 1) ≤ x5
    · rw [if_pos c5] at hs2
      refine aw_icge_t at_182_17 c5 ?_
      exact rg_182_60 x0 x1 x3 x4 x5 h o l0 l1 l3 l4 l5 i0 hs2
    · rw [if_neg c5] at hs2
      refine aw_icge_f (pc1 := 20) at_182_17 c5 rfl ?_
      refine aw_iload (pc1 := 22) at_182_20 l4 rfl ?_
      refine aw_vload_n (pc1 := 23) at_182_22 l0 i0 rfl ?_
      obtain ⟨v6, e7, hs3⟩ := am_bind hs2
      clear hs2
      refine aw_pG (pc1 := 26) at_182_23 (am_vR_s e7).1 rfl ?_
      obtain ⟨v8, e9, hs4⟩ := am_bind hs3
      clear hs3
      refine aw_pG (pc1 := 29) at_182_26 (am_vI_s e9) rfl ?_
      refine aw_iconst (v := 1) (pc1 := 30) at_182_29 (by decide) rfl ?_
      refine aw_isub (v := (v8 - 1)) (pc1 := 31) at_182_30 rfl rfl ?_
      refine aw_iload (pc1 := 33) at_182_31 l5 rfl ?_
      refine aw_isub (v := ((v8 - 1) - x5)) (pc1 := 34) at_182_33 rfl rfl ?_
      by_cases c10 : x4 < ((v8 - 1) - x5)
      · rw [if_pos c10] at hs4
        refine aw_iclt_t at_182_34 c10 ?_
        exact rg_182_60 x0 x1 x3 x4 x5 h o l0 l1 l3 l4 l5 i0 hs4
      · rw [if_neg c10] at hs4
        refine aw_iclt_f (pc1 := 37) at_182_34 c10 rfl ?_
        refine aw_iload (pc1 := 39) at_182_37 l4 rfl ?_
        refine aw_vload_n (pc1 := 40) at_182_39 l0 i0 rfl ?_
        obtain ⟨v11, e12, hs5⟩ := am_bind hs4
        clear hs4
        refine aw_pG (pc1 := 43) at_182_40 (am_vR_s e12).1 rfl ?_
        obtain ⟨v13, e14, hs6⟩ := am_bind hs5
        clear hs5
        refine aw_pG (pc1 := 46) at_182_43 (am_vI_s e14) rfl ?_
        refine aw_iconst (v := 1) (pc1 := 47) at_182_46 (by decide) rfl ?_
        refine aw_isub (v := (v13 - 1)) (pc1 := 48) at_182_47 rfl rfl ?_
        refine aw_iload (pc1 := 50) at_182_48 l5 rfl ?_
        refine aw_isub (v := ((v13 - 1) - x5)) (pc1 := 51) at_182_50 rfl rfl ?_
        refine aw_isub (v := (x4 - ((v13 - 1) - x5))) (pc1 := 52) at_182_51 rfl rfl ?_
        refine aw_istore (lv1 := am_put1 _ 4 _) (pc1 := 54) at_182_52 rfl rfl ?_
        refine aw_iinc (v := (x5 + 1)) (c := 1) (lv1 := am_put1 _ 5 _) (pc1 := 57) at_182_54 (am_lk1 l5 rfl rfl) (by decide) rfl rfl rfl ?_
        refine aw_goto at_182_57 ?_
        exact ih x0 x1 x3 ((x4 - ((v13 - 1) - x5))) ((x5 + 1)) h o hs6 _ (am_lk1 (am_lk1 l0 rfl rfl) rfl rfl) (am_lk1 (am_lk1 l1 rfl rfl) rfl rfl) (am_lk1 (am_lk1 l3 rfl rfl) rfl rfl) (am_lk1 am_lk0 rfl rfl) am_lk0 i0
def fg_182_0 (N : Nat) (x0 : Value) (x1 : Int32) (x2 : Int32) (x3 : Int32) (h : am_H) : Option am_O := (fg_182_6 N N x0 x1 x3 x2 0 h)
theorem rg_182_0 {X : am_X} {d : Nat} {N : Nat} {lv : am_LV} (x0 : Value) (x1 : Int32) (x2 : Int32) (x3 : Int32) (h : am_H) (o : am_O) (l0 : lv.lookup 0 = some x0) (l1 : lv.lookup 1 = some (.int x1)) (l2 : lv.lookup 2 = some (.int x2)) (l3 : lv.lookup 3 = some (.int x3)) (i0 : am_isR x0 = true) (hs : fg_182_0 N x0 x1 x2 x3 h = some o) : am_W X (d + 1) 182 0 lv [] h (fun q => q = o) := by
  unfold fg_182_0 at hs
  refine aw_iload_n (pc1 := 1) at_182_0 l2 rfl ?_
  refine aw_istore (lv1 := am_put1 _ 4 _) (pc1 := 3) at_182_1 rfl rfl ?_
  refine aw_iconst (v := 0) (pc1 := 4) at_182_3 (by decide) rfl ?_
  refine aw_istore (lv1 := am_put1 _ 5 _) (pc1 := 6) at_182_4 rfl rfl ?_
  exact rg_182_6 N x0 x1 x3 x2 0 h o hs _ (am_lk1 (am_lk1 l0 rfl rfl) rfl rfl) (am_lk1 (am_lk1 l1 rfl rfl) rfl rfl) (am_lk1 (am_lk1 l3 rfl rfl) rfl rfl) (am_lk1 am_lk0 rfl rfl) am_lk0 i0
def fm_182 (N : Nat) (y0 : Value) (y1 : Int32) (y2 : Int32) (y3 : Int32) (h : am_H) : Option am_O := fg_182_0 N y0 y1 y2 y3 h
theorem rm_182 {X : am_X} {d : Nat} {N : Nat} (y0 : Value) (y1 : Int32) (y2 : Int32) (y3 : Int32) (h : am_H) (o : am_O) (i0 : am_isR y0 = true) (hs : fm_182 N y0 y1 y2 y3 h = some o) : am_W X (d + 1) 182 0 (am_args 0 [y0, .int y1, .int y2, .int y3]) [] h (fun q => q = o) := by
  rw [am_args_R i0, am_args_I, am_args_I, am_args_I]
  exact rg_182_0 y0 y1 y2 y3 h o rfl rfl rfl rfl i0 hs
def fg_183_60 (s0 : Int32) (h : am_H) : Option am_O := (if am_rfit (some FieldType.boolean) s0 then some (.inl (some (.int s0), h)) else none)
theorem rg_183_60 {X : am_X} {d : Nat} {lv : am_LV} (s0 : Int32) (h : am_H) (o : am_O) (hs : fg_183_60 s0 h = some o) : am_W X (d + 1) 183 60 lv [(.int s0)] h (fun q => q = o) := by
  unfold fg_183_60 at hs
  obtain ⟨z1, hs1⟩ := am_ift hs
  clear hs
  cases hs1
  exact aw_iret at_183_60 (by rw [rt_183]; exact z1) rfl
def fg_183_59 (h : am_H) : Option am_O := (fg_183_60 0 h)
theorem rg_183_59 {X : am_X} {d : Nat} {lv : am_LV} (h : am_H) (o : am_O) (hs : fg_183_59 h = some o) : am_W X (d + 1) 183 59 lv [] h (fun q => q = o) := by
  unfold fg_183_59 at hs
  refine aw_iconst (v := 0) (pc1 := 60) at_183_59 (by decide) rfl ?_
  exact rg_183_60 0 h o   hs
def fg_183_0 (x0 : Value) (x1 : Int32) (h : am_H) : Option am_O := ((am_vR (am_pG 0 x0 h)).bind fun v1 => ((am_vR (am_pG 5 x0 h)).bind fun v3 => ((am_vI (am_pG 770 v3 h)).bind fun v5 => (if am_pOk 3 v1 h then am_cV true (fm_34 v1 3 v5 h) (fun h9 => ((am_vR (am_pG 0 x0 h9)).bind fun v11 => ((am_vR (am_pG 5 x0 h9)).bind fun v13 => (if am_pOk 3 v11 h9 then am_cI true (fm_170 v11 v13 0 x1 h9) (fun v16 h17 => (if v16 = 0 then (fg_183_59 h17) else ((am_vR (am_pG 0 x0 h17)).bind fun v20 => ((am_vR (am_pG 5 x0 h17)).bind fun v22 => ((am_vR (am_pG 5 x0 h17)).bind fun v24 => ((am_vI (am_pG 771 v24 h17)).bind fun v26 => (if am_pOk 3 v20 h17 then am_cI true (fm_170 v20 v22 ((x1 + 1)) v26 h17) (fun v29 h30 => (if v29 = 0 then (fg_183_59 h30) else (fg_183_60 1 h30))) else none))))))) else none)))) else none))))
theorem rg_183_0 {X : am_X} {d : Nat} {lv : am_LV} (x0 : Value) (x1 : Int32) (h : am_H) (o : am_O) (l0 : lv.lookup 0 = some x0) (l1 : lv.lookup 1 = some (.int x1)) (i0 : am_isR x0 = true) (hs : fg_183_0 x0 x1 h = some o) : am_W X (d + 1) 183 0 lv [] h (fun q => q = o) := by
  unfold fg_183_0 at hs
  refine aw_vload_n (pc1 := 1) at_183_0 l0 i0 rfl ?_
  obtain ⟨v1, e2, hs1⟩ := am_bind hs
  clear hs
  refine aw_pG (pc1 := 4) at_183_1 (am_vR_s e2).1 rfl ?_
  refine aw_iconst (v := 3) (pc1 := 5) at_183_4 (by decide) rfl ?_
  refine aw_vload_n (pc1 := 6) at_183_5 l0 i0 rfl ?_
  obtain ⟨v3, e4, hs2⟩ := am_bind hs1
  clear hs1
  refine aw_pG (pc1 := 9) at_183_6 (am_vR_s e4).1 rfl ?_
  obtain ⟨v5, e6, hs3⟩ := am_bind hs2
  clear hs2
  refine aw_pG (pc1 := 12) at_183_9 (am_vI_s e6) rfl ?_
  obtain ⟨z7, hs4⟩ := am_ift hs3
  clear hs3
  refine aw_call (F := fm_34 v1 3 v5 h) (t := true) (na := 3) (kd := 1) (as := [v1, (.int 3), (.int v5)]) at_183_12 (am_k3v kb_34) mn_34 mk_34 rfl rfl (am_ok_v mi_34 (am_hl rfl (am_ccR (am_vR_s e2).2 (am_ccI (am_ccI am_cats_0))) rfl) z7) (am_hc am_cats_0 rfl) (fun _ => ⟨rfl, hh_183⟩) (fun o1 hz9 => rm_34 v1 3 v5 h o1 (am_vR_s e2).2 hz9) ?_
  rcases am_cV_s hs4 with ⟨h9, f10, hs5⟩ | hs5
  · clear hs4
    refine Or.inl ⟨_, _, f10, ?_⟩
    show am_W X _ 183 15 _ [] h9 _
    refine aw_vload_n (pc1 := 16) at_183_15 l0 i0 rfl ?_
    obtain ⟨v11, e12, hs6⟩ := am_bind hs5
    clear hs5
    refine aw_pG (pc1 := 19) at_183_16 (am_vR_s e12).1 rfl ?_
    refine aw_vload_n (pc1 := 20) at_183_19 l0 i0 rfl ?_
    obtain ⟨v13, e14, hs7⟩ := am_bind hs6
    clear hs6
    refine aw_pG (pc1 := 23) at_183_20 (am_vR_s e14).1 rfl ?_
    refine aw_iconst (v := 0) (pc1 := 24) at_183_23 (by decide) rfl ?_
    refine aw_iload_n (pc1 := 25) at_183_24 l1 rfl ?_
    obtain ⟨z15, hs8⟩ := am_ift hs7
    clear hs7
    refine aw_call (F := fm_170 v11 v13 0 x1 h9) (t := true) (na := 4) (kd := 1) (as := [v11, v13, (.int 0), (.int x1)]) at_183_25 (am_k3v kb_170) mn_170 mk_170 rfl rfl (am_ok_v mi_170 (am_hl rfl (am_ccR (am_vR_s e12).2 (am_ccR (am_vR_s e14).2 (am_ccI (am_ccI am_cats_0)))) rfl) z15) (am_hc am_cats_0 rfl) (fun _ => ⟨rfl, hh_183⟩) (fun o1 hz9 => rm_170 v11 v13 0 x1 h9 o1 (am_vR_s e12).2 (am_vR_s e14).2 hz9) ?_
    rcases am_cI_s hs8 with ⟨v16, h17, f18, hs9⟩ | hs9
    · clear hs8
      refine Or.inl ⟨_, _, f18, ?_⟩
      show am_W X _ 183 28 _ [(.int v16)] h17 _
      by_cases c19 : v16 = 0
      · rw [if_pos c19] at hs9
        refine aw_ifeq_t at_183_28 c19 ?_
        exact rg_183_59 h17 o   hs9
      · rw [if_neg c19] at hs9
        refine aw_ifeq_f (pc1 := 31) at_183_28 c19 rfl ?_
        refine aw_vload_n (pc1 := 32) at_183_31 l0 i0 rfl ?_
        obtain ⟨v20, e21, hs10⟩ := am_bind hs9
        clear hs9
        refine aw_pG (pc1 := 35) at_183_32 (am_vR_s e21).1 rfl ?_
        refine aw_vload_n (pc1 := 36) at_183_35 l0 i0 rfl ?_
        obtain ⟨v22, e23, hs11⟩ := am_bind hs10
        clear hs10
        refine aw_pG (pc1 := 39) at_183_36 (am_vR_s e23).1 rfl ?_
        refine aw_iload_n (pc1 := 40) at_183_39 l1 rfl ?_
        refine aw_iconst (v := 1) (pc1 := 41) at_183_40 (by decide) rfl ?_
        refine aw_iadd (v := (x1 + 1)) (pc1 := 42) at_183_41 rfl rfl ?_
        refine aw_vload_n (pc1 := 43) at_183_42 l0 i0 rfl ?_
        obtain ⟨v24, e25, hs12⟩ := am_bind hs11
        clear hs11
        refine aw_pG (pc1 := 46) at_183_43 (am_vR_s e25).1 rfl ?_
        obtain ⟨v26, e27, hs13⟩ := am_bind hs12
        clear hs12
        refine aw_pG (pc1 := 49) at_183_46 (am_vI_s e27) rfl ?_
        obtain ⟨z28, hs14⟩ := am_ift hs13
        clear hs13
        refine aw_call (F := fm_170 v20 v22 ((x1 + 1)) v26 h17) (t := true) (na := 4) (kd := 1) (as := [v20, v22, (.int (x1 + 1)), (.int v26)]) at_183_49 (am_k3v kb_170) mn_170 mk_170 rfl rfl (am_ok_v mi_170 (am_hl rfl (am_ccR (am_vR_s e21).2 (am_ccR (am_vR_s e23).2 (am_ccI (am_ccI am_cats_0)))) rfl) z28) (am_hc am_cats_0 rfl) (fun _ => ⟨rfl, hh_183⟩) (fun o1 hz9 => rm_170 v20 v22 ((x1 + 1)) v26 h17 o1 (am_vR_s e21).2 (am_vR_s e23).2 hz9) ?_
        rcases am_cI_s hs14 with ⟨v29, h30, f31, hs15⟩ | hs15
        · clear hs14
          refine Or.inl ⟨_, _, f31, ?_⟩
          show am_W X _ 183 52 _ [(.int v29)] h30 _
          by_cases c32 : v29 = 0
          · rw [if_pos c32] at hs15
            refine aw_ifeq_t at_183_52 c32 ?_
            exact rg_183_59 h30 o   hs15
          · rw [if_neg c32] at hs15
            refine aw_ifeq_f (pc1 := 55) at_183_52 c32 rfl ?_
            refine aw_iconst (v := 1) (pc1 := 56) at_183_55 (by decide) rfl ?_
            refine aw_goto at_183_56 ?_
            exact rg_183_60 1 h30 o   hs15
        · clear hs14
          exact Or.inr hs15
    · clear hs8
      exact Or.inr hs9
  · clear hs4
    exact Or.inr hs5
def fm_183 (y0 : Value) (y1 : Int32) (h : am_H) : Option am_O := fg_183_0 y0 y1 h
theorem rm_183 {X : am_X} {d : Nat} (y0 : Value) (y1 : Int32) (h : am_H) (o : am_O) (i0 : am_isR y0 = true) (hs : fm_183 y0 y1 h = some o) : am_W X (d + 1) 183 0 (am_args 0 [y0, .int y1]) [] h (fun q => q = o) := by
  rw [am_args_R i0, am_args_I]
  exact rg_183_0 y0 y1 h o rfl rfl i0 hs
def fg_184_146 (s0 : Int32) (h : am_H) : Option am_O := (if am_rfit (some FieldType.boolean) s0 then some (.inl (some (.int s0), h)) else none)
theorem rg_184_146 {X : am_X} {d : Nat} {lv : am_LV} (s0 : Int32) (h : am_H) (o : am_O) (hs : fg_184_146 s0 h = some o) : am_W X (d + 1) 184 146 lv [(.int s0)] h (fun q => q = o) := by
  unfold fg_184_146 at hs
  obtain ⟨z1, hs1⟩ := am_ift hs
  clear hs
  cases hs1
  exact aw_iret at_184_146 (by rw [rt_184]; exact z1) rfl
def fg_184_145 (h : am_H) : Option am_O := (fg_184_146 0 h)
theorem rg_184_145 {X : am_X} {d : Nat} {lv : am_LV} (h : am_H) (o : am_O) (hs : fg_184_145 h = some o) : am_W X (d + 1) 184 145 lv [] h (fun q => q = o) := by
  unfold fg_184_145 at hs
  refine aw_iconst (v := 0) (pc1 := 146) at_184_145 (by decide) rfl ?_
  exact rg_184_146 0 h o   hs
def fg_184_48 (x0 : Value) (x1 : Int32) (h : am_H) : Option am_O := ((am_vR (am_pG 0 x0 h)).bind fun v1 => ((am_vR (am_pG 5 x0 h)).bind fun v3 => ((am_vI (am_pG 770 v3 h)).bind fun v5 => (if am_pOk 3 v1 h then am_cV true (fm_34 v1 3 v5 h) (fun h9 => ((am_vR (am_pG 0 x0 h9)).bind fun v11 => ((am_vR (am_pG 5 x0 h9)).bind fun v13 => (if am_pOk 3 v11 h9 then am_cI true (fm_170 v11 v13 0 x1 h9) (fun v16 h17 => (if v16 = 0 then (fg_184_145 h17) else ((am_vR (am_pG 0 x0 h17)).bind fun v20 => ((am_vR (am_pG 5 x0 h17)).bind fun v22 => (if am_pOk 3 v20 h17 then am_cI true (fm_170 v20 v22 ((x1 + 1)) ((x1 + 2)) h17) (fun v25 h26 => (if v25 = 0 then (fg_184_145 h26) else ((am_vR (am_pG 0 x0 h26)).bind fun v29 => ((am_vR (am_pG 5 x0 h26)).bind fun v31 => (if am_pOk 3 v29 h26 then am_cI true (fm_170 v29 v31 x1 ((x1 + 1)) h26) (fun v34 h35 => (if v34 = 0 then (fg_184_145 h35) else ((am_vR (am_pG 0 x0 h35)).bind fun v38 => ((am_vR (am_pG 5 x0 h35)).bind fun v40 => ((am_vR (am_pG 5 x0 h35)).bind fun v42 => ((am_vI (am_pG 771 v42 h35)).bind fun v44 => (if am_pOk 3 v38 h35 then am_cI true (fm_170 v38 v40 ((x1 + 2)) v44 h35) (fun v47 h48 => (if v47 = 0 then (fg_184_145 h48) else (fg_184_146 1 h48))) else none))))))) else none))))) else none))))) else none)))) else none))))
theorem rg_184_48 {X : am_X} {d : Nat} {lv : am_LV} (x0 : Value) (x1 : Int32) (h : am_H) (o : am_O) (l0 : lv.lookup 0 = some x0) (l1 : lv.lookup 1 = some (.int x1)) (i0 : am_isR x0 = true) (hs : fg_184_48 x0 x1 h = some o) : am_W X (d + 1) 184 48 lv [] h (fun q => q = o) := by
  unfold fg_184_48 at hs
  refine aw_vload_n (pc1 := 49) at_184_48 l0 i0 rfl ?_
  obtain ⟨v1, e2, hs1⟩ := am_bind hs
  clear hs
  refine aw_pG (pc1 := 52) at_184_49 (am_vR_s e2).1 rfl ?_
  refine aw_iconst (v := 3) (pc1 := 53) at_184_52 (by decide) rfl ?_
  refine aw_vload_n (pc1 := 54) at_184_53 l0 i0 rfl ?_
  obtain ⟨v3, e4, hs2⟩ := am_bind hs1
  clear hs1
  refine aw_pG (pc1 := 57) at_184_54 (am_vR_s e4).1 rfl ?_
  obtain ⟨v5, e6, hs3⟩ := am_bind hs2
  clear hs2
  refine aw_pG (pc1 := 60) at_184_57 (am_vI_s e6) rfl ?_
  obtain ⟨z7, hs4⟩ := am_ift hs3
  clear hs3
  refine aw_call (F := fm_34 v1 3 v5 h) (t := true) (na := 3) (kd := 1) (as := [v1, (.int 3), (.int v5)]) at_184_60 (am_k3v kb_34) mn_34 mk_34 rfl rfl (am_ok_v mi_34 (am_hl rfl (am_ccR (am_vR_s e2).2 (am_ccI (am_ccI am_cats_0))) rfl) z7) (am_hc am_cats_0 rfl) (fun _ => ⟨rfl, hh_184⟩) (fun o1 hz9 => rm_34 v1 3 v5 h o1 (am_vR_s e2).2 hz9) ?_
  rcases am_cV_s hs4 with ⟨h9, f10, hs5⟩ | hs5
  · clear hs4
    refine Or.inl ⟨_, _, f10, ?_⟩
    show am_W X _ 184 63 _ [] h9 _
    refine aw_vload_n (pc1 := 64) at_184_63 l0 i0 rfl ?_
    obtain ⟨v11, e12, hs6⟩ := am_bind hs5
    clear hs5
    refine aw_pG (pc1 := 67) at_184_64 (am_vR_s e12).1 rfl ?_
    refine aw_vload_n (pc1 := 68) at_184_67 l0 i0 rfl ?_
    obtain ⟨v13, e14, hs7⟩ := am_bind hs6
    clear hs6
    refine aw_pG (pc1 := 71) at_184_68 (am_vR_s e14).1 rfl ?_
    refine aw_iconst (v := 0) (pc1 := 72) at_184_71 (by decide) rfl ?_
    refine aw_iload_n (pc1 := 73) at_184_72 l1 rfl ?_
    obtain ⟨z15, hs8⟩ := am_ift hs7
    clear hs7
    refine aw_call (F := fm_170 v11 v13 0 x1 h9) (t := true) (na := 4) (kd := 1) (as := [v11, v13, (.int 0), (.int x1)]) at_184_73 (am_k3v kb_170) mn_170 mk_170 rfl rfl (am_ok_v mi_170 (am_hl rfl (am_ccR (am_vR_s e12).2 (am_ccR (am_vR_s e14).2 (am_ccI (am_ccI am_cats_0)))) rfl) z15) (am_hc am_cats_0 rfl) (fun _ => ⟨rfl, hh_184⟩) (fun o1 hz9 => rm_170 v11 v13 0 x1 h9 o1 (am_vR_s e12).2 (am_vR_s e14).2 hz9) ?_
    rcases am_cI_s hs8 with ⟨v16, h17, f18, hs9⟩ | hs9
    · clear hs8
      refine Or.inl ⟨_, _, f18, ?_⟩
      show am_W X _ 184 76 _ [(.int v16)] h17 _
      by_cases c19 : v16 = 0
      · rw [if_pos c19] at hs9
        refine aw_ifeq_t at_184_76 c19 ?_
        exact rg_184_145 h17 o   hs9
      · rw [if_neg c19] at hs9
        refine aw_ifeq_f (pc1 := 79) at_184_76 c19 rfl ?_
        refine aw_vload_n (pc1 := 80) at_184_79 l0 i0 rfl ?_
        obtain ⟨v20, e21, hs10⟩ := am_bind hs9
        clear hs9
        refine aw_pG (pc1 := 83) at_184_80 (am_vR_s e21).1 rfl ?_
        refine aw_vload_n (pc1 := 84) at_184_83 l0 i0 rfl ?_
        obtain ⟨v22, e23, hs11⟩ := am_bind hs10
        clear hs10
        refine aw_pG (pc1 := 87) at_184_84 (am_vR_s e23).1 rfl ?_
        refine aw_iload_n (pc1 := 88) at_184_87 l1 rfl ?_
        refine aw_iconst (v := 1) (pc1 := 89) at_184_88 (by decide) rfl ?_
        refine aw_iadd (v := (x1 + 1)) (pc1 := 90) at_184_89 rfl rfl ?_
        refine aw_iload_n (pc1 := 91) at_184_90 l1 rfl ?_
        refine aw_iconst (v := 2) (pc1 := 92) at_184_91 (by decide) rfl ?_
        refine aw_iadd (v := (x1 + 2)) (pc1 := 93) at_184_92 rfl rfl ?_
        obtain ⟨z24, hs12⟩ := am_ift hs11
        clear hs11
        refine aw_call (F := fm_170 v20 v22 ((x1 + 1)) ((x1 + 2)) h17) (t := true) (na := 4) (kd := 1) (as := [v20, v22, (.int (x1 + 1)), (.int (x1 + 2))]) at_184_93 (am_k3v kb_170) mn_170 mk_170 rfl rfl (am_ok_v mi_170 (am_hl rfl (am_ccR (am_vR_s e21).2 (am_ccR (am_vR_s e23).2 (am_ccI (am_ccI am_cats_0)))) rfl) z24) (am_hc am_cats_0 rfl) (fun _ => ⟨rfl, hh_184⟩) (fun o1 hz9 => rm_170 v20 v22 ((x1 + 1)) ((x1 + 2)) h17 o1 (am_vR_s e21).2 (am_vR_s e23).2 hz9) ?_
        rcases am_cI_s hs12 with ⟨v25, h26, f27, hs13⟩ | hs13
        · clear hs12
          refine Or.inl ⟨_, _, f27, ?_⟩
          show am_W X _ 184 96 _ [(.int v25)] h26 _
          by_cases c28 : v25 = 0
          · rw [if_pos c28] at hs13
            refine aw_ifeq_t at_184_96 c28 ?_
            exact rg_184_145 h26 o   hs13
          · rw [if_neg c28] at hs13
            refine aw_ifeq_f (pc1 := 99) at_184_96 c28 rfl ?_
            refine aw_vload_n (pc1 := 100) at_184_99 l0 i0 rfl ?_
            obtain ⟨v29, e30, hs14⟩ := am_bind hs13
            clear hs13
            refine aw_pG (pc1 := 103) at_184_100 (am_vR_s e30).1 rfl ?_
            refine aw_vload_n (pc1 := 104) at_184_103 l0 i0 rfl ?_
            obtain ⟨v31, e32, hs15⟩ := am_bind hs14
            clear hs14
            refine aw_pG (pc1 := 107) at_184_104 (am_vR_s e32).1 rfl ?_
            refine aw_iload_n (pc1 := 108) at_184_107 l1 rfl ?_
            refine aw_iload_n (pc1 := 109) at_184_108 l1 rfl ?_
            refine aw_iconst (v := 1) (pc1 := 110) at_184_109 (by decide) rfl ?_
            refine aw_iadd (v := (x1 + 1)) (pc1 := 111) at_184_110 rfl rfl ?_
            obtain ⟨z33, hs16⟩ := am_ift hs15
            clear hs15
            refine aw_call (F := fm_170 v29 v31 x1 ((x1 + 1)) h26) (t := true) (na := 4) (kd := 1) (as := [v29, v31, (.int x1), (.int (x1 + 1))]) at_184_111 (am_k3v kb_170) mn_170 mk_170 rfl rfl (am_ok_v mi_170 (am_hl rfl (am_ccR (am_vR_s e30).2 (am_ccR (am_vR_s e32).2 (am_ccI (am_ccI am_cats_0)))) rfl) z33) (am_hc am_cats_0 rfl) (fun _ => ⟨rfl, hh_184⟩) (fun o1 hz9 => rm_170 v29 v31 x1 ((x1 + 1)) h26 o1 (am_vR_s e30).2 (am_vR_s e32).2 hz9) ?_
            rcases am_cI_s hs16 with ⟨v34, h35, f36, hs17⟩ | hs17
            · clear hs16
              refine Or.inl ⟨_, _, f36, ?_⟩
              show am_W X _ 184 114 _ [(.int v34)] h35 _
              by_cases c37 : v34 = 0
              · rw [if_pos c37] at hs17
                refine aw_ifeq_t at_184_114 c37 ?_
                exact rg_184_145 h35 o   hs17
              · rw [if_neg c37] at hs17
                refine aw_ifeq_f (pc1 := 117) at_184_114 c37 rfl ?_
                refine aw_vload_n (pc1 := 118) at_184_117 l0 i0 rfl ?_
                obtain ⟨v38, e39, hs18⟩ := am_bind hs17
                clear hs17
                refine aw_pG (pc1 := 121) at_184_118 (am_vR_s e39).1 rfl ?_
                refine aw_vload_n (pc1 := 122) at_184_121 l0 i0 rfl ?_
                obtain ⟨v40, e41, hs19⟩ := am_bind hs18
                clear hs18
                refine aw_pG (pc1 := 125) at_184_122 (am_vR_s e41).1 rfl ?_
                refine aw_iload_n (pc1 := 126) at_184_125 l1 rfl ?_
                refine aw_iconst (v := 2) (pc1 := 127) at_184_126 (by decide) rfl ?_
                refine aw_iadd (v := (x1 + 2)) (pc1 := 128) at_184_127 rfl rfl ?_
                refine aw_vload_n (pc1 := 129) at_184_128 l0 i0 rfl ?_
                obtain ⟨v42, e43, hs20⟩ := am_bind hs19
                clear hs19
                refine aw_pG (pc1 := 132) at_184_129 (am_vR_s e43).1 rfl ?_
                obtain ⟨v44, e45, hs21⟩ := am_bind hs20
                clear hs20
                refine aw_pG (pc1 := 135) at_184_132 (am_vI_s e45) rfl ?_
                obtain ⟨z46, hs22⟩ := am_ift hs21
                clear hs21
                refine aw_call (F := fm_170 v38 v40 ((x1 + 2)) v44 h35) (t := true) (na := 4) (kd := 1) (as := [v38, v40, (.int (x1 + 2)), (.int v44)]) at_184_135 (am_k3v kb_170) mn_170 mk_170 rfl rfl (am_ok_v mi_170 (am_hl rfl (am_ccR (am_vR_s e39).2 (am_ccR (am_vR_s e41).2 (am_ccI (am_ccI am_cats_0)))) rfl) z46) (am_hc am_cats_0 rfl) (fun _ => ⟨rfl, hh_184⟩) (fun o1 hz9 => rm_170 v38 v40 ((x1 + 2)) v44 h35 o1 (am_vR_s e39).2 (am_vR_s e41).2 hz9) ?_
                rcases am_cI_s hs22 with ⟨v47, h48, f49, hs23⟩ | hs23
                · clear hs22
                  refine Or.inl ⟨_, _, f49, ?_⟩
                  show am_W X _ 184 138 _ [(.int v47)] h48 _
                  by_cases c50 : v47 = 0
                  · rw [if_pos c50] at hs23
                    refine aw_ifeq_t at_184_138 c50 ?_
                    exact rg_184_145 h48 o   hs23
                  · rw [if_neg c50] at hs23
                    refine aw_ifeq_f (pc1 := 141) at_184_138 c50 rfl ?_
                    refine aw_iconst (v := 1) (pc1 := 142) at_184_141 (by decide) rfl ?_
                    refine aw_goto at_184_142 ?_
                    exact rg_184_146 1 h48 o   hs23
                · clear hs22
                  exact Or.inr hs23
            · clear hs16
              exact Or.inr hs17
        · clear hs12
          exact Or.inr hs13
    · clear hs8
      exact Or.inr hs9
  · clear hs4
    exact Or.inr hs5
def fg_184_0 (x0 : Value) (x1 : Int32) (h : am_H) : Option am_O := ((am_vR (am_pG 5 x0 h)).bind fun v1 => (if am_pOk 3 v1 h then am_cI true (fm_54 v1 x1 0 h) (fun v4 h5 => ((am_vR (am_pG 5 x0 h5)).bind fun v7 => (if am_pOk 3 v7 h5 then am_cI true (fm_54 v7 ((x1 + 1)) 0 h5) (fun v10 h11 => (if ¬ v4 = v10 then (fg_184_48 x0 x1 h11) else ((am_vR (am_pG 5 x0 h11)).bind fun v14 => (if am_pOk 3 v14 h11 then am_cI true (fm_54 v14 x1 1 h11) (fun v17 h18 => ((am_vR (am_pG 5 x0 h18)).bind fun v20 => (if am_pOk 3 v20 h18 then am_cI true (fm_54 v20 ((x1 + 1)) 1 h18) (fun v23 h24 => (if ¬ v17 = v23 then (fg_184_48 x0 x1 h24) else some (.inl (some (.int 0), h24)))) else none))) else none)))) else none))) else none))
theorem rg_184_0 {X : am_X} {d : Nat} {lv : am_LV} (x0 : Value) (x1 : Int32) (h : am_H) (o : am_O) (l0 : lv.lookup 0 = some x0) (l1 : lv.lookup 1 = some (.int x1)) (i0 : am_isR x0 = true) (hs : fg_184_0 x0 x1 h = some o) : am_W X (d + 1) 184 0 lv [] h (fun q => q = o) := by
  unfold fg_184_0 at hs
  refine aw_vload_n (pc1 := 1) at_184_0 l0 i0 rfl ?_
  obtain ⟨v1, e2, hs1⟩ := am_bind hs
  clear hs
  refine aw_pG (pc1 := 4) at_184_1 (am_vR_s e2).1 rfl ?_
  refine aw_iload_n (pc1 := 5) at_184_4 l1 rfl ?_
  refine aw_iconst (v := 0) (pc1 := 6) at_184_5 (by decide) rfl ?_
  obtain ⟨z3, hs2⟩ := am_ift hs1
  clear hs1
  refine aw_call (F := fm_54 v1 x1 0 h) (t := true) (na := 3) (kd := 1) (as := [v1, (.int x1), (.int 0)]) at_184_6 (am_k3v kb_54) mn_54 mk_54 rfl rfl (am_ok_v mi_54 (am_hl rfl (am_ccR (am_vR_s e2).2 (am_ccI (am_ccI am_cats_0))) rfl) z3) (am_hc am_cats_0 rfl) (fun _ => ⟨rfl, hh_184⟩) (fun o1 hz9 => rm_54 v1 x1 0 h o1 (am_vR_s e2).2 hz9) ?_
  rcases am_cI_s hs2 with ⟨v4, h5, f6, hs3⟩ | hs3
  · clear hs2
    refine Or.inl ⟨_, _, f6, ?_⟩
    show am_W X _ 184 9 _ [(.int v4)] h5 _
    refine aw_vload_n (pc1 := 10) at_184_9 l0 i0 rfl ?_
    obtain ⟨v7, e8, hs4⟩ := am_bind hs3
    clear hs3
    refine aw_pG (pc1 := 13) at_184_10 (am_vR_s e8).1 rfl ?_
    refine aw_iload_n (pc1 := 14) at_184_13 l1 rfl ?_
    refine aw_iconst (v := 1) (pc1 := 15) at_184_14 (by decide) rfl ?_
    refine aw_iadd (v := (x1 + 1)) (pc1 := 16) at_184_15 rfl rfl ?_
    refine aw_iconst (v := 0) (pc1 := 17) at_184_16 (by decide) rfl ?_
    obtain ⟨z9, hs5⟩ := am_ift hs4
    clear hs4
    refine aw_call (F := fm_54 v7 ((x1 + 1)) 0 h5) (t := true) (na := 3) (kd := 1) (as := [v7, (.int (x1 + 1)), (.int 0)]) at_184_17 (am_k3v kb_54) mn_54 mk_54 rfl rfl (am_ok_v mi_54 (am_hl rfl (am_ccR (am_vR_s e8).2 (am_ccI (am_ccI am_cats_0))) rfl) z9) (am_hc (am_ccI am_cats_0) rfl) (fun _ => ⟨rfl, hh_184⟩) (fun o1 hz9 => rm_54 v7 ((x1 + 1)) 0 h5 o1 (am_vR_s e8).2 hz9) ?_
    rcases am_cI_s hs5 with ⟨v10, h11, f12, hs6⟩ | hs6
    · clear hs5
      refine Or.inl ⟨_, _, f12, ?_⟩
      show am_W X _ 184 20 _ [(.int v10), (.int v4)] h11 _
      by_cases c13 : ¬ v4 = v10
      · rw [if_pos c13] at hs6
        refine aw_icne_t at_184_20 c13 ?_
        exact rg_184_48 x0 x1 h11 o l0 l1 i0 hs6
      · rw [if_neg c13] at hs6
        refine aw_icne_f (pc1 := 23) at_184_20 c13 rfl ?_
        refine aw_vload_n (pc1 := 24) at_184_23 l0 i0 rfl ?_
        obtain ⟨v14, e15, hs7⟩ := am_bind hs6
        clear hs6
        refine aw_pG (pc1 := 27) at_184_24 (am_vR_s e15).1 rfl ?_
        refine aw_iload_n (pc1 := 28) at_184_27 l1 rfl ?_
        refine aw_iconst (v := 1) (pc1 := 29) at_184_28 (by decide) rfl ?_
        obtain ⟨z16, hs8⟩ := am_ift hs7
        clear hs7
        refine aw_call (F := fm_54 v14 x1 1 h11) (t := true) (na := 3) (kd := 1) (as := [v14, (.int x1), (.int 1)]) at_184_29 (am_k3v kb_54) mn_54 mk_54 rfl rfl (am_ok_v mi_54 (am_hl rfl (am_ccR (am_vR_s e15).2 (am_ccI (am_ccI am_cats_0))) rfl) z16) (am_hc am_cats_0 rfl) (fun _ => ⟨rfl, hh_184⟩) (fun o1 hz9 => rm_54 v14 x1 1 h11 o1 (am_vR_s e15).2 hz9) ?_
        rcases am_cI_s hs8 with ⟨v17, h18, f19, hs9⟩ | hs9
        · clear hs8
          refine Or.inl ⟨_, _, f19, ?_⟩
          show am_W X _ 184 32 _ [(.int v17)] h18 _
          refine aw_vload_n (pc1 := 33) at_184_32 l0 i0 rfl ?_
          obtain ⟨v20, e21, hs10⟩ := am_bind hs9
          clear hs9
          refine aw_pG (pc1 := 36) at_184_33 (am_vR_s e21).1 rfl ?_
          refine aw_iload_n (pc1 := 37) at_184_36 l1 rfl ?_
          refine aw_iconst (v := 1) (pc1 := 38) at_184_37 (by decide) rfl ?_
          refine aw_iadd (v := (x1 + 1)) (pc1 := 39) at_184_38 rfl rfl ?_
          refine aw_iconst (v := 1) (pc1 := 40) at_184_39 (by decide) rfl ?_
          obtain ⟨z22, hs11⟩ := am_ift hs10
          clear hs10
          refine aw_call (F := fm_54 v20 ((x1 + 1)) 1 h18) (t := true) (na := 3) (kd := 1) (as := [v20, (.int (x1 + 1)), (.int 1)]) at_184_40 (am_k3v kb_54) mn_54 mk_54 rfl rfl (am_ok_v mi_54 (am_hl rfl (am_ccR (am_vR_s e21).2 (am_ccI (am_ccI am_cats_0))) rfl) z22) (am_hc (am_ccI am_cats_0) rfl) (fun _ => ⟨rfl, hh_184⟩) (fun o1 hz9 => rm_54 v20 ((x1 + 1)) 1 h18 o1 (am_vR_s e21).2 hz9) ?_
          rcases am_cI_s hs11 with ⟨v23, h24, f25, hs12⟩ | hs12
          · clear hs11
            refine Or.inl ⟨_, _, f25, ?_⟩
            show am_W X _ 184 43 _ [(.int v23), (.int v17)] h24 _
            by_cases c26 : ¬ v17 = v23
            · rw [if_pos c26] at hs12
              refine aw_icne_t at_184_43 c26 ?_
              exact rg_184_48 x0 x1 h24 o l0 l1 i0 hs12
            · rw [if_neg c26] at hs12
              refine aw_icne_f (pc1 := 46) at_184_43 c26 rfl ?_
              refine aw_iconst (v := 0) (pc1 := 47) at_184_46 (by decide) rfl ?_
              cases hs12
              exact aw_iret at_184_47 (by rw [rt_184]; decide) rfl
          · clear hs11
            exact Or.inr hs12
        · clear hs8
          exact Or.inr hs9
    · clear hs5
      exact Or.inr hs6
  · clear hs2
    exact Or.inr hs3
def fm_184 (y0 : Value) (y1 : Int32) (h : am_H) : Option am_O := fg_184_0 y0 y1 h
theorem rm_184 {X : am_X} {d : Nat} (y0 : Value) (y1 : Int32) (h : am_H) (o : am_O) (i0 : am_isR y0 = true) (hs : fm_184 y0 y1 h = some o) : am_W X (d + 1) 184 0 (am_args 0 [y0, .int y1]) [] h (fun q => q = o) := by
  rw [am_args_R i0, am_args_I]
  exact rg_184_0 y0 y1 h o rfl rfl i0 hs
def fg_163_536 (N : Nat) (s0 : Int32) (h : am_H) : Option am_O := (if am_rfit (some FieldType.boolean) s0 then some (.inl (some (.int s0), h)) else none)
theorem rg_163_536 {X : am_X} {d : Nat} {N : Nat} {lv : am_LV} (s0 : Int32) (h : am_H) (o : am_O) (hs : fg_163_536 N s0 h = some o) : am_W X (d + 3) 163 536 lv [(.int s0)] h (fun q => q = o) := by
  unfold fg_163_536 at hs
  obtain ⟨z1, hs1⟩ := am_ift hs
  clear hs
  cases hs1
  exact aw_iret at_163_536 (by rw [rt_163]; exact z1) rfl
def fg_163_535 (N : Nat) (h : am_H) : Option am_O := (fg_163_536 N 0 h)
theorem rg_163_535 {X : am_X} {d : Nat} {N : Nat} {lv : am_LV} (h : am_H) (o : am_O) (hs : fg_163_535 N h = some o) : am_W X (d + 3) 163 535 lv [] h (fun q => q = o) := by
  unfold fg_163_535 at hs
  refine aw_iconst (v := 0) (pc1 := 536) at_163_535 (by decide) rfl ?_
  exact rg_163_536 0 h o   hs
def fg_163_400 (N : Nat) (s0 : Int32) (h : am_H) : Option am_O := (if am_rfit (some FieldType.boolean) s0 then some (.inl (some (.int s0), h)) else none)
theorem rg_163_400 {X : am_X} {d : Nat} {N : Nat} {lv : am_LV} (s0 : Int32) (h : am_H) (o : am_O) (hs : fg_163_400 N s0 h = some o) : am_W X (d + 3) 163 400 lv [(.int s0)] h (fun q => q = o) := by
  unfold fg_163_400 at hs
  obtain ⟨z1, hs1⟩ := am_ift hs
  clear hs
  cases hs1
  exact aw_iret at_163_400 (by rw [rt_163]; exact z1) rfl
def fg_163_399 (N : Nat) (h : am_H) : Option am_O := (fg_163_400 N 0 h)
theorem rg_163_399 {X : am_X} {d : Nat} {N : Nat} {lv : am_LV} (h : am_H) (o : am_O) (hs : fg_163_399 N h = some o) : am_W X (d + 3) 163 399 lv [] h (fun q => q = o) := by
  unfold fg_163_399 at hs
  refine aw_iconst (v := 0) (pc1 := 400) at_163_399 (by decide) rfl ?_
  exact rg_163_400 0 h o   hs
def fg_163_361 (N : Nat) (s0 : Int32) (h : am_H) : Option am_O := (if am_rfit (some FieldType.boolean) s0 then some (.inl (some (.int s0), h)) else none)
theorem rg_163_361 {X : am_X} {d : Nat} {N : Nat} {lv : am_LV} (s0 : Int32) (h : am_H) (o : am_O) (hs : fg_163_361 N s0 h = some o) : am_W X (d + 3) 163 361 lv [(.int s0)] h (fun q => q = o) := by
  unfold fg_163_361 at hs
  obtain ⟨z1, hs1⟩ := am_ift hs
  clear hs
  cases hs1
  exact aw_iret at_163_361 (by rw [rt_163]; exact z1) rfl
def fg_163_360 (N : Nat) (h : am_H) : Option am_O := (fg_163_361 N 0 h)
theorem rg_163_360 {X : am_X} {d : Nat} {N : Nat} {lv : am_LV} (h : am_H) (o : am_O) (hs : fg_163_360 N h = some o) : am_W X (d + 3) 163 360 lv [] h (fun q => q = o) := by
  unfold fg_163_360 at hs
  refine aw_iconst (v := 0) (pc1 := 361) at_163_360 (by decide) rfl ?_
  exact rg_163_361 0 h o   hs
def fg_163_328 (N : Nat) (s0 : Int32) (h : am_H) : Option am_O := (if am_rfit (some FieldType.boolean) s0 then some (.inl (some (.int s0), h)) else none)
theorem rg_163_328 {X : am_X} {d : Nat} {N : Nat} {lv : am_LV} (s0 : Int32) (h : am_H) (o : am_O) (hs : fg_163_328 N s0 h = some o) : am_W X (d + 3) 163 328 lv [(.int s0)] h (fun q => q = o) := by
  unfold fg_163_328 at hs
  obtain ⟨z1, hs1⟩ := am_ift hs
  clear hs
  cases hs1
  exact aw_iret at_163_328 (by rw [rt_163]; exact z1) rfl
def fg_163_327 (N : Nat) (h : am_H) : Option am_O := (fg_163_328 N 0 h)
theorem rg_163_327 {X : am_X} {d : Nat} {N : Nat} {lv : am_LV} (h : am_H) (o : am_O) (hs : fg_163_327 N h = some o) : am_W X (d + 3) 163 327 lv [] h (fun q => q = o) := by
  unfold fg_163_327 at hs
  refine aw_iconst (v := 0) (pc1 := 328) at_163_327 (by decide) rfl ?_
  exact rg_163_328 0 h o   hs
def fg_163_280 (N : Nat) (s0 : Int32) (h : am_H) : Option am_O := (if am_rfit (some FieldType.boolean) s0 then some (.inl (some (.int s0), h)) else none)
theorem rg_163_280 {X : am_X} {d : Nat} {N : Nat} {lv : am_LV} (s0 : Int32) (h : am_H) (o : am_O) (hs : fg_163_280 N s0 h = some o) : am_W X (d + 3) 163 280 lv [(.int s0)] h (fun q => q = o) := by
  unfold fg_163_280 at hs
  obtain ⟨z1, hs1⟩ := am_ift hs
  clear hs
  cases hs1
  exact aw_iret at_163_280 (by rw [rt_163]; exact z1) rfl
def fg_163_279 (N : Nat) (h : am_H) : Option am_O := (fg_163_280 N 0 h)
theorem rg_163_279 {X : am_X} {d : Nat} {N : Nat} {lv : am_LV} (h : am_H) (o : am_O) (hs : fg_163_279 N h = some o) : am_W X (d + 3) 163 279 lv [] h (fun q => q = o) := by
  unfold fg_163_279 at hs
  refine aw_iconst (v := 0) (pc1 := 280) at_163_279 (by decide) rfl ?_
  exact rg_163_280 0 h o   hs
def fg_163_246 (N : Nat) (s0 : Int32) (h : am_H) : Option am_O := (if am_rfit (some FieldType.boolean) s0 then some (.inl (some (.int s0), h)) else none)
theorem rg_163_246 {X : am_X} {d : Nat} {N : Nat} {lv : am_LV} (s0 : Int32) (h : am_H) (o : am_O) (hs : fg_163_246 N s0 h = some o) : am_W X (d + 3) 163 246 lv [(.int s0)] h (fun q => q = o) := by
  unfold fg_163_246 at hs
  obtain ⟨z1, hs1⟩ := am_ift hs
  clear hs
  cases hs1
  exact aw_iret at_163_246 (by rw [rt_163]; exact z1) rfl
def fg_163_245 (N : Nat) (h : am_H) : Option am_O := (fg_163_246 N 0 h)
theorem rg_163_245 {X : am_X} {d : Nat} {N : Nat} {lv : am_LV} (h : am_H) (o : am_O) (hs : fg_163_245 N h = some o) : am_W X (d + 3) 163 245 lv [] h (fun q => q = o) := by
  unfold fg_163_245 at hs
  refine aw_iconst (v := 0) (pc1 := 246) at_163_245 (by decide) rfl ?_
  exact rg_163_246 0 h o   hs
def fg_163_208 (N : Nat) (s0 : Int32) (h : am_H) : Option am_O := (if am_rfit (some FieldType.boolean) s0 then some (.inl (some (.int s0), h)) else none)
theorem rg_163_208 {X : am_X} {d : Nat} {N : Nat} {lv : am_LV} (s0 : Int32) (h : am_H) (o : am_O) (hs : fg_163_208 N s0 h = some o) : am_W X (d + 3) 163 208 lv [(.int s0)] h (fun q => q = o) := by
  unfold fg_163_208 at hs
  obtain ⟨z1, hs1⟩ := am_ift hs
  clear hs
  cases hs1
  exact aw_iret at_163_208 (by rw [rt_163]; exact z1) rfl
def fg_163_207 (N : Nat) (h : am_H) : Option am_O := (fg_163_208 N 0 h)
theorem rg_163_207 {X : am_X} {d : Nat} {N : Nat} {lv : am_LV} (h : am_H) (o : am_O) (hs : fg_163_207 N h = some o) : am_W X (d + 3) 163 207 lv [] h (fun q => q = o) := by
  unfold fg_163_207 at hs
  refine aw_iconst (v := 0) (pc1 := 208) at_163_207 (by decide) rfl ?_
  exact rg_163_208 0 h o   hs
def fg_163_179 (N : Nat) (s0 : Int32) (h : am_H) : Option am_O := (if am_rfit (some FieldType.boolean) s0 then some (.inl (some (.int s0), h)) else none)
theorem rg_163_179 {X : am_X} {d : Nat} {N : Nat} {lv : am_LV} (s0 : Int32) (h : am_H) (o : am_O) (hs : fg_163_179 N s0 h = some o) : am_W X (d + 3) 163 179 lv [(.int s0)] h (fun q => q = o) := by
  unfold fg_163_179 at hs
  obtain ⟨z1, hs1⟩ := am_ift hs
  clear hs
  cases hs1
  exact aw_iret at_163_179 (by rw [rt_163]; exact z1) rfl
def fg_163_178 (N : Nat) (h : am_H) : Option am_O := (fg_163_179 N 0 h)
theorem rg_163_178 {X : am_X} {d : Nat} {N : Nat} {lv : am_LV} (h : am_H) (o : am_O) (hs : fg_163_178 N h = some o) : am_W X (d + 3) 163 178 lv [] h (fun q => q = o) := by
  unfold fg_163_178 at hs
  refine aw_iconst (v := 0) (pc1 := 179) at_163_178 (by decide) rfl ?_
  exact rg_163_179 0 h o   hs
def fg_163_137 (N : Nat) (s0 : Int32) (h : am_H) : Option am_O := (if am_rfit (some FieldType.boolean) s0 then some (.inl (some (.int s0), h)) else none)
theorem rg_163_137 {X : am_X} {d : Nat} {N : Nat} {lv : am_LV} (s0 : Int32) (h : am_H) (o : am_O) (hs : fg_163_137 N s0 h = some o) : am_W X (d + 3) 163 137 lv [(.int s0)] h (fun q => q = o) := by
  unfold fg_163_137 at hs
  obtain ⟨z1, hs1⟩ := am_ift hs
  clear hs
  cases hs1
  exact aw_iret at_163_137 (by rw [rt_163]; exact z1) rfl
def fg_163_136 (N : Nat) (h : am_H) : Option am_O := (fg_163_137 N 0 h)
theorem rg_163_136 {X : am_X} {d : Nat} {N : Nat} {lv : am_LV} (h : am_H) (o : am_O) (hs : fg_163_136 N h = some o) : am_W X (d + 3) 163 136 lv [] h (fun q => q = o) := by
  unfold fg_163_136 at hs
  refine aw_iconst (v := 0) (pc1 := 137) at_163_136 (by decide) rfl ?_
  exact rg_163_137 0 h o   hs
set_option maxRecDepth 100000 in
def fg_163_0 (N : Nat) (x0 : Value) (x1 : Int32) (h : am_H) : Option am_O := ((am_vI (am_pG 8 x0 h)).bind fun v1 => (if 1 ≤ v1 then ((am_vI (am_pG 7 x0 h)).bind fun v4 => (if v4 = 0 then ((am_vR (am_pG 5 x0 h)).bind fun v7 => (if am_pOk 3 v7 h then am_cI true (fm_54 v7 ((x1 / 5)) 0 h) (fun v10 h11 => (if ¬ v10 = 0 then (fg_163_136 N h11) else (if am_pOk 0 x0 h11 then am_cI true (fm_164 x0 ((x1 / 5)) 1 ((x1 - x1 / 5 * 5)) h11) (fun v15 h16 => (if v15 = 0 then (fg_163_136 N h16) else (fg_163_137 N 1 h16))) else none))) else none)) else (if v4 = 1 then (if am_pOk 0 x0 h then am_cI true (fm_165 N x0 ((x1 / 21)) ((x1 - x1 / 21 * 21)) h) (fun v21 h22 => (if am_rfit (some FieldType.boolean) v21 then some (.inl (some (.int v21), h22)) else none)) else none) else (if v4 = 2 then (if am_pOk 0 x0 h then am_cI true (fm_167 N x0 ((x1 / 3)) ((x1 - x1 / 3 * 3)) h) (fun v27 h28 => (if v27 = 0 then (fg_163_178 N h28) else (if am_pOk 0 x0 h28 then am_cI true (fm_169 x0 ((x1 / 3)) h28) (fun v32 h33 => (if v32 = 0 then (fg_163_178 N h33) else (fg_163_179 N 1 h33))) else none))) else none) else (if v4 = 3 then (if am_pOk 0 x0 h then am_cI true (fm_171 N x0 ((x1 / 3)) ((x1 - x1 / 3 * 3)) h) (fun v38 h39 => (if v38 = 0 then (fg_163_207 N h39) else (if am_pOk 0 x0 h39 then am_cI true (fm_169 x0 ((x1 / 3)) h39) (fun v43 h44 => (if v43 = 0 then (fg_163_207 N h44) else (fg_163_208 N 1 h44))) else none))) else none) else (if v4 = 4 then ((am_vI (am_pG 8 x0 h)).bind fun v48 => (if (v48 : Int32) ≠ 0 then ((am_vI (am_pG 8 x0 h)).bind fun v51 => (if (v51 : Int32) ≠ 0 then (if am_pOk 0 x0 h then am_cI true (fm_172 x0 ((x1 / v48)) ((x1 - x1 / v51 * v51)) h) (fun v55 h56 => (if v55 = 0 then (fg_163_245 N h56) else ((am_vI (am_pG 8 x0 h56)).bind fun v59 => (if (v59 : Int32) ≠ 0 then (if am_pOk 0 x0 h56 then am_cI true (fm_169 x0 ((x1 / v59)) h56) (fun v63 h64 => (if v63 = 0 then (fg_163_245 N h64) else (fg_163_246 N 1 h64))) else none) else none)))) else none) else none)) else none)) else (if v4 = 5 then ((am_vR (am_pG 5 x0 h)).bind fun v68 => (if am_pOk 3 v68 h then am_cI true (fm_54 v68 ((x1 / 5)) 0 h) (fun v71 h72 => (if ¬ v71 = 0 then (fg_163_279 N h72) else (if am_pOk 0 x0 h72 then am_cI true (fm_164 x0 ((x1 / 5)) 1 ((x1 - x1 / 5 * 5)) h72) (fun v76 h77 => (if v76 = 0 then (fg_163_279 N h77) else (fg_163_280 N 1 h77))) else none))) else none)) else (if v4 = 6 then (if am_pOk 0 x0 h then am_cI true (fm_173 x0 ((x1 / 14)) ((x1 - x1 / 14 * 14)) h) (fun v82 h83 => (if am_rfit (some FieldType.boolean) v82 then some (.inl (some (.int v82), h83)) else none)) else none) else (if v4 = 7 then (if am_pOk 0 x0 h then am_cI true (fm_175 N x0 ((x1 / 3)) (((x1 - x1 / 3 * 3) + 1)) h) (fun v88 h89 => (if v88 = 0 then (fg_163_327 N h89) else ((am_vR (am_pG 4 x0 h89)).bind fun v92 => ((am_vR (am_pG 0 x0 h89)).bind fun v94 => (if am_pOk 7 v92 h89 then am_cI true (fm_52 N v92 v94 h89) (fun v97 h98 => (if 0 ≤ v97 then (fg_163_327 N h98) else (fg_163_328 N 1 h98))) else none))))) else none) else (if v4 = 8 then (if am_pOk 0 x0 h then am_cI true (fm_176 N x0 ((x1 / 5)) ((x1 - x1 / 5 * 5)) h) (fun v103 h104 => (if v103 = 0 then (fg_163_360 N h104) else ((am_vR (am_pG 4 x0 h104)).bind fun v107 => ((am_vR (am_pG 0 x0 h104)).bind fun v109 => (if am_pOk 7 v107 h104 then am_cI true (fm_52 N v107 v109 h104) (fun v112 h113 => (if 0 ≤ v112 then (fg_163_360 N h113) else (fg_163_361 N 1 h113))) else none))))) else none) else (if v4 = 9 then ((am_vI (am_pG 8 x0 h)).bind fun v117 => (if (v117 : Int32) ≠ 0 then ((am_vI (am_pG 8 x0 h)).bind fun v120 => (if (v120 : Int32) ≠ 0 then (if am_pOk 0 x0 h then am_cI true (fm_177 x0 ((x1 / v117)) ((x1 - x1 / v120 * v120)) h) (fun v124 h125 => (if v124 = 0 then (fg_163_399 N h125) else ((am_vR (am_pG 4 x0 h125)).bind fun v128 => ((am_vR (am_pG 0 x0 h125)).bind fun v130 => (if am_pOk 7 v128 h125 then am_cI true (fm_52 N v128 v130 h125) (fun v133 h134 => (if 0 ≤ v133 then (fg_163_399 N h134) else (fg_163_400 N 1 h134))) else none))))) else none) else none)) else none)) else (if v4 = 10 then (if am_pOk 0 x0 h then am_cI true (fm_164 x0 ((x1 / 5)) 0 ((x1 - x1 / 5 * 5)) h) (fun v139 h140 => (if am_rfit (some FieldType.boolean) v139 then some (.inl (some (.int v139), h140)) else none)) else none) else (if v4 = 11 then ((am_vI (am_pG 8 x0 h)).bind fun v144 => (if (v144 : Int32) ≠ 0 then ((am_vI (am_pG 8 x0 h)).bind fun v147 => (if (v147 : Int32) ≠ 0 then (if am_pOk 0 x0 h then am_cI true (fm_178 x0 ((x1 / v144)) ((x1 - x1 / v147 * v147)) h) (fun v151 h152 => (if am_rfit (some FieldType.boolean) v151 then some (.inl (some (.int v151), h152)) else none)) else none) else none)) else none)) else (if v4 = 12 then (if am_pOk 0 x0 h then am_cI true (fm_179 x0 x1 h) (fun v157 h158 => (if am_rfit (some FieldType.boolean) v157 then some (.inl (some (.int v157), h158)) else none)) else none) else (if v4 = 13 then (if am_pOk 0 x0 h then am_cI true (fm_180 N x0 ((x1 + 1)) h) (fun v163 h164 => (if am_rfit (some FieldType.boolean) v163 then some (.inl (some (.int v163), h164)) else none)) else none) else (if v4 = 14 then (if am_pOk 0 x0 h then am_cI true (fm_181 N x0 ((x1 + 1)) h) (fun v169 h170 => (if am_rfit (some FieldType.boolean) v169 then some (.inl (some (.int v169), h170)) else none)) else none) else (if v4 = 15 then ((am_vI (am_pG 8 x0 h)).bind fun v174 => (if (v174 : Int32) ≠ 0 then ((am_vI (am_pG 8 x0 h)).bind fun v177 => (if (v177 : Int32) ≠ 0 then (if am_pOk 0 x0 h then am_cI true (fm_182 N x0 ((x1 / v174)) ((x1 - x1 / v177 * v177)) 1 h) (fun v181 h182 => (if am_rfit (some FieldType.boolean) v181 then some (.inl (some (.int v181), h182)) else none)) else none) else none)) else none)) else (if v4 = 16 then (if am_pOk 0 x0 h then am_cI true (fm_183 x0 x1 h) (fun v187 h188 => (if am_rfit (some FieldType.boolean) v187 then some (.inl (some (.int v187), h188)) else none)) else none) else (if v4 = 17 then ((am_vI (am_pG 8 x0 h)).bind fun v192 => (if (v192 : Int32) ≠ 0 then ((am_vI (am_pG 8 x0 h)).bind fun v195 => (if (v195 : Int32) ≠ 0 then (if am_pOk 0 x0 h then am_cI true (fm_182 N x0 ((x1 / v192)) ((x1 - x1 / v195 * v195)) 0 h) (fun v199 h200 => (if am_rfit (some FieldType.boolean) v199 then some (.inl (some (.int v199), h200)) else none)) else none) else none)) else none)) else (if v4 = 18 then (if am_pOk 0 x0 h then am_cI true (fm_184 x0 x1 h) (fun v205 h206 => (if am_rfit (some FieldType.boolean) v205 then some (.inl (some (.int v205), h206)) else none)) else none) else ((am_vI (am_pG 8 x0 h)).bind fun v209 => (if (v209 : Int32) ≠ 0 then ((am_vI (am_pG 8 x0 h)).bind fun v212 => (if (v212 : Int32) ≠ 0 then (if am_pOk 0 x0 h then am_cI true (fm_177 x0 ((x1 / v209)) ((x1 - x1 / v212 * v212)) h) (fun v216 h217 => (if v216 = 0 then (fg_163_535 N h217) else ((am_vR (am_pG 0 x0 h217)).bind fun v220 => ((am_vI (am_pG 771 v220 h217)).bind fun v222 => (if 40 < v222 then (fg_163_535 N h217) else (fg_163_536 N 1 h217)))))) else none) else none)) else none)))))))))))))))))))))) else some (.inl (some (.int 0), h))))
set_option maxRecDepth 100000 in
theorem rg_163_0 {X : am_X} {d : Nat} {N : Nat} {lv : am_LV} (x0 : Value) (x1 : Int32) (h : am_H) (o : am_O) (l0 : lv.lookup 0 = some x0) (l1 : lv.lookup 1 = some (.int x1)) (i0 : am_isR x0 = true) (hs : fg_163_0 N x0 x1 h = some o) : am_W X (d + 3) 163 0 lv [] h (fun q => q = o) := by
  unfold fg_163_0 at hs
  refine aw_vload_n (pc1 := 1) at_163_0 l0 i0 rfl ?_
  obtain ⟨v1, e2, hs1⟩ := am_bind hs
  clear hs
  refine aw_pG (pc1 := 4) at_163_1 (am_vI_s e2) rfl ?_
  refine aw_iconst (v := 1) (pc1 := 5) at_163_4 (by decide) rfl ?_
  by_cases c3 : 1 ≤ v1
  · rw [if_pos c3] at hs1
    refine aw_icge_t at_163_5 c3 ?_
    refine aw_vload_n (pc1 := 11) at_163_10 l0 i0 rfl ?_
    obtain ⟨v4, e5, hs2⟩ := am_bind hs1
    clear hs1
    refine aw_pG (pc1 := 14) at_163_11 (am_vI_s e5) rfl ?_
    by_cases c6 : v4 = 0
    · rw [if_pos c6] at hs2
      refine aw_tsw (t := 104) at_163_14 (by rw [c6]; rfl) ?_
      refine aw_vload_n (pc1 := 105) at_163_104 l0 i0 rfl ?_
      obtain ⟨v7, e8, hs3⟩ := am_bind hs2
      clear hs2
      refine aw_pG (pc1 := 108) at_163_105 (am_vR_s e8).1 rfl ?_
      refine aw_iload_n (pc1 := 109) at_163_108 l1 rfl ?_
      refine aw_iconst (v := 5) (pc1 := 110) at_163_109 (by decide) rfl ?_
      refine aw_idiv (v := (x1 / 5)) (pc1 := 111) at_163_110 (by decide) rfl rfl ?_
      refine aw_iconst (v := 0) (pc1 := 112) at_163_111 (by decide) rfl ?_
      obtain ⟨z9, hs4⟩ := am_ift hs3
      clear hs3
      refine aw_call (F := fm_54 v7 ((x1 / 5)) 0 h) (t := true) (na := 3) (kd := 1) (as := [v7, (.int (x1 / 5)), (.int 0)]) at_163_112 (am_k3v kb_54) mn_54 mk_54 rfl rfl (am_ok_v mi_54 (am_hl rfl (am_ccR (am_vR_s e8).2 (am_ccI (am_ccI am_cats_0))) rfl) z9) (am_hc am_cats_0 rfl) (fun _ => ⟨rfl, hh_163⟩) (fun o1 hz9 => rm_54 v7 ((x1 / 5)) 0 h o1 (am_vR_s e8).2 hz9) ?_
      rcases am_cI_s hs4 with ⟨v10, h11, f12, hs5⟩ | hs5
      · clear hs4
        refine Or.inl ⟨_, _, f12, ?_⟩
        show am_W X _ 163 115 _ [(.int v10)] h11 _
        by_cases c13 : ¬ v10 = 0
        · rw [if_pos c13] at hs5
          refine aw_ifne_t at_163_115 c13 ?_
          exact rg_163_136 h11 o   hs5
        · rw [if_neg c13] at hs5
          refine aw_ifne_f (pc1 := 118) at_163_115 c13 rfl ?_
          refine aw_vload_n (pc1 := 119) at_163_118 l0 i0 rfl ?_
          refine aw_iload_n (pc1 := 120) at_163_119 l1 rfl ?_
          refine aw_iconst (v := 5) (pc1 := 121) at_163_120 (by decide) rfl ?_
          refine aw_idiv (v := (x1 / 5)) (pc1 := 122) at_163_121 (by decide) rfl rfl ?_
          refine aw_iconst (v := 1) (pc1 := 123) at_163_122 (by decide) rfl ?_
          refine aw_iload_n (pc1 := 124) at_163_123 l1 rfl ?_
          refine aw_iconst (v := 5) (pc1 := 125) at_163_124 (by decide) rfl ?_
          refine aw_irem (v := (x1 - x1 / 5 * 5)) (pc1 := 126) at_163_125 (by decide) rfl rfl ?_
          obtain ⟨z14, hs6⟩ := am_ift hs5
          clear hs5
          refine aw_call (F := fm_164 x0 ((x1 / 5)) 1 ((x1 - x1 / 5 * 5)) h11) (t := true) (na := 4) (kd := 1) (as := [x0, (.int (x1 / 5)), (.int 1), (.int (x1 - x1 / 5 * 5))]) at_163_126 (am_k3v kb_164) mn_164 mk_164 rfl rfl (am_ok_v mi_164 (am_hl rfl (am_ccR i0 (am_ccI (am_ccI (am_ccI am_cats_0)))) rfl) z14) (am_hc am_cats_0 rfl) (fun _ => ⟨rfl, hh_163⟩) (fun o1 hz9 => rm_164 x0 ((x1 / 5)) 1 ((x1 - x1 / 5 * 5)) h11 o1 i0 hz9) ?_
          rcases am_cI_s hs6 with ⟨v15, h16, f17, hs7⟩ | hs7
          · clear hs6
            refine Or.inl ⟨_, _, f17, ?_⟩
            show am_W X _ 163 129 _ [(.int v15)] h16 _
            by_cases c18 : v15 = 0
            · rw [if_pos c18] at hs7
              refine aw_ifeq_t at_163_129 c18 ?_
              exact rg_163_136 h16 o   hs7
            · rw [if_neg c18] at hs7
              refine aw_ifeq_f (pc1 := 132) at_163_129 c18 rfl ?_
              refine aw_iconst (v := 1) (pc1 := 133) at_163_132 (by decide) rfl ?_
              refine aw_goto at_163_133 ?_
              exact rg_163_137 1 h16 o   hs7
          · clear hs6
            exact Or.inr hs7
      · clear hs4
        exact Or.inr hs5
    · rw [if_neg c6] at hs2
      by_cases c19 : v4 = 1
      · rw [if_pos c19] at hs2
        refine aw_tsw (t := 138) at_163_14 (by rw [c19]; rfl) ?_
        refine aw_vload_n (pc1 := 139) at_163_138 l0 i0 rfl ?_
        refine aw_iload_n (pc1 := 140) at_163_139 l1 rfl ?_
        refine aw_bipush (v := 21) (pc1 := 142) at_163_140 (by decide) rfl ?_
        refine aw_idiv (v := (x1 / 21)) (pc1 := 143) at_163_142 (by decide) rfl rfl ?_
        refine aw_iload_n (pc1 := 144) at_163_143 l1 rfl ?_
        refine aw_bipush (v := 21) (pc1 := 146) at_163_144 (by decide) rfl ?_
        refine aw_irem (v := (x1 - x1 / 21 * 21)) (pc1 := 147) at_163_146 (by decide) rfl rfl ?_
        obtain ⟨z20, hs8⟩ := am_ift hs2
        clear hs2
        refine aw_call (F := fm_165 N x0 ((x1 / 21)) ((x1 - x1 / 21 * 21)) h) (t := true) (na := 3) (kd := 1) (as := [x0, (.int (x1 / 21)), (.int (x1 - x1 / 21 * 21))]) at_163_147 (am_k3v kb_165) mn_165 mk_165 rfl rfl (am_ok_v mi_165 (am_hl rfl (am_ccR i0 (am_ccI (am_ccI am_cats_0))) rfl) z20) (am_hc am_cats_0 rfl) (fun _ => ⟨rfl, hh_163⟩) (fun o1 hz9 => rm_165 x0 ((x1 / 21)) ((x1 - x1 / 21 * 21)) h o1 i0 hz9) ?_
        rcases am_cI_s hs8 with ⟨v21, h22, f23, hs9⟩ | hs9
        · clear hs8
          refine Or.inl ⟨_, _, f23, ?_⟩
          show am_W X _ 163 150 _ [(.int v21)] h22 _
          obtain ⟨z24, hs10⟩ := am_ift hs9
          clear hs9
          cases hs10
          exact aw_iret at_163_150 (by rw [rt_163]; exact z24) rfl
        · clear hs8
          exact Or.inr hs9
      · rw [if_neg c19] at hs2
        by_cases c25 : v4 = 2
        · rw [if_pos c25] at hs2
          refine aw_tsw (t := 151) at_163_14 (by rw [c25]; rfl) ?_
          refine aw_vload_n (pc1 := 152) at_163_151 l0 i0 rfl ?_
          refine aw_iload_n (pc1 := 153) at_163_152 l1 rfl ?_
          refine aw_iconst (v := 3) (pc1 := 154) at_163_153 (by decide) rfl ?_
          refine aw_idiv (v := (x1 / 3)) (pc1 := 155) at_163_154 (by decide) rfl rfl ?_
          refine aw_iload_n (pc1 := 156) at_163_155 l1 rfl ?_
          refine aw_iconst (v := 3) (pc1 := 157) at_163_156 (by decide) rfl ?_
          refine aw_irem (v := (x1 - x1 / 3 * 3)) (pc1 := 158) at_163_157 (by decide) rfl rfl ?_
          obtain ⟨z26, hs11⟩ := am_ift hs2
          clear hs2
          refine aw_call (F := fm_167 N x0 ((x1 / 3)) ((x1 - x1 / 3 * 3)) h) (t := true) (na := 3) (kd := 1) (as := [x0, (.int (x1 / 3)), (.int (x1 - x1 / 3 * 3))]) at_163_158 (am_k3v kb_167) mn_167 mk_167 rfl rfl (am_ok_v mi_167 (am_hl rfl (am_ccR i0 (am_ccI (am_ccI am_cats_0))) rfl) z26) (am_hc am_cats_0 rfl) (fun _ => ⟨rfl, hh_163⟩) (fun o1 hz9 => rm_167 x0 ((x1 / 3)) ((x1 - x1 / 3 * 3)) h o1 i0 hz9) ?_
          rcases am_cI_s hs11 with ⟨v27, h28, f29, hs12⟩ | hs12
          · clear hs11
            refine Or.inl ⟨_, _, f29, ?_⟩
            show am_W X _ 163 161 _ [(.int v27)] h28 _
            by_cases c30 : v27 = 0
            · rw [if_pos c30] at hs12
              refine aw_ifeq_t at_163_161 c30 ?_
              exact rg_163_178 h28 o   hs12
            · rw [if_neg c30] at hs12
              refine aw_ifeq_f (pc1 := 164) at_163_161 c30 rfl ?_
              refine aw_vload_n (pc1 := 165) at_163_164 l0 i0 rfl ?_
              refine aw_iload_n (pc1 := 166) at_163_165 l1 rfl ?_
              refine aw_iconst (v := 3) (pc1 := 167) at_163_166 (by decide) rfl ?_
              refine aw_idiv (v := (x1 / 3)) (pc1 := 168) at_163_167 (by decide) rfl rfl ?_
              obtain ⟨z31, hs13⟩ := am_ift hs12
              clear hs12
              refine aw_call (F := fm_169 x0 ((x1 / 3)) h28) (t := true) (na := 2) (kd := 1) (as := [x0, (.int (x1 / 3))]) at_163_168 (am_k3v kb_169) mn_169 mk_169 rfl rfl (am_ok_v mi_169 (am_hl rfl (am_ccR i0 (am_ccI am_cats_0)) rfl) z31) (am_hc am_cats_0 rfl) (fun _ => ⟨rfl, hh_163⟩) (fun o1 hz9 => rm_169 x0 ((x1 / 3)) h28 o1 i0 hz9) ?_
              rcases am_cI_s hs13 with ⟨v32, h33, f34, hs14⟩ | hs14
              · clear hs13
                refine Or.inl ⟨_, _, f34, ?_⟩
                show am_W X _ 163 171 _ [(.int v32)] h33 _
                by_cases c35 : v32 = 0
                · rw [if_pos c35] at hs14
                  refine aw_ifeq_t at_163_171 c35 ?_
                  exact rg_163_178 h33 o   hs14
                · rw [if_neg c35] at hs14
                  refine aw_ifeq_f (pc1 := 174) at_163_171 c35 rfl ?_
                  refine aw_iconst (v := 1) (pc1 := 175) at_163_174 (by decide) rfl ?_
                  refine aw_goto at_163_175 ?_
                  exact rg_163_179 1 h33 o   hs14
              · clear hs13
                exact Or.inr hs14
          · clear hs11
            exact Or.inr hs12
        · rw [if_neg c25] at hs2
          by_cases c36 : v4 = 3
          · rw [if_pos c36] at hs2
            refine aw_tsw (t := 180) at_163_14 (by rw [c36]; rfl) ?_
            refine aw_vload_n (pc1 := 181) at_163_180 l0 i0 rfl ?_
            refine aw_iload_n (pc1 := 182) at_163_181 l1 rfl ?_
            refine aw_iconst (v := 3) (pc1 := 183) at_163_182 (by decide) rfl ?_
            refine aw_idiv (v := (x1 / 3)) (pc1 := 184) at_163_183 (by decide) rfl rfl ?_
            refine aw_iload_n (pc1 := 185) at_163_184 l1 rfl ?_
            refine aw_iconst (v := 3) (pc1 := 186) at_163_185 (by decide) rfl ?_
            refine aw_irem (v := (x1 - x1 / 3 * 3)) (pc1 := 187) at_163_186 (by decide) rfl rfl ?_
            obtain ⟨z37, hs15⟩ := am_ift hs2
            clear hs2
            refine aw_call (F := fm_171 N x0 ((x1 / 3)) ((x1 - x1 / 3 * 3)) h) (t := true) (na := 3) (kd := 1) (as := [x0, (.int (x1 / 3)), (.int (x1 - x1 / 3 * 3))]) at_163_187 (am_k3v kb_171) mn_171 mk_171 rfl rfl (am_ok_v mi_171 (am_hl rfl (am_ccR i0 (am_ccI (am_ccI am_cats_0))) rfl) z37) (am_hc am_cats_0 rfl) (fun _ => ⟨rfl, hh_163⟩) (fun o1 hz9 => rm_171 x0 ((x1 / 3)) ((x1 - x1 / 3 * 3)) h o1 i0 hz9) ?_
            rcases am_cI_s hs15 with ⟨v38, h39, f40, hs16⟩ | hs16
            · clear hs15
              refine Or.inl ⟨_, _, f40, ?_⟩
              show am_W X _ 163 190 _ [(.int v38)] h39 _
              by_cases c41 : v38 = 0
              · rw [if_pos c41] at hs16
                refine aw_ifeq_t at_163_190 c41 ?_
                exact rg_163_207 h39 o   hs16
              · rw [if_neg c41] at hs16
                refine aw_ifeq_f (pc1 := 193) at_163_190 c41 rfl ?_
                refine aw_vload_n (pc1 := 194) at_163_193 l0 i0 rfl ?_
                refine aw_iload_n (pc1 := 195) at_163_194 l1 rfl ?_
                refine aw_iconst (v := 3) (pc1 := 196) at_163_195 (by decide) rfl ?_
                refine aw_idiv (v := (x1 / 3)) (pc1 := 197) at_163_196 (by decide) rfl rfl ?_
                obtain ⟨z42, hs17⟩ := am_ift hs16
                clear hs16
                refine aw_call (F := fm_169 x0 ((x1 / 3)) h39) (t := true) (na := 2) (kd := 1) (as := [x0, (.int (x1 / 3))]) at_163_197 (am_k3v kb_169) mn_169 mk_169 rfl rfl (am_ok_v mi_169 (am_hl rfl (am_ccR i0 (am_ccI am_cats_0)) rfl) z42) (am_hc am_cats_0 rfl) (fun _ => ⟨rfl, hh_163⟩) (fun o1 hz9 => rm_169 x0 ((x1 / 3)) h39 o1 i0 hz9) ?_
                rcases am_cI_s hs17 with ⟨v43, h44, f45, hs18⟩ | hs18
                · clear hs17
                  refine Or.inl ⟨_, _, f45, ?_⟩
                  show am_W X _ 163 200 _ [(.int v43)] h44 _
                  by_cases c46 : v43 = 0
                  · rw [if_pos c46] at hs18
                    refine aw_ifeq_t at_163_200 c46 ?_
                    exact rg_163_207 h44 o   hs18
                  · rw [if_neg c46] at hs18
                    refine aw_ifeq_f (pc1 := 203) at_163_200 c46 rfl ?_
                    refine aw_iconst (v := 1) (pc1 := 204) at_163_203 (by decide) rfl ?_
                    refine aw_goto at_163_204 ?_
                    exact rg_163_208 1 h44 o   hs18
                · clear hs17
                  exact Or.inr hs18
            · clear hs15
              exact Or.inr hs16
          · rw [if_neg c36] at hs2
            by_cases c47 : v4 = 4
            · rw [if_pos c47] at hs2
              refine aw_tsw (t := 209) at_163_14 (by rw [c47]; rfl) ?_
              refine aw_vload_n (pc1 := 210) at_163_209 l0 i0 rfl ?_
              refine aw_iload_n (pc1 := 211) at_163_210 l1 rfl ?_
              refine aw_vload_n (pc1 := 212) at_163_211 l0 i0 rfl ?_
              obtain ⟨v48, e49, hs19⟩ := am_bind hs2
              clear hs2
              refine aw_pG (pc1 := 215) at_163_212 (am_vI_s e49) rfl ?_
              obtain ⟨z50, hs20⟩ := am_ift hs19
              clear hs19
              refine aw_idiv (v := (x1 / v48)) (pc1 := 216) at_163_215 z50 rfl rfl ?_
              refine aw_iload_n (pc1 := 217) at_163_216 l1 rfl ?_
              refine aw_vload_n (pc1 := 218) at_163_217 l0 i0 rfl ?_
              obtain ⟨v51, e52, hs21⟩ := am_bind hs20
              clear hs20
              refine aw_pG (pc1 := 221) at_163_218 (am_vI_s e52) rfl ?_
              obtain ⟨z53, hs22⟩ := am_ift hs21
              clear hs21
              refine aw_irem (v := (x1 - x1 / v51 * v51)) (pc1 := 222) at_163_221 z53 rfl rfl ?_
              obtain ⟨z54, hs23⟩ := am_ift hs22
              clear hs22
              refine aw_call (F := fm_172 x0 ((x1 / v48)) ((x1 - x1 / v51 * v51)) h) (t := true) (na := 3) (kd := 1) (as := [x0, (.int (x1 / v48)), (.int (x1 - x1 / v51 * v51))]) at_163_222 (am_k3v kb_172) mn_172 mk_172 rfl rfl (am_ok_v mi_172 (am_hl rfl (am_ccR i0 (am_ccI (am_ccI am_cats_0))) rfl) z54) (am_hc am_cats_0 rfl) (fun _ => ⟨rfl, hh_163⟩) (fun o1 hz9 => rm_172 x0 ((x1 / v48)) ((x1 - x1 / v51 * v51)) h o1 i0 hz9) ?_
              rcases am_cI_s hs23 with ⟨v55, h56, f57, hs24⟩ | hs24
              · clear hs23
                refine Or.inl ⟨_, _, f57, ?_⟩
                show am_W X _ 163 225 _ [(.int v55)] h56 _
                by_cases c58 : v55 = 0
                · rw [if_pos c58] at hs24
                  refine aw_ifeq_t at_163_225 c58 ?_
                  exact rg_163_245 h56 o   hs24
                · rw [if_neg c58] at hs24
                  refine aw_ifeq_f (pc1 := 228) at_163_225 c58 rfl ?_
                  refine aw_vload_n (pc1 := 229) at_163_228 l0 i0 rfl ?_
                  refine aw_iload_n (pc1 := 230) at_163_229 l1 rfl ?_
                  refine aw_vload_n (pc1 := 231) at_163_230 l0 i0 rfl ?_
                  obtain ⟨v59, e60, hs25⟩ := am_bind hs24
                  clear hs24
                  refine aw_pG (pc1 := 234) at_163_231 (am_vI_s e60) rfl ?_
                  obtain ⟨z61, hs26⟩ := am_ift hs25
                  clear hs25
                  refine aw_idiv (v := (x1 / v59)) (pc1 := 235) at_163_234 z61 rfl rfl ?_
                  obtain ⟨z62, hs27⟩ := am_ift hs26
                  clear hs26
                  refine aw_call (F := fm_169 x0 ((x1 / v59)) h56) (t := true) (na := 2) (kd := 1) (as := [x0, (.int (x1 / v59))]) at_163_235 (am_k3v kb_169) mn_169 mk_169 rfl rfl (am_ok_v mi_169 (am_hl rfl (am_ccR i0 (am_ccI am_cats_0)) rfl) z62) (am_hc am_cats_0 rfl) (fun _ => ⟨rfl, hh_163⟩) (fun o1 hz9 => rm_169 x0 ((x1 / v59)) h56 o1 i0 hz9) ?_
                  rcases am_cI_s hs27 with ⟨v63, h64, f65, hs28⟩ | hs28
                  · clear hs27
                    refine Or.inl ⟨_, _, f65, ?_⟩
                    show am_W X _ 163 238 _ [(.int v63)] h64 _
                    by_cases c66 : v63 = 0
                    · rw [if_pos c66] at hs28
                      refine aw_ifeq_t at_163_238 c66 ?_
                      exact rg_163_245 h64 o   hs28
                    · rw [if_neg c66] at hs28
                      refine aw_ifeq_f (pc1 := 241) at_163_238 c66 rfl ?_
                      refine aw_iconst (v := 1) (pc1 := 242) at_163_241 (by decide) rfl ?_
                      refine aw_goto at_163_242 ?_
                      exact rg_163_246 1 h64 o   hs28
                  · clear hs27
                    exact Or.inr hs28
              · clear hs23
                exact Or.inr hs24
            · rw [if_neg c47] at hs2
              by_cases c67 : v4 = 5
              · rw [if_pos c67] at hs2
                refine aw_tsw (t := 247) at_163_14 (by rw [c67]; rfl) ?_
                refine aw_vload_n (pc1 := 248) at_163_247 l0 i0 rfl ?_
                obtain ⟨v68, e69, hs29⟩ := am_bind hs2
                clear hs2
                refine aw_pG (pc1 := 251) at_163_248 (am_vR_s e69).1 rfl ?_
                refine aw_iload_n (pc1 := 252) at_163_251 l1 rfl ?_
                refine aw_iconst (v := 5) (pc1 := 253) at_163_252 (by decide) rfl ?_
                refine aw_idiv (v := (x1 / 5)) (pc1 := 254) at_163_253 (by decide) rfl rfl ?_
                refine aw_iconst (v := 0) (pc1 := 255) at_163_254 (by decide) rfl ?_
                obtain ⟨z70, hs30⟩ := am_ift hs29
                clear hs29
                refine aw_call (F := fm_54 v68 ((x1 / 5)) 0 h) (t := true) (na := 3) (kd := 1) (as := [v68, (.int (x1 / 5)), (.int 0)]) at_163_255 (am_k3v kb_54) mn_54 mk_54 rfl rfl (am_ok_v mi_54 (am_hl rfl (am_ccR (am_vR_s e69).2 (am_ccI (am_ccI am_cats_0))) rfl) z70) (am_hc am_cats_0 rfl) (fun _ => ⟨rfl, hh_163⟩) (fun o1 hz9 => rm_54 v68 ((x1 / 5)) 0 h o1 (am_vR_s e69).2 hz9) ?_
                rcases am_cI_s hs30 with ⟨v71, h72, f73, hs31⟩ | hs31
                · clear hs30
                  refine Or.inl ⟨_, _, f73, ?_⟩
                  show am_W X _ 163 258 _ [(.int v71)] h72 _
                  by_cases c74 : ¬ v71 = 0
                  · rw [if_pos c74] at hs31
                    refine aw_ifne_t at_163_258 c74 ?_
                    exact rg_163_279 h72 o   hs31
                  · rw [if_neg c74] at hs31
                    refine aw_ifne_f (pc1 := 261) at_163_258 c74 rfl ?_
                    refine aw_vload_n (pc1 := 262) at_163_261 l0 i0 rfl ?_
                    refine aw_iload_n (pc1 := 263) at_163_262 l1 rfl ?_
                    refine aw_iconst (v := 5) (pc1 := 264) at_163_263 (by decide) rfl ?_
                    refine aw_idiv (v := (x1 / 5)) (pc1 := 265) at_163_264 (by decide) rfl rfl ?_
                    refine aw_iconst (v := 1) (pc1 := 266) at_163_265 (by decide) rfl ?_
                    refine aw_iload_n (pc1 := 267) at_163_266 l1 rfl ?_
                    refine aw_iconst (v := 5) (pc1 := 268) at_163_267 (by decide) rfl ?_
                    refine aw_irem (v := (x1 - x1 / 5 * 5)) (pc1 := 269) at_163_268 (by decide) rfl rfl ?_
                    obtain ⟨z75, hs32⟩ := am_ift hs31
                    clear hs31
                    refine aw_call (F := fm_164 x0 ((x1 / 5)) 1 ((x1 - x1 / 5 * 5)) h72) (t := true) (na := 4) (kd := 1) (as := [x0, (.int (x1 / 5)), (.int 1), (.int (x1 - x1 / 5 * 5))]) at_163_269 (am_k3v kb_164) mn_164 mk_164 rfl rfl (am_ok_v mi_164 (am_hl rfl (am_ccR i0 (am_ccI (am_ccI (am_ccI am_cats_0)))) rfl) z75) (am_hc am_cats_0 rfl) (fun _ => ⟨rfl, hh_163⟩) (fun o1 hz9 => rm_164 x0 ((x1 / 5)) 1 ((x1 - x1 / 5 * 5)) h72 o1 i0 hz9) ?_
                    rcases am_cI_s hs32 with ⟨v76, h77, f78, hs33⟩ | hs33
                    · clear hs32
                      refine Or.inl ⟨_, _, f78, ?_⟩
                      show am_W X _ 163 272 _ [(.int v76)] h77 _
                      by_cases c79 : v76 = 0
                      · rw [if_pos c79] at hs33
                        refine aw_ifeq_t at_163_272 c79 ?_
                        exact rg_163_279 h77 o   hs33
                      · rw [if_neg c79] at hs33
                        refine aw_ifeq_f (pc1 := 275) at_163_272 c79 rfl ?_
                        refine aw_iconst (v := 1) (pc1 := 276) at_163_275 (by decide) rfl ?_
                        refine aw_goto at_163_276 ?_
                        exact rg_163_280 1 h77 o   hs33
                    · clear hs32
                      exact Or.inr hs33
                · clear hs30
                  exact Or.inr hs31
              · rw [if_neg c67] at hs2
                by_cases c80 : v4 = 6
                · rw [if_pos c80] at hs2
                  refine aw_tsw (t := 281) at_163_14 (by rw [c80]; rfl) ?_
                  refine aw_vload_n (pc1 := 282) at_163_281 l0 i0 rfl ?_
                  refine aw_iload_n (pc1 := 283) at_163_282 l1 rfl ?_
                  refine aw_bipush (v := 14) (pc1 := 285) at_163_283 (by decide) rfl ?_
                  refine aw_idiv (v := (x1 / 14)) (pc1 := 286) at_163_285 (by decide) rfl rfl ?_
                  refine aw_iload_n (pc1 := 287) at_163_286 l1 rfl ?_
                  refine aw_bipush (v := 14) (pc1 := 289) at_163_287 (by decide) rfl ?_
                  refine aw_irem (v := (x1 - x1 / 14 * 14)) (pc1 := 290) at_163_289 (by decide) rfl rfl ?_
                  obtain ⟨z81, hs34⟩ := am_ift hs2
                  clear hs2
                  refine aw_call (F := fm_173 x0 ((x1 / 14)) ((x1 - x1 / 14 * 14)) h) (t := true) (na := 3) (kd := 1) (as := [x0, (.int (x1 / 14)), (.int (x1 - x1 / 14 * 14))]) at_163_290 (am_k3v kb_173) mn_173 mk_173 rfl rfl (am_ok_v mi_173 (am_hl rfl (am_ccR i0 (am_ccI (am_ccI am_cats_0))) rfl) z81) (am_hc am_cats_0 rfl) (fun _ => ⟨rfl, hh_163⟩) (fun o1 hz9 => rm_173 x0 ((x1 / 14)) ((x1 - x1 / 14 * 14)) h o1 i0 hz9) ?_
                  rcases am_cI_s hs34 with ⟨v82, h83, f84, hs35⟩ | hs35
                  · clear hs34
                    refine Or.inl ⟨_, _, f84, ?_⟩
                    show am_W X _ 163 293 _ [(.int v82)] h83 _
                    obtain ⟨z85, hs36⟩ := am_ift hs35
                    clear hs35
                    cases hs36
                    exact aw_iret at_163_293 (by rw [rt_163]; exact z85) rfl
                  · clear hs34
                    exact Or.inr hs35
                · rw [if_neg c80] at hs2
                  by_cases c86 : v4 = 7
                  · rw [if_pos c86] at hs2
                    refine aw_tsw (t := 294) at_163_14 (by rw [c86]; rfl) ?_
                    refine aw_vload_n (pc1 := 295) at_163_294 l0 i0 rfl ?_
                    refine aw_iload_n (pc1 := 296) at_163_295 l1 rfl ?_
                    refine aw_iconst (v := 3) (pc1 := 297) at_163_296 (by decide) rfl ?_
                    refine aw_idiv (v := (x1 / 3)) (pc1 := 298) at_163_297 (by decide) rfl rfl ?_
                    refine aw_iload_n (pc1 := 299) at_163_298 l1 rfl ?_
                    refine aw_iconst (v := 3) (pc1 := 300) at_163_299 (by decide) rfl ?_
                    refine aw_irem (v := (x1 - x1 / 3 * 3)) (pc1 := 301) at_163_300 (by decide) rfl rfl ?_
                    refine aw_iconst (v := 1) (pc1 := 302) at_163_301 (by decide) rfl ?_
                    refine aw_iadd (v := ((x1 - x1 / 3 * 3) + 1)) (pc1 := 303) at_163_302 rfl rfl ?_
                    obtain ⟨z87, hs37⟩ := am_ift hs2
                    clear hs2
                    refine aw_call (F := fm_175 N x0 ((x1 / 3)) (((x1 - x1 / 3 * 3) + 1)) h) (t := true) (na := 3) (kd := 1) (as := [x0, (.int (x1 / 3)), (.int ((x1 - x1 / 3 * 3) + 1))]) at_163_303 (am_k3v kb_175) mn_175 mk_175 rfl rfl (am_ok_v mi_175 (am_hl rfl (am_ccR i0 (am_ccI (am_ccI am_cats_0))) rfl) z87) (am_hc am_cats_0 rfl) (fun _ => ⟨rfl, hh_163⟩) (fun o1 hz9 => rm_175 x0 ((x1 / 3)) (((x1 - x1 / 3 * 3) + 1)) h o1 i0 hz9) ?_
                    rcases am_cI_s hs37 with ⟨v88, h89, f90, hs38⟩ | hs38
                    · clear hs37
                      refine Or.inl ⟨_, _, f90, ?_⟩
                      show am_W X _ 163 306 _ [(.int v88)] h89 _
                      by_cases c91 : v88 = 0
                      · rw [if_pos c91] at hs38
                        refine aw_ifeq_t at_163_306 c91 ?_
                        exact rg_163_327 h89 o   hs38
                      · rw [if_neg c91] at hs38
                        refine aw_ifeq_f (pc1 := 309) at_163_306 c91 rfl ?_
                        refine aw_vload_n (pc1 := 310) at_163_309 l0 i0 rfl ?_
                        obtain ⟨v92, e93, hs39⟩ := am_bind hs38
                        clear hs38
                        refine aw_pG (pc1 := 313) at_163_310 (am_vR_s e93).1 rfl ?_
                        refine aw_vload_n (pc1 := 314) at_163_313 l0 i0 rfl ?_
                        obtain ⟨v94, e95, hs40⟩ := am_bind hs39
                        clear hs39
                        refine aw_pG (pc1 := 317) at_163_314 (am_vR_s e95).1 rfl ?_
                        obtain ⟨z96, hs41⟩ := am_ift hs40
                        clear hs40
                        refine aw_call (F := fm_52 N v92 v94 h89) (t := true) (na := 2) (kd := 1) (as := [v92, v94]) at_163_317 (am_k3v kb_52) mn_52 mk_52 rfl rfl (am_ok_v mi_52 (am_hl rfl (am_ccR (am_vR_s e93).2 (am_ccR (am_vR_s e95).2 am_cats_0)) rfl) z96) (am_hc am_cats_0 rfl) (fun _ => ⟨rfl, hh_163⟩) (fun o1 hz9 => rm_52 v92 v94 h89 o1 (am_vR_s e93).2 (am_vR_s e95).2 hz9) ?_
                        rcases am_cI_s hs41 with ⟨v97, h98, f99, hs42⟩ | hs42
                        · clear hs41
                          refine Or.inl ⟨_, _, f99, ?_⟩
                          show am_W X _ 163 320 _ [(.int v97)] h98 _
                          by_cases c100 : 0 ≤ v97
                          · rw [if_pos c100] at hs42
                            refine aw_ifge_t at_163_320 c100 ?_
                            exact rg_163_327 h98 o   hs42
                          · rw [if_neg c100] at hs42
                            refine aw_ifge_f (pc1 := 323) at_163_320 c100 rfl ?_
                            refine aw_iconst (v := 1) (pc1 := 324) at_163_323 (by decide) rfl ?_
                            refine aw_goto at_163_324 ?_
                            exact rg_163_328 1 h98 o   hs42
                        · clear hs41
                          exact Or.inr hs42
                    · clear hs37
                      exact Or.inr hs38
                  · rw [if_neg c86] at hs2
                    by_cases c101 : v4 = 8
                    · rw [if_pos c101] at hs2
                      refine aw_tsw (t := 329) at_163_14 (by rw [c101]; rfl) ?_
                      refine aw_vload_n (pc1 := 330) at_163_329 l0 i0 rfl ?_
                      refine aw_iload_n (pc1 := 331) at_163_330 l1 rfl ?_
                      refine aw_iconst (v := 5) (pc1 := 332) at_163_331 (by decide) rfl ?_
                      refine aw_idiv (v := (x1 / 5)) (pc1 := 333) at_163_332 (by decide) rfl rfl ?_
                      refine aw_iload_n (pc1 := 334) at_163_333 l1 rfl ?_
                      refine aw_iconst (v := 5) (pc1 := 335) at_163_334 (by decide) rfl ?_
                      refine aw_irem (v := (x1 - x1 / 5 * 5)) (pc1 := 336) at_163_335 (by decide) rfl rfl ?_
                      obtain ⟨z102, hs43⟩ := am_ift hs2
                      clear hs2
                      refine aw_call (F := fm_176 N x0 ((x1 / 5)) ((x1 - x1 / 5 * 5)) h) (t := true) (na := 3) (kd := 1) (as := [x0, (.int (x1 / 5)), (.int (x1 - x1 / 5 * 5))]) at_163_336 (am_k3v kb_176) mn_176 mk_176 rfl rfl (am_ok_v mi_176 (am_hl rfl (am_ccR i0 (am_ccI (am_ccI am_cats_0))) rfl) z102) (am_hc am_cats_0 rfl) (fun _ => ⟨rfl, hh_163⟩) (fun o1 hz9 => rm_176 x0 ((x1 / 5)) ((x1 - x1 / 5 * 5)) h o1 i0 hz9) ?_
                      rcases am_cI_s hs43 with ⟨v103, h104, f105, hs44⟩ | hs44
                      · clear hs43
                        refine Or.inl ⟨_, _, f105, ?_⟩
                        show am_W X _ 163 339 _ [(.int v103)] h104 _
                        by_cases c106 : v103 = 0
                        · rw [if_pos c106] at hs44
                          refine aw_ifeq_t at_163_339 c106 ?_
                          exact rg_163_360 h104 o   hs44
                        · rw [if_neg c106] at hs44
                          refine aw_ifeq_f (pc1 := 342) at_163_339 c106 rfl ?_
                          refine aw_vload_n (pc1 := 343) at_163_342 l0 i0 rfl ?_
                          obtain ⟨v107, e108, hs45⟩ := am_bind hs44
                          clear hs44
                          refine aw_pG (pc1 := 346) at_163_343 (am_vR_s e108).1 rfl ?_
                          refine aw_vload_n (pc1 := 347) at_163_346 l0 i0 rfl ?_
                          obtain ⟨v109, e110, hs46⟩ := am_bind hs45
                          clear hs45
                          refine aw_pG (pc1 := 350) at_163_347 (am_vR_s e110).1 rfl ?_
                          obtain ⟨z111, hs47⟩ := am_ift hs46
                          clear hs46
                          refine aw_call (F := fm_52 N v107 v109 h104) (t := true) (na := 2) (kd := 1) (as := [v107, v109]) at_163_350 (am_k3v kb_52) mn_52 mk_52 rfl rfl (am_ok_v mi_52 (am_hl rfl (am_ccR (am_vR_s e108).2 (am_ccR (am_vR_s e110).2 am_cats_0)) rfl) z111) (am_hc am_cats_0 rfl) (fun _ => ⟨rfl, hh_163⟩) (fun o1 hz9 => rm_52 v107 v109 h104 o1 (am_vR_s e108).2 (am_vR_s e110).2 hz9) ?_
                          rcases am_cI_s hs47 with ⟨v112, h113, f114, hs48⟩ | hs48
                          · clear hs47
                            refine Or.inl ⟨_, _, f114, ?_⟩
                            show am_W X _ 163 353 _ [(.int v112)] h113 _
                            by_cases c115 : 0 ≤ v112
                            · rw [if_pos c115] at hs48
                              refine aw_ifge_t at_163_353 c115 ?_
                              exact rg_163_360 h113 o   hs48
                            · rw [if_neg c115] at hs48
                              refine aw_ifge_f (pc1 := 356) at_163_353 c115 rfl ?_
                              refine aw_iconst (v := 1) (pc1 := 357) at_163_356 (by decide) rfl ?_
                              refine aw_goto at_163_357 ?_
                              exact rg_163_361 1 h113 o   hs48
                          · clear hs47
                            exact Or.inr hs48
                      · clear hs43
                        exact Or.inr hs44
                    · rw [if_neg c101] at hs2
                      by_cases c116 : v4 = 9
                      · rw [if_pos c116] at hs2
                        refine aw_tsw (t := 362) at_163_14 (by rw [c116]; rfl) ?_
                        refine aw_vload_n (pc1 := 363) at_163_362 l0 i0 rfl ?_
                        refine aw_iload_n (pc1 := 364) at_163_363 l1 rfl ?_
                        refine aw_vload_n (pc1 := 365) at_163_364 l0 i0 rfl ?_
                        obtain ⟨v117, e118, hs49⟩ := am_bind hs2
                        clear hs2
                        refine aw_pG (pc1 := 368) at_163_365 (am_vI_s e118) rfl ?_
                        obtain ⟨z119, hs50⟩ := am_ift hs49
                        clear hs49
                        refine aw_idiv (v := (x1 / v117)) (pc1 := 369) at_163_368 z119 rfl rfl ?_
                        refine aw_iload_n (pc1 := 370) at_163_369 l1 rfl ?_
                        refine aw_vload_n (pc1 := 371) at_163_370 l0 i0 rfl ?_
                        obtain ⟨v120, e121, hs51⟩ := am_bind hs50
                        clear hs50
                        refine aw_pG (pc1 := 374) at_163_371 (am_vI_s e121) rfl ?_
                        obtain ⟨z122, hs52⟩ := am_ift hs51
                        clear hs51
                        refine aw_irem (v := (x1 - x1 / v120 * v120)) (pc1 := 375) at_163_374 z122 rfl rfl ?_
                        obtain ⟨z123, hs53⟩ := am_ift hs52
                        clear hs52
                        refine aw_call (F := fm_177 x0 ((x1 / v117)) ((x1 - x1 / v120 * v120)) h) (t := true) (na := 3) (kd := 1) (as := [x0, (.int (x1 / v117)), (.int (x1 - x1 / v120 * v120))]) at_163_375 (am_k3v kb_177) mn_177 mk_177 rfl rfl (am_ok_v mi_177 (am_hl rfl (am_ccR i0 (am_ccI (am_ccI am_cats_0))) rfl) z123) (am_hc am_cats_0 rfl) (fun _ => ⟨rfl, hh_163⟩) (fun o1 hz9 => rm_177 x0 ((x1 / v117)) ((x1 - x1 / v120 * v120)) h o1 i0 hz9) ?_
                        rcases am_cI_s hs53 with ⟨v124, h125, f126, hs54⟩ | hs54
                        · clear hs53
                          refine Or.inl ⟨_, _, f126, ?_⟩
                          show am_W X _ 163 378 _ [(.int v124)] h125 _
                          by_cases c127 : v124 = 0
                          · rw [if_pos c127] at hs54
                            refine aw_ifeq_t at_163_378 c127 ?_
                            exact rg_163_399 h125 o   hs54
                          · rw [if_neg c127] at hs54
                            refine aw_ifeq_f (pc1 := 381) at_163_378 c127 rfl ?_
                            refine aw_vload_n (pc1 := 382) at_163_381 l0 i0 rfl ?_
                            obtain ⟨v128, e129, hs55⟩ := am_bind hs54
                            clear hs54
                            refine aw_pG (pc1 := 385) at_163_382 (am_vR_s e129).1 rfl ?_
                            refine aw_vload_n (pc1 := 386) at_163_385 l0 i0 rfl ?_
                            obtain ⟨v130, e131, hs56⟩ := am_bind hs55
                            clear hs55
                            refine aw_pG (pc1 := 389) at_163_386 (am_vR_s e131).1 rfl ?_
                            obtain ⟨z132, hs57⟩ := am_ift hs56
                            clear hs56
                            refine aw_call (F := fm_52 N v128 v130 h125) (t := true) (na := 2) (kd := 1) (as := [v128, v130]) at_163_389 (am_k3v kb_52) mn_52 mk_52 rfl rfl (am_ok_v mi_52 (am_hl rfl (am_ccR (am_vR_s e129).2 (am_ccR (am_vR_s e131).2 am_cats_0)) rfl) z132) (am_hc am_cats_0 rfl) (fun _ => ⟨rfl, hh_163⟩) (fun o1 hz9 => rm_52 v128 v130 h125 o1 (am_vR_s e129).2 (am_vR_s e131).2 hz9) ?_
                            rcases am_cI_s hs57 with ⟨v133, h134, f135, hs58⟩ | hs58
                            · clear hs57
                              refine Or.inl ⟨_, _, f135, ?_⟩
                              show am_W X _ 163 392 _ [(.int v133)] h134 _
                              by_cases c136 : 0 ≤ v133
                              · rw [if_pos c136] at hs58
                                refine aw_ifge_t at_163_392 c136 ?_
                                exact rg_163_399 h134 o   hs58
                              · rw [if_neg c136] at hs58
                                refine aw_ifge_f (pc1 := 395) at_163_392 c136 rfl ?_
                                refine aw_iconst (v := 1) (pc1 := 396) at_163_395 (by decide) rfl ?_
                                refine aw_goto at_163_396 ?_
                                exact rg_163_400 1 h134 o   hs58
                            · clear hs57
                              exact Or.inr hs58
                        · clear hs53
                          exact Or.inr hs54
                      · rw [if_neg c116] at hs2
                        by_cases c137 : v4 = 10
                        · rw [if_pos c137] at hs2
                          refine aw_tsw (t := 401) at_163_14 (by rw [c137]; rfl) ?_
                          refine aw_vload_n (pc1 := 402) at_163_401 l0 i0 rfl ?_
                          refine aw_iload_n (pc1 := 403) at_163_402 l1 rfl ?_
                          refine aw_iconst (v := 5) (pc1 := 404) at_163_403 (by decide) rfl ?_
                          refine aw_idiv (v := (x1 / 5)) (pc1 := 405) at_163_404 (by decide) rfl rfl ?_
                          refine aw_iconst (v := 0) (pc1 := 406) at_163_405 (by decide) rfl ?_
                          refine aw_iload_n (pc1 := 407) at_163_406 l1 rfl ?_
                          refine aw_iconst (v := 5) (pc1 := 408) at_163_407 (by decide) rfl ?_
                          refine aw_irem (v := (x1 - x1 / 5 * 5)) (pc1 := 409) at_163_408 (by decide) rfl rfl ?_
                          obtain ⟨z138, hs59⟩ := am_ift hs2
                          clear hs2
                          refine aw_call (F := fm_164 x0 ((x1 / 5)) 0 ((x1 - x1 / 5 * 5)) h) (t := true) (na := 4) (kd := 1) (as := [x0, (.int (x1 / 5)), (.int 0), (.int (x1 - x1 / 5 * 5))]) at_163_409 (am_k3v kb_164) mn_164 mk_164 rfl rfl (am_ok_v mi_164 (am_hl rfl (am_ccR i0 (am_ccI (am_ccI (am_ccI am_cats_0)))) rfl) z138) (am_hc am_cats_0 rfl) (fun _ => ⟨rfl, hh_163⟩) (fun o1 hz9 => rm_164 x0 ((x1 / 5)) 0 ((x1 - x1 / 5 * 5)) h o1 i0 hz9) ?_
                          rcases am_cI_s hs59 with ⟨v139, h140, f141, hs60⟩ | hs60
                          · clear hs59
                            refine Or.inl ⟨_, _, f141, ?_⟩
                            show am_W X _ 163 412 _ [(.int v139)] h140 _
                            obtain ⟨z142, hs61⟩ := am_ift hs60
                            clear hs60
                            cases hs61
                            exact aw_iret at_163_412 (by rw [rt_163]; exact z142) rfl
                          · clear hs59
                            exact Or.inr hs60
                        · rw [if_neg c137] at hs2
                          by_cases c143 : v4 = 11
                          · rw [if_pos c143] at hs2
                            refine aw_tsw (t := 413) at_163_14 (by rw [c143]; rfl) ?_
                            refine aw_vload_n (pc1 := 414) at_163_413 l0 i0 rfl ?_
                            refine aw_iload_n (pc1 := 415) at_163_414 l1 rfl ?_
                            refine aw_vload_n (pc1 := 416) at_163_415 l0 i0 rfl ?_
                            obtain ⟨v144, e145, hs62⟩ := am_bind hs2
                            clear hs2
                            refine aw_pG (pc1 := 419) at_163_416 (am_vI_s e145) rfl ?_
                            obtain ⟨z146, hs63⟩ := am_ift hs62
                            clear hs62
                            refine aw_idiv (v := (x1 / v144)) (pc1 := 420) at_163_419 z146 rfl rfl ?_
                            refine aw_iload_n (pc1 := 421) at_163_420 l1 rfl ?_
                            refine aw_vload_n (pc1 := 422) at_163_421 l0 i0 rfl ?_
                            obtain ⟨v147, e148, hs64⟩ := am_bind hs63
                            clear hs63
                            refine aw_pG (pc1 := 425) at_163_422 (am_vI_s e148) rfl ?_
                            obtain ⟨z149, hs65⟩ := am_ift hs64
                            clear hs64
                            refine aw_irem (v := (x1 - x1 / v147 * v147)) (pc1 := 426) at_163_425 z149 rfl rfl ?_
                            obtain ⟨z150, hs66⟩ := am_ift hs65
                            clear hs65
                            refine aw_call (F := fm_178 x0 ((x1 / v144)) ((x1 - x1 / v147 * v147)) h) (t := true) (na := 3) (kd := 1) (as := [x0, (.int (x1 / v144)), (.int (x1 - x1 / v147 * v147))]) at_163_426 (am_k3v kb_178) mn_178 mk_178 rfl rfl (am_ok_v mi_178 (am_hl rfl (am_ccR i0 (am_ccI (am_ccI am_cats_0))) rfl) z150) (am_hc am_cats_0 rfl) (fun _ => ⟨rfl, hh_163⟩) (fun o1 hz9 => rm_178 x0 ((x1 / v144)) ((x1 - x1 / v147 * v147)) h o1 i0 hz9) ?_
                            rcases am_cI_s hs66 with ⟨v151, h152, f153, hs67⟩ | hs67
                            · clear hs66
                              refine Or.inl ⟨_, _, f153, ?_⟩
                              show am_W X _ 163 429 _ [(.int v151)] h152 _
                              obtain ⟨z154, hs68⟩ := am_ift hs67
                              clear hs67
                              cases hs68
                              exact aw_iret at_163_429 (by rw [rt_163]; exact z154) rfl
                            · clear hs66
                              exact Or.inr hs67
                          · rw [if_neg c143] at hs2
                            by_cases c155 : v4 = 12
                            · rw [if_pos c155] at hs2
                              refine aw_tsw (t := 430) at_163_14 (by rw [c155]; rfl) ?_
                              refine aw_vload_n (pc1 := 431) at_163_430 l0 i0 rfl ?_
                              refine aw_iload_n (pc1 := 432) at_163_431 l1 rfl ?_
                              obtain ⟨z156, hs69⟩ := am_ift hs2
                              clear hs2
                              refine aw_call (F := fm_179 x0 x1 h) (t := true) (na := 2) (kd := 1) (as := [x0, (.int x1)]) at_163_432 (am_k3v kb_179) mn_179 mk_179 rfl rfl (am_ok_v mi_179 (am_hl rfl (am_ccR i0 (am_ccI am_cats_0)) rfl) z156) (am_hc am_cats_0 rfl) (fun _ => ⟨rfl, hh_163⟩) (fun o1 hz9 => rm_179 x0 x1 h o1 i0 hz9) ?_
                              rcases am_cI_s hs69 with ⟨v157, h158, f159, hs70⟩ | hs70
                              · clear hs69
                                refine Or.inl ⟨_, _, f159, ?_⟩
                                show am_W X _ 163 435 _ [(.int v157)] h158 _
                                obtain ⟨z160, hs71⟩ := am_ift hs70
                                clear hs70
                                cases hs71
                                exact aw_iret at_163_435 (by rw [rt_163]; exact z160) rfl
                              · clear hs69
                                exact Or.inr hs70
                            · rw [if_neg c155] at hs2
                              by_cases c161 : v4 = 13
                              · rw [if_pos c161] at hs2
                                refine aw_tsw (t := 436) at_163_14 (by rw [c161]; rfl) ?_
                                refine aw_vload_n (pc1 := 437) at_163_436 l0 i0 rfl ?_
                                refine aw_iload_n (pc1 := 438) at_163_437 l1 rfl ?_
                                refine aw_iconst (v := 1) (pc1 := 439) at_163_438 (by decide) rfl ?_
                                refine aw_iadd (v := (x1 + 1)) (pc1 := 440) at_163_439 rfl rfl ?_
                                obtain ⟨z162, hs72⟩ := am_ift hs2
                                clear hs2
                                refine aw_call (F := fm_180 N x0 ((x1 + 1)) h) (t := true) (na := 2) (kd := 1) (as := [x0, (.int (x1 + 1))]) at_163_440 (am_k3v kb_180) mn_180 mk_180 rfl rfl (am_ok_v mi_180 (am_hl rfl (am_ccR i0 (am_ccI am_cats_0)) rfl) z162) (am_hc am_cats_0 rfl) (fun _ => ⟨rfl, hh_163⟩) (fun o1 hz9 => rm_180 x0 ((x1 + 1)) h o1 i0 hz9) ?_
                                rcases am_cI_s hs72 with ⟨v163, h164, f165, hs73⟩ | hs73
                                · clear hs72
                                  refine Or.inl ⟨_, _, f165, ?_⟩
                                  show am_W X _ 163 443 _ [(.int v163)] h164 _
                                  obtain ⟨z166, hs74⟩ := am_ift hs73
                                  clear hs73
                                  cases hs74
                                  exact aw_iret at_163_443 (by rw [rt_163]; exact z166) rfl
                                · clear hs72
                                  exact Or.inr hs73
                              · rw [if_neg c161] at hs2
                                by_cases c167 : v4 = 14
                                · rw [if_pos c167] at hs2
                                  refine aw_tsw (t := 444) at_163_14 (by rw [c167]; rfl) ?_
                                  refine aw_vload_n (pc1 := 445) at_163_444 l0 i0 rfl ?_
                                  refine aw_iload_n (pc1 := 446) at_163_445 l1 rfl ?_
                                  refine aw_iconst (v := 1) (pc1 := 447) at_163_446 (by decide) rfl ?_
                                  refine aw_iadd (v := (x1 + 1)) (pc1 := 448) at_163_447 rfl rfl ?_
                                  obtain ⟨z168, hs75⟩ := am_ift hs2
                                  clear hs2
                                  refine aw_call (F := fm_181 N x0 ((x1 + 1)) h) (t := true) (na := 2) (kd := 1) (as := [x0, (.int (x1 + 1))]) at_163_448 (am_k3v kb_181) mn_181 mk_181 rfl rfl (am_ok_v mi_181 (am_hl rfl (am_ccR i0 (am_ccI am_cats_0)) rfl) z168) (am_hc am_cats_0 rfl) (fun _ => ⟨rfl, hh_163⟩) (fun o1 hz9 => rm_181 x0 ((x1 + 1)) h o1 i0 hz9) ?_
                                  rcases am_cI_s hs75 with ⟨v169, h170, f171, hs76⟩ | hs76
                                  · clear hs75
                                    refine Or.inl ⟨_, _, f171, ?_⟩
                                    show am_W X _ 163 451 _ [(.int v169)] h170 _
                                    obtain ⟨z172, hs77⟩ := am_ift hs76
                                    clear hs76
                                    cases hs77
                                    exact aw_iret at_163_451 (by rw [rt_163]; exact z172) rfl
                                  · clear hs75
                                    exact Or.inr hs76
                                · rw [if_neg c167] at hs2
                                  by_cases c173 : v4 = 15
                                  · rw [if_pos c173] at hs2
                                    refine aw_tsw (t := 452) at_163_14 (by rw [c173]; rfl) ?_
                                    refine aw_vload_n (pc1 := 453) at_163_452 l0 i0 rfl ?_
                                    refine aw_iload_n (pc1 := 454) at_163_453 l1 rfl ?_
                                    refine aw_vload_n (pc1 := 455) at_163_454 l0 i0 rfl ?_
                                    obtain ⟨v174, e175, hs78⟩ := am_bind hs2
                                    clear hs2
                                    refine aw_pG (pc1 := 458) at_163_455 (am_vI_s e175) rfl ?_
                                    obtain ⟨z176, hs79⟩ := am_ift hs78
                                    clear hs78
                                    refine aw_idiv (v := (x1 / v174)) (pc1 := 459) at_163_458 z176 rfl rfl ?_
                                    refine aw_iload_n (pc1 := 460) at_163_459 l1 rfl ?_
                                    refine aw_vload_n (pc1 := 461) at_163_460 l0 i0 rfl ?_
                                    obtain ⟨v177, e178, hs80⟩ := am_bind hs79
                                    clear hs79
                                    refine aw_pG (pc1 := 464) at_163_461 (am_vI_s e178) rfl ?_
                                    obtain ⟨z179, hs81⟩ := am_ift hs80
                                    clear hs80
                                    refine aw_irem (v := (x1 - x1 / v177 * v177)) (pc1 := 465) at_163_464 z179 rfl rfl ?_
                                    refine aw_iconst (v := 1) (pc1 := 466) at_163_465 (by decide) rfl ?_
                                    obtain ⟨z180, hs82⟩ := am_ift hs81
                                    clear hs81
                                    refine aw_call (F := fm_182 N x0 ((x1 / v174)) ((x1 - x1 / v177 * v177)) 1 h) (t := true) (na := 4) (kd := 1) (as := [x0, (.int (x1 / v174)), (.int (x1 - x1 / v177 * v177)), (.int 1)]) at_163_466 (am_k3v kb_182) mn_182 mk_182 rfl rfl (am_ok_v mi_182 (am_hl rfl (am_ccR i0 (am_ccI (am_ccI (am_ccI am_cats_0)))) rfl) z180) (am_hc am_cats_0 rfl) (fun _ => ⟨rfl, hh_163⟩) (fun o1 hz9 => rm_182 x0 ((x1 / v174)) ((x1 - x1 / v177 * v177)) 1 h o1 i0 hz9) ?_
                                    rcases am_cI_s hs82 with ⟨v181, h182, f183, hs83⟩ | hs83
                                    · clear hs82
                                      refine Or.inl ⟨_, _, f183, ?_⟩
                                      show am_W X _ 163 469 _ [(.int v181)] h182 _
                                      obtain ⟨z184, hs84⟩ := am_ift hs83
                                      clear hs83
                                      cases hs84
                                      exact aw_iret at_163_469 (by rw [rt_163]; exact z184) rfl
                                    · clear hs82
                                      exact Or.inr hs83
                                  · rw [if_neg c173] at hs2
                                    by_cases c185 : v4 = 16
                                    · rw [if_pos c185] at hs2
                                      refine aw_tsw (t := 470) at_163_14 (by rw [c185]; rfl) ?_
                                      refine aw_vload_n (pc1 := 471) at_163_470 l0 i0 rfl ?_
                                      refine aw_iload_n (pc1 := 472) at_163_471 l1 rfl ?_
                                      obtain ⟨z186, hs85⟩ := am_ift hs2
                                      clear hs2
                                      refine aw_call (F := fm_183 x0 x1 h) (t := true) (na := 2) (kd := 1) (as := [x0, (.int x1)]) at_163_472 (am_k3v kb_183) mn_183 mk_183 rfl rfl (am_ok_v mi_183 (am_hl rfl (am_ccR i0 (am_ccI am_cats_0)) rfl) z186) (am_hc am_cats_0 rfl) (fun _ => ⟨rfl, hh_163⟩) (fun o1 hz9 => rm_183 x0 x1 h o1 i0 hz9) ?_
                                      rcases am_cI_s hs85 with ⟨v187, h188, f189, hs86⟩ | hs86
                                      · clear hs85
                                        refine Or.inl ⟨_, _, f189, ?_⟩
                                        show am_W X _ 163 475 _ [(.int v187)] h188 _
                                        obtain ⟨z190, hs87⟩ := am_ift hs86
                                        clear hs86
                                        cases hs87
                                        exact aw_iret at_163_475 (by rw [rt_163]; exact z190) rfl
                                      · clear hs85
                                        exact Or.inr hs86
                                    · rw [if_neg c185] at hs2
                                      by_cases c191 : v4 = 17
                                      · rw [if_pos c191] at hs2
                                        refine aw_tsw (t := 476) at_163_14 (by rw [c191]; rfl) ?_
                                        refine aw_vload_n (pc1 := 477) at_163_476 l0 i0 rfl ?_
                                        refine aw_iload_n (pc1 := 478) at_163_477 l1 rfl ?_
                                        refine aw_vload_n (pc1 := 479) at_163_478 l0 i0 rfl ?_
                                        obtain ⟨v192, e193, hs88⟩ := am_bind hs2
                                        clear hs2
                                        refine aw_pG (pc1 := 482) at_163_479 (am_vI_s e193) rfl ?_
                                        obtain ⟨z194, hs89⟩ := am_ift hs88
                                        clear hs88
                                        refine aw_idiv (v := (x1 / v192)) (pc1 := 483) at_163_482 z194 rfl rfl ?_
                                        refine aw_iload_n (pc1 := 484) at_163_483 l1 rfl ?_
                                        refine aw_vload_n (pc1 := 485) at_163_484 l0 i0 rfl ?_
                                        obtain ⟨v195, e196, hs90⟩ := am_bind hs89
                                        clear hs89
                                        refine aw_pG (pc1 := 488) at_163_485 (am_vI_s e196) rfl ?_
                                        obtain ⟨z197, hs91⟩ := am_ift hs90
                                        clear hs90
                                        refine aw_irem (v := (x1 - x1 / v195 * v195)) (pc1 := 489) at_163_488 z197 rfl rfl ?_
                                        refine aw_iconst (v := 0) (pc1 := 490) at_163_489 (by decide) rfl ?_
                                        obtain ⟨z198, hs92⟩ := am_ift hs91
                                        clear hs91
                                        refine aw_call (F := fm_182 N x0 ((x1 / v192)) ((x1 - x1 / v195 * v195)) 0 h) (t := true) (na := 4) (kd := 1) (as := [x0, (.int (x1 / v192)), (.int (x1 - x1 / v195 * v195)), (.int 0)]) at_163_490 (am_k3v kb_182) mn_182 mk_182 rfl rfl (am_ok_v mi_182 (am_hl rfl (am_ccR i0 (am_ccI (am_ccI (am_ccI am_cats_0)))) rfl) z198) (am_hc am_cats_0 rfl) (fun _ => ⟨rfl, hh_163⟩) (fun o1 hz9 => rm_182 x0 ((x1 / v192)) ((x1 - x1 / v195 * v195)) 0 h o1 i0 hz9) ?_
                                        rcases am_cI_s hs92 with ⟨v199, h200, f201, hs93⟩ | hs93
                                        · clear hs92
                                          refine Or.inl ⟨_, _, f201, ?_⟩
                                          show am_W X _ 163 493 _ [(.int v199)] h200 _
                                          obtain ⟨z202, hs94⟩ := am_ift hs93
                                          clear hs93
                                          cases hs94
                                          exact aw_iret at_163_493 (by rw [rt_163]; exact z202) rfl
                                        · clear hs92
                                          exact Or.inr hs93
                                      · rw [if_neg c191] at hs2
                                        by_cases c203 : v4 = 18
                                        · rw [if_pos c203] at hs2
                                          refine aw_tsw (t := 494) at_163_14 (by rw [c203]; rfl) ?_
                                          refine aw_vload_n (pc1 := 495) at_163_494 l0 i0 rfl ?_
                                          refine aw_iload_n (pc1 := 496) at_163_495 l1 rfl ?_
                                          obtain ⟨z204, hs95⟩ := am_ift hs2
                                          clear hs2
                                          refine aw_call (F := fm_184 x0 x1 h) (t := true) (na := 2) (kd := 1) (as := [x0, (.int x1)]) at_163_496 (am_k3v kb_184) mn_184 mk_184 rfl rfl (am_ok_v mi_184 (am_hl rfl (am_ccR i0 (am_ccI am_cats_0)) rfl) z204) (am_hc am_cats_0 rfl) (fun _ => ⟨rfl, hh_163⟩) (fun o1 hz9 => rm_184 x0 x1 h o1 i0 hz9) ?_
                                          rcases am_cI_s hs95 with ⟨v205, h206, f207, hs96⟩ | hs96
                                          · clear hs95
                                            refine Or.inl ⟨_, _, f207, ?_⟩
                                            show am_W X _ 163 499 _ [(.int v205)] h206 _
                                            obtain ⟨z208, hs97⟩ := am_ift hs96
                                            clear hs96
                                            cases hs97
                                            exact aw_iret at_163_499 (by rw [rt_163]; exact z208) rfl
                                          · clear hs95
                                            exact Or.inr hs96
                                        · rw [if_neg c203] at hs2
                                          have tc6 : v4.toInt ≠ 0 := fun e9 => c6 (Int32.toInt_inj.mp e9)
                                          have tc19 : v4.toInt ≠ 1 := fun e9 => c19 (Int32.toInt_inj.mp e9)
                                          have tc25 : v4.toInt ≠ 2 := fun e9 => c25 (Int32.toInt_inj.mp e9)
                                          have tc36 : v4.toInt ≠ 3 := fun e9 => c36 (Int32.toInt_inj.mp e9)
                                          have tc47 : v4.toInt ≠ 4 := fun e9 => c47 (Int32.toInt_inj.mp e9)
                                          have tc67 : v4.toInt ≠ 5 := fun e9 => c67 (Int32.toInt_inj.mp e9)
                                          have tc80 : v4.toInt ≠ 6 := fun e9 => c80 (Int32.toInt_inj.mp e9)
                                          have tc86 : v4.toInt ≠ 7 := fun e9 => c86 (Int32.toInt_inj.mp e9)
                                          have tc101 : v4.toInt ≠ 8 := fun e9 => c101 (Int32.toInt_inj.mp e9)
                                          have tc116 : v4.toInt ≠ 9 := fun e9 => c116 (Int32.toInt_inj.mp e9)
                                          have tc137 : v4.toInt ≠ 10 := fun e9 => c137 (Int32.toInt_inj.mp e9)
                                          have tc143 : v4.toInt ≠ 11 := fun e9 => c143 (Int32.toInt_inj.mp e9)
                                          have tc155 : v4.toInt ≠ 12 := fun e9 => c155 (Int32.toInt_inj.mp e9)
                                          have tc161 : v4.toInt ≠ 13 := fun e9 => c161 (Int32.toInt_inj.mp e9)
                                          have tc167 : v4.toInt ≠ 14 := fun e9 => c167 (Int32.toInt_inj.mp e9)
                                          have tc173 : v4.toInt ≠ 15 := fun e9 => c173 (Int32.toInt_inj.mp e9)
                                          have tc185 : v4.toInt ≠ 16 := fun e9 => c185 (Int32.toInt_inj.mp e9)
                                          have tc191 : v4.toInt ≠ 17 := fun e9 => c191 (Int32.toInt_inj.mp e9)
                                          have tc203 : v4.toInt ≠ 18 := fun e9 => c203 (Int32.toInt_inj.mp e9)
                                          refine aw_tsw (t := 500) at_163_14 (am_tsw_d (by omega)) ?_
                                          refine aw_vload_n (pc1 := 501) at_163_500 l0 i0 rfl ?_
                                          refine aw_iload_n (pc1 := 502) at_163_501 l1 rfl ?_
                                          refine aw_vload_n (pc1 := 503) at_163_502 l0 i0 rfl ?_
                                          obtain ⟨v209, e210, hs98⟩ := am_bind hs2
                                          clear hs2
                                          refine aw_pG (pc1 := 506) at_163_503 (am_vI_s e210) rfl ?_
                                          obtain ⟨z211, hs99⟩ := am_ift hs98
                                          clear hs98
                                          refine aw_idiv (v := (x1 / v209)) (pc1 := 507) at_163_506 z211 rfl rfl ?_
                                          refine aw_iload_n (pc1 := 508) at_163_507 l1 rfl ?_
                                          refine aw_vload_n (pc1 := 509) at_163_508 l0 i0 rfl ?_
                                          obtain ⟨v212, e213, hs100⟩ := am_bind hs99
                                          clear hs99
                                          refine aw_pG (pc1 := 512) at_163_509 (am_vI_s e213) rfl ?_
                                          obtain ⟨z214, hs101⟩ := am_ift hs100
                                          clear hs100
                                          refine aw_irem (v := (x1 - x1 / v212 * v212)) (pc1 := 513) at_163_512 z214 rfl rfl ?_
                                          obtain ⟨z215, hs102⟩ := am_ift hs101
                                          clear hs101
                                          refine aw_call (F := fm_177 x0 ((x1 / v209)) ((x1 - x1 / v212 * v212)) h) (t := true) (na := 3) (kd := 1) (as := [x0, (.int (x1 / v209)), (.int (x1 - x1 / v212 * v212))]) at_163_513 (am_k3v kb_177) mn_177 mk_177 rfl rfl (am_ok_v mi_177 (am_hl rfl (am_ccR i0 (am_ccI (am_ccI am_cats_0))) rfl) z215) (am_hc am_cats_0 rfl) (fun _ => ⟨rfl, hh_163⟩) (fun o1 hz9 => rm_177 x0 ((x1 / v209)) ((x1 - x1 / v212 * v212)) h o1 i0 hz9) ?_
                                          rcases am_cI_s hs102 with ⟨v216, h217, f218, hs103⟩ | hs103
                                          · clear hs102
                                            refine Or.inl ⟨_, _, f218, ?_⟩
                                            show am_W X _ 163 516 _ [(.int v216)] h217 _
                                            by_cases c219 : v216 = 0
                                            · rw [if_pos c219] at hs103
                                              refine aw_ifeq_t at_163_516 c219 ?_
                                              exact rg_163_535 h217 o   hs103
                                            · rw [if_neg c219] at hs103
                                              refine aw_ifeq_f (pc1 := 519) at_163_516 c219 rfl ?_
                                              refine aw_vload_n (pc1 := 520) at_163_519 l0 i0 rfl ?_
                                              obtain ⟨v220, e221, hs104⟩ := am_bind hs103
                                              clear hs103
                                              refine aw_pG (pc1 := 523) at_163_520 (am_vR_s e221).1 rfl ?_
                                              obtain ⟨v222, e223, hs105⟩ := am_bind hs104
                                              clear hs104
                                              refine aw_pG (pc1 := 526) at_163_523 (am_vI_s e223) rfl ?_
                                              refine aw_bipush (v := 40) (pc1 := 528) at_163_526 (by decide) rfl ?_
                                              by_cases c224 : 40 < v222
                                              · rw [if_pos c224] at hs105
                                                refine aw_icgt_t at_163_528 c224 ?_
                                                exact rg_163_535 h217 o   hs105
                                              · rw [if_neg c224] at hs105
                                                refine aw_icgt_f (pc1 := 531) at_163_528 c224 rfl ?_
                                                refine aw_iconst (v := 1) (pc1 := 532) at_163_531 (by decide) rfl ?_
                                                refine aw_goto at_163_532 ?_
                                                exact rg_163_536 1 h217 o   hs105
                                          · clear hs102
                                            exact Or.inr hs103
  · rw [if_neg c3] at hs1
    refine aw_icge_f (pc1 := 8) at_163_5 c3 rfl ?_
    refine aw_iconst (v := 0) (pc1 := 9) at_163_8 (by decide) rfl ?_
    cases hs1
    exact aw_iret at_163_9 (by rw [rt_163]; decide) rfl
def fm_163 (N : Nat) (y0 : Value) (y1 : Int32) (h : am_H) : Option am_O := fg_163_0 N y0 y1 h
theorem rm_163 {X : am_X} {d : Nat} {N : Nat} (y0 : Value) (y1 : Int32) (h : am_H) (o : am_O) (i0 : am_isR y0 = true) (hs : fm_163 N y0 y1 h = some o) : am_W X (d + 3) 163 0 (am_args 0 [y0, .int y1]) [] h (fun q => q = o) := by
  rw [am_args_R i0, am_args_I]
  exact rg_163_0 y0 y1 h o rfl rfl i0 hs
def fg_162_26 (N : Nat) (rec_4 : Value → Int32 → Int32 → am_H → Option am_O) (x0 : Value) (x2 : Int32) (s0 : Int32) (s1 : Int32) (h : am_H) : Option am_O := (rec_4 x0 ((s0 + s1)) ((x2 + 1)) h)
theorem rg_162_26 {X : am_X} {d : Nat} {N : Nat} {rec_4 : Value → Int32 → Int32 → am_H → Option am_O} (q_4 : ∀ (x0 : Value) (x1 : Int32) (x2 : Int32) (h : am_H) (o : am_O), rec_4 x0 x1 x2 h = some o → ∀ lv : am_LV, (lv.lookup 0 = some x0) → (lv.lookup 1 = some (.int x1)) → (lv.lookup 2 = some (.int x2)) → (am_isR x0 = true) → am_W X (d + 4) 162 4 lv [] h (fun q => q = o)) {lv : am_LV} (x0 : Value) (x2 : Int32) (s0 : Int32) (s1 : Int32) (h : am_H) (o : am_O) (l0 : lv.lookup 0 = some x0) (l2 : lv.lookup 2 = some (.int x2)) (i0 : am_isR x0 = true) (hs : fg_162_26 N rec_4 x0 x2 s0 s1 h = some o) : am_W X (d + 4) 162 26 lv [(.int s1), (.int s0)] h (fun q => q = o) := by
  unfold fg_162_26 at hs
  refine aw_iadd (v := (s0 + s1)) (pc1 := 27) at_162_26 rfl rfl ?_
  refine aw_istore_n (lv1 := am_put1 _ 1 _) (pc1 := 28) at_162_27 rfl rfl ?_
  refine aw_iinc (v := (x2 + 1)) (c := 1) (lv1 := am_put1 _ 2 _) (pc1 := 31) at_162_28 (am_lk1 l2 rfl rfl) (by decide) rfl rfl rfl ?_
  refine aw_goto at_162_31 ?_
  exact q_4 x0 ((s0 + s1)) ((x2 + 1)) h o hs _ (am_lk1 (am_lk1 l0 rfl (by rw [am_isRc i0]; rfl)) rfl rfl) (am_lk1 am_lk0 rfl rfl) am_lk0 i0
def fg_162_4 (N : Nat) : Nat → Value → Int32 → Int32 → am_H → Option am_O
  | 0 => fun _ _ _ _ => none
  | K + 1 => fun x0 x1 x2 h => ((am_vI (am_pG 9 x0 h)).bind fun v1 => (if v1 ≤ x2 then some (.inl (some (.int x1), h)) else (if am_pOk 0 x0 h then am_cI true (fm_163 N x0 x2 h) (fun v5 h6 => (if v5 = 0 then (fg_162_26 N (fg_162_4 N K) x0 x2 x1 0 h6) else (fg_162_26 N (fg_162_4 N K) x0 x2 x1 1 h6))) else none)))
theorem rg_162_4 {X : am_X} {d : Nat} {N : Nat} : ∀ (K : Nat) (x0 : Value) (x1 : Int32) (x2 : Int32) (h : am_H) (o : am_O), fg_162_4 N K x0 x1 x2 h = some o → ∀ lv : am_LV, (lv.lookup 0 = some x0) → (lv.lookup 1 = some (.int x1)) → (lv.lookup 2 = some (.int x2)) → (am_isR x0 = true) → am_W X (d + 4) 162 4 lv [] h (fun q => q = o) := by
  intro K
  induction K with
  | zero => intro x0 x1 x2 h o hs; cases hs
  | succ K ih =>
    intro x0 x1 x2 h o hs lv l0 l1 l2 i0
    unfold fg_162_4 at hs
    refine aw_iload_n (pc1 := 5) at_162_4 l2 rfl ?_
    refine aw_vload_n (pc1 := 6) at_162_5 l0 i0 rfl ?_
    obtain ⟨v1, e2, hs1⟩ := am_bind hs
    clear hs
    refine aw_pG (pc1 := 9) at_162_6 (am_vI_s e2) rfl ?_
    by_cases c3 : v1 ≤ x2
    · rw [if_pos c3] at hs1
      refine aw_icge_t at_162_9 c3 ?_
      refine aw_iload_n (pc1 := 35) at_162_34 l1 rfl ?_
      cases hs1
      exact aw_iret at_162_35 (by rw [rt_162]; rfl) rfl
    · rw [if_neg c3] at hs1
      refine aw_icge_f (pc1 := 12) at_162_9 c3 rfl ?_
      refine aw_iload_n (pc1 := 13) at_162_12 l1 rfl ?_
      refine aw_vload_n (pc1 := 14) at_162_13 l0 i0 rfl ?_
      refine aw_iload_n (pc1 := 15) at_162_14 l2 rfl ?_
      obtain ⟨z4, hs2⟩ := am_ift hs1
      clear hs1
      refine aw_call (F := fm_163 N x0 x2 h) (t := true) (na := 2) (kd := 1) (as := [x0, (.int x2)]) at_162_15 (am_k3v kb_163) mn_163 mk_163 rfl rfl (am_ok_v mi_163 (am_hl rfl (am_ccR i0 (am_ccI am_cats_0)) rfl) z4) (am_hc (am_ccI am_cats_0) rfl) (fun _ => ⟨rfl, hh_162⟩) (fun o1 hz9 => rm_163 x0 x2 h o1 i0 hz9) ?_
      rcases am_cI_s hs2 with ⟨v5, h6, f7, hs3⟩ | hs3
      · clear hs2
        refine Or.inl ⟨_, _, f7, ?_⟩
        show am_W X _ 162 18 _ [(.int v5), (.int x1)] h6 _
        by_cases c8 : v5 = 0
        · rw [if_pos c8] at hs3
          refine aw_ifeq_t at_162_18 c8 ?_
          refine aw_iconst (v := 0) (pc1 := 26) at_162_25 (by decide) rfl ?_
          exact rg_162_26 (fun z0 z1 z2 h o hs3 => ih z0 z1 z2 h o hs3) x0 x2 x1 0 h6 o l0 l2 i0 hs3
        · rw [if_neg c8] at hs3
          refine aw_ifeq_f (pc1 := 21) at_162_18 c8 rfl ?_
          refine aw_iconst (v := 1) (pc1 := 22) at_162_21 (by decide) rfl ?_
          refine aw_goto at_162_22 ?_
          exact rg_162_26 (fun z0 z1 z2 h o hs3 => ih z0 z1 z2 h o hs3) x0 x2 x1 1 h6 o l0 l2 i0 hs3
      · clear hs2
        exact Or.inr hs3
def fg_162_0 (N : Nat) (x0 : Value) (h : am_H) : Option am_O := (fg_162_4 N N x0 0 0 h)
theorem rg_162_0 {X : am_X} {d : Nat} {N : Nat} {lv : am_LV} (x0 : Value) (h : am_H) (o : am_O) (l0 : lv.lookup 0 = some x0) (i0 : am_isR x0 = true) (hs : fg_162_0 N x0 h = some o) : am_W X (d + 4) 162 0 lv [] h (fun q => q = o) := by
  unfold fg_162_0 at hs
  refine aw_iconst (v := 0) (pc1 := 1) at_162_0 (by decide) rfl ?_
  refine aw_istore_n (lv1 := am_put1 _ 1 _) (pc1 := 2) at_162_1 rfl rfl ?_
  refine aw_iconst (v := 0) (pc1 := 3) at_162_2 (by decide) rfl ?_
  refine aw_istore_n (lv1 := am_put1 _ 2 _) (pc1 := 4) at_162_3 rfl rfl ?_
  exact rg_162_4 N x0 0 0 h o hs _ (am_lk1 (am_lk1 l0 rfl (by rw [am_isRc i0]; rfl)) rfl rfl) (am_lk1 am_lk0 rfl rfl) am_lk0 i0
def fm_162 (N : Nat) (y0 : Value) (h : am_H) : Option am_O := fg_162_0 N y0 h
theorem rm_162 {X : am_X} {d : Nat} {N : Nat} (y0 : Value) (h : am_H) (o : am_O) (i0 : am_isR y0 = true) (hs : fm_162 N y0 h = some o) : am_W X (d + 4) 162 0 (am_args 0 [y0]) [] h (fun q => q = o) := by
  rw [am_args_R i0]
  exact rg_162_0 y0 h o rfl i0 hs
def fg_157_0 (N : Nat) (x0 : Value) (x1 : Int32) (x2 : Int32) (h : am_H) : Option am_O := (if am_pOk 11 x0 h then am_cR true (fm_63 x0 x1 h) (fun v2 h3 => (if am_pOk 11 x0 h3 then am_cV true (fm_158 x0 x2 h3) (fun h7 => ((am_vR (am_pG 2823 x0 h7)).bind fun v9 => (if am_pOk 0 v9 h7 then am_cI true (fm_159 N v9 v2 Value.null x2 h7) (fun v12 h13 => ((am_vR (am_pG 2823 x0 h13)).bind fun v15 => (if am_pOk 0 v15 h13 then am_cI true (fm_162 N v15 h13) (fun v18 h19 => some (.inl (some (.int v18), h19))) else none))) else none))) else none)) else none)
theorem rg_157_0 {X : am_X} {d : Nat} {N : Nat} {lv : am_LV} (x0 : Value) (x1 : Int32) (x2 : Int32) (h : am_H) (o : am_O) (l0 : lv.lookup 0 = some x0) (l1 : lv.lookup 1 = some (.int x1)) (l2 : lv.lookup 2 = some (.int x2)) (i0 : am_isR x0 = true) (hs : fg_157_0 N x0 x1 x2 h = some o) : am_W X (d + 5) 157 0 lv [] h (fun q => q = o) := by
  unfold fg_157_0 at hs
  refine aw_vload_n (pc1 := 1) at_157_0 l0 i0 rfl ?_
  refine aw_iload_n (pc1 := 2) at_157_1 l1 rfl ?_
  obtain ⟨z1, hs1⟩ := am_ift hs
  clear hs
  refine aw_call (F := fm_63 x0 x1 h) (t := true) (na := 2) (kd := 1) (as := [x0, (.int x1)]) at_157_2 (am_k3v kb_63) mn_63 mk_63 rfl rfl (am_ok_v mi_63 (am_hl rfl (am_ccR i0 (am_ccI am_cats_0)) rfl) z1) (am_hc am_cats_0 rfl) (fun _ => ⟨rfl, hh_157⟩) (fun o1 hz9 => rm_63 x0 x1 h o1 i0 hz9) ?_
  rcases am_cR_s hs1 with ⟨v2, h3, f4, iv2, hs2⟩ | hs2
  · clear hs1
    refine Or.inl ⟨_, _, f4, ?_⟩
    show am_W X _ 157 5 _ [v2] h3 _
    refine aw_vstore_n (lv1 := am_put1 _ 3 _) (pc1 := 6) at_157_5 iv2 rfl rfl ?_
    refine aw_vload_n (pc1 := 7) at_157_6 (am_lk1 l0 rfl rfl) i0 rfl ?_
    refine aw_iload_n (pc1 := 8) at_157_7 (am_lk1 l2 rfl rfl) rfl ?_
    obtain ⟨z5, hs3⟩ := am_ift hs2
    clear hs2
    refine aw_call (F := fm_158 x0 x2 h3) (t := true) (na := 2) (kd := 1) (as := [x0, (.int x2)]) at_157_8 (am_k3v kb_158) mn_158 mk_158 rfl rfl (am_ok_v mi_158 (am_hl rfl (am_ccR i0 (am_ccI am_cats_0)) rfl) z5) (am_hc am_cats_0 rfl) (fun _ => ⟨rfl, hh_157⟩) (fun o1 hz9 => rm_158 x0 x2 h3 o1 i0 hz9) ?_
    rcases am_cV_s hs3 with ⟨h7, f8, hs4⟩ | hs4
    · clear hs3
      refine Or.inl ⟨_, _, f8, ?_⟩
      show am_W X _ 157 11 _ [] h7 _
      refine aw_vload_n (pc1 := 12) at_157_11 (am_lk1 l0 rfl rfl) i0 rfl ?_
      obtain ⟨v9, e10, hs5⟩ := am_bind hs4
      clear hs4
      refine aw_pG (pc1 := 15) at_157_12 (am_vR_s e10).1 rfl ?_
      refine aw_vload_n (pc1 := 16) at_157_15 am_lk0 iv2 rfl ?_
      refine aw_null (pc1 := 17) at_157_16 rfl ?_
      refine aw_iload_n (pc1 := 18) at_157_17 (am_lk1 l2 rfl rfl) rfl ?_
      obtain ⟨z11, hs6⟩ := am_ift hs5
      clear hs5
      refine aw_call (F := fm_159 N v9 v2 Value.null x2 h7) (t := true) (na := 4) (kd := 1) (as := [v9, v2, Value.null, (.int x2)]) at_157_18 (am_k3v kb_159) mn_159 mk_159 rfl rfl (am_ok_v mi_159 (am_hl rfl (am_ccR (am_vR_s e10).2 (am_ccR iv2 (am_ccR rfl (am_ccI am_cats_0)))) rfl) z11) (am_hc am_cats_0 rfl) (fun _ => ⟨rfl, hh_157⟩) (fun o1 hz9 => rm_159 v9 v2 Value.null x2 h7 o1 (am_vR_s e10).2 iv2 rfl hz9) ?_
      rcases am_cI_s hs6 with ⟨v12, h13, f14, hs7⟩ | hs7
      · clear hs6
        refine Or.inl ⟨_, _, f14, ?_⟩
        show am_W X _ 157 21 _ [(.int v12)] h13 _
        refine aw_popi (pc1 := 22) at_157_21 rfl ?_
        refine aw_vload_n (pc1 := 23) at_157_22 (am_lk1 l0 rfl rfl) i0 rfl ?_
        obtain ⟨v15, e16, hs8⟩ := am_bind hs7
        clear hs7
        refine aw_pG (pc1 := 26) at_157_23 (am_vR_s e16).1 rfl ?_
        obtain ⟨z17, hs9⟩ := am_ift hs8
        clear hs8
        refine aw_call (F := fm_162 N v15 h13) (t := true) (na := 1) (kd := 1) (as := [v15]) at_157_26 (am_k3v kb_162) mn_162 mk_162 rfl rfl (am_ok_v mi_162 (am_hl rfl (am_ccR (am_vR_s e16).2 am_cats_0) rfl) z17) (am_hc am_cats_0 rfl) (fun _ => ⟨rfl, hh_157⟩) (fun o1 hz9 => rm_162 v15 h13 o1 (am_vR_s e16).2 hz9) ?_
        rcases am_cI_s hs9 with ⟨v18, h19, f20, hs10⟩ | hs10
        · clear hs9
          refine Or.inl ⟨_, _, f20, ?_⟩
          show am_W X _ 157 29 _ [(.int v18)] h19 _
          cases hs10
          exact aw_iret at_157_29 (by rw [rt_157]; rfl) rfl
        · clear hs9
          exact Or.inr hs10
      · clear hs6
        exact Or.inr hs7
    · clear hs3
      exact Or.inr hs4
  · clear hs1
    exact Or.inr hs2
def fm_157 (N : Nat) (y0 : Value) (y1 : Int32) (y2 : Int32) (h : am_H) : Option am_O := fg_157_0 N y0 y1 y2 h
theorem rm_157 {X : am_X} {d : Nat} {N : Nat} (y0 : Value) (y1 : Int32) (y2 : Int32) (h : am_H) (o : am_O) (i0 : am_isR y0 = true) (hs : fm_157 N y0 y1 y2 h = some o) : am_W X (d + 5) 157 0 (am_args 0 [y0, .int y1, .int y2]) [] h (fun q => q = o) := by
  rw [am_args_R i0, am_args_I, am_args_I]
  exact rg_157_0 y0 y1 y2 h o rfl rfl rfl i0 hs
def fg_156_19 (N : Nat) (h : am_H) : Option am_O := some (.inl (some (.int 2), h))
theorem rg_156_19 {X : am_X} {d : Nat} {N : Nat} {lv : am_LV} (h : am_H) (o : am_O) (hs : fg_156_19 N h = some o) : am_W X (d + 6) 156 19 lv [] h (fun q => q = o) := by
  unfold fg_156_19 at hs
  refine aw_iconst (v := 2) (pc1 := 20) at_156_19 (by decide) rfl ?_
  cases hs
  exact aw_iret at_156_20 (by rw [rt_156]; rfl) rfl
def fg_156_15 (N : Nat) (h : am_H) : Option am_O := some (.inl (some (.int 1), h))
theorem rg_156_15 {X : am_X} {d : Nat} {N : Nat} {lv : am_LV} (h : am_H) (o : am_O) (hs : fg_156_15 N h = some o) : am_W X (d + 6) 156 15 lv [] h (fun q => q = o) := by
  unfold fg_156_15 at hs
  refine aw_iconst (v := 1) (pc1 := 16) at_156_15 (by decide) rfl ?_
  cases hs
  exact aw_iret at_156_16 (by rw [rt_156]; rfl) rfl
def fg_156_0 (N : Nat) (x0 : Value) (x1 : Int32) (x2 : Int32) (x3 : Value) (h : am_H) : Option am_O := (if am_pOk 11 x0 h then (match fm_157 N x0 x1 x2 h with | some (.inl (some (.int v2), h3)) => ((am_pSL x3 0 (Int32.toInt64 v2) h3).bind fun h5 => some (.inl (some (.int 0), h5))) | some (.inr (0, h7)) => (fg_156_19 N h7) | some (.inr (2, h9)) => (fg_156_15 N h9) | _ => none) else none)
theorem rg_156_0 {X : am_X} {d : Nat} {N : Nat} {lv : am_LV} (x0 : Value) (x1 : Int32) (x2 : Int32) (x3 : Value) (h : am_H) (o : am_O) (l0 : lv.lookup 0 = some x0) (l1 : lv.lookup 1 = some (.int x1)) (l2 : lv.lookup 2 = some (.int x2)) (l3 : lv.lookup 3 = some x3) (i0 : am_isR x0 = true) (i3 : am_isR x3 = true) (hs : fg_156_0 N x0 x1 x2 x3 h = some o) : am_W X (d + 6) 156 0 lv [] h (fun q => q = o) := by
  unfold fg_156_0 at hs
  refine aw_vload_n (pc1 := 1) at_156_0 l3 i3 rfl ?_
  refine aw_iconst (v := 0) (pc1 := 2) at_156_1 (by decide) rfl ?_
  refine aw_vload_n (pc1 := 3) at_156_2 l0 i0 rfl ?_
  refine aw_iload_n (pc1 := 4) at_156_3 l1 rfl ?_
  refine aw_iload_n (pc1 := 5) at_156_4 l2 rfl ?_
  obtain ⟨z1, hs1⟩ := am_ift hs
  clear hs
  refine aw_callH (F := fm_157 N x0 x1 x2 h) (na := 3) (kd := 1) (as := [x0, (.int x1), (.int x2)]) at_156_5 (am_k3v kb_157) mn_157 mk_157 rfl rfl (am_ok_v mi_157 (am_hl rfl (am_ccR i0 (am_ccI (am_ccI am_cats_0))) rfl) z1) (am_hc (am_ccI (am_ccR i3 am_cats_0)) rfl) (fun o1 hz9 => rm_157 x0 x1 x2 h o1 i0 hz9) ?_
  split at hs1
  · rename_i v2 h3 f4
    refine Or.inl ⟨_, _, f4, ?_⟩
    show am_W X _ 156 8 _ [(.int v2), (.int 0), x3] h3 _
    refine aw_i2l (v := (Int32.toInt64 v2)) (pc1 := 9) at_156_8 rfl rfl ?_
    obtain ⟨h5, e6, hs2⟩ := am_bind hs1
    clear hs1
    refine aw_pSL (pc1 := 10) at_156_9 e6 rfl ?_
    refine aw_goto at_156_10 ?_
    refine aw_iconst (v := 0) (pc1 := 22) at_156_21 (by decide) rfl ?_
    cases hs2
    exact aw_iret at_156_22 (by rw [rt_156]; rfl) rfl
  · rename_i h7 f8
    refine Or.inr ⟨_, _, 19, 4, f8, rfl, hn_156, hd_156_5_0, ?_⟩
    exact rg_156_19 h7 o   hs1
  · rename_i h9 f10
    refine Or.inr ⟨_, _, 15, 4, f10, rfl, hn_156, hd_156_5_2, ?_⟩
    exact rg_156_15 h9 o   hs1
  · cases hs1
def fm_156 (N : Nat) (y0 : Value) (y1 : Int32) (y2 : Int32) (y3 : Value) (h : am_H) : Option am_O := fg_156_0 N y0 y1 y2 y3 h
theorem rm_156 {X : am_X} {d : Nat} {N : Nat} (y0 : Value) (y1 : Int32) (y2 : Int32) (y3 : Value) (h : am_H) (o : am_O) (i0 : am_isR y0 = true) (i3 : am_isR y3 = true) (hs : fm_156 N y0 y1 y2 y3 h = some o) : am_W X (d + 6) 156 0 (am_args 0 [y0, .int y1, .int y2, y3]) [] h (fun q => q = o) := by
  rw [am_args_R i0, am_args_I, am_args_I, am_args_R i3]
  exact rg_156_0 y0 y1 y2 y3 h o rfl rfl rfl rfl i0 i3 hs
def fg_443_2 (N : Nat) : Nat → Value → Int32 → Int32 → am_H → Option am_O
  | 0 => fun _ _ _ _ => none
  | K + 1 => fun x0 x2 x3 h => (if x2 ≤ x3 then some (.inl (none, h)) else ((am_vR (am_pG 3093 x0 h)).bind fun v2 => ((am_pA 0 v2 x3 h).bind fun v4 => ((am_vR (am_pG 3094 x0 h)).bind fun v6 => ((am_pA 0 v6 x3 h).bind fun v8 => (if am_pOk 12 x0 h then am_cV true (fm_335 x0 v4 v8 h) (fun h12 => (fg_443_2 N K x0 x2 ((x3 + 1)) h12)) else none))))))
theorem rg_443_2 {X : am_X} {d : Nat} {N : Nat} : ∀ (K : Nat) (x0 : Value) (x2 : Int32) (x3 : Int32) (h : am_H) (o : am_O), fg_443_2 N K x0 x2 x3 h = some o → ∀ lv : am_LV, (lv.lookup 0 = some x0) → (lv.lookup 2 = some (.int x2)) → (lv.lookup 3 = some (.int x3)) → (am_isR x0 = true) → am_W X (d + 1) 443 2 lv [] h (fun q => q = o) := by
  intro K
  induction K with
  | zero => intro x0 x2 x3 h o hs; cases hs
  | succ K ih =>
    intro x0 x2 x3 h o hs lv l0 l2 l3 i0
    unfold fg_443_2 at hs
    refine aw_iload_n (pc1 := 3) at_443_2 l3 rfl ?_
    refine aw_iload_n (pc1 := 4) at_443_3 l2 rfl ?_
    by_cases c1 : x2 ≤ x3
    · rw [if_pos c1] at hs
      refine aw_icge_t at_443_4 c1 ?_
      cases hs
      exact aw_vret at_443_29 rt_443 rfl
    · rw [if_neg c1] at hs
      refine aw_icge_f (pc1 := 7) at_443_4 c1 rfl ?_
      refine aw_vload_n (pc1 := 8) at_443_7 l0 i0 rfl ?_
      refine aw_vload_n (pc1 := 9) at_443_8 l0 i0 rfl ?_
      obtain ⟨v2, e3, hs1⟩ := am_bind hs
      clear hs
      refine aw_pG (pc1 := 12) at_443_9 (am_vR_s e3).1 rfl ?_
      refine aw_iload_n (pc1 := 13) at_443_12 l3 rfl ?_
      obtain ⟨v4, e5, hs2⟩ := am_bind hs1
      clear hs1
      refine aw_pA (pc1 := 14) at_443_13 (Or.inl ⟨rfl, rfl⟩) e5 rfl ?_
      refine aw_vload_n (pc1 := 15) at_443_14 l0 i0 rfl ?_
      obtain ⟨v6, e7, hs3⟩ := am_bind hs2
      clear hs2
      refine aw_pG (pc1 := 18) at_443_15 (am_vR_s e7).1 rfl ?_
      refine aw_iload_n (pc1 := 19) at_443_18 l3 rfl ?_
      obtain ⟨v8, e9, hs4⟩ := am_bind hs3
      clear hs3
      refine aw_pA (pc1 := 20) at_443_19 (Or.inl ⟨rfl, rfl⟩) e9 rfl ?_
      obtain ⟨z10, hs5⟩ := am_ift hs4
      clear hs4
      refine aw_call (F := fm_335 x0 v4 v8 h) (t := true) (na := 3) (kd := 1) (as := [x0, (.int v4), (.int v8)]) at_443_20 (am_k3v kb_335) mn_335 mk_335 rfl rfl (am_ok_v mi_335 (am_hl rfl (am_ccR i0 (am_ccI (am_ccI am_cats_0))) rfl) z10) (am_hc am_cats_0 rfl) (fun _ => ⟨rfl, hh_443⟩) (fun o1 hz9 => rm_335 x0 v4 v8 h o1 i0 hz9) ?_
      rcases am_cV_s hs5 with ⟨h12, f13, hs6⟩ | hs6
      · clear hs5
        refine Or.inl ⟨_, _, f13, ?_⟩
        show am_W X _ 443 23 _ [] h12 _
        refine aw_iinc (v := (x3 + 1)) (c := 1) (lv1 := am_put1 _ 3 _) (pc1 := 26) at_443_23 l3 (by decide) rfl rfl rfl ?_
        refine aw_goto at_443_26 ?_
        exact ih x0 x2 ((x3 + 1)) h12 o hs6 _ (am_lk1 l0 rfl rfl) (am_lk1 l2 rfl rfl) am_lk0 i0
      · clear hs5
        exact Or.inr hs6
def fg_443_0 (N : Nat) (x0 : Value) (x1 : Int32) (x2 : Int32) (h : am_H) : Option am_O := (fg_443_2 N N x0 x2 x1 h)
theorem rg_443_0 {X : am_X} {d : Nat} {N : Nat} {lv : am_LV} (x0 : Value) (x1 : Int32) (x2 : Int32) (h : am_H) (o : am_O) (l0 : lv.lookup 0 = some x0) (l1 : lv.lookup 1 = some (.int x1)) (l2 : lv.lookup 2 = some (.int x2)) (i0 : am_isR x0 = true) (hs : fg_443_0 N x0 x1 x2 h = some o) : am_W X (d + 1) 443 0 lv [] h (fun q => q = o) := by
  unfold fg_443_0 at hs
  refine aw_iload_n (pc1 := 1) at_443_0 l1 rfl ?_
  refine aw_istore_n (lv1 := am_put1 _ 3 _) (pc1 := 2) at_443_1 rfl rfl ?_
  exact rg_443_2 N x0 x2 x1 h o hs _ (am_lk1 l0 rfl rfl) (am_lk1 l2 rfl rfl) am_lk0 i0
def fm_443 (N : Nat) (y0 : Value) (y1 : Int32) (y2 : Int32) (h : am_H) : Option am_O := fg_443_0 N y0 y1 y2 h
theorem rm_443 {X : am_X} {d : Nat} {N : Nat} (y0 : Value) (y1 : Int32) (y2 : Int32) (h : am_H) (o : am_O) (i0 : am_isR y0 = true) (hs : fm_443 N y0 y1 y2 h = some o) : am_W X (d + 1) 443 0 (am_args 0 [y0, .int y1, .int y2]) [] h (fun q => q = o) := by
  rw [am_args_R i0, am_args_I, am_args_I]
  exact rg_443_0 y0 y1 y2 h o rfl rfl rfl i0 hs
def fg_442_0 (N : Nat) (x0 : Value) (h : am_H) : Option am_O := ((am_vI (am_pG 3092 x0 h)).bind fun v1 => ((am_pP 3085 x0 (.int v1) h).bind fun h3 => ((am_pP 3086 x0 (.int 0) h3).bind fun h5 => ((am_vI (am_pG 3091 x0 h5)).bind fun v7 => ((am_pP 3087 x0 (.int v7) h5).bind fun h9 => ((am_vI (am_pG 3090 x0 h9)).bind fun v11 => (if am_pOk 12 x0 h9 then am_cV true (fm_443 N x0 0 v11 h9) (fun h15 => some (.inl (none, h15))) else none)))))))
theorem rg_442_0 {X : am_X} {d : Nat} {N : Nat} {lv : am_LV} (x0 : Value) (h : am_H) (o : am_O) (l0 : lv.lookup 0 = some x0) (i0 : am_isR x0 = true) (hs : fg_442_0 N x0 h = some o) : am_W X (d + 2) 442 0 lv [] h (fun q => q = o) := by
  unfold fg_442_0 at hs
  refine aw_vload_n (pc1 := 1) at_442_0 l0 i0 rfl ?_
  refine aw_vload_n (pc1 := 2) at_442_1 l0 i0 rfl ?_
  obtain ⟨v1, e2, hs1⟩ := am_bind hs
  clear hs
  refine aw_pG (pc1 := 5) at_442_2 (am_vI_s e2) rfl ?_
  obtain ⟨h3, e4, hs2⟩ := am_bind hs1
  clear hs1
  refine aw_pP (pc1 := 8) at_442_5 e4 rfl ?_
  refine aw_vload_n (pc1 := 9) at_442_8 l0 i0 rfl ?_
  refine aw_iconst (v := 0) (pc1 := 10) at_442_9 (by decide) rfl ?_
  obtain ⟨h5, e6, hs3⟩ := am_bind hs2
  clear hs2
  refine aw_pP (pc1 := 13) at_442_10 e6 rfl ?_
  refine aw_vload_n (pc1 := 14) at_442_13 l0 i0 rfl ?_
  refine aw_vload_n (pc1 := 15) at_442_14 l0 i0 rfl ?_
  obtain ⟨v7, e8, hs4⟩ := am_bind hs3
  clear hs3
  refine aw_pG (pc1 := 18) at_442_15 (am_vI_s e8) rfl ?_
  obtain ⟨h9, e10, hs5⟩ := am_bind hs4
  clear hs4
  refine aw_pP (pc1 := 21) at_442_18 e10 rfl ?_
  refine aw_vload_n (pc1 := 22) at_442_21 l0 i0 rfl ?_
  refine aw_iconst (v := 0) (pc1 := 23) at_442_22 (by decide) rfl ?_
  refine aw_vload_n (pc1 := 24) at_442_23 l0 i0 rfl ?_
  obtain ⟨v11, e12, hs6⟩ := am_bind hs5
  clear hs5
  refine aw_pG (pc1 := 27) at_442_24 (am_vI_s e12) rfl ?_
  obtain ⟨z13, hs7⟩ := am_ift hs6
  clear hs6
  refine aw_call (F := fm_443 N x0 0 v11 h9) (t := true) (na := 3) (kd := 1) (as := [x0, (.int 0), (.int v11)]) at_442_27 (am_k3v kb_443) mn_443 mk_443 rfl rfl (am_ok_v mi_443 (am_hl rfl (am_ccR i0 (am_ccI (am_ccI am_cats_0))) rfl) z13) (am_hc am_cats_0 rfl) (fun _ => ⟨rfl, hh_442⟩) (fun o1 hz9 => rm_443 x0 0 v11 h9 o1 i0 hz9) ?_
  rcases am_cV_s hs7 with ⟨h15, f16, hs8⟩ | hs8
  · clear hs7
    refine Or.inl ⟨_, _, f16, ?_⟩
    show am_W X _ 442 30 _ [] h15 _
    cases hs8
    exact aw_vret at_442_30 rt_442 rfl
  · clear hs7
    exact Or.inr hs8
def fm_442 (N : Nat) (y0 : Value) (h : am_H) : Option am_O := fg_442_0 N y0 h
theorem rm_442 {X : am_X} {d : Nat} {N : Nat} (y0 : Value) (h : am_H) (o : am_O) (i0 : am_isR y0 = true) (hs : fm_442 N y0 h = some o) : am_W X (d + 2) 442 0 (am_args 0 [y0]) [] h (fun q => q = o) := by
  rw [am_args_R i0]
  exact rg_442_0 y0 h o rfl i0 hs
def fg_446_263 (N : Nat) (s0 : Int32) (h : am_H) : Option am_O := (if am_rfit (some FieldType.boolean) s0 then some (.inl (some (.int s0), h)) else none)
theorem rg_446_263 {X : am_X} {d : Nat} {N : Nat} {lv : am_LV} (s0 : Int32) (h : am_H) (o : am_O) (hs : fg_446_263 N s0 h = some o) : am_W X (d + 1) 446 263 lv [(.int s0)] h (fun q => q = o) := by
  unfold fg_446_263 at hs
  obtain ⟨z1, hs1⟩ := am_ift hs
  clear hs
  cases hs1
  exact aw_iret at_446_263 (by rw [rt_446]; exact z1) rfl
def fg_446_238 (N : Nat) (rec_53 : Value → Int32 → Int32 → am_H → Option am_O) (rec_174 : Value → Int32 → Int32 → Int32 → Int32 → Int32 → Int32 → am_H → Option am_O) (x0 : Value) (x3 : Int32) (x4 : Int32) (x6 : Int32) (x7 : Int32) (x8 : Int32) (x9 : Int32) (s0 : Value) (s1 : Int32) (s2 : Int32) (h : am_H) : Option am_O := ((am_pS 0 s0 s1 s2 h).bind fun h1 => (rec_174 x0 ((x3 + 1)) x4 x6 x7 x8 ((x9 + (-1))) h1))
theorem rg_446_238 {X : am_X} {d : Nat} {N : Nat} {rec_53 : Value → Int32 → Int32 → am_H → Option am_O} {rec_174 : Value → Int32 → Int32 → Int32 → Int32 → Int32 → Int32 → am_H → Option am_O} (q_53 : ∀ (x0 : Value) (x3 : Int32) (x4 : Int32) (h : am_H) (o : am_O), rec_53 x0 x3 x4 h = some o → ∀ lv : am_LV, (lv.lookup 0 = some x0) → (lv.lookup 3 = some (.int x3)) → (lv.lookup 4 = some (.int x4)) → (am_isR x0 = true) → am_W X (d + 1) 446 53 lv [] h (fun q => q = o)) (q_174 : ∀ (x0 : Value) (x3 : Int32) (x4 : Int32) (x6 : Int32) (x7 : Int32) (x8 : Int32) (x9 : Int32) (h : am_H) (o : am_O), rec_174 x0 x3 x4 x6 x7 x8 x9 h = some o → ∀ lv : am_LV, (lv.lookup 0 = some x0) → (lv.lookup 3 = some (.int x3)) → (lv.lookup 4 = some (.int x4)) → (lv.lookup 6 = some (.int x6)) → (lv.lookup 7 = some (.int x7)) → (lv.lookup 8 = some (.int x8)) → (lv.lookup 9 = some (.int x9)) → (am_isR x0 = true) → am_W X (d + 1) 446 174 lv [] h (fun q => q = o)) {lv : am_LV} (x0 : Value) (x3 : Int32) (x4 : Int32) (x6 : Int32) (x7 : Int32) (x8 : Int32) (x9 : Int32) (s0 : Value) (s1 : Int32) (s2 : Int32) (h : am_H) (o : am_O) (l0 : lv.lookup 0 = some x0) (l3 : lv.lookup 3 = some (.int x3)) (l4 : lv.lookup 4 = some (.int x4)) (l6 : lv.lookup 6 = some (.int x6)) (l7 : lv.lookup 7 = some (.int x7)) (l8 : lv.lookup 8 = some (.int x8)) (l9 : lv.lookup 9 = some (.int x9)) (i0 : am_isR x0 = true) (j0 : am_isR s0 = true) (hs : fg_446_238 N rec_53 rec_174 x0 x3 x4 x6 x7 x8 x9 s0 s1 s2 h = some o) : am_W X (d + 1) 446 238 lv [(.int s2), (.int s1), s0] h (fun q => q = o) := by
  unfold fg_446_238 at hs
  obtain ⟨h1, e2, hs1⟩ := am_bind hs
  clear hs
  refine aw_pS (pc1 := 239) at_446_238 (Or.inl ⟨rfl, rfl⟩) e2 rfl ?_
  refine aw_iinc (v := (x3 + 1)) (c := 1) (lv1 := am_put1 _ 3 _) (pc1 := 242) at_446_239 l3 (by decide) rfl rfl rfl ?_
  refine aw_iinc (v := (x9 + (-1))) (c := (-1)) (lv1 := am_put1 _ 9 _) (pc1 := 245) at_446_242 (am_lk1 l9 rfl rfl) (by decide) rfl rfl rfl ?_
  refine aw_goto at_446_245 ?_
  exact q_174 x0 ((x3 + 1)) x4 x6 x7 x8 ((x9 + (-1))) h1 o hs1 _ (am_lk1 (am_lk1 l0 rfl rfl) rfl rfl) (am_lk1 am_lk0 rfl rfl) (am_lk1 (am_lk1 l4 rfl rfl) rfl rfl) (am_lk1 (am_lk1 l6 rfl rfl) rfl rfl) (am_lk1 (am_lk1 l7 rfl rfl) rfl rfl) (am_lk1 (am_lk1 l8 rfl rfl) rfl rfl) am_lk0 i0
def fg_446_237 (N : Nat) (rec_53 : Value → Int32 → Int32 → am_H → Option am_O) (rec_174 : Value → Int32 → Int32 → Int32 → Int32 → Int32 → Int32 → am_H → Option am_O) (x0 : Value) (x3 : Int32) (x4 : Int32) (x6 : Int32) (x7 : Int32) (x8 : Int32) (x9 : Int32) (s0 : Value) (s1 : Int32) (h : am_H) : Option am_O := (fg_446_238 N rec_53 rec_174 x0 x3 x4 x6 x7 x8 x9 s0 s1 0 h)
theorem rg_446_237 {X : am_X} {d : Nat} {N : Nat} {rec_53 : Value → Int32 → Int32 → am_H → Option am_O} {rec_174 : Value → Int32 → Int32 → Int32 → Int32 → Int32 → Int32 → am_H → Option am_O} (q_53 : ∀ (x0 : Value) (x3 : Int32) (x4 : Int32) (h : am_H) (o : am_O), rec_53 x0 x3 x4 h = some o → ∀ lv : am_LV, (lv.lookup 0 = some x0) → (lv.lookup 3 = some (.int x3)) → (lv.lookup 4 = some (.int x4)) → (am_isR x0 = true) → am_W X (d + 1) 446 53 lv [] h (fun q => q = o)) (q_174 : ∀ (x0 : Value) (x3 : Int32) (x4 : Int32) (x6 : Int32) (x7 : Int32) (x8 : Int32) (x9 : Int32) (h : am_H) (o : am_O), rec_174 x0 x3 x4 x6 x7 x8 x9 h = some o → ∀ lv : am_LV, (lv.lookup 0 = some x0) → (lv.lookup 3 = some (.int x3)) → (lv.lookup 4 = some (.int x4)) → (lv.lookup 6 = some (.int x6)) → (lv.lookup 7 = some (.int x7)) → (lv.lookup 8 = some (.int x8)) → (lv.lookup 9 = some (.int x9)) → (am_isR x0 = true) → am_W X (d + 1) 446 174 lv [] h (fun q => q = o)) {lv : am_LV} (x0 : Value) (x3 : Int32) (x4 : Int32) (x6 : Int32) (x7 : Int32) (x8 : Int32) (x9 : Int32) (s0 : Value) (s1 : Int32) (h : am_H) (o : am_O) (l0 : lv.lookup 0 = some x0) (l3 : lv.lookup 3 = some (.int x3)) (l4 : lv.lookup 4 = some (.int x4)) (l6 : lv.lookup 6 = some (.int x6)) (l7 : lv.lookup 7 = some (.int x7)) (l8 : lv.lookup 8 = some (.int x8)) (l9 : lv.lookup 9 = some (.int x9)) (i0 : am_isR x0 = true) (j0 : am_isR s0 = true) (hs : fg_446_237 N rec_53 rec_174 x0 x3 x4 x6 x7 x8 x9 s0 s1 h = some o) : am_W X (d + 1) 446 237 lv [(.int s1), s0] h (fun q => q = o) := by
  unfold fg_446_237 at hs
  refine aw_iconst (v := 0) (pc1 := 238) at_446_237 (by decide) rfl ?_
  exact rg_446_238 q_53 q_174 x0 x3 x4 x6 x7 x8 x9 s0 s1 0 h o l0 l3 l4 l6 l7 l8 l9 i0 j0 hs
def fg_446_233 (N : Nat) (rec_53 : Value → Int32 → Int32 → am_H → Option am_O) (rec_174 : Value → Int32 → Int32 → Int32 → Int32 → Int32 → Int32 → am_H → Option am_O) (x0 : Value) (x3 : Int32) (x4 : Int32) (x6 : Int32) (x7 : Int32) (x8 : Int32) (x9 : Int32) (s0 : Value) (s1 : Int32) (h : am_H) : Option am_O := (fg_446_238 N rec_53 rec_174 x0 x3 x4 x6 x7 x8 x9 s0 s1 1 h)
theorem rg_446_233 {X : am_X} {d : Nat} {N : Nat} {rec_53 : Value → Int32 → Int32 → am_H → Option am_O} {rec_174 : Value → Int32 → Int32 → Int32 → Int32 → Int32 → Int32 → am_H → Option am_O} (q_53 : ∀ (x0 : Value) (x3 : Int32) (x4 : Int32) (h : am_H) (o : am_O), rec_53 x0 x3 x4 h = some o → ∀ lv : am_LV, (lv.lookup 0 = some x0) → (lv.lookup 3 = some (.int x3)) → (lv.lookup 4 = some (.int x4)) → (am_isR x0 = true) → am_W X (d + 1) 446 53 lv [] h (fun q => q = o)) (q_174 : ∀ (x0 : Value) (x3 : Int32) (x4 : Int32) (x6 : Int32) (x7 : Int32) (x8 : Int32) (x9 : Int32) (h : am_H) (o : am_O), rec_174 x0 x3 x4 x6 x7 x8 x9 h = some o → ∀ lv : am_LV, (lv.lookup 0 = some x0) → (lv.lookup 3 = some (.int x3)) → (lv.lookup 4 = some (.int x4)) → (lv.lookup 6 = some (.int x6)) → (lv.lookup 7 = some (.int x7)) → (lv.lookup 8 = some (.int x8)) → (lv.lookup 9 = some (.int x9)) → (am_isR x0 = true) → am_W X (d + 1) 446 174 lv [] h (fun q => q = o)) {lv : am_LV} (x0 : Value) (x3 : Int32) (x4 : Int32) (x6 : Int32) (x7 : Int32) (x8 : Int32) (x9 : Int32) (s0 : Value) (s1 : Int32) (h : am_H) (o : am_O) (l0 : lv.lookup 0 = some x0) (l3 : lv.lookup 3 = some (.int x3)) (l4 : lv.lookup 4 = some (.int x4)) (l6 : lv.lookup 6 = some (.int x6)) (l7 : lv.lookup 7 = some (.int x7)) (l8 : lv.lookup 8 = some (.int x8)) (l9 : lv.lookup 9 = some (.int x9)) (i0 : am_isR x0 = true) (j0 : am_isR s0 = true) (hs : fg_446_233 N rec_53 rec_174 x0 x3 x4 x6 x7 x8 x9 s0 s1 h = some o) : am_W X (d + 1) 446 233 lv [(.int s1), s0] h (fun q => q = o) := by
  unfold fg_446_233 at hs
  refine aw_iconst (v := 1) (pc1 := 234) at_446_233 (by decide) rfl ?_
  refine aw_goto at_446_234 ?_
  exact rg_446_238 q_53 q_174 x0 x3 x4 x6 x7 x8 x9 s0 s1 1 h o l0 l3 l4 l6 l7 l8 l9 i0 j0 hs
def fg_446_199 (N : Nat) (rec_53 : Value → Int32 → Int32 → am_H → Option am_O) (rec_174 : Value → Int32 → Int32 → Int32 → Int32 → Int32 → Int32 → am_H → Option am_O) (x0 : Value) (x3 : Int32) (x4 : Int32) (x6 : Int32) (x7 : Int32) (x8 : Int32) (x9 : Int32) (s0 : Value) (s1 : Int32) (s2 : Int32) (h : am_H) : Option am_O := ((am_pS 0 s0 s1 s2 h).bind fun h1 => ((am_vR (am_pG 3101 x0 h1)).bind fun v3 => ((am_pS 0 v3 x3 (x6 + 1) h1).bind fun h5 => ((am_vR (am_pG 3102 x0 h5)).bind fun v7 => (if ¬ x7 = 0 then (fg_446_233 N rec_53 rec_174 x0 x3 x4 x6 x7 x8 x9 v7 x3 h5) else (if ¬ x8 = 19 then (fg_446_237 N rec_53 rec_174 x0 x3 x4 x6 x7 x8 x9 v7 x3 h5) else (if ¬ x9 = 1 then (fg_446_237 N rec_53 rec_174 x0 x3 x4 x6 x7 x8 x9 v7 x3 h5) else (fg_446_233 N rec_53 rec_174 x0 x3 x4 x6 x7 x8 x9 v7 x3 h5))))))))
theorem rg_446_199 {X : am_X} {d : Nat} {N : Nat} {rec_53 : Value → Int32 → Int32 → am_H → Option am_O} {rec_174 : Value → Int32 → Int32 → Int32 → Int32 → Int32 → Int32 → am_H → Option am_O} (q_53 : ∀ (x0 : Value) (x3 : Int32) (x4 : Int32) (h : am_H) (o : am_O), rec_53 x0 x3 x4 h = some o → ∀ lv : am_LV, (lv.lookup 0 = some x0) → (lv.lookup 3 = some (.int x3)) → (lv.lookup 4 = some (.int x4)) → (am_isR x0 = true) → am_W X (d + 1) 446 53 lv [] h (fun q => q = o)) (q_174 : ∀ (x0 : Value) (x3 : Int32) (x4 : Int32) (x6 : Int32) (x7 : Int32) (x8 : Int32) (x9 : Int32) (h : am_H) (o : am_O), rec_174 x0 x3 x4 x6 x7 x8 x9 h = some o → ∀ lv : am_LV, (lv.lookup 0 = some x0) → (lv.lookup 3 = some (.int x3)) → (lv.lookup 4 = some (.int x4)) → (lv.lookup 6 = some (.int x6)) → (lv.lookup 7 = some (.int x7)) → (lv.lookup 8 = some (.int x8)) → (lv.lookup 9 = some (.int x9)) → (am_isR x0 = true) → am_W X (d + 1) 446 174 lv [] h (fun q => q = o)) {lv : am_LV} (x0 : Value) (x3 : Int32) (x4 : Int32) (x6 : Int32) (x7 : Int32) (x8 : Int32) (x9 : Int32) (s0 : Value) (s1 : Int32) (s2 : Int32) (h : am_H) (o : am_O) (l0 : lv.lookup 0 = some x0) (l3 : lv.lookup 3 = some (.int x3)) (l4 : lv.lookup 4 = some (.int x4)) (l6 : lv.lookup 6 = some (.int x6)) (l7 : lv.lookup 7 = some (.int x7)) (l8 : lv.lookup 8 = some (.int x8)) (l9 : lv.lookup 9 = some (.int x9)) (i0 : am_isR x0 = true) (j0 : am_isR s0 = true) (hs : fg_446_199 N rec_53 rec_174 x0 x3 x4 x6 x7 x8 x9 s0 s1 s2 h = some o) : am_W X (d + 1) 446 199 lv [(.int s2), (.int s1), s0] h (fun q => q = o) := by
  unfold fg_446_199 at hs
  obtain ⟨h1, e2, hs1⟩ := am_bind hs
  clear hs
  refine aw_pS (pc1 := 200) at_446_199 (Or.inl ⟨rfl, rfl⟩) e2 rfl ?_
  refine aw_vload_n (pc1 := 201) at_446_200 l0 i0 rfl ?_
  obtain ⟨v3, e4, hs2⟩ := am_bind hs1
  clear hs1
  refine aw_pG (pc1 := 204) at_446_201 (am_vR_s e4).1 rfl ?_
  refine aw_iload_n (pc1 := 205) at_446_204 l3 rfl ?_
  refine aw_iload (pc1 := 207) at_446_205 l6 rfl ?_
  refine aw_iconst (v := 1) (pc1 := 208) at_446_207 (by decide) rfl ?_
  refine aw_iadd (v := (x6 + 1)) (pc1 := 209) at_446_208 rfl rfl ?_
  obtain ⟨h5, e6, hs3⟩ := am_bind hs2
  clear hs2
  refine aw_pS (pc1 := 210) at_446_209 (Or.inl ⟨rfl, rfl⟩) e6 rfl ?_
  refine aw_vload_n (pc1 := 211) at_446_210 l0 i0 rfl ?_
  obtain ⟨v7, e8, hs4⟩ := am_bind hs3
  clear hs3
  refine aw_pG (pc1 := 214) at_446_211 (am_vR_s e8).1 rfl ?_
  refine aw_iload_n (pc1 := 215) at_446_214 l3 rfl ?_
  refine aw_iload (pc1 := 217) at_446_215 l7 rfl ?_
  by_cases c9 : ¬ x7 = 0
  · rw [if_pos c9] at hs4
    refine aw_ifne_t at_446_217 c9 ?_
    exact rg_446_233 q_53 q_174 x0 x3 x4 x6 x7 x8 x9 v7 x3 h5 o l0 l3 l4 l6 l7 l8 l9 i0 (am_vR_s e8).2 hs4
  · rw [if_neg c9] at hs4
    refine aw_ifne_f (pc1 := 220) at_446_217 c9 rfl ?_
    refine aw_iload (pc1 := 222) at_446_220 l8 rfl ?_
    refine aw_bipush (v := 19) (pc1 := 224) at_446_222 (by decide) rfl ?_
    by_cases c10 : ¬ x8 = 19
    · rw [if_pos c10] at hs4
      refine aw_icne_t at_446_224 c10 ?_
      exact rg_446_237 q_53 q_174 x0 x3 x4 x6 x7 x8 x9 v7 x3 h5 o l0 l3 l4 l6 l7 l8 l9 i0 (am_vR_s e8).2 hs4
    · rw [if_neg c10] at hs4
      refine aw_icne_f (pc1 := 227) at_446_224 c10 rfl ?_
      refine aw_iload (pc1 := 229) at_446_227 l9 rfl ?_
      refine aw_iconst (v := 1) (pc1 := 230) at_446_229 (by decide) rfl ?_
      by_cases c11 : ¬ x9 = 1
      · rw [if_pos c11] at hs4
        refine aw_icne_t at_446_230 c11 ?_
        exact rg_446_237 q_53 q_174 x0 x3 x4 x6 x7 x8 x9 v7 x3 h5 o l0 l3 l4 l6 l7 l8 l9 i0 (am_vR_s e8).2 hs4
      · rw [if_neg c11] at hs4
        refine aw_icne_f (pc1 := 233) at_446_230 c11 rfl ?_
        exact rg_446_233 q_53 q_174 x0 x3 x4 x6 x7 x8 x9 v7 x3 h5 o l0 l3 l4 l6 l7 l8 l9 i0 (am_vR_s e8).2 hs4
def fg_446_174 (N : Nat) (rec_53 : Value → Int32 → Int32 → am_H → Option am_O) : Nat → Value → Int32 → Int32 → Int32 → Int32 → Int32 → Int32 → am_H → Option am_O
  | 0 => fun _ _ _ _ _ _ _ _ => none
  | K + 1 => fun x0 x3 x4 x6 x7 x8 x9 h => (if x9 < 0 then (rec_53 x0 x3 ((x4 + 1)) h) else ((am_vR (am_pG 3100 x0 h)).bind fun v2 => am_cI false (fm_330 x8 x9 h) (fun v4 h5 => (if v4 = 0 then (fg_446_199 N rec_53 (fg_446_174 N rec_53 K) x0 x3 x4 x6 x7 x8 x9 v2 x3 0 h5) else (fg_446_199 N rec_53 (fg_446_174 N rec_53 K) x0 x3 x4 x6 x7 x8 x9 v2 x3 1 h5)))))
theorem rg_446_174 {X : am_X} {d : Nat} {N : Nat} {rec_53 : Value → Int32 → Int32 → am_H → Option am_O} (q_53 : ∀ (x0 : Value) (x3 : Int32) (x4 : Int32) (h : am_H) (o : am_O), rec_53 x0 x3 x4 h = some o → ∀ lv : am_LV, (lv.lookup 0 = some x0) → (lv.lookup 3 = some (.int x3)) → (lv.lookup 4 = some (.int x4)) → (am_isR x0 = true) → am_W X (d + 1) 446 53 lv [] h (fun q => q = o)) : ∀ (K : Nat) (x0 : Value) (x3 : Int32) (x4 : Int32) (x6 : Int32) (x7 : Int32) (x8 : Int32) (x9 : Int32) (h : am_H) (o : am_O), fg_446_174 N rec_53 K x0 x3 x4 x6 x7 x8 x9 h = some o → ∀ lv : am_LV, (lv.lookup 0 = some x0) → (lv.lookup 3 = some (.int x3)) → (lv.lookup 4 = some (.int x4)) → (lv.lookup 6 = some (.int x6)) → (lv.lookup 7 = some (.int x7)) → (lv.lookup 8 = some (.int x8)) → (lv.lookup 9 = some (.int x9)) → (am_isR x0 = true) → am_W X (d + 1) 446 174 lv [] h (fun q => q = o) := by
  intro K
  induction K with
  | zero => intro x0 x3 x4 x6 x7 x8 x9 h o hs; cases hs
  | succ K ih =>
    intro x0 x3 x4 x6 x7 x8 x9 h o hs lv l0 l3 l4 l6 l7 l8 l9 i0
    unfold fg_446_174 at hs
    refine aw_iload (pc1 := 176) at_446_174 l9 rfl ?_
    by_cases c1 : x9 < 0
    · rw [if_pos c1] at hs
      refine aw_iflt_t at_446_176 c1 ?_
      refine aw_iinc (v := (x4 + 1)) (c := 1) (lv1 := am_put1 _ 4 _) (pc1 := 251) at_446_248 l4 (by decide) rfl rfl rfl ?_
      refine aw_goto at_446_251 ?_
      exact q_53 x0 x3 ((x4 + 1)) h o hs _ (am_lk1 l0 rfl rfl) (am_lk1 l3 rfl rfl) am_lk0 i0
    · rw [if_neg c1] at hs
      refine aw_iflt_f (pc1 := 179) at_446_176 c1 rfl ?_
      refine aw_vload_n (pc1 := 180) at_446_179 l0 i0 rfl ?_
      obtain ⟨v2, e3, hs1⟩ := am_bind hs
      clear hs
      refine aw_pG (pc1 := 183) at_446_180 (am_vR_s e3).1 rfl ?_
      refine aw_iload_n (pc1 := 184) at_446_183 l3 rfl ?_
      refine aw_iload (pc1 := 186) at_446_184 l8 rfl ?_
      refine aw_iload (pc1 := 188) at_446_186 l9 rfl ?_
      refine aw_call (F := fm_330 x8 x9 h) (t := false) (na := 2) (kd := 0) (as := [(.int x8), (.int x9)]) at_446_188 (am_k3s kb_330) mn_330 mk_330 rfl rfl (am_ok_s mi_330 (am_hl rfl (am_ccI (am_ccI am_cats_0)) rfl)) (am_hc (am_ccI (am_ccR (am_vR_s e3).2 am_cats_0)) rfl) (fun hz9 => by cases hz9) (fun o1 hz9 => rm_330 x8 x9 h o1  hz9) ?_
      rcases am_cI_s hs1 with ⟨v4, h5, f6, hs2⟩ | hs2
      · clear hs1
        refine Or.inl ⟨_, _, f6, ?_⟩
        show am_W X _ 446 191 _ [(.int v4), (.int x3), v2] h5 _
        by_cases c7 : v4 = 0
        · rw [if_pos c7] at hs2
          refine aw_ifeq_t at_446_191 c7 ?_
          refine aw_iconst (v := 0) (pc1 := 199) at_446_198 (by decide) rfl ?_
          exact rg_446_199 q_53 (fun z0 z1 z2 z3 z4 z5 z6 h o hs2 => ih z0 z1 z2 z3 z4 z5 z6 h o hs2) x0 x3 x4 x6 x7 x8 x9 v2 x3 0 h5 o l0 l3 l4 l6 l7 l8 l9 i0 (am_vR_s e3).2 hs2
        · rw [if_neg c7] at hs2
          refine aw_ifeq_f (pc1 := 194) at_446_191 c7 rfl ?_
          refine aw_iconst (v := 1) (pc1 := 195) at_446_194 (by decide) rfl ?_
          refine aw_goto at_446_195 ?_
          exact rg_446_199 q_53 (fun z0 z1 z2 z3 z4 z5 z6 h o hs2 => ih z0 z1 z2 z3 z4 z5 z6 h o hs2) x0 x3 x4 x6 x7 x8 x9 v2 x3 1 h5 o l0 l3 l4 l6 l7 l8 l9 i0 (am_vR_s e3).2 hs2
      · clear hs1
        exact Or.inr hs2
def fg_446_165 (N : Nat) (rec_53 : Value → Int32 → Int32 → am_H → Option am_O) (x0 : Value) (x3 : Int32) (x4 : Int32) (x6 : Int32) (x7 : Int32) (x8 : Int32) (h : am_H) : Option am_O := am_cI false (fm_343 x8 h) (fun v1 h2 => (fg_446_174 N rec_53 N x0 x3 x4 x6 x7 x8 ((v1 - 1)) h2))
theorem rg_446_165 {X : am_X} {d : Nat} {N : Nat} {rec_53 : Value → Int32 → Int32 → am_H → Option am_O} (q_53 : ∀ (x0 : Value) (x3 : Int32) (x4 : Int32) (h : am_H) (o : am_O), rec_53 x0 x3 x4 h = some o → ∀ lv : am_LV, (lv.lookup 0 = some x0) → (lv.lookup 3 = some (.int x3)) → (lv.lookup 4 = some (.int x4)) → (am_isR x0 = true) → am_W X (d + 1) 446 53 lv [] h (fun q => q = o)) {lv : am_LV} (x0 : Value) (x3 : Int32) (x4 : Int32) (x6 : Int32) (x7 : Int32) (x8 : Int32) (h : am_H) (o : am_O) (l0 : lv.lookup 0 = some x0) (l3 : lv.lookup 3 = some (.int x3)) (l4 : lv.lookup 4 = some (.int x4)) (l6 : lv.lookup 6 = some (.int x6)) (l7 : lv.lookup 7 = some (.int x7)) (l8 : lv.lookup 8 = some (.int x8)) (i0 : am_isR x0 = true) (hs : fg_446_165 N rec_53 x0 x3 x4 x6 x7 x8 h = some o) : am_W X (d + 1) 446 165 lv [] h (fun q => q = o) := by
  unfold fg_446_165 at hs
  refine aw_iload (pc1 := 167) at_446_165 l8 rfl ?_
  refine aw_call (F := fm_343 x8 h) (t := false) (na := 1) (kd := 0) (as := [(.int x8)]) at_446_167 (am_k3s kb_343) mn_343 mk_343 rfl rfl (am_ok_s mi_343 (am_hl rfl (am_ccI am_cats_0) rfl)) (am_hc am_cats_0 rfl) (fun hz9 => by cases hz9) (fun o1 hz9 => rm_343 x8 h o1  hz9) ?_
  rcases am_cI_s hs with ⟨v1, h2, f3, hs1⟩ | hs1
  · clear hs
    refine Or.inl ⟨_, _, f3, ?_⟩
    show am_W X _ 446 170 _ [(.int v1)] h2 _
    refine aw_iconst (v := 1) (pc1 := 171) at_446_170 (by decide) rfl ?_
    refine aw_isub (v := (v1 - 1)) (pc1 := 172) at_446_171 rfl rfl ?_
    refine aw_istore (lv1 := am_put1 _ 9 _) (pc1 := 174) at_446_172 rfl rfl ?_
    exact rg_446_174 q_53 N x0 x3 x4 x6 x7 x8 ((v1 - 1)) h2 o hs1 _ (am_lk1 l0 rfl rfl) (am_lk1 l3 rfl rfl) (am_lk1 l4 rfl rfl) (am_lk1 l6 rfl rfl) (am_lk1 l7 rfl rfl) (am_lk1 l8 rfl rfl) am_lk0 i0
  · clear hs
    exact Or.inr hs1
def fg_446_163 (N : Nat) (h : am_H) : Option am_O := some (.inl (some (.int 0), h))
theorem rg_446_163 {X : am_X} {d : Nat} {N : Nat} {lv : am_LV} (h : am_H) (o : am_O) (hs : fg_446_163 N h = some o) : am_W X (d + 1) 446 163 lv [] h (fun q => q = o) := by
  unfold fg_446_163 at hs
  refine aw_iconst (v := 0) (pc1 := 164) at_446_163 (by decide) rfl ?_
  cases hs
  exact aw_iret at_446_164 (by rw [rt_446]; decide) rfl
def fg_446_151 (N : Nat) (rec_53 : Value → Int32 → Int32 → am_H → Option am_O) (x0 : Value) (x3 : Int32) (x4 : Int32) (x6 : Int32) (x7 : Int32) (x8 : Int32) (h : am_H) : Option am_O := (if x7 = 0 then (fg_446_165 N rec_53 x0 x3 x4 x6 x7 x8 h) else (if ¬ x8 = 19 then (fg_446_165 N rec_53 x0 x3 x4 x6 x7 x8 h) else (fg_446_163 N h)))
theorem rg_446_151 {X : am_X} {d : Nat} {N : Nat} {rec_53 : Value → Int32 → Int32 → am_H → Option am_O} (q_53 : ∀ (x0 : Value) (x3 : Int32) (x4 : Int32) (h : am_H) (o : am_O), rec_53 x0 x3 x4 h = some o → ∀ lv : am_LV, (lv.lookup 0 = some x0) → (lv.lookup 3 = some (.int x3)) → (lv.lookup 4 = some (.int x4)) → (am_isR x0 = true) → am_W X (d + 1) 446 53 lv [] h (fun q => q = o)) {lv : am_LV} (x0 : Value) (x3 : Int32) (x4 : Int32) (x6 : Int32) (x7 : Int32) (x8 : Int32) (h : am_H) (o : am_O) (l0 : lv.lookup 0 = some x0) (l3 : lv.lookup 3 = some (.int x3)) (l4 : lv.lookup 4 = some (.int x4)) (l6 : lv.lookup 6 = some (.int x6)) (l7 : lv.lookup 7 = some (.int x7)) (l8 : lv.lookup 8 = some (.int x8)) (i0 : am_isR x0 = true) (hs : fg_446_151 N rec_53 x0 x3 x4 x6 x7 x8 h = some o) : am_W X (d + 1) 446 151 lv [] h (fun q => q = o) := by
  unfold fg_446_151 at hs
  refine aw_iload (pc1 := 153) at_446_151 l7 rfl ?_
  by_cases c1 : x7 = 0
  · rw [if_pos c1] at hs
    refine aw_ifeq_t at_446_153 c1 ?_
    exact rg_446_165 q_53 x0 x3 x4 x6 x7 x8 h o l0 l3 l4 l6 l7 l8 i0 hs
  · rw [if_neg c1] at hs
    refine aw_ifeq_f (pc1 := 156) at_446_153 c1 rfl ?_
    refine aw_iload (pc1 := 158) at_446_156 l8 rfl ?_
    refine aw_bipush (v := 19) (pc1 := 160) at_446_158 (by decide) rfl ?_
    by_cases c2 : ¬ x8 = 19
    · rw [if_pos c2] at hs
      refine aw_icne_t at_446_160 c2 ?_
      exact rg_446_165 q_53 x0 x3 x4 x6 x7 x8 h o l0 l3 l4 l6 l7 l8 i0 hs
    · rw [if_neg c2] at hs
      refine aw_icne_f (pc1 := 163) at_446_160 c2 rfl ?_
      exact rg_446_163 h o   hs
def fg_446_105 (N : Nat) (rec_53 : Value → Int32 → Int32 → am_H → Option am_O) (x0 : Value) (x3 : Int32) (x4 : Int32) (x5 : Int32) (x6 : Int32) (s0 : Int32) (h : am_H) : Option am_O := ((am_vR (am_pG 3088 x0 h)).bind fun v1 => ((am_pA 0 v1 x4 h).bind fun v3 => am_cI false (fm_334 v3 h) (fun v5 h6 => (if ¬ v5 = x5 then (fg_446_163 N h6) else (if 12 < x6 then (fg_446_163 N h6) else (if ¬ s0 = 0 then (fg_446_151 N rec_53 x0 x3 x4 x6 s0 v3 h6) else (if v3 = 5 then (fg_446_163 N h6) else (if v3 = 6 then (fg_446_163 N h6) else (fg_446_151 N rec_53 x0 x3 x4 x6 s0 v3 h6)))))))))
theorem rg_446_105 {X : am_X} {d : Nat} {N : Nat} {rec_53 : Value → Int32 → Int32 → am_H → Option am_O} (q_53 : ∀ (x0 : Value) (x3 : Int32) (x4 : Int32) (h : am_H) (o : am_O), rec_53 x0 x3 x4 h = some o → ∀ lv : am_LV, (lv.lookup 0 = some x0) → (lv.lookup 3 = some (.int x3)) → (lv.lookup 4 = some (.int x4)) → (am_isR x0 = true) → am_W X (d + 1) 446 53 lv [] h (fun q => q = o)) {lv : am_LV} (x0 : Value) (x3 : Int32) (x4 : Int32) (x5 : Int32) (x6 : Int32) (s0 : Int32) (h : am_H) (o : am_O) (l0 : lv.lookup 0 = some x0) (l3 : lv.lookup 3 = some (.int x3)) (l4 : lv.lookup 4 = some (.int x4)) (l5 : lv.lookup 5 = some (.int x5)) (l6 : lv.lookup 6 = some (.int x6)) (i0 : am_isR x0 = true) (hs : fg_446_105 N rec_53 x0 x3 x4 x5 x6 s0 h = some o) : am_W X (d + 1) 446 105 lv [(.int s0)] h (fun q => q = o) := by
  unfold fg_446_105 at hs
  refine aw_istore (lv1 := am_put1 _ 7 _) (pc1 := 107) at_446_105 rfl rfl ?_
  refine aw_vload_n (pc1 := 108) at_446_107 (am_lk1 l0 rfl rfl) i0 rfl ?_
  obtain ⟨v1, e2, hs1⟩ := am_bind hs
  clear hs
  refine aw_pG (pc1 := 111) at_446_108 (am_vR_s e2).1 rfl ?_
  refine aw_iload (pc1 := 113) at_446_111 (am_lk1 l4 rfl rfl) rfl ?_
  obtain ⟨v3, e4, hs2⟩ := am_bind hs1
  clear hs1
  refine aw_pA (pc1 := 114) at_446_113 (Or.inl ⟨rfl, rfl⟩) e4 rfl ?_
  refine aw_istore (lv1 := am_put1 _ 8 _) (pc1 := 116) at_446_114 rfl rfl ?_
  refine aw_iload (pc1 := 118) at_446_116 am_lk0 rfl ?_
  refine aw_call (F := fm_334 v3 h) (t := false) (na := 1) (kd := 0) (as := [(.int v3)]) at_446_118 (am_k3s kb_334) mn_334 mk_334 rfl rfl (am_ok_s mi_334 (am_hl rfl (am_ccI am_cats_0) rfl)) (am_hc am_cats_0 rfl) (fun hz9 => by cases hz9) (fun o1 hz9 => rm_334 v3 h o1  hz9) ?_
  rcases am_cI_s hs2 with ⟨v5, h6, f7, hs3⟩ | hs3
  · clear hs2
    refine Or.inl ⟨_, _, f7, ?_⟩
    show am_W X _ 446 121 _ [(.int v5)] h6 _
    refine aw_iload (pc1 := 123) at_446_121 (am_lk1 (am_lk1 l5 rfl rfl) rfl rfl) rfl ?_
    by_cases c8 : ¬ v5 = x5
    · rw [if_pos c8] at hs3
      refine aw_icne_t at_446_123 c8 ?_
      exact rg_446_163 h6 o   hs3
    · rw [if_neg c8] at hs3
      refine aw_icne_f (pc1 := 126) at_446_123 c8 rfl ?_
      refine aw_iload (pc1 := 128) at_446_126 (am_lk1 (am_lk1 l6 rfl rfl) rfl rfl) rfl ?_
      refine aw_bipush (v := 12) (pc1 := 130) at_446_128 (by decide) rfl ?_
      by_cases c9 : 12 < x6
      · rw [if_pos c9] at hs3
        refine aw_icgt_t at_446_130 c9 ?_
        exact rg_446_163 h6 o   hs3
      · rw [if_neg c9] at hs3
        refine aw_icgt_f (pc1 := 133) at_446_130 c9 rfl ?_
        refine aw_iload (pc1 := 135) at_446_133 (am_lk1 am_lk0 rfl rfl) rfl ?_
        by_cases c10 : ¬ s0 = 0
        · rw [if_pos c10] at hs3
          refine aw_ifne_t at_446_135 c10 ?_
          exact rg_446_151 q_53 x0 x3 x4 x6 s0 v3 h6 o (am_lk1 (am_lk1 l0 rfl rfl) rfl rfl) (am_lk1 (am_lk1 l3 rfl rfl) rfl rfl) (am_lk1 (am_lk1 l4 rfl rfl) rfl rfl) (am_lk1 (am_lk1 l6 rfl rfl) rfl rfl) (am_lk1 am_lk0 rfl rfl) am_lk0 i0 hs3
        · rw [if_neg c10] at hs3
          refine aw_ifne_f (pc1 := 138) at_446_135 c10 rfl ?_
          refine aw_iload (pc1 := 140) at_446_138 am_lk0 rfl ?_
          refine aw_iconst (v := 5) (pc1 := 141) at_446_140 (by decide) rfl ?_
          by_cases c11 : v3 = 5
          · rw [if_pos c11] at hs3
            refine aw_iceq_t at_446_141 c11 ?_
            exact rg_446_163 h6 o   hs3
          · rw [if_neg c11] at hs3
            refine aw_iceq_f (pc1 := 144) at_446_141 c11 rfl ?_
            refine aw_iload (pc1 := 146) at_446_144 am_lk0 rfl ?_
            refine aw_bipush (v := 6) (pc1 := 148) at_446_146 (by decide) rfl ?_
            by_cases c12 : v3 = 6
            · rw [if_pos c12] at hs3
              refine aw_iceq_t at_446_148 c12 ?_
              exact rg_446_163 h6 o   hs3
            · rw [if_neg c12] at hs3
              refine aw_iceq_f (pc1 := 151) at_446_148 c12 rfl ?_
              exact rg_446_151 q_53 x0 x3 x4 x6 s0 v3 h6 o (am_lk1 (am_lk1 l0 rfl rfl) rfl rfl) (am_lk1 (am_lk1 l3 rfl rfl) rfl rfl) (am_lk1 (am_lk1 l4 rfl rfl) rfl rfl) (am_lk1 (am_lk1 l6 rfl rfl) rfl rfl) (am_lk1 am_lk0 rfl rfl) am_lk0 i0 hs3
  · clear hs2
    exact Or.inr hs3
def fg_446_80 (N : Nat) (rec_53 : Value → Int32 → Int32 → am_H → Option am_O) (x0 : Value) (x3 : Int32) (x4 : Int32) (s0 : Int32) (h : am_H) : Option am_O := ((am_vR (am_pG 3101 x0 h)).bind fun v1 => ((am_pA 0 v1 x3 h).bind fun v3 => ((am_vR (am_pG 3102 x0 h)).bind fun v5 => ((am_pA 0 v5 x3 h).bind fun v7 => (if ¬ v7 = 1 then (fg_446_105 N rec_53 x0 x3 x4 s0 v3 0 h) else (fg_446_105 N rec_53 x0 x3 x4 s0 v3 1 h))))))
theorem rg_446_80 {X : am_X} {d : Nat} {N : Nat} {rec_53 : Value → Int32 → Int32 → am_H → Option am_O} (q_53 : ∀ (x0 : Value) (x3 : Int32) (x4 : Int32) (h : am_H) (o : am_O), rec_53 x0 x3 x4 h = some o → ∀ lv : am_LV, (lv.lookup 0 = some x0) → (lv.lookup 3 = some (.int x3)) → (lv.lookup 4 = some (.int x4)) → (am_isR x0 = true) → am_W X (d + 1) 446 53 lv [] h (fun q => q = o)) {lv : am_LV} (x0 : Value) (x3 : Int32) (x4 : Int32) (s0 : Int32) (h : am_H) (o : am_O) (l0 : lv.lookup 0 = some x0) (l3 : lv.lookup 3 = some (.int x3)) (l4 : lv.lookup 4 = some (.int x4)) (i0 : am_isR x0 = true) (hs : fg_446_80 N rec_53 x0 x3 x4 s0 h = some o) : am_W X (d + 1) 446 80 lv [(.int s0)] h (fun q => q = o) := by
  unfold fg_446_80 at hs
  refine aw_istore (lv1 := am_put1 _ 5 _) (pc1 := 82) at_446_80 rfl rfl ?_
  refine aw_vload_n (pc1 := 83) at_446_82 (am_lk1 l0 rfl rfl) i0 rfl ?_
  obtain ⟨v1, e2, hs1⟩ := am_bind hs
  clear hs
  refine aw_pG (pc1 := 86) at_446_83 (am_vR_s e2).1 rfl ?_
  refine aw_iload_n (pc1 := 87) at_446_86 (am_lk1 l3 rfl rfl) rfl ?_
  obtain ⟨v3, e4, hs2⟩ := am_bind hs1
  clear hs1
  refine aw_pA (pc1 := 88) at_446_87 (Or.inl ⟨rfl, rfl⟩) e4 rfl ?_
  refine aw_istore (lv1 := am_put1 _ 6 _) (pc1 := 90) at_446_88 rfl rfl ?_
  refine aw_vload_n (pc1 := 91) at_446_90 (am_lk1 (am_lk1 l0 rfl rfl) rfl rfl) i0 rfl ?_
  obtain ⟨v5, e6, hs3⟩ := am_bind hs2
  clear hs2
  refine aw_pG (pc1 := 94) at_446_91 (am_vR_s e6).1 rfl ?_
  refine aw_iload_n (pc1 := 95) at_446_94 (am_lk1 (am_lk1 l3 rfl rfl) rfl rfl) rfl ?_
  obtain ⟨v7, e8, hs4⟩ := am_bind hs3
  clear hs3
  refine aw_pA (pc1 := 96) at_446_95 (Or.inl ⟨rfl, rfl⟩) e8 rfl ?_
  refine aw_iconst (v := 1) (pc1 := 97) at_446_96 (by decide) rfl ?_
  by_cases c9 : ¬ v7 = 1
  · rw [if_pos c9] at hs4
    refine aw_icne_t at_446_97 c9 ?_
    refine aw_iconst (v := 0) (pc1 := 105) at_446_104 (by decide) rfl ?_
    exact rg_446_105 q_53 x0 x3 x4 s0 v3 0 h o (am_lk1 (am_lk1 l0 rfl rfl) rfl rfl) (am_lk1 (am_lk1 l3 rfl rfl) rfl rfl) (am_lk1 (am_lk1 l4 rfl rfl) rfl rfl) (am_lk1 am_lk0 rfl rfl) am_lk0 i0 hs4
  · rw [if_neg c9] at hs4
    refine aw_icne_f (pc1 := 100) at_446_97 c9 rfl ?_
    refine aw_iconst (v := 1) (pc1 := 101) at_446_100 (by decide) rfl ?_
    refine aw_goto at_446_101 ?_
    exact rg_446_105 q_53 x0 x3 x4 s0 v3 1 h o (am_lk1 (am_lk1 l0 rfl rfl) rfl rfl) (am_lk1 (am_lk1 l3 rfl rfl) rfl rfl) (am_lk1 (am_lk1 l4 rfl rfl) rfl rfl) (am_lk1 am_lk0 rfl rfl) am_lk0 i0 hs4
def fg_446_53 (N : Nat) : Nat → Value → Int32 → Int32 → am_H → Option am_O
  | 0 => fun _ _ _ _ => none
  | K + 1 => fun x0 x3 x4 h => ((am_vI (am_pG 3086 x0 h)).bind fun v1 => (if v1 ≤ x4 then (if ¬ x3 = 0 then (fg_446_263 N 0 h) else (fg_446_263 N 1 h)) else ((am_vR (am_pG 3100 x0 h)).bind fun v5 => ((am_pA 0 v5 (x3 + (-1)) h).bind fun v7 => (if ¬ v7 = 1 then (fg_446_80 N (fg_446_53 N K) x0 ((x3 + (-1))) x4 0 h) else (fg_446_80 N (fg_446_53 N K) x0 ((x3 + (-1))) x4 1 h))))))
theorem rg_446_53 {X : am_X} {d : Nat} {N : Nat} : ∀ (K : Nat) (x0 : Value) (x3 : Int32) (x4 : Int32) (h : am_H) (o : am_O), fg_446_53 N K x0 x3 x4 h = some o → ∀ lv : am_LV, (lv.lookup 0 = some x0) → (lv.lookup 3 = some (.int x3)) → (lv.lookup 4 = some (.int x4)) → (am_isR x0 = true) → am_W X (d + 1) 446 53 lv [] h (fun q => q = o) := by
  intro K
  induction K with
  | zero => intro x0 x3 x4 h o hs; cases hs
  | succ K ih =>
    intro x0 x3 x4 h o hs lv l0 l3 l4 i0
    unfold fg_446_53 at hs
    refine aw_iload (pc1 := 55) at_446_53 l4 rfl ?_
    refine aw_vload_n (pc1 := 56) at_446_55 l0 i0 rfl ?_
    obtain ⟨v1, e2, hs1⟩ := am_bind hs
    clear hs
    refine aw_pG (pc1 := 59) at_446_56 (am_vI_s e2) rfl ?_
    by_cases c3 : v1 ≤ x4
    · rw [if_pos c3] at hs1
      refine aw_icge_t at_446_59 c3 ?_
      refine aw_iload_n (pc1 := 255) at_446_254 l3 rfl ?_
      by_cases c4 : ¬ x3 = 0
      · rw [if_pos c4] at hs1
        refine aw_ifne_t at_446_255 c4 ?_
        refine aw_iconst (v := 0) (pc1 := 263) at_446_262 (by decide) rfl ?_
        exact rg_446_263 0 h o   hs1
      · rw [if_neg c4] at hs1
        refine aw_ifne_f (pc1 := 258) at_446_255 c4 rfl ?_
        refine aw_iconst (v := 1) (pc1 := 259) at_446_258 (by decide) rfl ?_
        refine aw_goto at_446_259 ?_
        exact rg_446_263 1 h o   hs1
    · rw [if_neg c3] at hs1
      refine aw_icge_f (pc1 := 62) at_446_59 c3 rfl ?_
      refine aw_iinc (v := (x3 + (-1))) (c := (-1)) (lv1 := am_put1 _ 3 _) (pc1 := 65) at_446_62 l3 (by decide) rfl rfl rfl ?_
      refine aw_vload_n (pc1 := 66) at_446_65 (am_lk1 l0 rfl rfl) i0 rfl ?_
      obtain ⟨v5, e6, hs2⟩ := am_bind hs1
      clear hs1
      refine aw_pG (pc1 := 69) at_446_66 (am_vR_s e6).1 rfl ?_
      refine aw_iload_n (pc1 := 70) at_446_69 am_lk0 rfl ?_
      obtain ⟨v7, e8, hs3⟩ := am_bind hs2
      clear hs2
      refine aw_pA (pc1 := 71) at_446_70 (Or.inl ⟨rfl, rfl⟩) e8 rfl ?_
      refine aw_iconst (v := 1) (pc1 := 72) at_446_71 (by decide) rfl ?_
      by_cases c9 : ¬ v7 = 1
      · rw [if_pos c9] at hs3
        refine aw_icne_t at_446_72 c9 ?_
        refine aw_iconst (v := 0) (pc1 := 80) at_446_79 (by decide) rfl ?_
        exact rg_446_80 (fun z0 z1 z2 h o hs3 => ih z0 z1 z2 h o hs3) x0 ((x3 + (-1))) x4 0 h o (am_lk1 l0 rfl rfl) am_lk0 (am_lk1 l4 rfl rfl) i0 hs3
      · rw [if_neg c9] at hs3
        refine aw_icne_f (pc1 := 75) at_446_72 c9 rfl ?_
        refine aw_iconst (v := 1) (pc1 := 76) at_446_75 (by decide) rfl ?_
        refine aw_goto at_446_76 ?_
        exact rg_446_80 (fun z0 z1 z2 h o hs3 => ih z0 z1 z2 h o hs3) x0 ((x3 + (-1))) x4 1 h o (am_lk1 l0 rfl rfl) am_lk0 (am_lk1 l4 rfl rfl) i0 hs3
def fg_446_49 (N : Nat) (x0 : Value) (x3 : Int32) (s0 : Value) (s1 : Int32) (s2 : Int32) (h : am_H) : Option am_O := ((am_pS 0 s0 s1 s2 h).bind fun h1 => (fg_446_53 N N x0 x3 0 h1))
theorem rg_446_49 {X : am_X} {d : Nat} {N : Nat} {lv : am_LV} (x0 : Value) (x3 : Int32) (s0 : Value) (s1 : Int32) (s2 : Int32) (h : am_H) (o : am_O) (l0 : lv.lookup 0 = some x0) (l3 : lv.lookup 3 = some (.int x3)) (i0 : am_isR x0 = true) (j0 : am_isR s0 = true) (hs : fg_446_49 N x0 x3 s0 s1 s2 h = some o) : am_W X (d + 1) 446 49 lv [(.int s2), (.int s1), s0] h (fun q => q = o) := by
  unfold fg_446_49 at hs
  obtain ⟨h1, e2, hs1⟩ := am_bind hs
  clear hs
  refine aw_pS (pc1 := 50) at_446_49 (Or.inl ⟨rfl, rfl⟩) e2 rfl ?_
  refine aw_iconst (v := 0) (pc1 := 51) at_446_50 (by decide) rfl ?_
  refine aw_istore (lv1 := am_put1 _ 4 _) (pc1 := 53) at_446_51 rfl rfl ?_
  exact rg_446_53 N x0 x3 0 h1 o hs1 _ (am_lk1 l0 rfl rfl) (am_lk1 l3 rfl rfl) am_lk0 i0
def fg_446_27 (N : Nat) (x0 : Value) (x2 : Int32) (x3 : Int32) (s0 : Value) (s1 : Int32) (s2 : Int32) (h : am_H) : Option am_O := ((am_pS 0 s0 s1 s2 h).bind fun h1 => ((am_vR (am_pG 3101 x0 h1)).bind fun v3 => ((am_pS 0 v3 0 1 h1).bind fun h5 => ((am_vR (am_pG 3102 x0 h5)).bind fun v7 => (if x2 = 0 then (fg_446_49 N x0 x3 v7 0 0 h5) else (fg_446_49 N x0 x3 v7 0 1 h5))))))
theorem rg_446_27 {X : am_X} {d : Nat} {N : Nat} {lv : am_LV} (x0 : Value) (x2 : Int32) (x3 : Int32) (s0 : Value) (s1 : Int32) (s2 : Int32) (h : am_H) (o : am_O) (l0 : lv.lookup 0 = some x0) (l2 : lv.lookup 2 = some (.int x2)) (l3 : lv.lookup 3 = some (.int x3)) (i0 : am_isR x0 = true) (j0 : am_isR s0 = true) (hs : fg_446_27 N x0 x2 x3 s0 s1 s2 h = some o) : am_W X (d + 1) 446 27 lv [(.int s2), (.int s1), s0] h (fun q => q = o) := by
  unfold fg_446_27 at hs
  obtain ⟨h1, e2, hs1⟩ := am_bind hs
  clear hs
  refine aw_pS (pc1 := 28) at_446_27 (Or.inl ⟨rfl, rfl⟩) e2 rfl ?_
  refine aw_vload_n (pc1 := 29) at_446_28 l0 i0 rfl ?_
  obtain ⟨v3, e4, hs2⟩ := am_bind hs1
  clear hs1
  refine aw_pG (pc1 := 32) at_446_29 (am_vR_s e4).1 rfl ?_
  refine aw_iconst (v := 0) (pc1 := 33) at_446_32 (by decide) rfl ?_
  refine aw_iconst (v := 1) (pc1 := 34) at_446_33 (by decide) rfl ?_
  obtain ⟨h5, e6, hs3⟩ := am_bind hs2
  clear hs2
  refine aw_pS (pc1 := 35) at_446_34 (Or.inl ⟨rfl, rfl⟩) e6 rfl ?_
  refine aw_vload_n (pc1 := 36) at_446_35 l0 i0 rfl ?_
  obtain ⟨v7, e8, hs4⟩ := am_bind hs3
  clear hs3
  refine aw_pG (pc1 := 39) at_446_36 (am_vR_s e8).1 rfl ?_
  refine aw_iconst (v := 0) (pc1 := 40) at_446_39 (by decide) rfl ?_
  refine aw_iload_n (pc1 := 41) at_446_40 l2 rfl ?_
  by_cases c9 : x2 = 0
  · rw [if_pos c9] at hs4
    refine aw_ifeq_t at_446_41 c9 ?_
    refine aw_iconst (v := 0) (pc1 := 49) at_446_48 (by decide) rfl ?_
    exact rg_446_49 x0 x3 v7 0 0 h5 o l0 l3 i0 (am_vR_s e8).2 hs4
  · rw [if_neg c9] at hs4
    refine aw_ifeq_f (pc1 := 44) at_446_41 c9 rfl ?_
    refine aw_iconst (v := 1) (pc1 := 45) at_446_44 (by decide) rfl ?_
    refine aw_goto at_446_45 ?_
    exact rg_446_49 x0 x3 v7 0 1 h5 o l0 l3 i0 (am_vR_s e8).2 hs4
def fg_446_0 (N : Nat) (x0 : Value) (x1 : Int32) (x2 : Int32) (h : am_H) : Option am_O := ((am_vI (am_pG 3086 x0 h)).bind fun v1 => (if v1 ≤ 60 then ((am_vR (am_pG 3100 x0 h)).bind fun v4 => (if x1 = 0 then (fg_446_27 N x0 x2 1 v4 0 0 h) else (fg_446_27 N x0 x2 1 v4 0 1 h))) else some (.inl (some (.int 0), h))))
theorem rg_446_0 {X : am_X} {d : Nat} {N : Nat} {lv : am_LV} (x0 : Value) (x1 : Int32) (x2 : Int32) (h : am_H) (o : am_O) (l0 : lv.lookup 0 = some x0) (l1 : lv.lookup 1 = some (.int x1)) (l2 : lv.lookup 2 = some (.int x2)) (i0 : am_isR x0 = true) (hs : fg_446_0 N x0 x1 x2 h = some o) : am_W X (d + 1) 446 0 lv [] h (fun q => q = o) := by
  unfold fg_446_0 at hs
  refine aw_vload_n (pc1 := 1) at_446_0 l0 i0 rfl ?_
  obtain ⟨v1, e2, hs1⟩ := am_bind hs
  clear hs
  refine aw_pG (pc1 := 4) at_446_1 (am_vI_s e2) rfl ?_
  refine aw_bipush (v := 60) (pc1 := 6) at_446_4 (by decide) rfl ?_
  by_cases c3 : v1 ≤ 60
  · rw [if_pos c3] at hs1
    refine aw_icle_t at_446_6 c3 ?_
    refine aw_iconst (v := 1) (pc1 := 12) at_446_11 (by decide) rfl ?_
    refine aw_istore_n (lv1 := am_put1 _ 3 _) (pc1 := 13) at_446_12 rfl rfl ?_
    refine aw_vload_n (pc1 := 14) at_446_13 (am_lk1 l0 rfl rfl) i0 rfl ?_
    obtain ⟨v4, e5, hs2⟩ := am_bind hs1
    clear hs1
    refine aw_pG (pc1 := 17) at_446_14 (am_vR_s e5).1 rfl ?_
    refine aw_iconst (v := 0) (pc1 := 18) at_446_17 (by decide) rfl ?_
    refine aw_iload_n (pc1 := 19) at_446_18 (am_lk1 l1 rfl rfl) rfl ?_
    by_cases c6 : x1 = 0
    · rw [if_pos c6] at hs2
      refine aw_ifeq_t at_446_19 c6 ?_
      refine aw_iconst (v := 0) (pc1 := 27) at_446_26 (by decide) rfl ?_
      exact rg_446_27 x0 x2 1 v4 0 0 h o (am_lk1 l0 rfl rfl) (am_lk1 l2 rfl rfl) am_lk0 i0 (am_vR_s e5).2 hs2
    · rw [if_neg c6] at hs2
      refine aw_ifeq_f (pc1 := 22) at_446_19 c6 rfl ?_
      refine aw_iconst (v := 1) (pc1 := 23) at_446_22 (by decide) rfl ?_
      refine aw_goto at_446_23 ?_
      exact rg_446_27 x0 x2 1 v4 0 1 h o (am_lk1 l0 rfl rfl) (am_lk1 l2 rfl rfl) am_lk0 i0 (am_vR_s e5).2 hs2
  · rw [if_neg c3] at hs1
    refine aw_icle_f (pc1 := 9) at_446_6 c3 rfl ?_
    refine aw_iconst (v := 0) (pc1 := 10) at_446_9 (by decide) rfl ?_
    cases hs1
    exact aw_iret at_446_10 (by rw [rt_446]; decide) rfl
def fm_446 (N : Nat) (y0 : Value) (y1 : Int32) (y2 : Int32) (h : am_H) : Option am_O := fg_446_0 N y0 y1 y2 h
theorem rm_446 {X : am_X} {d : Nat} {N : Nat} (y0 : Value) (y1 : Int32) (y2 : Int32) (h : am_H) (o : am_O) (i0 : am_isR y0 = true) (hs : fm_446 N y0 y1 y2 h = some o) : am_W X (d + 1) 446 0 (am_args 0 [y0, .int y1, .int y2]) [] h (fun q => q = o) := by
  rw [am_args_R i0, am_args_I, am_args_I]
  exact rg_446_0 y0 y1 y2 h o rfl rfl rfl i0 hs
def fg_445_86 (N : Nat) (s0 : Int32) (h : am_H) : Option am_O := (if am_rfit (some FieldType.boolean) s0 then some (.inl (some (.int s0), h)) else none)
theorem rg_445_86 {X : am_X} {d : Nat} {N : Nat} {lv : am_LV} (s0 : Int32) (h : am_H) (o : am_O) (hs : fg_445_86 N s0 h = some o) : am_W X (d + 2) 445 86 lv [(.int s0)] h (fun q => q = o) := by
  unfold fg_445_86 at hs
  obtain ⟨z1, hs1⟩ := am_ift hs
  clear hs
  cases hs1
  exact aw_iret at_445_86 (by rw [rt_445]; exact z1) rfl
def fg_445_50 (N : Nat) (s0 : Int32) (h : am_H) : Option am_O := (if am_rfit (some FieldType.boolean) s0 then some (.inl (some (.int s0), h)) else none)
theorem rg_445_50 {X : am_X} {d : Nat} {N : Nat} {lv : am_LV} (s0 : Int32) (h : am_H) (o : am_O) (hs : fg_445_50 N s0 h = some o) : am_W X (d + 2) 445 50 lv [(.int s0)] h (fun q => q = o) := by
  unfold fg_445_50 at hs
  obtain ⟨z1, hs1⟩ := am_ift hs
  clear hs
  cases hs1
  exact aw_iret at_445_50 (by rw [rt_445]; exact z1) rfl
def fg_445_49 (N : Nat) (h : am_H) : Option am_O := (fg_445_50 N 0 h)
theorem rg_445_49 {X : am_X} {d : Nat} {N : Nat} {lv : am_LV} (h : am_H) (o : am_O) (hs : fg_445_49 N h = some o) : am_W X (d + 2) 445 49 lv [] h (fun q => q = o) := by
  unfold fg_445_49 at hs
  refine aw_iconst (v := 0) (pc1 := 50) at_445_49 (by decide) rfl ?_
  exact rg_445_50 0 h o   hs
def fg_445_0 (N : Nat) (x0 : Value) (h : am_H) : Option am_O := ((am_vI (am_pG 3085 x0 h)).bind fun v1 => (if ¬ v1 = 0 then ((am_vI (am_pG 3085 x0 h)).bind fun v4 => (if ¬ v4 = 1 then ((am_vI (am_pG 3085 x0 h)).bind fun v7 => (if ¬ v7 = 2 then ((am_vI (am_pG 3086 x0 h)).bind fun v10 => (if 40 < v10 then (fg_445_86 N 0 h) else (fg_445_86 N 1 h))) else ((am_vI (am_pG 3086 x0 h)).bind fun v13 => am_cI false (fm_327 ((Int32.toInt64 v13)) 1 6 h) (fun v15 h16 => (if am_rfit (some FieldType.boolean) v15 then some (.inl (some (.int v15), h16)) else none))))) else ((am_vI (am_pG 3086 x0 h)).bind fun v19 => am_cI false (fm_327 ((Int32.toInt64 v19)) 1 60 h) (fun v21 h22 => (if v21 = 0 then (fg_445_49 N h22) else (if am_pOk 12 x0 h22 then am_cI true (fm_347 N x0 h22) (fun v26 h27 => (if ¬ v26 = (-1) then (fg_445_49 N h27) else (fg_445_50 N 1 h27))) else none)))))) else (if am_pOk 12 x0 h then am_cI true (fm_446 N x0 0 0 h) (fun v31 h32 => (if am_rfit (some FieldType.boolean) v31 then some (.inl (some (.int v31), h32)) else none)) else none)))
theorem rg_445_0 {X : am_X} {d : Nat} {N : Nat} {lv : am_LV} (x0 : Value) (h : am_H) (o : am_O) (l0 : lv.lookup 0 = some x0) (i0 : am_isR x0 = true) (hs : fg_445_0 N x0 h = some o) : am_W X (d + 2) 445 0 lv [] h (fun q => q = o) := by
  unfold fg_445_0 at hs
  refine aw_vload_n (pc1 := 1) at_445_0 l0 i0 rfl ?_
  obtain ⟨v1, e2, hs1⟩ := am_bind hs
  clear hs
  refine aw_pG (pc1 := 4) at_445_1 (am_vI_s e2) rfl ?_
  by_cases c3 : ¬ v1 = 0
  · rw [if_pos c3] at hs1
    refine aw_ifne_t at_445_4 c3 ?_
    refine aw_vload_n (pc1 := 15) at_445_14 l0 i0 rfl ?_
    obtain ⟨v4, e5, hs2⟩ := am_bind hs1
    clear hs1
    refine aw_pG (pc1 := 18) at_445_15 (am_vI_s e5) rfl ?_
    refine aw_iconst (v := 1) (pc1 := 19) at_445_18 (by decide) rfl ?_
    by_cases c6 : ¬ v4 = 1
    · rw [if_pos c6] at hs2
      refine aw_icne_t at_445_19 c6 ?_
      refine aw_vload_n (pc1 := 52) at_445_51 l0 i0 rfl ?_
      obtain ⟨v7, e8, hs3⟩ := am_bind hs2
      clear hs2
      refine aw_pG (pc1 := 55) at_445_52 (am_vI_s e8) rfl ?_
      refine aw_iconst (v := 2) (pc1 := 56) at_445_55 (by decide) rfl ?_
      by_cases c9 : ¬ v7 = 2
      · rw [if_pos c9] at hs3
        refine aw_icne_t at_445_56 c9 ?_
        refine aw_vload_n (pc1 := 73) at_445_72 l0 i0 rfl ?_
        obtain ⟨v10, e11, hs4⟩ := am_bind hs3
        clear hs3
        refine aw_pG (pc1 := 76) at_445_73 (am_vI_s e11) rfl ?_
        refine aw_bipush (v := 40) (pc1 := 78) at_445_76 (by decide) rfl ?_
        by_cases c12 : 40 < v10
        · rw [if_pos c12] at hs4
          refine aw_icgt_t at_445_78 c12 ?_
          refine aw_iconst (v := 0) (pc1 := 86) at_445_85 (by decide) rfl ?_
          exact rg_445_86 0 h o   hs4
        · rw [if_neg c12] at hs4
          refine aw_icgt_f (pc1 := 81) at_445_78 c12 rfl ?_
          refine aw_iconst (v := 1) (pc1 := 82) at_445_81 (by decide) rfl ?_
          refine aw_goto at_445_82 ?_
          exact rg_445_86 1 h o   hs4
      · rw [if_neg c9] at hs3
        refine aw_icne_f (pc1 := 59) at_445_56 c9 rfl ?_
        refine aw_vload_n (pc1 := 60) at_445_59 l0 i0 rfl ?_
        obtain ⟨v13, e14, hs5⟩ := am_bind hs3
        clear hs3
        refine aw_pG (pc1 := 63) at_445_60 (am_vI_s e14) rfl ?_
        refine aw_i2l (v := (Int32.toInt64 v13)) (pc1 := 64) at_445_63 rfl rfl ?_
        refine aw_lconst (v := 1) (pc1 := 65) at_445_64 (by decide) rfl ?_
        refine aw_ldc2 (v := 6) (pc1 := 68) at_445_65 rfl rfl ?_
        refine aw_call (F := fm_327 ((Int32.toInt64 v13)) 1 6 h) (t := false) (na := 3) (kd := 0) (as := [(.long (Int32.toInt64 v13)), (.long 1), (.long 6)]) at_445_68 (am_k3s kb_327) mn_327 mk_327 rfl rfl (am_ok_s mi_327 (am_hl rfl (am_ccL (am_ccL (am_ccL am_cats_0))) rfl)) (am_hc am_cats_0 rfl) (fun hz9 => by cases hz9) (fun o1 hz9 => rm_327 ((Int32.toInt64 v13)) 1 6 h o1  hz9) ?_
        rcases am_cI_s hs5 with ⟨v15, h16, f17, hs6⟩ | hs6
        · clear hs5
          refine Or.inl ⟨_, _, f17, ?_⟩
          show am_W X _ 445 71 _ [(.int v15)] h16 _
          obtain ⟨z18, hs7⟩ := am_ift hs6
          clear hs6
          cases hs7
          exact aw_iret at_445_71 (by rw [rt_445]; exact z18) rfl
        · clear hs5
          exact Or.inr hs6
    · rw [if_neg c6] at hs2
      refine aw_icne_f (pc1 := 22) at_445_19 c6 rfl ?_
      refine aw_vload_n (pc1 := 23) at_445_22 l0 i0 rfl ?_
      obtain ⟨v19, e20, hs8⟩ := am_bind hs2
      clear hs2
      refine aw_pG (pc1 := 26) at_445_23 (am_vI_s e20) rfl ?_
      refine aw_i2l (v := (Int32.toInt64 v19)) (pc1 := 27) at_445_26 rfl rfl ?_
      refine aw_lconst (v := 1) (pc1 := 28) at_445_27 (by decide) rfl ?_
      refine aw_ldc2 (v := 60) (pc1 := 31) at_445_28 rfl rfl ?_
      refine aw_call (F := fm_327 ((Int32.toInt64 v19)) 1 60 h) (t := false) (na := 3) (kd := 0) (as := [(.long (Int32.toInt64 v19)), (.long 1), (.long 60)]) at_445_31 (am_k3s kb_327) mn_327 mk_327 rfl rfl (am_ok_s mi_327 (am_hl rfl (am_ccL (am_ccL (am_ccL am_cats_0))) rfl)) (am_hc am_cats_0 rfl) (fun hz9 => by cases hz9) (fun o1 hz9 => rm_327 ((Int32.toInt64 v19)) 1 60 h o1  hz9) ?_
      rcases am_cI_s hs8 with ⟨v21, h22, f23, hs9⟩ | hs9
      · clear hs8
        refine Or.inl ⟨_, _, f23, ?_⟩
        show am_W X _ 445 34 _ [(.int v21)] h22 _
        by_cases c24 : v21 = 0
        · rw [if_pos c24] at hs9
          refine aw_ifeq_t at_445_34 c24 ?_
          exact rg_445_49 h22 o   hs9
        · rw [if_neg c24] at hs9
          refine aw_ifeq_f (pc1 := 37) at_445_34 c24 rfl ?_
          refine aw_vload_n (pc1 := 38) at_445_37 l0 i0 rfl ?_
          obtain ⟨z25, hs10⟩ := am_ift hs9
          clear hs9
          refine aw_call (F := fm_347 N x0 h22) (t := true) (na := 1) (kd := 1) (as := [x0]) at_445_38 (am_k3v kb_347) mn_347 mk_347 rfl rfl (am_ok_v mi_347 (am_hl rfl (am_ccR i0 am_cats_0) rfl) z25) (am_hc am_cats_0 rfl) (fun _ => ⟨rfl, hh_445⟩) (fun o1 hz9 => rm_347 x0 h22 o1 i0 hz9) ?_
          rcases am_cI_s hs10 with ⟨v26, h27, f28, hs11⟩ | hs11
          · clear hs10
            refine Or.inl ⟨_, _, f28, ?_⟩
            show am_W X _ 445 41 _ [(.int v26)] h27 _
            refine aw_iconst (v := (-1)) (pc1 := 42) at_445_41 (by decide) rfl ?_
            by_cases c29 : ¬ v26 = (-1)
            · rw [if_pos c29] at hs11
              refine aw_icne_t at_445_42 c29 ?_
              exact rg_445_49 h27 o   hs11
            · rw [if_neg c29] at hs11
              refine aw_icne_f (pc1 := 45) at_445_42 c29 rfl ?_
              refine aw_iconst (v := 1) (pc1 := 46) at_445_45 (by decide) rfl ?_
              refine aw_goto at_445_46 ?_
              exact rg_445_50 1 h27 o   hs11
          · clear hs10
            exact Or.inr hs11
      · clear hs8
        exact Or.inr hs9
  · rw [if_neg c3] at hs1
    refine aw_ifne_f (pc1 := 7) at_445_4 c3 rfl ?_
    refine aw_vload_n (pc1 := 8) at_445_7 l0 i0 rfl ?_
    refine aw_iconst (v := 0) (pc1 := 9) at_445_8 (by decide) rfl ?_
    refine aw_iconst (v := 0) (pc1 := 10) at_445_9 (by decide) rfl ?_
    obtain ⟨z30, hs12⟩ := am_ift hs1
    clear hs1
    refine aw_call (F := fm_446 N x0 0 0 h) (t := true) (na := 3) (kd := 1) (as := [x0, (.int 0), (.int 0)]) at_445_10 (am_k3v kb_446) mn_446 mk_446 rfl rfl (am_ok_v mi_446 (am_hl rfl (am_ccR i0 (am_ccI (am_ccI am_cats_0))) rfl) z30) (am_hc am_cats_0 rfl) (fun _ => ⟨rfl, hh_445⟩) (fun o1 hz9 => rm_446 x0 0 0 h o1 i0 hz9) ?_
    rcases am_cI_s hs12 with ⟨v31, h32, f33, hs13⟩ | hs13
    · clear hs12
      refine Or.inl ⟨_, _, f33, ?_⟩
      show am_W X _ 445 13 _ [(.int v31)] h32 _
      obtain ⟨z34, hs14⟩ := am_ift hs13
      clear hs13
      cases hs14
      exact aw_iret at_445_13 (by rw [rt_445]; exact z34) rfl
    · clear hs12
      exact Or.inr hs13
def fm_445 (N : Nat) (y0 : Value) (h : am_H) : Option am_O := fg_445_0 N y0 h
theorem rm_445 {X : am_X} {d : Nat} {N : Nat} (y0 : Value) (h : am_H) (o : am_O) (i0 : am_isR y0 = true) (hs : fm_445 N y0 h = some o) : am_W X (d + 2) 445 0 (am_args 0 [y0]) [] h (fun q => q = o) := by
  rw [am_args_R i0]
  exact rg_445_0 y0 h o rfl i0 hs
def fg_444_38 (N : Nat) (x0 : Value) (s0 : Value) (s1 : Int32) (h : am_H) : Option am_O := ((am_pP 3167 s0 (.int s1) h).bind fun h1 => ((am_vI (am_pG 3167 x0 h1)).bind fun v3 => (if am_rfit (some FieldType.boolean) v3 then some (.inl (some (.int v3), h1)) else none)))
theorem rg_444_38 {X : am_X} {d : Nat} {N : Nat} {lv : am_LV} (x0 : Value) (s0 : Value) (s1 : Int32) (h : am_H) (o : am_O) (l0 : lv.lookup 0 = some x0) (i0 : am_isR x0 = true) (j0 : am_isR s0 = true) (hs : fg_444_38 N x0 s0 s1 h = some o) : am_W X (d + 3) 444 38 lv [(.int s1), s0] h (fun q => q = o) := by
  unfold fg_444_38 at hs
  obtain ⟨h1, e2, hs1⟩ := am_bind hs
  clear hs
  refine aw_pP (pc1 := 41) at_444_38 e2 rfl ?_
  refine aw_vload_n (pc1 := 42) at_444_41 l0 i0 rfl ?_
  obtain ⟨v3, e4, hs2⟩ := am_bind hs1
  clear hs1
  refine aw_pG (pc1 := 45) at_444_42 (am_vI_s e4) rfl ?_
  obtain ⟨z5, hs3⟩ := am_ift hs2
  clear hs2
  cases hs3
  exact aw_iret at_444_45 (by rw [rt_444]; exact z5) rfl
def fg_444_0 (N : Nat) (x0 : Value) (h : am_H) : Option am_O := (if am_pOk 12 x0 h then am_cI true (fm_445 N x0 h) (fun v2 h3 => (if ¬ v2 = 0 then ((am_vI (am_pG 3166 x0 h3)).bind fun v6 => ((am_pP 3166 x0 (.int (v6 + 1)) h3).bind fun h8 => ((am_vI (am_pG 3166 x0 h8)).bind fun v10 => ((am_vI (am_pG 3165 x0 h8)).bind fun v12 => (if ¬ (v10 - 1) = v12 then (fg_444_38 N x0 x0 0 h8) else (fg_444_38 N x0 x0 1 h8)))))) else some (.inl (some (.int 0), h3)))) else none)
theorem rg_444_0 {X : am_X} {d : Nat} {N : Nat} {lv : am_LV} (x0 : Value) (h : am_H) (o : am_O) (l0 : lv.lookup 0 = some x0) (i0 : am_isR x0 = true) (hs : fg_444_0 N x0 h = some o) : am_W X (d + 3) 444 0 lv [] h (fun q => q = o) := by
  unfold fg_444_0 at hs
  refine aw_vload_n (pc1 := 1) at_444_0 l0 i0 rfl ?_
  obtain ⟨z1, hs1⟩ := am_ift hs
  clear hs
  refine aw_call (F := fm_445 N x0 h) (t := true) (na := 1) (kd := 1) (as := [x0]) at_444_1 (am_k3v kb_445) mn_445 mk_445 rfl rfl (am_ok_v mi_445 (am_hl rfl (am_ccR i0 am_cats_0) rfl) z1) (am_hc am_cats_0 rfl) (fun _ => ⟨rfl, hh_444⟩) (fun o1 hz9 => rm_445 x0 h o1 i0 hz9) ?_
  rcases am_cI_s hs1 with ⟨v2, h3, f4, hs2⟩ | hs2
  · clear hs1
    refine Or.inl ⟨_, _, f4, ?_⟩
    show am_W X _ 444 4 _ [(.int v2)] h3 _
    by_cases c5 : ¬ v2 = 0
    · rw [if_pos c5] at hs2
      refine aw_ifne_t at_444_4 c5 ?_
      refine aw_vload_n (pc1 := 10) at_444_9 l0 i0 rfl ?_
      refine aw_vdup (pc1 := 11) at_444_10 i0 rfl ?_
      obtain ⟨v6, e7, hs3⟩ := am_bind hs2
      clear hs2
      refine aw_pG (pc1 := 14) at_444_11 (am_vI_s e7) rfl ?_
      refine aw_iconst (v := 1) (pc1 := 15) at_444_14 (by decide) rfl ?_
      refine aw_iadd (v := (v6 + 1)) (pc1 := 16) at_444_15 rfl rfl ?_
      obtain ⟨h8, e9, hs4⟩ := am_bind hs3
      clear hs3
      refine aw_pP (pc1 := 19) at_444_16 e9 rfl ?_
      refine aw_vload_n (pc1 := 20) at_444_19 l0 i0 rfl ?_
      refine aw_vload_n (pc1 := 21) at_444_20 l0 i0 rfl ?_
      obtain ⟨v10, e11, hs5⟩ := am_bind hs4
      clear hs4
      refine aw_pG (pc1 := 24) at_444_21 (am_vI_s e11) rfl ?_
      refine aw_iconst (v := 1) (pc1 := 25) at_444_24 (by decide) rfl ?_
      refine aw_isub (v := (v10 - 1)) (pc1 := 26) at_444_25 rfl rfl ?_
      refine aw_vload_n (pc1 := 27) at_444_26 l0 i0 rfl ?_
      obtain ⟨v12, e13, hs6⟩ := am_bind hs5
      clear hs5
      refine aw_pG (pc1 := 30) at_444_27 (am_vI_s e13) rfl ?_
      by_cases c14 : ¬ (v10 - 1) = v12
      · rw [if_pos c14] at hs6
        refine aw_icne_t at_444_30 c14 ?_
        refine aw_iconst (v := 0) (pc1 := 38) at_444_37 (by decide) rfl ?_
        exact rg_444_38 x0 x0 0 h8 o l0 i0 i0 hs6
      · rw [if_neg c14] at hs6
        refine aw_icne_f (pc1 := 33) at_444_30 c14 rfl ?_
        refine aw_iconst (v := 1) (pc1 := 34) at_444_33 (by decide) rfl ?_
        refine aw_goto at_444_34 ?_
        exact rg_444_38 x0 x0 1 h8 o l0 i0 i0 hs6
    · rw [if_neg c5] at hs2
      refine aw_ifne_f (pc1 := 7) at_444_4 c5 rfl ?_
      refine aw_iconst (v := 0) (pc1 := 8) at_444_7 (by decide) rfl ?_
      cases hs2
      exact aw_iret at_444_8 (by rw [rt_444]; decide) rfl
  · clear hs1
    exact Or.inr hs2
def fm_444 (N : Nat) (y0 : Value) (h : am_H) : Option am_O := fg_444_0 N y0 h
theorem rm_444 {X : am_X} {d : Nat} {N : Nat} (y0 : Value) (h : am_H) (o : am_O) (i0 : am_isR y0 = true) (hs : fm_444 N y0 h = some o) : am_W X (d + 3) 444 0 (am_args 0 [y0]) [] h (fun q => q = o) := by
  rw [am_args_R i0]
  exact rg_444_0 y0 h o rfl i0 hs
def fg_441_24 (N : Nat) (h : am_H) : Option am_O := some (.inl (some (.int 0), h))
theorem rg_441_24 {X : am_X} {d : Nat} {N : Nat} {lv : am_LV} (h : am_H) (o : am_O) (hs : fg_441_24 N h = some o) : am_W X (d + 4) 441 24 lv [] h (fun q => q = o) := by
  unfold fg_441_24 at hs
  refine aw_iconst (v := 0) (pc1 := 25) at_441_24 (by decide) rfl ?_
  cases hs
  exact aw_iret at_441_25 (by rw [rt_441]; decide) rfl
def fg_441_0 (N : Nat) (x0 : Value) (x1 : Int32) (x2 : Int32) (h : am_H) : Option am_O := am_cI false (fm_327 ((Int32.toInt64 x2)) ((-99)) 99 h) (fun v1 h2 => (if v1 = 0 then (fg_441_24 N h2) else ((am_vR (am_pG 3094 x0 h2)).bind fun v5 => ((am_pA 0 v5 x1 h2).bind fun v7 => (if ¬ x2 = v7 then (if am_pOk 12 x0 h2 then am_cV true (fm_442 N x0 h2) (fun h12 => ((am_vR (am_pG 3089 x0 h12)).bind fun v14 => ((am_pS 0 v14 x1 x2 h12).bind fun h16 => (if am_pOk 12 x0 h16 then am_cI true (fm_444 N x0 h16) (fun v19 h20 => (if am_rfit (some FieldType.boolean) v19 then some (.inl (some (.int v19), h20)) else none)) else none)))) else none) else (fg_441_24 N h2))))))
theorem rg_441_0 {X : am_X} {d : Nat} {N : Nat} {lv : am_LV} (x0 : Value) (x1 : Int32) (x2 : Int32) (h : am_H) (o : am_O) (l0 : lv.lookup 0 = some x0) (l1 : lv.lookup 1 = some (.int x1)) (l2 : lv.lookup 2 = some (.int x2)) (i0 : am_isR x0 = true) (hs : fg_441_0 N x0 x1 x2 h = some o) : am_W X (d + 4) 441 0 lv [] h (fun q => q = o) := by
  unfold fg_441_0 at hs
  refine aw_iload_n (pc1 := 1) at_441_0 l2 rfl ?_
  refine aw_i2l (v := (Int32.toInt64 x2)) (pc1 := 2) at_441_1 rfl rfl ?_
  refine aw_ldc2 (v := (-99)) (pc1 := 5) at_441_2 rfl rfl ?_
  refine aw_ldc2 (v := 99) (pc1 := 8) at_441_5 rfl rfl ?_
  refine aw_call (F := fm_327 ((Int32.toInt64 x2)) ((-99)) 99 h) (t := false) (na := 3) (kd := 0) (as := [(.long (Int32.toInt64 x2)), (.long (-99)), (.long 99)]) at_441_8 (am_k3s kb_327) mn_327 mk_327 rfl rfl (am_ok_s mi_327 (am_hl rfl (am_ccL (am_ccL (am_ccL am_cats_0))) rfl)) (am_hc am_cats_0 rfl) (fun hz9 => by cases hz9) (fun o1 hz9 => rm_327 ((Int32.toInt64 x2)) ((-99)) 99 h o1  hz9) ?_
  rcases am_cI_s hs with ⟨v1, h2, f3, hs1⟩ | hs1
  · clear hs
    refine Or.inl ⟨_, _, f3, ?_⟩
    show am_W X _ 441 11 _ [(.int v1)] h2 _
    by_cases c4 : v1 = 0
    · rw [if_pos c4] at hs1
      refine aw_ifeq_t at_441_11 c4 ?_
      exact rg_441_24 h2 o   hs1
    · rw [if_neg c4] at hs1
      refine aw_ifeq_f (pc1 := 14) at_441_11 c4 rfl ?_
      refine aw_iload_n (pc1 := 15) at_441_14 l2 rfl ?_
      refine aw_vload_n (pc1 := 16) at_441_15 l0 i0 rfl ?_
      obtain ⟨v5, e6, hs2⟩ := am_bind hs1
      clear hs1
      refine aw_pG (pc1 := 19) at_441_16 (am_vR_s e6).1 rfl ?_
      refine aw_iload_n (pc1 := 20) at_441_19 l1 rfl ?_
      obtain ⟨v7, e8, hs3⟩ := am_bind hs2
      clear hs2
      refine aw_pA (pc1 := 21) at_441_20 (Or.inl ⟨rfl, rfl⟩) e8 rfl ?_
      by_cases c9 : ¬ x2 = v7
      · rw [if_pos c9] at hs3
        refine aw_icne_t at_441_21 c9 ?_
        refine aw_vload_n (pc1 := 27) at_441_26 l0 i0 rfl ?_
        obtain ⟨z10, hs4⟩ := am_ift hs3
        clear hs3
        refine aw_call (F := fm_442 N x0 h2) (t := true) (na := 1) (kd := 1) (as := [x0]) at_441_27 (am_k3v kb_442) mn_442 mk_442 rfl rfl (am_ok_v mi_442 (am_hl rfl (am_ccR i0 am_cats_0) rfl) z10) (am_hc am_cats_0 rfl) (fun _ => ⟨rfl, hh_441⟩) (fun o1 hz9 => rm_442 x0 h2 o1 i0 hz9) ?_
        rcases am_cV_s hs4 with ⟨h12, f13, hs5⟩ | hs5
        · clear hs4
          refine Or.inl ⟨_, _, f13, ?_⟩
          show am_W X _ 441 30 _ [] h12 _
          refine aw_vload_n (pc1 := 31) at_441_30 l0 i0 rfl ?_
          obtain ⟨v14, e15, hs6⟩ := am_bind hs5
          clear hs5
          refine aw_pG (pc1 := 34) at_441_31 (am_vR_s e15).1 rfl ?_
          refine aw_iload_n (pc1 := 35) at_441_34 l1 rfl ?_
          refine aw_iload_n (pc1 := 36) at_441_35 l2 rfl ?_
          obtain ⟨h16, e17, hs7⟩ := am_bind hs6
          clear hs6
          refine aw_pS (pc1 := 37) at_441_36 (Or.inl ⟨rfl, rfl⟩) e17 rfl ?_
          refine aw_vload_n (pc1 := 38) at_441_37 l0 i0 rfl ?_
          obtain ⟨z18, hs8⟩ := am_ift hs7
          clear hs7
          refine aw_call (F := fm_444 N x0 h16) (t := true) (na := 1) (kd := 1) (as := [x0]) at_441_38 (am_k3v kb_444) mn_444 mk_444 rfl rfl (am_ok_v mi_444 (am_hl rfl (am_ccR i0 am_cats_0) rfl) z18) (am_hc am_cats_0 rfl) (fun _ => ⟨rfl, hh_441⟩) (fun o1 hz9 => rm_444 x0 h16 o1 i0 hz9) ?_
          rcases am_cI_s hs8 with ⟨v19, h20, f21, hs9⟩ | hs9
          · clear hs8
            refine Or.inl ⟨_, _, f21, ?_⟩
            show am_W X _ 441 41 _ [(.int v19)] h20 _
            obtain ⟨z22, hs10⟩ := am_ift hs9
            clear hs9
            cases hs10
            exact aw_iret at_441_41 (by rw [rt_441]; exact z22) rfl
          · clear hs8
            exact Or.inr hs9
        · clear hs4
          exact Or.inr hs5
      · rw [if_neg c9] at hs3
        refine aw_icne_f (pc1 := 24) at_441_21 c9 rfl ?_
        exact rg_441_24 h2 o   hs3
  · clear hs
    exact Or.inr hs1
def fm_441 (N : Nat) (y0 : Value) (y1 : Int32) (y2 : Int32) (h : am_H) : Option am_O := fg_441_0 N y0 y1 y2 h
theorem rm_441 {X : am_X} {d : Nat} {N : Nat} (y0 : Value) (y1 : Int32) (y2 : Int32) (h : am_H) (o : am_O) (i0 : am_isR y0 = true) (hs : fm_441 N y0 y1 y2 h = some o) : am_W X (d + 4) 441 0 (am_args 0 [y0, .int y1, .int y2]) [] h (fun q => q = o) := by
  rw [am_args_R i0, am_args_I, am_args_I]
  exact rg_441_0 y0 y1 y2 h o rfl rfl rfl i0 hs
def fg_440_96 (N : Nat) (h : am_H) : Option am_O := some (.inl (none, h))
theorem rg_440_96 {X : am_X} {d : Nat} {N : Nat} {lv : am_LV} (h : am_H) (o : am_O) (hs : fg_440_96 N h = some o) : am_W X (d + 5) 440 96 lv [] h (fun q => q = o) := by
  unfold fg_440_96 at hs
  cases hs
  exact aw_vret at_440_96 rt_440 rfl
def fg_440_90 (N : Nat) (rec_2 : Value → Int32 → am_H → Option am_O) (x0 : Value) (x1 : Int32) (h : am_H) : Option am_O := (rec_2 x0 ((x1 + 1)) h)
theorem rg_440_90 {X : am_X} {d : Nat} {N : Nat} {rec_2 : Value → Int32 → am_H → Option am_O} (q_2 : ∀ (x0 : Value) (x1 : Int32) (h : am_H) (o : am_O), rec_2 x0 x1 h = some o → ∀ lv : am_LV, (lv.lookup 0 = some x0) → (lv.lookup 1 = some (.int x1)) → (am_isR x0 = true) → am_W X (d + 5) 440 2 lv [] h (fun q => q = o)) {lv : am_LV} (x0 : Value) (x1 : Int32) (h : am_H) (o : am_O) (l0 : lv.lookup 0 = some x0) (l1 : lv.lookup 1 = some (.int x1)) (i0 : am_isR x0 = true) (hs : fg_440_90 N rec_2 x0 x1 h = some o) : am_W X (d + 5) 440 90 lv [] h (fun q => q = o) := by
  unfold fg_440_90 at hs
  refine aw_iinc (v := (x1 + 1)) (c := 1) (lv1 := am_put1 _ 1 _) (pc1 := 93) at_440_90 l1 (by decide) rfl rfl rfl ?_
  refine aw_goto at_440_93 ?_
  exact q_2 x0 ((x1 + 1)) h o hs _ (am_lk1 l0 rfl (by rw [am_isRc i0]; rfl)) am_lk0 i0
def fg_440_2 (N : Nat) : Nat → Value → Int32 → am_H → Option am_O
  | 0 => fun _ _ _ => none
  | K + 1 => fun x0 x1 h => ((am_vI (am_pG 3090 x0 h)).bind fun v1 => (if v1 ≤ x1 then (fg_440_96 N h) else ((am_vI (am_pG 3167 x0 h)).bind fun v4 => (if ¬ v4 = 0 then (fg_440_96 N h) else ((am_vR (am_pG 3094 x0 h)).bind fun v7 => ((am_pA 0 v7 x1 h).bind fun v9 => ((am_vR (am_pG 3093 x0 h)).bind fun v11 => ((am_pA 0 v11 x1 h).bind fun v13 => (if ¬ v13 = 0 then (fg_440_90 N (fg_440_2 N K) x0 x1 h) else (if am_pOk 12 x0 h then am_cI true (fm_441 N x0 x1 ((v9 + 1)) h) (fun v17 h18 => (if ¬ v17 = 0 then (fg_440_90 N (fg_440_2 N K) x0 x1 h18) else (if am_pOk 12 x0 h18 then am_cI true (fm_441 N x0 x1 ((v9 - 1)) h18) (fun v22 h23 => (if ¬ v22 = 0 then (fg_440_90 N (fg_440_2 N K) x0 x1 h23) else (if am_pOk 12 x0 h23 then am_cI true (fm_441 N x0 x1 ((v9 + 10)) h23) (fun v27 h28 => (if ¬ v27 = 0 then (fg_440_90 N (fg_440_2 N K) x0 x1 h28) else (if am_pOk 12 x0 h28 then am_cI true (fm_441 N x0 x1 ((v9 - 10)) h28) (fun v32 h33 => (if ¬ v32 = 0 then (fg_440_90 N (fg_440_2 N K) x0 x1 h33) else (if am_pOk 12 x0 h33 then am_cI true (fm_441 N x0 x1 ((-v9)) h33) (fun v37 h38 => ((am_pP 3167 x0 (.int v37) h38).bind fun h40 => (fg_440_90 N (fg_440_2 N K) x0 x1 h40))) else none))) else none))) else none))) else none))) else none))))))))))
theorem rg_440_2 {X : am_X} {d : Nat} {N : Nat} : ∀ (K : Nat) (x0 : Value) (x1 : Int32) (h : am_H) (o : am_O), fg_440_2 N K x0 x1 h = some o → ∀ lv : am_LV, (lv.lookup 0 = some x0) → (lv.lookup 1 = some (.int x1)) → (am_isR x0 = true) → am_W X (d + 5) 440 2 lv [] h (fun q => q = o) := by
  intro K
  induction K with
  | zero => intro x0 x1 h o hs; cases hs
  | succ K ih =>
    intro x0 x1 h o hs lv l0 l1 i0
    unfold fg_440_2 at hs
    refine aw_iload_n (pc1 := 3) at_440_2 l1 rfl ?_
    refine aw_vload_n (pc1 := 4) at_440_3 l0 i0 rfl ?_
    obtain ⟨v1, e2, hs1⟩ := am_bind hs
    clear hs
    refine aw_pG (pc1 := 7) at_440_4 (am_vI_s e2) rfl ?_
    by_cases c3 : v1 ≤ x1
    · rw [if_pos c3] at hs1
      refine aw_icge_t at_440_7 c3 ?_
      exact rg_440_96 h o   hs1
    · rw [if_neg c3] at hs1
      refine aw_icge_f (pc1 := 10) at_440_7 c3 rfl ?_
      refine aw_vload_n (pc1 := 11) at_440_10 l0 i0 rfl ?_
      obtain ⟨v4, e5, hs2⟩ := am_bind hs1
      clear hs1
      refine aw_pG (pc1 := 14) at_440_11 (am_vI_s e5) rfl ?_
      by_cases c6 : ¬ v4 = 0
      · rw [if_pos c6] at hs2
        refine aw_ifne_t at_440_14 c6 ?_
        exact rg_440_96 h o   hs2
      · rw [if_neg c6] at hs2
        refine aw_ifne_f (pc1 := 17) at_440_14 c6 rfl ?_
        refine aw_vload_n (pc1 := 18) at_440_17 l0 i0 rfl ?_
        obtain ⟨v7, e8, hs3⟩ := am_bind hs2
        clear hs2
        refine aw_pG (pc1 := 21) at_440_18 (am_vR_s e8).1 rfl ?_
        refine aw_iload_n (pc1 := 22) at_440_21 l1 rfl ?_
        obtain ⟨v9, e10, hs4⟩ := am_bind hs3
        clear hs3
        refine aw_pA (pc1 := 23) at_440_22 (Or.inl ⟨rfl, rfl⟩) e10 rfl ?_
        refine aw_istore_n (lv1 := am_put1 _ 2 _) (pc1 := 24) at_440_23 rfl rfl ?_
        refine aw_vload_n (pc1 := 25) at_440_24 (am_lk1 l0 rfl rfl) i0 rfl ?_
        obtain ⟨v11, e12, hs5⟩ := am_bind hs4
        clear hs4
        refine aw_pG (pc1 := 28) at_440_25 (am_vR_s e12).1 rfl ?_
        refine aw_iload_n (pc1 := 29) at_440_28 (am_lk1 l1 rfl rfl) rfl ?_
        obtain ⟨v13, e14, hs6⟩ := am_bind hs5
        clear hs5
        refine aw_pA (pc1 := 30) at_440_29 (Or.inl ⟨rfl, rfl⟩) e14 rfl ?_
        by_cases c15 : ¬ v13 = 0
        · rw [if_pos c15] at hs6
          refine aw_ifne_t at_440_30 c15 ?_
          exact rg_440_90 (fun z0 z1 h o hs6 => ih z0 z1 h o hs6) x0 x1 h o (am_lk1 l0 rfl rfl) (am_lk1 l1 rfl rfl) i0 hs6
        · rw [if_neg c15] at hs6
          refine aw_ifne_f (pc1 := 33) at_440_30 c15 rfl ?_
          refine aw_vload_n (pc1 := 34) at_440_33 (am_lk1 l0 rfl rfl) i0 rfl ?_
          refine aw_iload_n (pc1 := 35) at_440_34 (am_lk1 l1 rfl rfl) rfl ?_
          refine aw_iload_n (pc1 := 36) at_440_35 am_lk0 rfl ?_
          refine aw_iconst (v := 1) (pc1 := 37) at_440_36 (by decide) rfl ?_
          refine aw_iadd (v := (v9 + 1)) (pc1 := 38) at_440_37 rfl rfl ?_
          obtain ⟨z16, hs7⟩ := am_ift hs6
          clear hs6
          refine aw_call (F := fm_441 N x0 x1 ((v9 + 1)) h) (t := true) (na := 3) (kd := 1) (as := [x0, (.int x1), (.int (v9 + 1))]) at_440_38 (am_k3v kb_441) mn_441 mk_441 rfl rfl (am_ok_v mi_441 (am_hl rfl (am_ccR i0 (am_ccI (am_ccI am_cats_0))) rfl) z16) (am_hc am_cats_0 rfl) (fun _ => ⟨rfl, hh_440⟩) (fun o1 hz9 => rm_441 x0 x1 ((v9 + 1)) h o1 i0 hz9) ?_
          rcases am_cI_s hs7 with ⟨v17, h18, f19, hs8⟩ | hs8
          · clear hs7
            refine Or.inl ⟨_, _, f19, ?_⟩
            show am_W X _ 440 41 _ [(.int v17)] h18 _
            by_cases c20 : ¬ v17 = 0
            · rw [if_pos c20] at hs8
              refine aw_ifne_t at_440_41 c20 ?_
              exact rg_440_90 (fun z0 z1 h o hs8 => ih z0 z1 h o hs8) x0 x1 h18 o (am_lk1 l0 rfl rfl) (am_lk1 l1 rfl rfl) i0 hs8
            · rw [if_neg c20] at hs8
              refine aw_ifne_f (pc1 := 44) at_440_41 c20 rfl ?_
              refine aw_vload_n (pc1 := 45) at_440_44 (am_lk1 l0 rfl rfl) i0 rfl ?_
              refine aw_iload_n (pc1 := 46) at_440_45 (am_lk1 l1 rfl rfl) rfl ?_
              refine aw_iload_n (pc1 := 47) at_440_46 am_lk0 rfl ?_
              refine aw_iconst (v := 1) (pc1 := 48) at_440_47 (by decide) rfl ?_
              refine aw_isub (v := (v9 - 1)) (pc1 := 49) at_440_48 rfl rfl ?_
              obtain ⟨z21, hs9⟩ := am_ift hs8
              clear hs8
              refine aw_call (F := fm_441 N x0 x1 ((v9 - 1)) h18) (t := true) (na := 3) (kd := 1) (as := [x0, (.int x1), (.int (v9 - 1))]) at_440_49 (am_k3v kb_441) mn_441 mk_441 rfl rfl (am_ok_v mi_441 (am_hl rfl (am_ccR i0 (am_ccI (am_ccI am_cats_0))) rfl) z21) (am_hc am_cats_0 rfl) (fun _ => ⟨rfl, hh_440⟩) (fun o1 hz9 => rm_441 x0 x1 ((v9 - 1)) h18 o1 i0 hz9) ?_
              rcases am_cI_s hs9 with ⟨v22, h23, f24, hs10⟩ | hs10
              · clear hs9
                refine Or.inl ⟨_, _, f24, ?_⟩
                show am_W X _ 440 52 _ [(.int v22)] h23 _
                by_cases c25 : ¬ v22 = 0
                · rw [if_pos c25] at hs10
                  refine aw_ifne_t at_440_52 c25 ?_
                  exact rg_440_90 (fun z0 z1 h o hs10 => ih z0 z1 h o hs10) x0 x1 h23 o (am_lk1 l0 rfl rfl) (am_lk1 l1 rfl rfl) i0 hs10
                · rw [if_neg c25] at hs10
                  refine aw_ifne_f (pc1 := 55) at_440_52 c25 rfl ?_
                  refine aw_vload_n (pc1 := 56) at_440_55 (am_lk1 l0 rfl rfl) i0 rfl ?_
                  refine aw_iload_n (pc1 := 57) at_440_56 (am_lk1 l1 rfl rfl) rfl ?_
                  refine aw_iload_n (pc1 := 58) at_440_57 am_lk0 rfl ?_
                  refine aw_bipush (v := 10) (pc1 := 60) at_440_58 (by decide) rfl ?_
                  refine aw_iadd (v := (v9 + 10)) (pc1 := 61) at_440_60 rfl rfl ?_
                  obtain ⟨z26, hs11⟩ := am_ift hs10
                  clear hs10
                  refine aw_call (F := fm_441 N x0 x1 ((v9 + 10)) h23) (t := true) (na := 3) (kd := 1) (as := [x0, (.int x1), (.int (v9 + 10))]) at_440_61 (am_k3v kb_441) mn_441 mk_441 rfl rfl (am_ok_v mi_441 (am_hl rfl (am_ccR i0 (am_ccI (am_ccI am_cats_0))) rfl) z26) (am_hc am_cats_0 rfl) (fun _ => ⟨rfl, hh_440⟩) (fun o1 hz9 => rm_441 x0 x1 ((v9 + 10)) h23 o1 i0 hz9) ?_
                  rcases am_cI_s hs11 with ⟨v27, h28, f29, hs12⟩ | hs12
                  · clear hs11
                    refine Or.inl ⟨_, _, f29, ?_⟩
                    show am_W X _ 440 64 _ [(.int v27)] h28 _
                    by_cases c30 : ¬ v27 = 0
                    · rw [if_pos c30] at hs12
                      refine aw_ifne_t at_440_64 c30 ?_
                      exact rg_440_90 (fun z0 z1 h o hs12 => ih z0 z1 h o hs12) x0 x1 h28 o (am_lk1 l0 rfl rfl) (am_lk1 l1 rfl rfl) i0 hs12
                    · rw [if_neg c30] at hs12
                      refine aw_ifne_f (pc1 := 67) at_440_64 c30 rfl ?_
                      refine aw_vload_n (pc1 := 68) at_440_67 (am_lk1 l0 rfl rfl) i0 rfl ?_
                      refine aw_iload_n (pc1 := 69) at_440_68 (am_lk1 l1 rfl rfl) rfl ?_
                      refine aw_iload_n (pc1 := 70) at_440_69 am_lk0 rfl ?_
                      refine aw_bipush (v := 10) (pc1 := 72) at_440_70 (by decide) rfl ?_
                      refine aw_isub (v := (v9 - 10)) (pc1 := 73) at_440_72 rfl rfl ?_
                      obtain ⟨z31, hs13⟩ := am_ift hs12
                      clear hs12
                      refine aw_call (F := fm_441 N x0 x1 ((v9 - 10)) h28) (t := true) (na := 3) (kd := 1) (as := [x0, (.int x1), (.int (v9 - 10))]) at_440_73 (am_k3v kb_441) mn_441 mk_441 rfl rfl (am_ok_v mi_441 (am_hl rfl (am_ccR i0 (am_ccI (am_ccI am_cats_0))) rfl) z31) (am_hc am_cats_0 rfl) (fun _ => ⟨rfl, hh_440⟩) (fun o1 hz9 => rm_441 x0 x1 ((v9 - 10)) h28 o1 i0 hz9) ?_
                      rcases am_cI_s hs13 with ⟨v32, h33, f34, hs14⟩ | hs14
                      · clear hs13
                        refine Or.inl ⟨_, _, f34, ?_⟩
                        show am_W X _ 440 76 _ [(.int v32)] h33 _
                        by_cases c35 : ¬ v32 = 0
                        · rw [if_pos c35] at hs14
                          refine aw_ifne_t at_440_76 c35 ?_
                          exact rg_440_90 (fun z0 z1 h o hs14 => ih z0 z1 h o hs14) x0 x1 h33 o (am_lk1 l0 rfl rfl) (am_lk1 l1 rfl rfl) i0 hs14
                        · rw [if_neg c35] at hs14
                          refine aw_ifne_f (pc1 := 79) at_440_76 c35 rfl ?_
                          refine aw_vload_n (pc1 := 80) at_440_79 (am_lk1 l0 rfl rfl) i0 rfl ?_
                          refine aw_vload_n (pc1 := 81) at_440_80 (am_lk1 l0 rfl rfl) i0 rfl ?_
                          refine aw_iload_n (pc1 := 82) at_440_81 (am_lk1 l1 rfl rfl) rfl ?_
                          refine aw_iload_n (pc1 := 83) at_440_82 am_lk0 rfl ?_
                          refine aw_ineg (v := (-v9)) (pc1 := 84) at_440_83 rfl rfl ?_
                          obtain ⟨z36, hs15⟩ := am_ift hs14
                          clear hs14
                          refine aw_call (F := fm_441 N x0 x1 ((-v9)) h33) (t := true) (na := 3) (kd := 1) (as := [x0, (.int x1), (.int (-v9))]) at_440_84 (am_k3v kb_441) mn_441 mk_441 rfl rfl (am_ok_v mi_441 (am_hl rfl (am_ccR i0 (am_ccI (am_ccI am_cats_0))) rfl) z36) (am_hc (am_ccR i0 am_cats_0) rfl) (fun _ => ⟨rfl, hh_440⟩) (fun o1 hz9 => rm_441 x0 x1 ((-v9)) h33 o1 i0 hz9) ?_
                          rcases am_cI_s hs15 with ⟨v37, h38, f39, hs16⟩ | hs16
                          · clear hs15
                            refine Or.inl ⟨_, _, f39, ?_⟩
                            show am_W X _ 440 87 _ [(.int v37), x0] h38 _
                            obtain ⟨h40, e41, hs17⟩ := am_bind hs16
                            clear hs16
                            refine aw_pP (pc1 := 90) at_440_87 e41 rfl ?_
                            exact rg_440_90 (fun z0 z1 h o hs17 => ih z0 z1 h o hs17) x0 x1 h40 o (am_lk1 l0 rfl rfl) (am_lk1 l1 rfl rfl) i0 hs17
                          · clear hs15
                            exact Or.inr hs16
                      · clear hs13
                        exact Or.inr hs14
                  · clear hs11
                    exact Or.inr hs12
              · clear hs9
                exact Or.inr hs10
          · clear hs7
            exact Or.inr hs8
def fg_440_0 (N : Nat) (x0 : Value) (h : am_H) : Option am_O := (fg_440_2 N N x0 0 h)
theorem rg_440_0 {X : am_X} {d : Nat} {N : Nat} {lv : am_LV} (x0 : Value) (h : am_H) (o : am_O) (l0 : lv.lookup 0 = some x0) (i0 : am_isR x0 = true) (hs : fg_440_0 N x0 h = some o) : am_W X (d + 5) 440 0 lv [] h (fun q => q = o) := by
  unfold fg_440_0 at hs
  refine aw_iconst (v := 0) (pc1 := 1) at_440_0 (by decide) rfl ?_
  refine aw_istore_n (lv1 := am_put1 _ 1 _) (pc1 := 2) at_440_1 rfl rfl ?_
  exact rg_440_2 N x0 0 h o hs _ (am_lk1 l0 rfl (by rw [am_isRc i0]; rfl)) am_lk0 i0
def fm_440 (N : Nat) (y0 : Value) (h : am_H) : Option am_O := fg_440_0 N y0 h
theorem rm_440 {X : am_X} {d : Nat} {N : Nat} (y0 : Value) (h : am_H) (o : am_O) (i0 : am_isR y0 = true) (hs : fm_440 N y0 h = some o) : am_W X (d + 5) 440 0 (am_args 0 [y0]) [] h (fun q => q = o) := by
  rw [am_args_R i0]
  exact rg_440_0 y0 h o rfl i0 hs
def fg_448_60 (N : Nat) (rec_30 : Int32 → Int32 → Int32 → Int32 → am_H → Option am_O) (x0 : Int32) (x1 : Int32) (x3 : Int32) (s0 : Int32) (h : am_H) : Option am_O := (rec_30 x0 x1 s0 ((x3 + 1)) h)
theorem rg_448_60 {X : am_X} {d : Nat} {N : Nat} {rec_30 : Int32 → Int32 → Int32 → Int32 → am_H → Option am_O} (q_30 : ∀ (x0 : Int32) (x1 : Int32) (x2 : Int32) (x3 : Int32) (h : am_H) (o : am_O), rec_30 x0 x1 x2 x3 h = some o → ∀ lv : am_LV, (lv.lookup 0 = some (.int x0)) → (lv.lookup 1 = some (.int x1)) → (lv.lookup 2 = some (.int x2)) → (lv.lookup 3 = some (.int x3)) → am_W X (d + 1) 448 30 lv [] h (fun q => q = o)) {lv : am_LV} (x0 : Int32) (x1 : Int32) (x3 : Int32) (s0 : Int32) (h : am_H) (o : am_O) (l0 : lv.lookup 0 = some (.int x0)) (l1 : lv.lookup 1 = some (.int x1)) (l3 : lv.lookup 3 = some (.int x3)) (hs : fg_448_60 N rec_30 x0 x1 x3 s0 h = some o) : am_W X (d + 1) 448 60 lv [(.int s0)] h (fun q => q = o) := by
  unfold fg_448_60 at hs
  refine aw_istore_n (lv1 := am_put1 _ 2 _) (pc1 := 61) at_448_60 rfl rfl ?_
  refine aw_iinc (v := (x3 + 1)) (c := 1) (lv1 := am_put1 _ 3 _) (pc1 := 64) at_448_61 (am_lk1 l3 rfl rfl) (by decide) rfl rfl rfl ?_
  refine aw_goto at_448_64 ?_
  exact q_30 x0 x1 s0 ((x3 + 1)) h o hs _ (am_lk1 (am_lk1 l0 rfl rfl) rfl rfl) (am_lk1 (am_lk1 l1 rfl rfl) rfl rfl) (am_lk1 am_lk0 rfl rfl) am_lk0 
def fg_448_59 (N : Nat) (rec_30 : Int32 → Int32 → Int32 → Int32 → am_H → Option am_O) (x0 : Int32) (x1 : Int32) (x3 : Int32) (h : am_H) : Option am_O := (fg_448_60 N rec_30 x0 x1 x3 0 h)
theorem rg_448_59 {X : am_X} {d : Nat} {N : Nat} {rec_30 : Int32 → Int32 → Int32 → Int32 → am_H → Option am_O} (q_30 : ∀ (x0 : Int32) (x1 : Int32) (x2 : Int32) (x3 : Int32) (h : am_H) (o : am_O), rec_30 x0 x1 x2 x3 h = some o → ∀ lv : am_LV, (lv.lookup 0 = some (.int x0)) → (lv.lookup 1 = some (.int x1)) → (lv.lookup 2 = some (.int x2)) → (lv.lookup 3 = some (.int x3)) → am_W X (d + 1) 448 30 lv [] h (fun q => q = o)) {lv : am_LV} (x0 : Int32) (x1 : Int32) (x3 : Int32) (h : am_H) (o : am_O) (l0 : lv.lookup 0 = some (.int x0)) (l1 : lv.lookup 1 = some (.int x1)) (l3 : lv.lookup 3 = some (.int x3)) (hs : fg_448_59 N rec_30 x0 x1 x3 h = some o) : am_W X (d + 1) 448 59 lv [] h (fun q => q = o) := by
  unfold fg_448_59 at hs
  refine aw_iconst (v := 0) (pc1 := 60) at_448_59 (by decide) rfl ?_
  exact rg_448_60 q_30 x0 x1 x3 0 h o l0 l1 l3  hs
def fg_448_30 (N : Nat) : Nat → Int32 → Int32 → Int32 → Int32 → am_H → Option am_O
  | 0 => fun _ _ _ _ _ => none
  | K + 1 => fun x0 x1 x2 x3 h => am_cI false (fm_343 x0 h) (fun v1 h2 => (if v1 ≤ x3 then (if am_rfit (some FieldType.boolean) x2 then some (.inl (some (.int x2), h2)) else none) else (if x2 = 0 then (fg_448_59 N (fg_448_30 N K) x0 x1 x3 h2) else am_cI false (fm_330 x0 x3 h2) (fun v7 h8 => am_cI false (fm_330 x1 x3 h8) (fun v10 h11 => (if ¬ v7 = v10 then (fg_448_59 N (fg_448_30 N K) x0 x1 x3 h11) else (fg_448_60 N (fg_448_30 N K) x0 x1 x3 1 h11)))))))
theorem rg_448_30 {X : am_X} {d : Nat} {N : Nat} : ∀ (K : Nat) (x0 : Int32) (x1 : Int32) (x2 : Int32) (x3 : Int32) (h : am_H) (o : am_O), fg_448_30 N K x0 x1 x2 x3 h = some o → ∀ lv : am_LV, (lv.lookup 0 = some (.int x0)) → (lv.lookup 1 = some (.int x1)) → (lv.lookup 2 = some (.int x2)) → (lv.lookup 3 = some (.int x3)) → am_W X (d + 1) 448 30 lv [] h (fun q => q = o) := by
  intro K
  induction K with
  | zero => intro x0 x1 x2 x3 h o hs; cases hs
  | succ K ih =>
    intro x0 x1 x2 x3 h o hs lv l0 l1 l2 l3
    unfold fg_448_30 at hs
    refine aw_iload_n (pc1 := 31) at_448_30 l3 rfl ?_
    refine aw_iload_n (pc1 := 32) at_448_31 l0 rfl ?_
    refine aw_call (F := fm_343 x0 h) (t := false) (na := 1) (kd := 0) (as := [(.int x0)]) at_448_32 (am_k3s kb_343) mn_343 mk_343 rfl rfl (am_ok_s mi_343 (am_hl rfl (am_ccI am_cats_0) rfl)) (am_hc (am_ccI am_cats_0) rfl) (fun hz9 => by cases hz9) (fun o1 hz9 => rm_343 x0 h o1  hz9) ?_
    rcases am_cI_s hs with ⟨v1, h2, f3, hs1⟩ | hs1
    · clear hs
      refine Or.inl ⟨_, _, f3, ?_⟩
      show am_W X _ 448 35 _ [(.int v1), (.int x3)] h2 _
      by_cases c4 : v1 ≤ x3
      · rw [if_pos c4] at hs1
        refine aw_icge_t at_448_35 c4 ?_
        refine aw_iload_n (pc1 := 68) at_448_67 l2 rfl ?_
        obtain ⟨z5, hs2⟩ := am_ift hs1
        clear hs1
        cases hs2
        exact aw_iret at_448_68 (by rw [rt_448]; exact z5) rfl
      · rw [if_neg c4] at hs1
        refine aw_icge_f (pc1 := 38) at_448_35 c4 rfl ?_
        refine aw_iload_n (pc1 := 39) at_448_38 l2 rfl ?_
        by_cases c6 : x2 = 0
        · rw [if_pos c6] at hs1
          refine aw_ifeq_t at_448_39 c6 ?_
          exact rg_448_59 (fun z0 z1 z2 z3 h o hs1 => ih z0 z1 z2 z3 h o hs1) x0 x1 x3 h2 o l0 l1 l3  hs1
        · rw [if_neg c6] at hs1
          refine aw_ifeq_f (pc1 := 42) at_448_39 c6 rfl ?_
          refine aw_iload_n (pc1 := 43) at_448_42 l0 rfl ?_
          refine aw_iload_n (pc1 := 44) at_448_43 l3 rfl ?_
          refine aw_call (F := fm_330 x0 x3 h2) (t := false) (na := 2) (kd := 0) (as := [(.int x0), (.int x3)]) at_448_44 (am_k3s kb_330) mn_330 mk_330 rfl rfl (am_ok_s mi_330 (am_hl rfl (am_ccI (am_ccI am_cats_0)) rfl)) (am_hc am_cats_0 rfl) (fun hz9 => by cases hz9) (fun o1 hz9 => rm_330 x0 x3 h2 o1  hz9) ?_
          rcases am_cI_s hs1 with ⟨v7, h8, f9, hs3⟩ | hs3
          · clear hs1
            refine Or.inl ⟨_, _, f9, ?_⟩
            show am_W X _ 448 47 _ [(.int v7)] h8 _
            refine aw_iload_n (pc1 := 48) at_448_47 l1 rfl ?_
            refine aw_iload_n (pc1 := 49) at_448_48 l3 rfl ?_
            refine aw_call (F := fm_330 x1 x3 h8) (t := false) (na := 2) (kd := 0) (as := [(.int x1), (.int x3)]) at_448_49 (am_k3s kb_330) mn_330 mk_330 rfl rfl (am_ok_s mi_330 (am_hl rfl (am_ccI (am_ccI am_cats_0)) rfl)) (am_hc (am_ccI am_cats_0) rfl) (fun hz9 => by cases hz9) (fun o1 hz9 => rm_330 x1 x3 h8 o1  hz9) ?_
            rcases am_cI_s hs3 with ⟨v10, h11, f12, hs4⟩ | hs4
            · clear hs3
              refine Or.inl ⟨_, _, f12, ?_⟩
              show am_W X _ 448 52 _ [(.int v10), (.int v7)] h11 _
              by_cases c13 : ¬ v7 = v10
              · rw [if_pos c13] at hs4
                refine aw_icne_t at_448_52 c13 ?_
                exact rg_448_59 (fun z0 z1 z2 z3 h o hs4 => ih z0 z1 z2 z3 h o hs4) x0 x1 x3 h11 o l0 l1 l3  hs4
              · rw [if_neg c13] at hs4
                refine aw_icne_f (pc1 := 55) at_448_52 c13 rfl ?_
                refine aw_iconst (v := 1) (pc1 := 56) at_448_55 (by decide) rfl ?_
                refine aw_goto at_448_56 ?_
                exact rg_448_60 (fun z0 z1 z2 z3 h o hs4 => ih z0 z1 z2 z3 h o hs4) x0 x1 x3 1 h11 o l0 l1 l3  hs4
            · clear hs3
              exact Or.inr hs4
          · clear hs1
            exact Or.inr hs3
    · clear hs
      exact Or.inr hs1
def fg_448_27 (N : Nat) (x0 : Int32) (x1 : Int32) (s0 : Int32) (h : am_H) : Option am_O := (fg_448_30 N N x0 x1 s0 0 h)
theorem rg_448_27 {X : am_X} {d : Nat} {N : Nat} {lv : am_LV} (x0 : Int32) (x1 : Int32) (s0 : Int32) (h : am_H) (o : am_O) (l0 : lv.lookup 0 = some (.int x0)) (l1 : lv.lookup 1 = some (.int x1)) (hs : fg_448_27 N x0 x1 s0 h = some o) : am_W X (d + 1) 448 27 lv [(.int s0)] h (fun q => q = o) := by
  unfold fg_448_27 at hs
  refine aw_istore_n (lv1 := am_put1 _ 2 _) (pc1 := 28) at_448_27 rfl rfl ?_
  refine aw_iconst (v := 0) (pc1 := 29) at_448_28 (by decide) rfl ?_
  refine aw_istore_n (lv1 := am_put1 _ 3 _) (pc1 := 30) at_448_29 rfl rfl ?_
  exact rg_448_30 N x0 x1 s0 0 h o hs _ (am_lk1 (am_lk1 l0 rfl rfl) rfl rfl) (am_lk1 (am_lk1 l1 rfl rfl) rfl rfl) (am_lk1 am_lk0 rfl rfl) am_lk0 
def fg_448_26 (N : Nat) (x0 : Int32) (x1 : Int32) (h : am_H) : Option am_O := (fg_448_27 N x0 x1 0 h)
theorem rg_448_26 {X : am_X} {d : Nat} {N : Nat} {lv : am_LV} (x0 : Int32) (x1 : Int32) (h : am_H) (o : am_O) (l0 : lv.lookup 0 = some (.int x0)) (l1 : lv.lookup 1 = some (.int x1)) (hs : fg_448_26 N x0 x1 h = some o) : am_W X (d + 1) 448 26 lv [] h (fun q => q = o) := by
  unfold fg_448_26 at hs
  refine aw_iconst (v := 0) (pc1 := 27) at_448_26 (by decide) rfl ?_
  exact rg_448_27 x0 x1 0 h o l0 l1  hs
def fg_448_0 (N : Nat) (x0 : Int32) (x1 : Int32) (h : am_H) : Option am_O := am_cI false (fm_343 x0 h) (fun v1 h2 => am_cI false (fm_343 x1 h2) (fun v4 h5 => (if ¬ v1 = v4 then (fg_448_26 N x0 x1 h5) else am_cI false (fm_334 x0 h5) (fun v8 h9 => am_cI false (fm_334 x1 h9) (fun v11 h12 => (if ¬ v8 = v11 then (fg_448_26 N x0 x1 h12) else (fg_448_27 N x0 x1 1 h12)))))))
theorem rg_448_0 {X : am_X} {d : Nat} {N : Nat} {lv : am_LV} (x0 : Int32) (x1 : Int32) (h : am_H) (o : am_O) (l0 : lv.lookup 0 = some (.int x0)) (l1 : lv.lookup 1 = some (.int x1)) (hs : fg_448_0 N x0 x1 h = some o) : am_W X (d + 1) 448 0 lv [] h (fun q => q = o) := by
  unfold fg_448_0 at hs
  refine aw_iload_n (pc1 := 1) at_448_0 l0 rfl ?_
  refine aw_call (F := fm_343 x0 h) (t := false) (na := 1) (kd := 0) (as := [(.int x0)]) at_448_1 (am_k3s kb_343) mn_343 mk_343 rfl rfl (am_ok_s mi_343 (am_hl rfl (am_ccI am_cats_0) rfl)) (am_hc am_cats_0 rfl) (fun hz9 => by cases hz9) (fun o1 hz9 => rm_343 x0 h o1  hz9) ?_
  rcases am_cI_s hs with ⟨v1, h2, f3, hs1⟩ | hs1
  · clear hs
    refine Or.inl ⟨_, _, f3, ?_⟩
    show am_W X _ 448 4 _ [(.int v1)] h2 _
    refine aw_iload_n (pc1 := 5) at_448_4 l1 rfl ?_
    refine aw_call (F := fm_343 x1 h2) (t := false) (na := 1) (kd := 0) (as := [(.int x1)]) at_448_5 (am_k3s kb_343) mn_343 mk_343 rfl rfl (am_ok_s mi_343 (am_hl rfl (am_ccI am_cats_0) rfl)) (am_hc (am_ccI am_cats_0) rfl) (fun hz9 => by cases hz9) (fun o1 hz9 => rm_343 x1 h2 o1  hz9) ?_
    rcases am_cI_s hs1 with ⟨v4, h5, f6, hs2⟩ | hs2
    · clear hs1
      refine Or.inl ⟨_, _, f6, ?_⟩
      show am_W X _ 448 8 _ [(.int v4), (.int v1)] h5 _
      by_cases c7 : ¬ v1 = v4
      · rw [if_pos c7] at hs2
        refine aw_icne_t at_448_8 c7 ?_
        exact rg_448_26 x0 x1 h5 o l0 l1  hs2
      · rw [if_neg c7] at hs2
        refine aw_icne_f (pc1 := 11) at_448_8 c7 rfl ?_
        refine aw_iload_n (pc1 := 12) at_448_11 l0 rfl ?_
        refine aw_call (F := fm_334 x0 h5) (t := false) (na := 1) (kd := 0) (as := [(.int x0)]) at_448_12 (am_k3s kb_334) mn_334 mk_334 rfl rfl (am_ok_s mi_334 (am_hl rfl (am_ccI am_cats_0) rfl)) (am_hc am_cats_0 rfl) (fun hz9 => by cases hz9) (fun o1 hz9 => rm_334 x0 h5 o1  hz9) ?_
        rcases am_cI_s hs2 with ⟨v8, h9, f10, hs3⟩ | hs3
        · clear hs2
          refine Or.inl ⟨_, _, f10, ?_⟩
          show am_W X _ 448 15 _ [(.int v8)] h9 _
          refine aw_iload_n (pc1 := 16) at_448_15 l1 rfl ?_
          refine aw_call (F := fm_334 x1 h9) (t := false) (na := 1) (kd := 0) (as := [(.int x1)]) at_448_16 (am_k3s kb_334) mn_334 mk_334 rfl rfl (am_ok_s mi_334 (am_hl rfl (am_ccI am_cats_0) rfl)) (am_hc (am_ccI am_cats_0) rfl) (fun hz9 => by cases hz9) (fun o1 hz9 => rm_334 x1 h9 o1  hz9) ?_
          rcases am_cI_s hs3 with ⟨v11, h12, f13, hs4⟩ | hs4
          · clear hs3
            refine Or.inl ⟨_, _, f13, ?_⟩
            show am_W X _ 448 19 _ [(.int v11), (.int v8)] h12 _
            by_cases c14 : ¬ v8 = v11
            · rw [if_pos c14] at hs4
              refine aw_icne_t at_448_19 c14 ?_
              exact rg_448_26 x0 x1 h12 o l0 l1  hs4
            · rw [if_neg c14] at hs4
              refine aw_icne_f (pc1 := 22) at_448_19 c14 rfl ?_
              refine aw_iconst (v := 1) (pc1 := 23) at_448_22 (by decide) rfl ?_
              refine aw_goto at_448_23 ?_
              exact rg_448_27 x0 x1 1 h12 o l0 l1  hs4
          · clear hs3
            exact Or.inr hs4
        · clear hs2
          exact Or.inr hs3
    · clear hs1
      exact Or.inr hs2
  · clear hs
    exact Or.inr hs1
def fm_448 (N : Nat) (y0 : Int32) (y1 : Int32) (h : am_H) : Option am_O := fg_448_0 N y0 y1 h
theorem rm_448 {X : am_X} {d : Nat} {N : Nat} (y0 : Int32) (y1 : Int32) (h : am_H) (o : am_O) (hs : fm_448 N y0 y1 h = some o) : am_W X (d + 1) 448 0 (am_args 0 [.int y0, .int y1]) [] h (fun q => q = o) := by
  rw [am_args_I, am_args_I]
  exact rg_448_0 y0 y1 h o rfl rfl  hs
def fg_447_104 (N : Nat) (h : am_H) : Option am_O := some (.inl (none, h))
theorem rg_447_104 {X : am_X} {d : Nat} {N : Nat} {lv : am_LV} (h : am_H) (o : am_O) (hs : fg_447_104 N h = some o) : am_W X (d + 4) 447 104 lv [] h (fun q => q = o) := by
  unfold fg_447_104 at hs
  cases hs
  exact aw_vret at_447_104 rt_447 rfl
def fg_447_98 (N : Nat) (rec_2 : Value → Int32 → am_H → Option am_O) (x0 : Value) (x1 : Int32) (h : am_H) : Option am_O := (rec_2 x0 ((x1 + 1)) h)
theorem rg_447_98 {X : am_X} {d : Nat} {N : Nat} {rec_2 : Value → Int32 → am_H → Option am_O} (q_2 : ∀ (x0 : Value) (x1 : Int32) (h : am_H) (o : am_O), rec_2 x0 x1 h = some o → ∀ lv : am_LV, (lv.lookup 0 = some x0) → (lv.lookup 1 = some (.int x1)) → (am_isR x0 = true) → am_W X (d + 4) 447 2 lv [] h (fun q => q = o)) {lv : am_LV} (x0 : Value) (x1 : Int32) (h : am_H) (o : am_O) (l0 : lv.lookup 0 = some x0) (l1 : lv.lookup 1 = some (.int x1)) (i0 : am_isR x0 = true) (hs : fg_447_98 N rec_2 x0 x1 h = some o) : am_W X (d + 4) 447 98 lv [] h (fun q => q = o) := by
  unfold fg_447_98 at hs
  refine aw_iinc (v := (x1 + 1)) (c := 1) (lv1 := am_put1 _ 1 _) (pc1 := 101) at_447_98 l1 (by decide) rfl rfl rfl ?_
  refine aw_goto at_447_101 ?_
  exact q_2 x0 ((x1 + 1)) h o hs _ (am_lk1 l0 rfl (by rw [am_isRc i0]; rfl)) am_lk0 i0
def fg_447_92 (N : Nat) (rec_2 : Value → Int32 → am_H → Option am_O) (rec_19 : Value → Int32 → Int32 → am_H → Option am_O) (x0 : Value) (x1 : Int32) (x2 : Int32) (h : am_H) : Option am_O := (rec_19 x0 x1 ((x2 + 1)) h)
theorem rg_447_92 {X : am_X} {d : Nat} {N : Nat} {rec_2 : Value → Int32 → am_H → Option am_O} {rec_19 : Value → Int32 → Int32 → am_H → Option am_O} (q_2 : ∀ (x0 : Value) (x1 : Int32) (h : am_H) (o : am_O), rec_2 x0 x1 h = some o → ∀ lv : am_LV, (lv.lookup 0 = some x0) → (lv.lookup 1 = some (.int x1)) → (am_isR x0 = true) → am_W X (d + 4) 447 2 lv [] h (fun q => q = o)) (q_19 : ∀ (x0 : Value) (x1 : Int32) (x2 : Int32) (h : am_H) (o : am_O), rec_19 x0 x1 x2 h = some o → ∀ lv : am_LV, (lv.lookup 0 = some x0) → (lv.lookup 1 = some (.int x1)) → (lv.lookup 2 = some (.int x2)) → (am_isR x0 = true) → am_W X (d + 4) 447 19 lv [] h (fun q => q = o)) {lv : am_LV} (x0 : Value) (x1 : Int32) (x2 : Int32) (h : am_H) (o : am_O) (l0 : lv.lookup 0 = some x0) (l1 : lv.lookup 1 = some (.int x1)) (l2 : lv.lookup 2 = some (.int x2)) (i0 : am_isR x0 = true) (hs : fg_447_92 N rec_2 rec_19 x0 x1 x2 h = some o) : am_W X (d + 4) 447 92 lv [] h (fun q => q = o) := by
  unfold fg_447_92 at hs
  refine aw_iinc (v := (x2 + 1)) (c := 1) (lv1 := am_put1 _ 2 _) (pc1 := 95) at_447_92 l2 (by decide) rfl rfl rfl ?_
  refine aw_goto at_447_95 ?_
  exact q_19 x0 x1 ((x2 + 1)) h o hs _ (am_lk1 l0 rfl rfl) (am_lk1 l1 rfl rfl) am_lk0 i0
def fg_447_83 (N : Nat) (rec_2 : Value → Int32 → am_H → Option am_O) (rec_19 : Value → Int32 → Int32 → am_H → Option am_O) (x0 : Value) (x1 : Int32) (x2 : Int32) (s0 : Value) (s1 : Int32) (s2 : Int32) (h : am_H) : Option am_O := ((am_pS 0 s0 s1 s2 h).bind fun h1 => (if am_pOk 12 x0 h1 then am_cI true (fm_444 N x0 h1) (fun v4 h5 => ((am_pP 3167 x0 (.int v4) h5).bind fun h7 => (fg_447_92 N rec_2 rec_19 x0 x1 x2 h7))) else none))
theorem rg_447_83 {X : am_X} {d : Nat} {N : Nat} {rec_2 : Value → Int32 → am_H → Option am_O} {rec_19 : Value → Int32 → Int32 → am_H → Option am_O} (q_2 : ∀ (x0 : Value) (x1 : Int32) (h : am_H) (o : am_O), rec_2 x0 x1 h = some o → ∀ lv : am_LV, (lv.lookup 0 = some x0) → (lv.lookup 1 = some (.int x1)) → (am_isR x0 = true) → am_W X (d + 4) 447 2 lv [] h (fun q => q = o)) (q_19 : ∀ (x0 : Value) (x1 : Int32) (x2 : Int32) (h : am_H) (o : am_O), rec_19 x0 x1 x2 h = some o → ∀ lv : am_LV, (lv.lookup 0 = some x0) → (lv.lookup 1 = some (.int x1)) → (lv.lookup 2 = some (.int x2)) → (am_isR x0 = true) → am_W X (d + 4) 447 19 lv [] h (fun q => q = o)) {lv : am_LV} (x0 : Value) (x1 : Int32) (x2 : Int32) (s0 : Value) (s1 : Int32) (s2 : Int32) (h : am_H) (o : am_O) (l0 : lv.lookup 0 = some x0) (l1 : lv.lookup 1 = some (.int x1)) (l2 : lv.lookup 2 = some (.int x2)) (i0 : am_isR x0 = true) (j0 : am_isR s0 = true) (hs : fg_447_83 N rec_2 rec_19 x0 x1 x2 s0 s1 s2 h = some o) : am_W X (d + 4) 447 83 lv [(.int s2), (.int s1), s0] h (fun q => q = o) := by
  unfold fg_447_83 at hs
  obtain ⟨h1, e2, hs1⟩ := am_bind hs
  clear hs
  refine aw_pS (pc1 := 84) at_447_83 (Or.inl ⟨rfl, rfl⟩) e2 rfl ?_
  refine aw_vload_n (pc1 := 85) at_447_84 l0 i0 rfl ?_
  refine aw_vload_n (pc1 := 86) at_447_85 l0 i0 rfl ?_
  obtain ⟨z3, hs2⟩ := am_ift hs1
  clear hs1
  refine aw_call (F := fm_444 N x0 h1) (t := true) (na := 1) (kd := 1) (as := [x0]) at_447_86 (am_k3v kb_444) mn_444 mk_444 rfl rfl (am_ok_v mi_444 (am_hl rfl (am_ccR i0 am_cats_0) rfl) z3) (am_hc (am_ccR i0 am_cats_0) rfl) (fun _ => ⟨rfl, hh_447⟩) (fun o1 hz9 => rm_444 x0 h1 o1 i0 hz9) ?_
  rcases am_cI_s hs2 with ⟨v4, h5, f6, hs3⟩ | hs3
  · clear hs2
    refine Or.inl ⟨_, _, f6, ?_⟩
    show am_W X _ 447 89 _ [(.int v4), x0] h5 _
    obtain ⟨h7, e8, hs4⟩ := am_bind hs3
    clear hs3
    refine aw_pP (pc1 := 92) at_447_89 e8 rfl ?_
    exact rg_447_92 q_2 q_19 x0 x1 x2 h7 o l0 l1 l2 i0 hs4
  · clear hs2
    exact Or.inr hs3
def fg_447_19 (N : Nat) (rec_2 : Value → Int32 → am_H → Option am_O) : Nat → Value → Int32 → Int32 → am_H → Option am_O
  | 0 => fun _ _ _ _ => none
  | K + 1 => fun x0 x1 x2 h => (if 21 ≤ x2 then (fg_447_98 N rec_2 x0 x1 h) else ((am_vI (am_pG 3167 x0 h)).bind fun v2 => (if ¬ v2 = 0 then (fg_447_98 N rec_2 x0 x1 h) else ((am_vR (am_pG 3093 x0 h)).bind fun v5 => ((am_pA 0 v5 x1 h).bind fun v7 => (if x2 = v7 then (fg_447_92 N rec_2 (fg_447_19 N rec_2 K) x0 x1 x2 h) else ((am_vR (am_pG 3093 x0 h)).bind fun v10 => ((am_pA 0 v10 x1 h).bind fun v12 => am_cI false (fm_448 N x2 v12 h) (fun v14 h15 => (if ¬ v14 = 0 then (if am_pOk 12 x0 h15 then am_cV true (fm_442 N x0 h15) (fun h20 => ((am_vR (am_pG 3088 x0 h20)).bind fun v22 => ((am_pS 0 v22 x1 x2 h20).bind fun h24 => ((am_vR (am_pG 3089 x0 h24)).bind fun v26 => (if ¬ x2 = 0 then (fg_447_83 N rec_2 (fg_447_19 N rec_2 K) x0 x1 x2 v26 x1 0 h24) else (fg_447_83 N rec_2 (fg_447_19 N rec_2 K) x0 x1 x2 v26 x1 1 h24)))))) else none) else (fg_447_92 N rec_2 (fg_447_19 N rec_2 K) x0 x1 x2 h15)))))))))))
theorem rg_447_19 {X : am_X} {d : Nat} {N : Nat} {rec_2 : Value → Int32 → am_H → Option am_O} (q_2 : ∀ (x0 : Value) (x1 : Int32) (h : am_H) (o : am_O), rec_2 x0 x1 h = some o → ∀ lv : am_LV, (lv.lookup 0 = some x0) → (lv.lookup 1 = some (.int x1)) → (am_isR x0 = true) → am_W X (d + 4) 447 2 lv [] h (fun q => q = o)) : ∀ (K : Nat) (x0 : Value) (x1 : Int32) (x2 : Int32) (h : am_H) (o : am_O), fg_447_19 N rec_2 K x0 x1 x2 h = some o → ∀ lv : am_LV, (lv.lookup 0 = some x0) → (lv.lookup 1 = some (.int x1)) → (lv.lookup 2 = some (.int x2)) → (am_isR x0 = true) → am_W X (d + 4) 447 19 lv [] h (fun q => q = o) := by
  intro K
  induction K with
  | zero => intro x0 x1 x2 h o hs; cases hs
  | succ K ih =>
    intro x0 x1 x2 h o hs lv l0 l1 l2 i0
    unfold fg_447_19 at hs
    refine aw_iload_n (pc1 := 20) at_447_19 l2 rfl ?_
    refine aw_bipush (v := 21) (pc1 := 22) at_447_20 (by decide) rfl ?_
    by_cases c1 : 21 ≤ x2
    · rw [if_pos c1] at hs
      refine aw_icge_t at_447_22 c1 ?_
      exact rg_447_98 q_2 x0 x1 h o l0 l1 i0 hs
    · rw [if_neg c1] at hs
      refine aw_icge_f (pc1 := 25) at_447_22 c1 rfl ?_
      refine aw_vload_n (pc1 := 26) at_447_25 l0 i0 rfl ?_
      obtain ⟨v2, e3, hs1⟩ := am_bind hs
      clear hs
      refine aw_pG (pc1 := 29) at_447_26 (am_vI_s e3) rfl ?_
      by_cases c4 : ¬ v2 = 0
      · rw [if_pos c4] at hs1
        refine aw_ifne_t at_447_29 c4 ?_
        exact rg_447_98 q_2 x0 x1 h o l0 l1 i0 hs1
      · rw [if_neg c4] at hs1
        refine aw_ifne_f (pc1 := 32) at_447_29 c4 rfl ?_
        refine aw_iload_n (pc1 := 33) at_447_32 l2 rfl ?_
        refine aw_vload_n (pc1 := 34) at_447_33 l0 i0 rfl ?_
        obtain ⟨v5, e6, hs2⟩ := am_bind hs1
        clear hs1
        refine aw_pG (pc1 := 37) at_447_34 (am_vR_s e6).1 rfl ?_
        refine aw_iload_n (pc1 := 38) at_447_37 l1 rfl ?_
        obtain ⟨v7, e8, hs3⟩ := am_bind hs2
        clear hs2
        refine aw_pA (pc1 := 39) at_447_38 (Or.inl ⟨rfl, rfl⟩) e8 rfl ?_
        by_cases c9 : x2 = v7
        · rw [if_pos c9] at hs3
          refine aw_iceq_t at_447_39 c9 ?_
          exact rg_447_92 q_2 (fun z0 z1 z2 h o hs3 => ih z0 z1 z2 h o hs3) x0 x1 x2 h o l0 l1 l2 i0 hs3
        · rw [if_neg c9] at hs3
          refine aw_iceq_f (pc1 := 42) at_447_39 c9 rfl ?_
          refine aw_iload_n (pc1 := 43) at_447_42 l2 rfl ?_
          refine aw_vload_n (pc1 := 44) at_447_43 l0 i0 rfl ?_
          obtain ⟨v10, e11, hs4⟩ := am_bind hs3
          clear hs3
          refine aw_pG (pc1 := 47) at_447_44 (am_vR_s e11).1 rfl ?_
          refine aw_iload_n (pc1 := 48) at_447_47 l1 rfl ?_
          obtain ⟨v12, e13, hs5⟩ := am_bind hs4
          clear hs4
          refine aw_pA (pc1 := 49) at_447_48 (Or.inl ⟨rfl, rfl⟩) e13 rfl ?_
          refine aw_call (F := fm_448 N x2 v12 h) (t := false) (na := 2) (kd := 0) (as := [(.int x2), (.int v12)]) at_447_49 (am_k3s kb_448) mn_448 mk_448 rfl rfl (am_ok_s mi_448 (am_hl rfl (am_ccI (am_ccI am_cats_0)) rfl)) (am_hc am_cats_0 rfl) (fun hz9 => by cases hz9) (fun o1 hz9 => rm_448 x2 v12 h o1  hz9) ?_
          rcases am_cI_s hs5 with ⟨v14, h15, f16, hs6⟩ | hs6
          · clear hs5
            refine Or.inl ⟨_, _, f16, ?_⟩
            show am_W X _ 447 52 _ [(.int v14)] h15 _
            by_cases c17 : ¬ v14 = 0
            · rw [if_pos c17] at hs6
              refine aw_ifne_t at_447_52 c17 ?_
              refine aw_vload_n (pc1 := 59) at_447_58 l0 i0 rfl ?_
              obtain ⟨z18, hs7⟩ := am_ift hs6
              clear hs6
              refine aw_call (F := fm_442 N x0 h15) (t := true) (na := 1) (kd := 1) (as := [x0]) at_447_59 (am_k3v kb_442) mn_442 mk_442 rfl rfl (am_ok_v mi_442 (am_hl rfl (am_ccR i0 am_cats_0) rfl) z18) (am_hc am_cats_0 rfl) (fun _ => ⟨rfl, hh_447⟩) (fun o1 hz9 => rm_442 x0 h15 o1 i0 hz9) ?_
              rcases am_cV_s hs7 with ⟨h20, f21, hs8⟩ | hs8
              · clear hs7
                refine Or.inl ⟨_, _, f21, ?_⟩
                show am_W X _ 447 62 _ [] h20 _
                refine aw_vload_n (pc1 := 63) at_447_62 l0 i0 rfl ?_
                obtain ⟨v22, e23, hs9⟩ := am_bind hs8
                clear hs8
                refine aw_pG (pc1 := 66) at_447_63 (am_vR_s e23).1 rfl ?_
                refine aw_iload_n (pc1 := 67) at_447_66 l1 rfl ?_
                refine aw_iload_n (pc1 := 68) at_447_67 l2 rfl ?_
                obtain ⟨h24, e25, hs10⟩ := am_bind hs9
                clear hs9
                refine aw_pS (pc1 := 69) at_447_68 (Or.inl ⟨rfl, rfl⟩) e25 rfl ?_
                refine aw_vload_n (pc1 := 70) at_447_69 l0 i0 rfl ?_
                obtain ⟨v26, e27, hs11⟩ := am_bind hs10
                clear hs10
                refine aw_pG (pc1 := 73) at_447_70 (am_vR_s e27).1 rfl ?_
                refine aw_iload_n (pc1 := 74) at_447_73 l1 rfl ?_
                refine aw_iload_n (pc1 := 75) at_447_74 l2 rfl ?_
                by_cases c28 : ¬ x2 = 0
                · rw [if_pos c28] at hs11
                  refine aw_ifne_t at_447_75 c28 ?_
                  refine aw_iconst (v := 0) (pc1 := 83) at_447_82 (by decide) rfl ?_
                  exact rg_447_83 q_2 (fun z0 z1 z2 h o hs11 => ih z0 z1 z2 h o hs11) x0 x1 x2 v26 x1 0 h24 o l0 l1 l2 i0 (am_vR_s e27).2 hs11
                · rw [if_neg c28] at hs11
                  refine aw_ifne_f (pc1 := 78) at_447_75 c28 rfl ?_
                  refine aw_iconst (v := 1) (pc1 := 79) at_447_78 (by decide) rfl ?_
                  refine aw_goto at_447_79 ?_
                  exact rg_447_83 q_2 (fun z0 z1 z2 h o hs11 => ih z0 z1 z2 h o hs11) x0 x1 x2 v26 x1 1 h24 o l0 l1 l2 i0 (am_vR_s e27).2 hs11
              · clear hs7
                exact Or.inr hs8
            · rw [if_neg c17] at hs6
              refine aw_ifne_f (pc1 := 55) at_447_52 c17 rfl ?_
              refine aw_goto at_447_55 ?_
              exact rg_447_92 q_2 (fun z0 z1 z2 h o hs6 => ih z0 z1 z2 h o hs6) x0 x1 x2 h15 o l0 l1 l2 i0 hs6
          · clear hs5
            exact Or.inr hs6
def fg_447_2 (N : Nat) : Nat → Value → Int32 → am_H → Option am_O
  | 0 => fun _ _ _ => none
  | K + 1 => fun x0 x1 h => ((am_vI (am_pG 3090 x0 h)).bind fun v1 => (if v1 ≤ x1 then (fg_447_104 N h) else ((am_vI (am_pG 3167 x0 h)).bind fun v4 => (if ¬ v4 = 0 then (fg_447_104 N h) else (fg_447_19 N (fg_447_2 N K) N x0 x1 0 h)))))
theorem rg_447_2 {X : am_X} {d : Nat} {N : Nat} : ∀ (K : Nat) (x0 : Value) (x1 : Int32) (h : am_H) (o : am_O), fg_447_2 N K x0 x1 h = some o → ∀ lv : am_LV, (lv.lookup 0 = some x0) → (lv.lookup 1 = some (.int x1)) → (am_isR x0 = true) → am_W X (d + 4) 447 2 lv [] h (fun q => q = o) := by
  intro K
  induction K with
  | zero => intro x0 x1 h o hs; cases hs
  | succ K ih =>
    intro x0 x1 h o hs lv l0 l1 i0
    unfold fg_447_2 at hs
    refine aw_iload_n (pc1 := 3) at_447_2 l1 rfl ?_
    refine aw_vload_n (pc1 := 4) at_447_3 l0 i0 rfl ?_
    obtain ⟨v1, e2, hs1⟩ := am_bind hs
    clear hs
    refine aw_pG (pc1 := 7) at_447_4 (am_vI_s e2) rfl ?_
    by_cases c3 : v1 ≤ x1
    · rw [if_pos c3] at hs1
      refine aw_icge_t at_447_7 c3 ?_
      exact rg_447_104 h o   hs1
    · rw [if_neg c3] at hs1
      refine aw_icge_f (pc1 := 10) at_447_7 c3 rfl ?_
      refine aw_vload_n (pc1 := 11) at_447_10 l0 i0 rfl ?_
      obtain ⟨v4, e5, hs2⟩ := am_bind hs1
      clear hs1
      refine aw_pG (pc1 := 14) at_447_11 (am_vI_s e5) rfl ?_
      by_cases c6 : ¬ v4 = 0
      · rw [if_pos c6] at hs2
        refine aw_ifne_t at_447_14 c6 ?_
        exact rg_447_104 h o   hs2
      · rw [if_neg c6] at hs2
        refine aw_ifne_f (pc1 := 17) at_447_14 c6 rfl ?_
        refine aw_iconst (v := 0) (pc1 := 18) at_447_17 (by decide) rfl ?_
        refine aw_istore_n (lv1 := am_put1 _ 2 _) (pc1 := 19) at_447_18 rfl rfl ?_
        exact rg_447_19 (fun z0 z1 h o hs2 => ih z0 z1 h o hs2) N x0 x1 0 h o hs2 _ (am_lk1 l0 rfl rfl) (am_lk1 l1 rfl rfl) am_lk0 i0
def fg_447_0 (N : Nat) (x0 : Value) (h : am_H) : Option am_O := (fg_447_2 N N x0 0 h)
theorem rg_447_0 {X : am_X} {d : Nat} {N : Nat} {lv : am_LV} (x0 : Value) (h : am_H) (o : am_O) (l0 : lv.lookup 0 = some x0) (i0 : am_isR x0 = true) (hs : fg_447_0 N x0 h = some o) : am_W X (d + 4) 447 0 lv [] h (fun q => q = o) := by
  unfold fg_447_0 at hs
  refine aw_iconst (v := 0) (pc1 := 1) at_447_0 (by decide) rfl ?_
  refine aw_istore_n (lv1 := am_put1 _ 1 _) (pc1 := 2) at_447_1 rfl rfl ?_
  exact rg_447_2 N x0 0 h o hs _ (am_lk1 l0 rfl (by rw [am_isRc i0]; rfl)) am_lk0 i0
def fm_447 (N : Nat) (y0 : Value) (h : am_H) : Option am_O := fg_447_0 N y0 h
theorem rm_447 {X : am_X} {d : Nat} {N : Nat} (y0 : Value) (h : am_H) (o : am_O) (i0 : am_isR y0 = true) (hs : fm_447 N y0 h = some o) : am_W X (d + 4) 447 0 (am_args 0 [y0]) [] h (fun q => q = o) := by
  rw [am_args_R i0]
  exact rg_447_0 y0 h o rfl i0 hs
def fg_451_0 (x0 : Value) (h : am_H) : Option am_O := ((am_vI (am_pG 3092 x0 h)).bind fun v1 => ((am_pP 3085 x0 (.int v1) h).bind fun h3 => ((am_vI (am_pG 3091 x0 h3)).bind fun v5 => ((am_pP 3087 x0 (.int v5) h3).bind fun h7 => ((am_pP 3086 x0 (.int 0) h7).bind fun h9 => some (.inl (none, h9)))))))
theorem rg_451_0 {X : am_X} {d : Nat} {lv : am_LV} (x0 : Value) (h : am_H) (o : am_O) (l0 : lv.lookup 0 = some x0) (i0 : am_isR x0 = true) (hs : fg_451_0 x0 h = some o) : am_W X (d) 451 0 lv [] h (fun q => q = o) := by
  unfold fg_451_0 at hs
  refine aw_vload_n (pc1 := 1) at_451_0 l0 i0 rfl ?_
  refine aw_vload_n (pc1 := 2) at_451_1 l0 i0 rfl ?_
  obtain ⟨v1, e2, hs1⟩ := am_bind hs
  clear hs
  refine aw_pG (pc1 := 5) at_451_2 (am_vI_s e2) rfl ?_
  obtain ⟨h3, e4, hs2⟩ := am_bind hs1
  clear hs1
  refine aw_pP (pc1 := 8) at_451_5 e4 rfl ?_
  refine aw_vload_n (pc1 := 9) at_451_8 l0 i0 rfl ?_
  refine aw_vload_n (pc1 := 10) at_451_9 l0 i0 rfl ?_
  obtain ⟨v5, e6, hs3⟩ := am_bind hs2
  clear hs2
  refine aw_pG (pc1 := 13) at_451_10 (am_vI_s e6) rfl ?_
  obtain ⟨h7, e8, hs4⟩ := am_bind hs3
  clear hs3
  refine aw_pP (pc1 := 16) at_451_13 e8 rfl ?_
  refine aw_vload_n (pc1 := 17) at_451_16 l0 i0 rfl ?_
  refine aw_iconst (v := 0) (pc1 := 18) at_451_17 (by decide) rfl ?_
  obtain ⟨h9, e10, hs5⟩ := am_bind hs4
  clear hs4
  refine aw_pP (pc1 := 21) at_451_18 e10 rfl ?_
  cases hs5
  exact aw_vret at_451_21 rt_451 rfl
def fm_451 (y0 : Value) (h : am_H) : Option am_O := fg_451_0 y0 h
theorem rm_451 {X : am_X} {d : Nat} (y0 : Value) (h : am_H) (o : am_O) (i0 : am_isR y0 = true) (hs : fm_451 y0 h = some o) : am_W X (d) 451 0 (am_args 0 [y0]) [] h (fun q => q = o) := by
  rw [am_args_R i0]
  exact rg_451_0 y0 h o rfl i0 hs
def fg_450_34 (N : Nat) (x0 : Value) (x1 : Int32) (x2 : Int32) (x3 : Int32) (h : am_H) : Option am_O := (if am_pOk 12 x0 h then am_cV true (fm_451 x0 h) (fun h3 => (if am_pOk 12 x0 h3 then am_cV true (fm_443 N x0 0 x1 h3) (fun h7 => (if am_pOk 12 x0 h7 then am_cV true (fm_335 x0 x2 x3 h7) (fun h11 => ((am_vR (am_pG 3098 x0 h11)).bind fun v13 => ((am_pA 0 v13 x1 h11).bind fun v15 => ((am_vI (am_pG 3090 x0 h11)).bind fun v17 => (if am_pOk 12 x0 h11 then am_cV true (fm_443 N x0 ((x1 + v15)) v17 h11) (fun h21 => (if am_pOk 12 x0 h21 then am_cI true (fm_444 N x0 h21) (fun v24 h25 => (if am_rfit (some FieldType.boolean) v24 then some (.inl (some (.int v24), h25)) else none)) else none)) else none))))) else none)) else none)) else none)
theorem rg_450_34 {X : am_X} {d : Nat} {N : Nat} {lv : am_LV} (x0 : Value) (x1 : Int32) (x2 : Int32) (x3 : Int32) (h : am_H) (o : am_O) (l0 : lv.lookup 0 = some x0) (l1 : lv.lookup 1 = some (.int x1)) (l2 : lv.lookup 2 = some (.int x2)) (l3 : lv.lookup 3 = some (.int x3)) (i0 : am_isR x0 = true) (hs : fg_450_34 N x0 x1 x2 x3 h = some o) : am_W X (d + 4) 450 34 lv [] h (fun q => q = o) := by
  unfold fg_450_34 at hs
  refine aw_vload_n (pc1 := 35) at_450_34 l0 i0 rfl ?_
  obtain ⟨z1, hs1⟩ := am_ift hs
  clear hs
  refine aw_call (F := fm_451 x0 h) (t := true) (na := 1) (kd := 1) (as := [x0]) at_450_35 (am_k3v kb_451) mn_451 mk_451 rfl rfl (am_ok_v mi_451 (am_hl rfl (am_ccR i0 am_cats_0) rfl) z1) (am_hc am_cats_0 rfl) (fun _ => ⟨rfl, hh_450⟩) (fun o1 hz9 => rm_451 x0 h o1 i0 hz9) ?_
  rcases am_cV_s hs1 with ⟨h3, f4, hs2⟩ | hs2
  · clear hs1
    refine Or.inl ⟨_, _, f4, ?_⟩
    show am_W X _ 450 38 _ [] h3 _
    refine aw_vload_n (pc1 := 39) at_450_38 l0 i0 rfl ?_
    refine aw_iconst (v := 0) (pc1 := 40) at_450_39 (by decide) rfl ?_
    refine aw_iload_n (pc1 := 41) at_450_40 l1 rfl ?_
    obtain ⟨z5, hs3⟩ := am_ift hs2
    clear hs2
    refine aw_call (F := fm_443 N x0 0 x1 h3) (t := true) (na := 3) (kd := 1) (as := [x0, (.int 0), (.int x1)]) at_450_41 (am_k3v kb_443) mn_443 mk_443 rfl rfl (am_ok_v mi_443 (am_hl rfl (am_ccR i0 (am_ccI (am_ccI am_cats_0))) rfl) z5) (am_hc am_cats_0 rfl) (fun _ => ⟨rfl, hh_450⟩) (fun o1 hz9 => rm_443 x0 0 x1 h3 o1 i0 hz9) ?_
    rcases am_cV_s hs3 with ⟨h7, f8, hs4⟩ | hs4
    · clear hs3
      refine Or.inl ⟨_, _, f8, ?_⟩
      show am_W X _ 450 44 _ [] h7 _
      refine aw_vload_n (pc1 := 45) at_450_44 l0 i0 rfl ?_
      refine aw_iload_n (pc1 := 46) at_450_45 l2 rfl ?_
      refine aw_iload_n (pc1 := 47) at_450_46 l3 rfl ?_
      obtain ⟨z9, hs5⟩ := am_ift hs4
      clear hs4
      refine aw_call (F := fm_335 x0 x2 x3 h7) (t := true) (na := 3) (kd := 1) (as := [x0, (.int x2), (.int x3)]) at_450_47 (am_k3v kb_335) mn_335 mk_335 rfl rfl (am_ok_v mi_335 (am_hl rfl (am_ccR i0 (am_ccI (am_ccI am_cats_0))) rfl) z9) (am_hc am_cats_0 rfl) (fun _ => ⟨rfl, hh_450⟩) (fun o1 hz9 => rm_335 x0 x2 x3 h7 o1 i0 hz9) ?_
      rcases am_cV_s hs5 with ⟨h11, f12, hs6⟩ | hs6
      · clear hs5
        refine Or.inl ⟨_, _, f12, ?_⟩
        show am_W X _ 450 50 _ [] h11 _
        refine aw_vload_n (pc1 := 51) at_450_50 l0 i0 rfl ?_
        refine aw_iload_n (pc1 := 52) at_450_51 l1 rfl ?_
        refine aw_vload_n (pc1 := 53) at_450_52 l0 i0 rfl ?_
        obtain ⟨v13, e14, hs7⟩ := am_bind hs6
        clear hs6
        refine aw_pG (pc1 := 56) at_450_53 (am_vR_s e14).1 rfl ?_
        refine aw_iload_n (pc1 := 57) at_450_56 l1 rfl ?_
        obtain ⟨v15, e16, hs8⟩ := am_bind hs7
        clear hs7
        refine aw_pA (pc1 := 58) at_450_57 (Or.inl ⟨rfl, rfl⟩) e16 rfl ?_
        refine aw_iadd (v := (x1 + v15)) (pc1 := 59) at_450_58 rfl rfl ?_
        refine aw_vload_n (pc1 := 60) at_450_59 l0 i0 rfl ?_
        obtain ⟨v17, e18, hs9⟩ := am_bind hs8
        clear hs8
        refine aw_pG (pc1 := 63) at_450_60 (am_vI_s e18) rfl ?_
        obtain ⟨z19, hs10⟩ := am_ift hs9
        clear hs9
        refine aw_call (F := fm_443 N x0 ((x1 + v15)) v17 h11) (t := true) (na := 3) (kd := 1) (as := [x0, (.int (x1 + v15)), (.int v17)]) at_450_63 (am_k3v kb_443) mn_443 mk_443 rfl rfl (am_ok_v mi_443 (am_hl rfl (am_ccR i0 (am_ccI (am_ccI am_cats_0))) rfl) z19) (am_hc am_cats_0 rfl) (fun _ => ⟨rfl, hh_450⟩) (fun o1 hz9 => rm_443 x0 ((x1 + v15)) v17 h11 o1 i0 hz9) ?_
        rcases am_cV_s hs10 with ⟨h21, f22, hs11⟩ | hs11
        · clear hs10
          refine Or.inl ⟨_, _, f22, ?_⟩
          show am_W X _ 450 66 _ [] h21 _
          refine aw_vload_n (pc1 := 67) at_450_66 l0 i0 rfl ?_
          obtain ⟨z23, hs12⟩ := am_ift hs11
          clear hs11
          refine aw_call (F := fm_444 N x0 h21) (t := true) (na := 1) (kd := 1) (as := [x0]) at_450_67 (am_k3v kb_444) mn_444 mk_444 rfl rfl (am_ok_v mi_444 (am_hl rfl (am_ccR i0 am_cats_0) rfl) z23) (am_hc am_cats_0 rfl) (fun _ => ⟨rfl, hh_450⟩) (fun o1 hz9 => rm_444 x0 h21 o1 i0 hz9) ?_
          rcases am_cI_s hs12 with ⟨v24, h25, f26, hs13⟩ | hs13
          · clear hs12
            refine Or.inl ⟨_, _, f26, ?_⟩
            show am_W X _ 450 70 _ [(.int v24)] h25 _
            obtain ⟨z27, hs14⟩ := am_ift hs13
            clear hs13
            cases hs14
            exact aw_iret at_450_70 (by rw [rt_450]; exact z27) rfl
          · clear hs12
            exact Or.inr hs13
        · clear hs10
          exact Or.inr hs11
      · clear hs5
        exact Or.inr hs6
    · clear hs3
      exact Or.inr hs4
  · clear hs1
    exact Or.inr hs2
def fg_450_32 (N : Nat) (h : am_H) : Option am_O := some (.inl (some (.int 0), h))
theorem rg_450_32 {X : am_X} {d : Nat} {N : Nat} {lv : am_LV} (h : am_H) (o : am_O) (hs : fg_450_32 N h = some o) : am_W X (d + 4) 450 32 lv [] h (fun q => q = o) := by
  unfold fg_450_32 at hs
  refine aw_iconst (v := 0) (pc1 := 33) at_450_32 (by decide) rfl ?_
  cases hs
  exact aw_iret at_450_33 (by rw [rt_450]; decide) rfl
def fg_450_0 (N : Nat) (x0 : Value) (x1 : Int32) (x2 : Int32) (x3 : Int32) (h : am_H) : Option am_O := ((am_vR (am_pG 3093 x0 h)).bind fun v1 => ((am_pA 0 v1 x1 h).bind fun v3 => am_cI false (fm_334 v3 h) (fun v5 h6 => (if ¬ v5 = 0 then (fg_450_32 N h6) else ((am_vR (am_pG 3093 x0 h6)).bind fun v9 => ((am_pA 0 v9 x1 h6).bind fun v11 => (if ¬ v11 = x2 then (fg_450_34 N x0 x1 x2 x3 h6) else ((am_vR (am_pG 3094 x0 h6)).bind fun v14 => ((am_pA 0 v14 x1 h6).bind fun v16 => (if ¬ v16 = x3 then (fg_450_34 N x0 x1 x2 x3 h6) else (fg_450_32 N h6)))))))))))
theorem rg_450_0 {X : am_X} {d : Nat} {N : Nat} {lv : am_LV} (x0 : Value) (x1 : Int32) (x2 : Int32) (x3 : Int32) (h : am_H) (o : am_O) (l0 : lv.lookup 0 = some x0) (l1 : lv.lookup 1 = some (.int x1)) (l2 : lv.lookup 2 = some (.int x2)) (l3 : lv.lookup 3 = some (.int x3)) (i0 : am_isR x0 = true) (hs : fg_450_0 N x0 x1 x2 x3 h = some o) : am_W X (d + 4) 450 0 lv [] h (fun q => q = o) := by
  unfold fg_450_0 at hs
  refine aw_vload_n (pc1 := 1) at_450_0 l0 i0 rfl ?_
  obtain ⟨v1, e2, hs1⟩ := am_bind hs
  clear hs
  refine aw_pG (pc1 := 4) at_450_1 (am_vR_s e2).1 rfl ?_
  refine aw_iload_n (pc1 := 5) at_450_4 l1 rfl ?_
  obtain ⟨v3, e4, hs2⟩ := am_bind hs1
  clear hs1
  refine aw_pA (pc1 := 6) at_450_5 (Or.inl ⟨rfl, rfl⟩) e4 rfl ?_
  refine aw_call (F := fm_334 v3 h) (t := false) (na := 1) (kd := 0) (as := [(.int v3)]) at_450_6 (am_k3s kb_334) mn_334 mk_334 rfl rfl (am_ok_s mi_334 (am_hl rfl (am_ccI am_cats_0) rfl)) (am_hc am_cats_0 rfl) (fun hz9 => by cases hz9) (fun o1 hz9 => rm_334 v3 h o1  hz9) ?_
  rcases am_cI_s hs2 with ⟨v5, h6, f7, hs3⟩ | hs3
  · clear hs2
    refine Or.inl ⟨_, _, f7, ?_⟩
    show am_W X _ 450 9 _ [(.int v5)] h6 _
    by_cases c8 : ¬ v5 = 0
    · rw [if_pos c8] at hs3
      refine aw_ifne_t at_450_9 c8 ?_
      exact rg_450_32 h6 o   hs3
    · rw [if_neg c8] at hs3
      refine aw_ifne_f (pc1 := 12) at_450_9 c8 rfl ?_
      refine aw_vload_n (pc1 := 13) at_450_12 l0 i0 rfl ?_
      obtain ⟨v9, e10, hs4⟩ := am_bind hs3
      clear hs3
      refine aw_pG (pc1 := 16) at_450_13 (am_vR_s e10).1 rfl ?_
      refine aw_iload_n (pc1 := 17) at_450_16 l1 rfl ?_
      obtain ⟨v11, e12, hs5⟩ := am_bind hs4
      clear hs4
      refine aw_pA (pc1 := 18) at_450_17 (Or.inl ⟨rfl, rfl⟩) e12 rfl ?_
      refine aw_iload_n (pc1 := 19) at_450_18 l2 rfl ?_
      by_cases c13 : ¬ v11 = x2
      · rw [if_pos c13] at hs5
        refine aw_icne_t at_450_19 c13 ?_
        exact rg_450_34 x0 x1 x2 x3 h6 o l0 l1 l2 l3 i0 hs5
      · rw [if_neg c13] at hs5
        refine aw_icne_f (pc1 := 22) at_450_19 c13 rfl ?_
        refine aw_vload_n (pc1 := 23) at_450_22 l0 i0 rfl ?_
        obtain ⟨v14, e15, hs6⟩ := am_bind hs5
        clear hs5
        refine aw_pG (pc1 := 26) at_450_23 (am_vR_s e15).1 rfl ?_
        refine aw_iload_n (pc1 := 27) at_450_26 l1 rfl ?_
        obtain ⟨v16, e17, hs7⟩ := am_bind hs6
        clear hs6
        refine aw_pA (pc1 := 28) at_450_27 (Or.inl ⟨rfl, rfl⟩) e17 rfl ?_
        refine aw_iload_n (pc1 := 29) at_450_28 l3 rfl ?_
        by_cases c18 : ¬ v16 = x3
        · rw [if_pos c18] at hs7
          refine aw_icne_t at_450_29 c18 ?_
          exact rg_450_34 x0 x1 x2 x3 h6 o l0 l1 l2 l3 i0 hs7
        · rw [if_neg c18] at hs7
          refine aw_icne_f (pc1 := 32) at_450_29 c18 rfl ?_
          exact rg_450_32 h6 o   hs7
  · clear hs2
    exact Or.inr hs3
def fm_450 (N : Nat) (y0 : Value) (y1 : Int32) (y2 : Int32) (y3 : Int32) (h : am_H) : Option am_O := fg_450_0 N y0 y1 y2 y3 h
theorem rm_450 {X : am_X} {d : Nat} {N : Nat} (y0 : Value) (y1 : Int32) (y2 : Int32) (y3 : Int32) (h : am_H) (o : am_O) (i0 : am_isR y0 = true) (hs : fm_450 N y0 y1 y2 y3 h = some o) : am_W X (d + 4) 450 0 (am_args 0 [y0, .int y1, .int y2, .int y3]) [] h (fun q => q = o) := by
  rw [am_args_R i0, am_args_I, am_args_I, am_args_I]
  exact rg_450_0 y0 y1 y2 y3 h o rfl rfl rfl rfl i0 hs
def fg_449_54 (N : Nat) (h : am_H) : Option am_O := some (.inl (none, h))
theorem rg_449_54 {X : am_X} {d : Nat} {N : Nat} {lv : am_LV} (h : am_H) (o : am_O) (hs : fg_449_54 N h = some o) : am_W X (d + 5) 449 54 lv [] h (fun q => q = o) := by
  unfold fg_449_54 at hs
  cases hs
  exact aw_vret at_449_54 rt_449 rfl
def fg_449_48 (N : Nat) (rec_2 : Value → Int32 → am_H → Option am_O) (x0 : Value) (x1 : Int32) (h : am_H) : Option am_O := (rec_2 x0 ((x1 + 1)) h)
theorem rg_449_48 {X : am_X} {d : Nat} {N : Nat} {rec_2 : Value → Int32 → am_H → Option am_O} (q_2 : ∀ (x0 : Value) (x1 : Int32) (h : am_H) (o : am_O), rec_2 x0 x1 h = some o → ∀ lv : am_LV, (lv.lookup 0 = some x0) → (lv.lookup 1 = some (.int x1)) → (am_isR x0 = true) → am_W X (d + 5) 449 2 lv [] h (fun q => q = o)) {lv : am_LV} (x0 : Value) (x1 : Int32) (h : am_H) (o : am_O) (l0 : lv.lookup 0 = some x0) (l1 : lv.lookup 1 = some (.int x1)) (i0 : am_isR x0 = true) (hs : fg_449_48 N rec_2 x0 x1 h = some o) : am_W X (d + 5) 449 48 lv [] h (fun q => q = o) := by
  unfold fg_449_48 at hs
  refine aw_iinc (v := (x1 + 1)) (c := 1) (lv1 := am_put1 _ 1 _) (pc1 := 51) at_449_48 l1 (by decide) rfl rfl rfl ?_
  refine aw_goto at_449_51 ?_
  exact q_2 x0 ((x1 + 1)) h o hs _ (am_lk1 l0 rfl (by rw [am_isRc i0]; rfl)) am_lk0 i0
def fg_449_2 (N : Nat) : Nat → Value → Int32 → am_H → Option am_O
  | 0 => fun _ _ _ => none
  | K + 1 => fun x0 x1 h => ((am_vI (am_pG 3090 x0 h)).bind fun v1 => (if v1 ≤ x1 then (fg_449_54 N h) else ((am_vI (am_pG 3167 x0 h)).bind fun v4 => (if ¬ v4 = 0 then (fg_449_54 N h) else (if am_pOk 12 x0 h then am_cI true (fm_450 N x0 x1 0 0 h) (fun v8 h9 => (if ¬ v8 = 0 then (fg_449_48 N (fg_449_2 N K) x0 x1 h9) else (if am_pOk 12 x0 h9 then am_cI true (fm_450 N x0 x1 1 0 h9) (fun v13 h14 => (if ¬ v13 = 0 then (fg_449_48 N (fg_449_2 N K) x0 x1 h14) else (if am_pOk 12 x0 h14 then am_cI true (fm_450 N x0 x1 0 1 h14) (fun v18 h19 => ((am_pP 3167 x0 (.int v18) h19).bind fun h21 => (fg_449_48 N (fg_449_2 N K) x0 x1 h21))) else none))) else none))) else none)))))
theorem rg_449_2 {X : am_X} {d : Nat} {N : Nat} : ∀ (K : Nat) (x0 : Value) (x1 : Int32) (h : am_H) (o : am_O), fg_449_2 N K x0 x1 h = some o → ∀ lv : am_LV, (lv.lookup 0 = some x0) → (lv.lookup 1 = some (.int x1)) → (am_isR x0 = true) → am_W X (d + 5) 449 2 lv [] h (fun q => q = o) := by
  intro K
  induction K with
  | zero => intro x0 x1 h o hs; cases hs
  | succ K ih =>
    intro x0 x1 h o hs lv l0 l1 i0
    unfold fg_449_2 at hs
    refine aw_iload_n (pc1 := 3) at_449_2 l1 rfl ?_
    refine aw_vload_n (pc1 := 4) at_449_3 l0 i0 rfl ?_
    obtain ⟨v1, e2, hs1⟩ := am_bind hs
    clear hs
    refine aw_pG (pc1 := 7) at_449_4 (am_vI_s e2) rfl ?_
    by_cases c3 : v1 ≤ x1
    · rw [if_pos c3] at hs1
      refine aw_icge_t at_449_7 c3 ?_
      exact rg_449_54 h o   hs1
    · rw [if_neg c3] at hs1
      refine aw_icge_f (pc1 := 10) at_449_7 c3 rfl ?_
      refine aw_vload_n (pc1 := 11) at_449_10 l0 i0 rfl ?_
      obtain ⟨v4, e5, hs2⟩ := am_bind hs1
      clear hs1
      refine aw_pG (pc1 := 14) at_449_11 (am_vI_s e5) rfl ?_
      by_cases c6 : ¬ v4 = 0
      · rw [if_pos c6] at hs2
        refine aw_ifne_t at_449_14 c6 ?_
        exact rg_449_54 h o   hs2
      · rw [if_neg c6] at hs2
        refine aw_ifne_f (pc1 := 17) at_449_14 c6 rfl ?_
        refine aw_vload_n (pc1 := 18) at_449_17 l0 i0 rfl ?_
        refine aw_iload_n (pc1 := 19) at_449_18 l1 rfl ?_
        refine aw_iconst (v := 0) (pc1 := 20) at_449_19 (by decide) rfl ?_
        refine aw_iconst (v := 0) (pc1 := 21) at_449_20 (by decide) rfl ?_
        obtain ⟨z7, hs3⟩ := am_ift hs2
        clear hs2
        refine aw_call (F := fm_450 N x0 x1 0 0 h) (t := true) (na := 4) (kd := 1) (as := [x0, (.int x1), (.int 0), (.int 0)]) at_449_21 (am_k3v kb_450) mn_450 mk_450 rfl rfl (am_ok_v mi_450 (am_hl rfl (am_ccR i0 (am_ccI (am_ccI (am_ccI am_cats_0)))) rfl) z7) (am_hc am_cats_0 rfl) (fun _ => ⟨rfl, hh_449⟩) (fun o1 hz9 => rm_450 x0 x1 0 0 h o1 i0 hz9) ?_
        rcases am_cI_s hs3 with ⟨v8, h9, f10, hs4⟩ | hs4
        · clear hs3
          refine Or.inl ⟨_, _, f10, ?_⟩
          show am_W X _ 449 24 _ [(.int v8)] h9 _
          by_cases c11 : ¬ v8 = 0
          · rw [if_pos c11] at hs4
            refine aw_ifne_t at_449_24 c11 ?_
            exact rg_449_48 (fun z0 z1 h o hs4 => ih z0 z1 h o hs4) x0 x1 h9 o l0 l1 i0 hs4
          · rw [if_neg c11] at hs4
            refine aw_ifne_f (pc1 := 27) at_449_24 c11 rfl ?_
            refine aw_vload_n (pc1 := 28) at_449_27 l0 i0 rfl ?_
            refine aw_iload_n (pc1 := 29) at_449_28 l1 rfl ?_
            refine aw_iconst (v := 1) (pc1 := 30) at_449_29 (by decide) rfl ?_
            refine aw_iconst (v := 0) (pc1 := 31) at_449_30 (by decide) rfl ?_
            obtain ⟨z12, hs5⟩ := am_ift hs4
            clear hs4
            refine aw_call (F := fm_450 N x0 x1 1 0 h9) (t := true) (na := 4) (kd := 1) (as := [x0, (.int x1), (.int 1), (.int 0)]) at_449_31 (am_k3v kb_450) mn_450 mk_450 rfl rfl (am_ok_v mi_450 (am_hl rfl (am_ccR i0 (am_ccI (am_ccI (am_ccI am_cats_0)))) rfl) z12) (am_hc am_cats_0 rfl) (fun _ => ⟨rfl, hh_449⟩) (fun o1 hz9 => rm_450 x0 x1 1 0 h9 o1 i0 hz9) ?_
            rcases am_cI_s hs5 with ⟨v13, h14, f15, hs6⟩ | hs6
            · clear hs5
              refine Or.inl ⟨_, _, f15, ?_⟩
              show am_W X _ 449 34 _ [(.int v13)] h14 _
              by_cases c16 : ¬ v13 = 0
              · rw [if_pos c16] at hs6
                refine aw_ifne_t at_449_34 c16 ?_
                exact rg_449_48 (fun z0 z1 h o hs6 => ih z0 z1 h o hs6) x0 x1 h14 o l0 l1 i0 hs6
              · rw [if_neg c16] at hs6
                refine aw_ifne_f (pc1 := 37) at_449_34 c16 rfl ?_
                refine aw_vload_n (pc1 := 38) at_449_37 l0 i0 rfl ?_
                refine aw_vload_n (pc1 := 39) at_449_38 l0 i0 rfl ?_
                refine aw_iload_n (pc1 := 40) at_449_39 l1 rfl ?_
                refine aw_iconst (v := 0) (pc1 := 41) at_449_40 (by decide) rfl ?_
                refine aw_iconst (v := 1) (pc1 := 42) at_449_41 (by decide) rfl ?_
                obtain ⟨z17, hs7⟩ := am_ift hs6
                clear hs6
                refine aw_call (F := fm_450 N x0 x1 0 1 h14) (t := true) (na := 4) (kd := 1) (as := [x0, (.int x1), (.int 0), (.int 1)]) at_449_42 (am_k3v kb_450) mn_450 mk_450 rfl rfl (am_ok_v mi_450 (am_hl rfl (am_ccR i0 (am_ccI (am_ccI (am_ccI am_cats_0)))) rfl) z17) (am_hc (am_ccR i0 am_cats_0) rfl) (fun _ => ⟨rfl, hh_449⟩) (fun o1 hz9 => rm_450 x0 x1 0 1 h14 o1 i0 hz9) ?_
                rcases am_cI_s hs7 with ⟨v18, h19, f20, hs8⟩ | hs8
                · clear hs7
                  refine Or.inl ⟨_, _, f20, ?_⟩
                  show am_W X _ 449 45 _ [(.int v18), x0] h19 _
                  obtain ⟨h21, e22, hs9⟩ := am_bind hs8
                  clear hs8
                  refine aw_pP (pc1 := 48) at_449_45 e22 rfl ?_
                  exact rg_449_48 (fun z0 z1 h o hs9 => ih z0 z1 h o hs9) x0 x1 h21 o l0 l1 i0 hs9
                · clear hs7
                  exact Or.inr hs8
            · clear hs5
              exact Or.inr hs6
        · clear hs3
          exact Or.inr hs4
def fg_449_0 (N : Nat) (x0 : Value) (h : am_H) : Option am_O := (fg_449_2 N N x0 0 h)
theorem rg_449_0 {X : am_X} {d : Nat} {N : Nat} {lv : am_LV} (x0 : Value) (h : am_H) (o : am_O) (l0 : lv.lookup 0 = some x0) (i0 : am_isR x0 = true) (hs : fg_449_0 N x0 h = some o) : am_W X (d + 5) 449 0 lv [] h (fun q => q = o) := by
  unfold fg_449_0 at hs
  refine aw_iconst (v := 0) (pc1 := 1) at_449_0 (by decide) rfl ?_
  refine aw_istore_n (lv1 := am_put1 _ 1 _) (pc1 := 2) at_449_1 rfl rfl ?_
  exact rg_449_2 N x0 0 h o hs _ (am_lk1 l0 rfl (by rw [am_isRc i0]; rfl)) am_lk0 i0
def fm_449 (N : Nat) (y0 : Value) (h : am_H) : Option am_O := fg_449_0 N y0 h
theorem rm_449 {X : am_X} {d : Nat} {N : Nat} (y0 : Value) (h : am_H) (o : am_O) (i0 : am_isR y0 = true) (hs : fm_449 N y0 h = some o) : am_W X (d + 5) 449 0 (am_args 0 [y0]) [] h (fun q => q = o) := by
  rw [am_args_R i0]
  exact rg_449_0 y0 h o rfl i0 hs
def fg_452_130 (N : Nat) (h : am_H) : Option am_O := some (.inl (none, h))
theorem rg_452_130 {X : am_X} {d : Nat} {N : Nat} {lv : am_LV} (h : am_H) (o : am_O) (hs : fg_452_130 N h = some o) : am_W X (d + 4) 452 130 lv [] h (fun q => q = o) := by
  unfold fg_452_130 at hs
  cases hs
  exact aw_vret at_452_130 rt_452 rfl
def fg_452_124 (N : Nat) (rec_2 : Value → Int32 → am_H → Option am_O) (x0 : Value) (x1 : Int32) (h : am_H) : Option am_O := (rec_2 x0 ((x1 + 1)) h)
theorem rg_452_124 {X : am_X} {d : Nat} {N : Nat} {rec_2 : Value → Int32 → am_H → Option am_O} (q_2 : ∀ (x0 : Value) (x1 : Int32) (h : am_H) (o : am_O), rec_2 x0 x1 h = some o → ∀ lv : am_LV, (lv.lookup 0 = some x0) → (lv.lookup 1 = some (.int x1)) → (am_isR x0 = true) → am_W X (d + 4) 452 2 lv [] h (fun q => q = o)) {lv : am_LV} (x0 : Value) (x1 : Int32) (h : am_H) (o : am_O) (l0 : lv.lookup 0 = some x0) (l1 : lv.lookup 1 = some (.int x1)) (i0 : am_isR x0 = true) (hs : fg_452_124 N rec_2 x0 x1 h = some o) : am_W X (d + 4) 452 124 lv [] h (fun q => q = o) := by
  unfold fg_452_124 at hs
  refine aw_iinc (v := (x1 + 1)) (c := 1) (lv1 := am_put1 _ 1 _) (pc1 := 127) at_452_124 l1 (by decide) rfl rfl rfl ?_
  refine aw_goto at_452_127 ?_
  exact q_2 x0 ((x1 + 1)) h o hs _ (am_lk1 l0 rfl (by rw [am_isRc i0]; rfl)) am_lk0 i0
def fg_452_118 (N : Nat) (rec_2 : Value → Int32 → am_H → Option am_O) (rec_19 : Value → Int32 → Int32 → am_H → Option am_O) (x0 : Value) (x1 : Int32) (x2 : Int32) (h : am_H) : Option am_O := (rec_19 x0 x1 ((x2 + 1)) h)
theorem rg_452_118 {X : am_X} {d : Nat} {N : Nat} {rec_2 : Value → Int32 → am_H → Option am_O} {rec_19 : Value → Int32 → Int32 → am_H → Option am_O} (q_2 : ∀ (x0 : Value) (x1 : Int32) (h : am_H) (o : am_O), rec_2 x0 x1 h = some o → ∀ lv : am_LV, (lv.lookup 0 = some x0) → (lv.lookup 1 = some (.int x1)) → (am_isR x0 = true) → am_W X (d + 4) 452 2 lv [] h (fun q => q = o)) (q_19 : ∀ (x0 : Value) (x1 : Int32) (x2 : Int32) (h : am_H) (o : am_O), rec_19 x0 x1 x2 h = some o → ∀ lv : am_LV, (lv.lookup 0 = some x0) → (lv.lookup 1 = some (.int x1)) → (lv.lookup 2 = some (.int x2)) → (am_isR x0 = true) → am_W X (d + 4) 452 19 lv [] h (fun q => q = o)) {lv : am_LV} (x0 : Value) (x1 : Int32) (x2 : Int32) (h : am_H) (o : am_O) (l0 : lv.lookup 0 = some x0) (l1 : lv.lookup 1 = some (.int x1)) (l2 : lv.lookup 2 = some (.int x2)) (i0 : am_isR x0 = true) (hs : fg_452_118 N rec_2 rec_19 x0 x1 x2 h = some o) : am_W X (d + 4) 452 118 lv [] h (fun q => q = o) := by
  unfold fg_452_118 at hs
  refine aw_iinc (v := (x2 + 1)) (c := 1) (lv1 := am_put1 _ 2 _) (pc1 := 121) at_452_118 l2 (by decide) rfl rfl rfl ?_
  refine aw_goto at_452_121 ?_
  exact q_19 x0 x1 ((x2 + 1)) h o hs _ (am_lk1 l0 rfl rfl) (am_lk1 l1 rfl rfl) am_lk0 i0
def fg_452_19 (N : Nat) (rec_2 : Value → Int32 → am_H → Option am_O) : Nat → Value → Int32 → Int32 → am_H → Option am_O
  | 0 => fun _ _ _ _ => none
  | K + 1 => fun x0 x1 x2 h => ((am_vR (am_pG 3093 x0 h)).bind fun v1 => ((am_pA 0 v1 x1 h).bind fun v3 => am_cI false (fm_343 v3 h) (fun v5 h6 => (if v5 ≤ x2 then (fg_452_124 N rec_2 x0 x1 h6) else ((am_vI (am_pG 3167 x0 h6)).bind fun v9 => (if ¬ v9 = 0 then (fg_452_124 N rec_2 x0 x1 h6) else ((am_vR (am_pG 3093 x0 h6)).bind fun v12 => ((am_pA 0 v12 x1 h6).bind fun v14 => am_cI false (fm_330 v14 x2 h6) (fun v16 h17 => ((am_vR (am_pG 3093 x0 h17)).bind fun v19 => ((am_pA 0 v19 x1 h17).bind fun v21 => am_cI false (fm_334 v21 h17) (fun v23 h24 => (if v16 = v23 then (if am_pOk 12 x0 h24 then am_cI true (fm_393 N x0 x1 x2 h24) (fun v28 h29 => (if am_pOk 12 x0 h29 then am_cV true (fm_451 x0 h29) (fun h33 => (if am_pOk 12 x0 h33 then am_cV true (fm_443 N x0 0 x1 h33) (fun h37 => ((am_vR (am_pG 3098 x0 h37)).bind fun v39 => ((am_pA 0 v39 v28 h37).bind fun v41 => (if am_pOk 12 x0 h37 then am_cV true (fm_443 N x0 v28 ((v28 + v41)) h37) (fun h45 => ((am_vR (am_pG 3098 x0 h45)).bind fun v47 => ((am_pA 0 v47 x1 h45).bind fun v49 => ((am_vI (am_pG 3090 x0 h45)).bind fun v51 => (if am_pOk 12 x0 h45 then am_cV true (fm_443 N x0 ((x1 + v49)) v51 h45) (fun h55 => (if am_pOk 12 x0 h55 then am_cI true (fm_444 N x0 h55) (fun v58 h59 => ((am_pP 3167 x0 (.int v58) h59).bind fun h61 => (fg_452_118 N rec_2 (fg_452_19 N rec_2 K) x0 x1 x2 h61))) else none)) else none))))) else none)))) else none)) else none)) else none) else (fg_452_118 N rec_2 (fg_452_19 N rec_2 K) x0 x1 x2 h24))))))))))))))
theorem rg_452_19 {X : am_X} {d : Nat} {N : Nat} {rec_2 : Value → Int32 → am_H → Option am_O} (q_2 : ∀ (x0 : Value) (x1 : Int32) (h : am_H) (o : am_O), rec_2 x0 x1 h = some o → ∀ lv : am_LV, (lv.lookup 0 = some x0) → (lv.lookup 1 = some (.int x1)) → (am_isR x0 = true) → am_W X (d + 4) 452 2 lv [] h (fun q => q = o)) : ∀ (K : Nat) (x0 : Value) (x1 : Int32) (x2 : Int32) (h : am_H) (o : am_O), fg_452_19 N rec_2 K x0 x1 x2 h = some o → ∀ lv : am_LV, (lv.lookup 0 = some x0) → (lv.lookup 1 = some (.int x1)) → (lv.lookup 2 = some (.int x2)) → (am_isR x0 = true) → am_W X (d + 4) 452 19 lv [] h (fun q => q = o) := by
  intro K
  induction K with
  | zero => intro x0 x1 x2 h o hs; cases hs
  | succ K ih =>
    intro x0 x1 x2 h o hs lv l0 l1 l2 i0
    unfold fg_452_19 at hs
    refine aw_iload_n (pc1 := 20) at_452_19 l2 rfl ?_
    refine aw_vload_n (pc1 := 21) at_452_20 l0 i0 rfl ?_
    obtain ⟨v1, e2, hs1⟩ := am_bind hs
    clear hs
    refine aw_pG (pc1 := 24) at_452_21 (am_vR_s e2).1 rfl ?_
    refine aw_iload_n (pc1 := 25) at_452_24 l1 rfl ?_
    obtain ⟨v3, e4, hs2⟩ := am_bind hs1
    clear hs1
    refine aw_pA (pc1 := 26) at_452_25 (Or.inl ⟨rfl, rfl⟩) e4 rfl ?_
    refine aw_call (F := fm_343 v3 h) (t := false) (na := 1) (kd := 0) (as := [(.int v3)]) at_452_26 (am_k3s kb_343) mn_343 mk_343 rfl rfl (am_ok_s mi_343 (am_hl rfl (am_ccI am_cats_0) rfl)) (am_hc (am_ccI am_cats_0) rfl) (fun hz9 => by cases hz9) (fun o1 hz9 => rm_343 v3 h o1  hz9) ?_
    rcases am_cI_s hs2 with ⟨v5, h6, f7, hs3⟩ | hs3
    · clear hs2
      refine Or.inl ⟨_, _, f7, ?_⟩
      show am_W X _ 452 29 _ [(.int v5), (.int x2)] h6 _
      by_cases c8 : v5 ≤ x2
      · rw [if_pos c8] at hs3
        refine aw_icge_t at_452_29 c8 ?_
        exact rg_452_124 q_2 x0 x1 h6 o l0 l1 i0 hs3
      · rw [if_neg c8] at hs3
        refine aw_icge_f (pc1 := 32) at_452_29 c8 rfl ?_
        refine aw_vload_n (pc1 := 33) at_452_32 l0 i0 rfl ?_
        obtain ⟨v9, e10, hs4⟩ := am_bind hs3
        clear hs3
        refine aw_pG (pc1 := 36) at_452_33 (am_vI_s e10) rfl ?_
        by_cases c11 : ¬ v9 = 0
        · rw [if_pos c11] at hs4
          refine aw_ifne_t at_452_36 c11 ?_
          exact rg_452_124 q_2 x0 x1 h6 o l0 l1 i0 hs4
        · rw [if_neg c11] at hs4
          refine aw_ifne_f (pc1 := 39) at_452_36 c11 rfl ?_
          refine aw_vload_n (pc1 := 40) at_452_39 l0 i0 rfl ?_
          obtain ⟨v12, e13, hs5⟩ := am_bind hs4
          clear hs4
          refine aw_pG (pc1 := 43) at_452_40 (am_vR_s e13).1 rfl ?_
          refine aw_iload_n (pc1 := 44) at_452_43 l1 rfl ?_
          obtain ⟨v14, e15, hs6⟩ := am_bind hs5
          clear hs5
          refine aw_pA (pc1 := 45) at_452_44 (Or.inl ⟨rfl, rfl⟩) e15 rfl ?_
          refine aw_iload_n (pc1 := 46) at_452_45 l2 rfl ?_
          refine aw_call (F := fm_330 v14 x2 h6) (t := false) (na := 2) (kd := 0) (as := [(.int v14), (.int x2)]) at_452_46 (am_k3s kb_330) mn_330 mk_330 rfl rfl (am_ok_s mi_330 (am_hl rfl (am_ccI (am_ccI am_cats_0)) rfl)) (am_hc am_cats_0 rfl) (fun hz9 => by cases hz9) (fun o1 hz9 => rm_330 v14 x2 h6 o1  hz9) ?_
          rcases am_cI_s hs6 with ⟨v16, h17, f18, hs7⟩ | hs7
          · clear hs6
            refine Or.inl ⟨_, _, f18, ?_⟩
            show am_W X _ 452 49 _ [(.int v16)] h17 _
            refine aw_vload_n (pc1 := 50) at_452_49 l0 i0 rfl ?_
            obtain ⟨v19, e20, hs8⟩ := am_bind hs7
            clear hs7
            refine aw_pG (pc1 := 53) at_452_50 (am_vR_s e20).1 rfl ?_
            refine aw_iload_n (pc1 := 54) at_452_53 l1 rfl ?_
            obtain ⟨v21, e22, hs9⟩ := am_bind hs8
            clear hs8
            refine aw_pA (pc1 := 55) at_452_54 (Or.inl ⟨rfl, rfl⟩) e22 rfl ?_
            refine aw_call (F := fm_334 v21 h17) (t := false) (na := 1) (kd := 0) (as := [(.int v21)]) at_452_55 (am_k3s kb_334) mn_334 mk_334 rfl rfl (am_ok_s mi_334 (am_hl rfl (am_ccI am_cats_0) rfl)) (am_hc (am_ccI am_cats_0) rfl) (fun hz9 => by cases hz9) (fun o1 hz9 => rm_334 v21 h17 o1  hz9) ?_
            rcases am_cI_s hs9 with ⟨v23, h24, f25, hs10⟩ | hs10
            · clear hs9
              refine Or.inl ⟨_, _, f25, ?_⟩
              show am_W X _ 452 58 _ [(.int v23), (.int v16)] h24 _
              by_cases c26 : v16 = v23
              · rw [if_pos c26] at hs10
                refine aw_iceq_t at_452_58 c26 ?_
                refine aw_vload_n (pc1 := 65) at_452_64 l0 i0 rfl ?_
                refine aw_iload_n (pc1 := 66) at_452_65 l1 rfl ?_
                refine aw_iload_n (pc1 := 67) at_452_66 l2 rfl ?_
                obtain ⟨z27, hs11⟩ := am_ift hs10
                clear hs10
                refine aw_call (F := fm_393 N x0 x1 x2 h24) (t := true) (na := 3) (kd := 1) (as := [x0, (.int x1), (.int x2)]) at_452_67 (am_k3v kb_393) mn_393 mk_393 rfl rfl (am_ok_v mi_393 (am_hl rfl (am_ccR i0 (am_ccI (am_ccI am_cats_0))) rfl) z27) (am_hc am_cats_0 rfl) (fun _ => ⟨rfl, hh_452⟩) (fun o1 hz9 => rm_393 x0 x1 x2 h24 o1 i0 hz9) ?_
                rcases am_cI_s hs11 with ⟨v28, h29, f30, hs12⟩ | hs12
                · clear hs11
                  refine Or.inl ⟨_, _, f30, ?_⟩
                  show am_W X _ 452 70 _ [(.int v28)] h29 _
                  refine aw_istore_n (lv1 := am_put1 _ 3 _) (pc1 := 71) at_452_70 rfl rfl ?_
                  refine aw_vload_n (pc1 := 72) at_452_71 (am_lk1 l0 rfl rfl) i0 rfl ?_
                  obtain ⟨z31, hs13⟩ := am_ift hs12
                  clear hs12
                  refine aw_call (F := fm_451 x0 h29) (t := true) (na := 1) (kd := 1) (as := [x0]) at_452_72 (am_k3v kb_451) mn_451 mk_451 rfl rfl (am_ok_v mi_451 (am_hl rfl (am_ccR i0 am_cats_0) rfl) z31) (am_hc am_cats_0 rfl) (fun _ => ⟨rfl, hh_452⟩) (fun o1 hz9 => rm_451 x0 h29 o1 i0 hz9) ?_
                  rcases am_cV_s hs13 with ⟨h33, f34, hs14⟩ | hs14
                  · clear hs13
                    refine Or.inl ⟨_, _, f34, ?_⟩
                    show am_W X _ 452 75 _ [] h33 _
                    refine aw_vload_n (pc1 := 76) at_452_75 (am_lk1 l0 rfl rfl) i0 rfl ?_
                    refine aw_iconst (v := 0) (pc1 := 77) at_452_76 (by decide) rfl ?_
                    refine aw_iload_n (pc1 := 78) at_452_77 (am_lk1 l1 rfl rfl) rfl ?_
                    obtain ⟨z35, hs15⟩ := am_ift hs14
                    clear hs14
                    refine aw_call (F := fm_443 N x0 0 x1 h33) (t := true) (na := 3) (kd := 1) (as := [x0, (.int 0), (.int x1)]) at_452_78 (am_k3v kb_443) mn_443 mk_443 rfl rfl (am_ok_v mi_443 (am_hl rfl (am_ccR i0 (am_ccI (am_ccI am_cats_0))) rfl) z35) (am_hc am_cats_0 rfl) (fun _ => ⟨rfl, hh_452⟩) (fun o1 hz9 => rm_443 x0 0 x1 h33 o1 i0 hz9) ?_
                    rcases am_cV_s hs15 with ⟨h37, f38, hs16⟩ | hs16
                    · clear hs15
                      refine Or.inl ⟨_, _, f38, ?_⟩
                      show am_W X _ 452 81 _ [] h37 _
                      refine aw_vload_n (pc1 := 82) at_452_81 (am_lk1 l0 rfl rfl) i0 rfl ?_
                      refine aw_iload_n (pc1 := 83) at_452_82 am_lk0 rfl ?_
                      refine aw_iload_n (pc1 := 84) at_452_83 am_lk0 rfl ?_
                      refine aw_vload_n (pc1 := 85) at_452_84 (am_lk1 l0 rfl rfl) i0 rfl ?_
                      obtain ⟨v39, e40, hs17⟩ := am_bind hs16
                      clear hs16
                      refine aw_pG (pc1 := 88) at_452_85 (am_vR_s e40).1 rfl ?_
                      refine aw_iload_n (pc1 := 89) at_452_88 am_lk0 rfl ?_
                      obtain ⟨v41, e42, hs18⟩ := am_bind hs17
                      clear hs17
                      refine aw_pA (pc1 := 90) at_452_89 (Or.inl ⟨rfl, rfl⟩) e42 rfl ?_
                      refine aw_iadd (v := (v28 + v41)) (pc1 := 91) at_452_90 rfl rfl ?_
                      obtain ⟨z43, hs19⟩ := am_ift hs18
                      clear hs18
                      refine aw_call (F := fm_443 N x0 v28 ((v28 + v41)) h37) (t := true) (na := 3) (kd := 1) (as := [x0, (.int v28), (.int (v28 + v41))]) at_452_91 (am_k3v kb_443) mn_443 mk_443 rfl rfl (am_ok_v mi_443 (am_hl rfl (am_ccR i0 (am_ccI (am_ccI am_cats_0))) rfl) z43) (am_hc am_cats_0 rfl) (fun _ => ⟨rfl, hh_452⟩) (fun o1 hz9 => rm_443 x0 v28 ((v28 + v41)) h37 o1 i0 hz9) ?_
                      rcases am_cV_s hs19 with ⟨h45, f46, hs20⟩ | hs20
                      · clear hs19
                        refine Or.inl ⟨_, _, f46, ?_⟩
                        show am_W X _ 452 94 _ [] h45 _
                        refine aw_vload_n (pc1 := 95) at_452_94 (am_lk1 l0 rfl rfl) i0 rfl ?_
                        refine aw_iload_n (pc1 := 96) at_452_95 (am_lk1 l1 rfl rfl) rfl ?_
                        refine aw_vload_n (pc1 := 97) at_452_96 (am_lk1 l0 rfl rfl) i0 rfl ?_
                        obtain ⟨v47, e48, hs21⟩ := am_bind hs20
                        clear hs20
                        refine aw_pG (pc1 := 100) at_452_97 (am_vR_s e48).1 rfl ?_
                        refine aw_iload_n (pc1 := 101) at_452_100 (am_lk1 l1 rfl rfl) rfl ?_
                        obtain ⟨v49, e50, hs22⟩ := am_bind hs21
                        clear hs21
                        refine aw_pA (pc1 := 102) at_452_101 (Or.inl ⟨rfl, rfl⟩) e50 rfl ?_
                        refine aw_iadd (v := (x1 + v49)) (pc1 := 103) at_452_102 rfl rfl ?_
                        refine aw_vload_n (pc1 := 104) at_452_103 (am_lk1 l0 rfl rfl) i0 rfl ?_
                        obtain ⟨v51, e52, hs23⟩ := am_bind hs22
                        clear hs22
                        refine aw_pG (pc1 := 107) at_452_104 (am_vI_s e52) rfl ?_
                        obtain ⟨z53, hs24⟩ := am_ift hs23
                        clear hs23
                        refine aw_call (F := fm_443 N x0 ((x1 + v49)) v51 h45) (t := true) (na := 3) (kd := 1) (as := [x0, (.int (x1 + v49)), (.int v51)]) at_452_107 (am_k3v kb_443) mn_443 mk_443 rfl rfl (am_ok_v mi_443 (am_hl rfl (am_ccR i0 (am_ccI (am_ccI am_cats_0))) rfl) z53) (am_hc am_cats_0 rfl) (fun _ => ⟨rfl, hh_452⟩) (fun o1 hz9 => rm_443 x0 ((x1 + v49)) v51 h45 o1 i0 hz9) ?_
                        rcases am_cV_s hs24 with ⟨h55, f56, hs25⟩ | hs25
                        · clear hs24
                          refine Or.inl ⟨_, _, f56, ?_⟩
                          show am_W X _ 452 110 _ [] h55 _
                          refine aw_vload_n (pc1 := 111) at_452_110 (am_lk1 l0 rfl rfl) i0 rfl ?_
                          refine aw_vload_n (pc1 := 112) at_452_111 (am_lk1 l0 rfl rfl) i0 rfl ?_
                          obtain ⟨z57, hs26⟩ := am_ift hs25
                          clear hs25
                          refine aw_call (F := fm_444 N x0 h55) (t := true) (na := 1) (kd := 1) (as := [x0]) at_452_112 (am_k3v kb_444) mn_444 mk_444 rfl rfl (am_ok_v mi_444 (am_hl rfl (am_ccR i0 am_cats_0) rfl) z57) (am_hc (am_ccR i0 am_cats_0) rfl) (fun _ => ⟨rfl, hh_452⟩) (fun o1 hz9 => rm_444 x0 h55 o1 i0 hz9) ?_
                          rcases am_cI_s hs26 with ⟨v58, h59, f60, hs27⟩ | hs27
                          · clear hs26
                            refine Or.inl ⟨_, _, f60, ?_⟩
                            show am_W X _ 452 115 _ [(.int v58), x0] h59 _
                            obtain ⟨h61, e62, hs28⟩ := am_bind hs27
                            clear hs27
                            refine aw_pP (pc1 := 118) at_452_115 e62 rfl ?_
                            exact rg_452_118 q_2 (fun z0 z1 z2 h o hs28 => ih z0 z1 z2 h o hs28) x0 x1 x2 h61 o (am_lk1 l0 rfl rfl) (am_lk1 l1 rfl rfl) (am_lk1 l2 rfl rfl) i0 hs28
                          · clear hs26
                            exact Or.inr hs27
                        · clear hs24
                          exact Or.inr hs25
                      · clear hs19
                        exact Or.inr hs20
                    · clear hs15
                      exact Or.inr hs16
                  · clear hs13
                    exact Or.inr hs14
                · clear hs11
                  exact Or.inr hs12
              · rw [if_neg c26] at hs10
                refine aw_iceq_f (pc1 := 61) at_452_58 c26 rfl ?_
                refine aw_goto at_452_61 ?_
                exact rg_452_118 q_2 (fun z0 z1 z2 h o hs10 => ih z0 z1 z2 h o hs10) x0 x1 x2 h24 o l0 l1 l2 i0 hs10
            · clear hs9
              exact Or.inr hs10
          · clear hs6
            exact Or.inr hs7
    · clear hs2
      exact Or.inr hs3
def fg_452_2 (N : Nat) : Nat → Value → Int32 → am_H → Option am_O
  | 0 => fun _ _ _ => none
  | K + 1 => fun x0 x1 h => ((am_vI (am_pG 3090 x0 h)).bind fun v1 => (if v1 ≤ x1 then (fg_452_130 N h) else ((am_vI (am_pG 3167 x0 h)).bind fun v4 => (if ¬ v4 = 0 then (fg_452_130 N h) else (fg_452_19 N (fg_452_2 N K) N x0 x1 0 h)))))
theorem rg_452_2 {X : am_X} {d : Nat} {N : Nat} : ∀ (K : Nat) (x0 : Value) (x1 : Int32) (h : am_H) (o : am_O), fg_452_2 N K x0 x1 h = some o → ∀ lv : am_LV, (lv.lookup 0 = some x0) → (lv.lookup 1 = some (.int x1)) → (am_isR x0 = true) → am_W X (d + 4) 452 2 lv [] h (fun q => q = o) := by
  intro K
  induction K with
  | zero => intro x0 x1 h o hs; cases hs
  | succ K ih =>
    intro x0 x1 h o hs lv l0 l1 i0
    unfold fg_452_2 at hs
    refine aw_iload_n (pc1 := 3) at_452_2 l1 rfl ?_
    refine aw_vload_n (pc1 := 4) at_452_3 l0 i0 rfl ?_
    obtain ⟨v1, e2, hs1⟩ := am_bind hs
    clear hs
    refine aw_pG (pc1 := 7) at_452_4 (am_vI_s e2) rfl ?_
    by_cases c3 : v1 ≤ x1
    · rw [if_pos c3] at hs1
      refine aw_icge_t at_452_7 c3 ?_
      exact rg_452_130 h o   hs1
    · rw [if_neg c3] at hs1
      refine aw_icge_f (pc1 := 10) at_452_7 c3 rfl ?_
      refine aw_vload_n (pc1 := 11) at_452_10 l0 i0 rfl ?_
      obtain ⟨v4, e5, hs2⟩ := am_bind hs1
      clear hs1
      refine aw_pG (pc1 := 14) at_452_11 (am_vI_s e5) rfl ?_
      by_cases c6 : ¬ v4 = 0
      · rw [if_pos c6] at hs2
        refine aw_ifne_t at_452_14 c6 ?_
        exact rg_452_130 h o   hs2
      · rw [if_neg c6] at hs2
        refine aw_ifne_f (pc1 := 17) at_452_14 c6 rfl ?_
        refine aw_iconst (v := 0) (pc1 := 18) at_452_17 (by decide) rfl ?_
        refine aw_istore_n (lv1 := am_put1 _ 2 _) (pc1 := 19) at_452_18 rfl rfl ?_
        exact rg_452_19 (fun z0 z1 h o hs2 => ih z0 z1 h o hs2) N x0 x1 0 h o hs2 _ (am_lk1 l0 rfl rfl) (am_lk1 l1 rfl rfl) am_lk0 i0
def fg_452_0 (N : Nat) (x0 : Value) (h : am_H) : Option am_O := (fg_452_2 N N x0 0 h)
theorem rg_452_0 {X : am_X} {d : Nat} {N : Nat} {lv : am_LV} (x0 : Value) (h : am_H) (o : am_O) (l0 : lv.lookup 0 = some x0) (i0 : am_isR x0 = true) (hs : fg_452_0 N x0 h = some o) : am_W X (d + 4) 452 0 lv [] h (fun q => q = o) := by
  unfold fg_452_0 at hs
  refine aw_iconst (v := 0) (pc1 := 1) at_452_0 (by decide) rfl ?_
  refine aw_istore_n (lv1 := am_put1 _ 1 _) (pc1 := 2) at_452_1 rfl rfl ?_
  exact rg_452_2 N x0 0 h o hs _ (am_lk1 l0 rfl (by rw [am_isRc i0]; rfl)) am_lk0 i0
def fm_452 (N : Nat) (y0 : Value) (h : am_H) : Option am_O := fg_452_0 N y0 h
theorem rm_452 {X : am_X} {d : Nat} {N : Nat} (y0 : Value) (h : am_H) (o : am_O) (i0 : am_isR y0 = true) (hs : fm_452 N y0 h = some o) : am_W X (d + 4) 452 0 (am_args 0 [y0]) [] h (fun q => q = o) := by
  rw [am_args_R i0]
  exact rg_452_0 y0 h o rfl i0 hs
def fg_454_32 (s0 : Int32) (h : am_H) : Option am_O := some (.inl (some (.int s0), h))
theorem rg_454_32 {X : am_X} {d : Nat} {lv : am_LV} (s0 : Int32) (h : am_H) (o : am_O) (hs : fg_454_32 s0 h = some o) : am_W X (d) 454 32 lv [(.int s0)] h (fun q => q = o) := by
  unfold fg_454_32 at hs
  cases hs
  exact aw_iret at_454_32 (by rw [rt_454]; rfl) rfl
def fg_454_0 (x0 : Int32) (h : am_H) : Option am_O := (if 5 ≤ x0 then (if 7 ≤ x0 then (if 14 ≤ x0 then (fg_454_32 ((3 + x0)) h) else (fg_454_32 2 h)) else (fg_454_32 1 h)) else (fg_454_32 0 h))
theorem rg_454_0 {X : am_X} {d : Nat} {lv : am_LV} (x0 : Int32) (h : am_H) (o : am_O) (l0 : lv.lookup 0 = some (.int x0)) (hs : fg_454_0 x0 h = some o) : am_W X (d) 454 0 lv [] h (fun q => q = o) := by
  unfold fg_454_0 at hs
  refine aw_iload_n (pc1 := 1) at_454_0 l0 rfl ?_
  refine aw_iconst (v := 5) (pc1 := 2) at_454_1 (by decide) rfl ?_
  by_cases c1 : 5 ≤ x0
  · rw [if_pos c1] at hs
    refine aw_icge_t at_454_2 c1 ?_
    refine aw_iload_n (pc1 := 10) at_454_9 l0 rfl ?_
    refine aw_bipush (v := 7) (pc1 := 12) at_454_10 (by decide) rfl ?_
    by_cases c2 : 7 ≤ x0
    · rw [if_pos c2] at hs
      refine aw_icge_t at_454_12 c2 ?_
      refine aw_iload_n (pc1 := 20) at_454_19 l0 rfl ?_
      refine aw_bipush (v := 14) (pc1 := 22) at_454_20 (by decide) rfl ?_
      by_cases c3 : 14 ≤ x0
      · rw [if_pos c3] at hs
        refine aw_icge_t at_454_22 c3 ?_
        refine aw_iconst (v := 3) (pc1 := 30) at_454_29 (by decide) rfl ?_
        refine aw_iload_n (pc1 := 31) at_454_30 l0 rfl ?_
        refine aw_iadd (v := (3 + x0)) (pc1 := 32) at_454_31 rfl rfl ?_
        exact rg_454_32 ((3 + x0)) h o   hs
      · rw [if_neg c3] at hs
        refine aw_icge_f (pc1 := 25) at_454_22 c3 rfl ?_
        refine aw_iconst (v := 2) (pc1 := 26) at_454_25 (by decide) rfl ?_
        refine aw_goto at_454_26 ?_
        exact rg_454_32 2 h o   hs
    · rw [if_neg c2] at hs
      refine aw_icge_f (pc1 := 15) at_454_12 c2 rfl ?_
      refine aw_iconst (v := 1) (pc1 := 16) at_454_15 (by decide) rfl ?_
      refine aw_goto at_454_16 ?_
      exact rg_454_32 1 h o   hs
  · rw [if_neg c1] at hs
    refine aw_icge_f (pc1 := 5) at_454_2 c1 rfl ?_
    refine aw_iconst (v := 0) (pc1 := 6) at_454_5 (by decide) rfl ?_
    refine aw_goto at_454_6 ?_
    exact rg_454_32 0 h o   hs
def fm_454 (y0 : Int32) (h : am_H) : Option am_O := fg_454_0 y0 h
theorem rm_454 {X : am_X} {d : Nat} (y0 : Int32) (h : am_H) (o : am_O) (hs : fm_454 y0 h = some o) : am_W X (d) 454 0 (am_args 0 [.int y0]) [] h (fun q => q = o) := by
  rw [am_args_I]
  exact rg_454_0 y0 h o rfl  hs
def fg_453_107 (N : Nat) (h : am_H) : Option am_O := some (.inl (none, h))
theorem rg_453_107 {X : am_X} {d : Nat} {N : Nat} {lv : am_LV} (h : am_H) (o : am_O) (hs : fg_453_107 N h = some o) : am_W X (d + 4) 453 107 lv [] h (fun q => q = o) := by
  unfold fg_453_107 at hs
  cases hs
  exact aw_vret at_453_107 rt_453 rfl
def fg_453_101 (N : Nat) (rec_2 : Value → Int32 → am_H → Option am_O) (x0 : Value) (x1 : Int32) (h : am_H) : Option am_O := (rec_2 x0 ((x1 + 1)) h)
theorem rg_453_101 {X : am_X} {d : Nat} {N : Nat} {rec_2 : Value → Int32 → am_H → Option am_O} (q_2 : ∀ (x0 : Value) (x1 : Int32) (h : am_H) (o : am_O), rec_2 x0 x1 h = some o → ∀ lv : am_LV, (lv.lookup 0 = some x0) → (lv.lookup 1 = some (.int x1)) → (am_isR x0 = true) → am_W X (d + 4) 453 2 lv [] h (fun q => q = o)) {lv : am_LV} (x0 : Value) (x1 : Int32) (h : am_H) (o : am_O) (l0 : lv.lookup 0 = some x0) (l1 : lv.lookup 1 = some (.int x1)) (i0 : am_isR x0 = true) (hs : fg_453_101 N rec_2 x0 x1 h = some o) : am_W X (d + 4) 453 101 lv [] h (fun q => q = o) := by
  unfold fg_453_101 at hs
  refine aw_iinc (v := (x1 + 1)) (c := 1) (lv1 := am_put1 _ 1 _) (pc1 := 104) at_453_101 l1 (by decide) rfl rfl rfl ?_
  refine aw_goto at_453_104 ?_
  exact q_2 x0 ((x1 + 1)) h o hs _ (am_lk1 l0 rfl (by rw [am_isRc i0]; rfl)) am_lk0 i0
def fg_453_95 (N : Nat) (rec_2 : Value → Int32 → am_H → Option am_O) (rec_19 : Value → Int32 → Int32 → am_H → Option am_O) (x0 : Value) (x1 : Int32) (x2 : Int32) (h : am_H) : Option am_O := (rec_19 x0 x1 ((x2 + 1)) h)
theorem rg_453_95 {X : am_X} {d : Nat} {N : Nat} {rec_2 : Value → Int32 → am_H → Option am_O} {rec_19 : Value → Int32 → Int32 → am_H → Option am_O} (q_2 : ∀ (x0 : Value) (x1 : Int32) (h : am_H) (o : am_O), rec_2 x0 x1 h = some o → ∀ lv : am_LV, (lv.lookup 0 = some x0) → (lv.lookup 1 = some (.int x1)) → (am_isR x0 = true) → am_W X (d + 4) 453 2 lv [] h (fun q => q = o)) (q_19 : ∀ (x0 : Value) (x1 : Int32) (x2 : Int32) (h : am_H) (o : am_O), rec_19 x0 x1 x2 h = some o → ∀ lv : am_LV, (lv.lookup 0 = some x0) → (lv.lookup 1 = some (.int x1)) → (lv.lookup 2 = some (.int x2)) → (am_isR x0 = true) → am_W X (d + 4) 453 19 lv [] h (fun q => q = o)) {lv : am_LV} (x0 : Value) (x1 : Int32) (x2 : Int32) (h : am_H) (o : am_O) (l0 : lv.lookup 0 = some x0) (l1 : lv.lookup 1 = some (.int x1)) (l2 : lv.lookup 2 = some (.int x2)) (i0 : am_isR x0 = true) (hs : fg_453_95 N rec_2 rec_19 x0 x1 x2 h = some o) : am_W X (d + 4) 453 95 lv [] h (fun q => q = o) := by
  unfold fg_453_95 at hs
  refine aw_iinc (v := (x2 + 1)) (c := 1) (lv1 := am_put1 _ 2 _) (pc1 := 98) at_453_95 l2 (by decide) rfl rfl rfl ?_
  refine aw_goto at_453_98 ?_
  exact q_19 x0 x1 ((x2 + 1)) h o hs _ (am_lk1 l0 rfl rfl) (am_lk1 l1 rfl rfl) am_lk0 i0
def fg_453_86 (N : Nat) (rec_2 : Value → Int32 → am_H → Option am_O) (rec_19 : Value → Int32 → Int32 → am_H → Option am_O) (x0 : Value) (x1 : Int32) (x2 : Int32) (s0 : Value) (s1 : Int32) (s2 : Int32) (h : am_H) : Option am_O := ((am_pS 0 s0 s1 s2 h).bind fun h1 => (if am_pOk 12 x0 h1 then am_cI true (fm_444 N x0 h1) (fun v4 h5 => ((am_pP 3167 x0 (.int v4) h5).bind fun h7 => (fg_453_95 N rec_2 rec_19 x0 x1 x2 h7))) else none))
theorem rg_453_86 {X : am_X} {d : Nat} {N : Nat} {rec_2 : Value → Int32 → am_H → Option am_O} {rec_19 : Value → Int32 → Int32 → am_H → Option am_O} (q_2 : ∀ (x0 : Value) (x1 : Int32) (h : am_H) (o : am_O), rec_2 x0 x1 h = some o → ∀ lv : am_LV, (lv.lookup 0 = some x0) → (lv.lookup 1 = some (.int x1)) → (am_isR x0 = true) → am_W X (d + 4) 453 2 lv [] h (fun q => q = o)) (q_19 : ∀ (x0 : Value) (x1 : Int32) (x2 : Int32) (h : am_H) (o : am_O), rec_19 x0 x1 x2 h = some o → ∀ lv : am_LV, (lv.lookup 0 = some x0) → (lv.lookup 1 = some (.int x1)) → (lv.lookup 2 = some (.int x2)) → (am_isR x0 = true) → am_W X (d + 4) 453 19 lv [] h (fun q => q = o)) {lv : am_LV} (x0 : Value) (x1 : Int32) (x2 : Int32) (s0 : Value) (s1 : Int32) (s2 : Int32) (h : am_H) (o : am_O) (l0 : lv.lookup 0 = some x0) (l1 : lv.lookup 1 = some (.int x1)) (l2 : lv.lookup 2 = some (.int x2)) (i0 : am_isR x0 = true) (j0 : am_isR s0 = true) (hs : fg_453_86 N rec_2 rec_19 x0 x1 x2 s0 s1 s2 h = some o) : am_W X (d + 4) 453 86 lv [(.int s2), (.int s1), s0] h (fun q => q = o) := by
  unfold fg_453_86 at hs
  obtain ⟨h1, e2, hs1⟩ := am_bind hs
  clear hs
  refine aw_pS (pc1 := 87) at_453_86 (Or.inl ⟨rfl, rfl⟩) e2 rfl ?_
  refine aw_vload_n (pc1 := 88) at_453_87 l0 i0 rfl ?_
  refine aw_vload_n (pc1 := 89) at_453_88 l0 i0 rfl ?_
  obtain ⟨z3, hs2⟩ := am_ift hs1
  clear hs1
  refine aw_call (F := fm_444 N x0 h1) (t := true) (na := 1) (kd := 1) (as := [x0]) at_453_89 (am_k3v kb_444) mn_444 mk_444 rfl rfl (am_ok_v mi_444 (am_hl rfl (am_ccR i0 am_cats_0) rfl) z3) (am_hc (am_ccR i0 am_cats_0) rfl) (fun _ => ⟨rfl, hh_453⟩) (fun o1 hz9 => rm_444 x0 h1 o1 i0 hz9) ?_
  rcases am_cI_s hs2 with ⟨v4, h5, f6, hs3⟩ | hs3
  · clear hs2
    refine Or.inl ⟨_, _, f6, ?_⟩
    show am_W X _ 453 92 _ [(.int v4), x0] h5 _
    obtain ⟨h7, e8, hs4⟩ := am_bind hs3
    clear hs3
    refine aw_pP (pc1 := 95) at_453_92 e8 rfl ?_
    exact rg_453_95 q_2 q_19 x0 x1 x2 h7 o l0 l1 l2 i0 hs4
  · clear hs2
    exact Or.inr hs3
def fg_453_19 (N : Nat) (rec_2 : Value → Int32 → am_H → Option am_O) : Nat → Value → Int32 → Int32 → am_H → Option am_O
  | 0 => fun _ _ _ _ => none
  | K + 1 => fun x0 x1 x2 h => (if 14 ≤ x2 then (fg_453_101 N rec_2 x0 x1 h) else ((am_vI (am_pG 3167 x0 h)).bind fun v2 => (if ¬ v2 = 0 then (fg_453_101 N rec_2 x0 x1 h) else ((am_vR (am_pG 3093 x0 h)).bind fun v5 => ((am_pA 0 v5 x1 h).bind fun v7 => (if x2 = v7 then (fg_453_95 N rec_2 (fg_453_19 N rec_2 K) x0 x1 x2 h) else am_cI false (fm_454 x2 h) (fun v10 h11 => ((am_vR (am_pG 3093 x0 h11)).bind fun v13 => ((am_pA 0 v13 x1 h11).bind fun v15 => am_cI false (fm_454 v15 h11) (fun v17 h18 => (if v10 = v17 then (if am_pOk 12 x0 h18 then am_cV true (fm_442 N x0 h18) (fun h23 => ((am_vR (am_pG 3088 x0 h23)).bind fun v25 => ((am_pS 0 v25 x1 x2 h23).bind fun h27 => ((am_vR (am_pG 3089 x0 h27)).bind fun v29 => (if ¬ x2 = 0 then (fg_453_86 N rec_2 (fg_453_19 N rec_2 K) x0 x1 x2 v29 x1 0 h27) else (fg_453_86 N rec_2 (fg_453_19 N rec_2 K) x0 x1 x2 v29 x1 1 h27)))))) else none) else (fg_453_95 N rec_2 (fg_453_19 N rec_2 K) x0 x1 x2 h18))))))))))))
theorem rg_453_19 {X : am_X} {d : Nat} {N : Nat} {rec_2 : Value → Int32 → am_H → Option am_O} (q_2 : ∀ (x0 : Value) (x1 : Int32) (h : am_H) (o : am_O), rec_2 x0 x1 h = some o → ∀ lv : am_LV, (lv.lookup 0 = some x0) → (lv.lookup 1 = some (.int x1)) → (am_isR x0 = true) → am_W X (d + 4) 453 2 lv [] h (fun q => q = o)) : ∀ (K : Nat) (x0 : Value) (x1 : Int32) (x2 : Int32) (h : am_H) (o : am_O), fg_453_19 N rec_2 K x0 x1 x2 h = some o → ∀ lv : am_LV, (lv.lookup 0 = some x0) → (lv.lookup 1 = some (.int x1)) → (lv.lookup 2 = some (.int x2)) → (am_isR x0 = true) → am_W X (d + 4) 453 19 lv [] h (fun q => q = o) := by
  intro K
  induction K with
  | zero => intro x0 x1 x2 h o hs; cases hs
  | succ K ih =>
    intro x0 x1 x2 h o hs lv l0 l1 l2 i0
    unfold fg_453_19 at hs
    refine aw_iload_n (pc1 := 20) at_453_19 l2 rfl ?_
    refine aw_bipush (v := 14) (pc1 := 22) at_453_20 (by decide) rfl ?_
    by_cases c1 : 14 ≤ x2
    · rw [if_pos c1] at hs
      refine aw_icge_t at_453_22 c1 ?_
      exact rg_453_101 q_2 x0 x1 h o l0 l1 i0 hs
    · rw [if_neg c1] at hs
      refine aw_icge_f (pc1 := 25) at_453_22 c1 rfl ?_
      refine aw_vload_n (pc1 := 26) at_453_25 l0 i0 rfl ?_
      obtain ⟨v2, e3, hs1⟩ := am_bind hs
      clear hs
      refine aw_pG (pc1 := 29) at_453_26 (am_vI_s e3) rfl ?_
      by_cases c4 : ¬ v2 = 0
      · rw [if_pos c4] at hs1
        refine aw_ifne_t at_453_29 c4 ?_
        exact rg_453_101 q_2 x0 x1 h o l0 l1 i0 hs1
      · rw [if_neg c4] at hs1
        refine aw_ifne_f (pc1 := 32) at_453_29 c4 rfl ?_
        refine aw_iload_n (pc1 := 33) at_453_32 l2 rfl ?_
        refine aw_vload_n (pc1 := 34) at_453_33 l0 i0 rfl ?_
        obtain ⟨v5, e6, hs2⟩ := am_bind hs1
        clear hs1
        refine aw_pG (pc1 := 37) at_453_34 (am_vR_s e6).1 rfl ?_
        refine aw_iload_n (pc1 := 38) at_453_37 l1 rfl ?_
        obtain ⟨v7, e8, hs3⟩ := am_bind hs2
        clear hs2
        refine aw_pA (pc1 := 39) at_453_38 (Or.inl ⟨rfl, rfl⟩) e8 rfl ?_
        by_cases c9 : x2 = v7
        · rw [if_pos c9] at hs3
          refine aw_iceq_t at_453_39 c9 ?_
          exact rg_453_95 q_2 (fun z0 z1 z2 h o hs3 => ih z0 z1 z2 h o hs3) x0 x1 x2 h o l0 l1 l2 i0 hs3
        · rw [if_neg c9] at hs3
          refine aw_iceq_f (pc1 := 42) at_453_39 c9 rfl ?_
          refine aw_iload_n (pc1 := 43) at_453_42 l2 rfl ?_
          refine aw_call (F := fm_454 x2 h) (t := false) (na := 1) (kd := 0) (as := [(.int x2)]) at_453_43 (am_k3s kb_454) mn_454 mk_454 rfl rfl (am_ok_s mi_454 (am_hl rfl (am_ccI am_cats_0) rfl)) (am_hc am_cats_0 rfl) (fun hz9 => by cases hz9) (fun o1 hz9 => rm_454 x2 h o1  hz9) ?_
          rcases am_cI_s hs3 with ⟨v10, h11, f12, hs4⟩ | hs4
          · clear hs3
            refine Or.inl ⟨_, _, f12, ?_⟩
            show am_W X _ 453 46 _ [(.int v10)] h11 _
            refine aw_vload_n (pc1 := 47) at_453_46 l0 i0 rfl ?_
            obtain ⟨v13, e14, hs5⟩ := am_bind hs4
            clear hs4
            refine aw_pG (pc1 := 50) at_453_47 (am_vR_s e14).1 rfl ?_
            refine aw_iload_n (pc1 := 51) at_453_50 l1 rfl ?_
            obtain ⟨v15, e16, hs6⟩ := am_bind hs5
            clear hs5
            refine aw_pA (pc1 := 52) at_453_51 (Or.inl ⟨rfl, rfl⟩) e16 rfl ?_
            refine aw_call (F := fm_454 v15 h11) (t := false) (na := 1) (kd := 0) (as := [(.int v15)]) at_453_52 (am_k3s kb_454) mn_454 mk_454 rfl rfl (am_ok_s mi_454 (am_hl rfl (am_ccI am_cats_0) rfl)) (am_hc (am_ccI am_cats_0) rfl) (fun hz9 => by cases hz9) (fun o1 hz9 => rm_454 v15 h11 o1  hz9) ?_
            rcases am_cI_s hs6 with ⟨v17, h18, f19, hs7⟩ | hs7
            · clear hs6
              refine Or.inl ⟨_, _, f19, ?_⟩
              show am_W X _ 453 55 _ [(.int v17), (.int v10)] h18 _
              by_cases c20 : v10 = v17
              · rw [if_pos c20] at hs7
                refine aw_iceq_t at_453_55 c20 ?_
                refine aw_vload_n (pc1 := 62) at_453_61 l0 i0 rfl ?_
                obtain ⟨z21, hs8⟩ := am_ift hs7
                clear hs7
                refine aw_call (F := fm_442 N x0 h18) (t := true) (na := 1) (kd := 1) (as := [x0]) at_453_62 (am_k3v kb_442) mn_442 mk_442 rfl rfl (am_ok_v mi_442 (am_hl rfl (am_ccR i0 am_cats_0) rfl) z21) (am_hc am_cats_0 rfl) (fun _ => ⟨rfl, hh_453⟩) (fun o1 hz9 => rm_442 x0 h18 o1 i0 hz9) ?_
                rcases am_cV_s hs8 with ⟨h23, f24, hs9⟩ | hs9
                · clear hs8
                  refine Or.inl ⟨_, _, f24, ?_⟩
                  show am_W X _ 453 65 _ [] h23 _
                  refine aw_vload_n (pc1 := 66) at_453_65 l0 i0 rfl ?_
                  obtain ⟨v25, e26, hs10⟩ := am_bind hs9
                  clear hs9
                  refine aw_pG (pc1 := 69) at_453_66 (am_vR_s e26).1 rfl ?_
                  refine aw_iload_n (pc1 := 70) at_453_69 l1 rfl ?_
                  refine aw_iload_n (pc1 := 71) at_453_70 l2 rfl ?_
                  obtain ⟨h27, e28, hs11⟩ := am_bind hs10
                  clear hs10
                  refine aw_pS (pc1 := 72) at_453_71 (Or.inl ⟨rfl, rfl⟩) e28 rfl ?_
                  refine aw_vload_n (pc1 := 73) at_453_72 l0 i0 rfl ?_
                  obtain ⟨v29, e30, hs12⟩ := am_bind hs11
                  clear hs11
                  refine aw_pG (pc1 := 76) at_453_73 (am_vR_s e30).1 rfl ?_
                  refine aw_iload_n (pc1 := 77) at_453_76 l1 rfl ?_
                  refine aw_iload_n (pc1 := 78) at_453_77 l2 rfl ?_
                  by_cases c31 : ¬ x2 = 0
                  · rw [if_pos c31] at hs12
                    refine aw_ifne_t at_453_78 c31 ?_
                    refine aw_iconst (v := 0) (pc1 := 86) at_453_85 (by decide) rfl ?_
                    exact rg_453_86 q_2 (fun z0 z1 z2 h o hs12 => ih z0 z1 z2 h o hs12) x0 x1 x2 v29 x1 0 h27 o l0 l1 l2 i0 (am_vR_s e30).2 hs12
                  · rw [if_neg c31] at hs12
                    refine aw_ifne_f (pc1 := 81) at_453_78 c31 rfl ?_
                    refine aw_iconst (v := 1) (pc1 := 82) at_453_81 (by decide) rfl ?_
                    refine aw_goto at_453_82 ?_
                    exact rg_453_86 q_2 (fun z0 z1 z2 h o hs12 => ih z0 z1 z2 h o hs12) x0 x1 x2 v29 x1 1 h27 o l0 l1 l2 i0 (am_vR_s e30).2 hs12
                · clear hs8
                  exact Or.inr hs9
              · rw [if_neg c20] at hs7
                refine aw_iceq_f (pc1 := 58) at_453_55 c20 rfl ?_
                refine aw_goto at_453_58 ?_
                exact rg_453_95 q_2 (fun z0 z1 z2 h o hs7 => ih z0 z1 z2 h o hs7) x0 x1 x2 h18 o l0 l1 l2 i0 hs7
            · clear hs6
              exact Or.inr hs7
          · clear hs3
            exact Or.inr hs4
def fg_453_2 (N : Nat) : Nat → Value → Int32 → am_H → Option am_O
  | 0 => fun _ _ _ => none
  | K + 1 => fun x0 x1 h => ((am_vI (am_pG 3090 x0 h)).bind fun v1 => (if v1 ≤ x1 then (fg_453_107 N h) else ((am_vI (am_pG 3167 x0 h)).bind fun v4 => (if ¬ v4 = 0 then (fg_453_107 N h) else (fg_453_19 N (fg_453_2 N K) N x0 x1 0 h)))))
theorem rg_453_2 {X : am_X} {d : Nat} {N : Nat} : ∀ (K : Nat) (x0 : Value) (x1 : Int32) (h : am_H) (o : am_O), fg_453_2 N K x0 x1 h = some o → ∀ lv : am_LV, (lv.lookup 0 = some x0) → (lv.lookup 1 = some (.int x1)) → (am_isR x0 = true) → am_W X (d + 4) 453 2 lv [] h (fun q => q = o) := by
  intro K
  induction K with
  | zero => intro x0 x1 h o hs; cases hs
  | succ K ih =>
    intro x0 x1 h o hs lv l0 l1 i0
    unfold fg_453_2 at hs
    refine aw_iload_n (pc1 := 3) at_453_2 l1 rfl ?_
    refine aw_vload_n (pc1 := 4) at_453_3 l0 i0 rfl ?_
    obtain ⟨v1, e2, hs1⟩ := am_bind hs
    clear hs
    refine aw_pG (pc1 := 7) at_453_4 (am_vI_s e2) rfl ?_
    by_cases c3 : v1 ≤ x1
    · rw [if_pos c3] at hs1
      refine aw_icge_t at_453_7 c3 ?_
      exact rg_453_107 h o   hs1
    · rw [if_neg c3] at hs1
      refine aw_icge_f (pc1 := 10) at_453_7 c3 rfl ?_
      refine aw_vload_n (pc1 := 11) at_453_10 l0 i0 rfl ?_
      obtain ⟨v4, e5, hs2⟩ := am_bind hs1
      clear hs1
      refine aw_pG (pc1 := 14) at_453_11 (am_vI_s e5) rfl ?_
      by_cases c6 : ¬ v4 = 0
      · rw [if_pos c6] at hs2
        refine aw_ifne_t at_453_14 c6 ?_
        exact rg_453_107 h o   hs2
      · rw [if_neg c6] at hs2
        refine aw_ifne_f (pc1 := 17) at_453_14 c6 rfl ?_
        refine aw_iconst (v := 0) (pc1 := 18) at_453_17 (by decide) rfl ?_
        refine aw_istore_n (lv1 := am_put1 _ 2 _) (pc1 := 19) at_453_18 rfl rfl ?_
        exact rg_453_19 (fun z0 z1 h o hs2 => ih z0 z1 h o hs2) N x0 x1 0 h o hs2 _ (am_lk1 l0 rfl rfl) (am_lk1 l1 rfl rfl) am_lk0 i0
def fg_453_0 (N : Nat) (x0 : Value) (h : am_H) : Option am_O := (fg_453_2 N N x0 0 h)
theorem rg_453_0 {X : am_X} {d : Nat} {N : Nat} {lv : am_LV} (x0 : Value) (h : am_H) (o : am_O) (l0 : lv.lookup 0 = some x0) (i0 : am_isR x0 = true) (hs : fg_453_0 N x0 h = some o) : am_W X (d + 4) 453 0 lv [] h (fun q => q = o) := by
  unfold fg_453_0 at hs
  refine aw_iconst (v := 0) (pc1 := 1) at_453_0 (by decide) rfl ?_
  refine aw_istore_n (lv1 := am_put1 _ 1 _) (pc1 := 2) at_453_1 rfl rfl ?_
  exact rg_453_2 N x0 0 h o hs _ (am_lk1 l0 rfl (by rw [am_isRc i0]; rfl)) am_lk0 i0
def fm_453 (N : Nat) (y0 : Value) (h : am_H) : Option am_O := fg_453_0 N y0 h
theorem rm_453 {X : am_X} {d : Nat} {N : Nat} (y0 : Value) (h : am_H) (o : am_O) (i0 : am_isR y0 = true) (hs : fm_453 N y0 h = some o) : am_W X (d + 4) 453 0 (am_args 0 [y0]) [] h (fun q => q = o) := by
  rw [am_args_R i0]
  exact rg_453_0 y0 h o rfl i0 hs
def fg_456_108 (N : Nat) (rec_6 : Value → Int32 → Int32 → Int32 → am_H → Option am_O) (x0 : Value) (x1 : Int32) (x2 : Int32) (x3 : Int32) (h : am_H) : Option am_O := (rec_6 x0 x1 x2 ((x3 + 1)) h)
theorem rg_456_108 {X : am_X} {d : Nat} {N : Nat} {rec_6 : Value → Int32 → Int32 → Int32 → am_H → Option am_O} (q_6 : ∀ (x0 : Value) (x1 : Int32) (x2 : Int32) (x3 : Int32) (h : am_H) (o : am_O), rec_6 x0 x1 x2 x3 h = some o → ∀ lv : am_LV, (lv.lookup 0 = some x0) → (lv.lookup 1 = some (.int x1)) → (lv.lookup 2 = some (.int x2)) → (lv.lookup 3 = some (.int x3)) → (am_isR x0 = true) → am_W X (d + 1) 456 6 lv [] h (fun q => q = o)) {lv : am_LV} (x0 : Value) (x1 : Int32) (x2 : Int32) (x3 : Int32) (h : am_H) (o : am_O) (l0 : lv.lookup 0 = some x0) (l1 : lv.lookup 1 = some (.int x1)) (l2 : lv.lookup 2 = some (.int x2)) (l3 : lv.lookup 3 = some (.int x3)) (i0 : am_isR x0 = true) (hs : fg_456_108 N rec_6 x0 x1 x2 x3 h = some o) : am_W X (d + 1) 456 108 lv [] h (fun q => q = o) := by
  unfold fg_456_108 at hs
  refine aw_iinc (v := (x3 + 1)) (c := 1) (lv1 := am_put1 _ 3 _) (pc1 := 111) at_456_108 l3 (by decide) rfl rfl rfl ?_
  refine aw_goto at_456_111 ?_
  exact q_6 x0 x1 x2 ((x3 + 1)) h o hs _ (am_lk1 l0 rfl rfl) (am_lk1 l1 rfl rfl) (am_lk1 l2 rfl rfl) am_lk0 i0
def fg_456_96 (N : Nat) (rec_6 : Value → Int32 → Int32 → Int32 → am_H → Option am_O) (x0 : Value) (x1 : Int32) (x2 : Int32) (x3 : Int32) (x4 : Int32) (h : am_H) : Option am_O := ((am_vR (am_pG 3093 x0 h)).bind fun v1 => ((am_pA 0 v1 x3 h).bind fun v3 => (if am_pOk 12 x0 h then am_cV true (fm_335 x0 v3 x4 h) (fun h7 => (fg_456_108 N rec_6 x0 x1 x2 x3 h7)) else none)))
theorem rg_456_96 {X : am_X} {d : Nat} {N : Nat} {rec_6 : Value → Int32 → Int32 → Int32 → am_H → Option am_O} (q_6 : ∀ (x0 : Value) (x1 : Int32) (x2 : Int32) (x3 : Int32) (h : am_H) (o : am_O), rec_6 x0 x1 x2 x3 h = some o → ∀ lv : am_LV, (lv.lookup 0 = some x0) → (lv.lookup 1 = some (.int x1)) → (lv.lookup 2 = some (.int x2)) → (lv.lookup 3 = some (.int x3)) → (am_isR x0 = true) → am_W X (d + 1) 456 6 lv [] h (fun q => q = o)) {lv : am_LV} (x0 : Value) (x1 : Int32) (x2 : Int32) (x3 : Int32) (x4 : Int32) (h : am_H) (o : am_O) (l0 : lv.lookup 0 = some x0) (l1 : lv.lookup 1 = some (.int x1)) (l2 : lv.lookup 2 = some (.int x2)) (l3 : lv.lookup 3 = some (.int x3)) (l4 : lv.lookup 4 = some (.int x4)) (i0 : am_isR x0 = true) (hs : fg_456_96 N rec_6 x0 x1 x2 x3 x4 h = some o) : am_W X (d + 1) 456 96 lv [] h (fun q => q = o) := by
  unfold fg_456_96 at hs
  refine aw_vload_n (pc1 := 97) at_456_96 l0 i0 rfl ?_
  refine aw_vload_n (pc1 := 98) at_456_97 l0 i0 rfl ?_
  obtain ⟨v1, e2, hs1⟩ := am_bind hs
  clear hs
  refine aw_pG (pc1 := 101) at_456_98 (am_vR_s e2).1 rfl ?_
  refine aw_iload_n (pc1 := 102) at_456_101 l3 rfl ?_
  obtain ⟨v3, e4, hs2⟩ := am_bind hs1
  clear hs1
  refine aw_pA (pc1 := 103) at_456_102 (Or.inl ⟨rfl, rfl⟩) e4 rfl ?_
  refine aw_iload (pc1 := 105) at_456_103 l4 rfl ?_
  obtain ⟨z5, hs3⟩ := am_ift hs2
  clear hs2
  refine aw_call (F := fm_335 x0 v3 x4 h) (t := true) (na := 3) (kd := 1) (as := [x0, (.int v3), (.int x4)]) at_456_105 (am_k3v kb_335) mn_335 mk_335 rfl rfl (am_ok_v mi_335 (am_hl rfl (am_ccR i0 (am_ccI (am_ccI am_cats_0))) rfl) z5) (am_hc am_cats_0 rfl) (fun _ => ⟨rfl, hh_456⟩) (fun o1 hz9 => rm_335 x0 v3 x4 h o1 i0 hz9) ?_
  rcases am_cV_s hs3 with ⟨h7, f8, hs4⟩ | hs4
  · clear hs3
    refine Or.inl ⟨_, _, f8, ?_⟩
    show am_W X _ 456 108 _ [] h7 _
    exact rg_456_108 q_6 x0 x1 x2 x3 h7 o l0 l1 l2 l3 i0 hs4
  · clear hs3
    exact Or.inr hs4
def fg_456_94 (N : Nat) (rec_6 : Value → Int32 → Int32 → Int32 → am_H → Option am_O) (x0 : Value) (x1 : Int32) (x2 : Int32) (x3 : Int32) (s0 : Int32) (h : am_H) : Option am_O := (fg_456_96 N rec_6 x0 x1 x2 x3 s0 h)
theorem rg_456_94 {X : am_X} {d : Nat} {N : Nat} {rec_6 : Value → Int32 → Int32 → Int32 → am_H → Option am_O} (q_6 : ∀ (x0 : Value) (x1 : Int32) (x2 : Int32) (x3 : Int32) (h : am_H) (o : am_O), rec_6 x0 x1 x2 x3 h = some o → ∀ lv : am_LV, (lv.lookup 0 = some x0) → (lv.lookup 1 = some (.int x1)) → (lv.lookup 2 = some (.int x2)) → (lv.lookup 3 = some (.int x3)) → (am_isR x0 = true) → am_W X (d + 1) 456 6 lv [] h (fun q => q = o)) {lv : am_LV} (x0 : Value) (x1 : Int32) (x2 : Int32) (x3 : Int32) (s0 : Int32) (h : am_H) (o : am_O) (l0 : lv.lookup 0 = some x0) (l1 : lv.lookup 1 = some (.int x1)) (l2 : lv.lookup 2 = some (.int x2)) (l3 : lv.lookup 3 = some (.int x3)) (i0 : am_isR x0 = true) (hs : fg_456_94 N rec_6 x0 x1 x2 x3 s0 h = some o) : am_W X (d + 1) 456 94 lv [(.int s0)] h (fun q => q = o) := by
  unfold fg_456_94 at hs
  refine aw_istore (lv1 := am_put1 _ 4 _) (pc1 := 96) at_456_94 rfl rfl ?_
  exact rg_456_96 q_6 x0 x1 x2 x3 s0 h o (am_lk1 l0 rfl rfl) (am_lk1 l1 rfl rfl) (am_lk1 l2 rfl rfl) (am_lk1 l3 rfl rfl) am_lk0 i0 hs
def fg_456_77 (N : Nat) (rec_6 : Value → Int32 → Int32 → Int32 → am_H → Option am_O) (x0 : Value) (x1 : Int32) (x2 : Int32) (x3 : Int32) (x4 : Int32) (x5 : Int32) (h : am_H) : Option am_O := (if x5 < (x1 + x2) then (fg_456_94 N rec_6 x0 x1 x2 x3 x4 h) else (fg_456_94 N rec_6 x0 x1 x2 x3 ((x4 - x2)) h))
theorem rg_456_77 {X : am_X} {d : Nat} {N : Nat} {rec_6 : Value → Int32 → Int32 → Int32 → am_H → Option am_O} (q_6 : ∀ (x0 : Value) (x1 : Int32) (x2 : Int32) (x3 : Int32) (h : am_H) (o : am_O), rec_6 x0 x1 x2 x3 h = some o → ∀ lv : am_LV, (lv.lookup 0 = some x0) → (lv.lookup 1 = some (.int x1)) → (lv.lookup 2 = some (.int x2)) → (lv.lookup 3 = some (.int x3)) → (am_isR x0 = true) → am_W X (d + 1) 456 6 lv [] h (fun q => q = o)) {lv : am_LV} (x0 : Value) (x1 : Int32) (x2 : Int32) (x3 : Int32) (x4 : Int32) (x5 : Int32) (h : am_H) (o : am_O) (l0 : lv.lookup 0 = some x0) (l1 : lv.lookup 1 = some (.int x1)) (l2 : lv.lookup 2 = some (.int x2)) (l3 : lv.lookup 3 = some (.int x3)) (l4 : lv.lookup 4 = some (.int x4)) (l5 : lv.lookup 5 = some (.int x5)) (i0 : am_isR x0 = true) (hs : fg_456_77 N rec_6 x0 x1 x2 x3 x4 x5 h = some o) : am_W X (d + 1) 456 77 lv [] h (fun q => q = o) := by
  unfold fg_456_77 at hs
  refine aw_iload (pc1 := 79) at_456_77 l5 rfl ?_
  refine aw_iload_n (pc1 := 80) at_456_79 l1 rfl ?_
  refine aw_iload_n (pc1 := 81) at_456_80 l2 rfl ?_
  refine aw_iadd (v := (x1 + x2)) (pc1 := 82) at_456_81 rfl rfl ?_
  by_cases c1 : x5 < (x1 + x2)
  · rw [if_pos c1] at hs
    refine aw_iclt_t at_456_82 c1 ?_
    refine aw_iload (pc1 := 94) at_456_92 l4 rfl ?_
    exact rg_456_94 q_6 x0 x1 x2 x3 x4 h o l0 l1 l2 l3 i0 hs
  · rw [if_neg c1] at hs
    refine aw_iclt_f (pc1 := 85) at_456_82 c1 rfl ?_
    refine aw_iload (pc1 := 87) at_456_85 l4 rfl ?_
    refine aw_iload_n (pc1 := 88) at_456_87 l2 rfl ?_
    refine aw_isub (v := (x4 - x2)) (pc1 := 89) at_456_88 rfl rfl ?_
    refine aw_goto at_456_89 ?_
    exact rg_456_94 q_6 x0 x1 x2 x3 ((x4 - x2)) h o l0 l1 l2 l3 i0 hs
def fg_456_29 (N : Nat) (rec_6 : Value → Int32 → Int32 → Int32 → am_H → Option am_O) (x0 : Value) (x1 : Int32) (x2 : Int32) (x3 : Int32) (h : am_H) : Option am_O := ((am_vR (am_pG 3094 x0 h)).bind fun v1 => ((am_pA 0 v1 x3 h).bind fun v3 => ((am_vR (am_pG 3093 x0 h)).bind fun v5 => ((am_pA 0 v5 x3 h).bind fun v7 => (if v7 ≤ 16 then (fg_456_96 N rec_6 x0 x1 x2 x3 v3 h) else (if x1 ≤ x3 then (fg_456_96 N rec_6 x0 x1 x2 x3 v3 h) else (if ((x3 + 1) + v3) ≤ x1 then (fg_456_77 N rec_6 x0 x1 x2 x3 v3 (((x3 + 1) + v3)) h) else (if (x1 + x2) ≤ ((x3 + 1) + v3) then (fg_456_77 N rec_6 x0 x1 x2 x3 v3 (((x3 + 1) + v3)) h) else some (.inl (some (.int 0), h))))))))))
theorem rg_456_29 {X : am_X} {d : Nat} {N : Nat} {rec_6 : Value → Int32 → Int32 → Int32 → am_H → Option am_O} (q_6 : ∀ (x0 : Value) (x1 : Int32) (x2 : Int32) (x3 : Int32) (h : am_H) (o : am_O), rec_6 x0 x1 x2 x3 h = some o → ∀ lv : am_LV, (lv.lookup 0 = some x0) → (lv.lookup 1 = some (.int x1)) → (lv.lookup 2 = some (.int x2)) → (lv.lookup 3 = some (.int x3)) → (am_isR x0 = true) → am_W X (d + 1) 456 6 lv [] h (fun q => q = o)) {lv : am_LV} (x0 : Value) (x1 : Int32) (x2 : Int32) (x3 : Int32) (h : am_H) (o : am_O) (l0 : lv.lookup 0 = some x0) (l1 : lv.lookup 1 = some (.int x1)) (l2 : lv.lookup 2 = some (.int x2)) (l3 : lv.lookup 3 = some (.int x3)) (i0 : am_isR x0 = true) (hs : fg_456_29 N rec_6 x0 x1 x2 x3 h = some o) : am_W X (d + 1) 456 29 lv [] h (fun q => q = o) := by
  unfold fg_456_29 at hs
  refine aw_vload_n (pc1 := 30) at_456_29 l0 i0 rfl ?_
  obtain ⟨v1, e2, hs1⟩ := am_bind hs
  clear hs
  refine aw_pG (pc1 := 33) at_456_30 (am_vR_s e2).1 rfl ?_
  refine aw_iload_n (pc1 := 34) at_456_33 l3 rfl ?_
  obtain ⟨v3, e4, hs2⟩ := am_bind hs1
  clear hs1
  refine aw_pA (pc1 := 35) at_456_34 (Or.inl ⟨rfl, rfl⟩) e4 rfl ?_
  refine aw_istore (lv1 := am_put1 _ 4 _) (pc1 := 37) at_456_35 rfl rfl ?_
  refine aw_vload_n (pc1 := 38) at_456_37 (am_lk1 l0 rfl rfl) i0 rfl ?_
  obtain ⟨v5, e6, hs3⟩ := am_bind hs2
  clear hs2
  refine aw_pG (pc1 := 41) at_456_38 (am_vR_s e6).1 rfl ?_
  refine aw_iload_n (pc1 := 42) at_456_41 (am_lk1 l3 rfl rfl) rfl ?_
  obtain ⟨v7, e8, hs4⟩ := am_bind hs3
  clear hs3
  refine aw_pA (pc1 := 43) at_456_42 (Or.inl ⟨rfl, rfl⟩) e8 rfl ?_
  refine aw_bipush (v := 16) (pc1 := 45) at_456_43 (by decide) rfl ?_
  by_cases c9 : v7 ≤ 16
  · rw [if_pos c9] at hs4
    refine aw_icle_t at_456_45 c9 ?_
    exact rg_456_96 q_6 x0 x1 x2 x3 v3 h o (am_lk1 l0 rfl rfl) (am_lk1 l1 rfl rfl) (am_lk1 l2 rfl rfl) (am_lk1 l3 rfl rfl) am_lk0 i0 hs4
  · rw [if_neg c9] at hs4
    refine aw_icle_f (pc1 := 48) at_456_45 c9 rfl ?_
    refine aw_iload_n (pc1 := 49) at_456_48 (am_lk1 l3 rfl rfl) rfl ?_
    refine aw_iload_n (pc1 := 50) at_456_49 (am_lk1 l1 rfl rfl) rfl ?_
    by_cases c10 : x1 ≤ x3
    · rw [if_pos c10] at hs4
      refine aw_icge_t at_456_50 c10 ?_
      exact rg_456_96 q_6 x0 x1 x2 x3 v3 h o (am_lk1 l0 rfl rfl) (am_lk1 l1 rfl rfl) (am_lk1 l2 rfl rfl) (am_lk1 l3 rfl rfl) am_lk0 i0 hs4
    · rw [if_neg c10] at hs4
      refine aw_icge_f (pc1 := 53) at_456_50 c10 rfl ?_
      refine aw_iload_n (pc1 := 54) at_456_53 (am_lk1 l3 rfl rfl) rfl ?_
      refine aw_iconst (v := 1) (pc1 := 55) at_456_54 (by decide) rfl ?_
      refine aw_iadd (v := (x3 + 1)) (pc1 := 56) at_456_55 rfl rfl ?_
      refine aw_iload (pc1 := 58) at_456_56 am_lk0 rfl ?_
      refine aw_iadd (v := ((x3 + 1) + v3)) (pc1 := 59) at_456_58 rfl rfl ?_
      refine aw_istore (lv1 := am_put1 _ 5 _) (pc1 := 61) at_456_59 rfl rfl ?_
      refine aw_iload (pc1 := 63) at_456_61 am_lk0 rfl ?_
      refine aw_iload_n (pc1 := 64) at_456_63 (am_lk1 (am_lk1 l1 rfl rfl) rfl rfl) rfl ?_
      by_cases c11 : ((x3 + 1) + v3) ≤ x1
      · rw [if_pos c11] at hs4
        refine aw_icle_t at_456_64 c11 ?_
        exact rg_456_77 q_6 x0 x1 x2 x3 v3 (((x3 + 1) + v3)) h o (am_lk1 (am_lk1 l0 rfl rfl) rfl rfl) (am_lk1 (am_lk1 l1 rfl rfl) rfl rfl) (am_lk1 (am_lk1 l2 rfl rfl) rfl rfl) (am_lk1 (am_lk1 l3 rfl rfl) rfl rfl) (am_lk1 am_lk0 rfl rfl) am_lk0 i0 hs4
      · rw [if_neg c11] at hs4
        refine aw_icle_f (pc1 := 67) at_456_64 c11 rfl ?_
        refine aw_iload (pc1 := 69) at_456_67 am_lk0 rfl ?_
        refine aw_iload_n (pc1 := 70) at_456_69 (am_lk1 (am_lk1 l1 rfl rfl) rfl rfl) rfl ?_
        refine aw_iload_n (pc1 := 71) at_456_70 (am_lk1 (am_lk1 l2 rfl rfl) rfl rfl) rfl ?_
        refine aw_iadd (v := (x1 + x2)) (pc1 := 72) at_456_71 rfl rfl ?_
        by_cases c12 : (x1 + x2) ≤ ((x3 + 1) + v3)
        · rw [if_pos c12] at hs4
          refine aw_icge_t at_456_72 c12 ?_
          exact rg_456_77 q_6 x0 x1 x2 x3 v3 (((x3 + 1) + v3)) h o (am_lk1 (am_lk1 l0 rfl rfl) rfl rfl) (am_lk1 (am_lk1 l1 rfl rfl) rfl rfl) (am_lk1 (am_lk1 l2 rfl rfl) rfl rfl) (am_lk1 (am_lk1 l3 rfl rfl) rfl rfl) (am_lk1 am_lk0 rfl rfl) am_lk0 i0 hs4
        · rw [if_neg c12] at hs4
          refine aw_icge_f (pc1 := 75) at_456_72 c12 rfl ?_
          refine aw_iconst (v := 0) (pc1 := 76) at_456_75 (by decide) rfl ?_
          cases hs4
          exact aw_iret at_456_76 (by rw [rt_456]; decide) rfl
def fg_456_6 (N : Nat) : Nat → Value → Int32 → Int32 → Int32 → am_H → Option am_O
  | 0 => fun _ _ _ _ _ => none
  | K + 1 => fun x0 x1 x2 x3 h => ((am_vI (am_pG 3090 x0 h)).bind fun v1 => (if v1 ≤ x3 then some (.inl (some (.int 1), h)) else (if x3 < x1 then (fg_456_29 N (fg_456_6 N K) x0 x1 x2 x3 h) else (if (x1 + x2) ≤ x3 then (fg_456_29 N (fg_456_6 N K) x0 x1 x2 x3 h) else (fg_456_108 N (fg_456_6 N K) x0 x1 x2 x3 h)))))
theorem rg_456_6 {X : am_X} {d : Nat} {N : Nat} : ∀ (K : Nat) (x0 : Value) (x1 : Int32) (x2 : Int32) (x3 : Int32) (h : am_H) (o : am_O), fg_456_6 N K x0 x1 x2 x3 h = some o → ∀ lv : am_LV, (lv.lookup 0 = some x0) → (lv.lookup 1 = some (.int x1)) → (lv.lookup 2 = some (.int x2)) → (lv.lookup 3 = some (.int x3)) → (am_isR x0 = true) → am_W X (d + 1) 456 6 lv [] h (fun q => q = o) := by
  intro K
  induction K with
  | zero => intro x0 x1 x2 x3 h o hs; cases hs
  | succ K ih =>
    intro x0 x1 x2 x3 h o hs lv l0 l1 l2 l3 i0
    unfold fg_456_6 at hs
    refine aw_iload_n (pc1 := 7) at_456_6 l3 rfl ?_
    refine aw_vload_n (pc1 := 8) at_456_7 l0 i0 rfl ?_
    obtain ⟨v1, e2, hs1⟩ := am_bind hs
    clear hs
    refine aw_pG (pc1 := 11) at_456_8 (am_vI_s e2) rfl ?_
    by_cases c3 : v1 ≤ x3
    · rw [if_pos c3] at hs1
      refine aw_icge_t at_456_11 c3 ?_
      refine aw_iconst (v := 1) (pc1 := 115) at_456_114 (by decide) rfl ?_
      cases hs1
      exact aw_iret at_456_115 (by rw [rt_456]; decide) rfl
    · rw [if_neg c3] at hs1
      refine aw_icge_f (pc1 := 14) at_456_11 c3 rfl ?_
      refine aw_iload_n (pc1 := 15) at_456_14 l3 rfl ?_
      refine aw_iload_n (pc1 := 16) at_456_15 l1 rfl ?_
      by_cases c4 : x3 < x1
      · rw [if_pos c4] at hs1
        refine aw_iclt_t at_456_16 c4 ?_
        exact rg_456_29 (fun z0 z1 z2 z3 h o hs1 => ih z0 z1 z2 z3 h o hs1) x0 x1 x2 x3 h o l0 l1 l2 l3 i0 hs1
      · rw [if_neg c4] at hs1
        refine aw_iclt_f (pc1 := 19) at_456_16 c4 rfl ?_
        refine aw_iload_n (pc1 := 20) at_456_19 l3 rfl ?_
        refine aw_iload_n (pc1 := 21) at_456_20 l1 rfl ?_
        refine aw_iload_n (pc1 := 22) at_456_21 l2 rfl ?_
        refine aw_iadd (v := (x1 + x2)) (pc1 := 23) at_456_22 rfl rfl ?_
        by_cases c5 : (x1 + x2) ≤ x3
        · rw [if_pos c5] at hs1
          refine aw_icge_t at_456_23 c5 ?_
          exact rg_456_29 (fun z0 z1 z2 z3 h o hs1 => ih z0 z1 z2 z3 h o hs1) x0 x1 x2 x3 h o l0 l1 l2 l3 i0 hs1
        · rw [if_neg c5] at hs1
          refine aw_icge_f (pc1 := 26) at_456_23 c5 rfl ?_
          refine aw_goto at_456_26 ?_
          exact rg_456_108 (fun z0 z1 z2 z3 h o hs1 => ih z0 z1 z2 z3 h o hs1) x0 x1 x2 x3 h o l0 l1 l2 l3 i0 hs1
def fg_456_0 (N : Nat) (x0 : Value) (x1 : Int32) (x2 : Int32) (h : am_H) : Option am_O := (if am_pOk 12 x0 h then am_cV true (fm_451 x0 h) (fun h3 => (fg_456_6 N N x0 x1 x2 0 h3)) else none)
theorem rg_456_0 {X : am_X} {d : Nat} {N : Nat} {lv : am_LV} (x0 : Value) (x1 : Int32) (x2 : Int32) (h : am_H) (o : am_O) (l0 : lv.lookup 0 = some x0) (l1 : lv.lookup 1 = some (.int x1)) (l2 : lv.lookup 2 = some (.int x2)) (i0 : am_isR x0 = true) (hs : fg_456_0 N x0 x1 x2 h = some o) : am_W X (d + 1) 456 0 lv [] h (fun q => q = o) := by
  unfold fg_456_0 at hs
  refine aw_vload_n (pc1 := 1) at_456_0 l0 i0 rfl ?_
  obtain ⟨z1, hs1⟩ := am_ift hs
  clear hs
  refine aw_call (F := fm_451 x0 h) (t := true) (na := 1) (kd := 1) (as := [x0]) at_456_1 (am_k3v kb_451) mn_451 mk_451 rfl rfl (am_ok_v mi_451 (am_hl rfl (am_ccR i0 am_cats_0) rfl) z1) (am_hc am_cats_0 rfl) (fun _ => ⟨rfl, hh_456⟩) (fun o1 hz9 => rm_451 x0 h o1 i0 hz9) ?_
  rcases am_cV_s hs1 with ⟨h3, f4, hs2⟩ | hs2
  · clear hs1
    refine Or.inl ⟨_, _, f4, ?_⟩
    show am_W X _ 456 4 _ [] h3 _
    refine aw_iconst (v := 0) (pc1 := 5) at_456_4 (by decide) rfl ?_
    refine aw_istore_n (lv1 := am_put1 _ 3 _) (pc1 := 6) at_456_5 rfl rfl ?_
    exact rg_456_6 N x0 x1 x2 0 h3 o hs2 _ (am_lk1 l0 rfl rfl) (am_lk1 l1 rfl rfl) (am_lk1 l2 rfl rfl) am_lk0 i0
  · clear hs1
    exact Or.inr hs2
def fm_456 (N : Nat) (y0 : Value) (y1 : Int32) (y2 : Int32) (h : am_H) : Option am_O := fg_456_0 N y0 y1 y2 h
theorem rm_456 {X : am_X} {d : Nat} {N : Nat} (y0 : Value) (y1 : Int32) (y2 : Int32) (h : am_H) (o : am_O) (i0 : am_isR y0 = true) (hs : fm_456 N y0 y1 y2 h = some o) : am_W X (d + 1) 456 0 (am_args 0 [y0, .int y1, .int y2]) [] h (fun q => q = o) := by
  rw [am_args_R i0, am_args_I, am_args_I]
  exact rg_456_0 y0 y1 y2 h o rfl rfl rfl i0 hs
