/-! ===== methods as functions ===== -/
def fg_559_0 (x0 : Value) (x1 : Int32) (x2 : Int32) (x3 : Int32) (h : am_H) : Option am_O := ((am_vR (am_pG 3190 x0 h)).bind fun v1 => ((am_vR (am_pG 3192 x0 h)).bind fun v3 => ((am_pA 0 v3 x1 h).bind fun v5 => ((am_pS 0 v1 ((128 * x1) + v5) x2 h).bind fun h7 => ((am_vR (am_pG 3191 x0 h7)).bind fun v9 => ((am_vR (am_pG 3192 x0 h7)).bind fun v11 => ((am_pA 0 v11 x1 h7).bind fun v13 => ((am_pS 0 v9 ((128 * x1) + v13) x3 h7).bind fun h15 => ((am_vR (am_pG 3192 x0 h15)).bind fun v17 => ((am_pA 0 v17 x1 h15).bind fun v19 => ((am_pS 0 v17 x1 (v19 + 1) h15).bind fun h21 => some (.inl (none, h21)))))))))))))
theorem rg_559_0 {X : am_X} {d : Nat} {lv : am_LV} (x0 : Value) (x1 : Int32) (x2 : Int32) (x3 : Int32) (h : am_H) (o : am_O) (l0 : lv.lookup 0 = some x0) (l1 : lv.lookup 1 = some (.int x1)) (l2 : lv.lookup 2 = some (.int x2)) (l3 : lv.lookup 3 = some (.int x3)) (i0 : am_isR x0 = true) (hs : fg_559_0 x0 x1 x2 x3 h = some o) : am_W X (d) 559 0 lv [] h (fun q => q = o) := by
  unfold fg_559_0 at hs
  refine aw_vload_n (pc1 := 1) at_559_0 l0 i0 rfl ?_
  obtain ⟨v1, e2, hs1⟩ := am_bind hs
  clear hs
  refine aw_pG (pc1 := 4) at_559_1 (am_vR_s e2).1 rfl ?_
  refine aw_sipush (v := 128) (pc1 := 7) at_559_4 (by decide) rfl ?_
  refine aw_iload_n (pc1 := 8) at_559_7 l1 rfl ?_
  refine aw_imul (v := (128 * x1)) (pc1 := 9) at_559_8 rfl rfl ?_
  refine aw_vload_n (pc1 := 10) at_559_9 l0 i0 rfl ?_
  obtain ⟨v3, e4, hs2⟩ := am_bind hs1
  clear hs1
  refine aw_pG (pc1 := 13) at_559_10 (am_vR_s e4).1 rfl ?_
  refine aw_iload_n (pc1 := 14) at_559_13 l1 rfl ?_
  obtain ⟨v5, e6, hs3⟩ := am_bind hs2
  clear hs2
  refine aw_pA (pc1 := 15) at_559_14 (Or.inl ⟨rfl, rfl⟩) e6 rfl ?_
  refine aw_iadd (v := ((128 * x1) + v5)) (pc1 := 16) at_559_15 rfl rfl ?_
  refine aw_iload_n (pc1 := 17) at_559_16 l2 rfl ?_
  obtain ⟨h7, e8, hs4⟩ := am_bind hs3
  clear hs3
  refine aw_pS (pc1 := 18) at_559_17 (Or.inl ⟨rfl, rfl⟩) e8 rfl ?_
  refine aw_vload_n (pc1 := 19) at_559_18 l0 i0 rfl ?_
  obtain ⟨v9, e10, hs5⟩ := am_bind hs4
  clear hs4
  refine aw_pG (pc1 := 22) at_559_19 (am_vR_s e10).1 rfl ?_
  refine aw_sipush (v := 128) (pc1 := 25) at_559_22 (by decide) rfl ?_
  refine aw_iload_n (pc1 := 26) at_559_25 l1 rfl ?_
  refine aw_imul (v := (128 * x1)) (pc1 := 27) at_559_26 rfl rfl ?_
  refine aw_vload_n (pc1 := 28) at_559_27 l0 i0 rfl ?_
  obtain ⟨v11, e12, hs6⟩ := am_bind hs5
  clear hs5
  refine aw_pG (pc1 := 31) at_559_28 (am_vR_s e12).1 rfl ?_
  refine aw_iload_n (pc1 := 32) at_559_31 l1 rfl ?_
  obtain ⟨v13, e14, hs7⟩ := am_bind hs6
  clear hs6
  refine aw_pA (pc1 := 33) at_559_32 (Or.inl ⟨rfl, rfl⟩) e14 rfl ?_
  refine aw_iadd (v := ((128 * x1) + v13)) (pc1 := 34) at_559_33 rfl rfl ?_
  refine aw_iload_n (pc1 := 35) at_559_34 l3 rfl ?_
  obtain ⟨h15, e16, hs8⟩ := am_bind hs7
  clear hs7
  refine aw_pS (pc1 := 36) at_559_35 (Or.inl ⟨rfl, rfl⟩) e16 rfl ?_
  refine aw_vload_n (pc1 := 37) at_559_36 l0 i0 rfl ?_
  obtain ⟨v17, e18, hs9⟩ := am_bind hs8
  clear hs8
  refine aw_pG (pc1 := 40) at_559_37 (am_vR_s e18).1 rfl ?_
  refine aw_iload_n (pc1 := 41) at_559_40 l1 rfl ?_
  refine aw_vdup2 (pc1 := 42) at_559_41 (am_vR_s e18).2 rfl ?_
  obtain ⟨v19, e20, hs10⟩ := am_bind hs9
  clear hs9
  refine aw_pA (pc1 := 43) at_559_42 (Or.inl ⟨rfl, rfl⟩) e20 rfl ?_
  refine aw_iconst (v := 1) (pc1 := 44) at_559_43 (by decide) rfl ?_
  refine aw_iadd (v := (v19 + 1)) (pc1 := 45) at_559_44 rfl rfl ?_
  obtain ⟨h21, e22, hs11⟩ := am_bind hs10
  clear hs10
  refine aw_pS (pc1 := 46) at_559_45 (Or.inl ⟨rfl, rfl⟩) e22 rfl ?_
  cases hs11
  exact aw_vret at_559_46 rt_559 rfl
def fm_559 (y0 : Value) (y1 : Int32) (y2 : Int32) (y3 : Int32) (h : am_H) : Option am_O := fg_559_0 y0 y1 y2 y3 h
theorem rm_559 {X : am_X} {d : Nat} (y0 : Value) (y1 : Int32) (y2 : Int32) (y3 : Int32) (h : am_H) (o : am_O) (i0 : am_isR y0 = true) (hs : fm_559 y0 y1 y2 y3 h = some o) : am_W X (d) 559 0 (am_args 0 [y0, .int y1, .int y2, .int y3]) [] h (fun q => q = o) := by
  rw [am_args_R i0, am_args_I, am_args_I, am_args_I]
  exact rg_559_0 y0 y1 y2 y3 h o rfl rfl rfl rfl i0 hs
def fg_562_0 (x0 : Value) (x1 : Int32) (h : am_H) : Option am_O := ((am_vR (am_pG 3190 x0 h)).bind fun v1 => ((am_pA 0 v1 (128 * x1) h).bind fun v3 => am_cI false (fm_334 v3 h) (fun v5 h6 => (if am_rfit (some FieldType.boolean) v5 then some (.inl (some (.int v5), h6)) else none))))
theorem rg_562_0 {X : am_X} {d : Nat} {lv : am_LV} (x0 : Value) (x1 : Int32) (h : am_H) (o : am_O) (l0 : lv.lookup 0 = some x0) (l1 : lv.lookup 1 = some (.int x1)) (i0 : am_isR x0 = true) (hs : fg_562_0 x0 x1 h = some o) : am_W X (d + 1) 562 0 lv [] h (fun q => q = o) := by
  unfold fg_562_0 at hs
  refine aw_vload_n (pc1 := 1) at_562_0 l0 i0 rfl ?_
  obtain ⟨v1, e2, hs1⟩ := am_bind hs
  clear hs
  refine aw_pG (pc1 := 4) at_562_1 (am_vR_s e2).1 rfl ?_
  refine aw_sipush (v := 128) (pc1 := 7) at_562_4 (by decide) rfl ?_
  refine aw_iload_n (pc1 := 8) at_562_7 l1 rfl ?_
  refine aw_imul (v := (128 * x1)) (pc1 := 9) at_562_8 rfl rfl ?_
  obtain ⟨v3, e4, hs2⟩ := am_bind hs1
  clear hs1
  refine aw_pA (pc1 := 10) at_562_9 (Or.inl ⟨rfl, rfl⟩) e4 rfl ?_
  refine aw_call (F := fm_334 v3 h) (t := false) (na := 1) (kd := 0) (as := [(.int v3)]) at_562_10 (am_k3s kb_334) mn_334 mk_334 rfl rfl (am_ok_s mi_334 (am_hl rfl (am_ccI am_cats_0) rfl)) (am_hc am_cats_0 rfl) (fun hz9 => by cases hz9) (fun o1 hz9 => rm_334 v3 h o1  hz9) ?_
  rcases am_cI_s hs2 with ⟨v5, h6, f7, hs3⟩ | hs3
  · clear hs2
    refine Or.inl ⟨_, _, f7, ?_⟩
    show am_W X _ 562 13 _ [(.int v5)] h6 _
    obtain ⟨z8, hs4⟩ := am_ift hs3
    clear hs3
    cases hs4
    exact aw_iret at_562_13 (by rw [rt_562]; exact z8) rfl
  · clear hs2
    exact Or.inr hs3
def fm_562 (y0 : Value) (y1 : Int32) (h : am_H) : Option am_O := fg_562_0 y0 y1 h
theorem rm_562 {X : am_X} {d : Nat} (y0 : Value) (y1 : Int32) (h : am_H) (o : am_O) (i0 : am_isR y0 = true) (hs : fm_562 y0 y1 h = some o) : am_W X (d + 1) 562 0 (am_args 0 [y0, .int y1]) [] h (fun q => q = o) := by
  rw [am_args_R i0, am_args_I]
  exact rg_562_0 y0 y1 h o rfl rfl i0 hs
def fg_561_27 (N : Nat) : Nat → Value → Int32 → Int32 → am_H → Option am_O
  | 0 => fun _ _ _ _ => none
  | K + 1 => fun x0 x1 x2 h => (if x2 ≤ 0 then ((am_vR (am_pG 3190 x0 h)).bind fun v2 => ((am_pS 0 v2 (128 * x1) 20 h).bind fun h4 => ((am_vR (am_pG 3191 x0 h4)).bind fun v6 => ((am_pS 0 v6 (128 * x1) 0 h4).bind fun h8 => ((am_vR (am_pG 3192 x0 h8)).bind fun v10 => ((am_pA 0 v10 x1 h8).bind fun v12 => ((am_pS 0 v10 x1 (v12 + 1) h8).bind fun h14 => (if am_pOk 12 x0 h14 then am_cV true (fm_559 x0 x1 0 1 h14) (fun h18 => (if am_pOk 12 x0 h18 then am_cV true (fm_559 x0 x1 0 0 h18) (fun h22 => some (.inl (none, h22))) else none)) else none)))))))) else ((am_vR (am_pG 3190 x0 h)).bind fun v24 => ((am_vR (am_pG 3190 x0 h)).bind fun v26 => ((am_pA 0 v26 (((128 * x1) + x2) - 1) h).bind fun v28 => ((am_pS 0 v24 ((128 * x1) + x2) v28 h).bind fun h30 => ((am_vR (am_pG 3191 x0 h30)).bind fun v32 => ((am_vR (am_pG 3191 x0 h30)).bind fun v34 => ((am_pA 0 v34 (((128 * x1) + x2) - 1) h30).bind fun v36 => ((am_pS 0 v32 ((128 * x1) + x2) v36 h30).bind fun h38 => (fg_561_27 N K x0 x1 ((x2 + (-1))) h38))))))))))
theorem rg_561_27 {X : am_X} {d : Nat} {N : Nat} : ∀ (K : Nat) (x0 : Value) (x1 : Int32) (x2 : Int32) (h : am_H) (o : am_O), fg_561_27 N K x0 x1 x2 h = some o → ∀ lv : am_LV, (lv.lookup 0 = some x0) → (lv.lookup 1 = some (.int x1)) → (lv.lookup 2 = some (.int x2)) → (am_isR x0 = true) → am_W X (d + 2) 561 27 lv [] h (fun q => q = o) := by
  intro K
  induction K with
  | zero => intro x0 x1 x2 h o hs; cases hs
  | succ K ih =>
    intro x0 x1 x2 h o hs lv l0 l1 l2 i0
    unfold fg_561_27 at hs
    refine aw_iload_n (pc1 := 28) at_561_27 l2 rfl ?_
    by_cases c1 : x2 ≤ 0
    · rw [if_pos c1] at hs
      refine aw_ifle_t at_561_28 c1 ?_
      refine aw_vload_n (pc1 := 90) at_561_89 l0 i0 rfl ?_
      obtain ⟨v2, e3, hs1⟩ := am_bind hs
      clear hs
      refine aw_pG (pc1 := 93) at_561_90 (am_vR_s e3).1 rfl ?_
      refine aw_sipush (v := 128) (pc1 := 96) at_561_93 (by decide) rfl ?_
      refine aw_iload_n (pc1 := 97) at_561_96 l1 rfl ?_
      refine aw_imul (v := (128 * x1)) (pc1 := 98) at_561_97 rfl rfl ?_
      refine aw_bipush (v := 20) (pc1 := 100) at_561_98 (by decide) rfl ?_
      obtain ⟨h4, e5, hs2⟩ := am_bind hs1
      clear hs1
      refine aw_pS (pc1 := 101) at_561_100 (Or.inl ⟨rfl, rfl⟩) e5 rfl ?_
      refine aw_vload_n (pc1 := 102) at_561_101 l0 i0 rfl ?_
      obtain ⟨v6, e7, hs3⟩ := am_bind hs2
      clear hs2
      refine aw_pG (pc1 := 105) at_561_102 (am_vR_s e7).1 rfl ?_
      refine aw_sipush (v := 128) (pc1 := 108) at_561_105 (by decide) rfl ?_
      refine aw_iload_n (pc1 := 109) at_561_108 l1 rfl ?_
      refine aw_imul (v := (128 * x1)) (pc1 := 110) at_561_109 rfl rfl ?_
      refine aw_iconst (v := 0) (pc1 := 111) at_561_110 (by decide) rfl ?_
      obtain ⟨h8, e9, hs4⟩ := am_bind hs3
      clear hs3
      refine aw_pS (pc1 := 112) at_561_111 (Or.inl ⟨rfl, rfl⟩) e9 rfl ?_
      refine aw_vload_n (pc1 := 113) at_561_112 l0 i0 rfl ?_
      obtain ⟨v10, e11, hs5⟩ := am_bind hs4
      clear hs4
      refine aw_pG (pc1 := 116) at_561_113 (am_vR_s e11).1 rfl ?_
      refine aw_iload_n (pc1 := 117) at_561_116 l1 rfl ?_
      refine aw_vdup2 (pc1 := 118) at_561_117 (am_vR_s e11).2 rfl ?_
      obtain ⟨v12, e13, hs6⟩ := am_bind hs5
      clear hs5
      refine aw_pA (pc1 := 119) at_561_118 (Or.inl ⟨rfl, rfl⟩) e13 rfl ?_
      refine aw_iconst (v := 1) (pc1 := 120) at_561_119 (by decide) rfl ?_
      refine aw_iadd (v := (v12 + 1)) (pc1 := 121) at_561_120 rfl rfl ?_
      obtain ⟨h14, e15, hs7⟩ := am_bind hs6
      clear hs6
      refine aw_pS (pc1 := 122) at_561_121 (Or.inl ⟨rfl, rfl⟩) e15 rfl ?_
      refine aw_vload_n (pc1 := 123) at_561_122 l0 i0 rfl ?_
      refine aw_iload_n (pc1 := 124) at_561_123 l1 rfl ?_
      refine aw_iconst (v := 0) (pc1 := 125) at_561_124 (by decide) rfl ?_
      refine aw_iconst (v := 1) (pc1 := 126) at_561_125 (by decide) rfl ?_
      obtain ⟨z16, hs8⟩ := am_ift hs7
      clear hs7
      refine aw_call (F := fm_559 x0 x1 0 1 h14) (t := true) (na := 4) (kd := 1) (as := [x0, (.int x1), (.int 0), (.int 1)]) at_561_126 (am_k3v kb_559) mn_559 mk_559 rfl rfl (am_ok_v mi_559 (am_hl rfl (am_ccR i0 (am_ccI (am_ccI (am_ccI am_cats_0)))) rfl) z16) (am_hc am_cats_0 rfl) (fun _ => ⟨rfl, hh_561⟩) (fun o1 hz9 => rm_559 x0 x1 0 1 h14 o1 i0 hz9) ?_
      rcases am_cV_s hs8 with ⟨h18, f19, hs9⟩ | hs9
      · clear hs8
        refine Or.inl ⟨_, _, f19, ?_⟩
        show am_W X _ 561 129 _ [] h18 _
        refine aw_vload_n (pc1 := 130) at_561_129 l0 i0 rfl ?_
        refine aw_iload_n (pc1 := 131) at_561_130 l1 rfl ?_
        refine aw_iconst (v := 0) (pc1 := 132) at_561_131 (by decide) rfl ?_
        refine aw_iconst (v := 0) (pc1 := 133) at_561_132 (by decide) rfl ?_
        obtain ⟨z20, hs10⟩ := am_ift hs9
        clear hs9
        refine aw_call (F := fm_559 x0 x1 0 0 h18) (t := true) (na := 4) (kd := 1) (as := [x0, (.int x1), (.int 0), (.int 0)]) at_561_133 (am_k3v kb_559) mn_559 mk_559 rfl rfl (am_ok_v mi_559 (am_hl rfl (am_ccR i0 (am_ccI (am_ccI (am_ccI am_cats_0)))) rfl) z20) (am_hc am_cats_0 rfl) (fun _ => ⟨rfl, hh_561⟩) (fun o1 hz9 => rm_559 x0 x1 0 0 h18 o1 i0 hz9) ?_
        rcases am_cV_s hs10 with ⟨h22, f23, hs11⟩ | hs11
        · clear hs10
          refine Or.inl ⟨_, _, f23, ?_⟩
          show am_W X _ 561 136 _ [] h22 _
          cases hs11
          exact aw_vret at_561_136 rt_561 rfl
        · clear hs10
          exact Or.inr hs11
      · clear hs8
        exact Or.inr hs9
    · rw [if_neg c1] at hs
      refine aw_ifle_f (pc1 := 31) at_561_28 c1 rfl ?_
      refine aw_vload_n (pc1 := 32) at_561_31 l0 i0 rfl ?_
      obtain ⟨v24, e25, hs12⟩ := am_bind hs
      clear hs
      refine aw_pG (pc1 := 35) at_561_32 (am_vR_s e25).1 rfl ?_
      refine aw_sipush (v := 128) (pc1 := 38) at_561_35 (by decide) rfl ?_
      refine aw_iload_n (pc1 := 39) at_561_38 l1 rfl ?_
      refine aw_imul (v := (128 * x1)) (pc1 := 40) at_561_39 rfl rfl ?_
      refine aw_iload_n (pc1 := 41) at_561_40 l2 rfl ?_
      refine aw_iadd (v := ((128 * x1) + x2)) (pc1 := 42) at_561_41 rfl rfl ?_
      refine aw_vload_n (pc1 := 43) at_561_42 l0 i0 rfl ?_
      obtain ⟨v26, e27, hs13⟩ := am_bind hs12
      clear hs12
      refine aw_pG (pc1 := 46) at_561_43 (am_vR_s e27).1 rfl ?_
      refine aw_sipush (v := 128) (pc1 := 49) at_561_46 (by decide) rfl ?_
      refine aw_iload_n (pc1 := 50) at_561_49 l1 rfl ?_
      refine aw_imul (v := (128 * x1)) (pc1 := 51) at_561_50 rfl rfl ?_
      refine aw_iload_n (pc1 := 52) at_561_51 l2 rfl ?_
      refine aw_iadd (v := ((128 * x1) + x2)) (pc1 := 53) at_561_52 rfl rfl ?_
      refine aw_iconst (v := 1) (pc1 := 54) at_561_53 (by decide) rfl ?_
      refine aw_isub (v := (((128 * x1) + x2) - 1)) (pc1 := 55) at_561_54 rfl rfl ?_
      obtain ⟨v28, e29, hs14⟩ := am_bind hs13
      clear hs13
      refine aw_pA (pc1 := 56) at_561_55 (Or.inl ⟨rfl, rfl⟩) e29 rfl ?_
      obtain ⟨h30, e31, hs15⟩ := am_bind hs14
      clear hs14
      refine aw_pS (pc1 := 57) at_561_56 (Or.inl ⟨rfl, rfl⟩) e31 rfl ?_
      refine aw_vload_n (pc1 := 58) at_561_57 l0 i0 rfl ?_
      obtain ⟨v32, e33, hs16⟩ := am_bind hs15
      clear hs15
      refine aw_pG (pc1 := 61) at_561_58 (am_vR_s e33).1 rfl ?_
      refine aw_sipush (v := 128) (pc1 := 64) at_561_61 (by decide) rfl ?_
      refine aw_iload_n (pc1 := 65) at_561_64 l1 rfl ?_
      refine aw_imul (v := (128 * x1)) (pc1 := 66) at_561_65 rfl rfl ?_
      refine aw_iload_n (pc1 := 67) at_561_66 l2 rfl ?_
      refine aw_iadd (v := ((128 * x1) + x2)) (pc1 := 68) at_561_67 rfl rfl ?_
      refine aw_vload_n (pc1 := 69) at_561_68 l0 i0 rfl ?_
      obtain ⟨v34, e35, hs17⟩ := am_bind hs16
      clear hs16
      refine aw_pG (pc1 := 72) at_561_69 (am_vR_s e35).1 rfl ?_
      refine aw_sipush (v := 128) (pc1 := 75) at_561_72 (by decide) rfl ?_
      refine aw_iload_n (pc1 := 76) at_561_75 l1 rfl ?_
      refine aw_imul (v := (128 * x1)) (pc1 := 77) at_561_76 rfl rfl ?_
      refine aw_iload_n (pc1 := 78) at_561_77 l2 rfl ?_
      refine aw_iadd (v := ((128 * x1) + x2)) (pc1 := 79) at_561_78 rfl rfl ?_
      refine aw_iconst (v := 1) (pc1 := 80) at_561_79 (by decide) rfl ?_
      refine aw_isub (v := (((128 * x1) + x2) - 1)) (pc1 := 81) at_561_80 rfl rfl ?_
      obtain ⟨v36, e37, hs18⟩ := am_bind hs17
      clear hs17
      refine aw_pA (pc1 := 82) at_561_81 (Or.inl ⟨rfl, rfl⟩) e37 rfl ?_
      obtain ⟨h38, e39, hs19⟩ := am_bind hs18
      clear hs18
      refine aw_pS (pc1 := 83) at_561_82 (Or.inl ⟨rfl, rfl⟩) e39 rfl ?_
      refine aw_iinc (v := (x2 + (-1))) (c := (-1)) (lv1 := am_put1 _ 2 _) (pc1 := 86) at_561_83 l2 (by decide) rfl rfl rfl ?_
      refine aw_goto at_561_86 ?_
      exact ih x0 x1 ((x2 + (-1))) h38 o hs19 _ (am_lk1 l0 rfl rfl) (am_lk1 l1 rfl rfl) am_lk0 i0
def fg_561_19 (N : Nat) (h : am_H) : Option am_O := some (.inl (none, h))
theorem rg_561_19 {X : am_X} {d : Nat} {N : Nat} {lv : am_LV} (h : am_H) (o : am_O) (hs : fg_561_19 N h = some o) : am_W X (d + 2) 561 19 lv [] h (fun q => q = o) := by
  unfold fg_561_19 at hs
  cases hs
  exact aw_vret at_561_19 rt_561 rfl
def fg_561_0 (N : Nat) (x0 : Value) (x1 : Int32) (h : am_H) : Option am_O := (if am_pOk 12 x0 h then am_cI true (fm_562 x0 x1 h) (fun v2 h3 => (if v2 = 0 then (fg_561_19 N h3) else ((am_vR (am_pG 3192 x0 h3)).bind fun v6 => ((am_pA 0 v6 x1 h3).bind fun v8 => (if v8 ≤ 124 then ((am_vR (am_pG 3192 x0 h3)).bind fun v11 => ((am_pA 0 v11 x1 h3).bind fun v13 => (fg_561_27 N N x0 x1 v13 h3))) else (fg_561_19 N h3)))))) else none)
theorem rg_561_0 {X : am_X} {d : Nat} {N : Nat} {lv : am_LV} (x0 : Value) (x1 : Int32) (h : am_H) (o : am_O) (l0 : lv.lookup 0 = some x0) (l1 : lv.lookup 1 = some (.int x1)) (i0 : am_isR x0 = true) (hs : fg_561_0 N x0 x1 h = some o) : am_W X (d + 2) 561 0 lv [] h (fun q => q = o) := by
  unfold fg_561_0 at hs
  refine aw_vload_n (pc1 := 1) at_561_0 l0 i0 rfl ?_
  refine aw_iload_n (pc1 := 2) at_561_1 l1 rfl ?_
  obtain ⟨z1, hs1⟩ := am_ift hs
  clear hs
  refine aw_call (F := fm_562 x0 x1 h) (t := true) (na := 2) (kd := 1) (as := [x0, (.int x1)]) at_561_2 (am_k3v kb_562) mn_562 mk_562 rfl rfl (am_ok_v mi_562 (am_hl rfl (am_ccR i0 (am_ccI am_cats_0)) rfl) z1) (am_hc am_cats_0 rfl) (fun _ => ⟨rfl, hh_561⟩) (fun o1 hz9 => rm_562 x0 x1 h o1 i0 hz9) ?_
  rcases am_cI_s hs1 with ⟨v2, h3, f4, hs2⟩ | hs2
  · clear hs1
    refine Or.inl ⟨_, _, f4, ?_⟩
    show am_W X _ 561 5 _ [(.int v2)] h3 _
    by_cases c5 : v2 = 0
    · rw [if_pos c5] at hs2
      refine aw_ifeq_t at_561_5 c5 ?_
      exact rg_561_19 h3 o   hs2
    · rw [if_neg c5] at hs2
      refine aw_ifeq_f (pc1 := 8) at_561_5 c5 rfl ?_
      refine aw_vload_n (pc1 := 9) at_561_8 l0 i0 rfl ?_
      obtain ⟨v6, e7, hs3⟩ := am_bind hs2
      clear hs2
      refine aw_pG (pc1 := 12) at_561_9 (am_vR_s e7).1 rfl ?_
      refine aw_iload_n (pc1 := 13) at_561_12 l1 rfl ?_
      obtain ⟨v8, e9, hs4⟩ := am_bind hs3
      clear hs3
      refine aw_pA (pc1 := 14) at_561_13 (Or.inl ⟨rfl, rfl⟩) e9 rfl ?_
      refine aw_bipush (v := 124) (pc1 := 16) at_561_14 (by decide) rfl ?_
      by_cases c10 : v8 ≤ 124
      · rw [if_pos c10] at hs4
        refine aw_icle_t at_561_16 c10 ?_
        refine aw_vload_n (pc1 := 21) at_561_20 l0 i0 rfl ?_
        obtain ⟨v11, e12, hs5⟩ := am_bind hs4
        clear hs4
        refine aw_pG (pc1 := 24) at_561_21 (am_vR_s e12).1 rfl ?_
        refine aw_iload_n (pc1 := 25) at_561_24 l1 rfl ?_
        obtain ⟨v13, e14, hs6⟩ := am_bind hs5
        clear hs5
        refine aw_pA (pc1 := 26) at_561_25 (Or.inl ⟨rfl, rfl⟩) e14 rfl ?_
        refine aw_istore_n (lv1 := am_put1 _ 2 _) (pc1 := 27) at_561_26 rfl rfl ?_
        exact rg_561_27 N x0 x1 v13 h3 o hs6 _ (am_lk1 l0 rfl rfl) (am_lk1 l1 rfl rfl) am_lk0 i0
      · rw [if_neg c10] at hs4
        refine aw_icle_f (pc1 := 19) at_561_16 c10 rfl ?_
        exact rg_561_19 h3 o   hs4
  · clear hs1
    exact Or.inr hs2
def fm_561 (N : Nat) (y0 : Value) (y1 : Int32) (h : am_H) : Option am_O := fg_561_0 N y0 y1 h
theorem rm_561 {X : am_X} {d : Nat} {N : Nat} (y0 : Value) (y1 : Int32) (h : am_H) (o : am_O) (i0 : am_isR y0 = true) (hs : fm_561 N y0 y1 h = some o) : am_W X (d + 2) 561 0 (am_args 0 [y0, .int y1]) [] h (fun q => q = o) := by
  rw [am_args_R i0, am_args_I]
  exact rg_561_0 y0 y1 h o rfl rfl i0 hs
def fg_563_12 (N : Nat) : Nat → Value → Int32 → Int32 → am_H → Option am_O
  | 0 => fun _ _ _ _ => none
  | K + 1 => fun x0 x1 x2 h => ((am_vR (am_pG 3192 x0 h)).bind fun v1 => ((am_pA 0 v1 x1 h).bind fun v3 => (if v3 ≤ x2 then (if am_pOk 12 x0 h then am_cI true (fm_562 x0 x1 h) (fun v7 h8 => (if am_pOk 12 x0 h8 then am_cI true (fm_446 N x0 v7 0 h8) (fun v11 h12 => (if am_rfit (some FieldType.boolean) v11 then some (.inl (some (.int v11), h12)) else none)) else none)) else none) else ((am_vR (am_pG 3190 x0 h)).bind fun v15 => ((am_pA 0 v15 ((128 * x1) + x2) h).bind fun v17 => ((am_vR (am_pG 3191 x0 h)).bind fun v19 => ((am_pA 0 v19 ((128 * x1) + x2) h).bind fun v21 => (if am_pOk 12 x0 h then am_cV true (fm_335 x0 v17 v21 h) (fun h25 => (fg_563_12 N K x0 x1 ((x2 + 1)) h25)) else none))))))))
theorem rg_563_12 {X : am_X} {d : Nat} {N : Nat} : ∀ (K : Nat) (x0 : Value) (x1 : Int32) (x2 : Int32) (h : am_H) (o : am_O), fg_563_12 N K x0 x1 x2 h = some o → ∀ lv : am_LV, (lv.lookup 0 = some x0) → (lv.lookup 1 = some (.int x1)) → (lv.lookup 2 = some (.int x2)) → (am_isR x0 = true) → am_W X (d + 2) 563 12 lv [] h (fun q => q = o) := by
  intro K
  induction K with
  | zero => intro x0 x1 x2 h o hs; cases hs
  | succ K ih =>
    intro x0 x1 x2 h o hs lv l0 l1 l2 i0
    unfold fg_563_12 at hs
    refine aw_iload_n (pc1 := 13) at_563_12 l2 rfl ?_
    refine aw_vload_n (pc1 := 14) at_563_13 l0 i0 rfl ?_
    obtain ⟨v1, e2, hs1⟩ := am_bind hs
    clear hs
    refine aw_pG (pc1 := 17) at_563_14 (am_vR_s e2).1 rfl ?_
    refine aw_iload_n (pc1 := 18) at_563_17 l1 rfl ?_
    obtain ⟨v3, e4, hs2⟩ := am_bind hs1
    clear hs1
    refine aw_pA (pc1 := 19) at_563_18 (Or.inl ⟨rfl, rfl⟩) e4 rfl ?_
    by_cases c5 : v3 ≤ x2
    · rw [if_pos c5] at hs2
      refine aw_icge_t at_563_19 c5 ?_
      refine aw_vload_n (pc1 := 57) at_563_56 l0 i0 rfl ?_
      refine aw_vload_n (pc1 := 58) at_563_57 l0 i0 rfl ?_
      refine aw_iload_n (pc1 := 59) at_563_58 l1 rfl ?_
      obtain ⟨z6, hs3⟩ := am_ift hs2
      clear hs2
      refine aw_call (F := fm_562 x0 x1 h) (t := true) (na := 2) (kd := 1) (as := [x0, (.int x1)]) at_563_59 (am_k3v kb_562) mn_562 mk_562 rfl rfl (am_ok_v mi_562 (am_hl rfl (am_ccR i0 (am_ccI am_cats_0)) rfl) z6) (am_hc (am_ccR i0 am_cats_0) rfl) (fun _ => ⟨rfl, hh_563⟩) (fun o1 hz9 => rm_562 x0 x1 h o1 i0 hz9) ?_
      rcases am_cI_s hs3 with ⟨v7, h8, f9, hs4⟩ | hs4
      · clear hs3
        refine Or.inl ⟨_, _, f9, ?_⟩
        show am_W X _ 563 62 _ [(.int v7), x0] h8 _
        refine aw_iconst (v := 0) (pc1 := 63) at_563_62 (by decide) rfl ?_
        obtain ⟨z10, hs5⟩ := am_ift hs4
        clear hs4
        refine aw_call (F := fm_446 N x0 v7 0 h8) (t := true) (na := 3) (kd := 1) (as := [x0, (.int v7), (.int 0)]) at_563_63 (am_k3v kb_446) mn_446 mk_446 rfl rfl (am_ok_v mi_446 (am_hl rfl (am_ccR i0 (am_ccI (am_ccI am_cats_0))) rfl) z10) (am_hc am_cats_0 rfl) (fun _ => ⟨rfl, hh_563⟩) (fun o1 hz9 => rm_446 x0 v7 0 h8 o1 i0 hz9) ?_
        rcases am_cI_s hs5 with ⟨v11, h12, f13, hs6⟩ | hs6
        · clear hs5
          refine Or.inl ⟨_, _, f13, ?_⟩
          show am_W X _ 563 66 _ [(.int v11)] h12 _
          obtain ⟨z14, hs7⟩ := am_ift hs6
          clear hs6
          cases hs7
          exact aw_iret at_563_66 (by rw [rt_563]; exact z14) rfl
        · clear hs5
          exact Or.inr hs6
      · clear hs3
        exact Or.inr hs4
    · rw [if_neg c5] at hs2
      refine aw_icge_f (pc1 := 22) at_563_19 c5 rfl ?_
      refine aw_vload_n (pc1 := 23) at_563_22 l0 i0 rfl ?_
      refine aw_vload_n (pc1 := 24) at_563_23 l0 i0 rfl ?_
      obtain ⟨v15, e16, hs8⟩ := am_bind hs2
      clear hs2
      refine aw_pG (pc1 := 27) at_563_24 (am_vR_s e16).1 rfl ?_
      refine aw_sipush (v := 128) (pc1 := 30) at_563_27 (by decide) rfl ?_
      refine aw_iload_n (pc1 := 31) at_563_30 l1 rfl ?_
      refine aw_imul (v := (128 * x1)) (pc1 := 32) at_563_31 rfl rfl ?_
      refine aw_iload_n (pc1 := 33) at_563_32 l2 rfl ?_
      refine aw_iadd (v := ((128 * x1) + x2)) (pc1 := 34) at_563_33 rfl rfl ?_
      obtain ⟨v17, e18, hs9⟩ := am_bind hs8
      clear hs8
      refine aw_pA (pc1 := 35) at_563_34 (Or.inl ⟨rfl, rfl⟩) e18 rfl ?_
      refine aw_vload_n (pc1 := 36) at_563_35 l0 i0 rfl ?_
      obtain ⟨v19, e20, hs10⟩ := am_bind hs9
      clear hs9
      refine aw_pG (pc1 := 39) at_563_36 (am_vR_s e20).1 rfl ?_
      refine aw_sipush (v := 128) (pc1 := 42) at_563_39 (by decide) rfl ?_
      refine aw_iload_n (pc1 := 43) at_563_42 l1 rfl ?_
      refine aw_imul (v := (128 * x1)) (pc1 := 44) at_563_43 rfl rfl ?_
      refine aw_iload_n (pc1 := 45) at_563_44 l2 rfl ?_
      refine aw_iadd (v := ((128 * x1) + x2)) (pc1 := 46) at_563_45 rfl rfl ?_
      obtain ⟨v21, e22, hs11⟩ := am_bind hs10
      clear hs10
      refine aw_pA (pc1 := 47) at_563_46 (Or.inl ⟨rfl, rfl⟩) e22 rfl ?_
      obtain ⟨z23, hs12⟩ := am_ift hs11
      clear hs11
      refine aw_call (F := fm_335 x0 v17 v21 h) (t := true) (na := 3) (kd := 1) (as := [x0, (.int v17), (.int v21)]) at_563_47 (am_k3v kb_335) mn_335 mk_335 rfl rfl (am_ok_v mi_335 (am_hl rfl (am_ccR i0 (am_ccI (am_ccI am_cats_0))) rfl) z23) (am_hc am_cats_0 rfl) (fun _ => ⟨rfl, hh_563⟩) (fun o1 hz9 => rm_335 x0 v17 v21 h o1 i0 hz9) ?_
      rcases am_cV_s hs12 with ⟨h25, f26, hs13⟩ | hs13
      · clear hs12
        refine Or.inl ⟨_, _, f26, ?_⟩
        show am_W X _ 563 50 _ [] h25 _
        refine aw_iinc (v := (x2 + 1)) (c := 1) (lv1 := am_put1 _ 2 _) (pc1 := 53) at_563_50 l2 (by decide) rfl rfl rfl ?_
        refine aw_goto at_563_53 ?_
        exact ih x0 x1 ((x2 + 1)) h25 o hs13 _ (am_lk1 l0 rfl rfl) (am_lk1 l1 rfl rfl) am_lk0 i0
      · clear hs12
        exact Or.inr hs13
def fg_563_0 (N : Nat) (x0 : Value) (x1 : Int32) (h : am_H) : Option am_O := ((am_pP 3085 x0 (.int 0) h).bind fun h1 => ((am_pP 3086 x0 (.int 0) h1).bind fun h3 => (fg_563_12 N N x0 x1 0 h3)))
theorem rg_563_0 {X : am_X} {d : Nat} {N : Nat} {lv : am_LV} (x0 : Value) (x1 : Int32) (h : am_H) (o : am_O) (l0 : lv.lookup 0 = some x0) (l1 : lv.lookup 1 = some (.int x1)) (i0 : am_isR x0 = true) (hs : fg_563_0 N x0 x1 h = some o) : am_W X (d + 2) 563 0 lv [] h (fun q => q = o) := by
  unfold fg_563_0 at hs
  refine aw_vload_n (pc1 := 1) at_563_0 l0 i0 rfl ?_
  refine aw_iconst (v := 0) (pc1 := 2) at_563_1 (by decide) rfl ?_
  obtain ⟨h1, e2, hs1⟩ := am_bind hs
  clear hs
  refine aw_pP (pc1 := 5) at_563_2 e2 rfl ?_
  refine aw_vload_n (pc1 := 6) at_563_5 l0 i0 rfl ?_
  refine aw_iconst (v := 0) (pc1 := 7) at_563_6 (by decide) rfl ?_
  obtain ⟨h3, e4, hs2⟩ := am_bind hs1
  clear hs1
  refine aw_pP (pc1 := 10) at_563_7 e4 rfl ?_
  refine aw_iconst (v := 0) (pc1 := 11) at_563_10 (by decide) rfl ?_
  refine aw_istore_n (lv1 := am_put1 _ 2 _) (pc1 := 12) at_563_11 rfl rfl ?_
  exact rg_563_12 N x0 x1 0 h3 o hs2 _ (am_lk1 l0 rfl rfl) (am_lk1 l1 rfl rfl) am_lk0 i0
def fm_563 (N : Nat) (y0 : Value) (y1 : Int32) (h : am_H) : Option am_O := fg_563_0 N y0 y1 h
theorem rm_563 {X : am_X} {d : Nat} {N : Nat} (y0 : Value) (y1 : Int32) (h : am_H) (o : am_O) (i0 : am_isR y0 = true) (hs : fm_563 N y0 y1 h = some o) : am_W X (d + 2) 563 0 (am_args 0 [y0, .int y1]) [] h (fun q => q = o) := by
  rw [am_args_R i0, am_args_I]
  exact rg_563_0 y0 y1 h o rfl rfl i0 hs
def fg_560_243 (N : Nat) (x0 : Value) (x3 : Int32) (h : am_H) : Option am_O := ((am_pP 3193 x0 (.int (x3 + 1)) h).bind fun h1 => (if am_pOk 12 x0 h1 then am_cI true (fm_563 N x0 x3 h1) (fun v4 h5 => (if am_rfit (some FieldType.boolean) v4 then some (.inl (some (.int v4), h5)) else none)) else none))
theorem rg_560_243 {X : am_X} {d : Nat} {N : Nat} {lv : am_LV} (x0 : Value) (x3 : Int32) (h : am_H) (o : am_O) (l0 : lv.lookup 0 = some x0) (l3 : lv.lookup 3 = some (.int x3)) (i0 : am_isR x0 = true) (hs : fg_560_243 N x0 x3 h = some o) : am_W X (d + 3) 560 243 lv [] h (fun q => q = o) := by
  unfold fg_560_243 at hs
  refine aw_vload_n (pc1 := 244) at_560_243 l0 i0 rfl ?_
  refine aw_iload_n (pc1 := 245) at_560_244 l3 rfl ?_
  refine aw_iconst (v := 1) (pc1 := 246) at_560_245 (by decide) rfl ?_
  refine aw_iadd (v := (x3 + 1)) (pc1 := 247) at_560_246 rfl rfl ?_
  obtain ⟨h1, e2, hs1⟩ := am_bind hs
  clear hs
  refine aw_pP (pc1 := 250) at_560_247 e2 rfl ?_
  refine aw_vload_n (pc1 := 251) at_560_250 l0 i0 rfl ?_
  refine aw_iload_n (pc1 := 252) at_560_251 l3 rfl ?_
  obtain ⟨z3, hs2⟩ := am_ift hs1
  clear hs1
  refine aw_call (F := fm_563 N x0 x3 h1) (t := true) (na := 2) (kd := 1) (as := [x0, (.int x3)]) at_560_252 (am_k3v kb_563) mn_563 mk_563 rfl rfl (am_ok_v mi_563 (am_hl rfl (am_ccR i0 (am_ccI am_cats_0)) rfl) z3) (am_hc am_cats_0 rfl) (fun _ => ⟨rfl, hh_560⟩) (fun o1 hz9 => rm_563 x0 x3 h1 o1 i0 hz9) ?_
  rcases am_cI_s hs2 with ⟨v4, h5, f6, hs3⟩ | hs3
  · clear hs2
    refine Or.inl ⟨_, _, f6, ?_⟩
    show am_W X _ 560 255 _ [(.int v4)] h5 _
    obtain ⟨z7, hs4⟩ := am_ift hs3
    clear hs3
    cases hs4
    exact aw_iret at_560_255 (by rw [rt_560]; exact z7) rfl
  · clear hs2
    exact Or.inr hs3
def fg_560_184 (N : Nat) : Nat → Value → Int32 → Int32 → Int32 → am_H → Option am_O
  | 0 => fun _ _ _ _ _ => none
  | K + 1 => fun x0 x2 x3 x4 h => (if x2 ≤ 1 then (fg_560_243 N x0 x3 h) else ((am_vR (am_pG 3192 x0 h)).bind fun v2 => ((am_pA 0 v2 (x3 + 1) h).bind fun v4 => (if v4 ≤ x4 then (fg_560_243 N x0 x3 h) else ((am_vR (am_pG 3190 x0 h)).bind fun v7 => ((am_pA 0 v7 ((128 * (x3 + 1)) + x4) h).bind fun v9 => ((am_vR (am_pG 3191 x0 h)).bind fun v11 => ((am_pA 0 v11 ((128 * (x3 + 1)) + x4) h).bind fun v13 => (if am_pOk 12 x0 h then am_cV true (fm_559 x0 x3 v9 v13 h) (fun h17 => (fg_560_184 N K x0 x2 x3 ((x4 + 1)) h17)) else none)))))))))
theorem rg_560_184 {X : am_X} {d : Nat} {N : Nat} : ∀ (K : Nat) (x0 : Value) (x2 : Int32) (x3 : Int32) (x4 : Int32) (h : am_H) (o : am_O), fg_560_184 N K x0 x2 x3 x4 h = some o → ∀ lv : am_LV, (lv.lookup 0 = some x0) → (lv.lookup 2 = some (.int x2)) → (lv.lookup 3 = some (.int x3)) → (lv.lookup 4 = some (.int x4)) → (am_isR x0 = true) → am_W X (d + 3) 560 184 lv [] h (fun q => q = o) := by
  intro K
  induction K with
  | zero => intro x0 x2 x3 x4 h o hs; cases hs
  | succ K ih =>
    intro x0 x2 x3 x4 h o hs lv l0 l2 l3 l4 i0
    unfold fg_560_184 at hs
    refine aw_iload_n (pc1 := 185) at_560_184 l2 rfl ?_
    refine aw_iconst (v := 1) (pc1 := 186) at_560_185 (by decide) rfl ?_
    by_cases c1 : x2 ≤ 1
    · rw [if_pos c1] at hs
      refine aw_icle_t at_560_186 c1 ?_
      exact rg_560_243 x0 x3 h o l0 l3 i0 hs
    · rw [if_neg c1] at hs
      refine aw_icle_f (pc1 := 189) at_560_186 c1 rfl ?_
      refine aw_iload (pc1 := 191) at_560_189 l4 rfl ?_
      refine aw_vload_n (pc1 := 192) at_560_191 l0 i0 rfl ?_
      obtain ⟨v2, e3, hs1⟩ := am_bind hs
      clear hs
      refine aw_pG (pc1 := 195) at_560_192 (am_vR_s e3).1 rfl ?_
      refine aw_iload_n (pc1 := 196) at_560_195 l3 rfl ?_
      refine aw_iconst (v := 1) (pc1 := 197) at_560_196 (by decide) rfl ?_
      refine aw_iadd (v := (x3 + 1)) (pc1 := 198) at_560_197 rfl rfl ?_
      obtain ⟨v4, e5, hs2⟩ := am_bind hs1
      clear hs1
      refine aw_pA (pc1 := 199) at_560_198 (Or.inl ⟨rfl, rfl⟩) e5 rfl ?_
      by_cases c6 : v4 ≤ x4
      · rw [if_pos c6] at hs2
        refine aw_icge_t at_560_199 c6 ?_
        exact rg_560_243 x0 x3 h o l0 l3 i0 hs2
      · rw [if_neg c6] at hs2
        refine aw_icge_f (pc1 := 202) at_560_199 c6 rfl ?_
        refine aw_vload_n (pc1 := 203) at_560_202 l0 i0 rfl ?_
        refine aw_iload_n (pc1 := 204) at_560_203 l3 rfl ?_
        refine aw_vload_n (pc1 := 205) at_560_204 l0 i0 rfl ?_
        obtain ⟨v7, e8, hs3⟩ := am_bind hs2
        clear hs2
        refine aw_pG (pc1 := 208) at_560_205 (am_vR_s e8).1 rfl ?_
        refine aw_sipush (v := 128) (pc1 := 211) at_560_208 (by decide) rfl ?_
        refine aw_iload_n (pc1 := 212) at_560_211 l3 rfl ?_
        refine aw_iconst (v := 1) (pc1 := 213) at_560_212 (by decide) rfl ?_
        refine aw_iadd (v := (x3 + 1)) (pc1 := 214) at_560_213 rfl rfl ?_
        refine aw_imul (v := (128 * (x3 + 1))) (pc1 := 215) at_560_214 rfl rfl ?_
        refine aw_iload (pc1 := 217) at_560_215 l4 rfl ?_
        refine aw_iadd (v := ((128 * (x3 + 1)) + x4)) (pc1 := 218) at_560_217 rfl rfl ?_
        obtain ⟨v9, e10, hs4⟩ := am_bind hs3
        clear hs3
        refine aw_pA (pc1 := 219) at_560_218 (Or.inl ⟨rfl, rfl⟩) e10 rfl ?_
        refine aw_vload_n (pc1 := 220) at_560_219 l0 i0 rfl ?_
        obtain ⟨v11, e12, hs5⟩ := am_bind hs4
        clear hs4
        refine aw_pG (pc1 := 223) at_560_220 (am_vR_s e12).1 rfl ?_
        refine aw_sipush (v := 128) (pc1 := 226) at_560_223 (by decide) rfl ?_
        refine aw_iload_n (pc1 := 227) at_560_226 l3 rfl ?_
        refine aw_iconst (v := 1) (pc1 := 228) at_560_227 (by decide) rfl ?_
        refine aw_iadd (v := (x3 + 1)) (pc1 := 229) at_560_228 rfl rfl ?_
        refine aw_imul (v := (128 * (x3 + 1))) (pc1 := 230) at_560_229 rfl rfl ?_
        refine aw_iload (pc1 := 232) at_560_230 l4 rfl ?_
        refine aw_iadd (v := ((128 * (x3 + 1)) + x4)) (pc1 := 233) at_560_232 rfl rfl ?_
        obtain ⟨v13, e14, hs6⟩ := am_bind hs5
        clear hs5
        refine aw_pA (pc1 := 234) at_560_233 (Or.inl ⟨rfl, rfl⟩) e14 rfl ?_
        obtain ⟨z15, hs7⟩ := am_ift hs6
        clear hs6
        refine aw_call (F := fm_559 x0 x3 v9 v13 h) (t := true) (na := 4) (kd := 1) (as := [x0, (.int x3), (.int v9), (.int v13)]) at_560_234 (am_k3v kb_559) mn_559 mk_559 rfl rfl (am_ok_v mi_559 (am_hl rfl (am_ccR i0 (am_ccI (am_ccI (am_ccI am_cats_0)))) rfl) z15) (am_hc am_cats_0 rfl) (fun _ => ⟨rfl, hh_560⟩) (fun o1 hz9 => rm_559 x0 x3 v9 v13 h o1 i0 hz9) ?_
        rcases am_cV_s hs7 with ⟨h17, f18, hs8⟩ | hs8
        · clear hs7
          refine Or.inl ⟨_, _, f18, ?_⟩
          show am_W X _ 560 237 _ [] h17 _
          refine aw_iinc (v := (x4 + 1)) (c := 1) (lv1 := am_put1 _ 4 _) (pc1 := 240) at_560_237 l4 (by decide) rfl rfl rfl ?_
          refine aw_goto at_560_240 ?_
          exact ih x0 x2 x3 ((x4 + 1)) h17 o hs8 _ (am_lk1 l0 rfl rfl) (am_lk1 l2 rfl rfl) (am_lk1 l3 rfl rfl) am_lk0 i0
        · clear hs7
          exact Or.inr hs8
def fg_560_82 (N : Nat) : Nat → Value → Int32 → Int32 → Int32 → Int32 → am_H → Option am_O
  | 0 => fun _ _ _ _ _ _ => none
  | K + 1 => fun x0 x1 x2 x3 x4 h => (if x4 ≤ 0 then ((am_vR (am_pG 3190 x0 h)).bind fun v2 => ((am_pS 0 v2 (128 * x3) x1 h).bind fun h4 => ((am_vR (am_pG 3191 x0 h4)).bind fun v6 => ((am_pS 0 v6 (128 * x3) 0 h4).bind fun h8 => ((am_vR (am_pG 3192 x0 h8)).bind fun v10 => ((am_pA 0 v10 x3 h8).bind fun v12 => ((am_pS 0 v10 x3 (v12 + 1) h8).bind fun h14 => (fg_560_184 N N x0 x2 x3 0 h14)))))))) else ((am_vR (am_pG 3190 x0 h)).bind fun v16 => ((am_vR (am_pG 3190 x0 h)).bind fun v18 => ((am_pA 0 v18 (((128 * x3) + x4) - 1) h).bind fun v20 => ((am_pS 0 v16 ((128 * x3) + x4) v20 h).bind fun h22 => ((am_vR (am_pG 3191 x0 h22)).bind fun v24 => ((am_vR (am_pG 3191 x0 h22)).bind fun v26 => ((am_pA 0 v26 (((128 * x3) + x4) - 1) h22).bind fun v28 => ((am_pS 0 v24 ((128 * x3) + x4) v28 h22).bind fun h30 => (fg_560_82 N K x0 x1 x2 x3 ((x4 + (-1))) h30))))))))))
theorem rg_560_82 {X : am_X} {d : Nat} {N : Nat} : ∀ (K : Nat) (x0 : Value) (x1 : Int32) (x2 : Int32) (x3 : Int32) (x4 : Int32) (h : am_H) (o : am_O), fg_560_82 N K x0 x1 x2 x3 x4 h = some o → ∀ lv : am_LV, (lv.lookup 0 = some x0) → (lv.lookup 1 = some (.int x1)) → (lv.lookup 2 = some (.int x2)) → (lv.lookup 3 = some (.int x3)) → (lv.lookup 4 = some (.int x4)) → (am_isR x0 = true) → am_W X (d + 3) 560 82 lv [] h (fun q => q = o) := by
  intro K
  induction K with
  | zero => intro x0 x1 x2 x3 x4 h o hs; cases hs
  | succ K ih =>
    intro x0 x1 x2 x3 x4 h o hs lv l0 l1 l2 l3 l4 i0
    unfold fg_560_82 at hs
    refine aw_iload (pc1 := 84) at_560_82 l4 rfl ?_
    by_cases c1 : x4 ≤ 0
    · rw [if_pos c1] at hs
      refine aw_ifle_t at_560_84 c1 ?_
      refine aw_vload_n (pc1 := 150) at_560_149 l0 i0 rfl ?_
      obtain ⟨v2, e3, hs1⟩ := am_bind hs
      clear hs
      refine aw_pG (pc1 := 153) at_560_150 (am_vR_s e3).1 rfl ?_
      refine aw_sipush (v := 128) (pc1 := 156) at_560_153 (by decide) rfl ?_
      refine aw_iload_n (pc1 := 157) at_560_156 l3 rfl ?_
      refine aw_imul (v := (128 * x3)) (pc1 := 158) at_560_157 rfl rfl ?_
      refine aw_iload_n (pc1 := 159) at_560_158 l1 rfl ?_
      obtain ⟨h4, e5, hs2⟩ := am_bind hs1
      clear hs1
      refine aw_pS (pc1 := 160) at_560_159 (Or.inl ⟨rfl, rfl⟩) e5 rfl ?_
      refine aw_vload_n (pc1 := 161) at_560_160 l0 i0 rfl ?_
      obtain ⟨v6, e7, hs3⟩ := am_bind hs2
      clear hs2
      refine aw_pG (pc1 := 164) at_560_161 (am_vR_s e7).1 rfl ?_
      refine aw_sipush (v := 128) (pc1 := 167) at_560_164 (by decide) rfl ?_
      refine aw_iload_n (pc1 := 168) at_560_167 l3 rfl ?_
      refine aw_imul (v := (128 * x3)) (pc1 := 169) at_560_168 rfl rfl ?_
      refine aw_iconst (v := 0) (pc1 := 170) at_560_169 (by decide) rfl ?_
      obtain ⟨h8, e9, hs4⟩ := am_bind hs3
      clear hs3
      refine aw_pS (pc1 := 171) at_560_170 (Or.inl ⟨rfl, rfl⟩) e9 rfl ?_
      refine aw_vload_n (pc1 := 172) at_560_171 l0 i0 rfl ?_
      obtain ⟨v10, e11, hs5⟩ := am_bind hs4
      clear hs4
      refine aw_pG (pc1 := 175) at_560_172 (am_vR_s e11).1 rfl ?_
      refine aw_iload_n (pc1 := 176) at_560_175 l3 rfl ?_
      refine aw_vdup2 (pc1 := 177) at_560_176 (am_vR_s e11).2 rfl ?_
      obtain ⟨v12, e13, hs6⟩ := am_bind hs5
      clear hs5
      refine aw_pA (pc1 := 178) at_560_177 (Or.inl ⟨rfl, rfl⟩) e13 rfl ?_
      refine aw_iconst (v := 1) (pc1 := 179) at_560_178 (by decide) rfl ?_
      refine aw_iadd (v := (v12 + 1)) (pc1 := 180) at_560_179 rfl rfl ?_
      obtain ⟨h14, e15, hs7⟩ := am_bind hs6
      clear hs6
      refine aw_pS (pc1 := 181) at_560_180 (Or.inl ⟨rfl, rfl⟩) e15 rfl ?_
      refine aw_iconst (v := 0) (pc1 := 182) at_560_181 (by decide) rfl ?_
      refine aw_istore (lv1 := am_put1 _ 4 _) (pc1 := 184) at_560_182 rfl rfl ?_
      exact rg_560_184 N x0 x2 x3 0 h14 o hs7 _ (am_lk1 l0 rfl rfl) (am_lk1 l2 rfl rfl) (am_lk1 l3 rfl rfl) am_lk0 i0
    · rw [if_neg c1] at hs
      refine aw_ifle_f (pc1 := 87) at_560_84 c1 rfl ?_
      refine aw_vload_n (pc1 := 88) at_560_87 l0 i0 rfl ?_
      obtain ⟨v16, e17, hs8⟩ := am_bind hs
      clear hs
      refine aw_pG (pc1 := 91) at_560_88 (am_vR_s e17).1 rfl ?_
      refine aw_sipush (v := 128) (pc1 := 94) at_560_91 (by decide) rfl ?_
      refine aw_iload_n (pc1 := 95) at_560_94 l3 rfl ?_
      refine aw_imul (v := (128 * x3)) (pc1 := 96) at_560_95 rfl rfl ?_
      refine aw_iload (pc1 := 98) at_560_96 l4 rfl ?_
      refine aw_iadd (v := ((128 * x3) + x4)) (pc1 := 99) at_560_98 rfl rfl ?_
      refine aw_vload_n (pc1 := 100) at_560_99 l0 i0 rfl ?_
      obtain ⟨v18, e19, hs9⟩ := am_bind hs8
      clear hs8
      refine aw_pG (pc1 := 103) at_560_100 (am_vR_s e19).1 rfl ?_
      refine aw_sipush (v := 128) (pc1 := 106) at_560_103 (by decide) rfl ?_
      refine aw_iload_n (pc1 := 107) at_560_106 l3 rfl ?_
      refine aw_imul (v := (128 * x3)) (pc1 := 108) at_560_107 rfl rfl ?_
      refine aw_iload (pc1 := 110) at_560_108 l4 rfl ?_
      refine aw_iadd (v := ((128 * x3) + x4)) (pc1 := 111) at_560_110 rfl rfl ?_
      refine aw_iconst (v := 1) (pc1 := 112) at_560_111 (by decide) rfl ?_
      refine aw_isub (v := (((128 * x3) + x4) - 1)) (pc1 := 113) at_560_112 rfl rfl ?_
      obtain ⟨v20, e21, hs10⟩ := am_bind hs9
      clear hs9
      refine aw_pA (pc1 := 114) at_560_113 (Or.inl ⟨rfl, rfl⟩) e21 rfl ?_
      obtain ⟨h22, e23, hs11⟩ := am_bind hs10
      clear hs10
      refine aw_pS (pc1 := 115) at_560_114 (Or.inl ⟨rfl, rfl⟩) e23 rfl ?_
      refine aw_vload_n (pc1 := 116) at_560_115 l0 i0 rfl ?_
      obtain ⟨v24, e25, hs12⟩ := am_bind hs11
      clear hs11
      refine aw_pG (pc1 := 119) at_560_116 (am_vR_s e25).1 rfl ?_
      refine aw_sipush (v := 128) (pc1 := 122) at_560_119 (by decide) rfl ?_
      refine aw_iload_n (pc1 := 123) at_560_122 l3 rfl ?_
      refine aw_imul (v := (128 * x3)) (pc1 := 124) at_560_123 rfl rfl ?_
      refine aw_iload (pc1 := 126) at_560_124 l4 rfl ?_
      refine aw_iadd (v := ((128 * x3) + x4)) (pc1 := 127) at_560_126 rfl rfl ?_
      refine aw_vload_n (pc1 := 128) at_560_127 l0 i0 rfl ?_
      obtain ⟨v26, e27, hs13⟩ := am_bind hs12
      clear hs12
      refine aw_pG (pc1 := 131) at_560_128 (am_vR_s e27).1 rfl ?_
      refine aw_sipush (v := 128) (pc1 := 134) at_560_131 (by decide) rfl ?_
      refine aw_iload_n (pc1 := 135) at_560_134 l3 rfl ?_
      refine aw_imul (v := (128 * x3)) (pc1 := 136) at_560_135 rfl rfl ?_
      refine aw_iload (pc1 := 138) at_560_136 l4 rfl ?_
      refine aw_iadd (v := ((128 * x3) + x4)) (pc1 := 139) at_560_138 rfl rfl ?_
      refine aw_iconst (v := 1) (pc1 := 140) at_560_139 (by decide) rfl ?_
      refine aw_isub (v := (((128 * x3) + x4) - 1)) (pc1 := 141) at_560_140 rfl rfl ?_
      obtain ⟨v28, e29, hs14⟩ := am_bind hs13
      clear hs13
      refine aw_pA (pc1 := 142) at_560_141 (Or.inl ⟨rfl, rfl⟩) e29 rfl ?_
      obtain ⟨h30, e31, hs15⟩ := am_bind hs14
      clear hs14
      refine aw_pS (pc1 := 143) at_560_142 (Or.inl ⟨rfl, rfl⟩) e31 rfl ?_
      refine aw_iinc (v := (x4 + (-1))) (c := (-1)) (lv1 := am_put1 _ 4 _) (pc1 := 146) at_560_143 l4 (by decide) rfl rfl rfl ?_
      refine aw_goto at_560_146 ?_
      exact ih x0 x1 x2 x3 ((x4 + (-1))) h30 o hs15 _ (am_lk1 l0 rfl rfl) (am_lk1 l1 rfl rfl) (am_lk1 l2 rfl rfl) (am_lk1 l3 rfl rfl) am_lk0 i0
def fg_560_74 (N : Nat) (x0 : Value) (x1 : Int32) (x2 : Int32) (x3 : Int32) (h : am_H) : Option am_O := ((am_vR (am_pG 3192 x0 h)).bind fun v1 => ((am_pA 0 v1 x3 h).bind fun v3 => (fg_560_82 N N x0 x1 x2 x3 v3 h)))
theorem rg_560_74 {X : am_X} {d : Nat} {N : Nat} {lv : am_LV} (x0 : Value) (x1 : Int32) (x2 : Int32) (x3 : Int32) (h : am_H) (o : am_O) (l0 : lv.lookup 0 = some x0) (l1 : lv.lookup 1 = some (.int x1)) (l2 : lv.lookup 2 = some (.int x2)) (l3 : lv.lookup 3 = some (.int x3)) (i0 : am_isR x0 = true) (hs : fg_560_74 N x0 x1 x2 x3 h = some o) : am_W X (d + 3) 560 74 lv [] h (fun q => q = o) := by
  unfold fg_560_74 at hs
  refine aw_vload_n (pc1 := 75) at_560_74 l0 i0 rfl ?_
  obtain ⟨v1, e2, hs1⟩ := am_bind hs
  clear hs
  refine aw_pG (pc1 := 78) at_560_75 (am_vR_s e2).1 rfl ?_
  refine aw_iload_n (pc1 := 79) at_560_78 l3 rfl ?_
  obtain ⟨v3, e4, hs2⟩ := am_bind hs1
  clear hs1
  refine aw_pA (pc1 := 80) at_560_79 (Or.inl ⟨rfl, rfl⟩) e4 rfl ?_
  refine aw_istore (lv1 := am_put1 _ 4 _) (pc1 := 82) at_560_80 rfl rfl ?_
  exact rg_560_82 N x0 x1 x2 x3 v3 h o hs2 _ (am_lk1 l0 rfl rfl) (am_lk1 l1 rfl rfl) (am_lk1 l2 rfl rfl) (am_lk1 l3 rfl rfl) am_lk0 i0
def fg_560_15 (N : Nat) : Nat → Value → Int32 → Int32 → Int32 → Int32 → am_H → Option am_O
  | 0 => fun _ _ _ _ _ _ => none
  | K + 1 => fun x0 x1 x2 x3 x4 h => ((am_vI (am_pG 3193 x0 h)).bind fun v1 => (if v1 ≤ x4 then (if x2 ≤ 1 then (fg_560_74 N x0 x1 x2 x3 h) else ((am_vR (am_pG 3192 x0 h)).bind fun v5 => ((am_pA 0 v5 x3 h).bind fun v7 => ((am_vR (am_pG 3192 x0 h)).bind fun v9 => ((am_pA 0 v9 (x3 + 1) h).bind fun v11 => (if (v7 + v11) ≤ 100 then (fg_560_74 N x0 x1 x2 x3 h) else some (.inl (some (.int 0), h)))))))) else (if am_pOk 12 x0 h then am_cV true (fm_561 N x0 x4 h) (fun h16 => (if am_pOk 12 x0 h16 then am_cI true (fm_563 N x0 x4 h16) (fun v19 h20 => (if ¬ v19 = 0 then (fg_560_15 N K x0 x1 x2 x3 ((x4 + 1)) h20) else some (.inl (some (.int 0), h20)))) else none)) else none)))
theorem rg_560_15 {X : am_X} {d : Nat} {N : Nat} : ∀ (K : Nat) (x0 : Value) (x1 : Int32) (x2 : Int32) (x3 : Int32) (x4 : Int32) (h : am_H) (o : am_O), fg_560_15 N K x0 x1 x2 x3 x4 h = some o → ∀ lv : am_LV, (lv.lookup 0 = some x0) → (lv.lookup 1 = some (.int x1)) → (lv.lookup 2 = some (.int x2)) → (lv.lookup 3 = some (.int x3)) → (lv.lookup 4 = some (.int x4)) → (am_isR x0 = true) → am_W X (d + 3) 560 15 lv [] h (fun q => q = o) := by
  intro K
  induction K with
  | zero => intro x0 x1 x2 x3 x4 h o hs; cases hs
  | succ K ih =>
    intro x0 x1 x2 x3 x4 h o hs lv l0 l1 l2 l3 l4 i0
    unfold fg_560_15 at hs
    refine aw_iload (pc1 := 17) at_560_15 l4 rfl ?_
    refine aw_vload_n (pc1 := 18) at_560_17 l0 i0 rfl ?_
    obtain ⟨v1, e2, hs1⟩ := am_bind hs
    clear hs
    refine aw_pG (pc1 := 21) at_560_18 (am_vI_s e2) rfl ?_
    by_cases c3 : v1 ≤ x4
    · rw [if_pos c3] at hs1
      refine aw_icge_t at_560_21 c3 ?_
      refine aw_iload_n (pc1 := 48) at_560_47 l2 rfl ?_
      refine aw_iconst (v := 1) (pc1 := 49) at_560_48 (by decide) rfl ?_
      by_cases c4 : x2 ≤ 1
      · rw [if_pos c4] at hs1
        refine aw_icle_t at_560_49 c4 ?_
        exact rg_560_74 x0 x1 x2 x3 h o l0 l1 l2 l3 i0 hs1
      · rw [if_neg c4] at hs1
        refine aw_icle_f (pc1 := 52) at_560_49 c4 rfl ?_
        refine aw_vload_n (pc1 := 53) at_560_52 l0 i0 rfl ?_
        obtain ⟨v5, e6, hs2⟩ := am_bind hs1
        clear hs1
        refine aw_pG (pc1 := 56) at_560_53 (am_vR_s e6).1 rfl ?_
        refine aw_iload_n (pc1 := 57) at_560_56 l3 rfl ?_
        obtain ⟨v7, e8, hs3⟩ := am_bind hs2
        clear hs2
        refine aw_pA (pc1 := 58) at_560_57 (Or.inl ⟨rfl, rfl⟩) e8 rfl ?_
        refine aw_vload_n (pc1 := 59) at_560_58 l0 i0 rfl ?_
        obtain ⟨v9, e10, hs4⟩ := am_bind hs3
        clear hs3
        refine aw_pG (pc1 := 62) at_560_59 (am_vR_s e10).1 rfl ?_
        refine aw_iload_n (pc1 := 63) at_560_62 l3 rfl ?_
        refine aw_iconst (v := 1) (pc1 := 64) at_560_63 (by decide) rfl ?_
        refine aw_iadd (v := (x3 + 1)) (pc1 := 65) at_560_64 rfl rfl ?_
        obtain ⟨v11, e12, hs5⟩ := am_bind hs4
        clear hs4
        refine aw_pA (pc1 := 66) at_560_65 (Or.inl ⟨rfl, rfl⟩) e12 rfl ?_
        refine aw_iadd (v := (v7 + v11)) (pc1 := 67) at_560_66 rfl rfl ?_
        refine aw_bipush (v := 100) (pc1 := 69) at_560_67 (by decide) rfl ?_
        by_cases c13 : (v7 + v11) ≤ 100
        · rw [if_pos c13] at hs5
          refine aw_icle_t at_560_69 c13 ?_
          exact rg_560_74 x0 x1 x2 x3 h o l0 l1 l2 l3 i0 hs5
        · rw [if_neg c13] at hs5
          refine aw_icle_f (pc1 := 72) at_560_69 c13 rfl ?_
          refine aw_iconst (v := 0) (pc1 := 73) at_560_72 (by decide) rfl ?_
          cases hs5
          exact aw_iret at_560_73 (by rw [rt_560]; decide) rfl
    · rw [if_neg c3] at hs1
      refine aw_icge_f (pc1 := 24) at_560_21 c3 rfl ?_
      refine aw_vload_n (pc1 := 25) at_560_24 l0 i0 rfl ?_
      refine aw_iload (pc1 := 27) at_560_25 l4 rfl ?_
      obtain ⟨z14, hs6⟩ := am_ift hs1
      clear hs1
      refine aw_call (F := fm_561 N x0 x4 h) (t := true) (na := 2) (kd := 1) (as := [x0, (.int x4)]) at_560_27 (am_k3v kb_561) mn_561 mk_561 rfl rfl (am_ok_v mi_561 (am_hl rfl (am_ccR i0 (am_ccI am_cats_0)) rfl) z14) (am_hc am_cats_0 rfl) (fun _ => ⟨rfl, hh_560⟩) (fun o1 hz9 => rm_561 x0 x4 h o1 i0 hz9) ?_
      rcases am_cV_s hs6 with ⟨h16, f17, hs7⟩ | hs7
      · clear hs6
        refine Or.inl ⟨_, _, f17, ?_⟩
        show am_W X _ 560 30 _ [] h16 _
        refine aw_vload_n (pc1 := 31) at_560_30 l0 i0 rfl ?_
        refine aw_iload (pc1 := 33) at_560_31 l4 rfl ?_
        obtain ⟨z18, hs8⟩ := am_ift hs7
        clear hs7
        refine aw_call (F := fm_563 N x0 x4 h16) (t := true) (na := 2) (kd := 1) (as := [x0, (.int x4)]) at_560_33 (am_k3v kb_563) mn_563 mk_563 rfl rfl (am_ok_v mi_563 (am_hl rfl (am_ccR i0 (am_ccI am_cats_0)) rfl) z18) (am_hc am_cats_0 rfl) (fun _ => ⟨rfl, hh_560⟩) (fun o1 hz9 => rm_563 x0 x4 h16 o1 i0 hz9) ?_
        rcases am_cI_s hs8 with ⟨v19, h20, f21, hs9⟩ | hs9
        · clear hs8
          refine Or.inl ⟨_, _, f21, ?_⟩
          show am_W X _ 560 36 _ [(.int v19)] h20 _
          by_cases c22 : ¬ v19 = 0
          · rw [if_pos c22] at hs9
            refine aw_ifne_t at_560_36 c22 ?_
            refine aw_iinc (v := (x4 + 1)) (c := 1) (lv1 := am_put1 _ 4 _) (pc1 := 44) at_560_41 l4 (by decide) rfl rfl rfl ?_
            refine aw_goto at_560_44 ?_
            exact ih x0 x1 x2 x3 ((x4 + 1)) h20 o hs9 _ (am_lk1 l0 rfl rfl) (am_lk1 l1 rfl rfl) (am_lk1 l2 rfl rfl) (am_lk1 l3 rfl rfl) am_lk0 i0
          · rw [if_neg c22] at hs9
            refine aw_ifne_f (pc1 := 39) at_560_36 c22 rfl ?_
            refine aw_iconst (v := 0) (pc1 := 40) at_560_39 (by decide) rfl ?_
            cases hs9
            exact aw_iret at_560_40 (by rw [rt_560]; decide) rfl
        · clear hs8
          exact Or.inr hs9
      · clear hs6
        exact Or.inr hs7
def fg_560_0 (N : Nat) (x0 : Value) (x1 : Int32) (h : am_H) : Option am_O := am_cI false (fm_343 x1 h) (fun v1 h2 => ((am_vI (am_pG 3193 x0 h2)).bind fun v4 => (fg_560_15 N N x0 x1 v1 ((v4 - v1)) ((v4 - v1)) h2)))
theorem rg_560_0 {X : am_X} {d : Nat} {N : Nat} {lv : am_LV} (x0 : Value) (x1 : Int32) (h : am_H) (o : am_O) (l0 : lv.lookup 0 = some x0) (l1 : lv.lookup 1 = some (.int x1)) (i0 : am_isR x0 = true) (hs : fg_560_0 N x0 x1 h = some o) : am_W X (d + 3) 560 0 lv [] h (fun q => q = o) := by
  unfold fg_560_0 at hs
  refine aw_iload_n (pc1 := 1) at_560_0 l1 rfl ?_
  refine aw_call (F := fm_343 x1 h) (t := false) (na := 1) (kd := 0) (as := [(.int x1)]) at_560_1 (am_k3s kb_343) mn_343 mk_343 rfl rfl (am_ok_s mi_343 (am_hl rfl (am_ccI am_cats_0) rfl)) (am_hc am_cats_0 rfl) (fun hz9 => by cases hz9) (fun o1 hz9 => rm_343 x1 h o1  hz9) ?_
  rcases am_cI_s hs with ⟨v1, h2, f3, hs1⟩ | hs1
  · clear hs
    refine Or.inl ⟨_, _, f3, ?_⟩
    show am_W X _ 560 4 _ [(.int v1)] h2 _
    refine aw_istore_n (lv1 := am_put1 _ 2 _) (pc1 := 5) at_560_4 rfl rfl ?_
    refine aw_vload_n (pc1 := 6) at_560_5 (am_lk1 l0 rfl rfl) i0 rfl ?_
    obtain ⟨v4, e5, hs2⟩ := am_bind hs1
    clear hs1
    refine aw_pG (pc1 := 9) at_560_6 (am_vI_s e5) rfl ?_
    refine aw_iload_n (pc1 := 10) at_560_9 am_lk0 rfl ?_
    refine aw_isub (v := (v4 - v1)) (pc1 := 11) at_560_10 rfl rfl ?_
    refine aw_istore_n (lv1 := am_put1 _ 3 _) (pc1 := 12) at_560_11 rfl rfl ?_
    refine aw_iload_n (pc1 := 13) at_560_12 am_lk0 rfl ?_
    refine aw_istore (lv1 := am_put1 _ 4 _) (pc1 := 15) at_560_13 rfl rfl ?_
    exact rg_560_15 N x0 x1 v1 ((v4 - v1)) ((v4 - v1)) h2 o hs2 _ (am_lk1 (am_lk1 (am_lk1 l0 rfl rfl) rfl rfl) rfl rfl) (am_lk1 (am_lk1 (am_lk1 l1 rfl rfl) rfl rfl) rfl rfl) (am_lk1 (am_lk1 am_lk0 rfl rfl) rfl rfl) (am_lk1 am_lk0 rfl rfl) am_lk0 i0
  · clear hs
    exact Or.inr hs1
def fm_560 (N : Nat) (y0 : Value) (y1 : Int32) (h : am_H) : Option am_O := fg_560_0 N y0 y1 h
theorem rm_560 {X : am_X} {d : Nat} {N : Nat} (y0 : Value) (y1 : Int32) (h : am_H) (o : am_O) (i0 : am_isR y0 = true) (hs : fm_560 N y0 y1 h = some o) : am_W X (d + 3) 560 0 (am_args 0 [y0, .int y1]) [] h (fun q => q = o) := by
  rw [am_args_R i0, am_args_I]
  exact rg_560_0 y0 y1 h o rfl rfl i0 hs
def fg_564_9 (N : Nat) : Nat → Value → Int32 → Int32 → Int32 → am_H → Option am_O
  | 0 => fun _ _ _ _ _ => none
  | K + 1 => fun x0 x1 x2 x3 h => ((am_vR (am_pG 3192 x0 h)).bind fun v1 => ((am_pA 0 v1 x1 h).bind fun v3 => (if v3 ≤ x3 then some (.inl (none, h)) else ((am_vR (am_pG 3190 x0 h)).bind fun v6 => ((am_pA 0 v6 ((128 * x1) + x3) h).bind fun v8 => ((am_vR (am_pG 3191 x0 h)).bind fun v10 => ((am_pA 0 v10 ((128 * x1) + x3) h).bind fun v12 => (if am_pOk 12 x0 h then am_cV true (fm_559 x0 x2 v8 v12 h) (fun h16 => (fg_564_9 N K x0 x1 x2 ((x3 + 1)) h16)) else none))))))))
theorem rg_564_9 {X : am_X} {d : Nat} {N : Nat} : ∀ (K : Nat) (x0 : Value) (x1 : Int32) (x2 : Int32) (x3 : Int32) (h : am_H) (o : am_O), fg_564_9 N K x0 x1 x2 x3 h = some o → ∀ lv : am_LV, (lv.lookup 0 = some x0) → (lv.lookup 1 = some (.int x1)) → (lv.lookup 2 = some (.int x2)) → (lv.lookup 3 = some (.int x3)) → (am_isR x0 = true) → am_W X (d + 1) 564 9 lv [] h (fun q => q = o) := by
  intro K
  induction K with
  | zero => intro x0 x1 x2 x3 h o hs; cases hs
  | succ K ih =>
    intro x0 x1 x2 x3 h o hs lv l0 l1 l2 l3 i0
    unfold fg_564_9 at hs
    refine aw_iload_n (pc1 := 10) at_564_9 l3 rfl ?_
    refine aw_vload_n (pc1 := 11) at_564_10 l0 i0 rfl ?_
    obtain ⟨v1, e2, hs1⟩ := am_bind hs
    clear hs
    refine aw_pG (pc1 := 14) at_564_11 (am_vR_s e2).1 rfl ?_
    refine aw_iload_n (pc1 := 15) at_564_14 l1 rfl ?_
    obtain ⟨v3, e4, hs2⟩ := am_bind hs1
    clear hs1
    refine aw_pA (pc1 := 16) at_564_15 (Or.inl ⟨rfl, rfl⟩) e4 rfl ?_
    by_cases c5 : v3 ≤ x3
    · rw [if_pos c5] at hs2
      refine aw_icge_t at_564_16 c5 ?_
      cases hs2
      exact aw_vret at_564_54 rt_564 rfl
    · rw [if_neg c5] at hs2
      refine aw_icge_f (pc1 := 19) at_564_16 c5 rfl ?_
      refine aw_vload_n (pc1 := 20) at_564_19 l0 i0 rfl ?_
      refine aw_iload_n (pc1 := 21) at_564_20 l2 rfl ?_
      refine aw_vload_n (pc1 := 22) at_564_21 l0 i0 rfl ?_
      obtain ⟨v6, e7, hs3⟩ := am_bind hs2
      clear hs2
      refine aw_pG (pc1 := 25) at_564_22 (am_vR_s e7).1 rfl ?_
      refine aw_sipush (v := 128) (pc1 := 28) at_564_25 (by decide) rfl ?_
      refine aw_iload_n (pc1 := 29) at_564_28 l1 rfl ?_
      refine aw_imul (v := (128 * x1)) (pc1 := 30) at_564_29 rfl rfl ?_
      refine aw_iload_n (pc1 := 31) at_564_30 l3 rfl ?_
      refine aw_iadd (v := ((128 * x1) + x3)) (pc1 := 32) at_564_31 rfl rfl ?_
      obtain ⟨v8, e9, hs4⟩ := am_bind hs3
      clear hs3
      refine aw_pA (pc1 := 33) at_564_32 (Or.inl ⟨rfl, rfl⟩) e9 rfl ?_
      refine aw_vload_n (pc1 := 34) at_564_33 l0 i0 rfl ?_
      obtain ⟨v10, e11, hs5⟩ := am_bind hs4
      clear hs4
      refine aw_pG (pc1 := 37) at_564_34 (am_vR_s e11).1 rfl ?_
      refine aw_sipush (v := 128) (pc1 := 40) at_564_37 (by decide) rfl ?_
      refine aw_iload_n (pc1 := 41) at_564_40 l1 rfl ?_
      refine aw_imul (v := (128 * x1)) (pc1 := 42) at_564_41 rfl rfl ?_
      refine aw_iload_n (pc1 := 43) at_564_42 l3 rfl ?_
      refine aw_iadd (v := ((128 * x1) + x3)) (pc1 := 44) at_564_43 rfl rfl ?_
      obtain ⟨v12, e13, hs6⟩ := am_bind hs5
      clear hs5
      refine aw_pA (pc1 := 45) at_564_44 (Or.inl ⟨rfl, rfl⟩) e13 rfl ?_
      obtain ⟨z14, hs7⟩ := am_ift hs6
      clear hs6
      refine aw_call (F := fm_559 x0 x2 v8 v12 h) (t := true) (na := 4) (kd := 1) (as := [x0, (.int x2), (.int v8), (.int v12)]) at_564_45 (am_k3v kb_559) mn_559 mk_559 rfl rfl (am_ok_v mi_559 (am_hl rfl (am_ccR i0 (am_ccI (am_ccI (am_ccI am_cats_0)))) rfl) z14) (am_hc am_cats_0 rfl) (fun _ => ⟨rfl, hh_564⟩) (fun o1 hz9 => rm_559 x0 x2 v8 v12 h o1 i0 hz9) ?_
      rcases am_cV_s hs7 with ⟨h16, f17, hs8⟩ | hs8
      · clear hs7
        refine Or.inl ⟨_, _, f17, ?_⟩
        show am_W X _ 564 48 _ [] h16 _
        refine aw_iinc (v := (x3 + 1)) (c := 1) (lv1 := am_put1 _ 3 _) (pc1 := 51) at_564_48 l3 (by decide) rfl rfl rfl ?_
        refine aw_goto at_564_51 ?_
        exact ih x0 x1 x2 ((x3 + 1)) h16 o hs8 _ (am_lk1 l0 rfl rfl) (am_lk1 l1 rfl rfl) (am_lk1 l2 rfl rfl) am_lk0 i0
      · clear hs7
        exact Or.inr hs8
def fg_564_0 (N : Nat) (x0 : Value) (x1 : Int32) (x2 : Int32) (h : am_H) : Option am_O := ((am_vR (am_pG 3192 x0 h)).bind fun v1 => ((am_pS 0 v1 x2 0 h).bind fun h3 => (fg_564_9 N N x0 x1 x2 0 h3)))
theorem rg_564_0 {X : am_X} {d : Nat} {N : Nat} {lv : am_LV} (x0 : Value) (x1 : Int32) (x2 : Int32) (h : am_H) (o : am_O) (l0 : lv.lookup 0 = some x0) (l1 : lv.lookup 1 = some (.int x1)) (l2 : lv.lookup 2 = some (.int x2)) (i0 : am_isR x0 = true) (hs : fg_564_0 N x0 x1 x2 h = some o) : am_W X (d + 1) 564 0 lv [] h (fun q => q = o) := by
  unfold fg_564_0 at hs
  refine aw_vload_n (pc1 := 1) at_564_0 l0 i0 rfl ?_
  obtain ⟨v1, e2, hs1⟩ := am_bind hs
  clear hs
  refine aw_pG (pc1 := 4) at_564_1 (am_vR_s e2).1 rfl ?_
  refine aw_iload_n (pc1 := 5) at_564_4 l2 rfl ?_
  refine aw_iconst (v := 0) (pc1 := 6) at_564_5 (by decide) rfl ?_
  obtain ⟨h3, e4, hs2⟩ := am_bind hs1
  clear hs1
  refine aw_pS (pc1 := 7) at_564_6 (Or.inl ⟨rfl, rfl⟩) e4 rfl ?_
  refine aw_iconst (v := 0) (pc1 := 8) at_564_7 (by decide) rfl ?_
  refine aw_istore_n (lv1 := am_put1 _ 3 _) (pc1 := 9) at_564_8 rfl rfl ?_
  exact rg_564_9 N x0 x1 x2 0 h3 o hs2 _ (am_lk1 l0 rfl rfl) (am_lk1 l1 rfl rfl) (am_lk1 l2 rfl rfl) am_lk0 i0
def fm_564 (N : Nat) (y0 : Value) (y1 : Int32) (y2 : Int32) (h : am_H) : Option am_O := fg_564_0 N y0 y1 y2 h
theorem rm_564 {X : am_X} {d : Nat} {N : Nat} (y0 : Value) (y1 : Int32) (y2 : Int32) (h : am_H) (o : am_O) (i0 : am_isR y0 = true) (hs : fm_564 N y0 y1 y2 h = some o) : am_W X (d + 1) 564 0 (am_args 0 [y0, .int y1, .int y2]) [] h (fun q => q = o) := by
  rw [am_args_R i0, am_args_I, am_args_I]
  exact rg_564_0 y0 y1 y2 h o rfl rfl rfl i0 hs
def fg_565_65 (N : Nat) (rec_4 : Value → Int32 → Int32 → Int32 → am_H → Option am_O) (x0 : Value) (x1 : Int32) (x3 : Int32) (s0 : Int32) (h : am_H) : Option am_O := (rec_4 x0 x1 s0 ((x3 + 1)) h)
theorem rg_565_65 {X : am_X} {d : Nat} {N : Nat} {rec_4 : Value → Int32 → Int32 → Int32 → am_H → Option am_O} (q_4 : ∀ (x0 : Value) (x1 : Int32) (x2 : Int32) (x3 : Int32) (h : am_H) (o : am_O), rec_4 x0 x1 x2 x3 h = some o → ∀ lv : am_LV, (lv.lookup 0 = some x0) → (lv.lookup 1 = some (.int x1)) → (lv.lookup 2 = some (.int x2)) → (lv.lookup 3 = some (.int x3)) → (am_isR x0 = true) → am_W X (d) 565 4 lv [] h (fun q => q = o)) {lv : am_LV} (x0 : Value) (x1 : Int32) (x3 : Int32) (s0 : Int32) (h : am_H) (o : am_O) (l0 : lv.lookup 0 = some x0) (l1 : lv.lookup 1 = some (.int x1)) (l3 : lv.lookup 3 = some (.int x3)) (i0 : am_isR x0 = true) (hs : fg_565_65 N rec_4 x0 x1 x3 s0 h = some o) : am_W X (d) 565 65 lv [(.int s0)] h (fun q => q = o) := by
  unfold fg_565_65 at hs
  refine aw_istore_n (lv1 := am_put1 _ 2 _) (pc1 := 66) at_565_65 rfl rfl ?_
  refine aw_iinc (v := (x3 + 1)) (c := 1) (lv1 := am_put1 _ 3 _) (pc1 := 69) at_565_66 (am_lk1 l3 rfl rfl) (by decide) rfl rfl rfl ?_
  refine aw_goto at_565_69 ?_
  exact q_4 x0 x1 s0 ((x3 + 1)) h o hs _ (am_lk1 (am_lk1 l0 rfl rfl) rfl rfl) (am_lk1 (am_lk1 l1 rfl rfl) rfl rfl) (am_lk1 am_lk0 rfl rfl) am_lk0 i0
def fg_565_64 (N : Nat) (rec_4 : Value → Int32 → Int32 → Int32 → am_H → Option am_O) (x0 : Value) (x1 : Int32) (x3 : Int32) (h : am_H) : Option am_O := (fg_565_65 N rec_4 x0 x1 x3 0 h)
theorem rg_565_64 {X : am_X} {d : Nat} {N : Nat} {rec_4 : Value → Int32 → Int32 → Int32 → am_H → Option am_O} (q_4 : ∀ (x0 : Value) (x1 : Int32) (x2 : Int32) (x3 : Int32) (h : am_H) (o : am_O), rec_4 x0 x1 x2 x3 h = some o → ∀ lv : am_LV, (lv.lookup 0 = some x0) → (lv.lookup 1 = some (.int x1)) → (lv.lookup 2 = some (.int x2)) → (lv.lookup 3 = some (.int x3)) → (am_isR x0 = true) → am_W X (d) 565 4 lv [] h (fun q => q = o)) {lv : am_LV} (x0 : Value) (x1 : Int32) (x3 : Int32) (h : am_H) (o : am_O) (l0 : lv.lookup 0 = some x0) (l1 : lv.lookup 1 = some (.int x1)) (l3 : lv.lookup 3 = some (.int x3)) (i0 : am_isR x0 = true) (hs : fg_565_64 N rec_4 x0 x1 x3 h = some o) : am_W X (d) 565 64 lv [] h (fun q => q = o) := by
  unfold fg_565_64 at hs
  refine aw_iconst (v := 0) (pc1 := 65) at_565_64 (by decide) rfl ?_
  exact rg_565_65 q_4 x0 x1 x3 0 h o l0 l1 l3 i0 hs
def fg_565_4 (N : Nat) : Nat → Value → Int32 → Int32 → Int32 → am_H → Option am_O
  | 0 => fun _ _ _ _ _ => none
  | K + 1 => fun x0 x1 x2 x3 h => ((am_vR (am_pG 3192 x0 h)).bind fun v1 => ((am_pA 0 v1 x1 h).bind fun v3 => (if v3 ≤ x3 then (if am_rfit (some FieldType.boolean) x2 then some (.inl (some (.int x2), h)) else none) else ((am_vR (am_pG 3190 x0 h)).bind fun v7 => ((am_pA 0 v7 ((128 * x1) + x3) h).bind fun v9 => (if x2 = 0 then (fg_565_64 N (fg_565_4 N K) x0 x1 x3 h) else (if v9 = 13 then (fg_565_64 N (fg_565_4 N K) x0 x1 x3 h) else (if v9 = 14 then (fg_565_64 N (fg_565_4 N K) x0 x1 x3 h) else (if v9 = 8 then (fg_565_64 N (fg_565_4 N K) x0 x1 x3 h) else (if v9 = 19 then (fg_565_64 N (fg_565_4 N K) x0 x1 x3 h) else (fg_565_65 N (fg_565_4 N K) x0 x1 x3 1 h)))))))))))
theorem rg_565_4 {X : am_X} {d : Nat} {N : Nat} : ∀ (K : Nat) (x0 : Value) (x1 : Int32) (x2 : Int32) (x3 : Int32) (h : am_H) (o : am_O), fg_565_4 N K x0 x1 x2 x3 h = some o → ∀ lv : am_LV, (lv.lookup 0 = some x0) → (lv.lookup 1 = some (.int x1)) → (lv.lookup 2 = some (.int x2)) → (lv.lookup 3 = some (.int x3)) → (am_isR x0 = true) → am_W X (d) 565 4 lv [] h (fun q => q = o) := by
  intro K
  induction K with
  | zero => intro x0 x1 x2 x3 h o hs; cases hs
  | succ K ih =>
    intro x0 x1 x2 x3 h o hs lv l0 l1 l2 l3 i0
    unfold fg_565_4 at hs
    refine aw_iload_n (pc1 := 5) at_565_4 l3 rfl ?_
    refine aw_vload_n (pc1 := 6) at_565_5 l0 i0 rfl ?_
    obtain ⟨v1, e2, hs1⟩ := am_bind hs
    clear hs
    refine aw_pG (pc1 := 9) at_565_6 (am_vR_s e2).1 rfl ?_
    refine aw_iload_n (pc1 := 10) at_565_9 l1 rfl ?_
    obtain ⟨v3, e4, hs2⟩ := am_bind hs1
    clear hs1
    refine aw_pA (pc1 := 11) at_565_10 (Or.inl ⟨rfl, rfl⟩) e4 rfl ?_
    by_cases c5 : v3 ≤ x3
    · rw [if_pos c5] at hs2
      refine aw_icge_t at_565_11 c5 ?_
      refine aw_iload_n (pc1 := 73) at_565_72 l2 rfl ?_
      obtain ⟨z6, hs3⟩ := am_ift hs2
      clear hs2
      cases hs3
      exact aw_iret at_565_73 (by rw [rt_565]; exact z6) rfl
    · rw [if_neg c5] at hs2
      refine aw_icge_f (pc1 := 14) at_565_11 c5 rfl ?_
      refine aw_vload_n (pc1 := 15) at_565_14 l0 i0 rfl ?_
      obtain ⟨v7, e8, hs4⟩ := am_bind hs2
      clear hs2
      refine aw_pG (pc1 := 18) at_565_15 (am_vR_s e8).1 rfl ?_
      refine aw_sipush (v := 128) (pc1 := 21) at_565_18 (by decide) rfl ?_
      refine aw_iload_n (pc1 := 22) at_565_21 l1 rfl ?_
      refine aw_imul (v := (128 * x1)) (pc1 := 23) at_565_22 rfl rfl ?_
      refine aw_iload_n (pc1 := 24) at_565_23 l3 rfl ?_
      refine aw_iadd (v := ((128 * x1) + x3)) (pc1 := 25) at_565_24 rfl rfl ?_
      obtain ⟨v9, e10, hs5⟩ := am_bind hs4
      clear hs4
      refine aw_pA (pc1 := 26) at_565_25 (Or.inl ⟨rfl, rfl⟩) e10 rfl ?_
      refine aw_istore (lv1 := am_put1 _ 4 _) (pc1 := 28) at_565_26 rfl rfl ?_
      refine aw_iload_n (pc1 := 29) at_565_28 (am_lk1 l2 rfl rfl) rfl ?_
      by_cases c11 : x2 = 0
      · rw [if_pos c11] at hs5
        refine aw_ifeq_t at_565_29 c11 ?_
        exact rg_565_64 (fun z0 z1 z2 z3 h o hs5 => ih z0 z1 z2 z3 h o hs5) x0 x1 x3 h o (am_lk1 l0 rfl rfl) (am_lk1 l1 rfl rfl) (am_lk1 l3 rfl rfl) i0 hs5
      · rw [if_neg c11] at hs5
        refine aw_ifeq_f (pc1 := 32) at_565_29 c11 rfl ?_
        refine aw_iload (pc1 := 34) at_565_32 am_lk0 rfl ?_
        refine aw_bipush (v := 13) (pc1 := 36) at_565_34 (by decide) rfl ?_
        by_cases c12 : v9 = 13
        · rw [if_pos c12] at hs5
          refine aw_iceq_t at_565_36 c12 ?_
          exact rg_565_64 (fun z0 z1 z2 z3 h o hs5 => ih z0 z1 z2 z3 h o hs5) x0 x1 x3 h o (am_lk1 l0 rfl rfl) (am_lk1 l1 rfl rfl) (am_lk1 l3 rfl rfl) i0 hs5
        · rw [if_neg c12] at hs5
          refine aw_iceq_f (pc1 := 39) at_565_36 c12 rfl ?_
          refine aw_iload (pc1 := 41) at_565_39 am_lk0 rfl ?_
          refine aw_bipush (v := 14) (pc1 := 43) at_565_41 (by decide) rfl ?_
          by_cases c13 : v9 = 14
          · rw [if_pos c13] at hs5
            refine aw_iceq_t at_565_43 c13 ?_
            exact rg_565_64 (fun z0 z1 z2 z3 h o hs5 => ih z0 z1 z2 z3 h o hs5) x0 x1 x3 h o (am_lk1 l0 rfl rfl) (am_lk1 l1 rfl rfl) (am_lk1 l3 rfl rfl) i0 hs5
          · rw [if_neg c13] at hs5
            refine aw_iceq_f (pc1 := 46) at_565_43 c13 rfl ?_
            refine aw_iload (pc1 := 48) at_565_46 am_lk0 rfl ?_
            refine aw_bipush (v := 8) (pc1 := 50) at_565_48 (by decide) rfl ?_
            by_cases c14 : v9 = 8
            · rw [if_pos c14] at hs5
              refine aw_iceq_t at_565_50 c14 ?_
              exact rg_565_64 (fun z0 z1 z2 z3 h o hs5 => ih z0 z1 z2 z3 h o hs5) x0 x1 x3 h o (am_lk1 l0 rfl rfl) (am_lk1 l1 rfl rfl) (am_lk1 l3 rfl rfl) i0 hs5
            · rw [if_neg c14] at hs5
              refine aw_iceq_f (pc1 := 53) at_565_50 c14 rfl ?_
              refine aw_iload (pc1 := 55) at_565_53 am_lk0 rfl ?_
              refine aw_bipush (v := 19) (pc1 := 57) at_565_55 (by decide) rfl ?_
              by_cases c15 : v9 = 19
              · rw [if_pos c15] at hs5
                refine aw_iceq_t at_565_57 c15 ?_
                exact rg_565_64 (fun z0 z1 z2 z3 h o hs5 => ih z0 z1 z2 z3 h o hs5) x0 x1 x3 h o (am_lk1 l0 rfl rfl) (am_lk1 l1 rfl rfl) (am_lk1 l3 rfl rfl) i0 hs5
              · rw [if_neg c15] at hs5
                refine aw_iceq_f (pc1 := 60) at_565_57 c15 rfl ?_
                refine aw_iconst (v := 1) (pc1 := 61) at_565_60 (by decide) rfl ?_
                refine aw_goto at_565_61 ?_
                exact rg_565_65 (fun z0 z1 z2 z3 h o hs5 => ih z0 z1 z2 z3 h o hs5) x0 x1 x3 1 h o (am_lk1 l0 rfl rfl) (am_lk1 l1 rfl rfl) (am_lk1 l3 rfl rfl) i0 hs5
def fg_565_0 (N : Nat) (x0 : Value) (x1 : Int32) (h : am_H) : Option am_O := (fg_565_4 N N x0 x1 1 0 h)
theorem rg_565_0 {X : am_X} {d : Nat} {N : Nat} {lv : am_LV} (x0 : Value) (x1 : Int32) (h : am_H) (o : am_O) (l0 : lv.lookup 0 = some x0) (l1 : lv.lookup 1 = some (.int x1)) (i0 : am_isR x0 = true) (hs : fg_565_0 N x0 x1 h = some o) : am_W X (d) 565 0 lv [] h (fun q => q = o) := by
  unfold fg_565_0 at hs
  refine aw_iconst (v := 1) (pc1 := 1) at_565_0 (by decide) rfl ?_
  refine aw_istore_n (lv1 := am_put1 _ 2 _) (pc1 := 2) at_565_1 rfl rfl ?_
  refine aw_iconst (v := 0) (pc1 := 3) at_565_2 (by decide) rfl ?_
  refine aw_istore_n (lv1 := am_put1 _ 3 _) (pc1 := 4) at_565_3 rfl rfl ?_
  exact rg_565_4 N x0 x1 1 0 h o hs _ (am_lk1 (am_lk1 l0 rfl rfl) rfl rfl) (am_lk1 (am_lk1 l1 rfl rfl) rfl rfl) (am_lk1 am_lk0 rfl rfl) am_lk0 i0
def fm_565 (N : Nat) (y0 : Value) (y1 : Int32) (h : am_H) : Option am_O := fg_565_0 N y0 y1 h
theorem rm_565 {X : am_X} {d : Nat} {N : Nat} (y0 : Value) (y1 : Int32) (h : am_H) (o : am_O) (i0 : am_isR y0 = true) (hs : fm_565 N y0 y1 h = some o) : am_W X (d) 565 0 (am_args 0 [y0, .int y1]) [] h (fun q => q = o) := by
  rw [am_args_R i0, am_args_I]
  exact rg_565_0 y0 y1 h o rfl rfl i0 hs
def fg_558_194 (N : Nat) (h : am_H) : Option am_O := some (.inl (some (.int 0), h))
theorem rg_558_194 {X : am_X} {d : Nat} {N : Nat} {lv : am_LV} (h : am_H) (o : am_O) (hs : fg_558_194 N h = some o) : am_W X (d + 4) 558 194 lv [] h (fun q => q = o) := by
  unfold fg_558_194 at hs
  refine aw_iconst (v := 0) (pc1 := 195) at_558_194 (by decide) rfl ?_
  cases hs
  exact aw_iret at_558_195 (by rw [rt_558]; decide) rfl
def fg_558_129 (N : Nat) (x0 : Value) (h : am_H) : Option am_O := ((am_vI (am_pG 3193 x0 h)).bind fun v1 => ((am_vI (am_pG 3193 x0 h)).bind fun v3 => (if am_pOk 12 x0 h then am_cV true (fm_564 N x0 ((v1 - 1)) v3 h) (fun h7 => ((am_vI (am_pG 3193 x0 h7)).bind fun v9 => ((am_vI (am_pG 3193 x0 h7)).bind fun v11 => (if am_pOk 12 x0 h7 then am_cV true (fm_564 N x0 ((v9 - 2)) ((v11 - 1)) h7) (fun h15 => ((am_vI (am_pG 3193 x0 h15)).bind fun v17 => ((am_vI (am_pG 3193 x0 h15)).bind fun v19 => (if am_pOk 12 x0 h15 then am_cV true (fm_564 N x0 v17 ((v19 - 2)) h15) (fun h23 => some (.inl (some (.int 1), h23))) else none)))) else none)))) else none)))
theorem rg_558_129 {X : am_X} {d : Nat} {N : Nat} {lv : am_LV} (x0 : Value) (h : am_H) (o : am_O) (l0 : lv.lookup 0 = some x0) (i0 : am_isR x0 = true) (hs : fg_558_129 N x0 h = some o) : am_W X (d + 4) 558 129 lv [] h (fun q => q = o) := by
  unfold fg_558_129 at hs
  refine aw_vload_n (pc1 := 130) at_558_129 l0 i0 rfl ?_
  refine aw_vload_n (pc1 := 131) at_558_130 l0 i0 rfl ?_
  obtain ⟨v1, e2, hs1⟩ := am_bind hs
  clear hs
  refine aw_pG (pc1 := 134) at_558_131 (am_vI_s e2) rfl ?_
  refine aw_iconst (v := 1) (pc1 := 135) at_558_134 (by decide) rfl ?_
  refine aw_isub (v := (v1 - 1)) (pc1 := 136) at_558_135 rfl rfl ?_
  refine aw_vload_n (pc1 := 137) at_558_136 l0 i0 rfl ?_
  obtain ⟨v3, e4, hs2⟩ := am_bind hs1
  clear hs1
  refine aw_pG (pc1 := 140) at_558_137 (am_vI_s e4) rfl ?_
  obtain ⟨z5, hs3⟩ := am_ift hs2
  clear hs2
  refine aw_call (F := fm_564 N x0 ((v1 - 1)) v3 h) (t := true) (na := 3) (kd := 1) (as := [x0, (.int (v1 - 1)), (.int v3)]) at_558_140 (am_k3v kb_564) mn_564 mk_564 rfl rfl (am_ok_v mi_564 (am_hl rfl (am_ccR i0 (am_ccI (am_ccI am_cats_0))) rfl) z5) (am_hc am_cats_0 rfl) (fun _ => ⟨rfl, hh_558⟩) (fun o1 hz9 => rm_564 x0 ((v1 - 1)) v3 h o1 i0 hz9) ?_
  rcases am_cV_s hs3 with ⟨h7, f8, hs4⟩ | hs4
  · clear hs3
    refine Or.inl ⟨_, _, f8, ?_⟩
    show am_W X _ 558 143 _ [] h7 _
    refine aw_vload_n (pc1 := 144) at_558_143 l0 i0 rfl ?_
    refine aw_vload_n (pc1 := 145) at_558_144 l0 i0 rfl ?_
    obtain ⟨v9, e10, hs5⟩ := am_bind hs4
    clear hs4
    refine aw_pG (pc1 := 148) at_558_145 (am_vI_s e10) rfl ?_
    refine aw_iconst (v := 2) (pc1 := 149) at_558_148 (by decide) rfl ?_
    refine aw_isub (v := (v9 - 2)) (pc1 := 150) at_558_149 rfl rfl ?_
    refine aw_vload_n (pc1 := 151) at_558_150 l0 i0 rfl ?_
    obtain ⟨v11, e12, hs6⟩ := am_bind hs5
    clear hs5
    refine aw_pG (pc1 := 154) at_558_151 (am_vI_s e12) rfl ?_
    refine aw_iconst (v := 1) (pc1 := 155) at_558_154 (by decide) rfl ?_
    refine aw_isub (v := (v11 - 1)) (pc1 := 156) at_558_155 rfl rfl ?_
    obtain ⟨z13, hs7⟩ := am_ift hs6
    clear hs6
    refine aw_call (F := fm_564 N x0 ((v9 - 2)) ((v11 - 1)) h7) (t := true) (na := 3) (kd := 1) (as := [x0, (.int (v9 - 2)), (.int (v11 - 1))]) at_558_156 (am_k3v kb_564) mn_564 mk_564 rfl rfl (am_ok_v mi_564 (am_hl rfl (am_ccR i0 (am_ccI (am_ccI am_cats_0))) rfl) z13) (am_hc am_cats_0 rfl) (fun _ => ⟨rfl, hh_558⟩) (fun o1 hz9 => rm_564 x0 ((v9 - 2)) ((v11 - 1)) h7 o1 i0 hz9) ?_
    rcases am_cV_s hs7 with ⟨h15, f16, hs8⟩ | hs8
    · clear hs7
      refine Or.inl ⟨_, _, f16, ?_⟩
      show am_W X _ 558 159 _ [] h15 _
      refine aw_vload_n (pc1 := 160) at_558_159 l0 i0 rfl ?_
      refine aw_vload_n (pc1 := 161) at_558_160 l0 i0 rfl ?_
      obtain ⟨v17, e18, hs9⟩ := am_bind hs8
      clear hs8
      refine aw_pG (pc1 := 164) at_558_161 (am_vI_s e18) rfl ?_
      refine aw_vload_n (pc1 := 165) at_558_164 l0 i0 rfl ?_
      obtain ⟨v19, e20, hs10⟩ := am_bind hs9
      clear hs9
      refine aw_pG (pc1 := 168) at_558_165 (am_vI_s e20) rfl ?_
      refine aw_iconst (v := 2) (pc1 := 169) at_558_168 (by decide) rfl ?_
      refine aw_isub (v := (v19 - 2)) (pc1 := 170) at_558_169 rfl rfl ?_
      obtain ⟨z21, hs11⟩ := am_ift hs10
      clear hs10
      refine aw_call (F := fm_564 N x0 v17 ((v19 - 2)) h15) (t := true) (na := 3) (kd := 1) (as := [x0, (.int v17), (.int (v19 - 2))]) at_558_170 (am_k3v kb_564) mn_564 mk_564 rfl rfl (am_ok_v mi_564 (am_hl rfl (am_ccR i0 (am_ccI (am_ccI am_cats_0))) rfl) z21) (am_hc am_cats_0 rfl) (fun _ => ⟨rfl, hh_558⟩) (fun o1 hz9 => rm_564 x0 v17 ((v19 - 2)) h15 o1 i0 hz9) ?_
      rcases am_cV_s hs11 with ⟨h23, f24, hs12⟩ | hs12
      · clear hs11
        refine Or.inl ⟨_, _, f24, ?_⟩
        show am_W X _ 558 173 _ [] h23 _
        refine aw_iconst (v := 1) (pc1 := 174) at_558_173 (by decide) rfl ?_
        cases hs12
        exact aw_iret at_558_174 (by rw [rt_558]; decide) rfl
      · clear hs11
        exact Or.inr hs12
    · clear hs7
      exact Or.inr hs8
  · clear hs3
    exact Or.inr hs4
def fg_558_59 (N : Nat) (s0 : Value) (s1 : Int32) (h : am_H) : Option am_O := (if am_pOk 12 s0 h then am_cI true (fm_560 N s0 s1 h) (fun v2 h3 => (if am_rfit (some FieldType.boolean) v2 then some (.inl (some (.int v2), h3)) else none)) else none)
theorem rg_558_59 {X : am_X} {d : Nat} {N : Nat} {lv : am_LV} (s0 : Value) (s1 : Int32) (h : am_H) (o : am_O) (j0 : am_isR s0 = true) (hs : fg_558_59 N s0 s1 h = some o) : am_W X (d + 4) 558 59 lv [(.int s1), s0] h (fun q => q = o) := by
  unfold fg_558_59 at hs
  obtain ⟨z1, hs1⟩ := am_ift hs
  clear hs
  refine aw_call (F := fm_560 N s0 s1 h) (t := true) (na := 2) (kd := 1) (as := [s0, (.int s1)]) at_558_59 (am_k3v kb_560) mn_560 mk_560 rfl rfl (am_ok_v mi_560 (am_hl rfl (am_ccR j0 (am_ccI am_cats_0)) rfl) z1) (am_hc am_cats_0 rfl) (fun _ => ⟨rfl, hh_558⟩) (fun o1 hz9 => rm_560 s0 s1 h o1 j0 hz9) ?_
  rcases am_cI_s hs1 with ⟨v2, h3, f4, hs2⟩ | hs2
  · clear hs1
    refine Or.inl ⟨_, _, f4, ?_⟩
    show am_W X _ 558 62 _ [(.int v2)] h3 _
    obtain ⟨z5, hs3⟩ := am_ift hs2
    clear hs2
    cases hs3
    exact aw_iret at_558_62 (by rw [rt_558]; exact z5) rfl
  · clear hs1
    exact Or.inr hs2
def fg_558_0 (N : Nat) (x0 : Value) (x1 : Int32) (x2 : Int32) (h : am_H) : Option am_O := (if 5 ≤ x1 then (if 14 ≤ x1 then (if ¬ x1 = 14 then (if ¬ x1 = 15 then (if ¬ x1 = 16 then (fg_558_194 N h) else ((am_vI (am_pG 3193 x0 h)).bind fun v6 => (if am_pOk 12 x0 h then am_cI true (fm_565 N x0 ((v6 - 1)) h) (fun v9 h10 => (if ¬ v9 = 0 then ((am_vI (am_pG 3193 x0 h10)).bind fun v13 => ((am_pP 3193 x0 (.int (v13 - 1)) h10).bind fun h15 => some (.inl (some (.int 1), h15)))) else (fg_558_194 N h10))) else none))) else ((am_vI (am_pG 3193 x0 h)).bind fun v17 => (if am_pOk 12 x0 h then am_cI true (fm_565 N x0 ((v17 - 1)) h) (fun v20 h21 => (if ¬ v20 = 0 then (fg_558_129 N x0 h21) else ((am_vI (am_pG 3193 x0 h21)).bind fun v24 => (if am_pOk 12 x0 h21 then am_cI true (fm_565 N x0 ((v24 - 2)) h21) (fun v27 h28 => (if ¬ v27 = 0 then (fg_558_129 N x0 h28) else some (.inl (some (.int 0), h28)))) else none)))) else none))) else ((am_vI (am_pG 3193 x0 h)).bind fun v31 => ((am_vI (am_pG 3193 x0 h)).bind fun v33 => (if am_pOk 12 x0 h then am_cV true (fm_564 N x0 ((v31 - 1)) v33 h) (fun h37 => ((am_vI (am_pG 3193 x0 h37)).bind fun v39 => ((am_pP 3193 x0 (.int (v39 + 1)) h37).bind fun h41 => some (.inl (some (.int 1), h41))))) else none)))) else (if 7 ≤ x1 then (fg_558_59 N x0 ((x1 + 3)) h) else (fg_558_59 N x0 ((x1 + 2)) h))) else ((am_vR (am_pG 3192 x0 h)).bind fun v44 => ((am_vI (am_pG 3193 x0 h)).bind fun v46 => ((am_pS 0 v44 v46 0 h).bind fun h48 => ((am_vI (am_pG 3193 x0 h48)).bind fun v50 => (if am_pOk 12 x0 h48 then am_cV true (fm_559 x0 v50 x1 x2 h48) (fun h54 => ((am_vI (am_pG 3193 x0 h54)).bind fun v56 => ((am_pP 3193 x0 (.int (v56 + 1)) h54).bind fun h58 => some (.inl (some (.int 1), h58))))) else none))))))
theorem rg_558_0 {X : am_X} {d : Nat} {N : Nat} {lv : am_LV} (x0 : Value) (x1 : Int32) (x2 : Int32) (h : am_H) (o : am_O) (l0 : lv.lookup 0 = some x0) (l1 : lv.lookup 1 = some (.int x1)) (l2 : lv.lookup 2 = some (.int x2)) (i0 : am_isR x0 = true) (hs : fg_558_0 N x0 x1 x2 h = some o) : am_W X (d + 4) 558 0 lv [] h (fun q => q = o) := by
  unfold fg_558_0 at hs
  refine aw_iload_n (pc1 := 1) at_558_0 l1 rfl ?_
  refine aw_iconst (v := 5) (pc1 := 2) at_558_1 (by decide) rfl ?_
  by_cases c1 : 5 ≤ x1
  · rw [if_pos c1] at hs
    refine aw_icge_t at_558_2 c1 ?_
    refine aw_iload_n (pc1 := 38) at_558_37 l1 rfl ?_
    refine aw_bipush (v := 14) (pc1 := 40) at_558_38 (by decide) rfl ?_
    by_cases c2 : 14 ≤ x1
    · rw [if_pos c2] at hs
      refine aw_icge_t at_558_40 c2 ?_
      refine aw_iload_n (pc1 := 64) at_558_63 l1 rfl ?_
      refine aw_bipush (v := 14) (pc1 := 66) at_558_64 (by decide) rfl ?_
      by_cases c3 : ¬ x1 = 14
      · rw [if_pos c3] at hs
        refine aw_icne_t at_558_66 c3 ?_
        refine aw_iload_n (pc1 := 96) at_558_95 l1 rfl ?_
        refine aw_bipush (v := 15) (pc1 := 98) at_558_96 (by decide) rfl ?_
        by_cases c4 : ¬ x1 = 15
        · rw [if_pos c4] at hs
          refine aw_icne_t at_558_98 c4 ?_
          refine aw_iload_n (pc1 := 176) at_558_175 l1 rfl ?_
          refine aw_bipush (v := 16) (pc1 := 178) at_558_176 (by decide) rfl ?_
          by_cases c5 : ¬ x1 = 16
          · rw [if_pos c5] at hs
            refine aw_icne_t at_558_178 c5 ?_
            exact rg_558_194 h o   hs
          · rw [if_neg c5] at hs
            refine aw_icne_f (pc1 := 181) at_558_178 c5 rfl ?_
            refine aw_vload_n (pc1 := 182) at_558_181 l0 i0 rfl ?_
            refine aw_vload_n (pc1 := 183) at_558_182 l0 i0 rfl ?_
            obtain ⟨v6, e7, hs1⟩ := am_bind hs
            clear hs
            refine aw_pG (pc1 := 186) at_558_183 (am_vI_s e7) rfl ?_
            refine aw_iconst (v := 1) (pc1 := 187) at_558_186 (by decide) rfl ?_
            refine aw_isub (v := (v6 - 1)) (pc1 := 188) at_558_187 rfl rfl ?_
            obtain ⟨z8, hs2⟩ := am_ift hs1
            clear hs1
            refine aw_call (F := fm_565 N x0 ((v6 - 1)) h) (t := true) (na := 2) (kd := 1) (as := [x0, (.int (v6 - 1))]) at_558_188 (am_k3v kb_565) mn_565 mk_565 rfl rfl (am_ok_v mi_565 (am_hl rfl (am_ccR i0 (am_ccI am_cats_0)) rfl) z8) (am_hc am_cats_0 rfl) (fun _ => ⟨rfl, hh_558⟩) (fun o1 hz9 => rm_565 x0 ((v6 - 1)) h o1 i0 hz9) ?_
            rcases am_cI_s hs2 with ⟨v9, h10, f11, hs3⟩ | hs3
            · clear hs2
              refine Or.inl ⟨_, _, f11, ?_⟩
              show am_W X _ 558 191 _ [(.int v9)] h10 _
              by_cases c12 : ¬ v9 = 0
              · rw [if_pos c12] at hs3
                refine aw_ifne_t at_558_191 c12 ?_
                refine aw_vload_n (pc1 := 197) at_558_196 l0 i0 rfl ?_
                refine aw_vdup (pc1 := 198) at_558_197 i0 rfl ?_
                obtain ⟨v13, e14, hs4⟩ := am_bind hs3
                clear hs3
                refine aw_pG (pc1 := 201) at_558_198 (am_vI_s e14) rfl ?_
                refine aw_iconst (v := 1) (pc1 := 202) at_558_201 (by decide) rfl ?_
                refine aw_isub (v := (v13 - 1)) (pc1 := 203) at_558_202 rfl rfl ?_
                obtain ⟨h15, e16, hs5⟩ := am_bind hs4
                clear hs4
                refine aw_pP (pc1 := 206) at_558_203 e16 rfl ?_
                refine aw_iconst (v := 1) (pc1 := 207) at_558_206 (by decide) rfl ?_
                cases hs5
                exact aw_iret at_558_207 (by rw [rt_558]; decide) rfl
              · rw [if_neg c12] at hs3
                refine aw_ifne_f (pc1 := 194) at_558_191 c12 rfl ?_
                exact rg_558_194 h10 o   hs3
            · clear hs2
              exact Or.inr hs3
        · rw [if_neg c4] at hs
          refine aw_icne_f (pc1 := 101) at_558_98 c4 rfl ?_
          refine aw_vload_n (pc1 := 102) at_558_101 l0 i0 rfl ?_
          refine aw_vload_n (pc1 := 103) at_558_102 l0 i0 rfl ?_
          obtain ⟨v17, e18, hs6⟩ := am_bind hs
          clear hs
          refine aw_pG (pc1 := 106) at_558_103 (am_vI_s e18) rfl ?_
          refine aw_iconst (v := 1) (pc1 := 107) at_558_106 (by decide) rfl ?_
          refine aw_isub (v := (v17 - 1)) (pc1 := 108) at_558_107 rfl rfl ?_
          obtain ⟨z19, hs7⟩ := am_ift hs6
          clear hs6
          refine aw_call (F := fm_565 N x0 ((v17 - 1)) h) (t := true) (na := 2) (kd := 1) (as := [x0, (.int (v17 - 1))]) at_558_108 (am_k3v kb_565) mn_565 mk_565 rfl rfl (am_ok_v mi_565 (am_hl rfl (am_ccR i0 (am_ccI am_cats_0)) rfl) z19) (am_hc am_cats_0 rfl) (fun _ => ⟨rfl, hh_558⟩) (fun o1 hz9 => rm_565 x0 ((v17 - 1)) h o1 i0 hz9) ?_
          rcases am_cI_s hs7 with ⟨v20, h21, f22, hs8⟩ | hs8
          · clear hs7
            refine Or.inl ⟨_, _, f22, ?_⟩
            show am_W X _ 558 111 _ [(.int v20)] h21 _
            by_cases c23 : ¬ v20 = 0
            · rw [if_pos c23] at hs8
              refine aw_ifne_t at_558_111 c23 ?_
              exact rg_558_129 x0 h21 o l0 i0 hs8
            · rw [if_neg c23] at hs8
              refine aw_ifne_f (pc1 := 114) at_558_111 c23 rfl ?_
              refine aw_vload_n (pc1 := 115) at_558_114 l0 i0 rfl ?_
              refine aw_vload_n (pc1 := 116) at_558_115 l0 i0 rfl ?_
              obtain ⟨v24, e25, hs9⟩ := am_bind hs8
              clear hs8
              refine aw_pG (pc1 := 119) at_558_116 (am_vI_s e25) rfl ?_
              refine aw_iconst (v := 2) (pc1 := 120) at_558_119 (by decide) rfl ?_
              refine aw_isub (v := (v24 - 2)) (pc1 := 121) at_558_120 rfl rfl ?_
              obtain ⟨z26, hs10⟩ := am_ift hs9
              clear hs9
              refine aw_call (F := fm_565 N x0 ((v24 - 2)) h21) (t := true) (na := 2) (kd := 1) (as := [x0, (.int (v24 - 2))]) at_558_121 (am_k3v kb_565) mn_565 mk_565 rfl rfl (am_ok_v mi_565 (am_hl rfl (am_ccR i0 (am_ccI am_cats_0)) rfl) z26) (am_hc am_cats_0 rfl) (fun _ => ⟨rfl, hh_558⟩) (fun o1 hz9 => rm_565 x0 ((v24 - 2)) h21 o1 i0 hz9) ?_
              rcases am_cI_s hs10 with ⟨v27, h28, f29, hs11⟩ | hs11
              · clear hs10
                refine Or.inl ⟨_, _, f29, ?_⟩
                show am_W X _ 558 124 _ [(.int v27)] h28 _
                by_cases c30 : ¬ v27 = 0
                · rw [if_pos c30] at hs11
                  refine aw_ifne_t at_558_124 c30 ?_
                  exact rg_558_129 x0 h28 o l0 i0 hs11
                · rw [if_neg c30] at hs11
                  refine aw_ifne_f (pc1 := 127) at_558_124 c30 rfl ?_
                  refine aw_iconst (v := 0) (pc1 := 128) at_558_127 (by decide) rfl ?_
                  cases hs11
                  exact aw_iret at_558_128 (by rw [rt_558]; decide) rfl
              · clear hs10
                exact Or.inr hs11
          · clear hs7
            exact Or.inr hs8
      · rw [if_neg c3] at hs
        refine aw_icne_f (pc1 := 69) at_558_66 c3 rfl ?_
        refine aw_vload_n (pc1 := 70) at_558_69 l0 i0 rfl ?_
        refine aw_vload_n (pc1 := 71) at_558_70 l0 i0 rfl ?_
        obtain ⟨v31, e32, hs12⟩ := am_bind hs
        clear hs
        refine aw_pG (pc1 := 74) at_558_71 (am_vI_s e32) rfl ?_
        refine aw_iconst (v := 1) (pc1 := 75) at_558_74 (by decide) rfl ?_
        refine aw_isub (v := (v31 - 1)) (pc1 := 76) at_558_75 rfl rfl ?_
        refine aw_vload_n (pc1 := 77) at_558_76 l0 i0 rfl ?_
        obtain ⟨v33, e34, hs13⟩ := am_bind hs12
        clear hs12
        refine aw_pG (pc1 := 80) at_558_77 (am_vI_s e34) rfl ?_
        obtain ⟨z35, hs14⟩ := am_ift hs13
        clear hs13
        refine aw_call (F := fm_564 N x0 ((v31 - 1)) v33 h) (t := true) (na := 3) (kd := 1) (as := [x0, (.int (v31 - 1)), (.int v33)]) at_558_80 (am_k3v kb_564) mn_564 mk_564 rfl rfl (am_ok_v mi_564 (am_hl rfl (am_ccR i0 (am_ccI (am_ccI am_cats_0))) rfl) z35) (am_hc am_cats_0 rfl) (fun _ => ⟨rfl, hh_558⟩) (fun o1 hz9 => rm_564 x0 ((v31 - 1)) v33 h o1 i0 hz9) ?_
        rcases am_cV_s hs14 with ⟨h37, f38, hs15⟩ | hs15
        · clear hs14
          refine Or.inl ⟨_, _, f38, ?_⟩
          show am_W X _ 558 83 _ [] h37 _
          refine aw_vload_n (pc1 := 84) at_558_83 l0 i0 rfl ?_
          refine aw_vdup (pc1 := 85) at_558_84 i0 rfl ?_
          obtain ⟨v39, e40, hs16⟩ := am_bind hs15
          clear hs15
          refine aw_pG (pc1 := 88) at_558_85 (am_vI_s e40) rfl ?_
          refine aw_iconst (v := 1) (pc1 := 89) at_558_88 (by decide) rfl ?_
          refine aw_iadd (v := (v39 + 1)) (pc1 := 90) at_558_89 rfl rfl ?_
          obtain ⟨h41, e42, hs17⟩ := am_bind hs16
          clear hs16
          refine aw_pP (pc1 := 93) at_558_90 e42 rfl ?_
          refine aw_iconst (v := 1) (pc1 := 94) at_558_93 (by decide) rfl ?_
          cases hs17
          exact aw_iret at_558_94 (by rw [rt_558]; decide) rfl
        · clear hs14
          exact Or.inr hs15
    · rw [if_neg c2] at hs
      refine aw_icge_f (pc1 := 43) at_558_40 c2 rfl ?_
      refine aw_vload_n (pc1 := 44) at_558_43 l0 i0 rfl ?_
      refine aw_iload_n (pc1 := 45) at_558_44 l1 rfl ?_
      refine aw_bipush (v := 7) (pc1 := 47) at_558_45 (by decide) rfl ?_
      by_cases c43 : 7 ≤ x1
      · rw [if_pos c43] at hs
        refine aw_icge_t at_558_47 c43 ?_
        refine aw_iload_n (pc1 := 57) at_558_56 l1 rfl ?_
        refine aw_iconst (v := 3) (pc1 := 58) at_558_57 (by decide) rfl ?_
        refine aw_iadd (v := (x1 + 3)) (pc1 := 59) at_558_58 rfl rfl ?_
        exact rg_558_59 x0 ((x1 + 3)) h o  i0 hs
      · rw [if_neg c43] at hs
        refine aw_icge_f (pc1 := 50) at_558_47 c43 rfl ?_
        refine aw_iload_n (pc1 := 51) at_558_50 l1 rfl ?_
        refine aw_iconst (v := 2) (pc1 := 52) at_558_51 (by decide) rfl ?_
        refine aw_iadd (v := (x1 + 2)) (pc1 := 53) at_558_52 rfl rfl ?_
        refine aw_goto at_558_53 ?_
        exact rg_558_59 x0 ((x1 + 2)) h o  i0 hs
  · rw [if_neg c1] at hs
    refine aw_icge_f (pc1 := 5) at_558_2 c1 rfl ?_
    refine aw_vload_n (pc1 := 6) at_558_5 l0 i0 rfl ?_
    obtain ⟨v44, e45, hs18⟩ := am_bind hs
    clear hs
    refine aw_pG (pc1 := 9) at_558_6 (am_vR_s e45).1 rfl ?_
    refine aw_vload_n (pc1 := 10) at_558_9 l0 i0 rfl ?_
    obtain ⟨v46, e47, hs19⟩ := am_bind hs18
    clear hs18
    refine aw_pG (pc1 := 13) at_558_10 (am_vI_s e47) rfl ?_
    refine aw_iconst (v := 0) (pc1 := 14) at_558_13 (by decide) rfl ?_
    obtain ⟨h48, e49, hs20⟩ := am_bind hs19
    clear hs19
    refine aw_pS (pc1 := 15) at_558_14 (Or.inl ⟨rfl, rfl⟩) e49 rfl ?_
    refine aw_vload_n (pc1 := 16) at_558_15 l0 i0 rfl ?_
    refine aw_vload_n (pc1 := 17) at_558_16 l0 i0 rfl ?_
    obtain ⟨v50, e51, hs21⟩ := am_bind hs20
    clear hs20
    refine aw_pG (pc1 := 20) at_558_17 (am_vI_s e51) rfl ?_
    refine aw_iload_n (pc1 := 21) at_558_20 l1 rfl ?_
    refine aw_iload_n (pc1 := 22) at_558_21 l2 rfl ?_
    obtain ⟨z52, hs22⟩ := am_ift hs21
    clear hs21
    refine aw_call (F := fm_559 x0 v50 x1 x2 h48) (t := true) (na := 4) (kd := 1) (as := [x0, (.int v50), (.int x1), (.int x2)]) at_558_22 (am_k3v kb_559) mn_559 mk_559 rfl rfl (am_ok_v mi_559 (am_hl rfl (am_ccR i0 (am_ccI (am_ccI (am_ccI am_cats_0)))) rfl) z52) (am_hc am_cats_0 rfl) (fun _ => ⟨rfl, hh_558⟩) (fun o1 hz9 => rm_559 x0 v50 x1 x2 h48 o1 i0 hz9) ?_
    rcases am_cV_s hs22 with ⟨h54, f55, hs23⟩ | hs23
    · clear hs22
      refine Or.inl ⟨_, _, f55, ?_⟩
      show am_W X _ 558 25 _ [] h54 _
      refine aw_vload_n (pc1 := 26) at_558_25 l0 i0 rfl ?_
      refine aw_vdup (pc1 := 27) at_558_26 i0 rfl ?_
      obtain ⟨v56, e57, hs24⟩ := am_bind hs23
      clear hs23
      refine aw_pG (pc1 := 30) at_558_27 (am_vI_s e57) rfl ?_
      refine aw_iconst (v := 1) (pc1 := 31) at_558_30 (by decide) rfl ?_
      refine aw_iadd (v := (v56 + 1)) (pc1 := 32) at_558_31 rfl rfl ?_
      obtain ⟨h58, e59, hs25⟩ := am_bind hs24
      clear hs24
      refine aw_pP (pc1 := 35) at_558_32 e59 rfl ?_
      refine aw_iconst (v := 1) (pc1 := 36) at_558_35 (by decide) rfl ?_
      cases hs25
      exact aw_iret at_558_36 (by rw [rt_558]; decide) rfl
    · clear hs22
      exact Or.inr hs23
def fm_558 (N : Nat) (y0 : Value) (y1 : Int32) (y2 : Int32) (h : am_H) : Option am_O := fg_558_0 N y0 y1 y2 h
theorem rm_558 {X : am_X} {d : Nat} {N : Nat} (y0 : Value) (y1 : Int32) (y2 : Int32) (h : am_H) (o : am_O) (i0 : am_isR y0 = true) (hs : fm_558 N y0 y1 y2 h = some o) : am_W X (d + 4) 558 0 (am_args 0 [y0, .int y1, .int y2]) [] h (fun q => q = o) := by
  rw [am_args_R i0, am_args_I, am_args_I]
  exact rg_558_0 y0 y1 y2 h o rfl rfl rfl i0 hs
def fg_557_82 (N : Nat) (x0 : Value) (x1 : Int32) (h : am_H) : Option am_O := (if ¬ x1 = 0 then (if am_pOk 12 x0 h then am_cV true (fm_561 N x0 0 h) (fun h4 => (if am_pOk 12 x0 h4 then am_cI true (fm_563 N x0 0 h4) (fun v7 h8 => (if ¬ v7 = 0 then ((am_pP 3087 x0 (.int 0) h8).bind fun h11 => (if am_pOk 12 x0 h11 then am_cV true (fm_495 N x0 h11) (fun h15 => some (.inl (some (.int 1), h15))) else none)) else some (.inl (some (.int 0), h8)))) else none)) else none) else some (.inl (some (.int 0), h)))
theorem rg_557_82 {X : am_X} {d : Nat} {N : Nat} {lv : am_LV} (x0 : Value) (x1 : Int32) (h : am_H) (o : am_O) (l0 : lv.lookup 0 = some x0) (l1 : lv.lookup 1 = some (.int x1)) (i0 : am_isR x0 = true) (hs : fg_557_82 N x0 x1 h = some o) : am_W X (d + 5) 557 82 lv [] h (fun q => q = o) := by
  unfold fg_557_82 at hs
  refine aw_iload_n (pc1 := 83) at_557_82 l1 rfl ?_
  by_cases c1 : ¬ x1 = 0
  · rw [if_pos c1] at hs
    refine aw_ifne_t at_557_83 c1 ?_
    refine aw_vload_n (pc1 := 89) at_557_88 l0 i0 rfl ?_
    refine aw_iconst (v := 0) (pc1 := 90) at_557_89 (by decide) rfl ?_
    obtain ⟨z2, hs1⟩ := am_ift hs
    clear hs
    refine aw_call (F := fm_561 N x0 0 h) (t := true) (na := 2) (kd := 1) (as := [x0, (.int 0)]) at_557_90 (am_k3v kb_561) mn_561 mk_561 rfl rfl (am_ok_v mi_561 (am_hl rfl (am_ccR i0 (am_ccI am_cats_0)) rfl) z2) (am_hc am_cats_0 rfl) (fun _ => ⟨rfl, hh_557⟩) (fun o1 hz9 => rm_561 x0 0 h o1 i0 hz9) ?_
    rcases am_cV_s hs1 with ⟨h4, f5, hs2⟩ | hs2
    · clear hs1
      refine Or.inl ⟨_, _, f5, ?_⟩
      show am_W X _ 557 93 _ [] h4 _
      refine aw_vload_n (pc1 := 94) at_557_93 l0 i0 rfl ?_
      refine aw_iconst (v := 0) (pc1 := 95) at_557_94 (by decide) rfl ?_
      obtain ⟨z6, hs3⟩ := am_ift hs2
      clear hs2
      refine aw_call (F := fm_563 N x0 0 h4) (t := true) (na := 2) (kd := 1) (as := [x0, (.int 0)]) at_557_95 (am_k3v kb_563) mn_563 mk_563 rfl rfl (am_ok_v mi_563 (am_hl rfl (am_ccR i0 (am_ccI am_cats_0)) rfl) z6) (am_hc am_cats_0 rfl) (fun _ => ⟨rfl, hh_557⟩) (fun o1 hz9 => rm_563 x0 0 h4 o1 i0 hz9) ?_
      rcases am_cI_s hs3 with ⟨v7, h8, f9, hs4⟩ | hs4
      · clear hs3
        refine Or.inl ⟨_, _, f9, ?_⟩
        show am_W X _ 557 98 _ [(.int v7)] h8 _
        by_cases c10 : ¬ v7 = 0
        · rw [if_pos c10] at hs4
          refine aw_ifne_t at_557_98 c10 ?_
          refine aw_vload_n (pc1 := 104) at_557_103 l0 i0 rfl ?_
          refine aw_iconst (v := 0) (pc1 := 105) at_557_104 (by decide) rfl ?_
          obtain ⟨h11, e12, hs5⟩ := am_bind hs4
          clear hs4
          refine aw_pP (pc1 := 108) at_557_105 e12 rfl ?_
          refine aw_vload_n (pc1 := 109) at_557_108 l0 i0 rfl ?_
          obtain ⟨z13, hs6⟩ := am_ift hs5
          clear hs5
          refine aw_call (F := fm_495 N x0 h11) (t := true) (na := 1) (kd := 1) (as := [x0]) at_557_109 (am_k3v kb_495) mn_495 mk_495 rfl rfl (am_ok_v mi_495 (am_hl rfl (am_ccR i0 am_cats_0) rfl) z13) (am_hc am_cats_0 rfl) (fun _ => ⟨rfl, hh_557⟩) (fun o1 hz9 => rm_495 x0 h11 o1 i0 hz9) ?_
          rcases am_cV_s hs6 with ⟨h15, f16, hs7⟩ | hs7
          · clear hs6
            refine Or.inl ⟨_, _, f16, ?_⟩
            show am_W X _ 557 112 _ [] h15 _
            refine aw_iconst (v := 1) (pc1 := 113) at_557_112 (by decide) rfl ?_
            cases hs7
            exact aw_iret at_557_113 (by rw [rt_557]; decide) rfl
          · clear hs6
            exact Or.inr hs7
        · rw [if_neg c10] at hs4
          refine aw_ifne_f (pc1 := 101) at_557_98 c10 rfl ?_
          refine aw_iconst (v := 0) (pc1 := 102) at_557_101 (by decide) rfl ?_
          cases hs4
          exact aw_iret at_557_102 (by rw [rt_557]; decide) rfl
      · clear hs3
        exact Or.inr hs4
    · clear hs1
      exact Or.inr hs2
  · rw [if_neg c1] at hs
    refine aw_ifne_f (pc1 := 86) at_557_83 c1 rfl ?_
    refine aw_iconst (v := 0) (pc1 := 87) at_557_86 (by decide) rfl ?_
    cases hs
    exact aw_iret at_557_87 (by rw [rt_557]; decide) rfl
def fg_557_75 (N : Nat) (rec_28 : Value → Int32 → Int32 → am_H → Option am_O) (x0 : Value) (x2 : Int32) (s0 : Int32) (h : am_H) : Option am_O := (rec_28 x0 s0 ((x2 + 1)) h)
theorem rg_557_75 {X : am_X} {d : Nat} {N : Nat} {rec_28 : Value → Int32 → Int32 → am_H → Option am_O} (q_28 : ∀ (x0 : Value) (x1 : Int32) (x2 : Int32) (h : am_H) (o : am_O), rec_28 x0 x1 x2 h = some o → ∀ lv : am_LV, (lv.lookup 0 = some x0) → (lv.lookup 1 = some (.int x1)) → (lv.lookup 2 = some (.int x2)) → (am_isR x0 = true) → am_W X (d + 5) 557 28 lv [] h (fun q => q = o)) {lv : am_LV} (x0 : Value) (x2 : Int32) (s0 : Int32) (h : am_H) (o : am_O) (l0 : lv.lookup 0 = some x0) (l2 : lv.lookup 2 = some (.int x2)) (i0 : am_isR x0 = true) (hs : fg_557_75 N rec_28 x0 x2 s0 h = some o) : am_W X (d + 5) 557 75 lv [(.int s0)] h (fun q => q = o) := by
  unfold fg_557_75 at hs
  refine aw_istore_n (lv1 := am_put1 _ 1 _) (pc1 := 76) at_557_75 rfl rfl ?_
  refine aw_iinc (v := (x2 + 1)) (c := 1) (lv1 := am_put1 _ 2 _) (pc1 := 79) at_557_76 (am_lk1 l2 rfl rfl) (by decide) rfl rfl rfl ?_
  refine aw_goto at_557_79 ?_
  exact q_28 x0 s0 ((x2 + 1)) h o hs _ (am_lk1 (am_lk1 l0 rfl (by rw [am_isRc i0]; rfl)) rfl rfl) (am_lk1 am_lk0 rfl rfl) am_lk0 i0
def fg_557_74 (N : Nat) (rec_28 : Value → Int32 → Int32 → am_H → Option am_O) (x0 : Value) (x2 : Int32) (h : am_H) : Option am_O := (fg_557_75 N rec_28 x0 x2 0 h)
theorem rg_557_74 {X : am_X} {d : Nat} {N : Nat} {rec_28 : Value → Int32 → Int32 → am_H → Option am_O} (q_28 : ∀ (x0 : Value) (x1 : Int32) (x2 : Int32) (h : am_H) (o : am_O), rec_28 x0 x1 x2 h = some o → ∀ lv : am_LV, (lv.lookup 0 = some x0) → (lv.lookup 1 = some (.int x1)) → (lv.lookup 2 = some (.int x2)) → (am_isR x0 = true) → am_W X (d + 5) 557 28 lv [] h (fun q => q = o)) {lv : am_LV} (x0 : Value) (x2 : Int32) (h : am_H) (o : am_O) (l0 : lv.lookup 0 = some x0) (l2 : lv.lookup 2 = some (.int x2)) (i0 : am_isR x0 = true) (hs : fg_557_74 N rec_28 x0 x2 h = some o) : am_W X (d + 5) 557 74 lv [] h (fun q => q = o) := by
  unfold fg_557_74 at hs
  refine aw_iconst (v := 0) (pc1 := 75) at_557_74 (by decide) rfl ?_
  exact rg_557_75 q_28 x0 x2 0 h o l0 l2 i0 hs
def fg_557_28 (N : Nat) : Nat → Value → Int32 → Int32 → am_H → Option am_O
  | 0 => fun _ _ _ _ => none
  | K + 1 => fun x0 x1 x2 h => ((am_vI (am_pG 3090 x0 h)).bind fun v1 => (if v1 ≤ x2 then (fg_557_82 N x0 x1 h) else (if x1 = 0 then (fg_557_82 N x0 x1 h) else ((am_vR (am_pG 3093 x0 h)).bind fun v5 => ((am_pA 0 v5 x2 h).bind fun v7 => (if 17 ≤ v7 then (fg_557_74 N (fg_557_28 N K) x0 x2 h) else ((am_vR (am_pG 3093 x0 h)).bind fun v10 => ((am_pA 0 v10 x2 h).bind fun v12 => ((am_vR (am_pG 3094 x0 h)).bind fun v14 => ((am_pA 0 v14 x2 h).bind fun v16 => (if am_pOk 12 x0 h then am_cI true (fm_558 N x0 v12 v16 h) (fun v19 h20 => (if v19 = 0 then (fg_557_74 N (fg_557_28 N K) x0 x2 h20) else (fg_557_75 N (fg_557_28 N K) x0 x2 1 h20))) else none)))))))))))
theorem rg_557_28 {X : am_X} {d : Nat} {N : Nat} : ∀ (K : Nat) (x0 : Value) (x1 : Int32) (x2 : Int32) (h : am_H) (o : am_O), fg_557_28 N K x0 x1 x2 h = some o → ∀ lv : am_LV, (lv.lookup 0 = some x0) → (lv.lookup 1 = some (.int x1)) → (lv.lookup 2 = some (.int x2)) → (am_isR x0 = true) → am_W X (d + 5) 557 28 lv [] h (fun q => q = o) := by
  intro K
  induction K with
  | zero => intro x0 x1 x2 h o hs; cases hs
  | succ K ih =>
    intro x0 x1 x2 h o hs lv l0 l1 l2 i0
    unfold fg_557_28 at hs
    refine aw_iload_n (pc1 := 29) at_557_28 l2 rfl ?_
    refine aw_vload_n (pc1 := 30) at_557_29 l0 i0 rfl ?_
    obtain ⟨v1, e2, hs1⟩ := am_bind hs
    clear hs
    refine aw_pG (pc1 := 33) at_557_30 (am_vI_s e2) rfl ?_
    by_cases c3 : v1 ≤ x2
    · rw [if_pos c3] at hs1
      refine aw_icge_t at_557_33 c3 ?_
      exact rg_557_82 x0 x1 h o l0 l1 i0 hs1
    · rw [if_neg c3] at hs1
      refine aw_icge_f (pc1 := 36) at_557_33 c3 rfl ?_
      refine aw_iload_n (pc1 := 37) at_557_36 l1 rfl ?_
      by_cases c4 : x1 = 0
      · rw [if_pos c4] at hs1
        refine aw_ifeq_t at_557_37 c4 ?_
        exact rg_557_82 x0 x1 h o l0 l1 i0 hs1
      · rw [if_neg c4] at hs1
        refine aw_ifeq_f (pc1 := 40) at_557_37 c4 rfl ?_
        refine aw_vload_n (pc1 := 41) at_557_40 l0 i0 rfl ?_
        obtain ⟨v5, e6, hs2⟩ := am_bind hs1
        clear hs1
        refine aw_pG (pc1 := 44) at_557_41 (am_vR_s e6).1 rfl ?_
        refine aw_iload_n (pc1 := 45) at_557_44 l2 rfl ?_
        obtain ⟨v7, e8, hs3⟩ := am_bind hs2
        clear hs2
        refine aw_pA (pc1 := 46) at_557_45 (Or.inl ⟨rfl, rfl⟩) e8 rfl ?_
        refine aw_bipush (v := 17) (pc1 := 48) at_557_46 (by decide) rfl ?_
        by_cases c9 : 17 ≤ v7
        · rw [if_pos c9] at hs3
          refine aw_icge_t at_557_48 c9 ?_
          exact rg_557_74 (fun z0 z1 z2 h o hs3 => ih z0 z1 z2 h o hs3) x0 x2 h o l0 l2 i0 hs3
        · rw [if_neg c9] at hs3
          refine aw_icge_f (pc1 := 51) at_557_48 c9 rfl ?_
          refine aw_vload_n (pc1 := 52) at_557_51 l0 i0 rfl ?_
          refine aw_vload_n (pc1 := 53) at_557_52 l0 i0 rfl ?_
          obtain ⟨v10, e11, hs4⟩ := am_bind hs3
          clear hs3
          refine aw_pG (pc1 := 56) at_557_53 (am_vR_s e11).1 rfl ?_
          refine aw_iload_n (pc1 := 57) at_557_56 l2 rfl ?_
          obtain ⟨v12, e13, hs5⟩ := am_bind hs4
          clear hs4
          refine aw_pA (pc1 := 58) at_557_57 (Or.inl ⟨rfl, rfl⟩) e13 rfl ?_
          refine aw_vload_n (pc1 := 59) at_557_58 l0 i0 rfl ?_
          obtain ⟨v14, e15, hs6⟩ := am_bind hs5
          clear hs5
          refine aw_pG (pc1 := 62) at_557_59 (am_vR_s e15).1 rfl ?_
          refine aw_iload_n (pc1 := 63) at_557_62 l2 rfl ?_
          obtain ⟨v16, e17, hs7⟩ := am_bind hs6
          clear hs6
          refine aw_pA (pc1 := 64) at_557_63 (Or.inl ⟨rfl, rfl⟩) e17 rfl ?_
          obtain ⟨z18, hs8⟩ := am_ift hs7
          clear hs7
          refine aw_call (F := fm_558 N x0 v12 v16 h) (t := true) (na := 3) (kd := 1) (as := [x0, (.int v12), (.int v16)]) at_557_64 (am_k3v kb_558) mn_558 mk_558 rfl rfl (am_ok_v mi_558 (am_hl rfl (am_ccR i0 (am_ccI (am_ccI am_cats_0))) rfl) z18) (am_hc am_cats_0 rfl) (fun _ => ⟨rfl, hh_557⟩) (fun o1 hz9 => rm_558 x0 v12 v16 h o1 i0 hz9) ?_
          rcases am_cI_s hs8 with ⟨v19, h20, f21, hs9⟩ | hs9
          · clear hs8
            refine Or.inl ⟨_, _, f21, ?_⟩
            show am_W X _ 557 67 _ [(.int v19)] h20 _
            by_cases c22 : v19 = 0
            · rw [if_pos c22] at hs9
              refine aw_ifeq_t at_557_67 c22 ?_
              exact rg_557_74 (fun z0 z1 z2 h o hs9 => ih z0 z1 z2 h o hs9) x0 x2 h20 o l0 l2 i0 hs9
            · rw [if_neg c22] at hs9
              refine aw_ifeq_f (pc1 := 70) at_557_67 c22 rfl ?_
              refine aw_iconst (v := 1) (pc1 := 71) at_557_70 (by decide) rfl ?_
              refine aw_goto at_557_71 ?_
              exact rg_557_75 (fun z0 z1 z2 h o hs9 => ih z0 z1 z2 h o hs9) x0 x2 1 h20 o l0 l2 i0 hs9
          · clear hs8
            exact Or.inr hs9
def fg_557_0 (N : Nat) (x0 : Value) (h : am_H) : Option am_O := ((am_vI (am_pG 3092 x0 h)).bind fun v1 => (if ¬ v1 = 0 then ((am_vI (am_pG 3092 x0 h)).bind fun v4 => (if v4 = 1 then ((am_pP 3193 x0 (.int 0) h).bind fun h7 => (fg_557_28 N N x0 1 0 h7)) else some (.inl (some (.int 0), h)))) else some (.inl (some (.int 1), h))))
theorem rg_557_0 {X : am_X} {d : Nat} {N : Nat} {lv : am_LV} (x0 : Value) (h : am_H) (o : am_O) (l0 : lv.lookup 0 = some x0) (i0 : am_isR x0 = true) (hs : fg_557_0 N x0 h = some o) : am_W X (d + 5) 557 0 lv [] h (fun q => q = o) := by
  unfold fg_557_0 at hs
  refine aw_vload_n (pc1 := 1) at_557_0 l0 i0 rfl ?_
  obtain ⟨v1, e2, hs1⟩ := am_bind hs
  clear hs
  refine aw_pG (pc1 := 4) at_557_1 (am_vI_s e2) rfl ?_
  by_cases c3 : ¬ v1 = 0
  · rw [if_pos c3] at hs1
    refine aw_ifne_t at_557_4 c3 ?_
    refine aw_vload_n (pc1 := 10) at_557_9 l0 i0 rfl ?_
    obtain ⟨v4, e5, hs2⟩ := am_bind hs1
    clear hs1
    refine aw_pG (pc1 := 13) at_557_10 (am_vI_s e5) rfl ?_
    refine aw_iconst (v := 1) (pc1 := 14) at_557_13 (by decide) rfl ?_
    by_cases c6 : v4 = 1
    · rw [if_pos c6] at hs2
      refine aw_iceq_t at_557_14 c6 ?_
      refine aw_vload_n (pc1 := 20) at_557_19 l0 i0 rfl ?_
      refine aw_iconst (v := 0) (pc1 := 21) at_557_20 (by decide) rfl ?_
      obtain ⟨h7, e8, hs3⟩ := am_bind hs2
      clear hs2
      refine aw_pP (pc1 := 24) at_557_21 e8 rfl ?_
      refine aw_iconst (v := 1) (pc1 := 25) at_557_24 (by decide) rfl ?_
      refine aw_istore_n (lv1 := am_put1 _ 1 _) (pc1 := 26) at_557_25 rfl rfl ?_
      refine aw_iconst (v := 0) (pc1 := 27) at_557_26 (by decide) rfl ?_
      refine aw_istore_n (lv1 := am_put1 _ 2 _) (pc1 := 28) at_557_27 rfl rfl ?_
      exact rg_557_28 N x0 1 0 h7 o hs3 _ (am_lk1 (am_lk1 l0 rfl (by rw [am_isRc i0]; rfl)) rfl rfl) (am_lk1 am_lk0 rfl rfl) am_lk0 i0
    · rw [if_neg c6] at hs2
      refine aw_iceq_f (pc1 := 17) at_557_14 c6 rfl ?_
      refine aw_iconst (v := 0) (pc1 := 18) at_557_17 (by decide) rfl ?_
      cases hs2
      exact aw_iret at_557_18 (by rw [rt_557]; decide) rfl
  · rw [if_neg c3] at hs1
    refine aw_ifne_f (pc1 := 7) at_557_4 c3 rfl ?_
    refine aw_iconst (v := 1) (pc1 := 8) at_557_7 (by decide) rfl ?_
    cases hs1
    exact aw_iret at_557_8 (by rw [rt_557]; decide) rfl
def fm_557 (N : Nat) (y0 : Value) (h : am_H) : Option am_O := fg_557_0 N y0 h
theorem rm_557 {X : am_X} {d : Nat} {N : Nat} (y0 : Value) (h : am_H) (o : am_O) (i0 : am_isR y0 = true) (hs : fm_557 N y0 h = some o) : am_W X (d + 5) 557 0 (am_args 0 [y0]) [] h (fun q => q = o) := by
  rw [am_args_R i0]
  exact rg_557_0 y0 h o rfl i0 hs
def fg_572_165 (N : Nat) (x3 : Int32) (h : am_H) : Option am_O := (if am_rfit (some FieldType.boolean) x3 then some (.inl (some (.int x3), h)) else none)
theorem rg_572_165 {X : am_X} {d : Nat} {N : Nat} {lv : am_LV} (x3 : Int32) (h : am_H) (o : am_O) (l3 : lv.lookup 3 = some (.int x3)) (hs : fg_572_165 N x3 h = some o) : am_W X (d + 7) 572 165 lv [] h (fun q => q = o) := by
  unfold fg_572_165 at hs
  refine aw_iload_n (pc1 := 166) at_572_165 l3 rfl ?_
  obtain ⟨z1, hs1⟩ := am_ift hs
  clear hs
  cases hs1
  exact aw_iret at_572_166 (by rw [rt_572]; exact z1) rfl
def fg_572_158 (N : Nat) (rec_106 : Value → Int32 → Int32 → am_H → Option am_O) (x0 : Value) (x4 : Int32) (s0 : Int32) (h : am_H) : Option am_O := (rec_106 x0 s0 ((x4 + 1)) h)
theorem rg_572_158 {X : am_X} {d : Nat} {N : Nat} {rec_106 : Value → Int32 → Int32 → am_H → Option am_O} (q_106 : ∀ (x0 : Value) (x3 : Int32) (x4 : Int32) (h : am_H) (o : am_O), rec_106 x0 x3 x4 h = some o → ∀ lv : am_LV, (lv.lookup 0 = some x0) → (lv.lookup 3 = some (.int x3)) → (lv.lookup 4 = some (.int x4)) → (am_isR x0 = true) → am_W X (d + 7) 572 106 lv [] h (fun q => q = o)) {lv : am_LV} (x0 : Value) (x4 : Int32) (s0 : Int32) (h : am_H) (o : am_O) (l0 : lv.lookup 0 = some x0) (l4 : lv.lookup 4 = some (.int x4)) (i0 : am_isR x0 = true) (hs : fg_572_158 N rec_106 x0 x4 s0 h = some o) : am_W X (d + 7) 572 158 lv [(.int s0)] h (fun q => q = o) := by
  unfold fg_572_158 at hs
  refine aw_istore_n (lv1 := am_put1 _ 3 _) (pc1 := 159) at_572_158 rfl rfl ?_
  refine aw_iinc (v := (x4 + 1)) (c := 1) (lv1 := am_put1 _ 4 _) (pc1 := 162) at_572_159 (am_lk1 l4 rfl rfl) (by decide) rfl rfl rfl ?_
  refine aw_goto at_572_162 ?_
  exact q_106 x0 s0 ((x4 + 1)) h o hs _ (am_lk1 (am_lk1 l0 rfl rfl) rfl rfl) (am_lk1 am_lk0 rfl rfl) am_lk0 i0
def fg_572_157 (N : Nat) (rec_106 : Value → Int32 → Int32 → am_H → Option am_O) (x0 : Value) (x4 : Int32) (h : am_H) : Option am_O := (fg_572_158 N rec_106 x0 x4 0 h)
theorem rg_572_157 {X : am_X} {d : Nat} {N : Nat} {rec_106 : Value → Int32 → Int32 → am_H → Option am_O} (q_106 : ∀ (x0 : Value) (x3 : Int32) (x4 : Int32) (h : am_H) (o : am_O), rec_106 x0 x3 x4 h = some o → ∀ lv : am_LV, (lv.lookup 0 = some x0) → (lv.lookup 3 = some (.int x3)) → (lv.lookup 4 = some (.int x4)) → (am_isR x0 = true) → am_W X (d + 7) 572 106 lv [] h (fun q => q = o)) {lv : am_LV} (x0 : Value) (x4 : Int32) (h : am_H) (o : am_O) (l0 : lv.lookup 0 = some x0) (l4 : lv.lookup 4 = some (.int x4)) (i0 : am_isR x0 = true) (hs : fg_572_157 N rec_106 x0 x4 h = some o) : am_W X (d + 7) 572 157 lv [] h (fun q => q = o) := by
  unfold fg_572_157 at hs
  refine aw_iconst (v := 0) (pc1 := 158) at_572_157 (by decide) rfl ?_
  exact rg_572_158 q_106 x0 x4 0 h o l0 l4 i0 hs
def fg_572_106 (N : Nat) : Nat → Value → Int32 → Int32 → am_H → Option am_O
  | 0 => fun _ _ _ _ => none
  | K + 1 => fun x0 x3 x4 h => ((am_vI (am_pG 3086 x0 h)).bind fun v1 => (if v1 ≤ x4 then (fg_572_165 N x3 h) else (if x3 = 0 then (fg_572_165 N x3 h) else ((am_vR (am_pG 3088 x0 h)).bind fun v5 => ((am_pA 0 v5 x4 h).bind fun v7 => ((am_vR (am_pG 3201 x0 h)).bind fun v9 => ((am_pA 0 v9 x4 h).bind fun v11 => (if ¬ v7 = v11 then (fg_572_157 N (fg_572_106 N K) x0 x4 h) else ((am_vR (am_pG 3089 x0 h)).bind fun v14 => ((am_pA 0 v14 x4 h).bind fun v16 => ((am_vR (am_pG 3202 x0 h)).bind fun v18 => ((am_pA 0 v18 x4 h).bind fun v20 => (if ¬ v16 = v20 then (fg_572_157 N (fg_572_106 N K) x0 x4 h) else (fg_572_158 N (fg_572_106 N K) x0 x4 1 h))))))))))))))
theorem rg_572_106 {X : am_X} {d : Nat} {N : Nat} : ∀ (K : Nat) (x0 : Value) (x3 : Int32) (x4 : Int32) (h : am_H) (o : am_O), fg_572_106 N K x0 x3 x4 h = some o → ∀ lv : am_LV, (lv.lookup 0 = some x0) → (lv.lookup 3 = some (.int x3)) → (lv.lookup 4 = some (.int x4)) → (am_isR x0 = true) → am_W X (d + 7) 572 106 lv [] h (fun q => q = o) := by
  intro K
  induction K with
  | zero => intro x0 x3 x4 h o hs; cases hs
  | succ K ih =>
    intro x0 x3 x4 h o hs lv l0 l3 l4 i0
    unfold fg_572_106 at hs
    refine aw_iload (pc1 := 108) at_572_106 l4 rfl ?_
    refine aw_vload_n (pc1 := 109) at_572_108 l0 i0 rfl ?_
    obtain ⟨v1, e2, hs1⟩ := am_bind hs
    clear hs
    refine aw_pG (pc1 := 112) at_572_109 (am_vI_s e2) rfl ?_
    by_cases c3 : v1 ≤ x4
    · rw [if_pos c3] at hs1
      refine aw_icge_t at_572_112 c3 ?_
      exact rg_572_165 x3 h o l3  hs1
    · rw [if_neg c3] at hs1
      refine aw_icge_f (pc1 := 115) at_572_112 c3 rfl ?_
      refine aw_iload_n (pc1 := 116) at_572_115 l3 rfl ?_
      by_cases c4 : x3 = 0
      · rw [if_pos c4] at hs1
        refine aw_ifeq_t at_572_116 c4 ?_
        exact rg_572_165 x3 h o l3  hs1
      · rw [if_neg c4] at hs1
        refine aw_ifeq_f (pc1 := 119) at_572_116 c4 rfl ?_
        refine aw_vload_n (pc1 := 120) at_572_119 l0 i0 rfl ?_
        obtain ⟨v5, e6, hs2⟩ := am_bind hs1
        clear hs1
        refine aw_pG (pc1 := 123) at_572_120 (am_vR_s e6).1 rfl ?_
        refine aw_iload (pc1 := 125) at_572_123 l4 rfl ?_
        obtain ⟨v7, e8, hs3⟩ := am_bind hs2
        clear hs2
        refine aw_pA (pc1 := 126) at_572_125 (Or.inl ⟨rfl, rfl⟩) e8 rfl ?_
        refine aw_vload_n (pc1 := 127) at_572_126 l0 i0 rfl ?_
        obtain ⟨v9, e10, hs4⟩ := am_bind hs3
        clear hs3
        refine aw_pG (pc1 := 130) at_572_127 (am_vR_s e10).1 rfl ?_
        refine aw_iload (pc1 := 132) at_572_130 l4 rfl ?_
        obtain ⟨v11, e12, hs5⟩ := am_bind hs4
        clear hs4
        refine aw_pA (pc1 := 133) at_572_132 (Or.inl ⟨rfl, rfl⟩) e12 rfl ?_
        by_cases c13 : ¬ v7 = v11
        · rw [if_pos c13] at hs5
          refine aw_icne_t at_572_133 c13 ?_
          exact rg_572_157 (fun z0 z1 z2 h o hs5 => ih z0 z1 z2 h o hs5) x0 x4 h o l0 l4 i0 hs5
        · rw [if_neg c13] at hs5
          refine aw_icne_f (pc1 := 136) at_572_133 c13 rfl ?_
          refine aw_vload_n (pc1 := 137) at_572_136 l0 i0 rfl ?_
          obtain ⟨v14, e15, hs6⟩ := am_bind hs5
          clear hs5
          refine aw_pG (pc1 := 140) at_572_137 (am_vR_s e15).1 rfl ?_
          refine aw_iload (pc1 := 142) at_572_140 l4 rfl ?_
          obtain ⟨v16, e17, hs7⟩ := am_bind hs6
          clear hs6
          refine aw_pA (pc1 := 143) at_572_142 (Or.inl ⟨rfl, rfl⟩) e17 rfl ?_
          refine aw_vload_n (pc1 := 144) at_572_143 l0 i0 rfl ?_
          obtain ⟨v18, e19, hs8⟩ := am_bind hs7
          clear hs7
          refine aw_pG (pc1 := 147) at_572_144 (am_vR_s e19).1 rfl ?_
          refine aw_iload (pc1 := 149) at_572_147 l4 rfl ?_
          obtain ⟨v20, e21, hs9⟩ := am_bind hs8
          clear hs8
          refine aw_pA (pc1 := 150) at_572_149 (Or.inl ⟨rfl, rfl⟩) e21 rfl ?_
          by_cases c22 : ¬ v16 = v20
          · rw [if_pos c22] at hs9
            refine aw_icne_t at_572_150 c22 ?_
            exact rg_572_157 (fun z0 z1 z2 h o hs9 => ih z0 z1 z2 h o hs9) x0 x4 h o l0 l4 i0 hs9
          · rw [if_neg c22] at hs9
            refine aw_icne_f (pc1 := 153) at_572_150 c22 rfl ?_
            refine aw_iconst (v := 1) (pc1 := 154) at_572_153 (by decide) rfl ?_
            refine aw_goto at_572_154 ?_
            exact rg_572_158 (fun z0 z1 z2 h o hs9 => ih z0 z1 z2 h o hs9) x0 x4 1 h o l0 l4 i0 hs9
def fg_572_102 (N : Nat) (x0 : Value) (s0 : Int32) (h : am_H) : Option am_O := (fg_572_106 N N x0 s0 0 h)
theorem rg_572_102 {X : am_X} {d : Nat} {N : Nat} {lv : am_LV} (x0 : Value) (s0 : Int32) (h : am_H) (o : am_O) (l0 : lv.lookup 0 = some x0) (i0 : am_isR x0 = true) (hs : fg_572_102 N x0 s0 h = some o) : am_W X (d + 7) 572 102 lv [(.int s0)] h (fun q => q = o) := by
  unfold fg_572_102 at hs
  refine aw_istore_n (lv1 := am_put1 _ 3 _) (pc1 := 103) at_572_102 rfl rfl ?_
  refine aw_iconst (v := 0) (pc1 := 104) at_572_103 (by decide) rfl ?_
  refine aw_istore (lv1 := am_put1 _ 4 _) (pc1 := 106) at_572_104 rfl rfl ?_
  exact rg_572_106 N x0 s0 0 h o hs _ (am_lk1 (am_lk1 l0 rfl rfl) rfl rfl) (am_lk1 am_lk0 rfl rfl) am_lk0 i0
def fg_572_29 (N : Nat) : Nat → Value → Int32 → Int32 → am_H → Option am_O
  | 0 => fun _ _ _ _ => none
  | K + 1 => fun x0 x2 x3 h => ((am_vI (am_pG 3086 x0 h)).bind fun v1 => (if v1 ≤ x3 then (if am_pOk 12 x0 h then am_cV true (fm_391 N x0 x2 h) (fun h6 => (if am_pOk 12 x0 h6 then am_cI true (fm_557 N x0 h6) (fun v9 h10 => (if ¬ v9 = 0 then (if am_pOk 12 x0 h10 then am_cV true (fm_536 N x0 0 h10) (fun h15 => ((am_vI (am_pG 3086 x0 h15)).bind fun v17 => ((am_vI (am_pG 3203 x0 h15)).bind fun v19 => (if ¬ v17 = v19 then (fg_572_102 N x0 0 h15) else (fg_572_102 N x0 1 h15))))) else none) else some (.inl (some (.int 0), h10)))) else none)) else none) else ((am_vR (am_pG 3201 x0 h)).bind fun v22 => ((am_vR (am_pG 3088 x0 h)).bind fun v24 => ((am_pA 0 v24 x3 h).bind fun v26 => ((am_pS 0 v22 x3 v26 h).bind fun h28 => ((am_vR (am_pG 3202 x0 h28)).bind fun v30 => ((am_vR (am_pG 3089 x0 h28)).bind fun v32 => ((am_pA 0 v32 x3 h28).bind fun v34 => ((am_pS 0 v30 x3 v34 h28).bind fun h36 => (fg_572_29 N K x0 x2 ((x3 + 1)) h36)))))))))))
theorem rg_572_29 {X : am_X} {d : Nat} {N : Nat} : ∀ (K : Nat) (x0 : Value) (x2 : Int32) (x3 : Int32) (h : am_H) (o : am_O), fg_572_29 N K x0 x2 x3 h = some o → ∀ lv : am_LV, (lv.lookup 0 = some x0) → (lv.lookup 2 = some (.int x2)) → (lv.lookup 3 = some (.int x3)) → (am_isR x0 = true) → am_W X (d + 7) 572 29 lv [] h (fun q => q = o) := by
  intro K
  induction K with
  | zero => intro x0 x2 x3 h o hs; cases hs
  | succ K ih =>
    intro x0 x2 x3 h o hs lv l0 l2 l3 i0
    unfold fg_572_29 at hs
    refine aw_iload_n (pc1 := 30) at_572_29 l3 rfl ?_
    refine aw_vload_n (pc1 := 31) at_572_30 l0 i0 rfl ?_
    obtain ⟨v1, e2, hs1⟩ := am_bind hs
    clear hs
    refine aw_pG (pc1 := 34) at_572_31 (am_vI_s e2) rfl ?_
    by_cases c3 : v1 ≤ x3
    · rw [if_pos c3] at hs1
      refine aw_icge_t at_572_34 c3 ?_
      refine aw_vload_n (pc1 := 68) at_572_67 l0 i0 rfl ?_
      refine aw_iload_n (pc1 := 69) at_572_68 l2 rfl ?_
      obtain ⟨z4, hs2⟩ := am_ift hs1
      clear hs1
      refine aw_call (F := fm_391 N x0 x2 h) (t := true) (na := 2) (kd := 1) (as := [x0, (.int x2)]) at_572_69 (am_k3v kb_391) mn_391 mk_391 rfl rfl (am_ok_v mi_391 (am_hl rfl (am_ccR i0 (am_ccI am_cats_0)) rfl) z4) (am_hc am_cats_0 rfl) (fun _ => ⟨rfl, hh_572⟩) (fun o1 hz9 => rm_391 x0 x2 h o1 i0 hz9) ?_
      rcases am_cV_s hs2 with ⟨h6, f7, hs3⟩ | hs3
      · clear hs2
        refine Or.inl ⟨_, _, f7, ?_⟩
        show am_W X _ 572 72 _ [] h6 _
        refine aw_vload_n (pc1 := 73) at_572_72 l0 i0 rfl ?_
        obtain ⟨z8, hs4⟩ := am_ift hs3
        clear hs3
        refine aw_call (F := fm_557 N x0 h6) (t := true) (na := 1) (kd := 1) (as := [x0]) at_572_73 (am_k3v kb_557) mn_557 mk_557 rfl rfl (am_ok_v mi_557 (am_hl rfl (am_ccR i0 am_cats_0) rfl) z8) (am_hc am_cats_0 rfl) (fun _ => ⟨rfl, hh_572⟩) (fun o1 hz9 => rm_557 x0 h6 o1 i0 hz9) ?_
        rcases am_cI_s hs4 with ⟨v9, h10, f11, hs5⟩ | hs5
        · clear hs4
          refine Or.inl ⟨_, _, f11, ?_⟩
          show am_W X _ 572 76 _ [(.int v9)] h10 _
          by_cases c12 : ¬ v9 = 0
          · rw [if_pos c12] at hs5
            refine aw_ifne_t at_572_76 c12 ?_
            refine aw_vload_n (pc1 := 82) at_572_81 l0 i0 rfl ?_
            refine aw_iconst (v := 0) (pc1 := 83) at_572_82 (by decide) rfl ?_
            obtain ⟨z13, hs6⟩ := am_ift hs5
            clear hs5
            refine aw_call (F := fm_536 N x0 0 h10) (t := true) (na := 2) (kd := 1) (as := [x0, (.int 0)]) at_572_83 (am_k3v kb_536) mn_536 mk_536 rfl rfl (am_ok_v mi_536 (am_hl rfl (am_ccR i0 (am_ccI am_cats_0)) rfl) z13) (am_hc am_cats_0 rfl) (fun _ => ⟨rfl, hh_572⟩) (fun o1 hz9 => rm_536 x0 0 h10 o1 i0 hz9) ?_
            rcases am_cV_s hs6 with ⟨h15, f16, hs7⟩ | hs7
            · clear hs6
              refine Or.inl ⟨_, _, f16, ?_⟩
              show am_W X _ 572 86 _ [] h15 _
              refine aw_vload_n (pc1 := 87) at_572_86 l0 i0 rfl ?_
              obtain ⟨v17, e18, hs8⟩ := am_bind hs7
              clear hs7
              refine aw_pG (pc1 := 90) at_572_87 (am_vI_s e18) rfl ?_
              refine aw_vload_n (pc1 := 91) at_572_90 l0 i0 rfl ?_
              obtain ⟨v19, e20, hs9⟩ := am_bind hs8
              clear hs8
              refine aw_pG (pc1 := 94) at_572_91 (am_vI_s e20) rfl ?_
              by_cases c21 : ¬ v17 = v19
              · rw [if_pos c21] at hs9
                refine aw_icne_t at_572_94 c21 ?_
                refine aw_iconst (v := 0) (pc1 := 102) at_572_101 (by decide) rfl ?_
                exact rg_572_102 x0 0 h15 o l0 i0 hs9
              · rw [if_neg c21] at hs9
                refine aw_icne_f (pc1 := 97) at_572_94 c21 rfl ?_
                refine aw_iconst (v := 1) (pc1 := 98) at_572_97 (by decide) rfl ?_
                refine aw_goto at_572_98 ?_
                exact rg_572_102 x0 1 h15 o l0 i0 hs9
            · clear hs6
              exact Or.inr hs7
          · rw [if_neg c12] at hs5
            refine aw_ifne_f (pc1 := 79) at_572_76 c12 rfl ?_
            refine aw_iconst (v := 0) (pc1 := 80) at_572_79 (by decide) rfl ?_
            cases hs5
            exact aw_iret at_572_80 (by rw [rt_572]; decide) rfl
        · clear hs4
          exact Or.inr hs5
      · clear hs2
        exact Or.inr hs3
    · rw [if_neg c3] at hs1
      refine aw_icge_f (pc1 := 37) at_572_34 c3 rfl ?_
      refine aw_vload_n (pc1 := 38) at_572_37 l0 i0 rfl ?_
      obtain ⟨v22, e23, hs10⟩ := am_bind hs1
      clear hs1
      refine aw_pG (pc1 := 41) at_572_38 (am_vR_s e23).1 rfl ?_
      refine aw_iload_n (pc1 := 42) at_572_41 l3 rfl ?_
      refine aw_vload_n (pc1 := 43) at_572_42 l0 i0 rfl ?_
      obtain ⟨v24, e25, hs11⟩ := am_bind hs10
      clear hs10
      refine aw_pG (pc1 := 46) at_572_43 (am_vR_s e25).1 rfl ?_
      refine aw_iload_n (pc1 := 47) at_572_46 l3 rfl ?_
      obtain ⟨v26, e27, hs12⟩ := am_bind hs11
      clear hs11
      refine aw_pA (pc1 := 48) at_572_47 (Or.inl ⟨rfl, rfl⟩) e27 rfl ?_
      obtain ⟨h28, e29, hs13⟩ := am_bind hs12
      clear hs12
      refine aw_pS (pc1 := 49) at_572_48 (Or.inl ⟨rfl, rfl⟩) e29 rfl ?_
      refine aw_vload_n (pc1 := 50) at_572_49 l0 i0 rfl ?_
      obtain ⟨v30, e31, hs14⟩ := am_bind hs13
      clear hs13
      refine aw_pG (pc1 := 53) at_572_50 (am_vR_s e31).1 rfl ?_
      refine aw_iload_n (pc1 := 54) at_572_53 l3 rfl ?_
      refine aw_vload_n (pc1 := 55) at_572_54 l0 i0 rfl ?_
      obtain ⟨v32, e33, hs15⟩ := am_bind hs14
      clear hs14
      refine aw_pG (pc1 := 58) at_572_55 (am_vR_s e33).1 rfl ?_
      refine aw_iload_n (pc1 := 59) at_572_58 l3 rfl ?_
      obtain ⟨v34, e35, hs16⟩ := am_bind hs15
      clear hs15
      refine aw_pA (pc1 := 60) at_572_59 (Or.inl ⟨rfl, rfl⟩) e35 rfl ?_
      obtain ⟨h36, e37, hs17⟩ := am_bind hs16
      clear hs16
      refine aw_pS (pc1 := 61) at_572_60 (Or.inl ⟨rfl, rfl⟩) e37 rfl ?_
      refine aw_iinc (v := (x3 + 1)) (c := 1) (lv1 := am_put1 _ 3 _) (pc1 := 64) at_572_61 l3 (by decide) rfl rfl rfl ?_
      refine aw_goto at_572_64 ?_
      exact ih x0 x2 ((x3 + 1)) h36 o hs17 _ (am_lk1 l0 rfl rfl) (am_lk1 l2 rfl rfl) am_lk0 i0
def fg_572_0 (N : Nat) (x0 : Value) (x1 : Int32) (x2 : Int32) (h : am_H) : Option am_O := (if am_pOk 12 x0 h then am_cV true (fm_391 N x0 x1 h) (fun h3 => (if am_pOk 12 x0 h3 then am_cI true (fm_557 N x0 h3) (fun v6 h7 => (if ¬ v6 = 0 then (if am_pOk 12 x0 h7 then am_cV true (fm_536 N x0 0 h7) (fun h12 => ((am_vI (am_pG 3086 x0 h12)).bind fun v14 => ((am_pP 3203 x0 (.int v14) h12).bind fun h16 => (fg_572_29 N N x0 x2 0 h16)))) else none) else some (.inl (some (.int 0), h7)))) else none)) else none)
theorem rg_572_0 {X : am_X} {d : Nat} {N : Nat} {lv : am_LV} (x0 : Value) (x1 : Int32) (x2 : Int32) (h : am_H) (o : am_O) (l0 : lv.lookup 0 = some x0) (l1 : lv.lookup 1 = some (.int x1)) (l2 : lv.lookup 2 = some (.int x2)) (i0 : am_isR x0 = true) (hs : fg_572_0 N x0 x1 x2 h = some o) : am_W X (d + 7) 572 0 lv [] h (fun q => q = o) := by
  unfold fg_572_0 at hs
  refine aw_vload_n (pc1 := 1) at_572_0 l0 i0 rfl ?_
  refine aw_iload_n (pc1 := 2) at_572_1 l1 rfl ?_
  obtain ⟨z1, hs1⟩ := am_ift hs
  clear hs
  refine aw_call (F := fm_391 N x0 x1 h) (t := true) (na := 2) (kd := 1) (as := [x0, (.int x1)]) at_572_2 (am_k3v kb_391) mn_391 mk_391 rfl rfl (am_ok_v mi_391 (am_hl rfl (am_ccR i0 (am_ccI am_cats_0)) rfl) z1) (am_hc am_cats_0 rfl) (fun _ => ⟨rfl, hh_572⟩) (fun o1 hz9 => rm_391 x0 x1 h o1 i0 hz9) ?_
  rcases am_cV_s hs1 with ⟨h3, f4, hs2⟩ | hs2
  · clear hs1
    refine Or.inl ⟨_, _, f4, ?_⟩
    show am_W X _ 572 5 _ [] h3 _
    refine aw_vload_n (pc1 := 6) at_572_5 l0 i0 rfl ?_
    obtain ⟨z5, hs3⟩ := am_ift hs2
    clear hs2
    refine aw_call (F := fm_557 N x0 h3) (t := true) (na := 1) (kd := 1) (as := [x0]) at_572_6 (am_k3v kb_557) mn_557 mk_557 rfl rfl (am_ok_v mi_557 (am_hl rfl (am_ccR i0 am_cats_0) rfl) z5) (am_hc am_cats_0 rfl) (fun _ => ⟨rfl, hh_572⟩) (fun o1 hz9 => rm_557 x0 h3 o1 i0 hz9) ?_
    rcases am_cI_s hs3 with ⟨v6, h7, f8, hs4⟩ | hs4
    · clear hs3
      refine Or.inl ⟨_, _, f8, ?_⟩
      show am_W X _ 572 9 _ [(.int v6)] h7 _
      by_cases c9 : ¬ v6 = 0
      · rw [if_pos c9] at hs4
        refine aw_ifne_t at_572_9 c9 ?_
        refine aw_vload_n (pc1 := 15) at_572_14 l0 i0 rfl ?_
        refine aw_iconst (v := 0) (pc1 := 16) at_572_15 (by decide) rfl ?_
        obtain ⟨z10, hs5⟩ := am_ift hs4
        clear hs4
        refine aw_call (F := fm_536 N x0 0 h7) (t := true) (na := 2) (kd := 1) (as := [x0, (.int 0)]) at_572_16 (am_k3v kb_536) mn_536 mk_536 rfl rfl (am_ok_v mi_536 (am_hl rfl (am_ccR i0 (am_ccI am_cats_0)) rfl) z10) (am_hc am_cats_0 rfl) (fun _ => ⟨rfl, hh_572⟩) (fun o1 hz9 => rm_536 x0 0 h7 o1 i0 hz9) ?_
        rcases am_cV_s hs5 with ⟨h12, f13, hs6⟩ | hs6
        · clear hs5
          refine Or.inl ⟨_, _, f13, ?_⟩
          show am_W X _ 572 19 _ [] h12 _
          refine aw_vload_n (pc1 := 20) at_572_19 l0 i0 rfl ?_
          refine aw_vload_n (pc1 := 21) at_572_20 l0 i0 rfl ?_
          obtain ⟨v14, e15, hs7⟩ := am_bind hs6
          clear hs6
          refine aw_pG (pc1 := 24) at_572_21 (am_vI_s e15) rfl ?_
          obtain ⟨h16, e17, hs8⟩ := am_bind hs7
          clear hs7
          refine aw_pP (pc1 := 27) at_572_24 e17 rfl ?_
          refine aw_iconst (v := 0) (pc1 := 28) at_572_27 (by decide) rfl ?_
          refine aw_istore_n (lv1 := am_put1 _ 3 _) (pc1 := 29) at_572_28 rfl rfl ?_
          exact rg_572_29 N x0 x2 0 h16 o hs8 _ (am_lk1 l0 rfl rfl) (am_lk1 l2 rfl rfl) am_lk0 i0
        · clear hs5
          exact Or.inr hs6
      · rw [if_neg c9] at hs4
        refine aw_ifne_f (pc1 := 12) at_572_9 c9 rfl ?_
        refine aw_iconst (v := 0) (pc1 := 13) at_572_12 (by decide) rfl ?_
        cases hs4
        exact aw_iret at_572_13 (by rw [rt_572]; decide) rfl
    · clear hs3
      exact Or.inr hs4
  · clear hs1
    exact Or.inr hs2
def fm_572 (N : Nat) (y0 : Value) (y1 : Int32) (y2 : Int32) (h : am_H) : Option am_O := fg_572_0 N y0 y1 y2 h
theorem rm_572 {X : am_X} {d : Nat} {N : Nat} (y0 : Value) (y1 : Int32) (y2 : Int32) (h : am_H) (o : am_O) (i0 : am_isR y0 = true) (hs : fm_572 N y0 y1 y2 h = some o) : am_W X (d + 7) 572 0 (am_args 0 [y0, .int y1, .int y2]) [] h (fun q => q = o) := by
  rw [am_args_R i0, am_args_I, am_args_I]
  exact rg_572_0 y0 y1 y2 h o rfl rfl rfl i0 hs
def fg_574_64 (N : Nat) (s0 : Int32) (h : am_H) : Option am_O := (if am_rfit (some FieldType.boolean) s0 then some (.inl (some (.int s0), h)) else none)
theorem rg_574_64 {X : am_X} {d : Nat} {N : Nat} {lv : am_LV} (s0 : Int32) (h : am_H) (o : am_O) (hs : fg_574_64 N s0 h = some o) : am_W X (d + 6) 574 64 lv [(.int s0)] h (fun q => q = o) := by
  unfold fg_574_64 at hs
  obtain ⟨z1, hs1⟩ := am_ift hs
  clear hs
  cases hs1
  exact aw_iret at_574_64 (by rw [rt_574]; exact z1) rfl
def fg_574_63 (N : Nat) (h : am_H) : Option am_O := (fg_574_64 N 0 h)
theorem rg_574_63 {X : am_X} {d : Nat} {N : Nat} {lv : am_LV} (h : am_H) (o : am_O) (hs : fg_574_63 N h = some o) : am_W X (d + 6) 574 63 lv [] h (fun q => q = o) := by
  unfold fg_574_63 at hs
  refine aw_iconst (v := 0) (pc1 := 64) at_574_63 (by decide) rfl ?_
  exact rg_574_64 0 h o   hs
def fg_574_59 (N : Nat) (h : am_H) : Option am_O := (fg_574_64 N 1 h)
theorem rg_574_59 {X : am_X} {d : Nat} {N : Nat} {lv : am_LV} (h : am_H) (o : am_O) (hs : fg_574_59 N h = some o) : am_W X (d + 6) 574 59 lv [] h (fun q => q = o) := by
  unfold fg_574_59 at hs
  refine aw_iconst (v := 1) (pc1 := 60) at_574_59 (by decide) rfl ?_
  refine aw_goto at_574_60 ?_
  exact rg_574_64 1 h o   hs
def fg_574_0 (N : Nat) (x0 : Value) (x1 : Int32) (x2 : Int32) (h : am_H) : Option am_O := (if am_pOk 12 x0 h then am_cV true (fm_359 N x0 x1 h) (fun h3 => (if am_pOk 12 x0 h3 then am_cV true (fm_403 N x0 h3) (fun h7 => ((am_vI (am_pG 3120 x0 h7)).bind fun v9 => ((am_vI (am_pG 3121 x0 h7)).bind fun v11 => (if am_pOk 12 x0 h7 then am_cV true (fm_359 N x0 x2 h7) (fun h15 => (if am_pOk 12 x0 h15 then am_cV true (fm_403 N x0 h15) (fun h19 => (if 3 ≤ v9 then (fg_574_63 N h19) else ((am_vI (am_pG 3120 x0 h19)).bind fun v22 => (if 3 ≤ v22 then (fg_574_63 N h19) else ((am_vI (am_pG 3120 x0 h19)).bind fun v25 => (if ¬ v9 = v25 then (fg_574_59 N h19) else ((am_vI (am_pG 3121 x0 h19)).bind fun v28 => (if v11 = v28 then (fg_574_63 N h19) else (fg_574_59 N h19))))))))) else none)) else none)))) else none)) else none)
theorem rg_574_0 {X : am_X} {d : Nat} {N : Nat} {lv : am_LV} (x0 : Value) (x1 : Int32) (x2 : Int32) (h : am_H) (o : am_O) (l0 : lv.lookup 0 = some x0) (l1 : lv.lookup 1 = some (.int x1)) (l2 : lv.lookup 2 = some (.int x2)) (i0 : am_isR x0 = true) (hs : fg_574_0 N x0 x1 x2 h = some o) : am_W X (d + 6) 574 0 lv [] h (fun q => q = o) := by
  unfold fg_574_0 at hs
  refine aw_vload_n (pc1 := 1) at_574_0 l0 i0 rfl ?_
  refine aw_iload_n (pc1 := 2) at_574_1 l1 rfl ?_
  obtain ⟨z1, hs1⟩ := am_ift hs
  clear hs
  refine aw_call (F := fm_359 N x0 x1 h) (t := true) (na := 2) (kd := 1) (as := [x0, (.int x1)]) at_574_2 (am_k3v kb_359) mn_359 mk_359 rfl rfl (am_ok_v mi_359 (am_hl rfl (am_ccR i0 (am_ccI am_cats_0)) rfl) z1) (am_hc am_cats_0 rfl) (fun _ => ⟨rfl, hh_574⟩) (fun o1 hz9 => rm_359 x0 x1 h o1 i0 hz9) ?_
  rcases am_cV_s hs1 with ⟨h3, f4, hs2⟩ | hs2
  · clear hs1
    refine Or.inl ⟨_, _, f4, ?_⟩
    show am_W X _ 574 5 _ [] h3 _
    refine aw_vload_n (pc1 := 6) at_574_5 l0 i0 rfl ?_
    obtain ⟨z5, hs3⟩ := am_ift hs2
    clear hs2
    refine aw_call (F := fm_403 N x0 h3) (t := true) (na := 1) (kd := 1) (as := [x0]) at_574_6 (am_k3v kb_403) mn_403 mk_403 rfl rfl (am_ok_v mi_403 (am_hl rfl (am_ccR i0 am_cats_0) rfl) z5) (am_hc am_cats_0 rfl) (fun _ => ⟨rfl, hh_574⟩) (fun o1 hz9 => rm_403 x0 h3 o1 i0 hz9) ?_
    rcases am_cV_s hs3 with ⟨h7, f8, hs4⟩ | hs4
    · clear hs3
      refine Or.inl ⟨_, _, f8, ?_⟩
      show am_W X _ 574 9 _ [] h7 _
      refine aw_vload_n (pc1 := 10) at_574_9 l0 i0 rfl ?_
      obtain ⟨v9, e10, hs5⟩ := am_bind hs4
      clear hs4
      refine aw_pG (pc1 := 13) at_574_10 (am_vI_s e10) rfl ?_
      refine aw_istore_n (lv1 := am_put1 _ 3 _) (pc1 := 14) at_574_13 rfl rfl ?_
      refine aw_vload_n (pc1 := 15) at_574_14 (am_lk1 l0 rfl rfl) i0 rfl ?_
      obtain ⟨v11, e12, hs6⟩ := am_bind hs5
      clear hs5
      refine aw_pG (pc1 := 18) at_574_15 (am_vI_s e12) rfl ?_
      refine aw_istore (lv1 := am_put1 _ 4 _) (pc1 := 20) at_574_18 rfl rfl ?_
      refine aw_vload_n (pc1 := 21) at_574_20 (am_lk1 (am_lk1 l0 rfl rfl) rfl rfl) i0 rfl ?_
      refine aw_iload_n (pc1 := 22) at_574_21 (am_lk1 (am_lk1 l2 rfl rfl) rfl rfl) rfl ?_
      obtain ⟨z13, hs7⟩ := am_ift hs6
      clear hs6
      refine aw_call (F := fm_359 N x0 x2 h7) (t := true) (na := 2) (kd := 1) (as := [x0, (.int x2)]) at_574_22 (am_k3v kb_359) mn_359 mk_359 rfl rfl (am_ok_v mi_359 (am_hl rfl (am_ccR i0 (am_ccI am_cats_0)) rfl) z13) (am_hc am_cats_0 rfl) (fun _ => ⟨rfl, hh_574⟩) (fun o1 hz9 => rm_359 x0 x2 h7 o1 i0 hz9) ?_
      rcases am_cV_s hs7 with ⟨h15, f16, hs8⟩ | hs8
      · clear hs7
        refine Or.inl ⟨_, _, f16, ?_⟩
        show am_W X _ 574 25 _ [] h15 _
        refine aw_vload_n (pc1 := 26) at_574_25 (am_lk1 (am_lk1 l0 rfl rfl) rfl rfl) i0 rfl ?_
        obtain ⟨z17, hs9⟩ := am_ift hs8
        clear hs8
        refine aw_call (F := fm_403 N x0 h15) (t := true) (na := 1) (kd := 1) (as := [x0]) at_574_26 (am_k3v kb_403) mn_403 mk_403 rfl rfl (am_ok_v mi_403 (am_hl rfl (am_ccR i0 am_cats_0) rfl) z17) (am_hc am_cats_0 rfl) (fun _ => ⟨rfl, hh_574⟩) (fun o1 hz9 => rm_403 x0 h15 o1 i0 hz9) ?_
        rcases am_cV_s hs9 with ⟨h19, f20, hs10⟩ | hs10
        · clear hs9
          refine Or.inl ⟨_, _, f20, ?_⟩
          show am_W X _ 574 29 _ [] h19 _
          refine aw_iload_n (pc1 := 30) at_574_29 (am_lk1 am_lk0 rfl rfl) rfl ?_
          refine aw_iconst (v := 3) (pc1 := 31) at_574_30 (by decide) rfl ?_
          by_cases c21 : 3 ≤ v9
          · rw [if_pos c21] at hs10
            refine aw_icge_t at_574_31 c21 ?_
            exact rg_574_63 h19 o   hs10
          · rw [if_neg c21] at hs10
            refine aw_icge_f (pc1 := 34) at_574_31 c21 rfl ?_
            refine aw_vload_n (pc1 := 35) at_574_34 (am_lk1 (am_lk1 l0 rfl rfl) rfl rfl) i0 rfl ?_
            obtain ⟨v22, e23, hs11⟩ := am_bind hs10
            clear hs10
            refine aw_pG (pc1 := 38) at_574_35 (am_vI_s e23) rfl ?_
            refine aw_iconst (v := 3) (pc1 := 39) at_574_38 (by decide) rfl ?_
            by_cases c24 : 3 ≤ v22
            · rw [if_pos c24] at hs11
              refine aw_icge_t at_574_39 c24 ?_
              exact rg_574_63 h19 o   hs11
            · rw [if_neg c24] at hs11
              refine aw_icge_f (pc1 := 42) at_574_39 c24 rfl ?_
              refine aw_iload_n (pc1 := 43) at_574_42 (am_lk1 am_lk0 rfl rfl) rfl ?_
              refine aw_vload_n (pc1 := 44) at_574_43 (am_lk1 (am_lk1 l0 rfl rfl) rfl rfl) i0 rfl ?_
              obtain ⟨v25, e26, hs12⟩ := am_bind hs11
              clear hs11
              refine aw_pG (pc1 := 47) at_574_44 (am_vI_s e26) rfl ?_
              by_cases c27 : ¬ v9 = v25
              · rw [if_pos c27] at hs12
                refine aw_icne_t at_574_47 c27 ?_
                exact rg_574_59 h19 o   hs12
              · rw [if_neg c27] at hs12
                refine aw_icne_f (pc1 := 50) at_574_47 c27 rfl ?_
                refine aw_iload (pc1 := 52) at_574_50 am_lk0 rfl ?_
                refine aw_vload_n (pc1 := 53) at_574_52 (am_lk1 (am_lk1 l0 rfl rfl) rfl rfl) i0 rfl ?_
                obtain ⟨v28, e29, hs13⟩ := am_bind hs12
                clear hs12
                refine aw_pG (pc1 := 56) at_574_53 (am_vI_s e29) rfl ?_
                by_cases c30 : v11 = v28
                · rw [if_pos c30] at hs13
                  refine aw_iceq_t at_574_56 c30 ?_
                  exact rg_574_63 h19 o   hs13
                · rw [if_neg c30] at hs13
                  refine aw_iceq_f (pc1 := 59) at_574_56 c30 rfl ?_
                  exact rg_574_59 h19 o   hs13
        · clear hs9
          exact Or.inr hs10
      · clear hs7
        exact Or.inr hs8
    · clear hs3
      exact Or.inr hs4
  · clear hs1
    exact Or.inr hs2
def fm_574 (N : Nat) (y0 : Value) (y1 : Int32) (y2 : Int32) (h : am_H) : Option am_O := fg_574_0 N y0 y1 y2 h
theorem rm_574 {X : am_X} {d : Nat} {N : Nat} (y0 : Value) (y1 : Int32) (y2 : Int32) (h : am_H) (o : am_O) (i0 : am_isR y0 = true) (hs : fm_574 N y0 y1 y2 h = some o) : am_W X (d + 6) 574 0 (am_args 0 [y0, .int y1, .int y2]) [] h (fun q => q = o) := by
  rw [am_args_R i0, am_args_I, am_args_I]
  exact rg_574_0 y0 y1 y2 h o rfl rfl rfl i0 hs
def fg_575_46 (N : Nat) : Nat → Value → Int32 → am_H → Option am_O
  | 0 => fun _ _ _ => none
  | K + 1 => fun x0 x1 h => ((am_vI (am_pG 3126 x0 h)).bind fun v1 => (if v1 ≤ x1 then some (.inl (some (.int 0), h)) else ((am_vR (am_pG 3195 x0 h)).bind fun v4 => ((am_vR (am_pG 3127 x0 h)).bind fun v6 => ((am_pA 0 v6 x1 h).bind fun v8 => ((am_pS 0 v4 (4 + x1) v8 h).bind fun h10 => (fg_575_46 N K x0 ((x1 + 1)) h10)))))))
theorem rg_575_46 {X : am_X} {d : Nat} {N : Nat} : ∀ (K : Nat) (x0 : Value) (x1 : Int32) (h : am_H) (o : am_O), fg_575_46 N K x0 x1 h = some o → ∀ lv : am_LV, (lv.lookup 0 = some x0) → (lv.lookup 1 = some (.int x1)) → (am_isR x0 = true) → am_W X (d + 1) 575 46 lv [] h (fun q => q = o) := by
  intro K
  induction K with
  | zero => intro x0 x1 h o hs; cases hs
  | succ K ih =>
    intro x0 x1 h o hs lv l0 l1 i0
    unfold fg_575_46 at hs
    refine aw_iload_n (pc1 := 47) at_575_46 l1 rfl ?_
    refine aw_vload_n (pc1 := 48) at_575_47 l0 i0 rfl ?_
    obtain ⟨v1, e2, hs1⟩ := am_bind hs
    clear hs
    refine aw_pG (pc1 := 51) at_575_48 (am_vI_s e2) rfl ?_
    by_cases c3 : v1 ≤ x1
    · rw [if_pos c3] at hs1
      refine aw_icge_t at_575_51 c3 ?_
      refine aw_iconst (v := 0) (pc1 := 75) at_575_74 (by decide) rfl ?_
      cases hs1
      exact aw_iret at_575_75 (by rw [rt_575]; rfl) rfl
    · rw [if_neg c3] at hs1
      refine aw_icge_f (pc1 := 54) at_575_51 c3 rfl ?_
      refine aw_vload_n (pc1 := 55) at_575_54 l0 i0 rfl ?_
      obtain ⟨v4, e5, hs2⟩ := am_bind hs1
      clear hs1
      refine aw_pG (pc1 := 58) at_575_55 (am_vR_s e5).1 rfl ?_
      refine aw_iconst (v := 4) (pc1 := 59) at_575_58 (by decide) rfl ?_
      refine aw_iload_n (pc1 := 60) at_575_59 l1 rfl ?_
      refine aw_iadd (v := (4 + x1)) (pc1 := 61) at_575_60 rfl rfl ?_
      refine aw_vload_n (pc1 := 62) at_575_61 l0 i0 rfl ?_
      obtain ⟨v6, e7, hs3⟩ := am_bind hs2
      clear hs2
      refine aw_pG (pc1 := 65) at_575_62 (am_vR_s e7).1 rfl ?_
      refine aw_iload_n (pc1 := 66) at_575_65 l1 rfl ?_
      obtain ⟨v8, e9, hs4⟩ := am_bind hs3
      clear hs3
      refine aw_pA (pc1 := 67) at_575_66 (Or.inl ⟨rfl, rfl⟩) e9 rfl ?_
      obtain ⟨h10, e11, hs5⟩ := am_bind hs4
      clear hs4
      refine aw_pS (pc1 := 68) at_575_67 (Or.inl ⟨rfl, rfl⟩) e11 rfl ?_
      refine aw_iinc (v := (x1 + 1)) (c := 1) (lv1 := am_put1 _ 1 _) (pc1 := 71) at_575_68 l1 (by decide) rfl rfl rfl ?_
      refine aw_goto at_575_71 ?_
      exact ih x0 ((x1 + 1)) h10 o hs5 _ (am_lk1 l0 rfl (by rw [am_isRc i0]; rfl)) am_lk0 i0
def fg_575_0 (N : Nat) (x0 : Value) (h : am_H) : Option am_O := (if am_pOk 12 x0 h then am_cV true (fm_569 N x0 h) (fun h3 => ((am_vR (am_pG 3195 x0 h3)).bind fun v5 => ((am_vI (am_pG 3123 x0 h3)).bind fun v7 => ((am_pS 0 v5 0 v7 h3).bind fun h9 => ((am_vR (am_pG 3195 x0 h9)).bind fun v11 => ((am_vI (am_pG 3124 x0 h9)).bind fun v13 => ((am_pS 0 v11 1 v13 h9).bind fun h15 => ((am_vR (am_pG 3195 x0 h15)).bind fun v17 => ((am_vI (am_pG 3125 x0 h15)).bind fun v19 => ((am_pS 0 v17 2 v19 h15).bind fun h21 => ((am_vR (am_pG 3195 x0 h21)).bind fun v23 => ((am_vI (am_pG 3126 x0 h21)).bind fun v25 => ((am_pS 0 v23 3 v25 h21).bind fun h27 => (fg_575_46 N N x0 0 h27)))))))))))))) else none)
theorem rg_575_0 {X : am_X} {d : Nat} {N : Nat} {lv : am_LV} (x0 : Value) (h : am_H) (o : am_O) (l0 : lv.lookup 0 = some x0) (i0 : am_isR x0 = true) (hs : fg_575_0 N x0 h = some o) : am_W X (d + 1) 575 0 lv [] h (fun q => q = o) := by
  unfold fg_575_0 at hs
  refine aw_vload_n (pc1 := 1) at_575_0 l0 i0 rfl ?_
  obtain ⟨z1, hs1⟩ := am_ift hs
  clear hs
  refine aw_call (F := fm_569 N x0 h) (t := true) (na := 1) (kd := 1) (as := [x0]) at_575_1 (am_k3v kb_569) mn_569 mk_569 rfl rfl (am_ok_v mi_569 (am_hl rfl (am_ccR i0 am_cats_0) rfl) z1) (am_hc am_cats_0 rfl) (fun _ => ⟨rfl, hh_575⟩) (fun o1 hz9 => rm_569 x0 h o1 i0 hz9) ?_
  rcases am_cV_s hs1 with ⟨h3, f4, hs2⟩ | hs2
  · clear hs1
    refine Or.inl ⟨_, _, f4, ?_⟩
    show am_W X _ 575 4 _ [] h3 _
    refine aw_vload_n (pc1 := 5) at_575_4 l0 i0 rfl ?_
    obtain ⟨v5, e6, hs3⟩ := am_bind hs2
    clear hs2
    refine aw_pG (pc1 := 8) at_575_5 (am_vR_s e6).1 rfl ?_
    refine aw_iconst (v := 0) (pc1 := 9) at_575_8 (by decide) rfl ?_
    refine aw_vload_n (pc1 := 10) at_575_9 l0 i0 rfl ?_
    obtain ⟨v7, e8, hs4⟩ := am_bind hs3
    clear hs3
    refine aw_pG (pc1 := 13) at_575_10 (am_vI_s e8) rfl ?_
    obtain ⟨h9, e10, hs5⟩ := am_bind hs4
    clear hs4
    refine aw_pS (pc1 := 14) at_575_13 (Or.inl ⟨rfl, rfl⟩) e10 rfl ?_
    refine aw_vload_n (pc1 := 15) at_575_14 l0 i0 rfl ?_
    obtain ⟨v11, e12, hs6⟩ := am_bind hs5
    clear hs5
    refine aw_pG (pc1 := 18) at_575_15 (am_vR_s e12).1 rfl ?_
    refine aw_iconst (v := 1) (pc1 := 19) at_575_18 (by decide) rfl ?_
    refine aw_vload_n (pc1 := 20) at_575_19 l0 i0 rfl ?_
    obtain ⟨v13, e14, hs7⟩ := am_bind hs6
    clear hs6
    refine aw_pG (pc1 := 23) at_575_20 (am_vI_s e14) rfl ?_
    obtain ⟨h15, e16, hs8⟩ := am_bind hs7
    clear hs7
    refine aw_pS (pc1 := 24) at_575_23 (Or.inl ⟨rfl, rfl⟩) e16 rfl ?_
    refine aw_vload_n (pc1 := 25) at_575_24 l0 i0 rfl ?_
    obtain ⟨v17, e18, hs9⟩ := am_bind hs8
    clear hs8
    refine aw_pG (pc1 := 28) at_575_25 (am_vR_s e18).1 rfl ?_
    refine aw_iconst (v := 2) (pc1 := 29) at_575_28 (by decide) rfl ?_
    refine aw_vload_n (pc1 := 30) at_575_29 l0 i0 rfl ?_
    obtain ⟨v19, e20, hs10⟩ := am_bind hs9
    clear hs9
    refine aw_pG (pc1 := 33) at_575_30 (am_vI_s e20) rfl ?_
    obtain ⟨h21, e22, hs11⟩ := am_bind hs10
    clear hs10
    refine aw_pS (pc1 := 34) at_575_33 (Or.inl ⟨rfl, rfl⟩) e22 rfl ?_
    refine aw_vload_n (pc1 := 35) at_575_34 l0 i0 rfl ?_
    obtain ⟨v23, e24, hs12⟩ := am_bind hs11
    clear hs11
    refine aw_pG (pc1 := 38) at_575_35 (am_vR_s e24).1 rfl ?_
    refine aw_iconst (v := 3) (pc1 := 39) at_575_38 (by decide) rfl ?_
    refine aw_vload_n (pc1 := 40) at_575_39 l0 i0 rfl ?_
    obtain ⟨v25, e26, hs13⟩ := am_bind hs12
    clear hs12
    refine aw_pG (pc1 := 43) at_575_40 (am_vI_s e26) rfl ?_
    obtain ⟨h27, e28, hs14⟩ := am_bind hs13
    clear hs13
    refine aw_pS (pc1 := 44) at_575_43 (Or.inl ⟨rfl, rfl⟩) e28 rfl ?_
    refine aw_iconst (v := 0) (pc1 := 45) at_575_44 (by decide) rfl ?_
    refine aw_istore_n (lv1 := am_put1 _ 1 _) (pc1 := 46) at_575_45 rfl rfl ?_
    exact rg_575_46 N x0 0 h27 o hs14 _ (am_lk1 l0 rfl (by rw [am_isRc i0]; rfl)) am_lk0 i0
  · clear hs1
    exact Or.inr hs2
def fm_575 (N : Nat) (y0 : Value) (h : am_H) : Option am_O := fg_575_0 N y0 h
theorem rm_575 {X : am_X} {d : Nat} {N : Nat} (y0 : Value) (h : am_H) (o : am_O) (i0 : am_isR y0 = true) (hs : fm_575 N y0 h = some o) : am_W X (d + 1) 575 0 (am_args 0 [y0]) [] h (fun q => q = o) := by
  rw [am_args_R i0]
  exact rg_575_0 y0 h o rfl i0 hs
def fg_573_96 (N : Nat) (rec_37 : Value → Int32 → Int32 → Int32 → am_H → Option am_O) : Nat → Value → Int32 → Int32 → Int32 → Int32 → am_H → Option am_O
  | 0 => fun _ _ _ _ _ _ => none
  | K + 1 => fun x0 x1 x2 x3 x4 h => (if 3 ≤ x4 then (if am_pOk 12 x0 h then am_cI true (fm_574 N x0 x1 x2 h) (fun v3 h4 => (if v3 = 0 then (rec_37 x0 x1 x2 ((x3 + 1)) h4) else (if am_pOk 12 x0 h4 then am_cI true (fm_575 N x0 h4) (fun v8 h9 => some (.inl (some (.int v8), h9))) else none))) else none) else ((am_vR (am_pG 3127 x0 h)).bind fun v11 => ((am_pS 0 v11 x4 (x4 + 1) h).bind fun h13 => (fg_573_96 N rec_37 K x0 x1 x2 x3 ((x4 + 1)) h13))))
theorem rg_573_96 {X : am_X} {d : Nat} {N : Nat} {rec_37 : Value → Int32 → Int32 → Int32 → am_H → Option am_O} (q_37 : ∀ (x0 : Value) (x1 : Int32) (x2 : Int32) (x3 : Int32) (h : am_H) (o : am_O), rec_37 x0 x1 x2 x3 h = some o → ∀ lv : am_LV, (lv.lookup 0 = some x0) → (lv.lookup 1 = some (.int x1)) → (lv.lookup 2 = some (.int x2)) → (lv.lookup 3 = some (.int x3)) → (am_isR x0 = true) → am_W X (d + 7) 573 37 lv [] h (fun q => q = o)) : ∀ (K : Nat) (x0 : Value) (x1 : Int32) (x2 : Int32) (x3 : Int32) (x4 : Int32) (h : am_H) (o : am_O), fg_573_96 N rec_37 K x0 x1 x2 x3 x4 h = some o → ∀ lv : am_LV, (lv.lookup 0 = some x0) → (lv.lookup 1 = some (.int x1)) → (lv.lookup 2 = some (.int x2)) → (lv.lookup 3 = some (.int x3)) → (lv.lookup 4 = some (.int x4)) → (am_isR x0 = true) → am_W X (d + 7) 573 96 lv [] h (fun q => q = o) := by
  intro K
  induction K with
  | zero => intro x0 x1 x2 x3 x4 h o hs; cases hs
  | succ K ih =>
    intro x0 x1 x2 x3 x4 h o hs lv l0 l1 l2 l3 l4 i0
    unfold fg_573_96 at hs
    refine aw_iload (pc1 := 98) at_573_96 l4 rfl ?_
    refine aw_iconst (v := 3) (pc1 := 99) at_573_98 (by decide) rfl ?_
    by_cases c1 : 3 ≤ x4
    · rw [if_pos c1] at hs
      refine aw_icge_t at_573_99 c1 ?_
      refine aw_vload_n (pc1 := 120) at_573_119 l0 i0 rfl ?_
      refine aw_iload_n (pc1 := 121) at_573_120 l1 rfl ?_
      refine aw_iload_n (pc1 := 122) at_573_121 l2 rfl ?_
      obtain ⟨z2, hs1⟩ := am_ift hs
      clear hs
      refine aw_call (F := fm_574 N x0 x1 x2 h) (t := true) (na := 3) (kd := 1) (as := [x0, (.int x1), (.int x2)]) at_573_122 (am_k3v kb_574) mn_574 mk_574 rfl rfl (am_ok_v mi_574 (am_hl rfl (am_ccR i0 (am_ccI (am_ccI am_cats_0))) rfl) z2) (am_hc am_cats_0 rfl) (fun _ => ⟨rfl, hh_573⟩) (fun o1 hz9 => rm_574 x0 x1 x2 h o1 i0 hz9) ?_
      rcases am_cI_s hs1 with ⟨v3, h4, f5, hs2⟩ | hs2
      · clear hs1
        refine Or.inl ⟨_, _, f5, ?_⟩
        show am_W X _ 573 125 _ [(.int v3)] h4 _
        by_cases c6 : v3 = 0
        · rw [if_pos c6] at hs2
          refine aw_ifeq_t at_573_125 c6 ?_
          refine aw_iinc (v := (x3 + 1)) (c := 1) (lv1 := am_put1 _ 3 _) (pc1 := 136) at_573_133 l3 (by decide) rfl rfl rfl ?_
          refine aw_goto at_573_136 ?_
          exact q_37 x0 x1 x2 ((x3 + 1)) h4 o hs2 _ (am_lk1 l0 rfl rfl) (am_lk1 l1 rfl rfl) (am_lk1 l2 rfl rfl) am_lk0 i0
        · rw [if_neg c6] at hs2
          refine aw_ifeq_f (pc1 := 128) at_573_125 c6 rfl ?_
          refine aw_vload_n (pc1 := 129) at_573_128 l0 i0 rfl ?_
          obtain ⟨z7, hs3⟩ := am_ift hs2
          clear hs2
          refine aw_call (F := fm_575 N x0 h4) (t := true) (na := 1) (kd := 1) (as := [x0]) at_573_129 (am_k3v kb_575) mn_575 mk_575 rfl rfl (am_ok_v mi_575 (am_hl rfl (am_ccR i0 am_cats_0) rfl) z7) (am_hc am_cats_0 rfl) (fun _ => ⟨rfl, hh_573⟩) (fun o1 hz9 => rm_575 x0 h4 o1 i0 hz9) ?_
          rcases am_cI_s hs3 with ⟨v8, h9, f10, hs4⟩ | hs4
          · clear hs3
            refine Or.inl ⟨_, _, f10, ?_⟩
            show am_W X _ 573 132 _ [(.int v8)] h9 _
            cases hs4
            exact aw_iret at_573_132 (by rw [rt_573]; rfl) rfl
          · clear hs3
            exact Or.inr hs4
      · clear hs1
        exact Or.inr hs2
    · rw [if_neg c1] at hs
      refine aw_icge_f (pc1 := 102) at_573_99 c1 rfl ?_
      refine aw_vload_n (pc1 := 103) at_573_102 l0 i0 rfl ?_
      obtain ⟨v11, e12, hs5⟩ := am_bind hs
      clear hs
      refine aw_pG (pc1 := 106) at_573_103 (am_vR_s e12).1 rfl ?_
      refine aw_iload (pc1 := 108) at_573_106 l4 rfl ?_
      refine aw_iload (pc1 := 110) at_573_108 l4 rfl ?_
      refine aw_iconst (v := 1) (pc1 := 111) at_573_110 (by decide) rfl ?_
      refine aw_iadd (v := (x4 + 1)) (pc1 := 112) at_573_111 rfl rfl ?_
      obtain ⟨h13, e14, hs6⟩ := am_bind hs5
      clear hs5
      refine aw_pS (pc1 := 113) at_573_112 (Or.inl ⟨rfl, rfl⟩) e14 rfl ?_
      refine aw_iinc (v := (x4 + 1)) (c := 1) (lv1 := am_put1 _ 4 _) (pc1 := 116) at_573_113 l4 (by decide) rfl rfl rfl ?_
      refine aw_goto at_573_116 ?_
      exact ih x0 x1 x2 x3 ((x4 + 1)) h13 o hs6 _ (am_lk1 l0 rfl rfl) (am_lk1 l1 rfl rfl) (am_lk1 l2 rfl rfl) (am_lk1 l3 rfl rfl) am_lk0 i0
def fg_573_90 (N : Nat) (rec_37 : Value → Int32 → Int32 → Int32 → am_H → Option am_O) (x0 : Value) (x1 : Int32) (x2 : Int32) (x3 : Int32) (s0 : Value) (s1 : Int32) (h : am_H) : Option am_O := ((am_pP 3126 s0 (.int s1) h).bind fun h1 => (fg_573_96 N rec_37 N x0 x1 x2 x3 0 h1))
theorem rg_573_90 {X : am_X} {d : Nat} {N : Nat} {rec_37 : Value → Int32 → Int32 → Int32 → am_H → Option am_O} (q_37 : ∀ (x0 : Value) (x1 : Int32) (x2 : Int32) (x3 : Int32) (h : am_H) (o : am_O), rec_37 x0 x1 x2 x3 h = some o → ∀ lv : am_LV, (lv.lookup 0 = some x0) → (lv.lookup 1 = some (.int x1)) → (lv.lookup 2 = some (.int x2)) → (lv.lookup 3 = some (.int x3)) → (am_isR x0 = true) → am_W X (d + 7) 573 37 lv [] h (fun q => q = o)) {lv : am_LV} (x0 : Value) (x1 : Int32) (x2 : Int32) (x3 : Int32) (s0 : Value) (s1 : Int32) (h : am_H) (o : am_O) (l0 : lv.lookup 0 = some x0) (l1 : lv.lookup 1 = some (.int x1)) (l2 : lv.lookup 2 = some (.int x2)) (l3 : lv.lookup 3 = some (.int x3)) (i0 : am_isR x0 = true) (j0 : am_isR s0 = true) (hs : fg_573_90 N rec_37 x0 x1 x2 x3 s0 s1 h = some o) : am_W X (d + 7) 573 90 lv [(.int s1), s0] h (fun q => q = o) := by
  unfold fg_573_90 at hs
  obtain ⟨h1, e2, hs1⟩ := am_bind hs
  clear hs
  refine aw_pP (pc1 := 93) at_573_90 e2 rfl ?_
  refine aw_iconst (v := 0) (pc1 := 94) at_573_93 (by decide) rfl ?_
  refine aw_istore (lv1 := am_put1 _ 4 _) (pc1 := 96) at_573_94 rfl rfl ?_
  exact rg_573_96 q_37 N x0 x1 x2 x3 0 h1 o hs1 _ (am_lk1 l0 rfl rfl) (am_lk1 l1 rfl rfl) (am_lk1 l2 rfl rfl) (am_lk1 l3 rfl rfl) am_lk0 i0
def fg_573_37 (N : Nat) : Nat → Value → Int32 → Int32 → Int32 → am_H → Option am_O
  | 0 => fun _ _ _ _ _ => none
  | K + 1 => fun x0 x1 x2 x3 h => (if 250 ≤ x3 then some (.inl (some (.int 2), h)) else ((am_pP 3123 x0 (.int (((x3 - x3 / 125 * 125) / 25) - 2)) h).bind fun h2 => ((am_pP 3124 x0 (.int (((x3 - x3 / 25 * 25) / 5) - 2)) h2).bind fun h4 => ((am_pP 3125 x0 (.int ((x3 - x3 / 5 * 5) - 2)) h4).bind fun h6 => (if 125 ≤ x3 then (fg_573_90 N (fg_573_37 N K) x0 x1 x2 x3 x0 3 h6) else (fg_573_90 N (fg_573_37 N K) x0 x1 x2 x3 x0 0 h6))))))
theorem rg_573_37 {X : am_X} {d : Nat} {N : Nat} : ∀ (K : Nat) (x0 : Value) (x1 : Int32) (x2 : Int32) (x3 : Int32) (h : am_H) (o : am_O), fg_573_37 N K x0 x1 x2 x3 h = some o → ∀ lv : am_LV, (lv.lookup 0 = some x0) → (lv.lookup 1 = some (.int x1)) → (lv.lookup 2 = some (.int x2)) → (lv.lookup 3 = some (.int x3)) → (am_isR x0 = true) → am_W X (d + 7) 573 37 lv [] h (fun q => q = o) := by
  intro K
  induction K with
  | zero => intro x0 x1 x2 x3 h o hs; cases hs
  | succ K ih =>
    intro x0 x1 x2 x3 h o hs lv l0 l1 l2 l3 i0
    unfold fg_573_37 at hs
    refine aw_iload_n (pc1 := 38) at_573_37 l3 rfl ?_
    refine aw_sipush (v := 250) (pc1 := 41) at_573_38 (by decide) rfl ?_
    by_cases c1 : 250 ≤ x3
    · rw [if_pos c1] at hs
      refine aw_icge_t at_573_41 c1 ?_
      refine aw_iconst (v := 2) (pc1 := 140) at_573_139 (by decide) rfl ?_
      cases hs
      exact aw_iret at_573_140 (by rw [rt_573]; rfl) rfl
    · rw [if_neg c1] at hs
      refine aw_icge_f (pc1 := 44) at_573_41 c1 rfl ?_
      refine aw_vload_n (pc1 := 45) at_573_44 l0 i0 rfl ?_
      refine aw_iload_n (pc1 := 46) at_573_45 l3 rfl ?_
      refine aw_bipush (v := 125) (pc1 := 48) at_573_46 (by decide) rfl ?_
      refine aw_irem (v := (x3 - x3 / 125 * 125)) (pc1 := 49) at_573_48 (by decide) rfl rfl ?_
      refine aw_bipush (v := 25) (pc1 := 51) at_573_49 (by decide) rfl ?_
      refine aw_idiv (v := ((x3 - x3 / 125 * 125) / 25)) (pc1 := 52) at_573_51 (by decide) rfl rfl ?_
      refine aw_iconst (v := 2) (pc1 := 53) at_573_52 (by decide) rfl ?_
      refine aw_isub (v := (((x3 - x3 / 125 * 125) / 25) - 2)) (pc1 := 54) at_573_53 rfl rfl ?_
      obtain ⟨h2, e3, hs1⟩ := am_bind hs
      clear hs
      refine aw_pP (pc1 := 57) at_573_54 e3 rfl ?_
      refine aw_vload_n (pc1 := 58) at_573_57 l0 i0 rfl ?_
      refine aw_iload_n (pc1 := 59) at_573_58 l3 rfl ?_
      refine aw_bipush (v := 25) (pc1 := 61) at_573_59 (by decide) rfl ?_
      refine aw_irem (v := (x3 - x3 / 25 * 25)) (pc1 := 62) at_573_61 (by decide) rfl rfl ?_
      refine aw_iconst (v := 5) (pc1 := 63) at_573_62 (by decide) rfl ?_
      refine aw_idiv (v := ((x3 - x3 / 25 * 25) / 5)) (pc1 := 64) at_573_63 (by decide) rfl rfl ?_
      refine aw_iconst (v := 2) (pc1 := 65) at_573_64 (by decide) rfl ?_
      refine aw_isub (v := (((x3 - x3 / 25 * 25) / 5) - 2)) (pc1 := 66) at_573_65 rfl rfl ?_
      obtain ⟨h4, e5, hs2⟩ := am_bind hs1
      clear hs1
      refine aw_pP (pc1 := 69) at_573_66 e5 rfl ?_
      refine aw_vload_n (pc1 := 70) at_573_69 l0 i0 rfl ?_
      refine aw_iload_n (pc1 := 71) at_573_70 l3 rfl ?_
      refine aw_iconst (v := 5) (pc1 := 72) at_573_71 (by decide) rfl ?_
      refine aw_irem (v := (x3 - x3 / 5 * 5)) (pc1 := 73) at_573_72 (by decide) rfl rfl ?_
      refine aw_iconst (v := 2) (pc1 := 74) at_573_73 (by decide) rfl ?_
      refine aw_isub (v := ((x3 - x3 / 5 * 5) - 2)) (pc1 := 75) at_573_74 rfl rfl ?_
      obtain ⟨h6, e7, hs3⟩ := am_bind hs2
      clear hs2
      refine aw_pP (pc1 := 78) at_573_75 e7 rfl ?_
      refine aw_vload_n (pc1 := 79) at_573_78 l0 i0 rfl ?_
      refine aw_iload_n (pc1 := 80) at_573_79 l3 rfl ?_
      refine aw_bipush (v := 125) (pc1 := 82) at_573_80 (by decide) rfl ?_
      by_cases c8 : 125 ≤ x3
      · rw [if_pos c8] at hs3
        refine aw_icge_t at_573_82 c8 ?_
        refine aw_iconst (v := 3) (pc1 := 90) at_573_89 (by decide) rfl ?_
        exact rg_573_90 (fun z0 z1 z2 z3 h o hs3 => ih z0 z1 z2 z3 h o hs3) x0 x1 x2 x3 x0 3 h6 o l0 l1 l2 l3 i0 i0 hs3
      · rw [if_neg c8] at hs3
        refine aw_icge_f (pc1 := 85) at_573_82 c8 rfl ?_
        refine aw_iconst (v := 0) (pc1 := 86) at_573_85 (by decide) rfl ?_
        refine aw_goto at_573_86 ?_
        exact rg_573_90 (fun z0 z1 z2 z3 h o hs3 => ih z0 z1 z2 z3 h o hs3) x0 x1 x2 x3 x0 0 h6 o l0 l1 l2 l3 i0 i0 hs3
def fg_573_2 (N : Nat) : Nat → Value → Int32 → Int32 → Int32 → am_H → Option am_O
  | 0 => fun _ _ _ _ _ => none
  | K + 1 => fun x0 x1 x2 x3 h => ((am_vI (am_pG 3103 x0 h)).bind fun v1 => (if v1 ≤ x3 then (fg_573_37 N N x0 x1 x2 0 h) else (if am_pOk 12 x0 h then am_cV true (fm_402 N x0 x3 h) (fun h6 => (if am_pOk 12 x0 h6 then am_cI true (fm_574 N x0 x1 x2 h6) (fun v9 h10 => (if v9 = 0 then (fg_573_2 N K x0 x1 x2 ((x3 + 1)) h10) else (if am_pOk 12 x0 h10 then am_cI true (fm_575 N x0 h10) (fun v14 h15 => some (.inl (some (.int v14), h15))) else none))) else none)) else none)))
theorem rg_573_2 {X : am_X} {d : Nat} {N : Nat} : ∀ (K : Nat) (x0 : Value) (x1 : Int32) (x2 : Int32) (x3 : Int32) (h : am_H) (o : am_O), fg_573_2 N K x0 x1 x2 x3 h = some o → ∀ lv : am_LV, (lv.lookup 0 = some x0) → (lv.lookup 1 = some (.int x1)) → (lv.lookup 2 = some (.int x2)) → (lv.lookup 3 = some (.int x3)) → (am_isR x0 = true) → am_W X (d + 7) 573 2 lv [] h (fun q => q = o) := by
  intro K
  induction K with
  | zero => intro x0 x1 x2 x3 h o hs; cases hs
  | succ K ih =>
    intro x0 x1 x2 x3 h o hs lv l0 l1 l2 l3 i0
    unfold fg_573_2 at hs
    refine aw_iload_n (pc1 := 3) at_573_2 l3 rfl ?_
    refine aw_vload_n (pc1 := 4) at_573_3 l0 i0 rfl ?_
    obtain ⟨v1, e2, hs1⟩ := am_bind hs
    clear hs
    refine aw_pG (pc1 := 7) at_573_4 (am_vI_s e2) rfl ?_
    by_cases c3 : v1 ≤ x3
    · rw [if_pos c3] at hs1
      refine aw_icge_t at_573_7 c3 ?_
      refine aw_iconst (v := 0) (pc1 := 36) at_573_35 (by decide) rfl ?_
      refine aw_istore_n (lv1 := am_put1 _ 3 _) (pc1 := 37) at_573_36 rfl rfl ?_
      exact rg_573_37 N x0 x1 x2 0 h o hs1 _ (am_lk1 l0 rfl rfl) (am_lk1 l1 rfl rfl) (am_lk1 l2 rfl rfl) am_lk0 i0
    · rw [if_neg c3] at hs1
      refine aw_icge_f (pc1 := 10) at_573_7 c3 rfl ?_
      refine aw_vload_n (pc1 := 11) at_573_10 l0 i0 rfl ?_
      refine aw_iload_n (pc1 := 12) at_573_11 l3 rfl ?_
      obtain ⟨z4, hs2⟩ := am_ift hs1
      clear hs1
      refine aw_call (F := fm_402 N x0 x3 h) (t := true) (na := 2) (kd := 1) (as := [x0, (.int x3)]) at_573_12 (am_k3v kb_402) mn_402 mk_402 rfl rfl (am_ok_v mi_402 (am_hl rfl (am_ccR i0 (am_ccI am_cats_0)) rfl) z4) (am_hc am_cats_0 rfl) (fun _ => ⟨rfl, hh_573⟩) (fun o1 hz9 => rm_402 x0 x3 h o1 i0 hz9) ?_
      rcases am_cV_s hs2 with ⟨h6, f7, hs3⟩ | hs3
      · clear hs2
        refine Or.inl ⟨_, _, f7, ?_⟩
        show am_W X _ 573 15 _ [] h6 _
        refine aw_vload_n (pc1 := 16) at_573_15 l0 i0 rfl ?_
        refine aw_iload_n (pc1 := 17) at_573_16 l1 rfl ?_
        refine aw_iload_n (pc1 := 18) at_573_17 l2 rfl ?_
        obtain ⟨z8, hs4⟩ := am_ift hs3
        clear hs3
        refine aw_call (F := fm_574 N x0 x1 x2 h6) (t := true) (na := 3) (kd := 1) (as := [x0, (.int x1), (.int x2)]) at_573_18 (am_k3v kb_574) mn_574 mk_574 rfl rfl (am_ok_v mi_574 (am_hl rfl (am_ccR i0 (am_ccI (am_ccI am_cats_0))) rfl) z8) (am_hc am_cats_0 rfl) (fun _ => ⟨rfl, hh_573⟩) (fun o1 hz9 => rm_574 x0 x1 x2 h6 o1 i0 hz9) ?_
        rcases am_cI_s hs4 with ⟨v9, h10, f11, hs5⟩ | hs5
        · clear hs4
          refine Or.inl ⟨_, _, f11, ?_⟩
          show am_W X _ 573 21 _ [(.int v9)] h10 _
          by_cases c12 : v9 = 0
          · rw [if_pos c12] at hs5
            refine aw_ifeq_t at_573_21 c12 ?_
            refine aw_iinc (v := (x3 + 1)) (c := 1) (lv1 := am_put1 _ 3 _) (pc1 := 32) at_573_29 l3 (by decide) rfl rfl rfl ?_
            refine aw_goto at_573_32 ?_
            exact ih x0 x1 x2 ((x3 + 1)) h10 o hs5 _ (am_lk1 l0 rfl rfl) (am_lk1 l1 rfl rfl) (am_lk1 l2 rfl rfl) am_lk0 i0
          · rw [if_neg c12] at hs5
            refine aw_ifeq_f (pc1 := 24) at_573_21 c12 rfl ?_
            refine aw_vload_n (pc1 := 25) at_573_24 l0 i0 rfl ?_
            obtain ⟨z13, hs6⟩ := am_ift hs5
            clear hs5
            refine aw_call (F := fm_575 N x0 h10) (t := true) (na := 1) (kd := 1) (as := [x0]) at_573_25 (am_k3v kb_575) mn_575 mk_575 rfl rfl (am_ok_v mi_575 (am_hl rfl (am_ccR i0 am_cats_0) rfl) z13) (am_hc am_cats_0 rfl) (fun _ => ⟨rfl, hh_573⟩) (fun o1 hz9 => rm_575 x0 h10 o1 i0 hz9) ?_
            rcases am_cI_s hs6 with ⟨v14, h15, f16, hs7⟩ | hs7
            · clear hs6
              refine Or.inl ⟨_, _, f16, ?_⟩
              show am_W X _ 573 28 _ [(.int v14)] h15 _
              cases hs7
              exact aw_iret at_573_28 (by rw [rt_573]; rfl) rfl
            · clear hs6
              exact Or.inr hs7
        · clear hs4
          exact Or.inr hs5
      · clear hs2
        exact Or.inr hs3
def fg_573_0 (N : Nat) (x0 : Value) (x1 : Int32) (x2 : Int32) (h : am_H) : Option am_O := (fg_573_2 N N x0 x1 x2 0 h)
theorem rg_573_0 {X : am_X} {d : Nat} {N : Nat} {lv : am_LV} (x0 : Value) (x1 : Int32) (x2 : Int32) (h : am_H) (o : am_O) (l0 : lv.lookup 0 = some x0) (l1 : lv.lookup 1 = some (.int x1)) (l2 : lv.lookup 2 = some (.int x2)) (i0 : am_isR x0 = true) (hs : fg_573_0 N x0 x1 x2 h = some o) : am_W X (d + 7) 573 0 lv [] h (fun q => q = o) := by
  unfold fg_573_0 at hs
  refine aw_iconst (v := 0) (pc1 := 1) at_573_0 (by decide) rfl ?_
  refine aw_istore_n (lv1 := am_put1 _ 3 _) (pc1 := 2) at_573_1 rfl rfl ?_
  exact rg_573_2 N x0 x1 x2 0 h o hs _ (am_lk1 l0 rfl rfl) (am_lk1 l1 rfl rfl) (am_lk1 l2 rfl rfl) am_lk0 i0
def fm_573 (N : Nat) (y0 : Value) (y1 : Int32) (y2 : Int32) (h : am_H) : Option am_O := fg_573_0 N y0 y1 y2 h
theorem rm_573 {X : am_X} {d : Nat} {N : Nat} (y0 : Value) (y1 : Int32) (y2 : Int32) (h : am_H) (o : am_O) (i0 : am_isR y0 = true) (hs : fm_573 N y0 y1 y2 h = some o) : am_W X (d + 7) 573 0 (am_args 0 [y0, .int y1, .int y2]) [] h (fun q => q = o) := by
  rw [am_args_R i0, am_args_I, am_args_I]
  exact rg_573_0 y0 y1 y2 h o rfl rfl rfl i0 hs
def fg_566_130 (N : Nat) (s0 : Int32) (h : am_H) : Option am_O := some (.inl (some (.int s0), h))
theorem rg_566_130 {X : am_X} {d : Nat} {N : Nat} {lv : am_LV} (s0 : Int32) (h : am_H) (o : am_O) (hs : fg_566_130 N s0 h = some o) : am_W X (d + 8) 566 130 lv [(.int s0)] h (fun q => q = o) := by
  unfold fg_566_130 at hs
  cases hs
  exact aw_iret at_566_130 (by rw [rt_566]; rfl) rfl
def fg_566_111 (N : Nat) (x0 : Value) (x1 : Int32) (x2 : Int32) (h : am_H) : Option am_O := (if am_pOk 12 x0 h then am_cI true (fm_572 N x0 x1 x2 h) (fun v2 h3 => (if v2 = 0 then (if am_pOk 12 x0 h3 then am_cI true (fm_573 N x0 x1 x2 h3) (fun v7 h8 => (fg_566_130 N v7 h8)) else none) else (fg_566_130 N 1 h3))) else none)
theorem rg_566_111 {X : am_X} {d : Nat} {N : Nat} {lv : am_LV} (x0 : Value) (x1 : Int32) (x2 : Int32) (h : am_H) (o : am_O) (l0 : lv.lookup 0 = some x0) (l1 : lv.lookup 1 = some (.int x1)) (l2 : lv.lookup 2 = some (.int x2)) (i0 : am_isR x0 = true) (hs : fg_566_111 N x0 x1 x2 h = some o) : am_W X (d + 8) 566 111 lv [] h (fun q => q = o) := by
  unfold fg_566_111 at hs
  refine aw_vload_n (pc1 := 112) at_566_111 l0 i0 rfl ?_
  refine aw_iload_n (pc1 := 113) at_566_112 l1 rfl ?_
  refine aw_iload_n (pc1 := 114) at_566_113 l2 rfl ?_
  obtain ⟨z1, hs1⟩ := am_ift hs
  clear hs
  refine aw_call (F := fm_572 N x0 x1 x2 h) (t := true) (na := 3) (kd := 1) (as := [x0, (.int x1), (.int x2)]) at_566_114 (am_k3v kb_572) mn_572 mk_572 rfl rfl (am_ok_v mi_572 (am_hl rfl (am_ccR i0 (am_ccI (am_ccI am_cats_0))) rfl) z1) (am_hc am_cats_0 rfl) (fun _ => ⟨rfl, hh_566⟩) (fun o1 hz9 => rm_572 x0 x1 x2 h o1 i0 hz9) ?_
  rcases am_cI_s hs1 with ⟨v2, h3, f4, hs2⟩ | hs2
  · clear hs1
    refine Or.inl ⟨_, _, f4, ?_⟩
    show am_W X _ 566 117 _ [(.int v2)] h3 _
    by_cases c5 : v2 = 0
    · rw [if_pos c5] at hs2
      refine aw_ifeq_t at_566_117 c5 ?_
      refine aw_vload_n (pc1 := 125) at_566_124 l0 i0 rfl ?_
      refine aw_iload_n (pc1 := 126) at_566_125 l1 rfl ?_
      refine aw_iload_n (pc1 := 127) at_566_126 l2 rfl ?_
      obtain ⟨z6, hs3⟩ := am_ift hs2
      clear hs2
      refine aw_call (F := fm_573 N x0 x1 x2 h3) (t := true) (na := 3) (kd := 1) (as := [x0, (.int x1), (.int x2)]) at_566_127 (am_k3v kb_573) mn_573 mk_573 rfl rfl (am_ok_v mi_573 (am_hl rfl (am_ccR i0 (am_ccI (am_ccI am_cats_0))) rfl) z6) (am_hc am_cats_0 rfl) (fun _ => ⟨rfl, hh_566⟩) (fun o1 hz9 => rm_573 x0 x1 x2 h3 o1 i0 hz9) ?_
      rcases am_cI_s hs3 with ⟨v7, h8, f9, hs4⟩ | hs4
      · clear hs3
        refine Or.inl ⟨_, _, f9, ?_⟩
        show am_W X _ 566 130 _ [(.int v7)] h8 _
        exact rg_566_130 v7 h8 o   hs4
      · clear hs3
        exact Or.inr hs4
    · rw [if_neg c5] at hs2
      refine aw_ifeq_f (pc1 := 120) at_566_117 c5 rfl ?_
      refine aw_iconst (v := 1) (pc1 := 121) at_566_120 (by decide) rfl ?_
      refine aw_goto at_566_121 ?_
      exact rg_566_130 1 h3 o   hs2
  · clear hs1
    exact Or.inr hs2
def fg_566_69 (N : Nat) (x0 : Value) (x1 : Int32) (x2 : Int32) (h : am_H) : Option am_O := ((am_vR (am_pG 3074 x0 h)).bind fun v1 => ((am_pA 0 v1 x1 h).bind fun v3 => (if ¬ v3 = 3 then (fg_566_111 N x0 x1 x2 h) else ((am_vR (am_pG 3074 x0 h)).bind fun v6 => ((am_pA 0 v6 x2 h).bind fun v8 => (if ¬ v8 = 3 then (fg_566_111 N x0 x1 x2 h) else ((am_vR (am_pG 3076 x0 h)).bind fun v11 => ((am_pA 0 v11 x1 h).bind fun v13 => ((am_vR (am_pG 3076 x0 h)).bind fun v15 => ((am_pA 0 v15 x2 h).bind fun v17 => (if ¬ v13 = v17 then (fg_566_111 N x0 x1 x2 h) else (if am_pOk 12 x0 h then am_cI true (fm_570 N x0 x1 x2 h) (fun v21 h22 => some (.inl (some (.int v21), h22))) else none))))))))))))
theorem rg_566_69 {X : am_X} {d : Nat} {N : Nat} {lv : am_LV} (x0 : Value) (x1 : Int32) (x2 : Int32) (h : am_H) (o : am_O) (l0 : lv.lookup 0 = some x0) (l1 : lv.lookup 1 = some (.int x1)) (l2 : lv.lookup 2 = some (.int x2)) (i0 : am_isR x0 = true) (hs : fg_566_69 N x0 x1 x2 h = some o) : am_W X (d + 8) 566 69 lv [] h (fun q => q = o) := by
  unfold fg_566_69 at hs
  refine aw_vload_n (pc1 := 70) at_566_69 l0 i0 rfl ?_
  obtain ⟨v1, e2, hs1⟩ := am_bind hs
  clear hs
  refine aw_pG (pc1 := 73) at_566_70 (am_vR_s e2).1 rfl ?_
  refine aw_iload_n (pc1 := 74) at_566_73 l1 rfl ?_
  obtain ⟨v3, e4, hs2⟩ := am_bind hs1
  clear hs1
  refine aw_pA (pc1 := 75) at_566_74 (Or.inl ⟨rfl, rfl⟩) e4 rfl ?_
  refine aw_iconst (v := 3) (pc1 := 76) at_566_75 (by decide) rfl ?_
  by_cases c5 : ¬ v3 = 3
  · rw [if_pos c5] at hs2
    refine aw_icne_t at_566_76 c5 ?_
    exact rg_566_111 x0 x1 x2 h o l0 l1 l2 i0 hs2
  · rw [if_neg c5] at hs2
    refine aw_icne_f (pc1 := 79) at_566_76 c5 rfl ?_
    refine aw_vload_n (pc1 := 80) at_566_79 l0 i0 rfl ?_
    obtain ⟨v6, e7, hs3⟩ := am_bind hs2
    clear hs2
    refine aw_pG (pc1 := 83) at_566_80 (am_vR_s e7).1 rfl ?_
    refine aw_iload_n (pc1 := 84) at_566_83 l2 rfl ?_
    obtain ⟨v8, e9, hs4⟩ := am_bind hs3
    clear hs3
    refine aw_pA (pc1 := 85) at_566_84 (Or.inl ⟨rfl, rfl⟩) e9 rfl ?_
    refine aw_iconst (v := 3) (pc1 := 86) at_566_85 (by decide) rfl ?_
    by_cases c10 : ¬ v8 = 3
    · rw [if_pos c10] at hs4
      refine aw_icne_t at_566_86 c10 ?_
      exact rg_566_111 x0 x1 x2 h o l0 l1 l2 i0 hs4
    · rw [if_neg c10] at hs4
      refine aw_icne_f (pc1 := 89) at_566_86 c10 rfl ?_
      refine aw_vload_n (pc1 := 90) at_566_89 l0 i0 rfl ?_
      obtain ⟨v11, e12, hs5⟩ := am_bind hs4
      clear hs4
      refine aw_pG (pc1 := 93) at_566_90 (am_vR_s e12).1 rfl ?_
      refine aw_iload_n (pc1 := 94) at_566_93 l1 rfl ?_
      obtain ⟨v13, e14, hs6⟩ := am_bind hs5
      clear hs5
      refine aw_pA (pc1 := 95) at_566_94 (Or.inl ⟨rfl, rfl⟩) e14 rfl ?_
      refine aw_vload_n (pc1 := 96) at_566_95 l0 i0 rfl ?_
      obtain ⟨v15, e16, hs7⟩ := am_bind hs6
      clear hs6
      refine aw_pG (pc1 := 99) at_566_96 (am_vR_s e16).1 rfl ?_
      refine aw_iload_n (pc1 := 100) at_566_99 l2 rfl ?_
      obtain ⟨v17, e18, hs8⟩ := am_bind hs7
      clear hs7
      refine aw_pA (pc1 := 101) at_566_100 (Or.inl ⟨rfl, rfl⟩) e18 rfl ?_
      by_cases c19 : ¬ v13 = v17
      · rw [if_pos c19] at hs8
        refine aw_icne_t at_566_101 c19 ?_
        exact rg_566_111 x0 x1 x2 h o l0 l1 l2 i0 hs8
      · rw [if_neg c19] at hs8
        refine aw_icne_f (pc1 := 104) at_566_101 c19 rfl ?_
        refine aw_vload_n (pc1 := 105) at_566_104 l0 i0 rfl ?_
        refine aw_iload_n (pc1 := 106) at_566_105 l1 rfl ?_
        refine aw_iload_n (pc1 := 107) at_566_106 l2 rfl ?_
        obtain ⟨z20, hs9⟩ := am_ift hs8
        clear hs8
        refine aw_call (F := fm_570 N x0 x1 x2 h) (t := true) (na := 3) (kd := 1) (as := [x0, (.int x1), (.int x2)]) at_566_107 (am_k3v kb_570) mn_570 mk_570 rfl rfl (am_ok_v mi_570 (am_hl rfl (am_ccR i0 (am_ccI (am_ccI am_cats_0))) rfl) z20) (am_hc am_cats_0 rfl) (fun _ => ⟨rfl, hh_566⟩) (fun o1 hz9 => rm_570 x0 x1 x2 h o1 i0 hz9) ?_
        rcases am_cI_s hs9 with ⟨v21, h22, f23, hs10⟩ | hs10
        · clear hs9
          refine Or.inl ⟨_, _, f23, ?_⟩
          show am_W X _ 566 110 _ [(.int v21)] h22 _
          cases hs10
          exact aw_iret at_566_110 (by rw [rt_566]; rfl) rfl
        · clear hs9
          exact Or.inr hs10
def fg_566_22 (N : Nat) (x0 : Value) (x1 : Int32) (x2 : Int32) (s0 : Value) (s1 : Int32) (h : am_H) : Option am_O := ((am_pP 3072 s0 (.int s1) h).bind fun h1 => ((am_vI (am_pG 3072 x0 h1)).bind fun v3 => (if v3 ≤ 0 then ((am_vR (am_pG 3074 x0 h1)).bind fun v6 => ((am_pA 0 v6 x1 h1).bind fun v8 => (if ¬ v8 = 2 then (fg_566_69 N x0 x1 x2 h1) else ((am_vR (am_pG 3074 x0 h1)).bind fun v11 => ((am_pA 0 v11 x2 h1).bind fun v13 => (if ¬ v13 = 2 then (fg_566_69 N x0 x1 x2 h1) else (if am_pOk 12 x0 h1 then am_cV true (fm_391 N x0 x1 h1) (fun h18 => (if am_pOk 12 x0 h18 then am_cV true (fm_480 N x0 x2 h18) (fun h22 => (if am_pOk 12 x0 h22 then am_cI true (fm_567 N x0 h22) (fun v25 h26 => some (.inl (some (.int v25), h26))) else none)) else none)) else none))))))) else some (.inl (some (.int 0), h1)))))
theorem rg_566_22 {X : am_X} {d : Nat} {N : Nat} {lv : am_LV} (x0 : Value) (x1 : Int32) (x2 : Int32) (s0 : Value) (s1 : Int32) (h : am_H) (o : am_O) (l0 : lv.lookup 0 = some x0) (l1 : lv.lookup 1 = some (.int x1)) (l2 : lv.lookup 2 = some (.int x2)) (i0 : am_isR x0 = true) (j0 : am_isR s0 = true) (hs : fg_566_22 N x0 x1 x2 s0 s1 h = some o) : am_W X (d + 8) 566 22 lv [(.int s1), s0] h (fun q => q = o) := by
  unfold fg_566_22 at hs
  obtain ⟨h1, e2, hs1⟩ := am_bind hs
  clear hs
  refine aw_pP (pc1 := 25) at_566_22 e2 rfl ?_
  refine aw_vload_n (pc1 := 26) at_566_25 l0 i0 rfl ?_
  obtain ⟨v3, e4, hs2⟩ := am_bind hs1
  clear hs1
  refine aw_pG (pc1 := 29) at_566_26 (am_vI_s e4) rfl ?_
  by_cases c5 : v3 ≤ 0
  · rw [if_pos c5] at hs2
    refine aw_ifle_t at_566_29 c5 ?_
    refine aw_vload_n (pc1 := 35) at_566_34 l0 i0 rfl ?_
    obtain ⟨v6, e7, hs3⟩ := am_bind hs2
    clear hs2
    refine aw_pG (pc1 := 38) at_566_35 (am_vR_s e7).1 rfl ?_
    refine aw_iload_n (pc1 := 39) at_566_38 l1 rfl ?_
    obtain ⟨v8, e9, hs4⟩ := am_bind hs3
    clear hs3
    refine aw_pA (pc1 := 40) at_566_39 (Or.inl ⟨rfl, rfl⟩) e9 rfl ?_
    refine aw_iconst (v := 2) (pc1 := 41) at_566_40 (by decide) rfl ?_
    by_cases c10 : ¬ v8 = 2
    · rw [if_pos c10] at hs4
      refine aw_icne_t at_566_41 c10 ?_
      exact rg_566_69 x0 x1 x2 h1 o l0 l1 l2 i0 hs4
    · rw [if_neg c10] at hs4
      refine aw_icne_f (pc1 := 44) at_566_41 c10 rfl ?_
      refine aw_vload_n (pc1 := 45) at_566_44 l0 i0 rfl ?_
      obtain ⟨v11, e12, hs5⟩ := am_bind hs4
      clear hs4
      refine aw_pG (pc1 := 48) at_566_45 (am_vR_s e12).1 rfl ?_
      refine aw_iload_n (pc1 := 49) at_566_48 l2 rfl ?_
      obtain ⟨v13, e14, hs6⟩ := am_bind hs5
      clear hs5
      refine aw_pA (pc1 := 50) at_566_49 (Or.inl ⟨rfl, rfl⟩) e14 rfl ?_
      refine aw_iconst (v := 2) (pc1 := 51) at_566_50 (by decide) rfl ?_
      by_cases c15 : ¬ v13 = 2
      · rw [if_pos c15] at hs6
        refine aw_icne_t at_566_51 c15 ?_
        exact rg_566_69 x0 x1 x2 h1 o l0 l1 l2 i0 hs6
      · rw [if_neg c15] at hs6
        refine aw_icne_f (pc1 := 54) at_566_51 c15 rfl ?_
        refine aw_vload_n (pc1 := 55) at_566_54 l0 i0 rfl ?_
        refine aw_iload_n (pc1 := 56) at_566_55 l1 rfl ?_
        obtain ⟨z16, hs7⟩ := am_ift hs6
        clear hs6
        refine aw_call (F := fm_391 N x0 x1 h1) (t := true) (na := 2) (kd := 1) (as := [x0, (.int x1)]) at_566_56 (am_k3v kb_391) mn_391 mk_391 rfl rfl (am_ok_v mi_391 (am_hl rfl (am_ccR i0 (am_ccI am_cats_0)) rfl) z16) (am_hc am_cats_0 rfl) (fun _ => ⟨rfl, hh_566⟩) (fun o1 hz9 => rm_391 x0 x1 h1 o1 i0 hz9) ?_
        rcases am_cV_s hs7 with ⟨h18, f19, hs8⟩ | hs8
        · clear hs7
          refine Or.inl ⟨_, _, f19, ?_⟩
          show am_W X _ 566 59 _ [] h18 _
          refine aw_vload_n (pc1 := 60) at_566_59 l0 i0 rfl ?_
          refine aw_iload_n (pc1 := 61) at_566_60 l2 rfl ?_
          obtain ⟨z20, hs9⟩ := am_ift hs8
          clear hs8
          refine aw_call (F := fm_480 N x0 x2 h18) (t := true) (na := 2) (kd := 1) (as := [x0, (.int x2)]) at_566_61 (am_k3v kb_480) mn_480 mk_480 rfl rfl (am_ok_v mi_480 (am_hl rfl (am_ccR i0 (am_ccI am_cats_0)) rfl) z20) (am_hc am_cats_0 rfl) (fun _ => ⟨rfl, hh_566⟩) (fun o1 hz9 => rm_480 x0 x2 h18 o1 i0 hz9) ?_
          rcases am_cV_s hs9 with ⟨h22, f23, hs10⟩ | hs10
          · clear hs9
            refine Or.inl ⟨_, _, f23, ?_⟩
            show am_W X _ 566 64 _ [] h22 _
            refine aw_vload_n (pc1 := 65) at_566_64 l0 i0 rfl ?_
            obtain ⟨z24, hs11⟩ := am_ift hs10
            clear hs10
            refine aw_call (F := fm_567 N x0 h22) (t := true) (na := 1) (kd := 1) (as := [x0]) at_566_65 (am_k3v kb_567) mn_567 mk_567 rfl rfl (am_ok_v mi_567 (am_hl rfl (am_ccR i0 am_cats_0) rfl) z24) (am_hc am_cats_0 rfl) (fun _ => ⟨rfl, hh_566⟩) (fun o1 hz9 => rm_567 x0 h22 o1 i0 hz9) ?_
            rcases am_cI_s hs11 with ⟨v25, h26, f27, hs12⟩ | hs12
            · clear hs11
              refine Or.inl ⟨_, _, f27, ?_⟩
              show am_W X _ 566 68 _ [(.int v25)] h26 _
              cases hs12
              exact aw_iret at_566_68 (by rw [rt_566]; rfl) rfl
            · clear hs11
              exact Or.inr hs12
          · clear hs9
            exact Or.inr hs10
        · clear hs7
          exact Or.inr hs8
  · rw [if_neg c5] at hs2
    refine aw_ifle_f (pc1 := 32) at_566_29 c5 rfl ?_
    refine aw_iconst (v := 0) (pc1 := 33) at_566_32 (by decide) rfl ?_
    cases hs2
    exact aw_iret at_566_33 (by rw [rt_566]; rfl) rfl
def fg_566_21 (N : Nat) (x0 : Value) (x1 : Int32) (x2 : Int32) (s0 : Value) (h : am_H) : Option am_O := (fg_566_22 N x0 x1 x2 s0 1 h)
theorem rg_566_21 {X : am_X} {d : Nat} {N : Nat} {lv : am_LV} (x0 : Value) (x1 : Int32) (x2 : Int32) (s0 : Value) (h : am_H) (o : am_O) (l0 : lv.lookup 0 = some x0) (l1 : lv.lookup 1 = some (.int x1)) (l2 : lv.lookup 2 = some (.int x2)) (i0 : am_isR x0 = true) (j0 : am_isR s0 = true) (hs : fg_566_21 N x0 x1 x2 s0 h = some o) : am_W X (d + 8) 566 21 lv [s0] h (fun q => q = o) := by
  unfold fg_566_21 at hs
  refine aw_iconst (v := 1) (pc1 := 22) at_566_21 (by decide) rfl ?_
  exact rg_566_22 x0 x1 x2 s0 1 h o l0 l1 l2 i0 j0 hs
def fg_566_0 (N : Nat) (x0 : Value) (x1 : Int32) (x2 : Int32) (h : am_H) : Option am_O := (if am_pOk 12 x0 h then am_cI true (fm_358 x0 x1 h) (fun v2 h3 => (if v2 = 0 then (fg_566_21 N x0 x1 x2 x0 h3) else (if am_pOk 12 x0 h3 then am_cI true (fm_358 x0 x2 h3) (fun v7 h8 => (if v7 = 0 then (fg_566_21 N x0 x1 x2 x0 h8) else (fg_566_22 N x0 x1 x2 x0 0 h8))) else none))) else none)
theorem rg_566_0 {X : am_X} {d : Nat} {N : Nat} {lv : am_LV} (x0 : Value) (x1 : Int32) (x2 : Int32) (h : am_H) (o : am_O) (l0 : lv.lookup 0 = some x0) (l1 : lv.lookup 1 = some (.int x1)) (l2 : lv.lookup 2 = some (.int x2)) (i0 : am_isR x0 = true) (hs : fg_566_0 N x0 x1 x2 h = some o) : am_W X (d + 8) 566 0 lv [] h (fun q => q = o) := by
  unfold fg_566_0 at hs
  refine aw_vload_n (pc1 := 1) at_566_0 l0 i0 rfl ?_
  refine aw_vload_n (pc1 := 2) at_566_1 l0 i0 rfl ?_
  refine aw_iload_n (pc1 := 3) at_566_2 l1 rfl ?_
  obtain ⟨z1, hs1⟩ := am_ift hs
  clear hs
  refine aw_call (F := fm_358 x0 x1 h) (t := true) (na := 2) (kd := 1) (as := [x0, (.int x1)]) at_566_3 (am_k3v kb_358) mn_358 mk_358 rfl rfl (am_ok_v mi_358 (am_hl rfl (am_ccR i0 (am_ccI am_cats_0)) rfl) z1) (am_hc (am_ccR i0 am_cats_0) rfl) (fun _ => ⟨rfl, hh_566⟩) (fun o1 hz9 => rm_358 x0 x1 h o1 i0 hz9) ?_
  rcases am_cI_s hs1 with ⟨v2, h3, f4, hs2⟩ | hs2
  · clear hs1
    refine Or.inl ⟨_, _, f4, ?_⟩
    show am_W X _ 566 6 _ [(.int v2), x0] h3 _
    by_cases c5 : v2 = 0
    · rw [if_pos c5] at hs2
      refine aw_ifeq_t at_566_6 c5 ?_
      exact rg_566_21 x0 x1 x2 x0 h3 o l0 l1 l2 i0 i0 hs2
    · rw [if_neg c5] at hs2
      refine aw_ifeq_f (pc1 := 9) at_566_6 c5 rfl ?_
      refine aw_vload_n (pc1 := 10) at_566_9 l0 i0 rfl ?_
      refine aw_iload_n (pc1 := 11) at_566_10 l2 rfl ?_
      obtain ⟨z6, hs3⟩ := am_ift hs2
      clear hs2
      refine aw_call (F := fm_358 x0 x2 h3) (t := true) (na := 2) (kd := 1) (as := [x0, (.int x2)]) at_566_11 (am_k3v kb_358) mn_358 mk_358 rfl rfl (am_ok_v mi_358 (am_hl rfl (am_ccR i0 (am_ccI am_cats_0)) rfl) z6) (am_hc (am_ccR i0 am_cats_0) rfl) (fun _ => ⟨rfl, hh_566⟩) (fun o1 hz9 => rm_358 x0 x2 h3 o1 i0 hz9) ?_
      rcases am_cI_s hs3 with ⟨v7, h8, f9, hs4⟩ | hs4
      · clear hs3
        refine Or.inl ⟨_, _, f9, ?_⟩
        show am_W X _ 566 14 _ [(.int v7), x0] h8 _
        by_cases c10 : v7 = 0
        · rw [if_pos c10] at hs4
          refine aw_ifeq_t at_566_14 c10 ?_
          exact rg_566_21 x0 x1 x2 x0 h8 o l0 l1 l2 i0 i0 hs4
        · rw [if_neg c10] at hs4
          refine aw_ifeq_f (pc1 := 17) at_566_14 c10 rfl ?_
          refine aw_iconst (v := 0) (pc1 := 18) at_566_17 (by decide) rfl ?_
          refine aw_goto at_566_18 ?_
          exact rg_566_22 x0 x1 x2 x0 0 h8 o l0 l1 l2 i0 i0 hs4
      · clear hs3
        exact Or.inr hs4
  · clear hs1
    exact Or.inr hs2
def fm_566 (N : Nat) (y0 : Value) (y1 : Int32) (y2 : Int32) (h : am_H) : Option am_O := fg_566_0 N y0 y1 y2 h
theorem rm_566 {X : am_X} {d : Nat} {N : Nat} (y0 : Value) (y1 : Int32) (y2 : Int32) (h : am_H) (o : am_O) (i0 : am_isR y0 = true) (hs : fm_566 N y0 y1 y2 h = some o) : am_W X (d + 8) 566 0 (am_args 0 [y0, .int y1, .int y2]) [] h (fun q => q = o) := by
  rw [am_args_R i0, am_args_I, am_args_I]
  exact rg_566_0 y0 y1 y2 h o rfl rfl rfl i0 hs
def fg_300_13 (h : am_H) : Option am_O := some (.inr (0, h ++ [am_dummy]))
theorem rg_300_13 {X : am_X} {d : Nat} {lv : am_LV} (h : am_H) (o : am_O) (hs : fg_300_13 h = some o) : am_W X (d) 300 13 lv [] h (fun q => q = o) := by
  unfold fg_300_13 at hs
  cases hs
  exact aw_throw at_300_13 rfl th_300_13 (am_hc am_cats_0 rfl) rfl
def fg_300_0 (x0 : Value) (x1 : Int32) (h : am_H) : Option am_O := (if x1 < 0 then (fg_300_13 h) else ((am_vR (am_pG 2830 x0 h)).bind fun v2 => ((am_pLen v2 h).bind fun v4 => (if x1 < v4 then ((am_vR (am_pG 2830 x0 h)).bind fun v7 => ((am_pA 0 v7 x1 h).bind fun v9 => some (.inl (some (.int v9), h)))) else (fg_300_13 h)))))
theorem rg_300_0 {X : am_X} {d : Nat} {lv : am_LV} (x0 : Value) (x1 : Int32) (h : am_H) (o : am_O) (l0 : lv.lookup 0 = some x0) (l1 : lv.lookup 1 = some (.int x1)) (i0 : am_isR x0 = true) (hs : fg_300_0 x0 x1 h = some o) : am_W X (d) 300 0 lv [] h (fun q => q = o) := by
  unfold fg_300_0 at hs
  refine aw_iload_n (pc1 := 1) at_300_0 l1 rfl ?_
  by_cases c1 : x1 < 0
  · rw [if_pos c1] at hs
    refine aw_iflt_t at_300_1 c1 ?_
    exact rg_300_13 h o   hs
  · rw [if_neg c1] at hs
    refine aw_iflt_f (pc1 := 4) at_300_1 c1 rfl ?_
    refine aw_iload_n (pc1 := 5) at_300_4 l1 rfl ?_
    refine aw_vload_n (pc1 := 6) at_300_5 l0 i0 rfl ?_
    obtain ⟨v2, e3, hs1⟩ := am_bind hs
    clear hs
    refine aw_pG (pc1 := 9) at_300_6 (am_vR_s e3).1 rfl ?_
    obtain ⟨v4, e5, hs2⟩ := am_bind hs1
    clear hs1
    refine aw_pLen (pc1 := 10) at_300_9 e5 rfl ?_
    by_cases c6 : x1 < v4
    · rw [if_pos c6] at hs2
      refine aw_iclt_t at_300_10 c6 ?_
      refine aw_vload_n (pc1 := 24) at_300_23 l0 i0 rfl ?_
      obtain ⟨v7, e8, hs3⟩ := am_bind hs2
      clear hs2
      refine aw_pG (pc1 := 27) at_300_24 (am_vR_s e8).1 rfl ?_
      refine aw_iload_n (pc1 := 28) at_300_27 l1 rfl ?_
      obtain ⟨v9, e10, hs4⟩ := am_bind hs3
      clear hs3
      refine aw_pA (pc1 := 29) at_300_28 (Or.inl ⟨rfl, rfl⟩) e10 rfl ?_
      cases hs4
      exact aw_iret at_300_29 (by rw [rt_300]; rfl) rfl
    · rw [if_neg c6] at hs2
      refine aw_iclt_f (pc1 := 13) at_300_10 c6 rfl ?_
      exact rg_300_13 h o   hs2
def fm_300 (y0 : Value) (y1 : Int32) (h : am_H) : Option am_O := fg_300_0 y0 y1 h
theorem rm_300 {X : am_X} {d : Nat} (y0 : Value) (y1 : Int32) (h : am_H) (o : am_O) (i0 : am_isR y0 = true) (hs : fm_300 y0 y1 h = some o) : am_W X (d) 300 0 (am_args 0 [y0, .int y1]) [] h (fun q => q = o) := by
  rw [am_args_R i0, am_args_I]
  exact rg_300_0 y0 y1 h o rfl rfl i0 hs
def fg_299_13 (h : am_H) : Option am_O := some (.inl (some (.int 1), h))
theorem rg_299_13 {X : am_X} {d : Nat} {lv : am_LV} (h : am_H) (o : am_O) (hs : fg_299_13 h = some o) : am_W X (d + 1) 299 13 lv [] h (fun q => q = o) := by
  unfold fg_299_13 at hs
  refine aw_iconst (v := 1) (pc1 := 14) at_299_13 (by decide) rfl ?_
  cases hs
  exact aw_iret at_299_14 (by rw [rt_299]; rfl) rfl
def fg_299_0 (x0 : Value) (x1 : Int32) (x2 : Value) (h : am_H) : Option am_O := (if am_pOk 11 x0 h then (match fm_300 x0 x1 h with | some (.inl (some (.int v2), h3)) => ((am_pSL x2 0 (Int32.toInt64 v2) h3).bind fun h5 => some (.inl (some (.int 0), h5))) | some (.inr (0, h7)) => (fg_299_13 h7) | _ => none) else none)
theorem rg_299_0 {X : am_X} {d : Nat} {lv : am_LV} (x0 : Value) (x1 : Int32) (x2 : Value) (h : am_H) (o : am_O) (l0 : lv.lookup 0 = some x0) (l1 : lv.lookup 1 = some (.int x1)) (l2 : lv.lookup 2 = some x2) (i0 : am_isR x0 = true) (i2 : am_isR x2 = true) (hs : fg_299_0 x0 x1 x2 h = some o) : am_W X (d + 1) 299 0 lv [] h (fun q => q = o) := by
  unfold fg_299_0 at hs
  refine aw_vload_n (pc1 := 1) at_299_0 l2 i2 rfl ?_
  refine aw_iconst (v := 0) (pc1 := 2) at_299_1 (by decide) rfl ?_
  refine aw_vload_n (pc1 := 3) at_299_2 l0 i0 rfl ?_
  refine aw_iload_n (pc1 := 4) at_299_3 l1 rfl ?_
  obtain ⟨z1, hs1⟩ := am_ift hs
  clear hs
  refine aw_callH (F := fm_300 x0 x1 h) (na := 2) (kd := 1) (as := [x0, (.int x1)]) at_299_4 (am_k3v kb_300) mn_300 mk_300 rfl rfl (am_ok_v mi_300 (am_hl rfl (am_ccR i0 (am_ccI am_cats_0)) rfl) z1) (am_hc (am_ccI (am_ccR i2 am_cats_0)) rfl) (fun o1 hz9 => rm_300 x0 x1 h o1 i0 hz9) ?_
  split at hs1
  · rename_i v2 h3 f4
    refine Or.inl ⟨_, _, f4, ?_⟩
    show am_W X _ 299 7 _ [(.int v2), (.int 0), x2] h3 _
    refine aw_i2l (v := (Int32.toInt64 v2)) (pc1 := 8) at_299_7 rfl rfl ?_
    obtain ⟨h5, e6, hs2⟩ := am_bind hs1
    clear hs1
    refine aw_pSL (pc1 := 9) at_299_8 e6 rfl ?_
    refine aw_goto at_299_9 ?_
    refine aw_iconst (v := 0) (pc1 := 16) at_299_15 (by decide) rfl ?_
    cases hs2
    exact aw_iret at_299_16 (by rw [rt_299]; rfl) rfl
  · rename_i h7 f8
    refine Or.inr ⟨_, _, 13, 3, f8, rfl, hn_299, hd_299_4_0, ?_⟩
    exact rg_299_13 h7 o   hs1
  · cases hs1
def fm_299 (y0 : Value) (y1 : Int32) (y2 : Value) (h : am_H) : Option am_O := fg_299_0 y0 y1 y2 h
theorem rm_299 {X : am_X} {d : Nat} (y0 : Value) (y1 : Int32) (y2 : Value) (h : am_H) (o : am_O) (i0 : am_isR y0 = true) (i2 : am_isR y2 = true) (hs : fm_299 y0 y1 y2 h = some o) : am_W X (d + 1) 299 0 (am_args 0 [y0, .int y1, y2]) [] h (fun q => q = o) := by
  rw [am_args_R i0, am_args_I, am_args_R i2]
  exact rg_299_0 y0 y1 y2 h o rfl rfl rfl i0 i2 hs
def fg_576_38 (s0 : Int32) (h : am_H) : Option am_O := some (.inl (some (.int s0), h))
theorem rg_576_38 {X : am_X} {d : Nat} {lv : am_LV} (s0 : Int32) (h : am_H) (o : am_O) (hs : fg_576_38 s0 h = some o) : am_W X (d + 1) 576 38 lv [(.int s0)] h (fun q => q = o) := by
  unfold fg_576_38 at hs
  cases hs
  exact aw_iret at_576_38 (by rw [rt_576]; rfl) rfl
def fg_576_18 (x0 : Value) (x1 : Int32) (s0 : Value) (s1 : Int32) (h : am_H) : Option am_O := ((am_pP 3072 s0 (.int s1) h).bind fun h1 => ((am_vI (am_pG 3072 x0 h1)).bind fun v3 => (if v3 ≤ 0 then ((am_vR (am_pG 3195 x0 h1)).bind fun v6 => ((am_pA 0 v6 x1 h1).bind fun v8 => (fg_576_38 v8 h1))) else (fg_576_38 0 h1))))
theorem rg_576_18 {X : am_X} {d : Nat} {lv : am_LV} (x0 : Value) (x1 : Int32) (s0 : Value) (s1 : Int32) (h : am_H) (o : am_O) (l0 : lv.lookup 0 = some x0) (l1 : lv.lookup 1 = some (.int x1)) (i0 : am_isR x0 = true) (j0 : am_isR s0 = true) (hs : fg_576_18 x0 x1 s0 s1 h = some o) : am_W X (d + 1) 576 18 lv [(.int s1), s0] h (fun q => q = o) := by
  unfold fg_576_18 at hs
  obtain ⟨h1, e2, hs1⟩ := am_bind hs
  clear hs
  refine aw_pP (pc1 := 21) at_576_18 e2 rfl ?_
  refine aw_vload_n (pc1 := 22) at_576_21 l0 i0 rfl ?_
  obtain ⟨v3, e4, hs2⟩ := am_bind hs1
  clear hs1
  refine aw_pG (pc1 := 25) at_576_22 (am_vI_s e4) rfl ?_
  by_cases c5 : v3 ≤ 0
  · rw [if_pos c5] at hs2
    refine aw_ifle_t at_576_25 c5 ?_
    refine aw_vload_n (pc1 := 33) at_576_32 l0 i0 rfl ?_
    obtain ⟨v6, e7, hs3⟩ := am_bind hs2
    clear hs2
    refine aw_pG (pc1 := 36) at_576_33 (am_vR_s e7).1 rfl ?_
    refine aw_iload_n (pc1 := 37) at_576_36 l1 rfl ?_
    obtain ⟨v8, e9, hs4⟩ := am_bind hs3
    clear hs3
    refine aw_pA (pc1 := 38) at_576_37 (Or.inl ⟨rfl, rfl⟩) e9 rfl ?_
    exact rg_576_38 v8 h1 o   hs4
  · rw [if_neg c5] at hs2
    refine aw_ifle_f (pc1 := 28) at_576_25 c5 rfl ?_
    refine aw_iconst (v := 0) (pc1 := 29) at_576_28 (by decide) rfl ?_
    refine aw_goto at_576_29 ?_
    exact rg_576_38 0 h1 o   hs2
def fg_576_0 (x0 : Value) (x1 : Int32) (h : am_H) : Option am_O := am_cI false (fm_327 ((Int32.toInt64 x1)) 0 14 h) (fun v1 h2 => (if v1 = 0 then (fg_576_18 x0 x1 x0 1 h2) else (fg_576_18 x0 x1 x0 0 h2)))
theorem rg_576_0 {X : am_X} {d : Nat} {lv : am_LV} (x0 : Value) (x1 : Int32) (h : am_H) (o : am_O) (l0 : lv.lookup 0 = some x0) (l1 : lv.lookup 1 = some (.int x1)) (i0 : am_isR x0 = true) (hs : fg_576_0 x0 x1 h = some o) : am_W X (d + 1) 576 0 lv [] h (fun q => q = o) := by
  unfold fg_576_0 at hs
  refine aw_vload_n (pc1 := 1) at_576_0 l0 i0 rfl ?_
  refine aw_iload_n (pc1 := 2) at_576_1 l1 rfl ?_
  refine aw_i2l (v := (Int32.toInt64 x1)) (pc1 := 3) at_576_2 rfl rfl ?_
  refine aw_lconst (v := 0) (pc1 := 4) at_576_3 (by decide) rfl ?_
  refine aw_ldc2 (v := 14) (pc1 := 7) at_576_4 rfl rfl ?_
  refine aw_call (F := fm_327 ((Int32.toInt64 x1)) 0 14 h) (t := false) (na := 3) (kd := 0) (as := [(.long (Int32.toInt64 x1)), (.long 0), (.long 14)]) at_576_7 (am_k3s kb_327) mn_327 mk_327 rfl rfl (am_ok_s mi_327 (am_hl rfl (am_ccL (am_ccL (am_ccL am_cats_0))) rfl)) (am_hc (am_ccR i0 am_cats_0) rfl) (fun hz9 => by cases hz9) (fun o1 hz9 => rm_327 ((Int32.toInt64 x1)) 0 14 h o1  hz9) ?_
  rcases am_cI_s hs with ⟨v1, h2, f3, hs1⟩ | hs1
  · clear hs
    refine Or.inl ⟨_, _, f3, ?_⟩
    show am_W X _ 576 10 _ [(.int v1), x0] h2 _
    by_cases c4 : v1 = 0
    · rw [if_pos c4] at hs1
      refine aw_ifeq_t at_576_10 c4 ?_
      refine aw_iconst (v := 1) (pc1 := 18) at_576_17 (by decide) rfl ?_
      exact rg_576_18 x0 x1 x0 1 h2 o l0 l1 i0 i0 hs1
    · rw [if_neg c4] at hs1
      refine aw_ifeq_f (pc1 := 13) at_576_10 c4 rfl ?_
      refine aw_iconst (v := 0) (pc1 := 14) at_576_13 (by decide) rfl ?_
      refine aw_goto at_576_14 ?_
      exact rg_576_18 x0 x1 x0 0 h2 o l0 l1 i0 i0 hs1
  · clear hs
    exact Or.inr hs1
def fm_576 (y0 : Value) (y1 : Int32) (h : am_H) : Option am_O := fg_576_0 y0 y1 h
theorem rm_576 {X : am_X} {d : Nat} (y0 : Value) (y1 : Int32) (h : am_H) (o : am_O) (i0 : am_isR y0 = true) (hs : fm_576 y0 y1 h = some o) : am_W X (d + 1) 576 0 (am_args 0 [y0, .int y1]) [] h (fun q => q = o) := by
  rw [am_args_R i0, am_args_I]
  exact rg_576_0 y0 y1 h o rfl rfl i0 hs
def fg_303_86 (N : Nat) (rec_31 : Value → Int64 → Int32 → Int32 → am_H → Option am_O) (x0 : Value) (x2 : Int64) (x4 : Int32) (x5 : Int32) (h : am_H) : Option am_O := (rec_31 x0 x2 x4 ((x5 + 1)) h)
theorem rg_303_86 {X : am_X} {d : Nat} {N : Nat} {rec_31 : Value → Int64 → Int32 → Int32 → am_H → Option am_O} (q_31 : ∀ (x0 : Value) (x2 : Int64) (x4 : Int32) (x5 : Int32) (h : am_H) (o : am_O), rec_31 x0 x2 x4 x5 h = some o → ∀ lv : am_LV, (lv.lookup 0 = some x0) → (lv.lookup 2 = some (.long x2)) → (lv.lookup 4 = some (.int x4)) → (lv.lookup 5 = some (.int x5)) → (am_isR x0 = true) → am_W X (d + 84) 303 31 lv [] h (fun q => q = o)) {lv : am_LV} (x0 : Value) (x2 : Int64) (x4 : Int32) (x5 : Int32) (h : am_H) (o : am_O) (l0 : lv.lookup 0 = some x0) (l2 : lv.lookup 2 = some (.long x2)) (l4 : lv.lookup 4 = some (.int x4)) (l5 : lv.lookup 5 = some (.int x5)) (i0 : am_isR x0 = true) (hs : fg_303_86 N rec_31 x0 x2 x4 x5 h = some o) : am_W X (d + 84) 303 86 lv [] h (fun q => q = o) := by
  unfold fg_303_86 at hs
  refine aw_iinc (v := (x5 + 1)) (c := 1) (lv1 := am_put1 _ 5 _) (pc1 := 89) at_303_86 l5 (by decide) rfl rfl rfl ?_
  refine aw_goto at_303_89 ?_
  exact q_31 x0 x2 x4 ((x5 + 1)) h o hs _ (am_lk1 l0 rfl rfl) (am_lk1 l2 rfl rfl) (am_lk1 l4 rfl rfl) am_lk0 i0
def fg_303_31 (N : Nat) : Nat → Value → Int64 → Int32 → Int32 → am_H → Option am_O
  | 0 => fun _ _ _ _ _ => none
  | K + 1 => fun x0 x2 x4 x5 h => (if x4 ≤ x5 then some (.inl (some (.int 0), h)) else ((am_vR (am_pG 2823 x0 h)).bind fun v2 => (if am_pOk 0 v2 h then am_cI true (fm_163 N v2 x5 h) (fun v5 h6 => (if v5 = 0 then (fg_303_86 N (fg_303_31 N K) x0 x2 x4 x5 h6) else ((am_vR (am_pG 2819 x0 h6)).bind fun v9 => ((am_vR (am_pG 2823 x0 h6)).bind fun v11 => ((am_vR (am_pG 0 v11 h6)).bind fun v13 => (if am_pOk 2 v9 h6 then am_cL true (fm_140 N v9 v13 0 h6) (fun v16 h17 => (if 0 < (lg_cmp v16 x2) then (fg_303_86 N (fg_303_31 N K) x0 x2 x4 x5 h17) else ((am_vR (am_pG 2831 x0 h17)).bind fun v20 => ((am_vR (am_pG 2823 x0 h17)).bind fun v22 => ((am_vR (am_pG 0 v22 h17)).bind fun v24 => (if am_pOk 3 v20 h17 then am_cV true (fm_60 v20 v24 h17) (fun h28 => some (.inl (some (.int 1), h28))) else none)))))) else none)))))) else none)))
theorem rg_303_31 {X : am_X} {d : Nat} {N : Nat} : ∀ (K : Nat) (x0 : Value) (x2 : Int64) (x4 : Int32) (x5 : Int32) (h : am_H) (o : am_O), fg_303_31 N K x0 x2 x4 x5 h = some o → ∀ lv : am_LV, (lv.lookup 0 = some x0) → (lv.lookup 2 = some (.long x2)) → (lv.lookup 4 = some (.int x4)) → (lv.lookup 5 = some (.int x5)) → (am_isR x0 = true) → am_W X (d + 84) 303 31 lv [] h (fun q => q = o) := by
  intro K
  induction K with
  | zero => intro x0 x2 x4 x5 h o hs; cases hs
  | succ K ih =>
    intro x0 x2 x4 x5 h o hs lv l0 l2 l4 l5 i0
    unfold fg_303_31 at hs
    refine aw_iload (pc1 := 33) at_303_31 l5 rfl ?_
    refine aw_iload (pc1 := 35) at_303_33 l4 rfl ?_
    by_cases c1 : x4 ≤ x5
    · rw [if_pos c1] at hs
      refine aw_icge_t at_303_35 c1 ?_
      refine aw_iconst (v := 0) (pc1 := 93) at_303_92 (by decide) rfl ?_
      cases hs
      exact aw_iret at_303_93 (by rw [rt_303]; decide) rfl
    · rw [if_neg c1] at hs
      refine aw_icge_f (pc1 := 38) at_303_35 c1 rfl ?_
      refine aw_vload_n (pc1 := 39) at_303_38 l0 i0 rfl ?_
      obtain ⟨v2, e3, hs1⟩ := am_bind hs
      clear hs
      refine aw_pG (pc1 := 42) at_303_39 (am_vR_s e3).1 rfl ?_
      refine aw_iload (pc1 := 44) at_303_42 l5 rfl ?_
      obtain ⟨z4, hs2⟩ := am_ift hs1
      clear hs1
      refine aw_call (F := fm_163 N v2 x5 h) (t := true) (na := 2) (kd := 1) (as := [v2, (.int x5)]) at_303_44 (am_k3v kb_163) mn_163 mk_163 rfl rfl (am_ok_v mi_163 (am_hl rfl (am_ccR (am_vR_s e3).2 (am_ccI am_cats_0)) rfl) z4) (am_hc am_cats_0 rfl) (fun _ => ⟨rfl, hh_303⟩) (fun o1 hz9 => rm_163 v2 x5 h o1 (am_vR_s e3).2 hz9) ?_
      rcases am_cI_s hs2 with ⟨v5, h6, f7, hs3⟩ | hs3
      · clear hs2
        refine Or.inl ⟨_, _, f7, ?_⟩
        show am_W X _ 303 47 _ [(.int v5)] h6 _
        by_cases c8 : v5 = 0
        · rw [if_pos c8] at hs3
          refine aw_ifeq_t at_303_47 c8 ?_
          exact rg_303_86 (fun z0 z1 z2 z3 h o hs3 => ih z0 z1 z2 z3 h o hs3) x0 x2 x4 x5 h6 o l0 l2 l4 l5 i0 hs3
        · rw [if_neg c8] at hs3
          refine aw_ifeq_f (pc1 := 50) at_303_47 c8 rfl ?_
          refine aw_vload_n (pc1 := 51) at_303_50 l0 i0 rfl ?_
          obtain ⟨v9, e10, hs4⟩ := am_bind hs3
          clear hs3
          refine aw_pG (pc1 := 54) at_303_51 (am_vR_s e10).1 rfl ?_
          refine aw_vload_n (pc1 := 55) at_303_54 l0 i0 rfl ?_
          obtain ⟨v11, e12, hs5⟩ := am_bind hs4
          clear hs4
          refine aw_pG (pc1 := 58) at_303_55 (am_vR_s e12).1 rfl ?_
          obtain ⟨v13, e14, hs6⟩ := am_bind hs5
          clear hs5
          refine aw_pG (pc1 := 61) at_303_58 (am_vR_s e14).1 rfl ?_
          refine aw_iconst (v := 0) (pc1 := 62) at_303_61 (by decide) rfl ?_
          obtain ⟨z15, hs7⟩ := am_ift hs6
          clear hs6
          refine aw_call (F := fm_140 N v9 v13 0 h6) (t := true) (na := 3) (kd := 1) (as := [v9, v13, (.int 0)]) at_303_62 (am_k3v kb_140) mn_140 mk_140 rfl rfl (am_ok_v mi_140 (am_hl rfl (am_ccR (am_vR_s e10).2 (am_ccR (am_vR_s e14).2 (am_ccI am_cats_0))) rfl) z15) (am_hc am_cats_0 rfl) (fun _ => ⟨rfl, hh_303⟩) (fun o1 hz9 => rm_140 v9 v13 0 h6 o1 (am_vR_s e10).2 (am_vR_s e14).2 hz9) ?_
          rcases am_cL_s hs7 with ⟨v16, h17, f18, hs8⟩ | hs8
          · clear hs7
            refine Or.inl ⟨_, _, f18, ?_⟩
            show am_W X _ 303 65 _ [(.long v16)] h17 _
            refine aw_lload_n (pc1 := 66) at_303_65 l2 rfl ?_
            refine aw_lcmp (v := (lg_cmp v16 x2)) (pc1 := 67) at_303_66 rfl rfl ?_
            by_cases c19 : 0 < (lg_cmp v16 x2)
            · rw [if_pos c19] at hs8
              refine aw_ifgt_t at_303_67 c19 ?_
              exact rg_303_86 (fun z0 z1 z2 z3 h o hs8 => ih z0 z1 z2 z3 h o hs8) x0 x2 x4 x5 h17 o l0 l2 l4 l5 i0 hs8
            · rw [if_neg c19] at hs8
              refine aw_ifgt_f (pc1 := 70) at_303_67 c19 rfl ?_
              refine aw_vload_n (pc1 := 71) at_303_70 l0 i0 rfl ?_
              obtain ⟨v20, e21, hs9⟩ := am_bind hs8
              clear hs8
              refine aw_pG (pc1 := 74) at_303_71 (am_vR_s e21).1 rfl ?_
              refine aw_vload_n (pc1 := 75) at_303_74 l0 i0 rfl ?_
              obtain ⟨v22, e23, hs10⟩ := am_bind hs9
              clear hs9
              refine aw_pG (pc1 := 78) at_303_75 (am_vR_s e23).1 rfl ?_
              obtain ⟨v24, e25, hs11⟩ := am_bind hs10
              clear hs10
              refine aw_pG (pc1 := 81) at_303_78 (am_vR_s e25).1 rfl ?_
              obtain ⟨z26, hs12⟩ := am_ift hs11
              clear hs11
              refine aw_call (F := fm_60 v20 v24 h17) (t := true) (na := 2) (kd := 1) (as := [v20, v24]) at_303_81 (am_k3v kb_60) mn_60 mk_60 rfl rfl (am_ok_v mi_60 (am_hl rfl (am_ccR (am_vR_s e21).2 (am_ccR (am_vR_s e25).2 am_cats_0)) rfl) z26) (am_hc am_cats_0 rfl) (fun _ => ⟨rfl, hh_303⟩) (fun o1 hz9 => rm_60 v20 v24 h17 o1 (am_vR_s e21).2 (am_vR_s e25).2 hz9) ?_
              rcases am_cV_s hs12 with ⟨h28, f29, hs13⟩ | hs13
              · clear hs12
                refine Or.inl ⟨_, _, f29, ?_⟩
                show am_W X _ 303 84 _ [] h28 _
                refine aw_iconst (v := 1) (pc1 := 85) at_303_84 (by decide) rfl ?_
                cases hs13
                exact aw_iret at_303_85 (by rw [rt_303]; decide) rfl
              · clear hs12
                exact Or.inr hs13
          · clear hs7
            exact Or.inr hs8
      · clear hs2
        exact Or.inr hs3
def fg_303_0 (N : Nat) (x0 : Value) (x1 : Int32) (h : am_H) : Option am_O := ((am_vR (am_pG 2819 x0 h)).bind fun v1 => ((am_vR (am_pG 2831 x0 h)).bind fun v3 => (if am_pOk 2 v1 h then am_cL true (fm_140 N v1 v3 0 h) (fun v6 h7 => ((am_vR (am_pG 2823 x0 h7)).bind fun v9 => ((am_vR (am_pG 2831 x0 h7)).bind fun v11 => (if am_pOk 0 v9 h7 then am_cI true (fm_159 N v9 v11 Value.null x1 h7) (fun v14 h15 => (fg_303_31 N N x0 v6 v14 0 h15)) else none)))) else none)))
theorem rg_303_0 {X : am_X} {d : Nat} {N : Nat} {lv : am_LV} (x0 : Value) (x1 : Int32) (h : am_H) (o : am_O) (l0 : lv.lookup 0 = some x0) (l1 : lv.lookup 1 = some (.int x1)) (i0 : am_isR x0 = true) (hs : fg_303_0 N x0 x1 h = some o) : am_W X (d + 84) 303 0 lv [] h (fun q => q = o) := by
  unfold fg_303_0 at hs
  refine aw_vload_n (pc1 := 1) at_303_0 l0 i0 rfl ?_
  obtain ⟨v1, e2, hs1⟩ := am_bind hs
  clear hs
  refine aw_pG (pc1 := 4) at_303_1 (am_vR_s e2).1 rfl ?_
  refine aw_vload_n (pc1 := 5) at_303_4 l0 i0 rfl ?_
  obtain ⟨v3, e4, hs2⟩ := am_bind hs1
  clear hs1
  refine aw_pG (pc1 := 8) at_303_5 (am_vR_s e4).1 rfl ?_
  refine aw_iconst (v := 0) (pc1 := 9) at_303_8 (by decide) rfl ?_
  obtain ⟨z5, hs3⟩ := am_ift hs2
  clear hs2
  refine aw_call (F := fm_140 N v1 v3 0 h) (t := true) (na := 3) (kd := 1) (as := [v1, v3, (.int 0)]) at_303_9 (am_k3v kb_140) mn_140 mk_140 rfl rfl (am_ok_v mi_140 (am_hl rfl (am_ccR (am_vR_s e2).2 (am_ccR (am_vR_s e4).2 (am_ccI am_cats_0))) rfl) z5) (am_hc am_cats_0 rfl) (fun _ => ⟨rfl, hh_303⟩) (fun o1 hz9 => rm_140 v1 v3 0 h o1 (am_vR_s e2).2 (am_vR_s e4).2 hz9) ?_
  rcases am_cL_s hs3 with ⟨v6, h7, f8, hs4⟩ | hs4
  · clear hs3
    refine Or.inl ⟨_, _, f8, ?_⟩
    show am_W X _ 303 12 _ [(.long v6)] h7 _
    refine aw_lstore_n (lv1 := am_put2 _ 2 _) (pc1 := 13) at_303_12 rfl rfl ?_
    refine aw_vload_n (pc1 := 14) at_303_13 (am_lk2 l0 rfl rfl) i0 rfl ?_
    obtain ⟨v9, e10, hs5⟩ := am_bind hs4
    clear hs4
    refine aw_pG (pc1 := 17) at_303_14 (am_vR_s e10).1 rfl ?_
    refine aw_vload_n (pc1 := 18) at_303_17 (am_lk2 l0 rfl rfl) i0 rfl ?_
    obtain ⟨v11, e12, hs6⟩ := am_bind hs5
    clear hs5
    refine aw_pG (pc1 := 21) at_303_18 (am_vR_s e12).1 rfl ?_
    refine aw_null (pc1 := 22) at_303_21 rfl ?_
    refine aw_iload_n (pc1 := 23) at_303_22 (am_lk2 l1 rfl rfl) rfl ?_
    obtain ⟨z13, hs7⟩ := am_ift hs6
    clear hs6
    refine aw_call (F := fm_159 N v9 v11 Value.null x1 h7) (t := true) (na := 4) (kd := 1) (as := [v9, v11, Value.null, (.int x1)]) at_303_23 (am_k3v kb_159) mn_159 mk_159 rfl rfl (am_ok_v mi_159 (am_hl rfl (am_ccR (am_vR_s e10).2 (am_ccR (am_vR_s e12).2 (am_ccR rfl (am_ccI am_cats_0)))) rfl) z13) (am_hc am_cats_0 rfl) (fun _ => ⟨rfl, hh_303⟩) (fun o1 hz9 => rm_159 v9 v11 Value.null x1 h7 o1 (am_vR_s e10).2 (am_vR_s e12).2 rfl hz9) ?_
    rcases am_cI_s hs7 with ⟨v14, h15, f16, hs8⟩ | hs8
    · clear hs7
      refine Or.inl ⟨_, _, f16, ?_⟩
      show am_W X _ 303 26 _ [(.int v14)] h15 _
      refine aw_istore (lv1 := am_put1 _ 4 _) (pc1 := 28) at_303_26 rfl rfl ?_
      refine aw_iconst (v := 0) (pc1 := 29) at_303_28 (by decide) rfl ?_
      refine aw_istore (lv1 := am_put1 _ 5 _) (pc1 := 31) at_303_29 rfl rfl ?_
      exact rg_303_31 N x0 v6 v14 0 h15 o hs8 _ (am_lk1 (am_lk1 (am_lk2 l0 rfl rfl) rfl rfl) rfl rfl) (am_lk1 (am_lk1 am_lk02 rfl rfl) rfl rfl) (am_lk1 am_lk0 rfl rfl) am_lk0 i0
    · clear hs7
      exact Or.inr hs8
  · clear hs3
    exact Or.inr hs4
def fm_303 (N : Nat) (y0 : Value) (y1 : Int32) (h : am_H) : Option am_O := fg_303_0 N y0 y1 h
theorem rm_303 {X : am_X} {d : Nat} {N : Nat} (y0 : Value) (y1 : Int32) (h : am_H) (o : am_O) (i0 : am_isR y0 = true) (hs : fm_303 N y0 y1 h = some o) : am_W X (d + 84) 303 0 (am_args 0 [y0, .int y1]) [] h (fun q => q = o) := by
  rw [am_args_R i0, am_args_I]
  exact rg_303_0 y0 y1 h o rfl rfl i0 hs
def fg_302_76 (N : Nat) (x0 : Value) (x1 : Int32) (h : am_H) : Option am_O := ((am_vR (am_pG 2831 x0 h)).bind fun v1 => (if am_pOk 11 x0 h then am_cI true (fm_59 x0 v1 6 x1 ((-1)) ((-1)) ((-1)) 0 h) (fun v4 h5 => some (.inl (some (.int v4), h5))) else none))
theorem rg_302_76 {X : am_X} {d : Nat} {N : Nat} {lv : am_LV} (x0 : Value) (x1 : Int32) (h : am_H) (o : am_O) (l0 : lv.lookup 0 = some x0) (l1 : lv.lookup 1 = some (.int x1)) (i0 : am_isR x0 = true) (hs : fg_302_76 N x0 x1 h = some o) : am_W X (d + 85) 302 76 lv [] h (fun q => q = o) := by
  unfold fg_302_76 at hs
  refine aw_vload_n (pc1 := 77) at_302_76 l0 i0 rfl ?_
  refine aw_vload_n (pc1 := 78) at_302_77 l0 i0 rfl ?_
  obtain ⟨v1, e2, hs1⟩ := am_bind hs
  clear hs
  refine aw_pG (pc1 := 81) at_302_78 (am_vR_s e2).1 rfl ?_
  refine aw_bipush (v := 6) (pc1 := 83) at_302_81 (by decide) rfl ?_
  refine aw_iload_n (pc1 := 84) at_302_83 l1 rfl ?_
  refine aw_iconst (v := (-1)) (pc1 := 85) at_302_84 (by decide) rfl ?_
  refine aw_iconst (v := (-1)) (pc1 := 86) at_302_85 (by decide) rfl ?_
  refine aw_iconst (v := (-1)) (pc1 := 87) at_302_86 (by decide) rfl ?_
  refine aw_lconst (v := 0) (pc1 := 88) at_302_87 (by decide) rfl ?_
  obtain ⟨z3, hs2⟩ := am_ift hs1
  clear hs1
  refine aw_call (F := fm_59 x0 v1 6 x1 ((-1)) ((-1)) ((-1)) 0 h) (t := true) (na := 8) (kd := 1) (as := [x0, v1, (.int 6), (.int x1), (.int (-1)), (.int (-1)), (.int (-1)), (.long 0)]) at_302_88 (am_k3v kb_59) mn_59 mk_59 rfl rfl (am_ok_v mi_59 (am_hl rfl (am_ccR i0 (am_ccR (am_vR_s e2).2 (am_ccI (am_ccI (am_ccI (am_ccI (am_ccI (am_ccL am_cats_0)))))))) rfl) z3) (am_hc am_cats_0 rfl) (fun _ => ⟨rfl, hh_302⟩) (fun o1 hz9 => rm_59 x0 v1 6 x1 ((-1)) ((-1)) ((-1)) 0 h o1 i0 (am_vR_s e2).2 hz9) ?_
  rcases am_cI_s hs2 with ⟨v4, h5, f6, hs3⟩ | hs3
  · clear hs2
    refine Or.inl ⟨_, _, f6, ?_⟩
    show am_W X _ 302 91 _ [(.int v4)] h5 _
    cases hs3
    exact aw_iret at_302_91 (by rw [rt_302]; rfl) rfl
  · clear hs2
    exact Or.inr hs3
def fg_302_51 (N : Nat) : Nat → Value → Int32 → Int32 → Int32 → Int32 → am_H → Option am_O
  | 0 => fun _ _ _ _ _ _ => none
  | K + 1 => fun x0 x1 x3 x4 x5 h => (if x4 = 0 then (fg_302_76 N x0 x1 h) else (if 60 ≤ x5 then (fg_302_76 N x0 x1 h) else (if am_pOk 11 x0 h then am_cI true (fm_303 N x0 x3 h) (fun v4 h5 => (fg_302_51 N K x0 x1 x3 v4 ((x5 + 1)) h5)) else none)))
theorem rg_302_51 {X : am_X} {d : Nat} {N : Nat} : ∀ (K : Nat) (x0 : Value) (x1 : Int32) (x3 : Int32) (x4 : Int32) (x5 : Int32) (h : am_H) (o : am_O), fg_302_51 N K x0 x1 x3 x4 x5 h = some o → ∀ lv : am_LV, (lv.lookup 0 = some x0) → (lv.lookup 1 = some (.int x1)) → (lv.lookup 3 = some (.int x3)) → (lv.lookup 4 = some (.int x4)) → (lv.lookup 5 = some (.int x5)) → (am_isR x0 = true) → am_W X (d + 85) 302 51 lv [] h (fun q => q = o) := by
  intro K
  induction K with
  | zero => intro x0 x1 x3 x4 x5 h o hs; cases hs
  | succ K ih =>
    intro x0 x1 x3 x4 x5 h o hs lv l0 l1 l3 l4 l5 i0
    unfold fg_302_51 at hs
    refine aw_iload (pc1 := 53) at_302_51 l4 rfl ?_
    by_cases c1 : x4 = 0
    · rw [if_pos c1] at hs
      refine aw_ifeq_t at_302_53 c1 ?_
      exact rg_302_76 x0 x1 h o l0 l1 i0 hs
    · rw [if_neg c1] at hs
      refine aw_ifeq_f (pc1 := 56) at_302_53 c1 rfl ?_
      refine aw_iload (pc1 := 58) at_302_56 l5 rfl ?_
      refine aw_bipush (v := 60) (pc1 := 60) at_302_58 (by decide) rfl ?_
      by_cases c2 : 60 ≤ x5
      · rw [if_pos c2] at hs
        refine aw_icge_t at_302_60 c2 ?_
        exact rg_302_76 x0 x1 h o l0 l1 i0 hs
      · rw [if_neg c2] at hs
        refine aw_icge_f (pc1 := 63) at_302_60 c2 rfl ?_
        refine aw_vload_n (pc1 := 64) at_302_63 l0 i0 rfl ?_
        refine aw_iload_n (pc1 := 65) at_302_64 l3 rfl ?_
        obtain ⟨z3, hs1⟩ := am_ift hs
        clear hs
        refine aw_call (F := fm_303 N x0 x3 h) (t := true) (na := 2) (kd := 1) (as := [x0, (.int x3)]) at_302_65 (am_k3v kb_303) mn_303 mk_303 rfl rfl (am_ok_v mi_303 (am_hl rfl (am_ccR i0 (am_ccI am_cats_0)) rfl) z3) (am_hc am_cats_0 rfl) (fun _ => ⟨rfl, hh_302⟩) (fun o1 hz9 => rm_303 x0 x3 h o1 i0 hz9) ?_
        rcases am_cI_s hs1 with ⟨v4, h5, f6, hs2⟩ | hs2
        · clear hs1
          refine Or.inl ⟨_, _, f6, ?_⟩
          show am_W X _ 302 68 _ [(.int v4)] h5 _
          refine aw_istore (lv1 := am_put1 _ 4 _) (pc1 := 70) at_302_68 rfl rfl ?_
          refine aw_iinc (v := (x5 + 1)) (c := 1) (lv1 := am_put1 _ 5 _) (pc1 := 73) at_302_70 (am_lk1 l5 rfl rfl) (by decide) rfl rfl rfl ?_
          refine aw_goto at_302_73 ?_
          exact ih x0 x1 x3 v4 ((x5 + 1)) h5 o hs2 _ (am_lk1 (am_lk1 l0 rfl rfl) rfl rfl) (am_lk1 (am_lk1 l1 rfl rfl) rfl rfl) (am_lk1 (am_lk1 l3 rfl rfl) rfl rfl) (am_lk1 am_lk0 rfl rfl) am_lk0 i0
        · clear hs1
          exact Or.inr hs2
def fg_302_36 (N : Nat) (x0 : Value) (x1 : Int32) (x2 : Value) (s0 : Int32) (h : am_H) : Option am_O := ((am_vR (am_pG 2831 x0 h)).bind fun v1 => (if am_pOk 3 v1 h then am_cV true (fm_60 v1 x2 h) (fun h5 => (fg_302_51 N N x0 x1 s0 1 0 h5)) else none))
theorem rg_302_36 {X : am_X} {d : Nat} {N : Nat} {lv : am_LV} (x0 : Value) (x1 : Int32) (x2 : Value) (s0 : Int32) (h : am_H) (o : am_O) (l0 : lv.lookup 0 = some x0) (l1 : lv.lookup 1 = some (.int x1)) (l2 : lv.lookup 2 = some x2) (i0 : am_isR x0 = true) (i2 : am_isR x2 = true) (hs : fg_302_36 N x0 x1 x2 s0 h = some o) : am_W X (d + 85) 302 36 lv [(.int s0)] h (fun q => q = o) := by
  unfold fg_302_36 at hs
  refine aw_istore_n (lv1 := am_put1 _ 3 _) (pc1 := 37) at_302_36 rfl rfl ?_
  refine aw_vload_n (pc1 := 38) at_302_37 (am_lk1 l0 rfl rfl) i0 rfl ?_
  obtain ⟨v1, e2, hs1⟩ := am_bind hs
  clear hs
  refine aw_pG (pc1 := 41) at_302_38 (am_vR_s e2).1 rfl ?_
  refine aw_vload_n (pc1 := 42) at_302_41 (am_lk1 l2 rfl (by rw [am_isRc i2]; rfl)) i2 rfl ?_
  obtain ⟨z3, hs2⟩ := am_ift hs1
  clear hs1
  refine aw_call (F := fm_60 v1 x2 h) (t := true) (na := 2) (kd := 1) (as := [v1, x2]) at_302_42 (am_k3v kb_60) mn_60 mk_60 rfl rfl (am_ok_v mi_60 (am_hl rfl (am_ccR (am_vR_s e2).2 (am_ccR i2 am_cats_0)) rfl) z3) (am_hc am_cats_0 rfl) (fun _ => ⟨rfl, hh_302⟩) (fun o1 hz9 => rm_60 v1 x2 h o1 (am_vR_s e2).2 i2 hz9) ?_
  rcases am_cV_s hs2 with ⟨h5, f6, hs3⟩ | hs3
  · clear hs2
    refine Or.inl ⟨_, _, f6, ?_⟩
    show am_W X _ 302 45 _ [] h5 _
    refine aw_iconst (v := 1) (pc1 := 46) at_302_45 (by decide) rfl ?_
    refine aw_istore (lv1 := am_put1 _ 4 _) (pc1 := 48) at_302_46 rfl rfl ?_
    refine aw_iconst (v := 0) (pc1 := 49) at_302_48 (by decide) rfl ?_
    refine aw_istore (lv1 := am_put1 _ 5 _) (pc1 := 51) at_302_49 rfl rfl ?_
    exact rg_302_51 N x0 x1 s0 1 0 h5 o hs3 _ (am_lk1 (am_lk1 (am_lk1 l0 rfl rfl) rfl rfl) rfl rfl) (am_lk1 (am_lk1 (am_lk1 l1 rfl rfl) rfl rfl) rfl rfl) (am_lk1 (am_lk1 am_lk0 rfl rfl) rfl rfl) (am_lk1 am_lk0 rfl rfl) am_lk0 i0
  · clear hs2
    exact Or.inr hs3
def fg_302_0 (N : Nat) (x0 : Value) (x1 : Int32) (h : am_H) : Option am_O := (if am_pOk 11 x0 h then am_cR true (fm_63 x0 x1 h) (fun v2 h3 => (if am_pOk 11 x0 h3 then am_cV true (fm_32 x0 1 h3) (fun h7 => ((am_vI (am_pG 769 v2 h7)).bind fun v9 => (if ¬ v9 = 1 then ((am_vI (am_pG 769 v2 h7)).bind fun v12 => (if ¬ v12 = 3 then (fg_302_36 N x0 x1 v2 3 h7) else (fg_302_36 N x0 x1 v2 1 h7))) else (fg_302_36 N x0 x1 v2 2 h7)))) else none)) else none)
theorem rg_302_0 {X : am_X} {d : Nat} {N : Nat} {lv : am_LV} (x0 : Value) (x1 : Int32) (h : am_H) (o : am_O) (l0 : lv.lookup 0 = some x0) (l1 : lv.lookup 1 = some (.int x1)) (i0 : am_isR x0 = true) (hs : fg_302_0 N x0 x1 h = some o) : am_W X (d + 85) 302 0 lv [] h (fun q => q = o) := by
  unfold fg_302_0 at hs
  refine aw_vload_n (pc1 := 1) at_302_0 l0 i0 rfl ?_
  refine aw_iload_n (pc1 := 2) at_302_1 l1 rfl ?_
  obtain ⟨z1, hs1⟩ := am_ift hs
  clear hs
  refine aw_call (F := fm_63 x0 x1 h) (t := true) (na := 2) (kd := 1) (as := [x0, (.int x1)]) at_302_2 (am_k3v kb_63) mn_63 mk_63 rfl rfl (am_ok_v mi_63 (am_hl rfl (am_ccR i0 (am_ccI am_cats_0)) rfl) z1) (am_hc am_cats_0 rfl) (fun _ => ⟨rfl, hh_302⟩) (fun o1 hz9 => rm_63 x0 x1 h o1 i0 hz9) ?_
  rcases am_cR_s hs1 with ⟨v2, h3, f4, iv2, hs2⟩ | hs2
  · clear hs1
    refine Or.inl ⟨_, _, f4, ?_⟩
    show am_W X _ 302 5 _ [v2] h3 _
    refine aw_vstore_n (lv1 := am_put1 _ 2 _) (pc1 := 6) at_302_5 iv2 rfl rfl ?_
    refine aw_vload_n (pc1 := 7) at_302_6 (am_lk1 l0 rfl rfl) i0 rfl ?_
    refine aw_iconst (v := 1) (pc1 := 8) at_302_7 (by decide) rfl ?_
    obtain ⟨z5, hs3⟩ := am_ift hs2
    clear hs2
    refine aw_call (F := fm_32 x0 1 h3) (t := true) (na := 2) (kd := 1) (as := [x0, (.int 1)]) at_302_8 (am_k3v kb_32) mn_32 mk_32 rfl rfl (am_ok_v mi_32 (am_hl rfl (am_ccR i0 (am_ccI am_cats_0)) rfl) z5) (am_hc am_cats_0 rfl) (fun _ => ⟨rfl, hh_302⟩) (fun o1 hz9 => rm_32 x0 1 h3 o1 i0 hz9) ?_
    rcases am_cV_s hs3 with ⟨h7, f8, hs4⟩ | hs4
    · clear hs3
      refine Or.inl ⟨_, _, f8, ?_⟩
      show am_W X _ 302 11 _ [] h7 _
      refine aw_vload_n (pc1 := 12) at_302_11 am_lk0 iv2 rfl ?_
      obtain ⟨v9, e10, hs5⟩ := am_bind hs4
      clear hs4
      refine aw_pG (pc1 := 15) at_302_12 (am_vI_s e10) rfl ?_
      refine aw_iconst (v := 1) (pc1 := 16) at_302_15 (by decide) rfl ?_
      by_cases c11 : ¬ v9 = 1
      · rw [if_pos c11] at hs5
        refine aw_icne_t at_302_16 c11 ?_
        refine aw_vload_n (pc1 := 24) at_302_23 am_lk0 iv2 rfl ?_
        obtain ⟨v12, e13, hs6⟩ := am_bind hs5
        clear hs5
        refine aw_pG (pc1 := 27) at_302_24 (am_vI_s e13) rfl ?_
        refine aw_iconst (v := 3) (pc1 := 28) at_302_27 (by decide) rfl ?_
        by_cases c14 : ¬ v12 = 3
        · rw [if_pos c14] at hs6
          refine aw_icne_t at_302_28 c14 ?_
          refine aw_iconst (v := 3) (pc1 := 36) at_302_35 (by decide) rfl ?_
          exact rg_302_36 x0 x1 v2 3 h7 o (am_lk1 l0 rfl rfl) (am_lk1 l1 rfl rfl) am_lk0 i0 iv2 hs6
        · rw [if_neg c14] at hs6
          refine aw_icne_f (pc1 := 31) at_302_28 c14 rfl ?_
          refine aw_iconst (v := 1) (pc1 := 32) at_302_31 (by decide) rfl ?_
          refine aw_goto at_302_32 ?_
          exact rg_302_36 x0 x1 v2 1 h7 o (am_lk1 l0 rfl rfl) (am_lk1 l1 rfl rfl) am_lk0 i0 iv2 hs6
      · rw [if_neg c11] at hs5
        refine aw_icne_f (pc1 := 19) at_302_16 c11 rfl ?_
        refine aw_iconst (v := 2) (pc1 := 20) at_302_19 (by decide) rfl ?_
        refine aw_goto at_302_20 ?_
        exact rg_302_36 x0 x1 v2 2 h7 o (am_lk1 l0 rfl rfl) (am_lk1 l1 rfl rfl) am_lk0 i0 iv2 hs5
    · clear hs3
      exact Or.inr hs4
  · clear hs1
    exact Or.inr hs2
def fm_302 (N : Nat) (y0 : Value) (y1 : Int32) (h : am_H) : Option am_O := fg_302_0 N y0 y1 h
theorem rm_302 {X : am_X} {d : Nat} {N : Nat} (y0 : Value) (y1 : Int32) (h : am_H) (o : am_O) (i0 : am_isR y0 = true) (hs : fm_302 N y0 y1 h = some o) : am_W X (d + 85) 302 0 (am_args 0 [y0, .int y1]) [] h (fun q => q = o) := by
  rw [am_args_R i0, am_args_I]
  exact rg_302_0 y0 y1 h o rfl rfl i0 hs
def fg_301_16 (N : Nat) (h : am_H) : Option am_O := some (.inl (some (.int 2), h))
theorem rg_301_16 {X : am_X} {d : Nat} {N : Nat} {lv : am_LV} (h : am_H) (o : am_O) (hs : fg_301_16 N h = some o) : am_W X (d + 86) 301 16 lv [] h (fun q => q = o) := by
  unfold fg_301_16 at hs
  refine aw_iconst (v := 2) (pc1 := 17) at_301_16 (by decide) rfl ?_
  cases hs
  exact aw_iret at_301_17 (by rw [rt_301]; rfl) rfl
def fg_301_13 (N : Nat) (h : am_H) : Option am_O := some (.inl (some (.int 1), h))
theorem rg_301_13 {X : am_X} {d : Nat} {N : Nat} {lv : am_LV} (h : am_H) (o : am_O) (hs : fg_301_13 N h = some o) : am_W X (d + 86) 301 13 lv [] h (fun q => q = o) := by
  unfold fg_301_13 at hs
  refine aw_iconst (v := 1) (pc1 := 14) at_301_13 (by decide) rfl ?_
  cases hs
  exact aw_iret at_301_14 (by rw [rt_301]; rfl) rfl
def fg_301_0 (N : Nat) (x0 : Value) (x1 : Int32) (x2 : Value) (h : am_H) : Option am_O := (if am_pOk 11 x0 h then (match fm_302 N x0 x1 h with | some (.inl (some (.int v2), h3)) => ((am_pSL x2 0 (Int32.toInt64 v2) h3).bind fun h5 => some (.inl (some (.int 0), h5))) | some (.inr (1, h7)) => (fg_301_16 N h7) | some (.inr (2, h9)) => (fg_301_13 N h9) | _ => none) else none)
theorem rg_301_0 {X : am_X} {d : Nat} {N : Nat} {lv : am_LV} (x0 : Value) (x1 : Int32) (x2 : Value) (h : am_H) (o : am_O) (l0 : lv.lookup 0 = some x0) (l1 : lv.lookup 1 = some (.int x1)) (l2 : lv.lookup 2 = some x2) (i0 : am_isR x0 = true) (i2 : am_isR x2 = true) (hs : fg_301_0 N x0 x1 x2 h = some o) : am_W X (d + 86) 301 0 lv [] h (fun q => q = o) := by
  unfold fg_301_0 at hs
  refine aw_vload_n (pc1 := 1) at_301_0 l2 i2 rfl ?_
  refine aw_iconst (v := 0) (pc1 := 2) at_301_1 (by decide) rfl ?_
  refine aw_vload_n (pc1 := 3) at_301_2 l0 i0 rfl ?_
  refine aw_iload_n (pc1 := 4) at_301_3 l1 rfl ?_
  obtain ⟨z1, hs1⟩ := am_ift hs
  clear hs
  refine aw_callH (F := fm_302 N x0 x1 h) (na := 2) (kd := 1) (as := [x0, (.int x1)]) at_301_4 (am_k3v kb_302) mn_302 mk_302 rfl rfl (am_ok_v mi_302 (am_hl rfl (am_ccR i0 (am_ccI am_cats_0)) rfl) z1) (am_hc (am_ccI (am_ccR i2 am_cats_0)) rfl) (fun o1 hz9 => rm_302 x0 x1 h o1 i0 hz9) ?_
  split at hs1
  · rename_i v2 h3 f4
    refine Or.inl ⟨_, _, f4, ?_⟩
    show am_W X _ 301 7 _ [(.int v2), (.int 0), x2] h3 _
    refine aw_i2l (v := (Int32.toInt64 v2)) (pc1 := 8) at_301_7 rfl rfl ?_
    obtain ⟨h5, e6, hs2⟩ := am_bind hs1
    clear hs1
    refine aw_pSL (pc1 := 9) at_301_8 e6 rfl ?_
    refine aw_goto at_301_9 ?_
    refine aw_iconst (v := 0) (pc1 := 19) at_301_18 (by decide) rfl ?_
    cases hs2
    exact aw_iret at_301_19 (by rw [rt_301]; rfl) rfl
  · rename_i h7 f8
    refine Or.inr ⟨_, _, 16, 3, f8, rfl, hn_301, hd_301_4_1, ?_⟩
    exact rg_301_16 h7 o   hs1
  · rename_i h9 f10
    refine Or.inr ⟨_, _, 13, 3, f10, rfl, hn_301, hd_301_4_2, ?_⟩
    exact rg_301_13 h9 o   hs1
  · cases hs1
def fm_301 (N : Nat) (y0 : Value) (y1 : Int32) (y2 : Value) (h : am_H) : Option am_O := fg_301_0 N y0 y1 y2 h
theorem rm_301 {X : am_X} {d : Nat} {N : Nat} (y0 : Value) (y1 : Int32) (y2 : Value) (h : am_H) (o : am_O) (i0 : am_isR y0 = true) (i2 : am_isR y2 = true) (hs : fm_301 N y0 y1 y2 h = some o) : am_W X (d + 86) 301 0 (am_args 0 [y0, .int y1, y2]) [] h (fun q => q = o) := by
  rw [am_args_R i0, am_args_I, am_args_R i2]
  exact rg_301_0 y0 y1 y2 h o rfl rfl rfl i0 i2 hs
def fg_579_19 (s0 : Int32) (h : am_H) : Option am_O := some (.inl (some (.int s0), h))
theorem rg_579_19 {X : am_X} {d : Nat} {lv : am_LV} (s0 : Int32) (h : am_H) (o : am_O) (hs : fg_579_19 s0 h = some o) : am_W X (d) 579 19 lv [(.int s0)] h (fun q => q = o) := by
  unfold fg_579_19 at hs
  cases hs
  exact aw_iret at_579_19 (by rw [rt_579]; rfl) rfl
def fg_579_0 (x0 : Int32) (h : am_H) : Option am_O := (if ¬ x0 = 1 then (if ¬ x0 = 3 then (fg_579_19 3 h) else (fg_579_19 1 h)) else (fg_579_19 2 h))
theorem rg_579_0 {X : am_X} {d : Nat} {lv : am_LV} (x0 : Int32) (h : am_H) (o : am_O) (l0 : lv.lookup 0 = some (.int x0)) (hs : fg_579_0 x0 h = some o) : am_W X (d) 579 0 lv [] h (fun q => q = o) := by
  unfold fg_579_0 at hs
  refine aw_iload_n (pc1 := 1) at_579_0 l0 rfl ?_
  refine aw_iconst (v := 1) (pc1 := 2) at_579_1 (by decide) rfl ?_
  by_cases c1 : ¬ x0 = 1
  · rw [if_pos c1] at hs
    refine aw_icne_t at_579_2 c1 ?_
    refine aw_iload_n (pc1 := 10) at_579_9 l0 rfl ?_
    refine aw_iconst (v := 3) (pc1 := 11) at_579_10 (by decide) rfl ?_
    by_cases c2 : ¬ x0 = 3
    · rw [if_pos c2] at hs
      refine aw_icne_t at_579_11 c2 ?_
      refine aw_iconst (v := 3) (pc1 := 19) at_579_18 (by decide) rfl ?_
      exact rg_579_19 3 h o   hs
    · rw [if_neg c2] at hs
      refine aw_icne_f (pc1 := 14) at_579_11 c2 rfl ?_
      refine aw_iconst (v := 1) (pc1 := 15) at_579_14 (by decide) rfl ?_
      refine aw_goto at_579_15 ?_
      exact rg_579_19 1 h o   hs
  · rw [if_neg c1] at hs
    refine aw_icne_f (pc1 := 5) at_579_2 c1 rfl ?_
    refine aw_iconst (v := 2) (pc1 := 6) at_579_5 (by decide) rfl ?_
    refine aw_goto at_579_6 ?_
    exact rg_579_19 2 h o   hs
def fm_579 (y0 : Int32) (h : am_H) : Option am_O := fg_579_0 y0 h
theorem rm_579 {X : am_X} {d : Nat} (y0 : Int32) (h : am_H) (o : am_O) (hs : fm_579 y0 h = some o) : am_W X (d) 579 0 (am_args 0 [.int y0]) [] h (fun q => q = o) := by
  rw [am_args_I]
  exact rg_579_0 y0 h o rfl  hs
def fg_580_26 (N : Nat) (s0 : Int32) (h : am_H) : Option am_O := (if am_rfit (some FieldType.boolean) s0 then some (.inl (some (.int s0), h)) else none)
theorem rg_580_26 {X : am_X} {d : Nat} {N : Nat} {lv : am_LV} (s0 : Int32) (h : am_H) (o : am_O) (hs : fg_580_26 N s0 h = some o) : am_W X (d + 8) 580 26 lv [(.int s0)] h (fun q => q = o) := by
  unfold fg_580_26 at hs
  obtain ⟨z1, hs1⟩ := am_ift hs
  clear hs
  cases hs1
  exact aw_iret at_580_26 (by rw [rt_580]; exact z1) rfl
def fg_580_0 (N : Nat) (x0 : Value) (x1 : Int64) (x3 : Int64) (h : am_H) : Option am_O := (if am_pOk 12 x0 h then am_cV true (fm_428 N x0 0 h) (fun h3 => ((am_vL (am_pG 3163 x0 h3)).bind fun v5 => ((am_vL (am_pG 3164 x0 h3)).bind fun v7 => (if 0 < (lg_cmp (v5 * x3) (x1 * v7)) then (fg_580_26 N 0 h3) else (fg_580_26 N 1 h3))))) else none)
theorem rg_580_0 {X : am_X} {d : Nat} {N : Nat} {lv : am_LV} (x0 : Value) (x1 : Int64) (x3 : Int64) (h : am_H) (o : am_O) (l0 : lv.lookup 0 = some x0) (l1 : lv.lookup 1 = some (.long x1)) (l3 : lv.lookup 3 = some (.long x3)) (i0 : am_isR x0 = true) (hs : fg_580_0 N x0 x1 x3 h = some o) : am_W X (d + 8) 580 0 lv [] h (fun q => q = o) := by
  unfold fg_580_0 at hs
  refine aw_vload_n (pc1 := 1) at_580_0 l0 i0 rfl ?_
  refine aw_iconst (v := 0) (pc1 := 2) at_580_1 (by decide) rfl ?_
  obtain ⟨z1, hs1⟩ := am_ift hs
  clear hs
  refine aw_call (F := fm_428 N x0 0 h) (t := true) (na := 2) (kd := 1) (as := [x0, (.int 0)]) at_580_2 (am_k3v kb_428) mn_428 mk_428 rfl rfl (am_ok_v mi_428 (am_hl rfl (am_ccR i0 (am_ccI am_cats_0)) rfl) z1) (am_hc am_cats_0 rfl) (fun _ => ⟨rfl, hh_580⟩) (fun o1 hz9 => rm_428 x0 0 h o1 i0 hz9) ?_
  rcases am_cV_s hs1 with ⟨h3, f4, hs2⟩ | hs2
  · clear hs1
    refine Or.inl ⟨_, _, f4, ?_⟩
    show am_W X _ 580 5 _ [] h3 _
    refine aw_vload_n (pc1 := 6) at_580_5 l0 i0 rfl ?_
    obtain ⟨v5, e6, hs3⟩ := am_bind hs2
    clear hs2
    refine aw_pG (pc1 := 9) at_580_6 (am_vL_s e6) rfl ?_
    refine aw_lload_n (pc1 := 10) at_580_9 l3 rfl ?_
    refine aw_lmul (v := (v5 * x3)) (pc1 := 11) at_580_10 rfl rfl ?_
    refine aw_lload_n (pc1 := 12) at_580_11 l1 rfl ?_
    refine aw_vload_n (pc1 := 13) at_580_12 l0 i0 rfl ?_
    obtain ⟨v7, e8, hs4⟩ := am_bind hs3
    clear hs3
    refine aw_pG (pc1 := 16) at_580_13 (am_vL_s e8) rfl ?_
    refine aw_lmul (v := (x1 * v7)) (pc1 := 17) at_580_16 rfl rfl ?_
    refine aw_lcmp (v := (lg_cmp (v5 * x3) (x1 * v7))) (pc1 := 18) at_580_17 rfl rfl ?_
    by_cases c9 : 0 < (lg_cmp (v5 * x3) (x1 * v7))
    · rw [if_pos c9] at hs4
      refine aw_ifgt_t at_580_18 c9 ?_
      refine aw_iconst (v := 0) (pc1 := 26) at_580_25 (by decide) rfl ?_
      exact rg_580_26 0 h3 o   hs4
    · rw [if_neg c9] at hs4
      refine aw_ifgt_f (pc1 := 21) at_580_18 c9 rfl ?_
      refine aw_iconst (v := 1) (pc1 := 22) at_580_21 (by decide) rfl ?_
      refine aw_goto at_580_22 ?_
      exact rg_580_26 1 h3 o   hs4
  · clear hs1
    exact Or.inr hs2
def fm_580 (N : Nat) (y0 : Value) (y1 : Int64) (y2 : Int64) (h : am_H) : Option am_O := fg_580_0 N y0 y1 y2 h
theorem rm_580 {X : am_X} {d : Nat} {N : Nat} (y0 : Value) (y1 : Int64) (y2 : Int64) (h : am_H) (o : am_O) (i0 : am_isR y0 = true) (hs : fm_580 N y0 y1 y2 h = some o) : am_W X (d + 8) 580 0 (am_args 0 [y0, .long y1, .long y2]) [] h (fun q => q = o) := by
  rw [am_args_R i0, am_args_L, am_args_L]
  exact rg_580_0 y0 y1 y2 h o rfl rfl rfl i0 hs
def fg_578_17 (N : Nat) : Nat → Value → Int64 → Int64 → Int32 → Int32 → am_H → Option am_O
  | 0 => fun _ _ _ _ _ _ => none
  | K + 1 => fun x0 x1 x3 x5 x6 h => (if x5 ≤ x6 then some (.inl (some (.int 0), h)) else ((am_vI (am_pG 3092 x0 h)).bind fun v2 => am_cI false (fm_579 v2 h) (fun v4 h5 => (if am_pOk 12 x0 h5 then am_cI true (fm_439 N x0 v4 x6 h5) (fun v8 h9 => (if am_pOk 12 x0 h9 then am_cI true (fm_580 N x0 x1 x3 h9) (fun v12 h13 => (if v12 = 0 then (fg_578_17 N K x0 x1 x3 x5 ((x6 + 1)) h13) else (if am_pOk 12 x0 h13 then am_cV true (fm_495 N x0 h13) (fun h18 => some (.inl (some (.int 1), h18))) else none))) else none)) else none))))
theorem rg_578_17 {X : am_X} {d : Nat} {N : Nat} : ∀ (K : Nat) (x0 : Value) (x1 : Int64) (x3 : Int64) (x5 : Int32) (x6 : Int32) (h : am_H) (o : am_O), fg_578_17 N K x0 x1 x3 x5 x6 h = some o → ∀ lv : am_LV, (lv.lookup 0 = some x0) → (lv.lookup 1 = some (.long x1)) → (lv.lookup 3 = some (.long x3)) → (lv.lookup 5 = some (.int x5)) → (lv.lookup 6 = some (.int x6)) → (am_isR x0 = true) → am_W X (d + 9) 578 17 lv [] h (fun q => q = o) := by
  intro K
  induction K with
  | zero => intro x0 x1 x3 x5 x6 h o hs; cases hs
  | succ K ih =>
    intro x0 x1 x3 x5 x6 h o hs lv l0 l1 l3 l5 l6 i0
    unfold fg_578_17 at hs
    refine aw_iload (pc1 := 19) at_578_17 l6 rfl ?_
    refine aw_iload (pc1 := 21) at_578_19 l5 rfl ?_
    by_cases c1 : x5 ≤ x6
    · rw [if_pos c1] at hs
      refine aw_icge_t at_578_21 c1 ?_
      refine aw_iconst (v := 0) (pc1 := 60) at_578_59 (by decide) rfl ?_
      cases hs
      exact aw_iret at_578_60 (by rw [rt_578]; decide) rfl
    · rw [if_neg c1] at hs
      refine aw_icge_f (pc1 := 24) at_578_21 c1 rfl ?_
      refine aw_vload_n (pc1 := 25) at_578_24 l0 i0 rfl ?_
      refine aw_vload_n (pc1 := 26) at_578_25 l0 i0 rfl ?_
      obtain ⟨v2, e3, hs1⟩ := am_bind hs
      clear hs
      refine aw_pG (pc1 := 29) at_578_26 (am_vI_s e3) rfl ?_
      refine aw_call (F := fm_579 v2 h) (t := false) (na := 1) (kd := 0) (as := [(.int v2)]) at_578_29 (am_k3s kb_579) mn_579 mk_579 rfl rfl (am_ok_s mi_579 (am_hl rfl (am_ccI am_cats_0) rfl)) (am_hc (am_ccR i0 am_cats_0) rfl) (fun hz9 => by cases hz9) (fun o1 hz9 => rm_579 v2 h o1  hz9) ?_
      rcases am_cI_s hs1 with ⟨v4, h5, f6, hs2⟩ | hs2
      · clear hs1
        refine Or.inl ⟨_, _, f6, ?_⟩
        show am_W X _ 578 32 _ [(.int v4), x0] h5 _
        refine aw_iload (pc1 := 34) at_578_32 l6 rfl ?_
        obtain ⟨z7, hs3⟩ := am_ift hs2
        clear hs2
        refine aw_call (F := fm_439 N x0 v4 x6 h5) (t := true) (na := 3) (kd := 1) (as := [x0, (.int v4), (.int x6)]) at_578_34 (am_k3v kb_439) mn_439 mk_439 rfl rfl (am_ok_v mi_439 (am_hl rfl (am_ccR i0 (am_ccI (am_ccI am_cats_0))) rfl) z7) (am_hc am_cats_0 rfl) (fun _ => ⟨rfl, hh_578⟩) (fun o1 hz9 => rm_439 x0 v4 x6 h5 o1 i0 hz9) ?_
        rcases am_cI_s hs3 with ⟨v8, h9, f10, hs4⟩ | hs4
        · clear hs3
          refine Or.inl ⟨_, _, f10, ?_⟩
          show am_W X _ 578 37 _ [(.int v8)] h9 _
          refine aw_popi (pc1 := 38) at_578_37 rfl ?_
          refine aw_vload_n (pc1 := 39) at_578_38 l0 i0 rfl ?_
          refine aw_lload_n (pc1 := 40) at_578_39 l1 rfl ?_
          refine aw_lload_n (pc1 := 41) at_578_40 l3 rfl ?_
          obtain ⟨z11, hs5⟩ := am_ift hs4
          clear hs4
          refine aw_call (F := fm_580 N x0 x1 x3 h9) (t := true) (na := 3) (kd := 1) (as := [x0, (.long x1), (.long x3)]) at_578_41 (am_k3v kb_580) mn_580 mk_580 rfl rfl (am_ok_v mi_580 (am_hl rfl (am_ccR i0 (am_ccL (am_ccL am_cats_0))) rfl) z11) (am_hc am_cats_0 rfl) (fun _ => ⟨rfl, hh_578⟩) (fun o1 hz9 => rm_580 x0 x1 x3 h9 o1 i0 hz9) ?_
          rcases am_cI_s hs5 with ⟨v12, h13, f14, hs6⟩ | hs6
          · clear hs5
            refine Or.inl ⟨_, _, f14, ?_⟩
            show am_W X _ 578 44 _ [(.int v12)] h13 _
            by_cases c15 : v12 = 0
            · rw [if_pos c15] at hs6
              refine aw_ifeq_t at_578_44 c15 ?_
              refine aw_iinc (v := (x6 + 1)) (c := 1) (lv1 := am_put1 _ 6 _) (pc1 := 56) at_578_53 l6 (by decide) rfl rfl rfl ?_
              refine aw_goto at_578_56 ?_
              exact ih x0 x1 x3 x5 ((x6 + 1)) h13 o hs6 _ (am_lk1 l0 rfl rfl) (am_lk1 l1 rfl rfl) (am_lk1 l3 rfl rfl) (am_lk1 l5 rfl rfl) am_lk0 i0
            · rw [if_neg c15] at hs6
              refine aw_ifeq_f (pc1 := 47) at_578_44 c15 rfl ?_
              refine aw_vload_n (pc1 := 48) at_578_47 l0 i0 rfl ?_
              obtain ⟨z16, hs7⟩ := am_ift hs6
              clear hs6
              refine aw_call (F := fm_495 N x0 h13) (t := true) (na := 1) (kd := 1) (as := [x0]) at_578_48 (am_k3v kb_495) mn_495 mk_495 rfl rfl (am_ok_v mi_495 (am_hl rfl (am_ccR i0 am_cats_0) rfl) z16) (am_hc am_cats_0 rfl) (fun _ => ⟨rfl, hh_578⟩) (fun o1 hz9 => rm_495 x0 h13 o1 i0 hz9) ?_
              rcases am_cV_s hs7 with ⟨h18, f19, hs8⟩ | hs8
              · clear hs7
                refine Or.inl ⟨_, _, f19, ?_⟩
                show am_W X _ 578 51 _ [] h18 _
                refine aw_iconst (v := 1) (pc1 := 52) at_578_51 (by decide) rfl ?_
                cases hs8
                exact aw_iret at_578_52 (by rw [rt_578]; decide) rfl
              · clear hs7
                exact Or.inr hs8
          · clear hs5
            exact Or.inr hs6
        · clear hs3
          exact Or.inr hs4
      · clear hs1
        exact Or.inr hs2
def fg_578_0 (N : Nat) (x0 : Value) (x1 : Int64) (x3 : Int64) (h : am_H) : Option am_O := ((am_vI (am_pG 3092 x0 h)).bind fun v1 => am_cI false (fm_579 v1 h) (fun v3 h4 => (if am_pOk 12 x0 h4 then am_cI true (fm_439 N x0 v3 ((-1)) h4) (fun v7 h8 => (fg_578_17 N N x0 x1 x3 v7 0 h8)) else none)))
theorem rg_578_0 {X : am_X} {d : Nat} {N : Nat} {lv : am_LV} (x0 : Value) (x1 : Int64) (x3 : Int64) (h : am_H) (o : am_O) (l0 : lv.lookup 0 = some x0) (l1 : lv.lookup 1 = some (.long x1)) (l3 : lv.lookup 3 = some (.long x3)) (i0 : am_isR x0 = true) (hs : fg_578_0 N x0 x1 x3 h = some o) : am_W X (d + 9) 578 0 lv [] h (fun q => q = o) := by
  unfold fg_578_0 at hs
  refine aw_vload_n (pc1 := 1) at_578_0 l0 i0 rfl ?_
  refine aw_vload_n (pc1 := 2) at_578_1 l0 i0 rfl ?_
  obtain ⟨v1, e2, hs1⟩ := am_bind hs
  clear hs
  refine aw_pG (pc1 := 5) at_578_2 (am_vI_s e2) rfl ?_
  refine aw_call (F := fm_579 v1 h) (t := false) (na := 1) (kd := 0) (as := [(.int v1)]) at_578_5 (am_k3s kb_579) mn_579 mk_579 rfl rfl (am_ok_s mi_579 (am_hl rfl (am_ccI am_cats_0) rfl)) (am_hc (am_ccR i0 am_cats_0) rfl) (fun hz9 => by cases hz9) (fun o1 hz9 => rm_579 v1 h o1  hz9) ?_
  rcases am_cI_s hs1 with ⟨v3, h4, f5, hs2⟩ | hs2
  · clear hs1
    refine Or.inl ⟨_, _, f5, ?_⟩
    show am_W X _ 578 8 _ [(.int v3), x0] h4 _
    refine aw_iconst (v := (-1)) (pc1 := 9) at_578_8 (by decide) rfl ?_
    obtain ⟨z6, hs3⟩ := am_ift hs2
    clear hs2
    refine aw_call (F := fm_439 N x0 v3 ((-1)) h4) (t := true) (na := 3) (kd := 1) (as := [x0, (.int v3), (.int (-1))]) at_578_9 (am_k3v kb_439) mn_439 mk_439 rfl rfl (am_ok_v mi_439 (am_hl rfl (am_ccR i0 (am_ccI (am_ccI am_cats_0))) rfl) z6) (am_hc am_cats_0 rfl) (fun _ => ⟨rfl, hh_578⟩) (fun o1 hz9 => rm_439 x0 v3 ((-1)) h4 o1 i0 hz9) ?_
    rcases am_cI_s hs3 with ⟨v7, h8, f9, hs4⟩ | hs4
    · clear hs3
      refine Or.inl ⟨_, _, f9, ?_⟩
      show am_W X _ 578 12 _ [(.int v7)] h8 _
      refine aw_istore (lv1 := am_put1 _ 5 _) (pc1 := 14) at_578_12 rfl rfl ?_
      refine aw_iconst (v := 0) (pc1 := 15) at_578_14 (by decide) rfl ?_
      refine aw_istore (lv1 := am_put1 _ 6 _) (pc1 := 17) at_578_15 rfl rfl ?_
      exact rg_578_17 N x0 x1 x3 v7 0 h8 o hs4 _ (am_lk1 (am_lk1 l0 rfl rfl) rfl rfl) (am_lk1 (am_lk1 l1 rfl rfl) rfl rfl) (am_lk1 (am_lk1 l3 rfl rfl) rfl rfl) (am_lk1 am_lk0 rfl rfl) am_lk0 i0
    · clear hs3
      exact Or.inr hs4
  · clear hs1
    exact Or.inr hs2
def fm_578 (N : Nat) (y0 : Value) (y1 : Int64) (y2 : Int64) (h : am_H) : Option am_O := fg_578_0 N y0 y1 y2 h
theorem rm_578 {X : am_X} {d : Nat} {N : Nat} (y0 : Value) (y1 : Int64) (y2 : Int64) (h : am_H) (o : am_O) (i0 : am_isR y0 = true) (hs : fm_578 N y0 y1 y2 h = some o) : am_W X (d + 9) 578 0 (am_args 0 [y0, .long y1, .long y2]) [] h (fun q => q = o) := by
  rw [am_args_R i0, am_args_L, am_args_L]
  exact rg_578_0 y0 y1 y2 h o rfl rfl rfl i0 hs
def fg_577_47 (N : Nat) : Nat → Value → Int32 → Int32 → am_H → Option am_O
  | 0 => fun _ _ _ _ => none
  | K + 1 => fun x0 x1 x2 h => (if x2 = 0 then (if am_pOk 12 x0 h then am_cV true (fm_442 N x0 h) (fun h4 => (if am_pOk 12 x0 h4 then am_cI true (fm_356 N x0 6 x1 ((-1)) ((-1)) ((-1)) 0 h4) (fun v7 h8 => some (.inl (some (.int v7), h8))) else none)) else none) else (if am_pOk 12 x0 h then am_cV true (fm_442 N x0 h) (fun h12 => (if am_pOk 12 x0 h12 then am_cV true (fm_428 N x0 0 h12) (fun h16 => ((am_vL (am_pG 3163 x0 h16)).bind fun v18 => ((am_vL (am_pG 3164 x0 h16)).bind fun v20 => (if am_pOk 12 x0 h16 then am_cI true (fm_578 N x0 v18 v20 h16) (fun v23 h24 => (fg_577_47 N K x0 x1 v23 h24)) else none)))) else none)) else none))
theorem rg_577_47 {X : am_X} {d : Nat} {N : Nat} : ∀ (K : Nat) (x0 : Value) (x1 : Int32) (x2 : Int32) (h : am_H) (o : am_O), fg_577_47 N K x0 x1 x2 h = some o → ∀ lv : am_LV, (lv.lookup 0 = some x0) → (lv.lookup 1 = some (.int x1)) → (lv.lookup 2 = some (.int x2)) → (am_isR x0 = true) → am_W X (d + 10) 577 47 lv [] h (fun q => q = o) := by
  intro K
  induction K with
  | zero => intro x0 x1 x2 h o hs; cases hs
  | succ K ih =>
    intro x0 x1 x2 h o hs lv l0 l1 l2 i0
    unfold fg_577_47 at hs
    refine aw_iload_n (pc1 := 48) at_577_47 l2 rfl ?_
    by_cases c1 : x2 = 0
    · rw [if_pos c1] at hs
      refine aw_ifeq_t at_577_48 c1 ?_
      refine aw_vload_n (pc1 := 77) at_577_76 l0 i0 rfl ?_
      obtain ⟨z2, hs1⟩ := am_ift hs
      clear hs
      refine aw_call (F := fm_442 N x0 h) (t := true) (na := 1) (kd := 1) (as := [x0]) at_577_77 (am_k3v kb_442) mn_442 mk_442 rfl rfl (am_ok_v mi_442 (am_hl rfl (am_ccR i0 am_cats_0) rfl) z2) (am_hc am_cats_0 rfl) (fun _ => ⟨rfl, hh_577⟩) (fun o1 hz9 => rm_442 x0 h o1 i0 hz9) ?_
      rcases am_cV_s hs1 with ⟨h4, f5, hs2⟩ | hs2
      · clear hs1
        refine Or.inl ⟨_, _, f5, ?_⟩
        show am_W X _ 577 80 _ [] h4 _
        refine aw_vload_n (pc1 := 81) at_577_80 l0 i0 rfl ?_
        refine aw_bipush (v := 6) (pc1 := 83) at_577_81 (by decide) rfl ?_
        refine aw_iload_n (pc1 := 84) at_577_83 l1 rfl ?_
        refine aw_iconst (v := (-1)) (pc1 := 85) at_577_84 (by decide) rfl ?_
        refine aw_iconst (v := (-1)) (pc1 := 86) at_577_85 (by decide) rfl ?_
        refine aw_iconst (v := (-1)) (pc1 := 87) at_577_86 (by decide) rfl ?_
        refine aw_lconst (v := 0) (pc1 := 88) at_577_87 (by decide) rfl ?_
        obtain ⟨z6, hs3⟩ := am_ift hs2
        clear hs2
        refine aw_call (F := fm_356 N x0 6 x1 ((-1)) ((-1)) ((-1)) 0 h4) (t := true) (na := 7) (kd := 1) (as := [x0, (.int 6), (.int x1), (.int (-1)), (.int (-1)), (.int (-1)), (.long 0)]) at_577_88 (am_k3v kb_356) mn_356 mk_356 rfl rfl (am_ok_v mi_356 (am_hl rfl (am_ccR i0 (am_ccI (am_ccI (am_ccI (am_ccI (am_ccI (am_ccL am_cats_0))))))) rfl) z6) (am_hc am_cats_0 rfl) (fun _ => ⟨rfl, hh_577⟩) (fun o1 hz9 => rm_356 x0 6 x1 ((-1)) ((-1)) ((-1)) 0 h4 o1 i0 hz9) ?_
        rcases am_cI_s hs3 with ⟨v7, h8, f9, hs4⟩ | hs4
        · clear hs3
          refine Or.inl ⟨_, _, f9, ?_⟩
          show am_W X _ 577 91 _ [(.int v7)] h8 _
          cases hs4
          exact aw_iret at_577_91 (by rw [rt_577]; rfl) rfl
        · clear hs3
          exact Or.inr hs4
      · clear hs1
        exact Or.inr hs2
    · rw [if_neg c1] at hs
      refine aw_ifeq_f (pc1 := 51) at_577_48 c1 rfl ?_
      refine aw_vload_n (pc1 := 52) at_577_51 l0 i0 rfl ?_
      obtain ⟨z10, hs5⟩ := am_ift hs
      clear hs
      refine aw_call (F := fm_442 N x0 h) (t := true) (na := 1) (kd := 1) (as := [x0]) at_577_52 (am_k3v kb_442) mn_442 mk_442 rfl rfl (am_ok_v mi_442 (am_hl rfl (am_ccR i0 am_cats_0) rfl) z10) (am_hc am_cats_0 rfl) (fun _ => ⟨rfl, hh_577⟩) (fun o1 hz9 => rm_442 x0 h o1 i0 hz9) ?_
      rcases am_cV_s hs5 with ⟨h12, f13, hs6⟩ | hs6
      · clear hs5
        refine Or.inl ⟨_, _, f13, ?_⟩
        show am_W X _ 577 55 _ [] h12 _
        refine aw_vload_n (pc1 := 56) at_577_55 l0 i0 rfl ?_
        refine aw_iconst (v := 0) (pc1 := 57) at_577_56 (by decide) rfl ?_
        obtain ⟨z14, hs7⟩ := am_ift hs6
        clear hs6
        refine aw_call (F := fm_428 N x0 0 h12) (t := true) (na := 2) (kd := 1) (as := [x0, (.int 0)]) at_577_57 (am_k3v kb_428) mn_428 mk_428 rfl rfl (am_ok_v mi_428 (am_hl rfl (am_ccR i0 (am_ccI am_cats_0)) rfl) z14) (am_hc am_cats_0 rfl) (fun _ => ⟨rfl, hh_577⟩) (fun o1 hz9 => rm_428 x0 0 h12 o1 i0 hz9) ?_
        rcases am_cV_s hs7 with ⟨h16, f17, hs8⟩ | hs8
        · clear hs7
          refine Or.inl ⟨_, _, f17, ?_⟩
          show am_W X _ 577 60 _ [] h16 _
          refine aw_vload_n (pc1 := 61) at_577_60 l0 i0 rfl ?_
          refine aw_vload_n (pc1 := 62) at_577_61 l0 i0 rfl ?_
          obtain ⟨v18, e19, hs9⟩ := am_bind hs8
          clear hs8
          refine aw_pG (pc1 := 65) at_577_62 (am_vL_s e19) rfl ?_
          refine aw_vload_n (pc1 := 66) at_577_65 l0 i0 rfl ?_
          obtain ⟨v20, e21, hs10⟩ := am_bind hs9
          clear hs9
          refine aw_pG (pc1 := 69) at_577_66 (am_vL_s e21) rfl ?_
          obtain ⟨z22, hs11⟩ := am_ift hs10
          clear hs10
          refine aw_call (F := fm_578 N x0 v18 v20 h16) (t := true) (na := 3) (kd := 1) (as := [x0, (.long v18), (.long v20)]) at_577_69 (am_k3v kb_578) mn_578 mk_578 rfl rfl (am_ok_v mi_578 (am_hl rfl (am_ccR i0 (am_ccL (am_ccL am_cats_0))) rfl) z22) (am_hc am_cats_0 rfl) (fun _ => ⟨rfl, hh_577⟩) (fun o1 hz9 => rm_578 x0 v18 v20 h16 o1 i0 hz9) ?_
          rcases am_cI_s hs11 with ⟨v23, h24, f25, hs12⟩ | hs12
          · clear hs11
            refine Or.inl ⟨_, _, f25, ?_⟩
            show am_W X _ 577 72 _ [(.int v23)] h24 _
            refine aw_istore_n (lv1 := am_put1 _ 2 _) (pc1 := 73) at_577_72 rfl rfl ?_
            refine aw_goto at_577_73 ?_
            exact ih x0 x1 v23 h24 o hs12 _ (am_lk1 l0 rfl rfl) (am_lk1 l1 rfl rfl) am_lk0 i0
          · clear hs11
            exact Or.inr hs12
        · clear hs7
          exact Or.inr hs8
      · clear hs5
        exact Or.inr hs6
def fg_577_28 (N : Nat) (x0 : Value) (x1 : Int32) (s0 : Value) (s1 : Int32) (h : am_H) : Option am_O := ((am_pP 3072 s0 (.int s1) h).bind fun h1 => ((am_vI (am_pG 3072 x0 h1)).bind fun v3 => (if v3 ≤ 0 then (if am_pOk 12 x0 h1 then am_cV true (fm_391 N x0 x1 h1) (fun h8 => (fg_577_47 N N x0 x1 1 h8)) else none) else some (.inl (some (.int 0), h1)))))
theorem rg_577_28 {X : am_X} {d : Nat} {N : Nat} {lv : am_LV} (x0 : Value) (x1 : Int32) (s0 : Value) (s1 : Int32) (h : am_H) (o : am_O) (l0 : lv.lookup 0 = some x0) (l1 : lv.lookup 1 = some (.int x1)) (i0 : am_isR x0 = true) (j0 : am_isR s0 = true) (hs : fg_577_28 N x0 x1 s0 s1 h = some o) : am_W X (d + 10) 577 28 lv [(.int s1), s0] h (fun q => q = o) := by
  unfold fg_577_28 at hs
  obtain ⟨h1, e2, hs1⟩ := am_bind hs
  clear hs
  refine aw_pP (pc1 := 31) at_577_28 e2 rfl ?_
  refine aw_vload_n (pc1 := 32) at_577_31 l0 i0 rfl ?_
  obtain ⟨v3, e4, hs2⟩ := am_bind hs1
  clear hs1
  refine aw_pG (pc1 := 35) at_577_32 (am_vI_s e4) rfl ?_
  by_cases c5 : v3 ≤ 0
  · rw [if_pos c5] at hs2
    refine aw_ifle_t at_577_35 c5 ?_
    refine aw_vload_n (pc1 := 41) at_577_40 l0 i0 rfl ?_
    refine aw_iload_n (pc1 := 42) at_577_41 l1 rfl ?_
    obtain ⟨z6, hs3⟩ := am_ift hs2
    clear hs2
    refine aw_call (F := fm_391 N x0 x1 h1) (t := true) (na := 2) (kd := 1) (as := [x0, (.int x1)]) at_577_42 (am_k3v kb_391) mn_391 mk_391 rfl rfl (am_ok_v mi_391 (am_hl rfl (am_ccR i0 (am_ccI am_cats_0)) rfl) z6) (am_hc am_cats_0 rfl) (fun _ => ⟨rfl, hh_577⟩) (fun o1 hz9 => rm_391 x0 x1 h1 o1 i0 hz9) ?_
    rcases am_cV_s hs3 with ⟨h8, f9, hs4⟩ | hs4
    · clear hs3
      refine Or.inl ⟨_, _, f9, ?_⟩
      show am_W X _ 577 45 _ [] h8 _
      refine aw_iconst (v := 1) (pc1 := 46) at_577_45 (by decide) rfl ?_
      refine aw_istore_n (lv1 := am_put1 _ 2 _) (pc1 := 47) at_577_46 rfl rfl ?_
      exact rg_577_47 N x0 x1 1 h8 o hs4 _ (am_lk1 l0 rfl rfl) (am_lk1 l1 rfl rfl) am_lk0 i0
    · clear hs3
      exact Or.inr hs4
  · rw [if_neg c5] at hs2
    refine aw_ifle_f (pc1 := 38) at_577_35 c5 rfl ?_
    refine aw_iconst (v := 0) (pc1 := 39) at_577_38 (by decide) rfl ?_
    cases hs2
    exact aw_iret at_577_39 (by rw [rt_577]; rfl) rfl
def fg_577_0 (N : Nat) (x0 : Value) (x1 : Int32) (h : am_H) : Option am_O := (if am_pOk 12 x0 h then am_cI true (fm_358 x0 x1 h) (fun v2 h3 => (if ¬ v2 = 0 then ((am_vI (am_pG 3073 x0 h3)).bind fun v6 => (if ¬ v6 = 600 then (fg_577_28 N x0 x1 x0 0 h3) else (fg_577_28 N x0 x1 x0 2 h3))) else (fg_577_28 N x0 x1 x0 1 h3))) else none)
theorem rg_577_0 {X : am_X} {d : Nat} {N : Nat} {lv : am_LV} (x0 : Value) (x1 : Int32) (h : am_H) (o : am_O) (l0 : lv.lookup 0 = some x0) (l1 : lv.lookup 1 = some (.int x1)) (i0 : am_isR x0 = true) (hs : fg_577_0 N x0 x1 h = some o) : am_W X (d + 10) 577 0 lv [] h (fun q => q = o) := by
  unfold fg_577_0 at hs
  refine aw_vload_n (pc1 := 1) at_577_0 l0 i0 rfl ?_
  refine aw_vload_n (pc1 := 2) at_577_1 l0 i0 rfl ?_
  refine aw_iload_n (pc1 := 3) at_577_2 l1 rfl ?_
  obtain ⟨z1, hs1⟩ := am_ift hs
  clear hs
  refine aw_call (F := fm_358 x0 x1 h) (t := true) (na := 2) (kd := 1) (as := [x0, (.int x1)]) at_577_3 (am_k3v kb_358) mn_358 mk_358 rfl rfl (am_ok_v mi_358 (am_hl rfl (am_ccR i0 (am_ccI am_cats_0)) rfl) z1) (am_hc (am_ccR i0 am_cats_0) rfl) (fun _ => ⟨rfl, hh_577⟩) (fun o1 hz9 => rm_358 x0 x1 h o1 i0 hz9) ?_
  rcases am_cI_s hs1 with ⟨v2, h3, f4, hs2⟩ | hs2
  · clear hs1
    refine Or.inl ⟨_, _, f4, ?_⟩
    show am_W X _ 577 6 _ [(.int v2), x0] h3 _
    by_cases c5 : ¬ v2 = 0
    · rw [if_pos c5] at hs2
      refine aw_ifne_t at_577_6 c5 ?_
      refine aw_vload_n (pc1 := 14) at_577_13 l0 i0 rfl ?_
      obtain ⟨v6, e7, hs3⟩ := am_bind hs2
      clear hs2
      refine aw_pG (pc1 := 17) at_577_14 (am_vI_s e7) rfl ?_
      refine aw_sipush (v := 600) (pc1 := 20) at_577_17 (by decide) rfl ?_
      by_cases c8 : ¬ v6 = 600
      · rw [if_pos c8] at hs3
        refine aw_icne_t at_577_20 c8 ?_
        refine aw_iconst (v := 0) (pc1 := 28) at_577_27 (by decide) rfl ?_
        exact rg_577_28 x0 x1 x0 0 h3 o l0 l1 i0 i0 hs3
      · rw [if_neg c8] at hs3
        refine aw_icne_f (pc1 := 23) at_577_20 c8 rfl ?_
        refine aw_iconst (v := 2) (pc1 := 24) at_577_23 (by decide) rfl ?_
        refine aw_goto at_577_24 ?_
        exact rg_577_28 x0 x1 x0 2 h3 o l0 l1 i0 i0 hs3
    · rw [if_neg c5] at hs2
      refine aw_ifne_f (pc1 := 9) at_577_6 c5 rfl ?_
      refine aw_iconst (v := 1) (pc1 := 10) at_577_9 (by decide) rfl ?_
      refine aw_goto at_577_10 ?_
      exact rg_577_28 x0 x1 x0 1 h3 o l0 l1 i0 i0 hs2
  · clear hs1
    exact Or.inr hs2
def fm_577 (N : Nat) (y0 : Value) (y1 : Int32) (h : am_H) : Option am_O := fg_577_0 N y0 y1 h
theorem rm_577 {X : am_X} {d : Nat} {N : Nat} (y0 : Value) (y1 : Int32) (h : am_H) (o : am_O) (i0 : am_isR y0 = true) (hs : fm_577 N y0 y1 h = some o) : am_W X (d + 10) 577 0 (am_args 0 [y0, .int y1]) [] h (fun q => q = o) := by
  rw [am_args_R i0, am_args_I]
  exact rg_577_0 y0 y1 h o rfl rfl i0 hs
def fg_305_115 (N : Nat) (rec_67 : Value → Int32 → Int64 → Int32 → Int32 → Int32 → am_H → Option am_O) (x0 : Value) (x3 : Int32) (x5 : Int64) (x7 : Int32) (x8 : Int32) (x9 : Int32) (h : am_H) : Option am_O := (rec_67 x0 x3 x5 x7 x8 ((x9 + 1)) h)
theorem rg_305_115 {X : am_X} {d : Nat} {N : Nat} {rec_67 : Value → Int32 → Int64 → Int32 → Int32 → Int32 → am_H → Option am_O} (q_67 : ∀ (x0 : Value) (x3 : Int32) (x5 : Int64) (x7 : Int32) (x8 : Int32) (x9 : Int32) (h : am_H) (o : am_O), rec_67 x0 x3 x5 x7 x8 x9 h = some o → ∀ lv : am_LV, (lv.lookup 0 = some x0) → (lv.lookup 3 = some (.int x3)) → (lv.lookup 5 = some (.long x5)) → (lv.lookup 7 = some (.int x7)) → (lv.lookup 8 = some (.int x8)) → (lv.lookup 9 = some (.int x9)) → (am_isR x0 = true) → am_W X (d + 84) 305 67 lv [] h (fun q => q = o)) {lv : am_LV} (x0 : Value) (x3 : Int32) (x5 : Int64) (x7 : Int32) (x8 : Int32) (x9 : Int32) (h : am_H) (o : am_O) (l0 : lv.lookup 0 = some x0) (l3 : lv.lookup 3 = some (.int x3)) (l5 : lv.lookup 5 = some (.long x5)) (l7 : lv.lookup 7 = some (.int x7)) (l8 : lv.lookup 8 = some (.int x8)) (l9 : lv.lookup 9 = some (.int x9)) (i0 : am_isR x0 = true) (hs : fg_305_115 N rec_67 x0 x3 x5 x7 x8 x9 h = some o) : am_W X (d + 84) 305 115 lv [] h (fun q => q = o) := by
  unfold fg_305_115 at hs
  refine aw_iinc (v := (x9 + 1)) (c := 1) (lv1 := am_put1 _ 9 _) (pc1 := 118) at_305_115 l9 (by decide) rfl rfl rfl ?_
  refine aw_goto at_305_118 ?_
  exact q_67 x0 x3 x5 x7 x8 ((x9 + 1)) h o hs _ (am_lk1 l0 rfl rfl) (am_lk1 l3 rfl rfl) (am_lk1 l5 rfl rfl) (am_lk1 l7 rfl rfl) (am_lk1 l8 rfl rfl) am_lk0 i0
def fg_305_67 (N : Nat) : Nat → Value → Int32 → Int64 → Int32 → Int32 → Int32 → am_H → Option am_O
  | 0 => fun _ _ _ _ _ _ _ => none
  | K + 1 => fun x0 x3 x5 x7 x8 x9 h => (if x7 ≤ x9 then some (.inl (some (.int x8), h)) else ((am_vR (am_pG 2823 x0 h)).bind fun v2 => (if am_pOk 0 v2 h then am_cI true (fm_163 N v2 x9 h) (fun v5 h6 => (if v5 = 0 then (fg_305_115 N (fg_305_67 N K) x0 x3 x5 x7 x8 x9 h6) else ((am_vR (am_pG 2819 x0 h6)).bind fun v9 => ((am_vR (am_pG 2823 x0 h6)).bind fun v11 => ((am_vR (am_pG 0 v11 h6)).bind fun v13 => (if am_pOk 2 v9 h6 then am_cL true (fm_140 N v9 v13 0 h6) (fun v16 h17 => am_cI false (fm_151 v16 x5 h17) (fun v19 h20 => (if ¬ v19 = (x3 - 1) then (fg_305_115 N (fg_305_67 N K) x0 x3 x5 x7 x8 x9 h20) else (fg_305_115 N (fg_305_67 N K) x0 x3 x5 x7 ((x8 + 1)) x9 h20)))) else none)))))) else none)))
theorem rg_305_67 {X : am_X} {d : Nat} {N : Nat} : ∀ (K : Nat) (x0 : Value) (x3 : Int32) (x5 : Int64) (x7 : Int32) (x8 : Int32) (x9 : Int32) (h : am_H) (o : am_O), fg_305_67 N K x0 x3 x5 x7 x8 x9 h = some o → ∀ lv : am_LV, (lv.lookup 0 = some x0) → (lv.lookup 3 = some (.int x3)) → (lv.lookup 5 = some (.long x5)) → (lv.lookup 7 = some (.int x7)) → (lv.lookup 8 = some (.int x8)) → (lv.lookup 9 = some (.int x9)) → (am_isR x0 = true) → am_W X (d + 84) 305 67 lv [] h (fun q => q = o) := by
  intro K
  induction K with
  | zero => intro x0 x3 x5 x7 x8 x9 h o hs; cases hs
  | succ K ih =>
    intro x0 x3 x5 x7 x8 x9 h o hs lv l0 l3 l5 l7 l8 l9 i0
    unfold fg_305_67 at hs
    refine aw_iload (pc1 := 69) at_305_67 l9 rfl ?_
    refine aw_iload (pc1 := 71) at_305_69 l7 rfl ?_
    by_cases c1 : x7 ≤ x9
    · rw [if_pos c1] at hs
      refine aw_icge_t at_305_71 c1 ?_
      refine aw_iload (pc1 := 123) at_305_121 l8 rfl ?_
      cases hs
      exact aw_iret at_305_123 (by rw [rt_305]; rfl) rfl
    · rw [if_neg c1] at hs
      refine aw_icge_f (pc1 := 74) at_305_71 c1 rfl ?_
      refine aw_vload_n (pc1 := 75) at_305_74 l0 i0 rfl ?_
      obtain ⟨v2, e3, hs1⟩ := am_bind hs
      clear hs
      refine aw_pG (pc1 := 78) at_305_75 (am_vR_s e3).1 rfl ?_
      refine aw_iload (pc1 := 80) at_305_78 l9 rfl ?_
      obtain ⟨z4, hs2⟩ := am_ift hs1
      clear hs1
      refine aw_call (F := fm_163 N v2 x9 h) (t := true) (na := 2) (kd := 1) (as := [v2, (.int x9)]) at_305_80 (am_k3v kb_163) mn_163 mk_163 rfl rfl (am_ok_v mi_163 (am_hl rfl (am_ccR (am_vR_s e3).2 (am_ccI am_cats_0)) rfl) z4) (am_hc am_cats_0 rfl) (fun _ => ⟨rfl, hh_305⟩) (fun o1 hz9 => rm_163 v2 x9 h o1 (am_vR_s e3).2 hz9) ?_
      rcases am_cI_s hs2 with ⟨v5, h6, f7, hs3⟩ | hs3
      · clear hs2
        refine Or.inl ⟨_, _, f7, ?_⟩
        show am_W X _ 305 83 _ [(.int v5)] h6 _
        by_cases c8 : v5 = 0
        · rw [if_pos c8] at hs3
          refine aw_ifeq_t at_305_83 c8 ?_
          exact rg_305_115 (fun z0 z1 z2 z3 z4 z5 h o hs3 => ih z0 z1 z2 z3 z4 z5 h o hs3) x0 x3 x5 x7 x8 x9 h6 o l0 l3 l5 l7 l8 l9 i0 hs3
        · rw [if_neg c8] at hs3
          refine aw_ifeq_f (pc1 := 86) at_305_83 c8 rfl ?_
          refine aw_vload_n (pc1 := 87) at_305_86 l0 i0 rfl ?_
          obtain ⟨v9, e10, hs4⟩ := am_bind hs3
          clear hs3
          refine aw_pG (pc1 := 90) at_305_87 (am_vR_s e10).1 rfl ?_
          refine aw_vload_n (pc1 := 91) at_305_90 l0 i0 rfl ?_
          obtain ⟨v11, e12, hs5⟩ := am_bind hs4
          clear hs4
          refine aw_pG (pc1 := 94) at_305_91 (am_vR_s e12).1 rfl ?_
          obtain ⟨v13, e14, hs6⟩ := am_bind hs5
          clear hs5
          refine aw_pG (pc1 := 97) at_305_94 (am_vR_s e14).1 rfl ?_
          refine aw_iconst (v := 0) (pc1 := 98) at_305_97 (by decide) rfl ?_
          obtain ⟨z15, hs7⟩ := am_ift hs6
          clear hs6
          refine aw_call (F := fm_140 N v9 v13 0 h6) (t := true) (na := 3) (kd := 1) (as := [v9, v13, (.int 0)]) at_305_98 (am_k3v kb_140) mn_140 mk_140 rfl rfl (am_ok_v mi_140 (am_hl rfl (am_ccR (am_vR_s e10).2 (am_ccR (am_vR_s e14).2 (am_ccI am_cats_0))) rfl) z15) (am_hc am_cats_0 rfl) (fun _ => ⟨rfl, hh_305⟩) (fun o1 hz9 => rm_140 v9 v13 0 h6 o1 (am_vR_s e10).2 (am_vR_s e14).2 hz9) ?_
          rcases am_cL_s hs7 with ⟨v16, h17, f18, hs8⟩ | hs8
          · clear hs7
            refine Or.inl ⟨_, _, f18, ?_⟩
            show am_W X _ 305 101 _ [(.long v16)] h17 _
            refine aw_lload (pc1 := 103) at_305_101 l5 rfl ?_
            refine aw_call (F := fm_151 v16 x5 h17) (t := false) (na := 2) (kd := 0) (as := [(.long v16), (.long x5)]) at_305_103 (am_k3s kb_151) mn_151 mk_151 rfl rfl (am_ok_s mi_151 (am_hl rfl (am_ccL (am_ccL am_cats_0)) rfl)) (am_hc am_cats_0 rfl) (fun hz9 => by cases hz9) (fun o1 hz9 => rm_151 v16 x5 h17 o1  hz9) ?_
            rcases am_cI_s hs8 with ⟨v19, h20, f21, hs9⟩ | hs9
            · clear hs8
              refine Or.inl ⟨_, _, f21, ?_⟩
              show am_W X _ 305 106 _ [(.int v19)] h20 _
              refine aw_iload_n (pc1 := 107) at_305_106 l3 rfl ?_
              refine aw_iconst (v := 1) (pc1 := 108) at_305_107 (by decide) rfl ?_
              refine aw_isub (v := (x3 - 1)) (pc1 := 109) at_305_108 rfl rfl ?_
              by_cases c22 : ¬ v19 = (x3 - 1)
              · rw [if_pos c22] at hs9
                refine aw_icne_t at_305_109 c22 ?_
                exact rg_305_115 (fun z0 z1 z2 z3 z4 z5 h o hs9 => ih z0 z1 z2 z3 z4 z5 h o hs9) x0 x3 x5 x7 x8 x9 h20 o l0 l3 l5 l7 l8 l9 i0 hs9
              · rw [if_neg c22] at hs9
                refine aw_icne_f (pc1 := 112) at_305_109 c22 rfl ?_
                refine aw_iinc (v := (x8 + 1)) (c := 1) (lv1 := am_put1 _ 8 _) (pc1 := 115) at_305_112 l8 (by decide) rfl rfl rfl ?_
                exact rg_305_115 (fun z0 z1 z2 z3 z4 z5 h o hs9 => ih z0 z1 z2 z3 z4 z5 h o hs9) x0 x3 x5 x7 ((x8 + 1)) x9 h20 o (am_lk1 l0 rfl rfl) (am_lk1 l3 rfl rfl) (am_lk1 l5 rfl rfl) (am_lk1 l7 rfl rfl) am_lk0 (am_lk1 l9 rfl rfl) i0 hs9
            · clear hs8
              exact Or.inr hs9
          · clear hs7
            exact Or.inr hs8
      · clear hs2
        exact Or.inr hs3
def fg_305_25 (N : Nat) (h : am_H) : Option am_O := some (.inr (0, h ++ [am_dummy]))
theorem rg_305_25 {X : am_X} {d : Nat} {N : Nat} {lv : am_LV} (h : am_H) (o : am_O) (hs : fg_305_25 N h = some o) : am_W X (d + 84) 305 25 lv [] h (fun q => q = o) := by
  unfold fg_305_25 at hs
  cases hs
  exact aw_throw at_305_25 rfl th_305_25 (am_hc am_cats_0 rfl) rfl
def fg_305_0 (N : Nat) (x0 : Value) (x1 : Int32) (x2 : Int32) (x3 : Int32) (h : am_H) : Option am_O := (if am_pOk 11 x0 h then am_cR true (fm_63 x0 x1 h) (fun v2 h3 => (if x2 < 0 then (fg_305_25 N h3) else (if 4 ≤ x2 then (fg_305_25 N h3) else (if x3 < 0 then (fg_305_25 N h3) else (if x3 ≤ 2 then ((am_vR (am_pG 2819 x0 h3)).bind fun v9 => (if am_pOk 2 v9 h3 then am_cL true (fm_140 N v9 v2 0 h3) (fun v12 h13 => ((am_vR (am_pG 2823 x0 h13)).bind fun v15 => (if am_pOk 0 v15 h13 then am_cI true (fm_159 N v15 v2 Value.null x2 h13) (fun v18 h19 => (fg_305_67 N N x0 x3 v12 v18 0 0 h19)) else none))) else none)) else (fg_305_25 N h3)))))) else none)
theorem rg_305_0 {X : am_X} {d : Nat} {N : Nat} {lv : am_LV} (x0 : Value) (x1 : Int32) (x2 : Int32) (x3 : Int32) (h : am_H) (o : am_O) (l0 : lv.lookup 0 = some x0) (l1 : lv.lookup 1 = some (.int x1)) (l2 : lv.lookup 2 = some (.int x2)) (l3 : lv.lookup 3 = some (.int x3)) (i0 : am_isR x0 = true) (hs : fg_305_0 N x0 x1 x2 x3 h = some o) : am_W X (d + 84) 305 0 lv [] h (fun q => q = o) := by
  unfold fg_305_0 at hs
  refine aw_vload_n (pc1 := 1) at_305_0 l0 i0 rfl ?_
  refine aw_iload_n (pc1 := 2) at_305_1 l1 rfl ?_
  obtain ⟨z1, hs1⟩ := am_ift hs
  clear hs
  refine aw_call (F := fm_63 x0 x1 h) (t := true) (na := 2) (kd := 1) (as := [x0, (.int x1)]) at_305_2 (am_k3v kb_63) mn_63 mk_63 rfl rfl (am_ok_v mi_63 (am_hl rfl (am_ccR i0 (am_ccI am_cats_0)) rfl) z1) (am_hc am_cats_0 rfl) (fun _ => ⟨rfl, hh_305⟩) (fun o1 hz9 => rm_63 x0 x1 h o1 i0 hz9) ?_
  rcases am_cR_s hs1 with ⟨v2, h3, f4, iv2, hs2⟩ | hs2
  · clear hs1
    refine Or.inl ⟨_, _, f4, ?_⟩
    show am_W X _ 305 5 _ [v2] h3 _
    refine aw_vstore (lv1 := am_put1 _ 4 _) (pc1 := 7) at_305_5 iv2 rfl rfl ?_
    refine aw_iload_n (pc1 := 8) at_305_7 (am_lk1 l2 rfl rfl) rfl ?_
    by_cases c5 : x2 < 0
    · rw [if_pos c5] at hs2
      refine aw_iflt_t at_305_8 c5 ?_
      exact rg_305_25 h3 o   hs2
    · rw [if_neg c5] at hs2
      refine aw_iflt_f (pc1 := 11) at_305_8 c5 rfl ?_
      refine aw_iload_n (pc1 := 12) at_305_11 (am_lk1 l2 rfl rfl) rfl ?_
      refine aw_iconst (v := 4) (pc1 := 13) at_305_12 (by decide) rfl ?_
      by_cases c6 : 4 ≤ x2
      · rw [if_pos c6] at hs2
        refine aw_icge_t at_305_13 c6 ?_
        exact rg_305_25 h3 o   hs2
      · rw [if_neg c6] at hs2
        refine aw_icge_f (pc1 := 16) at_305_13 c6 rfl ?_
        refine aw_iload_n (pc1 := 17) at_305_16 (am_lk1 l3 rfl rfl) rfl ?_
        by_cases c7 : x3 < 0
        · rw [if_pos c7] at hs2
          refine aw_iflt_t at_305_17 c7 ?_
          exact rg_305_25 h3 o   hs2
        · rw [if_neg c7] at hs2
          refine aw_iflt_f (pc1 := 20) at_305_17 c7 rfl ?_
          refine aw_iload_n (pc1 := 21) at_305_20 (am_lk1 l3 rfl rfl) rfl ?_
          refine aw_iconst (v := 2) (pc1 := 22) at_305_21 (by decide) rfl ?_
          by_cases c8 : x3 ≤ 2
          · rw [if_pos c8] at hs2
            refine aw_icle_t at_305_22 c8 ?_
            refine aw_vload_n (pc1 := 37) at_305_36 (am_lk1 l0 rfl rfl) i0 rfl ?_
            obtain ⟨v9, e10, hs3⟩ := am_bind hs2
            clear hs2
            refine aw_pG (pc1 := 40) at_305_37 (am_vR_s e10).1 rfl ?_
            refine aw_vload (pc1 := 42) at_305_40 am_lk0 iv2 rfl ?_
            refine aw_iconst (v := 0) (pc1 := 43) at_305_42 (by decide) rfl ?_
            obtain ⟨z11, hs4⟩ := am_ift hs3
            clear hs3
            refine aw_call (F := fm_140 N v9 v2 0 h3) (t := true) (na := 3) (kd := 1) (as := [v9, v2, (.int 0)]) at_305_43 (am_k3v kb_140) mn_140 mk_140 rfl rfl (am_ok_v mi_140 (am_hl rfl (am_ccR (am_vR_s e10).2 (am_ccR iv2 (am_ccI am_cats_0))) rfl) z11) (am_hc am_cats_0 rfl) (fun _ => ⟨rfl, hh_305⟩) (fun o1 hz9 => rm_140 v9 v2 0 h3 o1 (am_vR_s e10).2 iv2 hz9) ?_
            rcases am_cL_s hs4 with ⟨v12, h13, f14, hs5⟩ | hs5
            · clear hs4
              refine Or.inl ⟨_, _, f14, ?_⟩
              show am_W X _ 305 46 _ [(.long v12)] h13 _
              refine aw_lstore (lv1 := am_put2 _ 5 _) (pc1 := 48) at_305_46 rfl rfl ?_
              refine aw_vload_n (pc1 := 49) at_305_48 (am_lk2 (am_lk1 l0 rfl rfl) rfl rfl) i0 rfl ?_
              obtain ⟨v15, e16, hs6⟩ := am_bind hs5
              clear hs5
              refine aw_pG (pc1 := 52) at_305_49 (am_vR_s e16).1 rfl ?_
              refine aw_vload (pc1 := 54) at_305_52 (am_lk2 am_lk0 rfl (by rw [am_isRc iv2]; rfl)) iv2 rfl ?_
              refine aw_null (pc1 := 55) at_305_54 rfl ?_
              refine aw_iload_n (pc1 := 56) at_305_55 (am_lk2 (am_lk1 l2 rfl rfl) rfl rfl) rfl ?_
              obtain ⟨z17, hs7⟩ := am_ift hs6
              clear hs6
              refine aw_call (F := fm_159 N v15 v2 Value.null x2 h13) (t := true) (na := 4) (kd := 1) (as := [v15, v2, Value.null, (.int x2)]) at_305_56 (am_k3v kb_159) mn_159 mk_159 rfl rfl (am_ok_v mi_159 (am_hl rfl (am_ccR (am_vR_s e16).2 (am_ccR iv2 (am_ccR rfl (am_ccI am_cats_0)))) rfl) z17) (am_hc am_cats_0 rfl) (fun _ => ⟨rfl, hh_305⟩) (fun o1 hz9 => rm_159 v15 v2 Value.null x2 h13 o1 (am_vR_s e16).2 iv2 rfl hz9) ?_
              rcases am_cI_s hs7 with ⟨v18, h19, f20, hs8⟩ | hs8
              · clear hs7
                refine Or.inl ⟨_, _, f20, ?_⟩
                show am_W X _ 305 59 _ [(.int v18)] h19 _
                refine aw_istore (lv1 := am_put1 _ 7 _) (pc1 := 61) at_305_59 rfl rfl ?_
                refine aw_iconst (v := 0) (pc1 := 62) at_305_61 (by decide) rfl ?_
                refine aw_istore (lv1 := am_put1 _ 8 _) (pc1 := 64) at_305_62 rfl rfl ?_
                refine aw_iconst (v := 0) (pc1 := 65) at_305_64 (by decide) rfl ?_
                refine aw_istore (lv1 := am_put1 _ 9 _) (pc1 := 67) at_305_65 rfl rfl ?_
                exact rg_305_67 N x0 x3 v12 v18 0 0 h19 o hs8 _ (am_lk1 (am_lk1 (am_lk1 (am_lk2 (am_lk1 l0 rfl rfl) rfl rfl) rfl rfl) rfl rfl) rfl rfl) (am_lk1 (am_lk1 (am_lk1 (am_lk2 (am_lk1 l3 rfl rfl) rfl rfl) rfl rfl) rfl rfl) rfl rfl) (am_lk1 (am_lk1 (am_lk1 am_lk02 rfl rfl) rfl rfl) rfl rfl) (am_lk1 (am_lk1 am_lk0 rfl rfl) rfl rfl) (am_lk1 am_lk0 rfl rfl) am_lk0 i0
              · clear hs7
                exact Or.inr hs8
            · clear hs4
              exact Or.inr hs5
          · rw [if_neg c8] at hs2
            refine aw_icle_f (pc1 := 25) at_305_22 c8 rfl ?_
            exact rg_305_25 h3 o   hs2
  · clear hs1
    exact Or.inr hs2
def fm_305 (N : Nat) (y0 : Value) (y1 : Int32) (y2 : Int32) (y3 : Int32) (h : am_H) : Option am_O := fg_305_0 N y0 y1 y2 y3 h
theorem rm_305 {X : am_X} {d : Nat} {N : Nat} (y0 : Value) (y1 : Int32) (y2 : Int32) (y3 : Int32) (h : am_H) (o : am_O) (i0 : am_isR y0 = true) (hs : fm_305 N y0 y1 y2 y3 h = some o) : am_W X (d + 84) 305 0 (am_args 0 [y0, .int y1, .int y2, .int y3]) [] h (fun q => q = o) := by
  rw [am_args_R i0, am_args_I, am_args_I, am_args_I]
  exact rg_305_0 y0 y1 y2 y3 h o rfl rfl rfl rfl i0 hs
def fg_304_21 (N : Nat) (h : am_H) : Option am_O := some (.inl (some (.int 2), h))
theorem rg_304_21 {X : am_X} {d : Nat} {N : Nat} {lv : am_LV} (h : am_H) (o : am_O) (hs : fg_304_21 N h = some o) : am_W X (d + 85) 304 21 lv [] h (fun q => q = o) := by
  unfold fg_304_21 at hs
  refine aw_iconst (v := 2) (pc1 := 22) at_304_21 (by decide) rfl ?_
  cases hs
  exact aw_iret at_304_22 (by rw [rt_304]; rfl) rfl
def fg_304_17 (N : Nat) (h : am_H) : Option am_O := some (.inl (some (.int 1), h))
theorem rg_304_17 {X : am_X} {d : Nat} {N : Nat} {lv : am_LV} (h : am_H) (o : am_O) (hs : fg_304_17 N h = some o) : am_W X (d + 85) 304 17 lv [] h (fun q => q = o) := by
  unfold fg_304_17 at hs
  refine aw_iconst (v := 1) (pc1 := 18) at_304_17 (by decide) rfl ?_
  cases hs
  exact aw_iret at_304_18 (by rw [rt_304]; rfl) rfl
def fg_304_0 (N : Nat) (x0 : Value) (x1 : Int32) (x2 : Int32) (x3 : Int32) (x4 : Value) (h : am_H) : Option am_O := (if am_pOk 11 x0 h then (match fm_305 N x0 x1 x2 x3 h with | some (.inl (some (.int v2), h3)) => ((am_pSL x4 0 (Int32.toInt64 v2) h3).bind fun h5 => some (.inl (some (.int 0), h5))) | some (.inr (0, h7)) => (fg_304_21 N h7) | some (.inr (2, h9)) => (fg_304_17 N h9) | _ => none) else none)
theorem rg_304_0 {X : am_X} {d : Nat} {N : Nat} {lv : am_LV} (x0 : Value) (x1 : Int32) (x2 : Int32) (x3 : Int32) (x4 : Value) (h : am_H) (o : am_O) (l0 : lv.lookup 0 = some x0) (l1 : lv.lookup 1 = some (.int x1)) (l2 : lv.lookup 2 = some (.int x2)) (l3 : lv.lookup 3 = some (.int x3)) (l4 : lv.lookup 4 = some x4) (i0 : am_isR x0 = true) (i4 : am_isR x4 = true) (hs : fg_304_0 N x0 x1 x2 x3 x4 h = some o) : am_W X (d + 85) 304 0 lv [] h (fun q => q = o) := by
  unfold fg_304_0 at hs
  refine aw_vload (pc1 := 2) at_304_0 l4 i4 rfl ?_
  refine aw_iconst (v := 0) (pc1 := 3) at_304_2 (by decide) rfl ?_
  refine aw_vload_n (pc1 := 4) at_304_3 l0 i0 rfl ?_
  refine aw_iload_n (pc1 := 5) at_304_4 l1 rfl ?_
  refine aw_iload_n (pc1 := 6) at_304_5 l2 rfl ?_
  refine aw_iload_n (pc1 := 7) at_304_6 l3 rfl ?_
  obtain ⟨z1, hs1⟩ := am_ift hs
  clear hs
  refine aw_callH (F := fm_305 N x0 x1 x2 x3 h) (na := 4) (kd := 1) (as := [x0, (.int x1), (.int x2), (.int x3)]) at_304_7 (am_k3v kb_305) mn_305 mk_305 rfl rfl (am_ok_v mi_305 (am_hl rfl (am_ccR i0 (am_ccI (am_ccI (am_ccI am_cats_0)))) rfl) z1) (am_hc (am_ccI (am_ccR i4 am_cats_0)) rfl) (fun o1 hz9 => rm_305 x0 x1 x2 x3 h o1 i0 hz9) ?_
  split at hs1
  · rename_i v2 h3 f4
    refine Or.inl ⟨_, _, f4, ?_⟩
    show am_W X _ 304 10 _ [(.int v2), (.int 0), x4] h3 _
    refine aw_i2l (v := (Int32.toInt64 v2)) (pc1 := 11) at_304_10 rfl rfl ?_
    obtain ⟨h5, e6, hs2⟩ := am_bind hs1
    clear hs1
    refine aw_pSL (pc1 := 12) at_304_11 e6 rfl ?_
    refine aw_goto at_304_12 ?_
    refine aw_iconst (v := 0) (pc1 := 24) at_304_23 (by decide) rfl ?_
    cases hs2
    exact aw_iret at_304_24 (by rw [rt_304]; rfl) rfl
  · rename_i h7 f8
    refine Or.inr ⟨_, _, 21, 5, f8, rfl, hn_304, hd_304_7_0, ?_⟩
    exact rg_304_21 h7 o   hs1
  · rename_i h9 f10
    refine Or.inr ⟨_, _, 17, 5, f10, rfl, hn_304, hd_304_7_2, ?_⟩
    exact rg_304_17 h9 o   hs1
  · cases hs1
def fm_304 (N : Nat) (y0 : Value) (y1 : Int32) (y2 : Int32) (y3 : Int32) (y4 : Value) (h : am_H) : Option am_O := fg_304_0 N y0 y1 y2 y3 y4 h
theorem rm_304 {X : am_X} {d : Nat} {N : Nat} (y0 : Value) (y1 : Int32) (y2 : Int32) (y3 : Int32) (y4 : Value) (h : am_H) (o : am_O) (i0 : am_isR y0 = true) (i4 : am_isR y4 = true) (hs : fm_304 N y0 y1 y2 y3 y4 h = some o) : am_W X (d + 85) 304 0 (am_args 0 [y0, .int y1, .int y2, .int y3, y4]) [] h (fun q => q = o) := by
  rw [am_args_R i0, am_args_I, am_args_I, am_args_I, am_args_R i4]
  exact rg_304_0 y0 y1 y2 y3 y4 h o rfl rfl rfl rfl rfl i0 i4 hs
def fg_581_165 (N : Nat) (rec_94 : Value → Int32 → Int32 → Int64 → Int64 → Int32 → Int32 → Int32 → am_H → Option am_O) (x0 : Value) (x2 : Int32) (x3 : Int32) (x4 : Int64) (x6 : Int64) (x8 : Int32) (x10 : Int32) (s0 : Int32) (s1 : Int32) (h : am_H) : Option am_O := (rec_94 x0 x2 x3 x4 x6 x8 ((s0 + s1)) ((x10 + 1)) h)
theorem rg_581_165 {X : am_X} {d : Nat} {N : Nat} {rec_94 : Value → Int32 → Int32 → Int64 → Int64 → Int32 → Int32 → Int32 → am_H → Option am_O} (q_94 : ∀ (x0 : Value) (x2 : Int32) (x3 : Int32) (x4 : Int64) (x6 : Int64) (x8 : Int32) (x9 : Int32) (x10 : Int32) (h : am_H) (o : am_O), rec_94 x0 x2 x3 x4 x6 x8 x9 x10 h = some o → ∀ lv : am_LV, (lv.lookup 0 = some x0) → (lv.lookup 2 = some (.int x2)) → (lv.lookup 3 = some (.int x3)) → (lv.lookup 4 = some (.long x4)) → (lv.lookup 6 = some (.long x6)) → (lv.lookup 8 = some (.int x8)) → (lv.lookup 9 = some (.int x9)) → (lv.lookup 10 = some (.int x10)) → (am_isR x0 = true) → am_W X (d + 8) 581 94 lv [] h (fun q => q = o)) {lv : am_LV} (x0 : Value) (x2 : Int32) (x3 : Int32) (x4 : Int64) (x6 : Int64) (x8 : Int32) (x10 : Int32) (s0 : Int32) (s1 : Int32) (h : am_H) (o : am_O) (l0 : lv.lookup 0 = some x0) (l2 : lv.lookup 2 = some (.int x2)) (l3 : lv.lookup 3 = some (.int x3)) (l4 : lv.lookup 4 = some (.long x4)) (l6 : lv.lookup 6 = some (.long x6)) (l8 : lv.lookup 8 = some (.int x8)) (l10 : lv.lookup 10 = some (.int x10)) (i0 : am_isR x0 = true) (hs : fg_581_165 N rec_94 x0 x2 x3 x4 x6 x8 x10 s0 s1 h = some o) : am_W X (d + 8) 581 165 lv [(.int s1), (.int s0)] h (fun q => q = o) := by
  unfold fg_581_165 at hs
  refine aw_iadd (v := (s0 + s1)) (pc1 := 166) at_581_165 rfl rfl ?_
  refine aw_istore (lv1 := am_put1 _ 9 _) (pc1 := 168) at_581_166 rfl rfl ?_
  refine aw_iinc (v := (x10 + 1)) (c := 1) (lv1 := am_put1 _ 10 _) (pc1 := 171) at_581_168 (am_lk1 l10 rfl rfl) (by decide) rfl rfl rfl ?_
  refine aw_goto at_581_171 ?_
  exact q_94 x0 x2 x3 x4 x6 x8 ((s0 + s1)) ((x10 + 1)) h o hs _ (am_lk1 (am_lk1 l0 rfl rfl) rfl rfl) (am_lk1 (am_lk1 l2 rfl rfl) rfl rfl) (am_lk1 (am_lk1 l3 rfl rfl) rfl rfl) (am_lk1 (am_lk1 l4 rfl rfl) rfl rfl) (am_lk1 (am_lk1 l6 rfl rfl) rfl rfl) (am_lk1 (am_lk1 l8 rfl rfl) rfl rfl) (am_lk1 am_lk0 rfl rfl) am_lk0 i0
def fg_581_157 (N : Nat) (rec_94 : Value → Int32 → Int32 → Int64 → Int64 → Int32 → Int32 → Int32 → am_H → Option am_O) (x0 : Value) (x2 : Int32) (x3 : Int32) (x4 : Int64) (x6 : Int64) (x8 : Int32) (x10 : Int32) (s0 : Int32) (s1 : Int32) (s2 : Int32) (h : am_H) : Option am_O := (if ¬ s1 = s2 then (fg_581_165 N rec_94 x0 x2 x3 x4 x6 x8 x10 s0 0 h) else (fg_581_165 N rec_94 x0 x2 x3 x4 x6 x8 x10 s0 1 h))
theorem rg_581_157 {X : am_X} {d : Nat} {N : Nat} {rec_94 : Value → Int32 → Int32 → Int64 → Int64 → Int32 → Int32 → Int32 → am_H → Option am_O} (q_94 : ∀ (x0 : Value) (x2 : Int32) (x3 : Int32) (x4 : Int64) (x6 : Int64) (x8 : Int32) (x9 : Int32) (x10 : Int32) (h : am_H) (o : am_O), rec_94 x0 x2 x3 x4 x6 x8 x9 x10 h = some o → ∀ lv : am_LV, (lv.lookup 0 = some x0) → (lv.lookup 2 = some (.int x2)) → (lv.lookup 3 = some (.int x3)) → (lv.lookup 4 = some (.long x4)) → (lv.lookup 6 = some (.long x6)) → (lv.lookup 8 = some (.int x8)) → (lv.lookup 9 = some (.int x9)) → (lv.lookup 10 = some (.int x10)) → (am_isR x0 = true) → am_W X (d + 8) 581 94 lv [] h (fun q => q = o)) {lv : am_LV} (x0 : Value) (x2 : Int32) (x3 : Int32) (x4 : Int64) (x6 : Int64) (x8 : Int32) (x10 : Int32) (s0 : Int32) (s1 : Int32) (s2 : Int32) (h : am_H) (o : am_O) (l0 : lv.lookup 0 = some x0) (l2 : lv.lookup 2 = some (.int x2)) (l3 : lv.lookup 3 = some (.int x3)) (l4 : lv.lookup 4 = some (.long x4)) (l6 : lv.lookup 6 = some (.long x6)) (l8 : lv.lookup 8 = some (.int x8)) (l10 : lv.lookup 10 = some (.int x10)) (i0 : am_isR x0 = true) (hs : fg_581_157 N rec_94 x0 x2 x3 x4 x6 x8 x10 s0 s1 s2 h = some o) : am_W X (d + 8) 581 157 lv [(.int s2), (.int s1), (.int s0)] h (fun q => q = o) := by
  unfold fg_581_157 at hs
  by_cases c1 : ¬ s1 = s2
  · rw [if_pos c1] at hs
    refine aw_icne_t at_581_157 c1 ?_
    refine aw_iconst (v := 0) (pc1 := 165) at_581_164 (by decide) rfl ?_
    exact rg_581_165 q_94 x0 x2 x3 x4 x6 x8 x10 s0 0 h o l0 l2 l3 l4 l6 l8 l10 i0 hs
  · rw [if_neg c1] at hs
    refine aw_icne_f (pc1 := 160) at_581_157 c1 rfl ?_
    refine aw_iconst (v := 1) (pc1 := 161) at_581_160 (by decide) rfl ?_
    refine aw_goto at_581_161 ?_
    exact rg_581_165 q_94 x0 x2 x3 x4 x6 x8 x10 s0 1 h o l0 l2 l3 l4 l6 l8 l10 i0 hs
def fg_581_94 (N : Nat) : Nat → Value → Int32 → Int32 → Int64 → Int64 → Int32 → Int32 → Int32 → am_H → Option am_O
  | 0 => fun _ _ _ _ _ _ _ _ _ => none
  | K + 1 => fun x0 x2 x3 x4 x6 x8 x9 x10 h => (if x8 ≤ x10 then some (.inl (some (.int x9), h)) else (if am_pOk 12 x0 h then am_cI true (fm_439 N x0 x2 x10 h) (fun v3 h4 => (if am_pOk 12 x0 h4 then am_cV true (fm_428 N x0 0 h4) (fun h8 => ((am_vL (am_pG 3163 x0 h8)).bind fun v10 => ((am_vL (am_pG 3164 x0 h8)).bind fun v12 => (if 0 ≤ (lg_cmp ((v10 * x6) - (x4 * v12)) 0) then (if ¬ (lg_cmp ((v10 * x6) - (x4 * v12)) 0) = 0 then (fg_581_157 N (fg_581_94 N K) x0 x2 x3 x4 x6 x8 x10 x9 x3 2 h8) else (fg_581_157 N (fg_581_94 N K) x0 x2 x3 x4 x6 x8 x10 x9 x3 1 h8)) else (fg_581_157 N (fg_581_94 N K) x0 x2 x3 x4 x6 x8 x10 x9 x3 0 h8))))) else none)) else none))
theorem rg_581_94 {X : am_X} {d : Nat} {N : Nat} : ∀ (K : Nat) (x0 : Value) (x2 : Int32) (x3 : Int32) (x4 : Int64) (x6 : Int64) (x8 : Int32) (x9 : Int32) (x10 : Int32) (h : am_H) (o : am_O), fg_581_94 N K x0 x2 x3 x4 x6 x8 x9 x10 h = some o → ∀ lv : am_LV, (lv.lookup 0 = some x0) → (lv.lookup 2 = some (.int x2)) → (lv.lookup 3 = some (.int x3)) → (lv.lookup 4 = some (.long x4)) → (lv.lookup 6 = some (.long x6)) → (lv.lookup 8 = some (.int x8)) → (lv.lookup 9 = some (.int x9)) → (lv.lookup 10 = some (.int x10)) → (am_isR x0 = true) → am_W X (d + 8) 581 94 lv [] h (fun q => q = o) := by
  intro K
  induction K with
  | zero => intro x0 x2 x3 x4 x6 x8 x9 x10 h o hs; cases hs
  | succ K ih =>
    intro x0 x2 x3 x4 x6 x8 x9 x10 h o hs lv l0 l2 l3 l4 l6 l8 l9 l10 i0
    unfold fg_581_94 at hs
    refine aw_iload (pc1 := 96) at_581_94 l10 rfl ?_
    refine aw_iload (pc1 := 98) at_581_96 l8 rfl ?_
    by_cases c1 : x8 ≤ x10
    · rw [if_pos c1] at hs
      refine aw_icge_t at_581_98 c1 ?_
      refine aw_iload (pc1 := 176) at_581_174 l9 rfl ?_
      cases hs
      exact aw_iret at_581_176 (by rw [rt_581]; rfl) rfl
    · rw [if_neg c1] at hs
      refine aw_icge_f (pc1 := 101) at_581_98 c1 rfl ?_
      refine aw_vload_n (pc1 := 102) at_581_101 l0 i0 rfl ?_
      refine aw_iload_n (pc1 := 103) at_581_102 l2 rfl ?_
      refine aw_iload (pc1 := 105) at_581_103 l10 rfl ?_
      obtain ⟨z2, hs1⟩ := am_ift hs
      clear hs
      refine aw_call (F := fm_439 N x0 x2 x10 h) (t := true) (na := 3) (kd := 1) (as := [x0, (.int x2), (.int x10)]) at_581_105 (am_k3v kb_439) mn_439 mk_439 rfl rfl (am_ok_v mi_439 (am_hl rfl (am_ccR i0 (am_ccI (am_ccI am_cats_0))) rfl) z2) (am_hc am_cats_0 rfl) (fun _ => ⟨rfl, hh_581⟩) (fun o1 hz9 => rm_439 x0 x2 x10 h o1 i0 hz9) ?_
      rcases am_cI_s hs1 with ⟨v3, h4, f5, hs2⟩ | hs2
      · clear hs1
        refine Or.inl ⟨_, _, f5, ?_⟩
        show am_W X _ 581 108 _ [(.int v3)] h4 _
        refine aw_popi (pc1 := 109) at_581_108 rfl ?_
        refine aw_vload_n (pc1 := 110) at_581_109 l0 i0 rfl ?_
        refine aw_iconst (v := 0) (pc1 := 111) at_581_110 (by decide) rfl ?_
        obtain ⟨z6, hs3⟩ := am_ift hs2
        clear hs2
        refine aw_call (F := fm_428 N x0 0 h4) (t := true) (na := 2) (kd := 1) (as := [x0, (.int 0)]) at_581_111 (am_k3v kb_428) mn_428 mk_428 rfl rfl (am_ok_v mi_428 (am_hl rfl (am_ccR i0 (am_ccI am_cats_0)) rfl) z6) (am_hc am_cats_0 rfl) (fun _ => ⟨rfl, hh_581⟩) (fun o1 hz9 => rm_428 x0 0 h4 o1 i0 hz9) ?_
        rcases am_cV_s hs3 with ⟨h8, f9, hs4⟩ | hs4
        · clear hs3
          refine Or.inl ⟨_, _, f9, ?_⟩
          show am_W X _ 581 114 _ [] h8 _
          refine aw_vload_n (pc1 := 115) at_581_114 l0 i0 rfl ?_
          obtain ⟨v10, e11, hs5⟩ := am_bind hs4
          clear hs4
          refine aw_pG (pc1 := 118) at_581_115 (am_vL_s e11) rfl ?_
          refine aw_lload (pc1 := 120) at_581_118 l6 rfl ?_
          refine aw_lmul (v := (v10 * x6)) (pc1 := 121) at_581_120 rfl rfl ?_
          refine aw_lload (pc1 := 123) at_581_121 l4 rfl ?_
          refine aw_vload_n (pc1 := 124) at_581_123 l0 i0 rfl ?_
          obtain ⟨v12, e13, hs6⟩ := am_bind hs5
          clear hs5
          refine aw_pG (pc1 := 127) at_581_124 (am_vL_s e13) rfl ?_
          refine aw_lmul (v := (x4 * v12)) (pc1 := 128) at_581_127 rfl rfl ?_
          refine aw_lsub (v := ((v10 * x6) - (x4 * v12))) (pc1 := 129) at_581_128 rfl rfl ?_
          refine aw_lstore (lv1 := am_put2 _ 11 _) (pc1 := 131) at_581_129 rfl rfl ?_
          refine aw_iload (pc1 := 133) at_581_131 (am_lk2 l9 rfl rfl) rfl ?_
          refine aw_iload_n (pc1 := 134) at_581_133 (am_lk2 l3 rfl rfl) rfl ?_
          refine aw_lload (pc1 := 136) at_581_134 am_lk02 rfl ?_
          refine aw_lconst (v := 0) (pc1 := 137) at_581_136 (by decide) rfl ?_
          refine aw_lcmp (v := (lg_cmp ((v10 * x6) - (x4 * v12)) 0)) (pc1 := 138) at_581_137 rfl rfl ?_
          by_cases c14 : 0 ≤ (lg_cmp ((v10 * x6) - (x4 * v12)) 0)
          · rw [if_pos c14] at hs6
            refine aw_ifge_t at_581_138 c14 ?_
            refine aw_lload (pc1 := 147) at_581_145 am_lk02 rfl ?_
            refine aw_lconst (v := 0) (pc1 := 148) at_581_147 (by decide) rfl ?_
            refine aw_lcmp (v := (lg_cmp ((v10 * x6) - (x4 * v12)) 0)) (pc1 := 149) at_581_148 rfl rfl ?_
            by_cases c15 : ¬ (lg_cmp ((v10 * x6) - (x4 * v12)) 0) = 0
            · rw [if_pos c15] at hs6
              refine aw_ifne_t at_581_149 c15 ?_
              refine aw_iconst (v := 2) (pc1 := 157) at_581_156 (by decide) rfl ?_
              exact rg_581_157 (fun z0 z1 z2 z3 z4 z5 z6 z7 h o hs6 => ih z0 z1 z2 z3 z4 z5 z6 z7 h o hs6) x0 x2 x3 x4 x6 x8 x10 x9 x3 2 h8 o (am_lk2 l0 rfl rfl) (am_lk2 l2 rfl rfl) (am_lk2 l3 rfl rfl) (am_lk2 l4 rfl rfl) (am_lk2 l6 rfl rfl) (am_lk2 l8 rfl rfl) (am_lk2 l10 rfl rfl) i0 hs6
            · rw [if_neg c15] at hs6
              refine aw_ifne_f (pc1 := 152) at_581_149 c15 rfl ?_
              refine aw_iconst (v := 1) (pc1 := 153) at_581_152 (by decide) rfl ?_
              refine aw_goto at_581_153 ?_
              exact rg_581_157 (fun z0 z1 z2 z3 z4 z5 z6 z7 h o hs6 => ih z0 z1 z2 z3 z4 z5 z6 z7 h o hs6) x0 x2 x3 x4 x6 x8 x10 x9 x3 1 h8 o (am_lk2 l0 rfl rfl) (am_lk2 l2 rfl rfl) (am_lk2 l3 rfl rfl) (am_lk2 l4 rfl rfl) (am_lk2 l6 rfl rfl) (am_lk2 l8 rfl rfl) (am_lk2 l10 rfl rfl) i0 hs6
          · rw [if_neg c14] at hs6
            refine aw_ifge_f (pc1 := 141) at_581_138 c14 rfl ?_
            refine aw_iconst (v := 0) (pc1 := 142) at_581_141 (by decide) rfl ?_
            refine aw_goto at_581_142 ?_
            exact rg_581_157 (fun z0 z1 z2 z3 z4 z5 z6 z7 h o hs6 => ih z0 z1 z2 z3 z4 z5 z6 z7 h o hs6) x0 x2 x3 x4 x6 x8 x10 x9 x3 0 h8 o (am_lk2 l0 rfl rfl) (am_lk2 l2 rfl rfl) (am_lk2 l3 rfl rfl) (am_lk2 l4 rfl rfl) (am_lk2 l6 rfl rfl) (am_lk2 l8 rfl rfl) (am_lk2 l10 rfl rfl) i0 hs6
        · clear hs3
          exact Or.inr hs4
      · clear hs1
        exact Or.inr hs2
def fg_581_42 (N : Nat) (x0 : Value) (x1 : Int32) (x2 : Int32) (x3 : Int32) (s0 : Value) (s1 : Int32) (h : am_H) : Option am_O := ((am_pP 3072 s0 (.int s1) h).bind fun h1 => ((am_vI (am_pG 3072 x0 h1)).bind fun v3 => (if v3 ≤ 0 then (if am_pOk 12 x0 h1 then am_cV true (fm_391 N x0 x1 h1) (fun h8 => (if am_pOk 12 x0 h8 then am_cV true (fm_442 N x0 h8) (fun h12 => (if am_pOk 12 x0 h12 then am_cV true (fm_428 N x0 0 h12) (fun h16 => ((am_vL (am_pG 3163 x0 h16)).bind fun v18 => ((am_vL (am_pG 3164 x0 h16)).bind fun v20 => (if am_pOk 12 x0 h16 then am_cI true (fm_439 N x0 x2 ((-1)) h16) (fun v23 h24 => (fg_581_94 N N x0 x2 x3 v18 v20 v23 0 0 h24)) else none)))) else none)) else none)) else none) else some (.inl (some (.int 0), h1)))))
theorem rg_581_42 {X : am_X} {d : Nat} {N : Nat} {lv : am_LV} (x0 : Value) (x1 : Int32) (x2 : Int32) (x3 : Int32) (s0 : Value) (s1 : Int32) (h : am_H) (o : am_O) (l0 : lv.lookup 0 = some x0) (l1 : lv.lookup 1 = some (.int x1)) (l2 : lv.lookup 2 = some (.int x2)) (l3 : lv.lookup 3 = some (.int x3)) (i0 : am_isR x0 = true) (j0 : am_isR s0 = true) (hs : fg_581_42 N x0 x1 x2 x3 s0 s1 h = some o) : am_W X (d + 8) 581 42 lv [(.int s1), s0] h (fun q => q = o) := by
  unfold fg_581_42 at hs
  obtain ⟨h1, e2, hs1⟩ := am_bind hs
  clear hs
  refine aw_pP (pc1 := 45) at_581_42 e2 rfl ?_
  refine aw_vload_n (pc1 := 46) at_581_45 l0 i0 rfl ?_
  obtain ⟨v3, e4, hs2⟩ := am_bind hs1
  clear hs1
  refine aw_pG (pc1 := 49) at_581_46 (am_vI_s e4) rfl ?_
  by_cases c5 : v3 ≤ 0
  · rw [if_pos c5] at hs2
    refine aw_ifle_t at_581_49 c5 ?_
    refine aw_vload_n (pc1 := 55) at_581_54 l0 i0 rfl ?_
    refine aw_iload_n (pc1 := 56) at_581_55 l1 rfl ?_
    obtain ⟨z6, hs3⟩ := am_ift hs2
    clear hs2
    refine aw_call (F := fm_391 N x0 x1 h1) (t := true) (na := 2) (kd := 1) (as := [x0, (.int x1)]) at_581_56 (am_k3v kb_391) mn_391 mk_391 rfl rfl (am_ok_v mi_391 (am_hl rfl (am_ccR i0 (am_ccI am_cats_0)) rfl) z6) (am_hc am_cats_0 rfl) (fun _ => ⟨rfl, hh_581⟩) (fun o1 hz9 => rm_391 x0 x1 h1 o1 i0 hz9) ?_
    rcases am_cV_s hs3 with ⟨h8, f9, hs4⟩ | hs4
    · clear hs3
      refine Or.inl ⟨_, _, f9, ?_⟩
      show am_W X _ 581 59 _ [] h8 _
      refine aw_vload_n (pc1 := 60) at_581_59 l0 i0 rfl ?_
      obtain ⟨z10, hs5⟩ := am_ift hs4
      clear hs4
      refine aw_call (F := fm_442 N x0 h8) (t := true) (na := 1) (kd := 1) (as := [x0]) at_581_60 (am_k3v kb_442) mn_442 mk_442 rfl rfl (am_ok_v mi_442 (am_hl rfl (am_ccR i0 am_cats_0) rfl) z10) (am_hc am_cats_0 rfl) (fun _ => ⟨rfl, hh_581⟩) (fun o1 hz9 => rm_442 x0 h8 o1 i0 hz9) ?_
      rcases am_cV_s hs5 with ⟨h12, f13, hs6⟩ | hs6
      · clear hs5
        refine Or.inl ⟨_, _, f13, ?_⟩
        show am_W X _ 581 63 _ [] h12 _
        refine aw_vload_n (pc1 := 64) at_581_63 l0 i0 rfl ?_
        refine aw_iconst (v := 0) (pc1 := 65) at_581_64 (by decide) rfl ?_
        obtain ⟨z14, hs7⟩ := am_ift hs6
        clear hs6
        refine aw_call (F := fm_428 N x0 0 h12) (t := true) (na := 2) (kd := 1) (as := [x0, (.int 0)]) at_581_65 (am_k3v kb_428) mn_428 mk_428 rfl rfl (am_ok_v mi_428 (am_hl rfl (am_ccR i0 (am_ccI am_cats_0)) rfl) z14) (am_hc am_cats_0 rfl) (fun _ => ⟨rfl, hh_581⟩) (fun o1 hz9 => rm_428 x0 0 h12 o1 i0 hz9) ?_
        rcases am_cV_s hs7 with ⟨h16, f17, hs8⟩ | hs8
        · clear hs7
          refine Or.inl ⟨_, _, f17, ?_⟩
          show am_W X _ 581 68 _ [] h16 _
          refine aw_vload_n (pc1 := 69) at_581_68 l0 i0 rfl ?_
          obtain ⟨v18, e19, hs9⟩ := am_bind hs8
          clear hs8
          refine aw_pG (pc1 := 72) at_581_69 (am_vL_s e19) rfl ?_
          refine aw_lstore (lv1 := am_put2 _ 4 _) (pc1 := 74) at_581_72 rfl rfl ?_
          refine aw_vload_n (pc1 := 75) at_581_74 (am_lk2 l0 rfl rfl) i0 rfl ?_
          obtain ⟨v20, e21, hs10⟩ := am_bind hs9
          clear hs9
          refine aw_pG (pc1 := 78) at_581_75 (am_vL_s e21) rfl ?_
          refine aw_lstore (lv1 := am_put2 _ 6 _) (pc1 := 80) at_581_78 rfl rfl ?_
          refine aw_vload_n (pc1 := 81) at_581_80 (am_lk2 (am_lk2 l0 rfl rfl) rfl rfl) i0 rfl ?_
          refine aw_iload_n (pc1 := 82) at_581_81 (am_lk2 (am_lk2 l2 rfl rfl) rfl rfl) rfl ?_
          refine aw_iconst (v := (-1)) (pc1 := 83) at_581_82 (by decide) rfl ?_
          obtain ⟨z22, hs11⟩ := am_ift hs10
          clear hs10
          refine aw_call (F := fm_439 N x0 x2 ((-1)) h16) (t := true) (na := 3) (kd := 1) (as := [x0, (.int x2), (.int (-1))]) at_581_83 (am_k3v kb_439) mn_439 mk_439 rfl rfl (am_ok_v mi_439 (am_hl rfl (am_ccR i0 (am_ccI (am_ccI am_cats_0))) rfl) z22) (am_hc am_cats_0 rfl) (fun _ => ⟨rfl, hh_581⟩) (fun o1 hz9 => rm_439 x0 x2 ((-1)) h16 o1 i0 hz9) ?_
          rcases am_cI_s hs11 with ⟨v23, h24, f25, hs12⟩ | hs12
          · clear hs11
            refine Or.inl ⟨_, _, f25, ?_⟩
            show am_W X _ 581 86 _ [(.int v23)] h24 _
            refine aw_istore (lv1 := am_put1 _ 8 _) (pc1 := 88) at_581_86 rfl rfl ?_
            refine aw_iconst (v := 0) (pc1 := 89) at_581_88 (by decide) rfl ?_
            refine aw_istore (lv1 := am_put1 _ 9 _) (pc1 := 91) at_581_89 rfl rfl ?_
            refine aw_iconst (v := 0) (pc1 := 92) at_581_91 (by decide) rfl ?_
            refine aw_istore (lv1 := am_put1 _ 10 _) (pc1 := 94) at_581_92 rfl rfl ?_
            exact rg_581_94 N x0 x2 x3 v18 v20 v23 0 0 h24 o hs12 _ (am_lk1 (am_lk1 (am_lk1 (am_lk2 (am_lk2 l0 rfl rfl) rfl rfl) rfl rfl) rfl rfl) rfl rfl) (am_lk1 (am_lk1 (am_lk1 (am_lk2 (am_lk2 l2 rfl rfl) rfl rfl) rfl rfl) rfl rfl) rfl rfl) (am_lk1 (am_lk1 (am_lk1 (am_lk2 (am_lk2 l3 rfl rfl) rfl rfl) rfl rfl) rfl rfl) rfl rfl) (am_lk1 (am_lk1 (am_lk1 (am_lk2 am_lk02 rfl rfl) rfl rfl) rfl rfl) rfl rfl) (am_lk1 (am_lk1 (am_lk1 am_lk02 rfl rfl) rfl rfl) rfl rfl) (am_lk1 (am_lk1 am_lk0 rfl rfl) rfl rfl) (am_lk1 am_lk0 rfl rfl) am_lk0 i0
          · clear hs11
            exact Or.inr hs12
        · clear hs7
          exact Or.inr hs8
      · clear hs5
        exact Or.inr hs6
    · clear hs3
      exact Or.inr hs4
  · rw [if_neg c5] at hs2
    refine aw_ifle_f (pc1 := 52) at_581_49 c5 rfl ?_
    refine aw_iconst (v := 0) (pc1 := 53) at_581_52 (by decide) rfl ?_
    cases hs2
    exact aw_iret at_581_53 (by rw [rt_581]; rfl) rfl
def fg_581_37 (N : Nat) (x0 : Value) (x1 : Int32) (x2 : Int32) (x3 : Int32) (s0 : Value) (h : am_H) : Option am_O := (fg_581_42 N x0 x1 x2 x3 s0 2 h)
theorem rg_581_37 {X : am_X} {d : Nat} {N : Nat} {lv : am_LV} (x0 : Value) (x1 : Int32) (x2 : Int32) (x3 : Int32) (s0 : Value) (h : am_H) (o : am_O) (l0 : lv.lookup 0 = some x0) (l1 : lv.lookup 1 = some (.int x1)) (l2 : lv.lookup 2 = some (.int x2)) (l3 : lv.lookup 3 = some (.int x3)) (i0 : am_isR x0 = true) (j0 : am_isR s0 = true) (hs : fg_581_37 N x0 x1 x2 x3 s0 h = some o) : am_W X (d + 8) 581 37 lv [s0] h (fun q => q = o) := by
  unfold fg_581_37 at hs
  refine aw_iconst (v := 2) (pc1 := 38) at_581_37 (by decide) rfl ?_
  refine aw_goto at_581_38 ?_
  exact rg_581_42 x0 x1 x2 x3 s0 2 h o l0 l1 l2 l3 i0 j0 hs
def fg_581_0 (N : Nat) (x0 : Value) (x1 : Int32) (x2 : Int32) (x3 : Int32) (h : am_H) : Option am_O := (if am_pOk 12 x0 h then am_cI true (fm_358 x0 x1 h) (fun v2 h3 => (if ¬ v2 = 0 then am_cI false (fm_327 ((Int32.toInt64 x2)) 0 3 h3) (fun v6 h7 => (if v6 = 0 then (fg_581_37 N x0 x1 x2 x3 x0 h7) else am_cI false (fm_327 ((Int32.toInt64 x3)) 0 2 h7) (fun v10 h11 => (if ¬ v10 = 0 then (fg_581_42 N x0 x1 x2 x3 x0 0 h11) else (fg_581_37 N x0 x1 x2 x3 x0 h11))))) else (fg_581_42 N x0 x1 x2 x3 x0 1 h3))) else none)
theorem rg_581_0 {X : am_X} {d : Nat} {N : Nat} {lv : am_LV} (x0 : Value) (x1 : Int32) (x2 : Int32) (x3 : Int32) (h : am_H) (o : am_O) (l0 : lv.lookup 0 = some x0) (l1 : lv.lookup 1 = some (.int x1)) (l2 : lv.lookup 2 = some (.int x2)) (l3 : lv.lookup 3 = some (.int x3)) (i0 : am_isR x0 = true) (hs : fg_581_0 N x0 x1 x2 x3 h = some o) : am_W X (d + 8) 581 0 lv [] h (fun q => q = o) := by
  unfold fg_581_0 at hs
  refine aw_vload_n (pc1 := 1) at_581_0 l0 i0 rfl ?_
  refine aw_vload_n (pc1 := 2) at_581_1 l0 i0 rfl ?_
  refine aw_iload_n (pc1 := 3) at_581_2 l1 rfl ?_
  obtain ⟨z1, hs1⟩ := am_ift hs
  clear hs
  refine aw_call (F := fm_358 x0 x1 h) (t := true) (na := 2) (kd := 1) (as := [x0, (.int x1)]) at_581_3 (am_k3v kb_358) mn_358 mk_358 rfl rfl (am_ok_v mi_358 (am_hl rfl (am_ccR i0 (am_ccI am_cats_0)) rfl) z1) (am_hc (am_ccR i0 am_cats_0) rfl) (fun _ => ⟨rfl, hh_581⟩) (fun o1 hz9 => rm_358 x0 x1 h o1 i0 hz9) ?_
  rcases am_cI_s hs1 with ⟨v2, h3, f4, hs2⟩ | hs2
  · clear hs1
    refine Or.inl ⟨_, _, f4, ?_⟩
    show am_W X _ 581 6 _ [(.int v2), x0] h3 _
    by_cases c5 : ¬ v2 = 0
    · rw [if_pos c5] at hs2
      refine aw_ifne_t at_581_6 c5 ?_
      refine aw_iload_n (pc1 := 14) at_581_13 l2 rfl ?_
      refine aw_i2l (v := (Int32.toInt64 x2)) (pc1 := 15) at_581_14 rfl rfl ?_
      refine aw_lconst (v := 0) (pc1 := 16) at_581_15 (by decide) rfl ?_
      refine aw_ldc2 (v := 3) (pc1 := 19) at_581_16 rfl rfl ?_
      refine aw_call (F := fm_327 ((Int32.toInt64 x2)) 0 3 h3) (t := false) (na := 3) (kd := 0) (as := [(.long (Int32.toInt64 x2)), (.long 0), (.long 3)]) at_581_19 (am_k3s kb_327) mn_327 mk_327 rfl rfl (am_ok_s mi_327 (am_hl rfl (am_ccL (am_ccL (am_ccL am_cats_0))) rfl)) (am_hc (am_ccR i0 am_cats_0) rfl) (fun hz9 => by cases hz9) (fun o1 hz9 => rm_327 ((Int32.toInt64 x2)) 0 3 h3 o1  hz9) ?_
      rcases am_cI_s hs2 with ⟨v6, h7, f8, hs3⟩ | hs3
      · clear hs2
        refine Or.inl ⟨_, _, f8, ?_⟩
        show am_W X _ 581 22 _ [(.int v6), x0] h7 _
        by_cases c9 : v6 = 0
        · rw [if_pos c9] at hs3
          refine aw_ifeq_t at_581_22 c9 ?_
          exact rg_581_37 x0 x1 x2 x3 x0 h7 o l0 l1 l2 l3 i0 i0 hs3
        · rw [if_neg c9] at hs3
          refine aw_ifeq_f (pc1 := 25) at_581_22 c9 rfl ?_
          refine aw_iload_n (pc1 := 26) at_581_25 l3 rfl ?_
          refine aw_i2l (v := (Int32.toInt64 x3)) (pc1 := 27) at_581_26 rfl rfl ?_
          refine aw_lconst (v := 0) (pc1 := 28) at_581_27 (by decide) rfl ?_
          refine aw_ldc2 (v := 2) (pc1 := 31) at_581_28 rfl rfl ?_
          refine aw_call (F := fm_327 ((Int32.toInt64 x3)) 0 2 h7) (t := false) (na := 3) (kd := 0) (as := [(.long (Int32.toInt64 x3)), (.long 0), (.long 2)]) at_581_31 (am_k3s kb_327) mn_327 mk_327 rfl rfl (am_ok_s mi_327 (am_hl rfl (am_ccL (am_ccL (am_ccL am_cats_0))) rfl)) (am_hc (am_ccR i0 am_cats_0) rfl) (fun hz9 => by cases hz9) (fun o1 hz9 => rm_327 ((Int32.toInt64 x3)) 0 2 h7 o1  hz9) ?_
          rcases am_cI_s hs3 with ⟨v10, h11, f12, hs4⟩ | hs4
          · clear hs3
            refine Or.inl ⟨_, _, f12, ?_⟩
            show am_W X _ 581 34 _ [(.int v10), x0] h11 _
            by_cases c13 : ¬ v10 = 0
            · rw [if_pos c13] at hs4
              refine aw_ifne_t at_581_34 c13 ?_
              refine aw_iconst (v := 0) (pc1 := 42) at_581_41 (by decide) rfl ?_
              exact rg_581_42 x0 x1 x2 x3 x0 0 h11 o l0 l1 l2 l3 i0 i0 hs4
            · rw [if_neg c13] at hs4
              refine aw_ifne_f (pc1 := 37) at_581_34 c13 rfl ?_
              exact rg_581_37 x0 x1 x2 x3 x0 h11 o l0 l1 l2 l3 i0 i0 hs4
          · clear hs3
            exact Or.inr hs4
      · clear hs2
        exact Or.inr hs3
    · rw [if_neg c5] at hs2
      refine aw_ifne_f (pc1 := 9) at_581_6 c5 rfl ?_
      refine aw_iconst (v := 1) (pc1 := 10) at_581_9 (by decide) rfl ?_
      refine aw_goto at_581_10 ?_
      exact rg_581_42 x0 x1 x2 x3 x0 1 h3 o l0 l1 l2 l3 i0 i0 hs2
  · clear hs1
    exact Or.inr hs2
def fm_581 (N : Nat) (y0 : Value) (y1 : Int32) (y2 : Int32) (y3 : Int32) (h : am_H) : Option am_O := fg_581_0 N y0 y1 y2 y3 h
theorem rm_581 {X : am_X} {d : Nat} {N : Nat} (y0 : Value) (y1 : Int32) (y2 : Int32) (y3 : Int32) (h : am_H) (o : am_O) (i0 : am_isR y0 = true) (hs : fm_581 N y0 y1 y2 y3 h = some o) : am_W X (d + 8) 581 0 (am_args 0 [y0, .int y1, .int y2, .int y3]) [] h (fun q => q = o) := by
  rw [am_args_R i0, am_args_I, am_args_I, am_args_I]
  exact rg_581_0 y0 y1 y2 y3 h o rfl rfl rfl rfl i0 hs
def fg_307_104 (N : Nat) (s0 : Int32) (h : am_H) : Option am_O := some (.inl (some (.int s0), h))
theorem rg_307_104 {X : am_X} {d : Nat} {N : Nat} {lv : am_LV} (s0 : Int32) (h : am_H) (o : am_O) (hs : fg_307_104 N s0 h = some o) : am_W X (d + 82) 307 104 lv [(.int s0)] h (fun q => q = o) := by
  unfold fg_307_104 at hs
  cases hs
  exact aw_iret at_307_104 (by rw [rt_307]; rfl) rfl
def fg_307_78 (N : Nat) (x0 : Value) (x1 : Int32) (s0 : Int32) (h : am_H) : Option am_O := (if s0 = 0 then (fg_307_104 N ((-1)) h) else ((am_vR (am_pG 2831 x0 h)).bind fun v2 => (if am_pOk 11 x0 h then am_cI true (fm_59 x0 v2 7 x1 ((-1)) ((-1)) ((-1)) 0 h) (fun v5 h6 => (fg_307_104 N v5 h6)) else none)))
theorem rg_307_78 {X : am_X} {d : Nat} {N : Nat} {lv : am_LV} (x0 : Value) (x1 : Int32) (s0 : Int32) (h : am_H) (o : am_O) (l0 : lv.lookup 0 = some x0) (l1 : lv.lookup 1 = some (.int x1)) (i0 : am_isR x0 = true) (hs : fg_307_78 N x0 x1 s0 h = some o) : am_W X (d + 82) 307 78 lv [(.int s0)] h (fun q => q = o) := by
  unfold fg_307_78 at hs
  refine aw_istore (lv1 := am_put1 _ 4 _) (pc1 := 80) at_307_78 rfl rfl ?_
  refine aw_iload (pc1 := 82) at_307_80 am_lk0 rfl ?_
  by_cases c1 : s0 = 0
  · rw [if_pos c1] at hs
    refine aw_ifeq_t at_307_82 c1 ?_
    refine aw_iconst (v := (-1)) (pc1 := 104) at_307_103 (by decide) rfl ?_
    exact rg_307_104 ((-1)) h o   hs
  · rw [if_neg c1] at hs
    refine aw_ifeq_f (pc1 := 85) at_307_82 c1 rfl ?_
    refine aw_vload_n (pc1 := 86) at_307_85 (am_lk1 l0 rfl rfl) i0 rfl ?_
    refine aw_vload_n (pc1 := 87) at_307_86 (am_lk1 l0 rfl rfl) i0 rfl ?_
    obtain ⟨v2, e3, hs1⟩ := am_bind hs
    clear hs
    refine aw_pG (pc1 := 90) at_307_87 (am_vR_s e3).1 rfl ?_
    refine aw_bipush (v := 7) (pc1 := 92) at_307_90 (by decide) rfl ?_
    refine aw_iload_n (pc1 := 93) at_307_92 (am_lk1 l1 rfl rfl) rfl ?_
    refine aw_iconst (v := (-1)) (pc1 := 94) at_307_93 (by decide) rfl ?_
    refine aw_iconst (v := (-1)) (pc1 := 95) at_307_94 (by decide) rfl ?_
    refine aw_iconst (v := (-1)) (pc1 := 96) at_307_95 (by decide) rfl ?_
    refine aw_lconst (v := 0) (pc1 := 97) at_307_96 (by decide) rfl ?_
    obtain ⟨z4, hs2⟩ := am_ift hs1
    clear hs1
    refine aw_call (F := fm_59 x0 v2 7 x1 ((-1)) ((-1)) ((-1)) 0 h) (t := true) (na := 8) (kd := 1) (as := [x0, v2, (.int 7), (.int x1), (.int (-1)), (.int (-1)), (.int (-1)), (.long 0)]) at_307_97 (am_k3v kb_59) mn_59 mk_59 rfl rfl (am_ok_v mi_59 (am_hl rfl (am_ccR i0 (am_ccR (am_vR_s e3).2 (am_ccI (am_ccI (am_ccI (am_ccI (am_ccI (am_ccL am_cats_0)))))))) rfl) z4) (am_hc am_cats_0 rfl) (fun _ => ⟨rfl, hh_307⟩) (fun o1 hz9 => rm_59 x0 v2 7 x1 ((-1)) ((-1)) ((-1)) 0 h o1 i0 (am_vR_s e3).2 hz9) ?_
    rcases am_cI_s hs2 with ⟨v5, h6, f7, hs3⟩ | hs3
    · clear hs2
      refine Or.inl ⟨_, _, f7, ?_⟩
      show am_W X _ 307 100 _ [(.int v5)] h6 _
      refine aw_goto at_307_100 ?_
      exact rg_307_104 v5 h6 o   hs3
    · clear hs2
      exact Or.inr hs3
def fg_307_41 (N : Nat) (x0 : Value) (x1 : Int32) (x2 : Int32) (x3 : Value) (h : am_H) : Option am_O := (if am_pOk 11 x0 h then am_cV true (fm_32 x0 1 h) (fun h3 => (if ¬ x2 = 1 then ((am_vR (am_pG 2825 x0 h3)).bind fun v6 => ((am_vR (am_pG 2831 x0 h3)).bind fun v8 => (if am_pOk 10 v6 h3 then am_cI true (fm_293 N v6 x3 v8 h3) (fun v11 h12 => (fg_307_78 N x0 x1 v11 h12)) else none))) else ((am_vR (am_pG 2825 x0 h3)).bind fun v14 => ((am_vR (am_pG 2831 x0 h3)).bind fun v16 => (if am_pOk 10 v14 h3 then am_cI true (fm_205 N v14 x3 v16 h3) (fun v19 h20 => (fg_307_78 N x0 x1 v19 h20)) else none))))) else none)
theorem rg_307_41 {X : am_X} {d : Nat} {N : Nat} {lv : am_LV} (x0 : Value) (x1 : Int32) (x2 : Int32) (x3 : Value) (h : am_H) (o : am_O) (l0 : lv.lookup 0 = some x0) (l1 : lv.lookup 1 = some (.int x1)) (l2 : lv.lookup 2 = some (.int x2)) (l3 : lv.lookup 3 = some x3) (i0 : am_isR x0 = true) (i3 : am_isR x3 = true) (hs : fg_307_41 N x0 x1 x2 x3 h = some o) : am_W X (d + 82) 307 41 lv [] h (fun q => q = o) := by
  unfold fg_307_41 at hs
  refine aw_vload_n (pc1 := 42) at_307_41 l0 i0 rfl ?_
  refine aw_iconst (v := 1) (pc1 := 43) at_307_42 (by decide) rfl ?_
  obtain ⟨z1, hs1⟩ := am_ift hs
  clear hs
  refine aw_call (F := fm_32 x0 1 h) (t := true) (na := 2) (kd := 1) (as := [x0, (.int 1)]) at_307_43 (am_k3v kb_32) mn_32 mk_32 rfl rfl (am_ok_v mi_32 (am_hl rfl (am_ccR i0 (am_ccI am_cats_0)) rfl) z1) (am_hc am_cats_0 rfl) (fun _ => ⟨rfl, hh_307⟩) (fun o1 hz9 => rm_32 x0 1 h o1 i0 hz9) ?_
  rcases am_cV_s hs1 with ⟨h3, f4, hs2⟩ | hs2
  · clear hs1
    refine Or.inl ⟨_, _, f4, ?_⟩
    show am_W X _ 307 46 _ [] h3 _
    refine aw_iload_n (pc1 := 47) at_307_46 l2 rfl ?_
    refine aw_iconst (v := 1) (pc1 := 48) at_307_47 (by decide) rfl ?_
    by_cases c5 : ¬ x2 = 1
    · rw [if_pos c5] at hs2
      refine aw_icne_t at_307_48 c5 ?_
      refine aw_vload_n (pc1 := 67) at_307_66 l0 i0 rfl ?_
      obtain ⟨v6, e7, hs3⟩ := am_bind hs2
      clear hs2
      refine aw_pG (pc1 := 70) at_307_67 (am_vR_s e7).1 rfl ?_
      refine aw_vload_n (pc1 := 71) at_307_70 l3 i3 rfl ?_
      refine aw_vload_n (pc1 := 72) at_307_71 l0 i0 rfl ?_
      obtain ⟨v8, e9, hs4⟩ := am_bind hs3
      clear hs3
      refine aw_pG (pc1 := 75) at_307_72 (am_vR_s e9).1 rfl ?_
      obtain ⟨z10, hs5⟩ := am_ift hs4
      clear hs4
      refine aw_call (F := fm_293 N v6 x3 v8 h3) (t := true) (na := 3) (kd := 1) (as := [v6, x3, v8]) at_307_75 (am_k3v kb_293) mn_293 mk_293 rfl rfl (am_ok_v mi_293 (am_hl rfl (am_ccR (am_vR_s e7).2 (am_ccR i3 (am_ccR (am_vR_s e9).2 am_cats_0))) rfl) z10) (am_hc am_cats_0 rfl) (fun _ => ⟨rfl, hh_307⟩) (fun o1 hz9 => rm_293 v6 x3 v8 h3 o1 (am_vR_s e7).2 i3 (am_vR_s e9).2 hz9) ?_
      rcases am_cI_s hs5 with ⟨v11, h12, f13, hs6⟩ | hs6
      · clear hs5
        refine Or.inl ⟨_, _, f13, ?_⟩
        show am_W X _ 307 78 _ [(.int v11)] h12 _
        exact rg_307_78 x0 x1 v11 h12 o l0 l1 i0 hs6
      · clear hs5
        exact Or.inr hs6
    · rw [if_neg c5] at hs2
      refine aw_icne_f (pc1 := 51) at_307_48 c5 rfl ?_
      refine aw_vload_n (pc1 := 52) at_307_51 l0 i0 rfl ?_
      obtain ⟨v14, e15, hs7⟩ := am_bind hs2
      clear hs2
      refine aw_pG (pc1 := 55) at_307_52 (am_vR_s e15).1 rfl ?_
      refine aw_vload_n (pc1 := 56) at_307_55 l3 i3 rfl ?_
      refine aw_vload_n (pc1 := 57) at_307_56 l0 i0 rfl ?_
      obtain ⟨v16, e17, hs8⟩ := am_bind hs7
      clear hs7
      refine aw_pG (pc1 := 60) at_307_57 (am_vR_s e17).1 rfl ?_
      obtain ⟨z18, hs9⟩ := am_ift hs8
      clear hs8
      refine aw_call (F := fm_205 N v14 x3 v16 h3) (t := true) (na := 3) (kd := 1) (as := [v14, x3, v16]) at_307_60 (am_k3v kb_205) mn_205 mk_205 rfl rfl (am_ok_v mi_205 (am_hl rfl (am_ccR (am_vR_s e15).2 (am_ccR i3 (am_ccR (am_vR_s e17).2 am_cats_0))) rfl) z18) (am_hc am_cats_0 rfl) (fun _ => ⟨rfl, hh_307⟩) (fun o1 hz9 => rm_205 v14 x3 v16 h3 o1 (am_vR_s e15).2 i3 (am_vR_s e17).2 hz9) ?_
      rcases am_cI_s hs9 with ⟨v19, h20, f21, hs10⟩ | hs10
      · clear hs9
        refine Or.inl ⟨_, _, f21, ?_⟩
        show am_W X _ 307 63 _ [(.int v19)] h20 _
        refine aw_goto at_307_63 ?_
        exact rg_307_78 x0 x1 v19 h20 o l0 l1 i0 hs10
      · clear hs9
        exact Or.inr hs10
  · clear hs1
    exact Or.inr hs2
def fg_307_30 (N : Nat) (h : am_H) : Option am_O := some (.inr (0, h ++ [am_dummy]))
theorem rg_307_30 {X : am_X} {d : Nat} {N : Nat} {lv : am_LV} (h : am_H) (o : am_O) (hs : fg_307_30 N h = some o) : am_W X (d + 82) 307 30 lv [] h (fun q => q = o) := by
  unfold fg_307_30 at hs
  cases hs
  exact aw_throw at_307_30 rfl th_307_30 (am_hc am_cats_0 rfl) rfl
def fg_307_18 (N : Nat) (x0 : Value) (x1 : Int32) (x2 : Int32) (x3 : Value) (h : am_H) : Option am_O := ((am_vI (am_pG 769 x3 h)).bind fun v1 => (if ¬ v1 = 1 then (fg_307_30 N h) else (if x2 = 0 then (fg_307_41 N x0 x1 x2 x3 h) else (fg_307_30 N h))))
theorem rg_307_18 {X : am_X} {d : Nat} {N : Nat} {lv : am_LV} (x0 : Value) (x1 : Int32) (x2 : Int32) (x3 : Value) (h : am_H) (o : am_O) (l0 : lv.lookup 0 = some x0) (l1 : lv.lookup 1 = some (.int x1)) (l2 : lv.lookup 2 = some (.int x2)) (l3 : lv.lookup 3 = some x3) (i0 : am_isR x0 = true) (i3 : am_isR x3 = true) (hs : fg_307_18 N x0 x1 x2 x3 h = some o) : am_W X (d + 82) 307 18 lv [] h (fun q => q = o) := by
  unfold fg_307_18 at hs
  refine aw_vload_n (pc1 := 19) at_307_18 l3 i3 rfl ?_
  obtain ⟨v1, e2, hs1⟩ := am_bind hs
  clear hs
  refine aw_pG (pc1 := 22) at_307_19 (am_vI_s e2) rfl ?_
  refine aw_iconst (v := 1) (pc1 := 23) at_307_22 (by decide) rfl ?_
  by_cases c3 : ¬ v1 = 1
  · rw [if_pos c3] at hs1
    refine aw_icne_t at_307_23 c3 ?_
    exact rg_307_30 h o   hs1
  · rw [if_neg c3] at hs1
    refine aw_icne_f (pc1 := 26) at_307_23 c3 rfl ?_
    refine aw_iload_n (pc1 := 27) at_307_26 l2 rfl ?_
    by_cases c4 : x2 = 0
    · rw [if_pos c4] at hs1
      refine aw_ifeq_t at_307_27 c4 ?_
      exact rg_307_41 x0 x1 x2 x3 h o l0 l1 l2 l3 i0 i3 hs1
    · rw [if_neg c4] at hs1
      refine aw_ifeq_f (pc1 := 30) at_307_27 c4 rfl ?_
      exact rg_307_30 h o   hs1
def fg_307_0 (N : Nat) (x0 : Value) (x1 : Int32) (x2 : Int32) (h : am_H) : Option am_O := (if am_pOk 11 x0 h then am_cR true (fm_63 x0 x1 h) (fun v2 h3 => ((am_vI (am_pG 769 v2 h3)).bind fun v5 => (if ¬ v5 = 0 then (fg_307_18 N x0 x1 x2 v2 h3) else (if x2 = 1 then (fg_307_41 N x0 x1 x2 v2 h3) else (fg_307_18 N x0 x1 x2 v2 h3))))) else none)
theorem rg_307_0 {X : am_X} {d : Nat} {N : Nat} {lv : am_LV} (x0 : Value) (x1 : Int32) (x2 : Int32) (h : am_H) (o : am_O) (l0 : lv.lookup 0 = some x0) (l1 : lv.lookup 1 = some (.int x1)) (l2 : lv.lookup 2 = some (.int x2)) (i0 : am_isR x0 = true) (hs : fg_307_0 N x0 x1 x2 h = some o) : am_W X (d + 82) 307 0 lv [] h (fun q => q = o) := by
  unfold fg_307_0 at hs
  refine aw_vload_n (pc1 := 1) at_307_0 l0 i0 rfl ?_
  refine aw_iload_n (pc1 := 2) at_307_1 l1 rfl ?_
  obtain ⟨z1, hs1⟩ := am_ift hs
  clear hs
  refine aw_call (F := fm_63 x0 x1 h) (t := true) (na := 2) (kd := 1) (as := [x0, (.int x1)]) at_307_2 (am_k3v kb_63) mn_63 mk_63 rfl rfl (am_ok_v mi_63 (am_hl rfl (am_ccR i0 (am_ccI am_cats_0)) rfl) z1) (am_hc am_cats_0 rfl) (fun _ => ⟨rfl, hh_307⟩) (fun o1 hz9 => rm_63 x0 x1 h o1 i0 hz9) ?_
  rcases am_cR_s hs1 with ⟨v2, h3, f4, iv2, hs2⟩ | hs2
  · clear hs1
    refine Or.inl ⟨_, _, f4, ?_⟩
    show am_W X _ 307 5 _ [v2] h3 _
    refine aw_vstore_n (lv1 := am_put1 _ 3 _) (pc1 := 6) at_307_5 iv2 rfl rfl ?_
    refine aw_vload_n (pc1 := 7) at_307_6 am_lk0 iv2 rfl ?_
    obtain ⟨v5, e6, hs3⟩ := am_bind hs2
    clear hs2
    refine aw_pG (pc1 := 10) at_307_7 (am_vI_s e6) rfl ?_
    by_cases c7 : ¬ v5 = 0
    · rw [if_pos c7] at hs3
      refine aw_ifne_t at_307_10 c7 ?_
      exact rg_307_18 x0 x1 x2 v2 h3 o (am_lk1 l0 rfl rfl) (am_lk1 l1 rfl rfl) (am_lk1 l2 rfl rfl) am_lk0 i0 iv2 hs3
    · rw [if_neg c7] at hs3
      refine aw_ifne_f (pc1 := 13) at_307_10 c7 rfl ?_
      refine aw_iload_n (pc1 := 14) at_307_13 (am_lk1 l2 rfl rfl) rfl ?_
      refine aw_iconst (v := 1) (pc1 := 15) at_307_14 (by decide) rfl ?_
      by_cases c8 : x2 = 1
      · rw [if_pos c8] at hs3
        refine aw_iceq_t at_307_15 c8 ?_
        exact rg_307_41 x0 x1 x2 v2 h3 o (am_lk1 l0 rfl rfl) (am_lk1 l1 rfl rfl) (am_lk1 l2 rfl rfl) am_lk0 i0 iv2 hs3
      · rw [if_neg c8] at hs3
        refine aw_iceq_f (pc1 := 18) at_307_15 c8 rfl ?_
        exact rg_307_18 x0 x1 x2 v2 h3 o (am_lk1 l0 rfl rfl) (am_lk1 l1 rfl rfl) (am_lk1 l2 rfl rfl) am_lk0 i0 iv2 hs3
  · clear hs1
    exact Or.inr hs2
def fm_307 (N : Nat) (y0 : Value) (y1 : Int32) (y2 : Int32) (h : am_H) : Option am_O := fg_307_0 N y0 y1 y2 h
theorem rm_307 {X : am_X} {d : Nat} {N : Nat} (y0 : Value) (y1 : Int32) (y2 : Int32) (h : am_H) (o : am_O) (i0 : am_isR y0 = true) (hs : fm_307 N y0 y1 y2 h = some o) : am_W X (d + 82) 307 0 (am_args 0 [y0, .int y1, .int y2]) [] h (fun q => q = o) := by
  rw [am_args_R i0, am_args_I, am_args_I]
  exact rg_307_0 y0 y1 y2 h o rfl rfl rfl i0 hs
def fg_306_23 (N : Nat) (h : am_H) : Option am_O := some (.inl (some (.int 3), h))
theorem rg_306_23 {X : am_X} {d : Nat} {N : Nat} {lv : am_LV} (h : am_H) (o : am_O) (hs : fg_306_23 N h = some o) : am_W X (d + 83) 306 23 lv [] h (fun q => q = o) := by
  unfold fg_306_23 at hs
  refine aw_iconst (v := 3) (pc1 := 24) at_306_23 (by decide) rfl ?_
  cases hs
  exact aw_iret at_306_24 (by rw [rt_306]; rfl) rfl
def fg_306_19 (N : Nat) (h : am_H) : Option am_O := some (.inl (some (.int 2), h))
theorem rg_306_19 {X : am_X} {d : Nat} {N : Nat} {lv : am_LV} (h : am_H) (o : am_O) (hs : fg_306_19 N h = some o) : am_W X (d + 83) 306 19 lv [] h (fun q => q = o) := by
  unfold fg_306_19 at hs
  refine aw_iconst (v := 2) (pc1 := 20) at_306_19 (by decide) rfl ?_
  cases hs
  exact aw_iret at_306_20 (by rw [rt_306]; rfl) rfl
def fg_306_15 (N : Nat) (h : am_H) : Option am_O := some (.inl (some (.int 1), h))
theorem rg_306_15 {X : am_X} {d : Nat} {N : Nat} {lv : am_LV} (h : am_H) (o : am_O) (hs : fg_306_15 N h = some o) : am_W X (d + 83) 306 15 lv [] h (fun q => q = o) := by
  unfold fg_306_15 at hs
  refine aw_iconst (v := 1) (pc1 := 16) at_306_15 (by decide) rfl ?_
  cases hs
  exact aw_iret at_306_16 (by rw [rt_306]; rfl) rfl
def fg_306_0 (N : Nat) (x0 : Value) (x1 : Int32) (x2 : Int32) (x3 : Value) (h : am_H) : Option am_O := (if am_pOk 11 x0 h then (match fm_307 N x0 x1 x2 h with | some (.inl (some (.int v2), h3)) => ((am_pSL x3 0 (Int32.toInt64 v2) h3).bind fun h5 => some (.inl (some (.int 0), h5))) | some (.inr (0, h7)) => (fg_306_19 N h7) | some (.inr (1, h9)) => (fg_306_23 N h9) | some (.inr (2, h11)) => (fg_306_15 N h11) | _ => none) else none)
theorem rg_306_0 {X : am_X} {d : Nat} {N : Nat} {lv : am_LV} (x0 : Value) (x1 : Int32) (x2 : Int32) (x3 : Value) (h : am_H) (o : am_O) (l0 : lv.lookup 0 = some x0) (l1 : lv.lookup 1 = some (.int x1)) (l2 : lv.lookup 2 = some (.int x2)) (l3 : lv.lookup 3 = some x3) (i0 : am_isR x0 = true) (i3 : am_isR x3 = true) (hs : fg_306_0 N x0 x1 x2 x3 h = some o) : am_W X (d + 83) 306 0 lv [] h (fun q => q = o) := by
  unfold fg_306_0 at hs
  refine aw_vload_n (pc1 := 1) at_306_0 l3 i3 rfl ?_
  refine aw_iconst (v := 0) (pc1 := 2) at_306_1 (by decide) rfl ?_
  refine aw_vload_n (pc1 := 3) at_306_2 l0 i0 rfl ?_
  refine aw_iload_n (pc1 := 4) at_306_3 l1 rfl ?_
  refine aw_iload_n (pc1 := 5) at_306_4 l2 rfl ?_
  obtain ⟨z1, hs1⟩ := am_ift hs
  clear hs
  refine aw_callH (F := fm_307 N x0 x1 x2 h) (na := 3) (kd := 1) (as := [x0, (.int x1), (.int x2)]) at_306_5 (am_k3v kb_307) mn_307 mk_307 rfl rfl (am_ok_v mi_307 (am_hl rfl (am_ccR i0 (am_ccI (am_ccI am_cats_0))) rfl) z1) (am_hc (am_ccI (am_ccR i3 am_cats_0)) rfl) (fun o1 hz9 => rm_307 x0 x1 x2 h o1 i0 hz9) ?_
  split at hs1
  · rename_i v2 h3 f4
    refine Or.inl ⟨_, _, f4, ?_⟩
    show am_W X _ 306 8 _ [(.int v2), (.int 0), x3] h3 _
    refine aw_i2l (v := (Int32.toInt64 v2)) (pc1 := 9) at_306_8 rfl rfl ?_
    obtain ⟨h5, e6, hs2⟩ := am_bind hs1
    clear hs1
    refine aw_pSL (pc1 := 10) at_306_9 e6 rfl ?_
    refine aw_goto at_306_10 ?_
    refine aw_iconst (v := 0) (pc1 := 26) at_306_25 (by decide) rfl ?_
    cases hs2
    exact aw_iret at_306_26 (by rw [rt_306]; rfl) rfl
  · rename_i h7 f8
    refine Or.inr ⟨_, _, 19, 4, f8, rfl, hn_306, hd_306_5_0, ?_⟩
    exact rg_306_19 h7 o   hs1
  · rename_i h9 f10
    refine Or.inr ⟨_, _, 23, 4, f10, rfl, hn_306, hd_306_5_1, ?_⟩
    exact rg_306_23 h9 o   hs1
  · rename_i h11 f12
    refine Or.inr ⟨_, _, 15, 4, f12, rfl, hn_306, hd_306_5_2, ?_⟩
    exact rg_306_15 h11 o   hs1
  · cases hs1
def fm_306 (N : Nat) (y0 : Value) (y1 : Int32) (y2 : Int32) (y3 : Value) (h : am_H) : Option am_O := fg_306_0 N y0 y1 y2 y3 h
theorem rm_306 {X : am_X} {d : Nat} {N : Nat} (y0 : Value) (y1 : Int32) (y2 : Int32) (y3 : Value) (h : am_H) (o : am_O) (i0 : am_isR y0 = true) (i3 : am_isR y3 = true) (hs : fm_306 N y0 y1 y2 y3 h = some o) : am_W X (d + 83) 306 0 (am_args 0 [y0, .int y1, .int y2, y3]) [] h (fun q => q = o) := by
  rw [am_args_R i0, am_args_I, am_args_I, am_args_R i3]
  exact rg_306_0 y0 y1 y2 y3 h o rfl rfl rfl rfl i0 i3 hs
def fg_556_118 (N : Nat) (x0 : Value) (x1 : Int32) (h : am_H) : Option am_O := (if am_pOk 12 x0 h then am_cI true (fm_356 N x0 7 x1 ((-1)) ((-1)) ((-1)) 0 h) (fun v2 h3 => some (.inl (some (.int v2), h3))) else none)
theorem rg_556_118 {X : am_X} {d : Nat} {N : Nat} {lv : am_LV} (x0 : Value) (x1 : Int32) (h : am_H) (o : am_O) (l0 : lv.lookup 0 = some x0) (l1 : lv.lookup 1 = some (.int x1)) (i0 : am_isR x0 = true) (hs : fg_556_118 N x0 x1 h = some o) : am_W X (d + 6) 556 118 lv [] h (fun q => q = o) := by
  unfold fg_556_118 at hs
  refine aw_vload_n (pc1 := 119) at_556_118 l0 i0 rfl ?_
  refine aw_bipush (v := 7) (pc1 := 121) at_556_119 (by decide) rfl ?_
  refine aw_iload_n (pc1 := 122) at_556_121 l1 rfl ?_
  refine aw_iconst (v := (-1)) (pc1 := 123) at_556_122 (by decide) rfl ?_
  refine aw_iconst (v := (-1)) (pc1 := 124) at_556_123 (by decide) rfl ?_
  refine aw_iconst (v := (-1)) (pc1 := 125) at_556_124 (by decide) rfl ?_
  refine aw_lconst (v := 0) (pc1 := 126) at_556_125 (by decide) rfl ?_
  obtain ⟨z1, hs1⟩ := am_ift hs
  clear hs
  refine aw_call (F := fm_356 N x0 7 x1 ((-1)) ((-1)) ((-1)) 0 h) (t := true) (na := 7) (kd := 1) (as := [x0, (.int 7), (.int x1), (.int (-1)), (.int (-1)), (.int (-1)), (.long 0)]) at_556_126 (am_k3v kb_356) mn_356 mk_356 rfl rfl (am_ok_v mi_356 (am_hl rfl (am_ccR i0 (am_ccI (am_ccI (am_ccI (am_ccI (am_ccI (am_ccL am_cats_0))))))) rfl) z1) (am_hc am_cats_0 rfl) (fun _ => ⟨rfl, hh_556⟩) (fun o1 hz9 => rm_356 x0 7 x1 ((-1)) ((-1)) ((-1)) 0 h o1 i0 hz9) ?_
  rcases am_cI_s hs1 with ⟨v2, h3, f4, hs2⟩ | hs2
  · clear hs1
    refine Or.inl ⟨_, _, f4, ?_⟩
    show am_W X _ 556 129 _ [(.int v2)] h3 _
    cases hs2
    exact aw_iret at_556_129 (by rw [rt_556]; rfl) rfl
  · clear hs1
    exact Or.inr hs2
def fg_556_101 (N : Nat) (x0 : Value) (x1 : Int32) (x2 : Int32) (s0 : Int32) (h : am_H) : Option am_O := (if ¬ s0 = 0 then (if ¬ x2 = 0 then (fg_556_118 N x0 x1 h) else (if am_pOk 12 x0 h then am_cV true (fm_442 N x0 h) (fun h5 => (fg_556_118 N x0 x1 h5)) else none)) else some (.inl (some (.int (-1)), h)))
theorem rg_556_101 {X : am_X} {d : Nat} {N : Nat} {lv : am_LV} (x0 : Value) (x1 : Int32) (x2 : Int32) (s0 : Int32) (h : am_H) (o : am_O) (l0 : lv.lookup 0 = some x0) (l1 : lv.lookup 1 = some (.int x1)) (l2 : lv.lookup 2 = some (.int x2)) (i0 : am_isR x0 = true) (hs : fg_556_101 N x0 x1 x2 s0 h = some o) : am_W X (d + 6) 556 101 lv [(.int s0)] h (fun q => q = o) := by
  unfold fg_556_101 at hs
  refine aw_istore (lv1 := am_put1 _ 4 _) (pc1 := 103) at_556_101 rfl rfl ?_
  refine aw_iload (pc1 := 105) at_556_103 am_lk0 rfl ?_
  by_cases c1 : ¬ s0 = 0
  · rw [if_pos c1] at hs
    refine aw_ifne_t at_556_105 c1 ?_
    refine aw_iload_n (pc1 := 111) at_556_110 (am_lk1 l2 rfl rfl) rfl ?_
    by_cases c2 : ¬ x2 = 0
    · rw [if_pos c2] at hs
      refine aw_ifne_t at_556_111 c2 ?_
      exact rg_556_118 x0 x1 h o (am_lk1 l0 rfl rfl) (am_lk1 l1 rfl rfl) i0 hs
    · rw [if_neg c2] at hs
      refine aw_ifne_f (pc1 := 114) at_556_111 c2 rfl ?_
      refine aw_vload_n (pc1 := 115) at_556_114 (am_lk1 l0 rfl rfl) i0 rfl ?_
      obtain ⟨z3, hs1⟩ := am_ift hs
      clear hs
      refine aw_call (F := fm_442 N x0 h) (t := true) (na := 1) (kd := 1) (as := [x0]) at_556_115 (am_k3v kb_442) mn_442 mk_442 rfl rfl (am_ok_v mi_442 (am_hl rfl (am_ccR i0 am_cats_0) rfl) z3) (am_hc am_cats_0 rfl) (fun _ => ⟨rfl, hh_556⟩) (fun o1 hz9 => rm_442 x0 h o1 i0 hz9) ?_
      rcases am_cV_s hs1 with ⟨h5, f6, hs2⟩ | hs2
      · clear hs1
        refine Or.inl ⟨_, _, f6, ?_⟩
        show am_W X _ 556 118 _ [] h5 _
        exact rg_556_118 x0 x1 h5 o (am_lk1 l0 rfl rfl) (am_lk1 l1 rfl rfl) i0 hs2
      · clear hs1
        exact Or.inr hs2
  · rw [if_neg c1] at hs
    refine aw_ifne_f (pc1 := 108) at_556_105 c1 rfl ?_
    refine aw_iconst (v := (-1)) (pc1 := 109) at_556_108 (by decide) rfl ?_
    cases hs
    exact aw_iret at_556_109 (by rw [rt_556]; rfl) rfl
def fg_556_63 (N : Nat) (x0 : Value) (x1 : Int32) (x2 : Int32) (s0 : Value) (s1 : Int32) (h : am_H) : Option am_O := ((am_pP 3072 s0 (.int s1) h).bind fun h1 => ((am_vI (am_pG 3072 x0 h1)).bind fun v3 => (if v3 ≤ 0 then (if am_pOk 12 x0 h1 then am_cV true (fm_359 N x0 x1 h1) (fun h8 => (if am_pOk 12 x0 h8 then am_cV true (fm_391 N x0 x1 h8) (fun h12 => (if ¬ x2 = 1 then (if am_pOk 12 x0 h12 then am_cI true (fm_557 N x0 h12) (fun v16 h17 => (fg_556_101 N x0 x1 x2 v16 h17)) else none) else (if am_pOk 12 x0 h12 then am_cI true (fm_494 N x0 h12) (fun v20 h21 => (fg_556_101 N x0 x1 x2 v20 h21)) else none))) else none)) else none) else some (.inl (some (.int 0), h1)))))
theorem rg_556_63 {X : am_X} {d : Nat} {N : Nat} {lv : am_LV} (x0 : Value) (x1 : Int32) (x2 : Int32) (s0 : Value) (s1 : Int32) (h : am_H) (o : am_O) (l0 : lv.lookup 0 = some x0) (l1 : lv.lookup 1 = some (.int x1)) (l2 : lv.lookup 2 = some (.int x2)) (i0 : am_isR x0 = true) (j0 : am_isR s0 = true) (hs : fg_556_63 N x0 x1 x2 s0 s1 h = some o) : am_W X (d + 6) 556 63 lv [(.int s1), s0] h (fun q => q = o) := by
  unfold fg_556_63 at hs
  obtain ⟨h1, e2, hs1⟩ := am_bind hs
  clear hs
  refine aw_pP (pc1 := 66) at_556_63 e2 rfl ?_
  refine aw_vload_n (pc1 := 67) at_556_66 l0 i0 rfl ?_
  obtain ⟨v3, e4, hs2⟩ := am_bind hs1
  clear hs1
  refine aw_pG (pc1 := 70) at_556_67 (am_vI_s e4) rfl ?_
  by_cases c5 : v3 ≤ 0
  · rw [if_pos c5] at hs2
    refine aw_ifle_t at_556_70 c5 ?_
    refine aw_vload_n (pc1 := 76) at_556_75 l0 i0 rfl ?_
    refine aw_iload_n (pc1 := 77) at_556_76 l1 rfl ?_
    obtain ⟨z6, hs3⟩ := am_ift hs2
    clear hs2
    refine aw_call (F := fm_359 N x0 x1 h1) (t := true) (na := 2) (kd := 1) (as := [x0, (.int x1)]) at_556_77 (am_k3v kb_359) mn_359 mk_359 rfl rfl (am_ok_v mi_359 (am_hl rfl (am_ccR i0 (am_ccI am_cats_0)) rfl) z6) (am_hc am_cats_0 rfl) (fun _ => ⟨rfl, hh_556⟩) (fun o1 hz9 => rm_359 x0 x1 h1 o1 i0 hz9) ?_
    rcases am_cV_s hs3 with ⟨h8, f9, hs4⟩ | hs4
    · clear hs3
      refine Or.inl ⟨_, _, f9, ?_⟩
      show am_W X _ 556 80 _ [] h8 _
      refine aw_vload_n (pc1 := 81) at_556_80 l0 i0 rfl ?_
      refine aw_iload_n (pc1 := 82) at_556_81 l1 rfl ?_
      obtain ⟨z10, hs5⟩ := am_ift hs4
      clear hs4
      refine aw_call (F := fm_391 N x0 x1 h8) (t := true) (na := 2) (kd := 1) (as := [x0, (.int x1)]) at_556_82 (am_k3v kb_391) mn_391 mk_391 rfl rfl (am_ok_v mi_391 (am_hl rfl (am_ccR i0 (am_ccI am_cats_0)) rfl) z10) (am_hc am_cats_0 rfl) (fun _ => ⟨rfl, hh_556⟩) (fun o1 hz9 => rm_391 x0 x1 h8 o1 i0 hz9) ?_
      rcases am_cV_s hs5 with ⟨h12, f13, hs6⟩ | hs6
      · clear hs5
        refine Or.inl ⟨_, _, f13, ?_⟩
        show am_W X _ 556 85 _ [] h12 _
        refine aw_iload_n (pc1 := 86) at_556_85 l2 rfl ?_
        refine aw_iconst (v := 1) (pc1 := 87) at_556_86 (by decide) rfl ?_
        by_cases c14 : ¬ x2 = 1
        · rw [if_pos c14] at hs6
          refine aw_icne_t at_556_87 c14 ?_
          refine aw_vload_n (pc1 := 98) at_556_97 l0 i0 rfl ?_
          obtain ⟨z15, hs7⟩ := am_ift hs6
          clear hs6
          refine aw_call (F := fm_557 N x0 h12) (t := true) (na := 1) (kd := 1) (as := [x0]) at_556_98 (am_k3v kb_557) mn_557 mk_557 rfl rfl (am_ok_v mi_557 (am_hl rfl (am_ccR i0 am_cats_0) rfl) z15) (am_hc am_cats_0 rfl) (fun _ => ⟨rfl, hh_556⟩) (fun o1 hz9 => rm_557 x0 h12 o1 i0 hz9) ?_
          rcases am_cI_s hs7 with ⟨v16, h17, f18, hs8⟩ | hs8
          · clear hs7
            refine Or.inl ⟨_, _, f18, ?_⟩
            show am_W X _ 556 101 _ [(.int v16)] h17 _
            exact rg_556_101 x0 x1 x2 v16 h17 o l0 l1 l2 i0 hs8
          · clear hs7
            exact Or.inr hs8
        · rw [if_neg c14] at hs6
          refine aw_icne_f (pc1 := 90) at_556_87 c14 rfl ?_
          refine aw_vload_n (pc1 := 91) at_556_90 l0 i0 rfl ?_
          obtain ⟨z19, hs9⟩ := am_ift hs6
          clear hs6
          refine aw_call (F := fm_494 N x0 h12) (t := true) (na := 1) (kd := 1) (as := [x0]) at_556_91 (am_k3v kb_494) mn_494 mk_494 rfl rfl (am_ok_v mi_494 (am_hl rfl (am_ccR i0 am_cats_0) rfl) z19) (am_hc am_cats_0 rfl) (fun _ => ⟨rfl, hh_556⟩) (fun o1 hz9 => rm_494 x0 h12 o1 i0 hz9) ?_
          rcases am_cI_s hs9 with ⟨v20, h21, f22, hs10⟩ | hs10
          · clear hs9
            refine Or.inl ⟨_, _, f22, ?_⟩
            show am_W X _ 556 94 _ [(.int v20)] h21 _
            refine aw_goto at_556_94 ?_
            exact rg_556_101 x0 x1 x2 v20 h21 o l0 l1 l2 i0 hs10
          · clear hs9
            exact Or.inr hs10
      · clear hs5
        exact Or.inr hs6
    · clear hs3
      exact Or.inr hs4
  · rw [if_neg c5] at hs2
    refine aw_ifle_f (pc1 := 73) at_556_70 c5 rfl ?_
    refine aw_iconst (v := 0) (pc1 := 74) at_556_73 (by decide) rfl ?_
    cases hs2
    exact aw_iret at_556_74 (by rw [rt_556]; rfl) rfl
def fg_556_44 (N : Nat) (x0 : Value) (x1 : Int32) (x2 : Int32) (s0 : Value) (h : am_H) : Option am_O := (fg_556_63 N x0 x1 x2 s0 2 h)
theorem rg_556_44 {X : am_X} {d : Nat} {N : Nat} {lv : am_LV} (x0 : Value) (x1 : Int32) (x2 : Int32) (s0 : Value) (h : am_H) (o : am_O) (l0 : lv.lookup 0 = some x0) (l1 : lv.lookup 1 = some (.int x1)) (l2 : lv.lookup 2 = some (.int x2)) (i0 : am_isR x0 = true) (j0 : am_isR s0 = true) (hs : fg_556_44 N x0 x1 x2 s0 h = some o) : am_W X (d + 6) 556 44 lv [s0] h (fun q => q = o) := by
  unfold fg_556_44 at hs
  refine aw_iconst (v := 2) (pc1 := 45) at_556_44 (by decide) rfl ?_
  refine aw_goto at_556_45 ?_
  exact rg_556_63 x0 x1 x2 s0 2 h o l0 l1 l2 i0 j0 hs
def fg_556_18 (N : Nat) (x0 : Value) (x1 : Int32) (x2 : Int32) (s0 : Int32) (h : am_H) : Option am_O := (if am_pOk 12 x0 h then am_cI true (fm_358 x0 x1 h) (fun v2 h3 => (if ¬ v2 = 0 then (if 1 < s0 then (fg_556_44 N x0 x1 x2 x0 h3) else (if x2 = (1 - s0) then ((am_vI (am_pG 3073 x0 h3)).bind fun v8 => (if ¬ v8 = 600 then (fg_556_63 N x0 x1 x2 x0 0 h3) else (fg_556_63 N x0 x1 x2 x0 3 h3))) else (fg_556_44 N x0 x1 x2 x0 h3))) else (fg_556_63 N x0 x1 x2 x0 1 h3))) else none)
theorem rg_556_18 {X : am_X} {d : Nat} {N : Nat} {lv : am_LV} (x0 : Value) (x1 : Int32) (x2 : Int32) (s0 : Int32) (h : am_H) (o : am_O) (l0 : lv.lookup 0 = some x0) (l1 : lv.lookup 1 = some (.int x1)) (l2 : lv.lookup 2 = some (.int x2)) (i0 : am_isR x0 = true) (hs : fg_556_18 N x0 x1 x2 s0 h = some o) : am_W X (d + 6) 556 18 lv [(.int s0)] h (fun q => q = o) := by
  unfold fg_556_18 at hs
  refine aw_istore_n (lv1 := am_put1 _ 3 _) (pc1 := 19) at_556_18 rfl rfl ?_
  refine aw_vload_n (pc1 := 20) at_556_19 (am_lk1 l0 rfl rfl) i0 rfl ?_
  refine aw_vload_n (pc1 := 21) at_556_20 (am_lk1 l0 rfl rfl) i0 rfl ?_
  refine aw_iload_n (pc1 := 22) at_556_21 (am_lk1 l1 rfl rfl) rfl ?_
  obtain ⟨z1, hs1⟩ := am_ift hs
  clear hs
  refine aw_call (F := fm_358 x0 x1 h) (t := true) (na := 2) (kd := 1) (as := [x0, (.int x1)]) at_556_22 (am_k3v kb_358) mn_358 mk_358 rfl rfl (am_ok_v mi_358 (am_hl rfl (am_ccR i0 (am_ccI am_cats_0)) rfl) z1) (am_hc (am_ccR i0 am_cats_0) rfl) (fun _ => ⟨rfl, hh_556⟩) (fun o1 hz9 => rm_358 x0 x1 h o1 i0 hz9) ?_
  rcases am_cI_s hs1 with ⟨v2, h3, f4, hs2⟩ | hs2
  · clear hs1
    refine Or.inl ⟨_, _, f4, ?_⟩
    show am_W X _ 556 25 _ [(.int v2), x0] h3 _
    by_cases c5 : ¬ v2 = 0
    · rw [if_pos c5] at hs2
      refine aw_ifne_t at_556_25 c5 ?_
      refine aw_iload_n (pc1 := 33) at_556_32 am_lk0 rfl ?_
      refine aw_iconst (v := 1) (pc1 := 34) at_556_33 (by decide) rfl ?_
      by_cases c6 : 1 < s0
      · rw [if_pos c6] at hs2
        refine aw_icgt_t at_556_34 c6 ?_
        exact rg_556_44 x0 x1 x2 x0 h3 o (am_lk1 l0 rfl rfl) (am_lk1 l1 rfl rfl) (am_lk1 l2 rfl rfl) i0 i0 hs2
      · rw [if_neg c6] at hs2
        refine aw_icgt_f (pc1 := 37) at_556_34 c6 rfl ?_
        refine aw_iload_n (pc1 := 38) at_556_37 (am_lk1 l2 rfl rfl) rfl ?_
        refine aw_iconst (v := 1) (pc1 := 39) at_556_38 (by decide) rfl ?_
        refine aw_iload_n (pc1 := 40) at_556_39 am_lk0 rfl ?_
        refine aw_isub (v := (1 - s0)) (pc1 := 41) at_556_40 rfl rfl ?_
        by_cases c7 : x2 = (1 - s0)
        · rw [if_pos c7] at hs2
          refine aw_iceq_t at_556_41 c7 ?_
          refine aw_vload_n (pc1 := 49) at_556_48 (am_lk1 l0 rfl rfl) i0 rfl ?_
          obtain ⟨v8, e9, hs3⟩ := am_bind hs2
          clear hs2
          refine aw_pG (pc1 := 52) at_556_49 (am_vI_s e9) rfl ?_
          refine aw_sipush (v := 600) (pc1 := 55) at_556_52 (by decide) rfl ?_
          by_cases c10 : ¬ v8 = 600
          · rw [if_pos c10] at hs3
            refine aw_icne_t at_556_55 c10 ?_
            refine aw_iconst (v := 0) (pc1 := 63) at_556_62 (by decide) rfl ?_
            exact rg_556_63 x0 x1 x2 x0 0 h3 o (am_lk1 l0 rfl rfl) (am_lk1 l1 rfl rfl) (am_lk1 l2 rfl rfl) i0 i0 hs3
          · rw [if_neg c10] at hs3
            refine aw_icne_f (pc1 := 58) at_556_55 c10 rfl ?_
            refine aw_iconst (v := 3) (pc1 := 59) at_556_58 (by decide) rfl ?_
            refine aw_goto at_556_59 ?_
            exact rg_556_63 x0 x1 x2 x0 3 h3 o (am_lk1 l0 rfl rfl) (am_lk1 l1 rfl rfl) (am_lk1 l2 rfl rfl) i0 i0 hs3
        · rw [if_neg c7] at hs2
          refine aw_iceq_f (pc1 := 44) at_556_41 c7 rfl ?_
          exact rg_556_44 x0 x1 x2 x0 h3 o (am_lk1 l0 rfl rfl) (am_lk1 l1 rfl rfl) (am_lk1 l2 rfl rfl) i0 i0 hs2
    · rw [if_neg c5] at hs2
      refine aw_ifne_f (pc1 := 28) at_556_25 c5 rfl ?_
      refine aw_iconst (v := 1) (pc1 := 29) at_556_28 (by decide) rfl ?_
      refine aw_goto at_556_29 ?_
      exact rg_556_63 x0 x1 x2 x0 1 h3 o (am_lk1 l0 rfl rfl) (am_lk1 l1 rfl rfl) (am_lk1 l2 rfl rfl) i0 i0 hs2
  · clear hs1
    exact Or.inr hs2
def fg_556_0 (N : Nat) (x0 : Value) (x1 : Int32) (x2 : Int32) (h : am_H) : Option am_O := (if am_pOk 12 x0 h then am_cI true (fm_358 x0 x1 h) (fun v2 h3 => (if v2 = 0 then (fg_556_18 N x0 x1 x2 0 h3) else ((am_vR (am_pG 3074 x0 h3)).bind fun v6 => ((am_pA 0 v6 x1 h3).bind fun v8 => (fg_556_18 N x0 x1 x2 v8 h3))))) else none)
theorem rg_556_0 {X : am_X} {d : Nat} {N : Nat} {lv : am_LV} (x0 : Value) (x1 : Int32) (x2 : Int32) (h : am_H) (o : am_O) (l0 : lv.lookup 0 = some x0) (l1 : lv.lookup 1 = some (.int x1)) (l2 : lv.lookup 2 = some (.int x2)) (i0 : am_isR x0 = true) (hs : fg_556_0 N x0 x1 x2 h = some o) : am_W X (d + 6) 556 0 lv [] h (fun q => q = o) := by
  unfold fg_556_0 at hs
  refine aw_vload_n (pc1 := 1) at_556_0 l0 i0 rfl ?_
  refine aw_iload_n (pc1 := 2) at_556_1 l1 rfl ?_
  obtain ⟨z1, hs1⟩ := am_ift hs
  clear hs
  refine aw_call (F := fm_358 x0 x1 h) (t := true) (na := 2) (kd := 1) (as := [x0, (.int x1)]) at_556_2 (am_k3v kb_358) mn_358 mk_358 rfl rfl (am_ok_v mi_358 (am_hl rfl (am_ccR i0 (am_ccI am_cats_0)) rfl) z1) (am_hc am_cats_0 rfl) (fun _ => ⟨rfl, hh_556⟩) (fun o1 hz9 => rm_358 x0 x1 h o1 i0 hz9) ?_
  rcases am_cI_s hs1 with ⟨v2, h3, f4, hs2⟩ | hs2
  · clear hs1
    refine Or.inl ⟨_, _, f4, ?_⟩
    show am_W X _ 556 5 _ [(.int v2)] h3 _
    by_cases c5 : v2 = 0
    · rw [if_pos c5] at hs2
      refine aw_ifeq_t at_556_5 c5 ?_
      refine aw_iconst (v := 0) (pc1 := 18) at_556_17 (by decide) rfl ?_
      exact rg_556_18 x0 x1 x2 0 h3 o l0 l1 l2 i0 hs2
    · rw [if_neg c5] at hs2
      refine aw_ifeq_f (pc1 := 8) at_556_5 c5 rfl ?_
      refine aw_vload_n (pc1 := 9) at_556_8 l0 i0 rfl ?_
      obtain ⟨v6, e7, hs3⟩ := am_bind hs2
      clear hs2
      refine aw_pG (pc1 := 12) at_556_9 (am_vR_s e7).1 rfl ?_
      refine aw_iload_n (pc1 := 13) at_556_12 l1 rfl ?_
      obtain ⟨v8, e9, hs4⟩ := am_bind hs3
      clear hs3
      refine aw_pA (pc1 := 14) at_556_13 (Or.inl ⟨rfl, rfl⟩) e9 rfl ?_
      refine aw_goto at_556_14 ?_
      exact rg_556_18 x0 x1 x2 v8 h3 o l0 l1 l2 i0 hs4
  · clear hs1
    exact Or.inr hs2
def fm_556 (N : Nat) (y0 : Value) (y1 : Int32) (y2 : Int32) (h : am_H) : Option am_O := fg_556_0 N y0 y1 y2 h
theorem rm_556 {X : am_X} {d : Nat} {N : Nat} (y0 : Value) (y1 : Int32) (y2 : Int32) (h : am_H) (o : am_O) (i0 : am_isR y0 = true) (hs : fm_556 N y0 y1 y2 h = some o) : am_W X (d + 6) 556 0 (am_args 0 [y0, .int y1, .int y2]) [] h (fun q => q = o) := by
  rw [am_args_R i0, am_args_I, am_args_I]
  exact rg_556_0 y0 y1 y2 h o rfl rfl rfl i0 hs
def fg_311_155 (N : Nat) (rec_55 : Value → Value → Int32 → Int32 → am_H → Option am_O) (rec_64 : Value → Value → Int32 → Int32 → Int32 → am_H → Option am_O) (x0 : Value) (x1 : Value) (x2 : Int32) (x3 : Int32) (x4 : Int32) (s0 : Value) (s1 : Int32) (s2 : Int32) (h : am_H) : Option am_O := ((am_pS 2 s0 s1 s2 h).bind fun h1 => (rec_64 x0 x1 x2 x3 ((x4 + 1)) h1))
theorem rg_311_155 {X : am_X} {d : Nat} {N : Nat} {rec_55 : Value → Value → Int32 → Int32 → am_H → Option am_O} {rec_64 : Value → Value → Int32 → Int32 → Int32 → am_H → Option am_O} (q_55 : ∀ (x0 : Value) (x1 : Value) (x2 : Int32) (x3 : Int32) (h : am_H) (o : am_O), rec_55 x0 x1 x2 x3 h = some o → ∀ lv : am_LV, (lv.lookup 0 = some x0) → (lv.lookup 1 = some x1) → (lv.lookup 2 = some (.int x2)) → (lv.lookup 3 = some (.int x3)) → (am_isR x0 = true) → (am_isR x1 = true) → am_W X (d + 1) 311 55 lv [] h (fun q => q = o)) (q_64 : ∀ (x0 : Value) (x1 : Value) (x2 : Int32) (x3 : Int32) (x4 : Int32) (h : am_H) (o : am_O), rec_64 x0 x1 x2 x3 x4 h = some o → ∀ lv : am_LV, (lv.lookup 0 = some x0) → (lv.lookup 1 = some x1) → (lv.lookup 2 = some (.int x2)) → (lv.lookup 3 = some (.int x3)) → (lv.lookup 4 = some (.int x4)) → (am_isR x0 = true) → (am_isR x1 = true) → am_W X (d + 1) 311 64 lv [] h (fun q => q = o)) {lv : am_LV} (x0 : Value) (x1 : Value) (x2 : Int32) (x3 : Int32) (x4 : Int32) (s0 : Value) (s1 : Int32) (s2 : Int32) (h : am_H) (o : am_O) (l0 : lv.lookup 0 = some x0) (l1 : lv.lookup 1 = some x1) (l2 : lv.lookup 2 = some (.int x2)) (l3 : lv.lookup 3 = some (.int x3)) (l4 : lv.lookup 4 = some (.int x4)) (i0 : am_isR x0 = true) (i1 : am_isR x1 = true) (j0 : am_isR s0 = true) (hs : fg_311_155 N rec_55 rec_64 x0 x1 x2 x3 x4 s0 s1 s2 h = some o) : am_W X (d + 1) 311 155 lv [(.int s2), (.int s1), s0] h (fun q => q = o) := by
  unfold fg_311_155 at hs
  obtain ⟨h1, e2, hs1⟩ := am_bind hs
  clear hs
  refine aw_pS (pc1 := 156) at_311_155 (Or.inr (Or.inl ⟨rfl, rfl⟩)) e2 rfl ?_
  refine aw_iinc (v := (x4 + 1)) (c := 1) (lv1 := am_put1 _ 4 _) (pc1 := 159) at_311_156 l4 (by decide) rfl rfl rfl ?_
  refine aw_goto at_311_159 ?_
  exact q_64 x0 x1 x2 x3 ((x4 + 1)) h1 o hs1 _ (am_lk1 l0 rfl rfl) (am_lk1 l1 rfl rfl) (am_lk1 l2 rfl rfl) (am_lk1 l3 rfl rfl) am_lk0 i0 i1
def fg_311_150 (N : Nat) (rec_55 : Value → Value → Int32 → Int32 → am_H → Option am_O) (rec_64 : Value → Value → Int32 → Int32 → Int32 → am_H → Option am_O) (x0 : Value) (x1 : Value) (x2 : Int32) (x3 : Int32) (x4 : Int32) (s0 : Value) (s1 : Int32) (h : am_H) : Option am_O := (fg_311_155 N rec_55 rec_64 x0 x1 x2 x3 x4 s0 s1 1 h)
theorem rg_311_150 {X : am_X} {d : Nat} {N : Nat} {rec_55 : Value → Value → Int32 → Int32 → am_H → Option am_O} {rec_64 : Value → Value → Int32 → Int32 → Int32 → am_H → Option am_O} (q_55 : ∀ (x0 : Value) (x1 : Value) (x2 : Int32) (x3 : Int32) (h : am_H) (o : am_O), rec_55 x0 x1 x2 x3 h = some o → ∀ lv : am_LV, (lv.lookup 0 = some x0) → (lv.lookup 1 = some x1) → (lv.lookup 2 = some (.int x2)) → (lv.lookup 3 = some (.int x3)) → (am_isR x0 = true) → (am_isR x1 = true) → am_W X (d + 1) 311 55 lv [] h (fun q => q = o)) (q_64 : ∀ (x0 : Value) (x1 : Value) (x2 : Int32) (x3 : Int32) (x4 : Int32) (h : am_H) (o : am_O), rec_64 x0 x1 x2 x3 x4 h = some o → ∀ lv : am_LV, (lv.lookup 0 = some x0) → (lv.lookup 1 = some x1) → (lv.lookup 2 = some (.int x2)) → (lv.lookup 3 = some (.int x3)) → (lv.lookup 4 = some (.int x4)) → (am_isR x0 = true) → (am_isR x1 = true) → am_W X (d + 1) 311 64 lv [] h (fun q => q = o)) {lv : am_LV} (x0 : Value) (x1 : Value) (x2 : Int32) (x3 : Int32) (x4 : Int32) (s0 : Value) (s1 : Int32) (h : am_H) (o : am_O) (l0 : lv.lookup 0 = some x0) (l1 : lv.lookup 1 = some x1) (l2 : lv.lookup 2 = some (.int x2)) (l3 : lv.lookup 3 = some (.int x3)) (l4 : lv.lookup 4 = some (.int x4)) (i0 : am_isR x0 = true) (i1 : am_isR x1 = true) (j0 : am_isR s0 = true) (hs : fg_311_150 N rec_55 rec_64 x0 x1 x2 x3 x4 s0 s1 h = some o) : am_W X (d + 1) 311 150 lv [(.int s1), s0] h (fun q => q = o) := by
  unfold fg_311_150 at hs
  refine aw_iconst (v := 1) (pc1 := 151) at_311_150 (by decide) rfl ?_
  refine aw_goto at_311_151 ?_
  exact rg_311_155 q_55 q_64 x0 x1 x2 x3 x4 s0 s1 1 h o l0 l1 l2 l3 l4 i0 i1 j0 hs
def fg_311_64 (N : Nat) (rec_55 : Value → Value → Int32 → Int32 → am_H → Option am_O) : Nat → Value → Value → Int32 → Int32 → Int32 → am_H → Option am_O
  | 0 => fun _ _ _ _ _ _ => none
  | K + 1 => fun x0 x1 x2 x3 x4 h => (if (x2 * 4) ≤ x4 then (rec_55 x0 x1 x2 ((x3 + 1)) h) else (if am_pOk 3 x1 h then am_cI true (fm_54 x1 (((x4 / 4) / 6)) ((1 + (x4 - x4 / 4 * 4))) h) (fun v3 h4 => (if am_pOk 3 x1 h4 then am_cI true (fm_54 x1 (((x4 / 4) - (x4 / 4) / 6 * 6)) ((1 + (x4 - x4 / 4 * 4))) h4) (fun v7 h8 => ((am_vR (am_pG 2566 x0 h8)).bind fun v10 => ((am_vR (am_pG 2566 x0 h8)).bind fun v12 => ((am_pA 2 v12 (x4 / 4) h8).bind fun v14 => (if ¬ v14 = 0 then (fg_311_150 N rec_55 (fg_311_64 N rec_55 K) x0 x1 x2 x3 x4 v10 ((x4 / 4)) h8) else ((am_vR (am_pG 2566 x0 h8)).bind fun v17 => ((am_pA 2 v17 ((6 * v3) + v7) h8).bind fun v19 => (if v19 = 0 then (fg_311_155 N rec_55 (fg_311_64 N rec_55 K) x0 x1 x2 x3 x4 v10 ((x4 / 4)) 0 h8) else (fg_311_150 N rec_55 (fg_311_64 N rec_55 K) x0 x1 x2 x3 x4 v10 ((x4 / 4)) h8))))))))) else none)) else none))
theorem rg_311_64 {X : am_X} {d : Nat} {N : Nat} {rec_55 : Value → Value → Int32 → Int32 → am_H → Option am_O} (q_55 : ∀ (x0 : Value) (x1 : Value) (x2 : Int32) (x3 : Int32) (h : am_H) (o : am_O), rec_55 x0 x1 x2 x3 h = some o → ∀ lv : am_LV, (lv.lookup 0 = some x0) → (lv.lookup 1 = some x1) → (lv.lookup 2 = some (.int x2)) → (lv.lookup 3 = some (.int x3)) → (am_isR x0 = true) → (am_isR x1 = true) → am_W X (d + 1) 311 55 lv [] h (fun q => q = o)) : ∀ (K : Nat) (x0 : Value) (x1 : Value) (x2 : Int32) (x3 : Int32) (x4 : Int32) (h : am_H) (o : am_O), fg_311_64 N rec_55 K x0 x1 x2 x3 x4 h = some o → ∀ lv : am_LV, (lv.lookup 0 = some x0) → (lv.lookup 1 = some x1) → (lv.lookup 2 = some (.int x2)) → (lv.lookup 3 = some (.int x3)) → (lv.lookup 4 = some (.int x4)) → (am_isR x0 = true) → (am_isR x1 = true) → am_W X (d + 1) 311 64 lv [] h (fun q => q = o) := by
  intro K
  induction K with
  | zero => intro x0 x1 x2 x3 x4 h o hs; cases hs
  | succ K ih =>
    intro x0 x1 x2 x3 x4 h o hs lv l0 l1 l2 l3 l4 i0 i1
    unfold fg_311_64 at hs
    refine aw_iload (pc1 := 66) at_311_64 l4 rfl ?_
    refine aw_iload_n (pc1 := 67) at_311_66 l2 rfl ?_
    refine aw_iconst (v := 4) (pc1 := 68) at_311_67 (by decide) rfl ?_
    refine aw_imul (v := (x2 * 4)) (pc1 := 69) at_311_68 rfl rfl ?_
    by_cases c1 : (x2 * 4) ≤ x4
    · rw [if_pos c1] at hs
      refine aw_icge_t at_311_69 c1 ?_
      refine aw_iinc (v := (x3 + 1)) (c := 1) (lv1 := am_put1 _ 3 _) (pc1 := 165) at_311_162 l3 (by decide) rfl rfl rfl ?_
      refine aw_goto at_311_165 ?_
      exact q_55 x0 x1 x2 ((x3 + 1)) h o hs _ (am_lk1 l0 rfl rfl) (am_lk1 l1 rfl rfl) (am_lk1 l2 rfl rfl) am_lk0 i0 i1
    · rw [if_neg c1] at hs
      refine aw_icge_f (pc1 := 72) at_311_69 c1 rfl ?_
      refine aw_iload (pc1 := 74) at_311_72 l4 rfl ?_
      refine aw_iconst (v := 4) (pc1 := 75) at_311_74 (by decide) rfl ?_
      refine aw_idiv (v := (x4 / 4)) (pc1 := 76) at_311_75 (by decide) rfl rfl ?_
      refine aw_bipush (v := 6) (pc1 := 78) at_311_76 (by decide) rfl ?_
      refine aw_idiv (v := ((x4 / 4) / 6)) (pc1 := 79) at_311_78 (by decide) rfl rfl ?_
      refine aw_istore (lv1 := am_put1 _ 5 _) (pc1 := 81) at_311_79 rfl rfl ?_
      refine aw_iload (pc1 := 83) at_311_81 (am_lk1 l4 rfl rfl) rfl ?_
      refine aw_iconst (v := 4) (pc1 := 84) at_311_83 (by decide) rfl ?_
      refine aw_idiv (v := (x4 / 4)) (pc1 := 85) at_311_84 (by decide) rfl rfl ?_
      refine aw_bipush (v := 6) (pc1 := 87) at_311_85 (by decide) rfl ?_
      refine aw_irem (v := ((x4 / 4) - (x4 / 4) / 6 * 6)) (pc1 := 88) at_311_87 (by decide) rfl rfl ?_
      refine aw_istore (lv1 := am_put1 _ 6 _) (pc1 := 90) at_311_88 rfl rfl ?_
      refine aw_iconst (v := 1) (pc1 := 91) at_311_90 (by decide) rfl ?_
      refine aw_iload (pc1 := 93) at_311_91 (am_lk1 (am_lk1 l4 rfl rfl) rfl rfl) rfl ?_
      refine aw_iconst (v := 4) (pc1 := 94) at_311_93 (by decide) rfl ?_
      refine aw_irem (v := (x4 - x4 / 4 * 4)) (pc1 := 95) at_311_94 (by decide) rfl rfl ?_
      refine aw_iadd (v := (1 + (x4 - x4 / 4 * 4))) (pc1 := 96) at_311_95 rfl rfl ?_
      refine aw_istore (lv1 := am_put1 _ 7 _) (pc1 := 98) at_311_96 rfl rfl ?_
      refine aw_bipush (v := 6) (pc1 := 100) at_311_98 (by decide) rfl ?_
      refine aw_vload_n (pc1 := 101) at_311_100 (am_lk1 (am_lk1 (am_lk1 l1 rfl rfl) rfl rfl) rfl rfl) i1 rfl ?_
      refine aw_iload (pc1 := 103) at_311_101 (am_lk1 (am_lk1 am_lk0 rfl rfl) rfl rfl) rfl ?_
      refine aw_iload (pc1 := 105) at_311_103 am_lk0 rfl ?_
      obtain ⟨z2, hs1⟩ := am_ift hs
      clear hs
      refine aw_call (F := fm_54 x1 (((x4 / 4) / 6)) ((1 + (x4 - x4 / 4 * 4))) h) (t := true) (na := 3) (kd := 1) (as := [x1, (.int ((x4 / 4) / 6)), (.int (1 + (x4 - x4 / 4 * 4)))]) at_311_105 (am_k3v kb_54) mn_54 mk_54 rfl rfl (am_ok_v mi_54 (am_hl rfl (am_ccR i1 (am_ccI (am_ccI am_cats_0))) rfl) z2) (am_hc (am_ccI am_cats_0) rfl) (fun _ => ⟨rfl, hh_311⟩) (fun o1 hz9 => rm_54 x1 (((x4 / 4) / 6)) ((1 + (x4 - x4 / 4 * 4))) h o1 i1 hz9) ?_
      rcases am_cI_s hs1 with ⟨v3, h4, f5, hs2⟩ | hs2
      · clear hs1
        refine Or.inl ⟨_, _, f5, ?_⟩
        show am_W X _ 311 108 _ [(.int v3), (.int 6)] h4 _
        refine aw_imul (v := (6 * v3)) (pc1 := 109) at_311_108 rfl rfl ?_
        refine aw_vload_n (pc1 := 110) at_311_109 (am_lk1 (am_lk1 (am_lk1 l1 rfl rfl) rfl rfl) rfl rfl) i1 rfl ?_
        refine aw_iload (pc1 := 112) at_311_110 (am_lk1 am_lk0 rfl rfl) rfl ?_
        refine aw_iload (pc1 := 114) at_311_112 am_lk0 rfl ?_
        obtain ⟨z6, hs3⟩ := am_ift hs2
        clear hs2
        refine aw_call (F := fm_54 x1 (((x4 / 4) - (x4 / 4) / 6 * 6)) ((1 + (x4 - x4 / 4 * 4))) h4) (t := true) (na := 3) (kd := 1) (as := [x1, (.int ((x4 / 4) - (x4 / 4) / 6 * 6)), (.int (1 + (x4 - x4 / 4 * 4)))]) at_311_114 (am_k3v kb_54) mn_54 mk_54 rfl rfl (am_ok_v mi_54 (am_hl rfl (am_ccR i1 (am_ccI (am_ccI am_cats_0))) rfl) z6) (am_hc (am_ccI am_cats_0) rfl) (fun _ => ⟨rfl, hh_311⟩) (fun o1 hz9 => rm_54 x1 (((x4 / 4) - (x4 / 4) / 6 * 6)) ((1 + (x4 - x4 / 4 * 4))) h4 o1 i1 hz9) ?_
        rcases am_cI_s hs3 with ⟨v7, h8, f9, hs4⟩ | hs4
        · clear hs3
          refine Or.inl ⟨_, _, f9, ?_⟩
          show am_W X _ 311 117 _ [(.int v7), (.int (6 * v3))] h8 _
          refine aw_iadd (v := ((6 * v3) + v7)) (pc1 := 118) at_311_117 rfl rfl ?_
          refine aw_istore (lv1 := am_put1 _ 8 _) (pc1 := 120) at_311_118 rfl rfl ?_
          refine aw_vload_n (pc1 := 121) at_311_120 (am_lk1 (am_lk1 (am_lk1 (am_lk1 l0 rfl rfl) rfl rfl) rfl rfl) rfl rfl) i0 rfl ?_
          obtain ⟨v10, e11, hs5⟩ := am_bind hs4
          clear hs4
          refine aw_pG (pc1 := 124) at_311_121 (am_vR_s e11).1 rfl ?_
          refine aw_iload (pc1 := 126) at_311_124 (am_lk1 (am_lk1 (am_lk1 (am_lk1 l4 rfl rfl) rfl rfl) rfl rfl) rfl rfl) rfl ?_
          refine aw_iconst (v := 4) (pc1 := 127) at_311_126 (by decide) rfl ?_
          refine aw_idiv (v := (x4 / 4)) (pc1 := 128) at_311_127 (by decide) rfl rfl ?_
          refine aw_vload_n (pc1 := 129) at_311_128 (am_lk1 (am_lk1 (am_lk1 (am_lk1 l0 rfl rfl) rfl rfl) rfl rfl) rfl rfl) i0 rfl ?_
          obtain ⟨v12, e13, hs6⟩ := am_bind hs5
          clear hs5
          refine aw_pG (pc1 := 132) at_311_129 (am_vR_s e13).1 rfl ?_
          refine aw_iload (pc1 := 134) at_311_132 (am_lk1 (am_lk1 (am_lk1 (am_lk1 l4 rfl rfl) rfl rfl) rfl rfl) rfl rfl) rfl ?_
          refine aw_iconst (v := 4) (pc1 := 135) at_311_134 (by decide) rfl ?_
          refine aw_idiv (v := (x4 / 4)) (pc1 := 136) at_311_135 (by decide) rfl rfl ?_
          obtain ⟨v14, e15, hs7⟩ := am_bind hs6
          clear hs6
          refine aw_pA (pc1 := 137) at_311_136 (Or.inr (Or.inl ⟨rfl, rfl⟩)) e15 rfl ?_
          by_cases c16 : ¬ v14 = 0
          · rw [if_pos c16] at hs7
            refine aw_ifne_t at_311_137 c16 ?_
            exact rg_311_150 q_55 (fun z0 z1 z2 z3 z4 h o hs7 => ih z0 z1 z2 z3 z4 h o hs7) x0 x1 x2 x3 x4 v10 ((x4 / 4)) h8 o (am_lk1 (am_lk1 (am_lk1 (am_lk1 l0 rfl rfl) rfl rfl) rfl rfl) rfl rfl) (am_lk1 (am_lk1 (am_lk1 (am_lk1 l1 rfl rfl) rfl rfl) rfl rfl) rfl rfl) (am_lk1 (am_lk1 (am_lk1 (am_lk1 l2 rfl rfl) rfl rfl) rfl rfl) rfl rfl) (am_lk1 (am_lk1 (am_lk1 (am_lk1 l3 rfl rfl) rfl rfl) rfl rfl) rfl rfl) (am_lk1 (am_lk1 (am_lk1 (am_lk1 l4 rfl rfl) rfl rfl) rfl rfl) rfl rfl) i0 i1 (am_vR_s e11).2 hs7
          · rw [if_neg c16] at hs7
            refine aw_ifne_f (pc1 := 140) at_311_137 c16 rfl ?_
            refine aw_vload_n (pc1 := 141) at_311_140 (am_lk1 (am_lk1 (am_lk1 (am_lk1 l0 rfl rfl) rfl rfl) rfl rfl) rfl rfl) i0 rfl ?_
            obtain ⟨v17, e18, hs8⟩ := am_bind hs7
            clear hs7
            refine aw_pG (pc1 := 144) at_311_141 (am_vR_s e18).1 rfl ?_
            refine aw_iload (pc1 := 146) at_311_144 am_lk0 rfl ?_
            obtain ⟨v19, e20, hs9⟩ := am_bind hs8
            clear hs8
            refine aw_pA (pc1 := 147) at_311_146 (Or.inr (Or.inl ⟨rfl, rfl⟩)) e20 rfl ?_
            by_cases c21 : v19 = 0
            · rw [if_pos c21] at hs9
              refine aw_ifeq_t at_311_147 c21 ?_
              refine aw_iconst (v := 0) (pc1 := 155) at_311_154 (by decide) rfl ?_
              exact rg_311_155 q_55 (fun z0 z1 z2 z3 z4 h o hs9 => ih z0 z1 z2 z3 z4 h o hs9) x0 x1 x2 x3 x4 v10 ((x4 / 4)) 0 h8 o (am_lk1 (am_lk1 (am_lk1 (am_lk1 l0 rfl rfl) rfl rfl) rfl rfl) rfl rfl) (am_lk1 (am_lk1 (am_lk1 (am_lk1 l1 rfl rfl) rfl rfl) rfl rfl) rfl rfl) (am_lk1 (am_lk1 (am_lk1 (am_lk1 l2 rfl rfl) rfl rfl) rfl rfl) rfl rfl) (am_lk1 (am_lk1 (am_lk1 (am_lk1 l3 rfl rfl) rfl rfl) rfl rfl) rfl rfl) (am_lk1 (am_lk1 (am_lk1 (am_lk1 l4 rfl rfl) rfl rfl) rfl rfl) rfl rfl) i0 i1 (am_vR_s e11).2 hs9
            · rw [if_neg c21] at hs9
              refine aw_ifeq_f (pc1 := 150) at_311_147 c21 rfl ?_
              exact rg_311_150 q_55 (fun z0 z1 z2 z3 z4 h o hs9 => ih z0 z1 z2 z3 z4 h o hs9) x0 x1 x2 x3 x4 v10 ((x4 / 4)) h8 o (am_lk1 (am_lk1 (am_lk1 (am_lk1 l0 rfl rfl) rfl rfl) rfl rfl) rfl rfl) (am_lk1 (am_lk1 (am_lk1 (am_lk1 l1 rfl rfl) rfl rfl) rfl rfl) rfl rfl) (am_lk1 (am_lk1 (am_lk1 (am_lk1 l2 rfl rfl) rfl rfl) rfl rfl) rfl rfl) (am_lk1 (am_lk1 (am_lk1 (am_lk1 l3 rfl rfl) rfl rfl) rfl rfl) rfl rfl) (am_lk1 (am_lk1 (am_lk1 (am_lk1 l4 rfl rfl) rfl rfl) rfl rfl) rfl rfl) i0 i1 (am_vR_s e11).2 hs9
        · clear hs3
          exact Or.inr hs4
      · clear hs1
        exact Or.inr hs2
def fg_311_55 (N : Nat) : Nat → Value → Value → Int32 → Int32 → am_H → Option am_O
  | 0 => fun _ _ _ _ _ => none
  | K + 1 => fun x0 x1 x2 x3 h => (if 6 ≤ x3 then some (.inl (none, h)) else (fg_311_64 N (fg_311_55 N K) N x0 x1 x2 x3 0 h))
theorem rg_311_55 {X : am_X} {d : Nat} {N : Nat} : ∀ (K : Nat) (x0 : Value) (x1 : Value) (x2 : Int32) (x3 : Int32) (h : am_H) (o : am_O), fg_311_55 N K x0 x1 x2 x3 h = some o → ∀ lv : am_LV, (lv.lookup 0 = some x0) → (lv.lookup 1 = some x1) → (lv.lookup 2 = some (.int x2)) → (lv.lookup 3 = some (.int x3)) → (am_isR x0 = true) → (am_isR x1 = true) → am_W X (d + 1) 311 55 lv [] h (fun q => q = o) := by
  intro K
  induction K with
  | zero => intro x0 x1 x2 x3 h o hs; cases hs
  | succ K ih =>
    intro x0 x1 x2 x3 h o hs lv l0 l1 l2 l3 i0 i1
    unfold fg_311_55 at hs
    refine aw_iload_n (pc1 := 56) at_311_55 l3 rfl ?_
    refine aw_bipush (v := 6) (pc1 := 58) at_311_56 (by decide) rfl ?_
    by_cases c1 : 6 ≤ x3
    · rw [if_pos c1] at hs
      refine aw_icge_t at_311_58 c1 ?_
      cases hs
      exact aw_vret at_311_168 rt_311 rfl
    · rw [if_neg c1] at hs
      refine aw_icge_f (pc1 := 61) at_311_58 c1 rfl ?_
      refine aw_iconst (v := 0) (pc1 := 62) at_311_61 (by decide) rfl ?_
      refine aw_istore (lv1 := am_put1 _ 4 _) (pc1 := 64) at_311_62 rfl rfl ?_
      exact rg_311_64 (fun z0 z1 z2 z3 h o hs => ih z0 z1 z2 z3 h o hs) N x0 x1 x2 x3 0 h o hs _ (am_lk1 l0 rfl rfl) (am_lk1 l1 rfl rfl) (am_lk1 l2 rfl rfl) (am_lk1 l3 rfl rfl) am_lk0 i0 i1
def fg_311_46 (N : Nat) (rec_10 : Value → Value → Int32 → Int32 → am_H → Option am_O) (x0 : Value) (x1 : Value) (x2 : Int32) (x3 : Int32) (s0 : Value) (s1 : Int32) (s2 : Int32) (h : am_H) : Option am_O := ((am_pS 2 s0 s1 s2 h).bind fun h1 => (rec_10 x0 x1 x2 ((x3 + 1)) h1))
theorem rg_311_46 {X : am_X} {d : Nat} {N : Nat} {rec_10 : Value → Value → Int32 → Int32 → am_H → Option am_O} (q_10 : ∀ (x0 : Value) (x1 : Value) (x2 : Int32) (x3 : Int32) (h : am_H) (o : am_O), rec_10 x0 x1 x2 x3 h = some o → ∀ lv : am_LV, (lv.lookup 0 = some x0) → (lv.lookup 1 = some x1) → (lv.lookup 2 = some (.int x2)) → (lv.lookup 3 = some (.int x3)) → (am_isR x0 = true) → (am_isR x1 = true) → am_W X (d + 1) 311 10 lv [] h (fun q => q = o)) {lv : am_LV} (x0 : Value) (x1 : Value) (x2 : Int32) (x3 : Int32) (s0 : Value) (s1 : Int32) (s2 : Int32) (h : am_H) (o : am_O) (l0 : lv.lookup 0 = some x0) (l1 : lv.lookup 1 = some x1) (l2 : lv.lookup 2 = some (.int x2)) (l3 : lv.lookup 3 = some (.int x3)) (i0 : am_isR x0 = true) (i1 : am_isR x1 = true) (j0 : am_isR s0 = true) (hs : fg_311_46 N rec_10 x0 x1 x2 x3 s0 s1 s2 h = some o) : am_W X (d + 1) 311 46 lv [(.int s2), (.int s1), s0] h (fun q => q = o) := by
  unfold fg_311_46 at hs
  obtain ⟨h1, e2, hs1⟩ := am_bind hs
  clear hs
  refine aw_pS (pc1 := 47) at_311_46 (Or.inr (Or.inl ⟨rfl, rfl⟩)) e2 rfl ?_
  refine aw_iinc (v := (x3 + 1)) (c := 1) (lv1 := am_put1 _ 3 _) (pc1 := 50) at_311_47 l3 (by decide) rfl rfl rfl ?_
  refine aw_goto at_311_50 ?_
  exact q_10 x0 x1 x2 ((x3 + 1)) h1 o hs1 _ (am_lk1 l0 rfl rfl) (am_lk1 l1 rfl rfl) (am_lk1 l2 rfl rfl) am_lk0 i0 i1
def fg_311_10 (N : Nat) : Nat → Value → Value → Int32 → Int32 → am_H → Option am_O
  | 0 => fun _ _ _ _ _ => none
  | K + 1 => fun x0 x1 x2 x3 h => (if x2 ≤ x3 then (fg_311_55 N N x0 x1 x2 0 h) else ((am_vR (am_pG 2566 x0 h)).bind fun v2 => (if am_pOk 3 x1 h then am_cI true (fm_54 x1 ((x3 / 6)) 0 h) (fun v5 h6 => (if am_pOk 3 x1 h6 then am_cI true (fm_54 x1 ((x3 - x3 / 6 * 6)) 0 h6) (fun v9 h10 => (if v5 = v9 then (fg_311_46 N (fg_311_10 N K) x0 x1 x2 x3 v2 x3 0 h10) else (fg_311_46 N (fg_311_10 N K) x0 x1 x2 x3 v2 x3 1 h10))) else none)) else none)))
theorem rg_311_10 {X : am_X} {d : Nat} {N : Nat} : ∀ (K : Nat) (x0 : Value) (x1 : Value) (x2 : Int32) (x3 : Int32) (h : am_H) (o : am_O), fg_311_10 N K x0 x1 x2 x3 h = some o → ∀ lv : am_LV, (lv.lookup 0 = some x0) → (lv.lookup 1 = some x1) → (lv.lookup 2 = some (.int x2)) → (lv.lookup 3 = some (.int x3)) → (am_isR x0 = true) → (am_isR x1 = true) → am_W X (d + 1) 311 10 lv [] h (fun q => q = o) := by
  intro K
  induction K with
  | zero => intro x0 x1 x2 x3 h o hs; cases hs
  | succ K ih =>
    intro x0 x1 x2 x3 h o hs lv l0 l1 l2 l3 i0 i1
    unfold fg_311_10 at hs
    refine aw_iload_n (pc1 := 11) at_311_10 l3 rfl ?_
    refine aw_iload_n (pc1 := 12) at_311_11 l2 rfl ?_
    by_cases c1 : x2 ≤ x3
    · rw [if_pos c1] at hs
      refine aw_icge_t at_311_12 c1 ?_
      refine aw_iconst (v := 0) (pc1 := 54) at_311_53 (by decide) rfl ?_
      refine aw_istore_n (lv1 := am_put1 _ 3 _) (pc1 := 55) at_311_54 rfl rfl ?_
      exact rg_311_55 N x0 x1 x2 0 h o hs _ (am_lk1 l0 rfl rfl) (am_lk1 l1 rfl rfl) (am_lk1 l2 rfl rfl) am_lk0 i0 i1
    · rw [if_neg c1] at hs
      refine aw_icge_f (pc1 := 15) at_311_12 c1 rfl ?_
      refine aw_vload_n (pc1 := 16) at_311_15 l0 i0 rfl ?_
      obtain ⟨v2, e3, hs1⟩ := am_bind hs
      clear hs
      refine aw_pG (pc1 := 19) at_311_16 (am_vR_s e3).1 rfl ?_
      refine aw_iload_n (pc1 := 20) at_311_19 l3 rfl ?_
      refine aw_vload_n (pc1 := 21) at_311_20 l1 i1 rfl ?_
      refine aw_iload_n (pc1 := 22) at_311_21 l3 rfl ?_
      refine aw_bipush (v := 6) (pc1 := 24) at_311_22 (by decide) rfl ?_
      refine aw_idiv (v := (x3 / 6)) (pc1 := 25) at_311_24 (by decide) rfl rfl ?_
      refine aw_iconst (v := 0) (pc1 := 26) at_311_25 (by decide) rfl ?_
      obtain ⟨z4, hs2⟩ := am_ift hs1
      clear hs1
      refine aw_call (F := fm_54 x1 ((x3 / 6)) 0 h) (t := true) (na := 3) (kd := 1) (as := [x1, (.int (x3 / 6)), (.int 0)]) at_311_26 (am_k3v kb_54) mn_54 mk_54 rfl rfl (am_ok_v mi_54 (am_hl rfl (am_ccR i1 (am_ccI (am_ccI am_cats_0))) rfl) z4) (am_hc (am_ccI (am_ccR (am_vR_s e3).2 am_cats_0)) rfl) (fun _ => ⟨rfl, hh_311⟩) (fun o1 hz9 => rm_54 x1 ((x3 / 6)) 0 h o1 i1 hz9) ?_
      rcases am_cI_s hs2 with ⟨v5, h6, f7, hs3⟩ | hs3
      · clear hs2
        refine Or.inl ⟨_, _, f7, ?_⟩
        show am_W X _ 311 29 _ [(.int v5), (.int x3), v2] h6 _
        refine aw_vload_n (pc1 := 30) at_311_29 l1 i1 rfl ?_
        refine aw_iload_n (pc1 := 31) at_311_30 l3 rfl ?_
        refine aw_bipush (v := 6) (pc1 := 33) at_311_31 (by decide) rfl ?_
        refine aw_irem (v := (x3 - x3 / 6 * 6)) (pc1 := 34) at_311_33 (by decide) rfl rfl ?_
        refine aw_iconst (v := 0) (pc1 := 35) at_311_34 (by decide) rfl ?_
        obtain ⟨z8, hs4⟩ := am_ift hs3
        clear hs3
        refine aw_call (F := fm_54 x1 ((x3 - x3 / 6 * 6)) 0 h6) (t := true) (na := 3) (kd := 1) (as := [x1, (.int (x3 - x3 / 6 * 6)), (.int 0)]) at_311_35 (am_k3v kb_54) mn_54 mk_54 rfl rfl (am_ok_v mi_54 (am_hl rfl (am_ccR i1 (am_ccI (am_ccI am_cats_0))) rfl) z8) (am_hc (am_ccI (am_ccI (am_ccR (am_vR_s e3).2 am_cats_0))) rfl) (fun _ => ⟨rfl, hh_311⟩) (fun o1 hz9 => rm_54 x1 ((x3 - x3 / 6 * 6)) 0 h6 o1 i1 hz9) ?_
        rcases am_cI_s hs4 with ⟨v9, h10, f11, hs5⟩ | hs5
        · clear hs4
          refine Or.inl ⟨_, _, f11, ?_⟩
          show am_W X _ 311 38 _ [(.int v9), (.int v5), (.int x3), v2] h10 _
          by_cases c12 : v5 = v9
          · rw [if_pos c12] at hs5
            refine aw_iceq_t at_311_38 c12 ?_
            refine aw_iconst (v := 0) (pc1 := 46) at_311_45 (by decide) rfl ?_
            exact rg_311_46 (fun z0 z1 z2 z3 h o hs5 => ih z0 z1 z2 z3 h o hs5) x0 x1 x2 x3 v2 x3 0 h10 o l0 l1 l2 l3 i0 i1 (am_vR_s e3).2 hs5
          · rw [if_neg c12] at hs5
            refine aw_iceq_f (pc1 := 41) at_311_38 c12 rfl ?_
            refine aw_iconst (v := 1) (pc1 := 42) at_311_41 (by decide) rfl ?_
            refine aw_goto at_311_42 ?_
            exact rg_311_46 (fun z0 z1 z2 z3 h o hs5 => ih z0 z1 z2 z3 h o hs5) x0 x1 x2 x3 v2 x3 1 h10 o l0 l1 l2 l3 i0 i1 (am_vR_s e3).2 hs5
        · clear hs4
          exact Or.inr hs5
      · clear hs2
        exact Or.inr hs3
def fg_311_0 (N : Nat) (x0 : Value) (x1 : Value) (h : am_H) : Option am_O := ((am_vI (am_pG 771 x1 h)).bind fun v1 => (fg_311_10 N N x0 x1 ((6 * v1)) 0 h))
theorem rg_311_0 {X : am_X} {d : Nat} {N : Nat} {lv : am_LV} (x0 : Value) (x1 : Value) (h : am_H) (o : am_O) (l0 : lv.lookup 0 = some x0) (l1 : lv.lookup 1 = some x1) (i0 : am_isR x0 = true) (i1 : am_isR x1 = true) (hs : fg_311_0 N x0 x1 h = some o) : am_W X (d + 1) 311 0 lv [] h (fun q => q = o) := by
  unfold fg_311_0 at hs
  refine aw_bipush (v := 6) (pc1 := 2) at_311_0 (by decide) rfl ?_
  refine aw_vload_n (pc1 := 3) at_311_2 l1 i1 rfl ?_
  obtain ⟨v1, e2, hs1⟩ := am_bind hs
  clear hs
  refine aw_pG (pc1 := 6) at_311_3 (am_vI_s e2) rfl ?_
  refine aw_imul (v := (6 * v1)) (pc1 := 7) at_311_6 rfl rfl ?_
  refine aw_istore_n (lv1 := am_put1 _ 2 _) (pc1 := 8) at_311_7 rfl rfl ?_
  refine aw_iconst (v := 0) (pc1 := 9) at_311_8 (by decide) rfl ?_
  refine aw_istore_n (lv1 := am_put1 _ 3 _) (pc1 := 10) at_311_9 rfl rfl ?_
  exact rg_311_10 N x0 x1 ((6 * v1)) 0 h o hs1 _ (am_lk1 (am_lk1 l0 rfl rfl) rfl rfl) (am_lk1 (am_lk1 l1 rfl (by rw [am_isRc i1]; rfl)) rfl rfl) (am_lk1 am_lk0 rfl rfl) am_lk0 i0 i1
def fm_311 (N : Nat) (y0 : Value) (y1 : Value) (h : am_H) : Option am_O := fg_311_0 N y0 y1 h
theorem rm_311 {X : am_X} {d : Nat} {N : Nat} (y0 : Value) (y1 : Value) (h : am_H) (o : am_O) (i0 : am_isR y0 = true) (i1 : am_isR y1 = true) (hs : fm_311 N y0 y1 h = some o) : am_W X (d + 1) 311 0 (am_args 0 [y0, y1]) [] h (fun q => q = o) := by
  rw [am_args_R i0, am_args_R i1]
  exact rg_311_0 y0 y1 h o rfl rfl i0 i1 hs
def fg_312_2 (N : Nat) : Nat → Value → Value → Int32 → Int32 → am_H → Option am_O
  | 0 => fun _ _ _ _ _ => none
  | K + 1 => fun x0 x1 x2 x3 h => ((am_vI (am_pG 771 x1 h)).bind fun v1 => (if v1 ≤ x3 then some (.inl (some (.int x2), h)) else ((am_vR (am_pG 2566 x0 h)).bind fun v4 => ((am_pA 2 v4 ((6 * x3) + x2) h).bind fun v6 => (if ¬ v6 = 0 then (fg_312_2 N K x0 x1 x2 ((x3 + 1)) h) else some (.inl (some (.int x3), h)))))))
theorem rg_312_2 {X : am_X} {d : Nat} {N : Nat} : ∀ (K : Nat) (x0 : Value) (x1 : Value) (x2 : Int32) (x3 : Int32) (h : am_H) (o : am_O), fg_312_2 N K x0 x1 x2 x3 h = some o → ∀ lv : am_LV, (lv.lookup 0 = some x0) → (lv.lookup 1 = some x1) → (lv.lookup 2 = some (.int x2)) → (lv.lookup 3 = some (.int x3)) → (am_isR x0 = true) → (am_isR x1 = true) → am_W X (d) 312 2 lv [] h (fun q => q = o) := by
  intro K
  induction K with
  | zero => intro x0 x1 x2 x3 h o hs; cases hs
  | succ K ih =>
    intro x0 x1 x2 x3 h o hs lv l0 l1 l2 l3 i0 i1
    unfold fg_312_2 at hs
    refine aw_iload_n (pc1 := 3) at_312_2 l3 rfl ?_
    refine aw_vload_n (pc1 := 4) at_312_3 l1 i1 rfl ?_
    obtain ⟨v1, e2, hs1⟩ := am_bind hs
    clear hs
    refine aw_pG (pc1 := 7) at_312_4 (am_vI_s e2) rfl ?_
    by_cases c3 : v1 ≤ x3
    · rw [if_pos c3] at hs1
      refine aw_icge_t at_312_7 c3 ?_
      refine aw_iload_n (pc1 := 33) at_312_32 l2 rfl ?_
      cases hs1
      exact aw_iret at_312_33 (by rw [rt_312]; rfl) rfl
    · rw [if_neg c3] at hs1
      refine aw_icge_f (pc1 := 10) at_312_7 c3 rfl ?_
      refine aw_vload_n (pc1 := 11) at_312_10 l0 i0 rfl ?_
      obtain ⟨v4, e5, hs2⟩ := am_bind hs1
      clear hs1
      refine aw_pG (pc1 := 14) at_312_11 (am_vR_s e5).1 rfl ?_
      refine aw_bipush (v := 6) (pc1 := 16) at_312_14 (by decide) rfl ?_
      refine aw_iload_n (pc1 := 17) at_312_16 l3 rfl ?_
      refine aw_imul (v := (6 * x3)) (pc1 := 18) at_312_17 rfl rfl ?_
      refine aw_iload_n (pc1 := 19) at_312_18 l2 rfl ?_
      refine aw_iadd (v := ((6 * x3) + x2)) (pc1 := 20) at_312_19 rfl rfl ?_
      obtain ⟨v6, e7, hs3⟩ := am_bind hs2
      clear hs2
      refine aw_pA (pc1 := 21) at_312_20 (Or.inr (Or.inl ⟨rfl, rfl⟩)) e7 rfl ?_
      by_cases c8 : ¬ v6 = 0
      · rw [if_pos c8] at hs3
        refine aw_ifne_t at_312_21 c8 ?_
        refine aw_iinc (v := (x3 + 1)) (c := 1) (lv1 := am_put1 _ 3 _) (pc1 := 29) at_312_26 l3 (by decide) rfl rfl rfl ?_
        refine aw_goto at_312_29 ?_
        exact ih x0 x1 x2 ((x3 + 1)) h o hs3 _ (am_lk1 l0 rfl rfl) (am_lk1 l1 rfl rfl) (am_lk1 l2 rfl rfl) am_lk0 i0 i1
      · rw [if_neg c8] at hs3
        refine aw_ifne_f (pc1 := 24) at_312_21 c8 rfl ?_
        refine aw_iload_n (pc1 := 25) at_312_24 l3 rfl ?_
        cases hs3
        exact aw_iret at_312_25 (by rw [rt_312]; rfl) rfl
def fg_312_0 (N : Nat) (x0 : Value) (x1 : Value) (x2 : Int32) (h : am_H) : Option am_O := (fg_312_2 N N x0 x1 x2 0 h)
theorem rg_312_0 {X : am_X} {d : Nat} {N : Nat} {lv : am_LV} (x0 : Value) (x1 : Value) (x2 : Int32) (h : am_H) (o : am_O) (l0 : lv.lookup 0 = some x0) (l1 : lv.lookup 1 = some x1) (l2 : lv.lookup 2 = some (.int x2)) (i0 : am_isR x0 = true) (i1 : am_isR x1 = true) (hs : fg_312_0 N x0 x1 x2 h = some o) : am_W X (d) 312 0 lv [] h (fun q => q = o) := by
  unfold fg_312_0 at hs
  refine aw_iconst (v := 0) (pc1 := 1) at_312_0 (by decide) rfl ?_
  refine aw_istore_n (lv1 := am_put1 _ 3 _) (pc1 := 2) at_312_1 rfl rfl ?_
  exact rg_312_2 N x0 x1 x2 0 h o hs _ (am_lk1 l0 rfl rfl) (am_lk1 l1 rfl rfl) (am_lk1 l2 rfl rfl) am_lk0 i0 i1
def fm_312 (N : Nat) (y0 : Value) (y1 : Value) (y2 : Int32) (h : am_H) : Option am_O := fg_312_0 N y0 y1 y2 h
theorem rm_312 {X : am_X} {d : Nat} {N : Nat} (y0 : Value) (y1 : Value) (y2 : Int32) (h : am_H) (o : am_O) (i0 : am_isR y0 = true) (i1 : am_isR y1 = true) (hs : fm_312 N y0 y1 y2 h = some o) : am_W X (d) 312 0 (am_args 0 [y0, y1, .int y2]) [] h (fun q => q = o) := by
  rw [am_args_R i0, am_args_R i1, am_args_I]
  exact rg_312_0 y0 y1 y2 h o rfl rfl rfl i0 i1 hs
def fg_310_164 (N : Nat) (h : am_H) : Option am_O := some (.inl (none, h))
theorem rg_310_164 {X : am_X} {d : Nat} {N : Nat} {lv : am_LV} (h : am_H) (o : am_O) (hs : fg_310_164 N h = some o) : am_W X (d + 2) 310 164 lv [] h (fun q => q = o) := by
  unfold fg_310_164 at hs
  cases hs
  exact aw_vret at_310_164 rt_310 rfl
def fg_310_135 (N : Nat) (rec_38 : Value → Value → Value → Int32 → Int32 → am_H → Option am_O) (rec_72 : Value → Value → Value → Int32 → Int32 → Int32 → am_H → Option am_O) (x0 : Value) (x1 : Value) (x2 : Value) (x3 : Int32) (x4 : Int32) (x5 : Int32) (x6 : Int32) (h : am_H) : Option am_O := ((am_vR (am_pG 2567 x0 h)).bind fun v1 => ((am_pA 0 v1 x6 h).bind fun v3 => (if am_pOk 3 x2 h then am_cV true (fm_51 x2 x4 ((1 + x5)) v3 h) (fun h7 => (rec_72 x0 x1 x2 x3 x4 ((x5 + 1)) h7)) else none)))
theorem rg_310_135 {X : am_X} {d : Nat} {N : Nat} {rec_38 : Value → Value → Value → Int32 → Int32 → am_H → Option am_O} {rec_72 : Value → Value → Value → Int32 → Int32 → Int32 → am_H → Option am_O} (q_38 : ∀ (x0 : Value) (x1 : Value) (x2 : Value) (x3 : Int32) (x4 : Int32) (h : am_H) (o : am_O), rec_38 x0 x1 x2 x3 x4 h = some o → ∀ lv : am_LV, (lv.lookup 0 = some x0) → (lv.lookup 1 = some x1) → (lv.lookup 2 = some x2) → (lv.lookup 3 = some (.int x3)) → (lv.lookup 4 = some (.int x4)) → (am_isR x0 = true) → (am_isR x1 = true) → (am_isR x2 = true) → am_W X (d + 2) 310 38 lv [] h (fun q => q = o)) (q_72 : ∀ (x0 : Value) (x1 : Value) (x2 : Value) (x3 : Int32) (x4 : Int32) (x5 : Int32) (h : am_H) (o : am_O), rec_72 x0 x1 x2 x3 x4 x5 h = some o → ∀ lv : am_LV, (lv.lookup 0 = some x0) → (lv.lookup 1 = some x1) → (lv.lookup 2 = some x2) → (lv.lookup 3 = some (.int x3)) → (lv.lookup 4 = some (.int x4)) → (lv.lookup 5 = some (.int x5)) → (am_isR x0 = true) → (am_isR x1 = true) → (am_isR x2 = true) → am_W X (d + 2) 310 72 lv [] h (fun q => q = o)) {lv : am_LV} (x0 : Value) (x1 : Value) (x2 : Value) (x3 : Int32) (x4 : Int32) (x5 : Int32) (x6 : Int32) (h : am_H) (o : am_O) (l0 : lv.lookup 0 = some x0) (l1 : lv.lookup 1 = some x1) (l2 : lv.lookup 2 = some x2) (l3 : lv.lookup 3 = some (.int x3)) (l4 : lv.lookup 4 = some (.int x4)) (l5 : lv.lookup 5 = some (.int x5)) (l6 : lv.lookup 6 = some (.int x6)) (i0 : am_isR x0 = true) (i1 : am_isR x1 = true) (i2 : am_isR x2 = true) (hs : fg_310_135 N rec_38 rec_72 x0 x1 x2 x3 x4 x5 x6 h = some o) : am_W X (d + 2) 310 135 lv [] h (fun q => q = o) := by
  unfold fg_310_135 at hs
  refine aw_vload_n (pc1 := 136) at_310_135 l2 i2 rfl ?_
  refine aw_iload (pc1 := 138) at_310_136 l4 rfl ?_
  refine aw_iconst (v := 1) (pc1 := 139) at_310_138 (by decide) rfl ?_
  refine aw_iload (pc1 := 141) at_310_139 l5 rfl ?_
  refine aw_iadd (v := (1 + x5)) (pc1 := 142) at_310_141 rfl rfl ?_
  refine aw_vload_n (pc1 := 143) at_310_142 l0 i0 rfl ?_
  obtain ⟨v1, e2, hs1⟩ := am_bind hs
  clear hs
  refine aw_pG (pc1 := 146) at_310_143 (am_vR_s e2).1 rfl ?_
  refine aw_iload (pc1 := 148) at_310_146 l6 rfl ?_
  obtain ⟨v3, e4, hs2⟩ := am_bind hs1
  clear hs1
  refine aw_pA (pc1 := 149) at_310_148 (Or.inl ⟨rfl, rfl⟩) e4 rfl ?_
  obtain ⟨z5, hs3⟩ := am_ift hs2
  clear hs2
  refine aw_call (F := fm_51 x2 x4 ((1 + x5)) v3 h) (t := true) (na := 4) (kd := 1) (as := [x2, (.int x4), (.int (1 + x5)), (.int v3)]) at_310_149 (am_k3v kb_51) mn_51 mk_51 rfl rfl (am_ok_v mi_51 (am_hl rfl (am_ccR i2 (am_ccI (am_ccI (am_ccI am_cats_0)))) rfl) z5) (am_hc am_cats_0 rfl) (fun _ => ⟨rfl, hh_310⟩) (fun o1 hz9 => rm_51 x2 x4 ((1 + x5)) v3 h o1 i2 hz9) ?_
  rcases am_cV_s hs3 with ⟨h7, f8, hs4⟩ | hs4
  · clear hs3
    refine Or.inl ⟨_, _, f8, ?_⟩
    show am_W X _ 310 152 _ [] h7 _
    refine aw_iinc (v := (x5 + 1)) (c := 1) (lv1 := am_put1 _ 5 _) (pc1 := 155) at_310_152 l5 (by decide) rfl rfl rfl ?_
    refine aw_goto at_310_155 ?_
    exact q_72 x0 x1 x2 x3 x4 ((x5 + 1)) h7 o hs4 _ (am_lk1 l0 rfl rfl) (am_lk1 l1 rfl rfl) (am_lk1 l2 rfl rfl) (am_lk1 l3 rfl rfl) (am_lk1 l4 rfl rfl) am_lk0 i0 i1 i2
  · clear hs3
    exact Or.inr hs4
def fg_310_72 (N : Nat) (rec_38 : Value → Value → Value → Int32 → Int32 → am_H → Option am_O) : Nat → Value → Value → Value → Int32 → Int32 → Int32 → am_H → Option am_O
  | 0 => fun _ _ _ _ _ _ _ => none
  | K + 1 => fun x0 x1 x2 x3 x4 x5 h => (if 4 ≤ x5 then (rec_38 x0 x1 x2 x3 ((x4 + 1)) h) else ((am_vR (am_pG 2568 x0 h)).bind fun v2 => ((am_pA 0 v2 x4 h).bind fun v4 => (if am_pOk 3 x1 h then am_cI true (fm_54 x1 v4 ((1 + x5)) h) (fun v7 h8 => (if am_pOk 10 x0 h8 then am_cI true (fm_312 N x0 x1 v7 h8) (fun v11 h12 => ((am_vR (am_pG 2567 x0 h12)).bind fun v14 => ((am_pA 0 v14 v11 h12).bind fun v16 => (if 0 ≤ v16 then (fg_310_135 N rec_38 (fg_310_72 N rec_38 K) x0 x1 x2 x3 x4 x5 v11 h12) else (if 6 ≤ x3 then (fg_310_135 N rec_38 (fg_310_72 N rec_38 K) x0 x1 x2 x3 x4 x5 v11 h12) else ((am_vR (am_pG 2567 x0 h12)).bind fun v20 => ((am_pS 0 v20 v11 x3 h12).bind fun h22 => ((am_vR (am_pG 2568 x0 h22)).bind fun v24 => ((am_pS 0 v24 x3 v11 h22).bind fun h26 => (fg_310_135 N rec_38 (fg_310_72 N rec_38 K) x0 x1 x2 ((x3 + 1)) x4 x5 v11 h26)))))))))) else none)) else none))))
theorem rg_310_72 {X : am_X} {d : Nat} {N : Nat} {rec_38 : Value → Value → Value → Int32 → Int32 → am_H → Option am_O} (q_38 : ∀ (x0 : Value) (x1 : Value) (x2 : Value) (x3 : Int32) (x4 : Int32) (h : am_H) (o : am_O), rec_38 x0 x1 x2 x3 x4 h = some o → ∀ lv : am_LV, (lv.lookup 0 = some x0) → (lv.lookup 1 = some x1) → (lv.lookup 2 = some x2) → (lv.lookup 3 = some (.int x3)) → (lv.lookup 4 = some (.int x4)) → (am_isR x0 = true) → (am_isR x1 = true) → (am_isR x2 = true) → am_W X (d + 2) 310 38 lv [] h (fun q => q = o)) : ∀ (K : Nat) (x0 : Value) (x1 : Value) (x2 : Value) (x3 : Int32) (x4 : Int32) (x5 : Int32) (h : am_H) (o : am_O), fg_310_72 N rec_38 K x0 x1 x2 x3 x4 x5 h = some o → ∀ lv : am_LV, (lv.lookup 0 = some x0) → (lv.lookup 1 = some x1) → (lv.lookup 2 = some x2) → (lv.lookup 3 = some (.int x3)) → (lv.lookup 4 = some (.int x4)) → (lv.lookup 5 = some (.int x5)) → (am_isR x0 = true) → (am_isR x1 = true) → (am_isR x2 = true) → am_W X (d + 2) 310 72 lv [] h (fun q => q = o) := by
  intro K
  induction K with
  | zero => intro x0 x1 x2 x3 x4 x5 h o hs; cases hs
  | succ K ih =>
    intro x0 x1 x2 x3 x4 x5 h o hs lv l0 l1 l2 l3 l4 l5 i0 i1 i2
    unfold fg_310_72 at hs
    refine aw_iload (pc1 := 74) at_310_72 l5 rfl ?_
    refine aw_iconst (v := 4) (pc1 := 75) at_310_74 (by decide) rfl ?_
    by_cases c1 : 4 ≤ x5
    · rw [if_pos c1] at hs
      refine aw_icge_t at_310_75 c1 ?_
      refine aw_iinc (v := (x4 + 1)) (c := 1) (lv1 := am_put1 _ 4 _) (pc1 := 161) at_310_158 l4 (by decide) rfl rfl rfl ?_
      refine aw_goto at_310_161 ?_
      exact q_38 x0 x1 x2 x3 ((x4 + 1)) h o hs _ (am_lk1 l0 rfl rfl) (am_lk1 l1 rfl rfl) (am_lk1 l2 rfl rfl) (am_lk1 l3 rfl rfl) am_lk0 i0 i1 i2
    · rw [if_neg c1] at hs
      refine aw_icge_f (pc1 := 78) at_310_75 c1 rfl ?_
      refine aw_vload_n (pc1 := 79) at_310_78 l0 i0 rfl ?_
      refine aw_vload_n (pc1 := 80) at_310_79 l1 i1 rfl ?_
      refine aw_vload_n (pc1 := 81) at_310_80 l1 i1 rfl ?_
      refine aw_vload_n (pc1 := 82) at_310_81 l0 i0 rfl ?_
      obtain ⟨v2, e3, hs1⟩ := am_bind hs
      clear hs
      refine aw_pG (pc1 := 85) at_310_82 (am_vR_s e3).1 rfl ?_
      refine aw_iload (pc1 := 87) at_310_85 l4 rfl ?_
      obtain ⟨v4, e5, hs2⟩ := am_bind hs1
      clear hs1
      refine aw_pA (pc1 := 88) at_310_87 (Or.inl ⟨rfl, rfl⟩) e5 rfl ?_
      refine aw_iconst (v := 1) (pc1 := 89) at_310_88 (by decide) rfl ?_
      refine aw_iload (pc1 := 91) at_310_89 l5 rfl ?_
      refine aw_iadd (v := (1 + x5)) (pc1 := 92) at_310_91 rfl rfl ?_
      obtain ⟨z6, hs3⟩ := am_ift hs2
      clear hs2
      refine aw_call (F := fm_54 x1 v4 ((1 + x5)) h) (t := true) (na := 3) (kd := 1) (as := [x1, (.int v4), (.int (1 + x5))]) at_310_92 (am_k3v kb_54) mn_54 mk_54 rfl rfl (am_ok_v mi_54 (am_hl rfl (am_ccR i1 (am_ccI (am_ccI am_cats_0))) rfl) z6) (am_hc (am_ccR i1 (am_ccR i0 am_cats_0)) rfl) (fun _ => ⟨rfl, hh_310⟩) (fun o1 hz9 => rm_54 x1 v4 ((1 + x5)) h o1 i1 hz9) ?_
      rcases am_cI_s hs3 with ⟨v7, h8, f9, hs4⟩ | hs4
      · clear hs3
        refine Or.inl ⟨_, _, f9, ?_⟩
        show am_W X _ 310 95 _ [(.int v7), x1, x0] h8 _
        obtain ⟨z10, hs5⟩ := am_ift hs4
        clear hs4
        refine aw_call (F := fm_312 N x0 x1 v7 h8) (t := true) (na := 3) (kd := 1) (as := [x0, x1, (.int v7)]) at_310_95 (am_k3v kb_312) mn_312 mk_312 rfl rfl (am_ok_v mi_312 (am_hl rfl (am_ccR i0 (am_ccR i1 (am_ccI am_cats_0))) rfl) z10) (am_hc am_cats_0 rfl) (fun _ => ⟨rfl, hh_310⟩) (fun o1 hz9 => rm_312 x0 x1 v7 h8 o1 i0 i1 hz9) ?_
        rcases am_cI_s hs5 with ⟨v11, h12, f13, hs6⟩ | hs6
        · clear hs5
          refine Or.inl ⟨_, _, f13, ?_⟩
          show am_W X _ 310 98 _ [(.int v11)] h12 _
          refine aw_istore (lv1 := am_put1 _ 6 _) (pc1 := 100) at_310_98 rfl rfl ?_
          refine aw_vload_n (pc1 := 101) at_310_100 (am_lk1 l0 rfl rfl) i0 rfl ?_
          obtain ⟨v14, e15, hs7⟩ := am_bind hs6
          clear hs6
          refine aw_pG (pc1 := 104) at_310_101 (am_vR_s e15).1 rfl ?_
          refine aw_iload (pc1 := 106) at_310_104 am_lk0 rfl ?_
          obtain ⟨v16, e17, hs8⟩ := am_bind hs7
          clear hs7
          refine aw_pA (pc1 := 107) at_310_106 (Or.inl ⟨rfl, rfl⟩) e17 rfl ?_
          by_cases c18 : 0 ≤ v16
          · rw [if_pos c18] at hs8
            refine aw_ifge_t at_310_107 c18 ?_
            exact rg_310_135 q_38 (fun z0 z1 z2 z3 z4 z5 h o hs8 => ih z0 z1 z2 z3 z4 z5 h o hs8) x0 x1 x2 x3 x4 x5 v11 h12 o (am_lk1 l0 rfl rfl) (am_lk1 l1 rfl rfl) (am_lk1 l2 rfl rfl) (am_lk1 l3 rfl rfl) (am_lk1 l4 rfl rfl) (am_lk1 l5 rfl rfl) am_lk0 i0 i1 i2 hs8
          · rw [if_neg c18] at hs8
            refine aw_ifge_f (pc1 := 110) at_310_107 c18 rfl ?_
            refine aw_iload_n (pc1 := 111) at_310_110 (am_lk1 l3 rfl rfl) rfl ?_
            refine aw_bipush (v := 6) (pc1 := 113) at_310_111 (by decide) rfl ?_
            by_cases c19 : 6 ≤ x3
            · rw [if_pos c19] at hs8
              refine aw_icge_t at_310_113 c19 ?_
              exact rg_310_135 q_38 (fun z0 z1 z2 z3 z4 z5 h o hs8 => ih z0 z1 z2 z3 z4 z5 h o hs8) x0 x1 x2 x3 x4 x5 v11 h12 o (am_lk1 l0 rfl rfl) (am_lk1 l1 rfl rfl) (am_lk1 l2 rfl rfl) (am_lk1 l3 rfl rfl) (am_lk1 l4 rfl rfl) (am_lk1 l5 rfl rfl) am_lk0 i0 i1 i2 hs8
            · rw [if_neg c19] at hs8
              refine aw_icge_f (pc1 := 116) at_310_113 c19 rfl ?_
              refine aw_vload_n (pc1 := 117) at_310_116 (am_lk1 l0 rfl rfl) i0 rfl ?_
              obtain ⟨v20, e21, hs9⟩ := am_bind hs8
              clear hs8
              refine aw_pG (pc1 := 120) at_310_117 (am_vR_s e21).1 rfl ?_
              refine aw_iload (pc1 := 122) at_310_120 am_lk0 rfl ?_
              refine aw_iload_n (pc1 := 123) at_310_122 (am_lk1 l3 rfl rfl) rfl ?_
              obtain ⟨h22, e23, hs10⟩ := am_bind hs9
              clear hs9
              refine aw_pS (pc1 := 124) at_310_123 (Or.inl ⟨rfl, rfl⟩) e23 rfl ?_
              refine aw_vload_n (pc1 := 125) at_310_124 (am_lk1 l0 rfl rfl) i0 rfl ?_
              obtain ⟨v24, e25, hs11⟩ := am_bind hs10
              clear hs10
              refine aw_pG (pc1 := 128) at_310_125 (am_vR_s e25).1 rfl ?_
              refine aw_iload_n (pc1 := 129) at_310_128 (am_lk1 l3 rfl rfl) rfl ?_
              refine aw_iload (pc1 := 131) at_310_129 am_lk0 rfl ?_
              obtain ⟨h26, e27, hs12⟩ := am_bind hs11
              clear hs11
              refine aw_pS (pc1 := 132) at_310_131 (Or.inl ⟨rfl, rfl⟩) e27 rfl ?_
              refine aw_iinc (v := (x3 + 1)) (c := 1) (lv1 := am_put1 _ 3 _) (pc1 := 135) at_310_132 (am_lk1 l3 rfl rfl) (by decide) rfl rfl rfl ?_
              exact rg_310_135 q_38 (fun z0 z1 z2 z3 z4 z5 h o hs12 => ih z0 z1 z2 z3 z4 z5 h o hs12) x0 x1 x2 ((x3 + 1)) x4 x5 v11 h26 o (am_lk1 (am_lk1 l0 rfl rfl) rfl rfl) (am_lk1 (am_lk1 l1 rfl rfl) rfl rfl) (am_lk1 (am_lk1 l2 rfl rfl) rfl (by rw [am_isRc i2]; rfl)) am_lk0 (am_lk1 (am_lk1 l4 rfl rfl) rfl rfl) (am_lk1 (am_lk1 l5 rfl rfl) rfl rfl) (am_lk1 am_lk0 rfl rfl) i0 i1 i2 hs12
        · clear hs5
          exact Or.inr hs6
      · clear hs3
        exact Or.inr hs4
def fg_310_38 (N : Nat) : Nat → Value → Value → Value → Int32 → Int32 → am_H → Option am_O
  | 0 => fun _ _ _ _ _ _ => none
  | K + 1 => fun x0 x1 x2 x3 x4 h => (if x3 ≤ x4 then (fg_310_164 N h) else (if 6 ≤ x4 then (fg_310_164 N h) else ((am_vR (am_pG 2568 x0 h)).bind fun v3 => ((am_pA 0 v3 x4 h).bind fun v5 => (if am_pOk 3 x1 h then am_cI true (fm_54 x1 v5 0 h) (fun v8 h9 => (if am_pOk 3 x2 h9 then am_cI true (fm_41 N x2 v8 0 h9) (fun v12 h13 => (fg_310_72 N (fg_310_38 N K) N x0 x1 x2 x3 x4 0 h13)) else none)) else none)))))
theorem rg_310_38 {X : am_X} {d : Nat} {N : Nat} : ∀ (K : Nat) (x0 : Value) (x1 : Value) (x2 : Value) (x3 : Int32) (x4 : Int32) (h : am_H) (o : am_O), fg_310_38 N K x0 x1 x2 x3 x4 h = some o → ∀ lv : am_LV, (lv.lookup 0 = some x0) → (lv.lookup 1 = some x1) → (lv.lookup 2 = some x2) → (lv.lookup 3 = some (.int x3)) → (lv.lookup 4 = some (.int x4)) → (am_isR x0 = true) → (am_isR x1 = true) → (am_isR x2 = true) → am_W X (d + 2) 310 38 lv [] h (fun q => q = o) := by
  intro K
  induction K with
  | zero => intro x0 x1 x2 x3 x4 h o hs; cases hs
  | succ K ih =>
    intro x0 x1 x2 x3 x4 h o hs lv l0 l1 l2 l3 l4 i0 i1 i2
    unfold fg_310_38 at hs
    refine aw_iload (pc1 := 40) at_310_38 l4 rfl ?_
    refine aw_iload_n (pc1 := 41) at_310_40 l3 rfl ?_
    by_cases c1 : x3 ≤ x4
    · rw [if_pos c1] at hs
      refine aw_icge_t at_310_41 c1 ?_
      exact rg_310_164 h o   hs
    · rw [if_neg c1] at hs
      refine aw_icge_f (pc1 := 44) at_310_41 c1 rfl ?_
      refine aw_iload (pc1 := 46) at_310_44 l4 rfl ?_
      refine aw_bipush (v := 6) (pc1 := 48) at_310_46 (by decide) rfl ?_
      by_cases c2 : 6 ≤ x4
      · rw [if_pos c2] at hs
        refine aw_icge_t at_310_48 c2 ?_
        exact rg_310_164 h o   hs
      · rw [if_neg c2] at hs
        refine aw_icge_f (pc1 := 51) at_310_48 c2 rfl ?_
        refine aw_vload_n (pc1 := 52) at_310_51 l2 i2 rfl ?_
        refine aw_vload_n (pc1 := 53) at_310_52 l1 i1 rfl ?_
        refine aw_vload_n (pc1 := 54) at_310_53 l0 i0 rfl ?_
        obtain ⟨v3, e4, hs1⟩ := am_bind hs
        clear hs
        refine aw_pG (pc1 := 57) at_310_54 (am_vR_s e4).1 rfl ?_
        refine aw_iload (pc1 := 59) at_310_57 l4 rfl ?_
        obtain ⟨v5, e6, hs2⟩ := am_bind hs1
        clear hs1
        refine aw_pA (pc1 := 60) at_310_59 (Or.inl ⟨rfl, rfl⟩) e6 rfl ?_
        refine aw_iconst (v := 0) (pc1 := 61) at_310_60 (by decide) rfl ?_
        obtain ⟨z7, hs3⟩ := am_ift hs2
        clear hs2
        refine aw_call (F := fm_54 x1 v5 0 h) (t := true) (na := 3) (kd := 1) (as := [x1, (.int v5), (.int 0)]) at_310_61 (am_k3v kb_54) mn_54 mk_54 rfl rfl (am_ok_v mi_54 (am_hl rfl (am_ccR i1 (am_ccI (am_ccI am_cats_0))) rfl) z7) (am_hc (am_ccR i2 am_cats_0) rfl) (fun _ => ⟨rfl, hh_310⟩) (fun o1 hz9 => rm_54 x1 v5 0 h o1 i1 hz9) ?_
        rcases am_cI_s hs3 with ⟨v8, h9, f10, hs4⟩ | hs4
        · clear hs3
          refine Or.inl ⟨_, _, f10, ?_⟩
          show am_W X _ 310 64 _ [(.int v8), x2] h9 _
          refine aw_iconst (v := 0) (pc1 := 65) at_310_64 (by decide) rfl ?_
          obtain ⟨z11, hs5⟩ := am_ift hs4
          clear hs4
          refine aw_call (F := fm_41 N x2 v8 0 h9) (t := true) (na := 3) (kd := 1) (as := [x2, (.int v8), (.int 0)]) at_310_65 (am_k3v kb_41) mn_41 mk_41 rfl rfl (am_ok_v mi_41 (am_hl rfl (am_ccR i2 (am_ccI (am_ccI am_cats_0))) rfl) z11) (am_hc am_cats_0 rfl) (fun _ => ⟨rfl, hh_310⟩) (fun o1 hz9 => rm_41 x2 v8 0 h9 o1 i2 hz9) ?_
          rcases am_cI_s hs5 with ⟨v12, h13, f14, hs6⟩ | hs6
          · clear hs5
            refine Or.inl ⟨_, _, f14, ?_⟩
            show am_W X _ 310 68 _ [(.int v12)] h13 _
            refine aw_popi (pc1 := 69) at_310_68 rfl ?_
            refine aw_iconst (v := 0) (pc1 := 70) at_310_69 (by decide) rfl ?_
            refine aw_istore (lv1 := am_put1 _ 5 _) (pc1 := 72) at_310_70 rfl rfl ?_
            exact rg_310_72 (fun z0 z1 z2 z3 z4 h o hs6 => ih z0 z1 z2 z3 z4 h o hs6) N x0 x1 x2 x3 x4 0 h13 o hs6 _ (am_lk1 l0 rfl rfl) (am_lk1 l1 rfl rfl) (am_lk1 l2 rfl rfl) (am_lk1 l3 rfl rfl) (am_lk1 l4 rfl rfl) am_lk0 i0 i1 i2
          · clear hs5
            exact Or.inr hs6
        · clear hs3
          exact Or.inr hs4
def fg_310_0 (N : Nat) (x0 : Value) (x1 : Value) (x2 : Value) (h : am_H) : Option am_O := (if am_pOk 10 x0 h then am_cV true (fm_311 N x0 x1 h) (fun h3 => ((am_vR (am_pG 2567 x0 h3)).bind fun v5 => am_cV false (fm_53 N v5 ((-1)) h3) (fun h8 => ((am_vR (am_pG 2567 x0 h8)).bind fun v10 => ((am_pS 0 v10 0 0 h8).bind fun h12 => ((am_vR (am_pG 2568 x0 h12)).bind fun v14 => ((am_pS 0 v14 0 0 h12).bind fun h16 => (if am_pOk 3 x2 h16 then am_cV true (fm_34 x2 2 0 h16) (fun h20 => (fg_310_38 N N x0 x1 x2 1 0 h20)) else none)))))))) else none)
theorem rg_310_0 {X : am_X} {d : Nat} {N : Nat} {lv : am_LV} (x0 : Value) (x1 : Value) (x2 : Value) (h : am_H) (o : am_O) (l0 : lv.lookup 0 = some x0) (l1 : lv.lookup 1 = some x1) (l2 : lv.lookup 2 = some x2) (i0 : am_isR x0 = true) (i1 : am_isR x1 = true) (i2 : am_isR x2 = true) (hs : fg_310_0 N x0 x1 x2 h = some o) : am_W X (d + 2) 310 0 lv [] h (fun q => q = o) := by
  unfold fg_310_0 at hs
  refine aw_vload_n (pc1 := 1) at_310_0 l0 i0 rfl ?_
  refine aw_vload_n (pc1 := 2) at_310_1 l1 i1 rfl ?_
  obtain ⟨z1, hs1⟩ := am_ift hs
  clear hs
  refine aw_call (F := fm_311 N x0 x1 h) (t := true) (na := 2) (kd := 1) (as := [x0, x1]) at_310_2 (am_k3v kb_311) mn_311 mk_311 rfl rfl (am_ok_v mi_311 (am_hl rfl (am_ccR i0 (am_ccR i1 am_cats_0)) rfl) z1) (am_hc am_cats_0 rfl) (fun _ => ⟨rfl, hh_310⟩) (fun o1 hz9 => rm_311 x0 x1 h o1 i0 i1 hz9) ?_
  rcases am_cV_s hs1 with ⟨h3, f4, hs2⟩ | hs2
  · clear hs1
    refine Or.inl ⟨_, _, f4, ?_⟩
    show am_W X _ 310 5 _ [] h3 _
    refine aw_vload_n (pc1 := 6) at_310_5 l0 i0 rfl ?_
    obtain ⟨v5, e6, hs3⟩ := am_bind hs2
    clear hs2
    refine aw_pG (pc1 := 9) at_310_6 (am_vR_s e6).1 rfl ?_
    refine aw_iconst (v := (-1)) (pc1 := 10) at_310_9 (by decide) rfl ?_
    refine aw_call (F := fm_53 N v5 ((-1)) h3) (t := false) (na := 2) (kd := 0) (as := [v5, (.int (-1))]) at_310_10 (am_k3s kb_53) mn_53 mk_53 rfl rfl (am_ok_s mi_53 (am_hl rfl (am_ccR (am_vR_s e6).2 (am_ccI am_cats_0)) rfl)) (am_hc am_cats_0 rfl) (fun hz9 => by cases hz9) (fun o1 hz9 => rm_53 v5 ((-1)) h3 o1 (am_vR_s e6).2 hz9) ?_
    rcases am_cV_s hs3 with ⟨h8, f9, hs4⟩ | hs4
    · clear hs3
      refine Or.inl ⟨_, _, f9, ?_⟩
      show am_W X _ 310 13 _ [] h8 _
      refine aw_vload_n (pc1 := 14) at_310_13 l0 i0 rfl ?_
      obtain ⟨v10, e11, hs5⟩ := am_bind hs4
      clear hs4
      refine aw_pG (pc1 := 17) at_310_14 (am_vR_s e11).1 rfl ?_
      refine aw_iconst (v := 0) (pc1 := 18) at_310_17 (by decide) rfl ?_
      refine aw_iconst (v := 0) (pc1 := 19) at_310_18 (by decide) rfl ?_
      obtain ⟨h12, e13, hs6⟩ := am_bind hs5
      clear hs5
      refine aw_pS (pc1 := 20) at_310_19 (Or.inl ⟨rfl, rfl⟩) e13 rfl ?_
      refine aw_iconst (v := 1) (pc1 := 21) at_310_20 (by decide) rfl ?_
      refine aw_istore_n (lv1 := am_put1 _ 3 _) (pc1 := 22) at_310_21 rfl rfl ?_
      refine aw_vload_n (pc1 := 23) at_310_22 (am_lk1 l0 rfl rfl) i0 rfl ?_
      obtain ⟨v14, e15, hs7⟩ := am_bind hs6
      clear hs6
      refine aw_pG (pc1 := 26) at_310_23 (am_vR_s e15).1 rfl ?_
      refine aw_iconst (v := 0) (pc1 := 27) at_310_26 (by decide) rfl ?_
      refine aw_iconst (v := 0) (pc1 := 28) at_310_27 (by decide) rfl ?_
      obtain ⟨h16, e17, hs8⟩ := am_bind hs7
      clear hs7
      refine aw_pS (pc1 := 29) at_310_28 (Or.inl ⟨rfl, rfl⟩) e17 rfl ?_
      refine aw_vload_n (pc1 := 30) at_310_29 (am_lk1 l2 rfl (by rw [am_isRc i2]; rfl)) i2 rfl ?_
      refine aw_iconst (v := 2) (pc1 := 31) at_310_30 (by decide) rfl ?_
      refine aw_iconst (v := 0) (pc1 := 32) at_310_31 (by decide) rfl ?_
      obtain ⟨z18, hs9⟩ := am_ift hs8
      clear hs8
      refine aw_call (F := fm_34 x2 2 0 h16) (t := true) (na := 3) (kd := 1) (as := [x2, (.int 2), (.int 0)]) at_310_32 (am_k3v kb_34) mn_34 mk_34 rfl rfl (am_ok_v mi_34 (am_hl rfl (am_ccR i2 (am_ccI (am_ccI am_cats_0))) rfl) z18) (am_hc am_cats_0 rfl) (fun _ => ⟨rfl, hh_310⟩) (fun o1 hz9 => rm_34 x2 2 0 h16 o1 i2 hz9) ?_
      rcases am_cV_s hs9 with ⟨h20, f21, hs10⟩ | hs10
      · clear hs9
        refine Or.inl ⟨_, _, f21, ?_⟩
        show am_W X _ 310 35 _ [] h20 _
        refine aw_iconst (v := 0) (pc1 := 36) at_310_35 (by decide) rfl ?_
        refine aw_istore (lv1 := am_put1 _ 4 _) (pc1 := 38) at_310_36 rfl rfl ?_
        exact rg_310_38 N x0 x1 x2 1 0 h20 o hs10 _ (am_lk1 (am_lk1 l0 rfl rfl) rfl rfl) (am_lk1 (am_lk1 l1 rfl rfl) rfl rfl) (am_lk1 (am_lk1 l2 rfl (by rw [am_isRc i2]; rfl)) rfl rfl) (am_lk1 am_lk0 rfl rfl) am_lk0 i0 i1 i2
      · clear hs9
        exact Or.inr hs10
    · clear hs3
      exact Or.inr hs4
  · clear hs1
    exact Or.inr hs2
def fm_310 (N : Nat) (y0 : Value) (y1 : Value) (y2 : Value) (h : am_H) : Option am_O := fg_310_0 N y0 y1 y2 h
theorem rm_310 {X : am_X} {d : Nat} {N : Nat} (y0 : Value) (y1 : Value) (y2 : Value) (h : am_H) (o : am_O) (i0 : am_isR y0 = true) (i1 : am_isR y1 = true) (i2 : am_isR y2 = true) (hs : fm_310 N y0 y1 y2 h = some o) : am_W X (d + 2) 310 0 (am_args 0 [y0, y1, y2]) [] h (fun q => q = o) := by
  rw [am_args_R i0, am_args_R i1, am_args_R i2]
  exact rg_310_0 y0 y1 y2 h o rfl rfl rfl i0 i1 i2 hs
def fg_309_0 (N : Nat) (x0 : Value) (x1 : Int32) (h : am_H) : Option am_O := (if am_pOk 11 x0 h then am_cR true (fm_63 x0 x1 h) (fun v2 h3 => ((am_vI (am_pG 769 v2 h3)).bind fun v5 => (if v5 = 2 then (if am_pOk 11 x0 h3 then am_cV true (fm_32 x0 1 h3) (fun h10 => ((am_vR (am_pG 2825 x0 h10)).bind fun v12 => ((am_vR (am_pG 2831 x0 h10)).bind fun v14 => (if am_pOk 10 v12 h10 then am_cV true (fm_310 N v12 v2 v14 h10) (fun h18 => ((am_vR (am_pG 2831 x0 h18)).bind fun v20 => (if am_pOk 11 x0 h18 then am_cI true (fm_59 x0 v20 7 x1 ((-1)) ((-1)) ((-1)) 0 h18) (fun v23 h24 => some (.inl (some (.int v23), h24))) else none))) else none)))) else none) else some (.inr (0, h3 ++ [am_dummy]))))) else none)
theorem rg_309_0 {X : am_X} {d : Nat} {N : Nat} {lv : am_LV} (x0 : Value) (x1 : Int32) (h : am_H) (o : am_O) (l0 : lv.lookup 0 = some x0) (l1 : lv.lookup 1 = some (.int x1)) (i0 : am_isR x0 = true) (hs : fg_309_0 N x0 x1 h = some o) : am_W X (d + 3) 309 0 lv [] h (fun q => q = o) := by
  unfold fg_309_0 at hs
  refine aw_vload_n (pc1 := 1) at_309_0 l0 i0 rfl ?_
  refine aw_iload_n (pc1 := 2) at_309_1 l1 rfl ?_
  obtain ⟨z1, hs1⟩ := am_ift hs
  clear hs
  refine aw_call (F := fm_63 x0 x1 h) (t := true) (na := 2) (kd := 1) (as := [x0, (.int x1)]) at_309_2 (am_k3v kb_63) mn_63 mk_63 rfl rfl (am_ok_v mi_63 (am_hl rfl (am_ccR i0 (am_ccI am_cats_0)) rfl) z1) (am_hc am_cats_0 rfl) (fun _ => ⟨rfl, hh_309⟩) (fun o1 hz9 => rm_63 x0 x1 h o1 i0 hz9) ?_
  rcases am_cR_s hs1 with ⟨v2, h3, f4, iv2, hs2⟩ | hs2
  · clear hs1
    refine Or.inl ⟨_, _, f4, ?_⟩
    show am_W X _ 309 5 _ [v2] h3 _
    refine aw_vstore_n (lv1 := am_put1 _ 2 _) (pc1 := 6) at_309_5 iv2 rfl rfl ?_
    refine aw_vload_n (pc1 := 7) at_309_6 am_lk0 iv2 rfl ?_
    obtain ⟨v5, e6, hs3⟩ := am_bind hs2
    clear hs2
    refine aw_pG (pc1 := 10) at_309_7 (am_vI_s e6) rfl ?_
    refine aw_iconst (v := 2) (pc1 := 11) at_309_10 (by decide) rfl ?_
    by_cases c7 : v5 = 2
    · rw [if_pos c7] at hs3
      refine aw_iceq_t at_309_11 c7 ?_
      refine aw_vload_n (pc1 := 26) at_309_25 (am_lk1 l0 rfl rfl) i0 rfl ?_
      refine aw_iconst (v := 1) (pc1 := 27) at_309_26 (by decide) rfl ?_
      obtain ⟨z8, hs4⟩ := am_ift hs3
      clear hs3
      refine aw_call (F := fm_32 x0 1 h3) (t := true) (na := 2) (kd := 1) (as := [x0, (.int 1)]) at_309_27 (am_k3v kb_32) mn_32 mk_32 rfl rfl (am_ok_v mi_32 (am_hl rfl (am_ccR i0 (am_ccI am_cats_0)) rfl) z8) (am_hc am_cats_0 rfl) (fun _ => ⟨rfl, hh_309⟩) (fun o1 hz9 => rm_32 x0 1 h3 o1 i0 hz9) ?_
      rcases am_cV_s hs4 with ⟨h10, f11, hs5⟩ | hs5
      · clear hs4
        refine Or.inl ⟨_, _, f11, ?_⟩
        show am_W X _ 309 30 _ [] h10 _
        refine aw_vload_n (pc1 := 31) at_309_30 (am_lk1 l0 rfl rfl) i0 rfl ?_
        obtain ⟨v12, e13, hs6⟩ := am_bind hs5
        clear hs5
        refine aw_pG (pc1 := 34) at_309_31 (am_vR_s e13).1 rfl ?_
        refine aw_vload_n (pc1 := 35) at_309_34 am_lk0 iv2 rfl ?_
        refine aw_vload_n (pc1 := 36) at_309_35 (am_lk1 l0 rfl rfl) i0 rfl ?_
        obtain ⟨v14, e15, hs7⟩ := am_bind hs6
        clear hs6
        refine aw_pG (pc1 := 39) at_309_36 (am_vR_s e15).1 rfl ?_
        obtain ⟨z16, hs8⟩ := am_ift hs7
        clear hs7
        refine aw_call (F := fm_310 N v12 v2 v14 h10) (t := true) (na := 3) (kd := 1) (as := [v12, v2, v14]) at_309_39 (am_k3v kb_310) mn_310 mk_310 rfl rfl (am_ok_v mi_310 (am_hl rfl (am_ccR (am_vR_s e13).2 (am_ccR iv2 (am_ccR (am_vR_s e15).2 am_cats_0))) rfl) z16) (am_hc am_cats_0 rfl) (fun _ => ⟨rfl, hh_309⟩) (fun o1 hz9 => rm_310 v12 v2 v14 h10 o1 (am_vR_s e13).2 iv2 (am_vR_s e15).2 hz9) ?_
        rcases am_cV_s hs8 with ⟨h18, f19, hs9⟩ | hs9
        · clear hs8
          refine Or.inl ⟨_, _, f19, ?_⟩
          show am_W X _ 309 42 _ [] h18 _
          refine aw_vload_n (pc1 := 43) at_309_42 (am_lk1 l0 rfl rfl) i0 rfl ?_
          refine aw_vload_n (pc1 := 44) at_309_43 (am_lk1 l0 rfl rfl) i0 rfl ?_
          obtain ⟨v20, e21, hs10⟩ := am_bind hs9
          clear hs9
          refine aw_pG (pc1 := 47) at_309_44 (am_vR_s e21).1 rfl ?_
          refine aw_bipush (v := 7) (pc1 := 49) at_309_47 (by decide) rfl ?_
          refine aw_iload_n (pc1 := 50) at_309_49 (am_lk1 l1 rfl rfl) rfl ?_
          refine aw_iconst (v := (-1)) (pc1 := 51) at_309_50 (by decide) rfl ?_
          refine aw_iconst (v := (-1)) (pc1 := 52) at_309_51 (by decide) rfl ?_
          refine aw_iconst (v := (-1)) (pc1 := 53) at_309_52 (by decide) rfl ?_
          refine aw_lconst (v := 0) (pc1 := 54) at_309_53 (by decide) rfl ?_
          obtain ⟨z22, hs11⟩ := am_ift hs10
          clear hs10
          refine aw_call (F := fm_59 x0 v20 7 x1 ((-1)) ((-1)) ((-1)) 0 h18) (t := true) (na := 8) (kd := 1) (as := [x0, v20, (.int 7), (.int x1), (.int (-1)), (.int (-1)), (.int (-1)), (.long 0)]) at_309_54 (am_k3v kb_59) mn_59 mk_59 rfl rfl (am_ok_v mi_59 (am_hl rfl (am_ccR i0 (am_ccR (am_vR_s e21).2 (am_ccI (am_ccI (am_ccI (am_ccI (am_ccI (am_ccL am_cats_0)))))))) rfl) z22) (am_hc am_cats_0 rfl) (fun _ => ⟨rfl, hh_309⟩) (fun o1 hz9 => rm_59 x0 v20 7 x1 ((-1)) ((-1)) ((-1)) 0 h18 o1 i0 (am_vR_s e21).2 hz9) ?_
          rcases am_cI_s hs11 with ⟨v23, h24, f25, hs12⟩ | hs12
          · clear hs11
            refine Or.inl ⟨_, _, f25, ?_⟩
            show am_W X _ 309 57 _ [(.int v23)] h24 _
            cases hs12
            exact aw_iret at_309_57 (by rw [rt_309]; rfl) rfl
          · clear hs11
            exact Or.inr hs12
        · clear hs8
          exact Or.inr hs9
      · clear hs4
        exact Or.inr hs5
    · rw [if_neg c7] at hs3
      refine aw_iceq_f (pc1 := 14) at_309_11 c7 rfl ?_
      cases hs3
      exact aw_throw at_309_14 rfl th_309_14 (am_hc am_cats_0 rfl) rfl
  · clear hs1
    exact Or.inr hs2
def fm_309 (N : Nat) (y0 : Value) (y1 : Int32) (h : am_H) : Option am_O := fg_309_0 N y0 y1 h
theorem rm_309 {X : am_X} {d : Nat} {N : Nat} (y0 : Value) (y1 : Int32) (h : am_H) (o : am_O) (i0 : am_isR y0 = true) (hs : fm_309 N y0 y1 h = some o) : am_W X (d + 3) 309 0 (am_args 0 [y0, .int y1]) [] h (fun q => q = o) := by
  rw [am_args_R i0, am_args_I]
  exact rg_309_0 y0 y1 h o rfl rfl i0 hs
def fg_308_19 (N : Nat) (h : am_H) : Option am_O := some (.inl (some (.int 3), h))
theorem rg_308_19 {X : am_X} {d : Nat} {N : Nat} {lv : am_LV} (h : am_H) (o : am_O) (hs : fg_308_19 N h = some o) : am_W X (d + 4) 308 19 lv [] h (fun q => q = o) := by
  unfold fg_308_19 at hs
  refine aw_iconst (v := 3) (pc1 := 20) at_308_19 (by decide) rfl ?_
  cases hs
  exact aw_iret at_308_20 (by rw [rt_308]; rfl) rfl
def fg_308_16 (N : Nat) (h : am_H) : Option am_O := some (.inl (some (.int 2), h))
theorem rg_308_16 {X : am_X} {d : Nat} {N : Nat} {lv : am_LV} (h : am_H) (o : am_O) (hs : fg_308_16 N h = some o) : am_W X (d + 4) 308 16 lv [] h (fun q => q = o) := by
  unfold fg_308_16 at hs
  refine aw_iconst (v := 2) (pc1 := 17) at_308_16 (by decide) rfl ?_
  cases hs
  exact aw_iret at_308_17 (by rw [rt_308]; rfl) rfl
def fg_308_13 (N : Nat) (h : am_H) : Option am_O := some (.inl (some (.int 1), h))
theorem rg_308_13 {X : am_X} {d : Nat} {N : Nat} {lv : am_LV} (h : am_H) (o : am_O) (hs : fg_308_13 N h = some o) : am_W X (d + 4) 308 13 lv [] h (fun q => q = o) := by
  unfold fg_308_13 at hs
  refine aw_iconst (v := 1) (pc1 := 14) at_308_13 (by decide) rfl ?_
  cases hs
  exact aw_iret at_308_14 (by rw [rt_308]; rfl) rfl
def fg_308_0 (N : Nat) (x0 : Value) (x1 : Int32) (x2 : Value) (h : am_H) : Option am_O := (if am_pOk 11 x0 h then (match fm_309 N x0 x1 h with | some (.inl (some (.int v2), h3)) => ((am_pSL x2 0 (Int32.toInt64 v2) h3).bind fun h5 => some (.inl (some (.int 0), h5))) | some (.inr (0, h7)) => (fg_308_16 N h7) | some (.inr (1, h9)) => (fg_308_19 N h9) | some (.inr (2, h11)) => (fg_308_13 N h11) | _ => none) else none)
theorem rg_308_0 {X : am_X} {d : Nat} {N : Nat} {lv : am_LV} (x0 : Value) (x1 : Int32) (x2 : Value) (h : am_H) (o : am_O) (l0 : lv.lookup 0 = some x0) (l1 : lv.lookup 1 = some (.int x1)) (l2 : lv.lookup 2 = some x2) (i0 : am_isR x0 = true) (i2 : am_isR x2 = true) (hs : fg_308_0 N x0 x1 x2 h = some o) : am_W X (d + 4) 308 0 lv [] h (fun q => q = o) := by
  unfold fg_308_0 at hs
  refine aw_vload_n (pc1 := 1) at_308_0 l2 i2 rfl ?_
  refine aw_iconst (v := 0) (pc1 := 2) at_308_1 (by decide) rfl ?_
  refine aw_vload_n (pc1 := 3) at_308_2 l0 i0 rfl ?_
  refine aw_iload_n (pc1 := 4) at_308_3 l1 rfl ?_
  obtain ⟨z1, hs1⟩ := am_ift hs
  clear hs
  refine aw_callH (F := fm_309 N x0 x1 h) (na := 2) (kd := 1) (as := [x0, (.int x1)]) at_308_4 (am_k3v kb_309) mn_309 mk_309 rfl rfl (am_ok_v mi_309 (am_hl rfl (am_ccR i0 (am_ccI am_cats_0)) rfl) z1) (am_hc (am_ccI (am_ccR i2 am_cats_0)) rfl) (fun o1 hz9 => rm_309 x0 x1 h o1 i0 hz9) ?_
  split at hs1
  · rename_i v2 h3 f4
    refine Or.inl ⟨_, _, f4, ?_⟩
    show am_W X _ 308 7 _ [(.int v2), (.int 0), x2] h3 _
    refine aw_i2l (v := (Int32.toInt64 v2)) (pc1 := 8) at_308_7 rfl rfl ?_
    obtain ⟨h5, e6, hs2⟩ := am_bind hs1
    clear hs1
    refine aw_pSL (pc1 := 9) at_308_8 e6 rfl ?_
    refine aw_goto at_308_9 ?_
    refine aw_iconst (v := 0) (pc1 := 22) at_308_21 (by decide) rfl ?_
    cases hs2
    exact aw_iret at_308_22 (by rw [rt_308]; rfl) rfl
  · rename_i h7 f8
    refine Or.inr ⟨_, _, 16, 3, f8, rfl, hn_308, hd_308_4_0, ?_⟩
    exact rg_308_16 h7 o   hs1
  · rename_i h9 f10
    refine Or.inr ⟨_, _, 19, 3, f10, rfl, hn_308, hd_308_4_1, ?_⟩
    exact rg_308_19 h9 o   hs1
  · rename_i h11 f12
    refine Or.inr ⟨_, _, 13, 3, f12, rfl, hn_308, hd_308_4_2, ?_⟩
    exact rg_308_13 h11 o   hs1
  · cases hs1
def fm_308 (N : Nat) (y0 : Value) (y1 : Int32) (y2 : Value) (h : am_H) : Option am_O := fg_308_0 N y0 y1 y2 h
theorem rm_308 {X : am_X} {d : Nat} {N : Nat} (y0 : Value) (y1 : Int32) (y2 : Value) (h : am_H) (o : am_O) (i0 : am_isR y0 = true) (i2 : am_isR y2 = true) (hs : fm_308 N y0 y1 y2 h = some o) : am_W X (d + 4) 308 0 (am_args 0 [y0, .int y1, y2]) [] h (fun q => q = o) := by
  rw [am_args_R i0, am_args_I, am_args_R i2]
  exact rg_308_0 y0 y1 y2 h o rfl rfl rfl i0 i2 hs
def fg_584_74 (N : Nat) (rec_24 : Value → Int32 → Int32 → Int32 → Int32 → am_H → Option am_O) (x0 : Value) (x1 : Int32) (x2 : Int32) (x4 : Int32) (s0 : Int32) (h : am_H) : Option am_O := (rec_24 x0 x1 x2 s0 ((x4 + 1)) h)
theorem rg_584_74 {X : am_X} {d : Nat} {N : Nat} {rec_24 : Value → Int32 → Int32 → Int32 → Int32 → am_H → Option am_O} (q_24 : ∀ (x0 : Value) (x1 : Int32) (x2 : Int32) (x3 : Int32) (x4 : Int32) (h : am_H) (o : am_O), rec_24 x0 x1 x2 x3 x4 h = some o → ∀ lv : am_LV, (lv.lookup 0 = some x0) → (lv.lookup 1 = some (.int x1)) → (lv.lookup 2 = some (.int x2)) → (lv.lookup 3 = some (.int x3)) → (lv.lookup 4 = some (.int x4)) → (am_isR x0 = true) → am_W X (d + 1) 584 24 lv [] h (fun q => q = o)) {lv : am_LV} (x0 : Value) (x1 : Int32) (x2 : Int32) (x4 : Int32) (s0 : Int32) (h : am_H) (o : am_O) (l0 : lv.lookup 0 = some x0) (l1 : lv.lookup 1 = some (.int x1)) (l2 : lv.lookup 2 = some (.int x2)) (l4 : lv.lookup 4 = some (.int x4)) (i0 : am_isR x0 = true) (hs : fg_584_74 N rec_24 x0 x1 x2 x4 s0 h = some o) : am_W X (d + 1) 584 74 lv [(.int s0)] h (fun q => q = o) := by
  unfold fg_584_74 at hs
  refine aw_istore_n (lv1 := am_put1 _ 3 _) (pc1 := 75) at_584_74 rfl rfl ?_
  refine aw_iinc (v := (x4 + 1)) (c := 1) (lv1 := am_put1 _ 4 _) (pc1 := 78) at_584_75 (am_lk1 l4 rfl rfl) (by decide) rfl rfl rfl ?_
  refine aw_goto at_584_78 ?_
  exact q_24 x0 x1 x2 s0 ((x4 + 1)) h o hs _ (am_lk1 (am_lk1 l0 rfl rfl) rfl rfl) (am_lk1 (am_lk1 l1 rfl rfl) rfl rfl) (am_lk1 (am_lk1 l2 rfl rfl) rfl rfl) (am_lk1 am_lk0 rfl rfl) am_lk0 i0
def fg_584_73 (N : Nat) (rec_24 : Value → Int32 → Int32 → Int32 → Int32 → am_H → Option am_O) (x0 : Value) (x1 : Int32) (x2 : Int32) (x4 : Int32) (h : am_H) : Option am_O := (fg_584_74 N rec_24 x0 x1 x2 x4 0 h)
theorem rg_584_73 {X : am_X} {d : Nat} {N : Nat} {rec_24 : Value → Int32 → Int32 → Int32 → Int32 → am_H → Option am_O} (q_24 : ∀ (x0 : Value) (x1 : Int32) (x2 : Int32) (x3 : Int32) (x4 : Int32) (h : am_H) (o : am_O), rec_24 x0 x1 x2 x3 x4 h = some o → ∀ lv : am_LV, (lv.lookup 0 = some x0) → (lv.lookup 1 = some (.int x1)) → (lv.lookup 2 = some (.int x2)) → (lv.lookup 3 = some (.int x3)) → (lv.lookup 4 = some (.int x4)) → (am_isR x0 = true) → am_W X (d + 1) 584 24 lv [] h (fun q => q = o)) {lv : am_LV} (x0 : Value) (x1 : Int32) (x2 : Int32) (x4 : Int32) (h : am_H) (o : am_O) (l0 : lv.lookup 0 = some x0) (l1 : lv.lookup 1 = some (.int x1)) (l2 : lv.lookup 2 = some (.int x2)) (l4 : lv.lookup 4 = some (.int x4)) (i0 : am_isR x0 = true) (hs : fg_584_73 N rec_24 x0 x1 x2 x4 h = some o) : am_W X (d + 1) 584 73 lv [] h (fun q => q = o) := by
  unfold fg_584_73 at hs
  refine aw_iconst (v := 0) (pc1 := 74) at_584_73 (by decide) rfl ?_
  exact rg_584_74 q_24 x0 x1 x2 x4 0 h o l0 l1 l2 l4 i0 hs
def fg_584_24 (N : Nat) : Nat → Value → Int32 → Int32 → Int32 → Int32 → am_H → Option am_O
  | 0 => fun _ _ _ _ _ _ => none
  | K + 1 => fun x0 x1 x2 x3 x4 h => (if 4 ≤ x4 then (if am_rfit (some FieldType.boolean) x3 then some (.inl (some (.int x3), h)) else none) else (if x3 = 0 then (fg_584_73 N (fg_584_24 N K) x0 x1 x2 x4 h) else ((am_vR (am_pG 3204 x0 h)).bind fun v4 => ((am_vR (am_pG 3094 x0 h)).bind fun v6 => ((am_pA 0 v6 x1 h).bind fun v8 => am_cI false (fm_367 v8 x4 h) (fun v10 h11 => ((am_pA 0 v4 v10 h11).bind fun v13 => ((am_vR (am_pG 3204 x0 h11)).bind fun v15 => ((am_vR (am_pG 3094 x0 h11)).bind fun v17 => ((am_pA 0 v17 x2 h11).bind fun v19 => am_cI false (fm_367 v19 x4 h11) (fun v21 h22 => ((am_pA 0 v15 v21 h22).bind fun v24 => (if ¬ v13 = v24 then (fg_584_73 N (fg_584_24 N K) x0 x1 x2 x4 h22) else (fg_584_74 N (fg_584_24 N K) x0 x1 x2 x4 1 h22))))))))))))))
theorem rg_584_24 {X : am_X} {d : Nat} {N : Nat} : ∀ (K : Nat) (x0 : Value) (x1 : Int32) (x2 : Int32) (x3 : Int32) (x4 : Int32) (h : am_H) (o : am_O), fg_584_24 N K x0 x1 x2 x3 x4 h = some o → ∀ lv : am_LV, (lv.lookup 0 = some x0) → (lv.lookup 1 = some (.int x1)) → (lv.lookup 2 = some (.int x2)) → (lv.lookup 3 = some (.int x3)) → (lv.lookup 4 = some (.int x4)) → (am_isR x0 = true) → am_W X (d + 1) 584 24 lv [] h (fun q => q = o) := by
  intro K
  induction K with
  | zero => intro x0 x1 x2 x3 x4 h o hs; cases hs
  | succ K ih =>
    intro x0 x1 x2 x3 x4 h o hs lv l0 l1 l2 l3 l4 i0
    unfold fg_584_24 at hs
    refine aw_iload (pc1 := 26) at_584_24 l4 rfl ?_
    refine aw_iconst (v := 4) (pc1 := 27) at_584_26 (by decide) rfl ?_
    by_cases c1 : 4 ≤ x4
    · rw [if_pos c1] at hs
      refine aw_icge_t at_584_27 c1 ?_
      refine aw_iload_n (pc1 := 82) at_584_81 l3 rfl ?_
      obtain ⟨z2, hs1⟩ := am_ift hs
      clear hs
      cases hs1
      exact aw_iret at_584_82 (by rw [rt_584]; exact z2) rfl
    · rw [if_neg c1] at hs
      refine aw_icge_f (pc1 := 30) at_584_27 c1 rfl ?_
      refine aw_iload_n (pc1 := 31) at_584_30 l3 rfl ?_
      by_cases c3 : x3 = 0
      · rw [if_pos c3] at hs
        refine aw_ifeq_t at_584_31 c3 ?_
        exact rg_584_73 (fun z0 z1 z2 z3 z4 h o hs => ih z0 z1 z2 z3 z4 h o hs) x0 x1 x2 x4 h o l0 l1 l2 l4 i0 hs
      · rw [if_neg c3] at hs
        refine aw_ifeq_f (pc1 := 34) at_584_31 c3 rfl ?_
        refine aw_vload_n (pc1 := 35) at_584_34 l0 i0 rfl ?_
        obtain ⟨v4, e5, hs2⟩ := am_bind hs
        clear hs
        refine aw_pG (pc1 := 38) at_584_35 (am_vR_s e5).1 rfl ?_
        refine aw_vload_n (pc1 := 39) at_584_38 l0 i0 rfl ?_
        obtain ⟨v6, e7, hs3⟩ := am_bind hs2
        clear hs2
        refine aw_pG (pc1 := 42) at_584_39 (am_vR_s e7).1 rfl ?_
        refine aw_iload_n (pc1 := 43) at_584_42 l1 rfl ?_
        obtain ⟨v8, e9, hs4⟩ := am_bind hs3
        clear hs3
        refine aw_pA (pc1 := 44) at_584_43 (Or.inl ⟨rfl, rfl⟩) e9 rfl ?_
        refine aw_iload (pc1 := 46) at_584_44 l4 rfl ?_
        refine aw_call (F := fm_367 v8 x4 h) (t := false) (na := 2) (kd := 0) (as := [(.int v8), (.int x4)]) at_584_46 (am_k3s kb_367) mn_367 mk_367 rfl rfl (am_ok_s mi_367 (am_hl rfl (am_ccI (am_ccI am_cats_0)) rfl)) (am_hc (am_ccR (am_vR_s e5).2 am_cats_0) rfl) (fun hz9 => by cases hz9) (fun o1 hz9 => rm_367 v8 x4 h o1  hz9) ?_
        rcases am_cI_s hs4 with ⟨v10, h11, f12, hs5⟩ | hs5
        · clear hs4
          refine Or.inl ⟨_, _, f12, ?_⟩
          show am_W X _ 584 49 _ [(.int v10), v4] h11 _
          obtain ⟨v13, e14, hs6⟩ := am_bind hs5
          clear hs5
          refine aw_pA (pc1 := 50) at_584_49 (Or.inl ⟨rfl, rfl⟩) e14 rfl ?_
          refine aw_vload_n (pc1 := 51) at_584_50 l0 i0 rfl ?_
          obtain ⟨v15, e16, hs7⟩ := am_bind hs6
          clear hs6
          refine aw_pG (pc1 := 54) at_584_51 (am_vR_s e16).1 rfl ?_
          refine aw_vload_n (pc1 := 55) at_584_54 l0 i0 rfl ?_
          obtain ⟨v17, e18, hs8⟩ := am_bind hs7
          clear hs7
          refine aw_pG (pc1 := 58) at_584_55 (am_vR_s e18).1 rfl ?_
          refine aw_iload_n (pc1 := 59) at_584_58 l2 rfl ?_
          obtain ⟨v19, e20, hs9⟩ := am_bind hs8
          clear hs8
          refine aw_pA (pc1 := 60) at_584_59 (Or.inl ⟨rfl, rfl⟩) e20 rfl ?_
          refine aw_iload (pc1 := 62) at_584_60 l4 rfl ?_
          refine aw_call (F := fm_367 v19 x4 h11) (t := false) (na := 2) (kd := 0) (as := [(.int v19), (.int x4)]) at_584_62 (am_k3s kb_367) mn_367 mk_367 rfl rfl (am_ok_s mi_367 (am_hl rfl (am_ccI (am_ccI am_cats_0)) rfl)) (am_hc (am_ccR (am_vR_s e16).2 (am_ccI am_cats_0)) rfl) (fun hz9 => by cases hz9) (fun o1 hz9 => rm_367 v19 x4 h11 o1  hz9) ?_
          rcases am_cI_s hs9 with ⟨v21, h22, f23, hs10⟩ | hs10
          · clear hs9
            refine Or.inl ⟨_, _, f23, ?_⟩
            show am_W X _ 584 65 _ [(.int v21), v15, (.int v13)] h22 _
            obtain ⟨v24, e25, hs11⟩ := am_bind hs10
            clear hs10
            refine aw_pA (pc1 := 66) at_584_65 (Or.inl ⟨rfl, rfl⟩) e25 rfl ?_
            by_cases c26 : ¬ v13 = v24
            · rw [if_pos c26] at hs11
              refine aw_icne_t at_584_66 c26 ?_
              exact rg_584_73 (fun z0 z1 z2 z3 z4 h o hs11 => ih z0 z1 z2 z3 z4 h o hs11) x0 x1 x2 x4 h22 o l0 l1 l2 l4 i0 hs11
            · rw [if_neg c26] at hs11
              refine aw_icne_f (pc1 := 69) at_584_66 c26 rfl ?_
              refine aw_iconst (v := 1) (pc1 := 70) at_584_69 (by decide) rfl ?_
              refine aw_goto at_584_70 ?_
              exact rg_584_74 (fun z0 z1 z2 z3 z4 h o hs11 => ih z0 z1 z2 z3 z4 h o hs11) x0 x1 x2 x4 1 h22 o l0 l1 l2 l4 i0 hs11
          · clear hs9
            exact Or.inr hs10
        · clear hs4
          exact Or.inr hs5
def fg_584_20 (N : Nat) (x0 : Value) (x1 : Int32) (x2 : Int32) (s0 : Int32) (h : am_H) : Option am_O := (fg_584_24 N N x0 x1 x2 s0 0 h)
theorem rg_584_20 {X : am_X} {d : Nat} {N : Nat} {lv : am_LV} (x0 : Value) (x1 : Int32) (x2 : Int32) (s0 : Int32) (h : am_H) (o : am_O) (l0 : lv.lookup 0 = some x0) (l1 : lv.lookup 1 = some (.int x1)) (l2 : lv.lookup 2 = some (.int x2)) (i0 : am_isR x0 = true) (hs : fg_584_20 N x0 x1 x2 s0 h = some o) : am_W X (d + 1) 584 20 lv [(.int s0)] h (fun q => q = o) := by
  unfold fg_584_20 at hs
  refine aw_istore_n (lv1 := am_put1 _ 3 _) (pc1 := 21) at_584_20 rfl rfl ?_
  refine aw_iconst (v := 0) (pc1 := 22) at_584_21 (by decide) rfl ?_
  refine aw_istore (lv1 := am_put1 _ 4 _) (pc1 := 24) at_584_22 rfl rfl ?_
  exact rg_584_24 N x0 x1 x2 s0 0 h o hs _ (am_lk1 (am_lk1 l0 rfl rfl) rfl rfl) (am_lk1 (am_lk1 l1 rfl rfl) rfl rfl) (am_lk1 (am_lk1 l2 rfl rfl) rfl rfl) (am_lk1 am_lk0 rfl rfl) am_lk0 i0
def fg_584_0 (N : Nat) (x0 : Value) (x1 : Int32) (x2 : Int32) (h : am_H) : Option am_O := ((am_vR (am_pG 3204 x0 h)).bind fun v1 => ((am_pA 0 v1 x1 h).bind fun v3 => ((am_vR (am_pG 3204 x0 h)).bind fun v5 => ((am_pA 0 v5 x2 h).bind fun v7 => (if ¬ v3 = v7 then (fg_584_20 N x0 x1 x2 0 h) else (fg_584_20 N x0 x1 x2 1 h))))))
theorem rg_584_0 {X : am_X} {d : Nat} {N : Nat} {lv : am_LV} (x0 : Value) (x1 : Int32) (x2 : Int32) (h : am_H) (o : am_O) (l0 : lv.lookup 0 = some x0) (l1 : lv.lookup 1 = some (.int x1)) (l2 : lv.lookup 2 = some (.int x2)) (i0 : am_isR x0 = true) (hs : fg_584_0 N x0 x1 x2 h = some o) : am_W X (d + 1) 584 0 lv [] h (fun q => q = o) := by
  unfold fg_584_0 at hs
  refine aw_vload_n (pc1 := 1) at_584_0 l0 i0 rfl ?_
  obtain ⟨v1, e2, hs1⟩ := am_bind hs
  clear hs
  refine aw_pG (pc1 := 4) at_584_1 (am_vR_s e2).1 rfl ?_
  refine aw_iload_n (pc1 := 5) at_584_4 l1 rfl ?_
  obtain ⟨v3, e4, hs2⟩ := am_bind hs1
  clear hs1
  refine aw_pA (pc1 := 6) at_584_5 (Or.inl ⟨rfl, rfl⟩) e4 rfl ?_
  refine aw_vload_n (pc1 := 7) at_584_6 l0 i0 rfl ?_
  obtain ⟨v5, e6, hs3⟩ := am_bind hs2
  clear hs2
  refine aw_pG (pc1 := 10) at_584_7 (am_vR_s e6).1 rfl ?_
  refine aw_iload_n (pc1 := 11) at_584_10 l2 rfl ?_
  obtain ⟨v7, e8, hs4⟩ := am_bind hs3
  clear hs3
  refine aw_pA (pc1 := 12) at_584_11 (Or.inl ⟨rfl, rfl⟩) e8 rfl ?_
  by_cases c9 : ¬ v3 = v7
  · rw [if_pos c9] at hs4
    refine aw_icne_t at_584_12 c9 ?_
    refine aw_iconst (v := 0) (pc1 := 20) at_584_19 (by decide) rfl ?_
    exact rg_584_20 x0 x1 x2 0 h o l0 l1 l2 i0 hs4
  · rw [if_neg c9] at hs4
    refine aw_icne_f (pc1 := 15) at_584_12 c9 rfl ?_
    refine aw_iconst (v := 1) (pc1 := 16) at_584_15 (by decide) rfl ?_
    refine aw_goto at_584_16 ?_
    exact rg_584_20 x0 x1 x2 1 h o l0 l1 l2 i0 hs4
def fm_584 (N : Nat) (y0 : Value) (y1 : Int32) (y2 : Int32) (h : am_H) : Option am_O := fg_584_0 N y0 y1 y2 h
theorem rm_584 {X : am_X} {d : Nat} {N : Nat} (y0 : Value) (y1 : Int32) (y2 : Int32) (h : am_H) (o : am_O) (i0 : am_isR y0 = true) (hs : fm_584 N y0 y1 y2 h = some o) : am_W X (d + 1) 584 0 (am_args 0 [y0, .int y1, .int y2]) [] h (fun q => q = o) := by
  rw [am_args_R i0, am_args_I, am_args_I]
  exact rg_584_0 y0 y1 y2 h o rfl rfl rfl i0 hs
def fg_583_140 (N : Nat) (rec_70 : Value → Int32 → am_H → Option am_O) : Nat → Value → Int32 → Int32 → am_H → Option am_O
  | 0 => fun _ _ _ _ => none
  | K + 1 => fun x0 x1 x2 h => ((am_vI (am_pG 3090 x0 h)).bind fun v1 => (if v1 ≤ x2 then (rec_70 x0 ((x1 + 1)) h) else ((am_vR (am_pG 3204 x0 h)).bind fun v4 => ((am_vR (am_pG 3205 x0 h)).bind fun v6 => ((am_pA 0 v6 x2 h).bind fun v8 => ((am_pS 0 v4 x2 v8 h).bind fun h10 => (fg_583_140 N rec_70 K x0 x1 ((x2 + 1)) h10)))))))
theorem rg_583_140 {X : am_X} {d : Nat} {N : Nat} {rec_70 : Value → Int32 → am_H → Option am_O} (q_70 : ∀ (x0 : Value) (x1 : Int32) (h : am_H) (o : am_O), rec_70 x0 x1 h = some o → ∀ lv : am_LV, (lv.lookup 0 = some x0) → (lv.lookup 1 = some (.int x1)) → (am_isR x0 = true) → am_W X (d + 2) 583 70 lv [] h (fun q => q = o)) : ∀ (K : Nat) (x0 : Value) (x1 : Int32) (x2 : Int32) (h : am_H) (o : am_O), fg_583_140 N rec_70 K x0 x1 x2 h = some o → ∀ lv : am_LV, (lv.lookup 0 = some x0) → (lv.lookup 1 = some (.int x1)) → (lv.lookup 2 = some (.int x2)) → (am_isR x0 = true) → am_W X (d + 2) 583 140 lv [] h (fun q => q = o) := by
  intro K
  induction K with
  | zero => intro x0 x1 x2 h o hs; cases hs
  | succ K ih =>
    intro x0 x1 x2 h o hs lv l0 l1 l2 i0
    unfold fg_583_140 at hs
    refine aw_iload_n (pc1 := 141) at_583_140 l2 rfl ?_
    refine aw_vload_n (pc1 := 142) at_583_141 l0 i0 rfl ?_
    obtain ⟨v1, e2, hs1⟩ := am_bind hs
    clear hs
    refine aw_pG (pc1 := 145) at_583_142 (am_vI_s e2) rfl ?_
    by_cases c3 : v1 ≤ x2
    · rw [if_pos c3] at hs1
      refine aw_icge_t at_583_145 c3 ?_
      refine aw_iinc (v := (x1 + 1)) (c := 1) (lv1 := am_put1 _ 1 _) (pc1 := 169) at_583_166 l1 (by decide) rfl rfl rfl ?_
      refine aw_goto at_583_169 ?_
      exact q_70 x0 ((x1 + 1)) h o hs1 _ (am_lk1 l0 rfl (by rw [am_isRc i0]; rfl)) am_lk0 i0
    · rw [if_neg c3] at hs1
      refine aw_icge_f (pc1 := 148) at_583_145 c3 rfl ?_
      refine aw_vload_n (pc1 := 149) at_583_148 l0 i0 rfl ?_
      obtain ⟨v4, e5, hs2⟩ := am_bind hs1
      clear hs1
      refine aw_pG (pc1 := 152) at_583_149 (am_vR_s e5).1 rfl ?_
      refine aw_iload_n (pc1 := 153) at_583_152 l2 rfl ?_
      refine aw_vload_n (pc1 := 154) at_583_153 l0 i0 rfl ?_
      obtain ⟨v6, e7, hs3⟩ := am_bind hs2
      clear hs2
      refine aw_pG (pc1 := 157) at_583_154 (am_vR_s e7).1 rfl ?_
      refine aw_iload_n (pc1 := 158) at_583_157 l2 rfl ?_
      obtain ⟨v8, e9, hs4⟩ := am_bind hs3
      clear hs3
      refine aw_pA (pc1 := 159) at_583_158 (Or.inl ⟨rfl, rfl⟩) e9 rfl ?_
      obtain ⟨h10, e11, hs5⟩ := am_bind hs4
      clear hs4
      refine aw_pS (pc1 := 160) at_583_159 (Or.inl ⟨rfl, rfl⟩) e11 rfl ?_
      refine aw_iinc (v := (x2 + 1)) (c := 1) (lv1 := am_put1 _ 2 _) (pc1 := 163) at_583_160 l2 (by decide) rfl rfl rfl ?_
      refine aw_goto at_583_163 ?_
      exact ih x0 x1 ((x2 + 1)) h10 o hs5 _ (am_lk1 l0 rfl rfl) (am_lk1 l1 rfl rfl) am_lk0 i0
def fg_583_125 (N : Nat) (rec_70 : Value → Int32 → am_H → Option am_O) (rec_78 : Value → Int32 → Int32 → am_H → Option am_O) (rec_97 : Value → Int32 → Int32 → Int32 → am_H → Option am_O) (x0 : Value) (x1 : Int32) (x2 : Int32) (x3 : Int32) (s0 : Value) (s1 : Int32) (s2 : Int32) (h : am_H) : Option am_O := ((am_pS 0 s0 s1 s2 h).bind fun h1 => (rec_97 x0 x1 x2 ((x3 + (-1))) h1))
theorem rg_583_125 {X : am_X} {d : Nat} {N : Nat} {rec_70 : Value → Int32 → am_H → Option am_O} {rec_78 : Value → Int32 → Int32 → am_H → Option am_O} {rec_97 : Value → Int32 → Int32 → Int32 → am_H → Option am_O} (q_70 : ∀ (x0 : Value) (x1 : Int32) (h : am_H) (o : am_O), rec_70 x0 x1 h = some o → ∀ lv : am_LV, (lv.lookup 0 = some x0) → (lv.lookup 1 = some (.int x1)) → (am_isR x0 = true) → am_W X (d + 2) 583 70 lv [] h (fun q => q = o)) (q_78 : ∀ (x0 : Value) (x1 : Int32) (x2 : Int32) (h : am_H) (o : am_O), rec_78 x0 x1 x2 h = some o → ∀ lv : am_LV, (lv.lookup 0 = some x0) → (lv.lookup 1 = some (.int x1)) → (lv.lookup 2 = some (.int x2)) → (am_isR x0 = true) → am_W X (d + 2) 583 78 lv [] h (fun q => q = o)) (q_97 : ∀ (x0 : Value) (x1 : Int32) (x2 : Int32) (x3 : Int32) (h : am_H) (o : am_O), rec_97 x0 x1 x2 x3 h = some o → ∀ lv : am_LV, (lv.lookup 0 = some x0) → (lv.lookup 1 = some (.int x1)) → (lv.lookup 2 = some (.int x2)) → (lv.lookup 3 = some (.int x3)) → (am_isR x0 = true) → am_W X (d + 2) 583 97 lv [] h (fun q => q = o)) {lv : am_LV} (x0 : Value) (x1 : Int32) (x2 : Int32) (x3 : Int32) (s0 : Value) (s1 : Int32) (s2 : Int32) (h : am_H) (o : am_O) (l0 : lv.lookup 0 = some x0) (l1 : lv.lookup 1 = some (.int x1)) (l2 : lv.lookup 2 = some (.int x2)) (l3 : lv.lookup 3 = some (.int x3)) (i0 : am_isR x0 = true) (j0 : am_isR s0 = true) (hs : fg_583_125 N rec_70 rec_78 rec_97 x0 x1 x2 x3 s0 s1 s2 h = some o) : am_W X (d + 2) 583 125 lv [(.int s2), (.int s1), s0] h (fun q => q = o) := by
  unfold fg_583_125 at hs
  obtain ⟨h1, e2, hs1⟩ := am_bind hs
  clear hs
  refine aw_pS (pc1 := 126) at_583_125 (Or.inl ⟨rfl, rfl⟩) e2 rfl ?_
  refine aw_iinc (v := (x3 + (-1))) (c := (-1)) (lv1 := am_put1 _ 3 _) (pc1 := 129) at_583_126 l3 (by decide) rfl rfl rfl ?_
  refine aw_goto at_583_129 ?_
  exact q_97 x0 x1 x2 ((x3 + (-1))) h1 o hs1 _ (am_lk1 l0 rfl rfl) (am_lk1 l1 rfl rfl) (am_lk1 l2 rfl rfl) am_lk0 i0
def fg_583_97 (N : Nat) (rec_70 : Value → Int32 → am_H → Option am_O) (rec_78 : Value → Int32 → Int32 → am_H → Option am_O) : Nat → Value → Int32 → Int32 → Int32 → am_H → Option am_O
  | 0 => fun _ _ _ _ _ => none
  | K + 1 => fun x0 x1 x2 x3 h => (if x3 < 0 then (rec_78 x0 x1 ((x2 + 1)) h) else ((am_vR (am_pG 3205 x0 h)).bind fun v2 => (if am_pOk 12 x0 h then am_cI true (fm_584 N x0 x3 x2 h) (fun v5 h6 => (if v5 = 0 then ((am_vR (am_pG 3205 x0 h6)).bind fun v9 => ((am_pA 0 v9 x2 h6).bind fun v11 => (fg_583_125 N rec_70 rec_78 (fg_583_97 N rec_70 rec_78 K) x0 x1 x2 x3 v2 x2 v11 h6))) else (fg_583_125 N rec_70 rec_78 (fg_583_97 N rec_70 rec_78 K) x0 x1 x2 x3 v2 x2 x3 h6))) else none)))
theorem rg_583_97 {X : am_X} {d : Nat} {N : Nat} {rec_70 : Value → Int32 → am_H → Option am_O} {rec_78 : Value → Int32 → Int32 → am_H → Option am_O} (q_70 : ∀ (x0 : Value) (x1 : Int32) (h : am_H) (o : am_O), rec_70 x0 x1 h = some o → ∀ lv : am_LV, (lv.lookup 0 = some x0) → (lv.lookup 1 = some (.int x1)) → (am_isR x0 = true) → am_W X (d + 2) 583 70 lv [] h (fun q => q = o)) (q_78 : ∀ (x0 : Value) (x1 : Int32) (x2 : Int32) (h : am_H) (o : am_O), rec_78 x0 x1 x2 h = some o → ∀ lv : am_LV, (lv.lookup 0 = some x0) → (lv.lookup 1 = some (.int x1)) → (lv.lookup 2 = some (.int x2)) → (am_isR x0 = true) → am_W X (d + 2) 583 78 lv [] h (fun q => q = o)) : ∀ (K : Nat) (x0 : Value) (x1 : Int32) (x2 : Int32) (x3 : Int32) (h : am_H) (o : am_O), fg_583_97 N rec_70 rec_78 K x0 x1 x2 x3 h = some o → ∀ lv : am_LV, (lv.lookup 0 = some x0) → (lv.lookup 1 = some (.int x1)) → (lv.lookup 2 = some (.int x2)) → (lv.lookup 3 = some (.int x3)) → (am_isR x0 = true) → am_W X (d + 2) 583 97 lv [] h (fun q => q = o) := by
  intro K
  induction K with
  | zero => intro x0 x1 x2 x3 h o hs; cases hs
  | succ K ih =>
    intro x0 x1 x2 x3 h o hs lv l0 l1 l2 l3 i0
    unfold fg_583_97 at hs
    refine aw_iload_n (pc1 := 98) at_583_97 l3 rfl ?_
    by_cases c1 : x3 < 0
    · rw [if_pos c1] at hs
      refine aw_iflt_t at_583_98 c1 ?_
      refine aw_iinc (v := (x2 + 1)) (c := 1) (lv1 := am_put1 _ 2 _) (pc1 := 135) at_583_132 l2 (by decide) rfl rfl rfl ?_
      refine aw_goto at_583_135 ?_
      exact q_78 x0 x1 ((x2 + 1)) h o hs _ (am_lk1 l0 rfl rfl) (am_lk1 l1 rfl rfl) am_lk0 i0
    · rw [if_neg c1] at hs
      refine aw_iflt_f (pc1 := 101) at_583_98 c1 rfl ?_
      refine aw_vload_n (pc1 := 102) at_583_101 l0 i0 rfl ?_
      obtain ⟨v2, e3, hs1⟩ := am_bind hs
      clear hs
      refine aw_pG (pc1 := 105) at_583_102 (am_vR_s e3).1 rfl ?_
      refine aw_iload_n (pc1 := 106) at_583_105 l2 rfl ?_
      refine aw_vload_n (pc1 := 107) at_583_106 l0 i0 rfl ?_
      refine aw_iload_n (pc1 := 108) at_583_107 l3 rfl ?_
      refine aw_iload_n (pc1 := 109) at_583_108 l2 rfl ?_
      obtain ⟨z4, hs2⟩ := am_ift hs1
      clear hs1
      refine aw_call (F := fm_584 N x0 x3 x2 h) (t := true) (na := 3) (kd := 1) (as := [x0, (.int x3), (.int x2)]) at_583_109 (am_k3v kb_584) mn_584 mk_584 rfl rfl (am_ok_v mi_584 (am_hl rfl (am_ccR i0 (am_ccI (am_ccI am_cats_0))) rfl) z4) (am_hc (am_ccI (am_ccR (am_vR_s e3).2 am_cats_0)) rfl) (fun _ => ⟨rfl, hh_583⟩) (fun o1 hz9 => rm_584 x0 x3 x2 h o1 i0 hz9) ?_
      rcases am_cI_s hs2 with ⟨v5, h6, f7, hs3⟩ | hs3
      · clear hs2
        refine Or.inl ⟨_, _, f7, ?_⟩
        show am_W X _ 583 112 _ [(.int v5), (.int x2), v2] h6 _
        by_cases c8 : v5 = 0
        · rw [if_pos c8] at hs3
          refine aw_ifeq_t at_583_112 c8 ?_
          refine aw_vload_n (pc1 := 120) at_583_119 l0 i0 rfl ?_
          obtain ⟨v9, e10, hs4⟩ := am_bind hs3
          clear hs3
          refine aw_pG (pc1 := 123) at_583_120 (am_vR_s e10).1 rfl ?_
          refine aw_iload_n (pc1 := 124) at_583_123 l2 rfl ?_
          obtain ⟨v11, e12, hs5⟩ := am_bind hs4
          clear hs4
          refine aw_pA (pc1 := 125) at_583_124 (Or.inl ⟨rfl, rfl⟩) e12 rfl ?_
          exact rg_583_125 q_70 q_78 (fun z0 z1 z2 z3 h o hs5 => ih z0 z1 z2 z3 h o hs5) x0 x1 x2 x3 v2 x2 v11 h6 o l0 l1 l2 l3 i0 (am_vR_s e3).2 hs5
        · rw [if_neg c8] at hs3
          refine aw_ifeq_f (pc1 := 115) at_583_112 c8 rfl ?_
          refine aw_iload_n (pc1 := 116) at_583_115 l3 rfl ?_
          refine aw_goto at_583_116 ?_
          exact rg_583_125 q_70 q_78 (fun z0 z1 z2 z3 h o hs3 => ih z0 z1 z2 z3 h o hs3) x0 x1 x2 x3 v2 x2 x3 h6 o l0 l1 l2 l3 i0 (am_vR_s e3).2 hs3
      · clear hs2
        exact Or.inr hs3
def fg_583_78 (N : Nat) (rec_70 : Value → Int32 → am_H → Option am_O) : Nat → Value → Int32 → Int32 → am_H → Option am_O
  | 0 => fun _ _ _ _ => none
  | K + 1 => fun x0 x1 x2 h => ((am_vI (am_pG 3090 x0 h)).bind fun v1 => (if v1 ≤ x2 then (fg_583_140 N rec_70 N x0 x1 0 h) else ((am_vR (am_pG 3205 x0 h)).bind fun v4 => ((am_pS 0 v4 x2 x2 h).bind fun h6 => (fg_583_97 N rec_70 (fg_583_78 N rec_70 K) N x0 x1 x2 ((x2 - 1)) h6)))))
theorem rg_583_78 {X : am_X} {d : Nat} {N : Nat} {rec_70 : Value → Int32 → am_H → Option am_O} (q_70 : ∀ (x0 : Value) (x1 : Int32) (h : am_H) (o : am_O), rec_70 x0 x1 h = some o → ∀ lv : am_LV, (lv.lookup 0 = some x0) → (lv.lookup 1 = some (.int x1)) → (am_isR x0 = true) → am_W X (d + 2) 583 70 lv [] h (fun q => q = o)) : ∀ (K : Nat) (x0 : Value) (x1 : Int32) (x2 : Int32) (h : am_H) (o : am_O), fg_583_78 N rec_70 K x0 x1 x2 h = some o → ∀ lv : am_LV, (lv.lookup 0 = some x0) → (lv.lookup 1 = some (.int x1)) → (lv.lookup 2 = some (.int x2)) → (am_isR x0 = true) → am_W X (d + 2) 583 78 lv [] h (fun q => q = o) := by
  intro K
  induction K with
  | zero => intro x0 x1 x2 h o hs; cases hs
  | succ K ih =>
    intro x0 x1 x2 h o hs lv l0 l1 l2 i0
    unfold fg_583_78 at hs
    refine aw_iload_n (pc1 := 79) at_583_78 l2 rfl ?_
    refine aw_vload_n (pc1 := 80) at_583_79 l0 i0 rfl ?_
    obtain ⟨v1, e2, hs1⟩ := am_bind hs
    clear hs
    refine aw_pG (pc1 := 83) at_583_80 (am_vI_s e2) rfl ?_
    by_cases c3 : v1 ≤ x2
    · rw [if_pos c3] at hs1
      refine aw_icge_t at_583_83 c3 ?_
      refine aw_iconst (v := 0) (pc1 := 139) at_583_138 (by decide) rfl ?_
      refine aw_istore_n (lv1 := am_put1 _ 2 _) (pc1 := 140) at_583_139 rfl rfl ?_
      exact rg_583_140 q_70 N x0 x1 0 h o hs1 _ (am_lk1 l0 rfl rfl) (am_lk1 l1 rfl rfl) am_lk0 i0
    · rw [if_neg c3] at hs1
      refine aw_icge_f (pc1 := 86) at_583_83 c3 rfl ?_
      refine aw_vload_n (pc1 := 87) at_583_86 l0 i0 rfl ?_
      obtain ⟨v4, e5, hs2⟩ := am_bind hs1
      clear hs1
      refine aw_pG (pc1 := 90) at_583_87 (am_vR_s e5).1 rfl ?_
      refine aw_iload_n (pc1 := 91) at_583_90 l2 rfl ?_
      refine aw_iload_n (pc1 := 92) at_583_91 l2 rfl ?_
      obtain ⟨h6, e7, hs3⟩ := am_bind hs2
      clear hs2
      refine aw_pS (pc1 := 93) at_583_92 (Or.inl ⟨rfl, rfl⟩) e7 rfl ?_
      refine aw_iload_n (pc1 := 94) at_583_93 l2 rfl ?_
      refine aw_iconst (v := 1) (pc1 := 95) at_583_94 (by decide) rfl ?_
      refine aw_isub (v := (x2 - 1)) (pc1 := 96) at_583_95 rfl rfl ?_
      refine aw_istore_n (lv1 := am_put1 _ 3 _) (pc1 := 97) at_583_96 rfl rfl ?_
      exact rg_583_97 q_70 (fun z0 z1 z2 h o hs3 => ih z0 z1 z2 h o hs3) N x0 x1 x2 ((x2 - 1)) h6 o hs3 _ (am_lk1 l0 rfl rfl) (am_lk1 l1 rfl rfl) (am_lk1 l2 rfl rfl) am_lk0 i0
def fg_583_70 (N : Nat) : Nat → Value → Int32 → am_H → Option am_O
  | 0 => fun _ _ _ => none
  | K + 1 => fun x0 x1 h => (if 6 ≤ x1 then some (.inl (none, h)) else (fg_583_78 N (fg_583_70 N K) N x0 x1 0 h))
theorem rg_583_70 {X : am_X} {d : Nat} {N : Nat} : ∀ (K : Nat) (x0 : Value) (x1 : Int32) (h : am_H) (o : am_O), fg_583_70 N K x0 x1 h = some o → ∀ lv : am_LV, (lv.lookup 0 = some x0) → (lv.lookup 1 = some (.int x1)) → (am_isR x0 = true) → am_W X (d + 2) 583 70 lv [] h (fun q => q = o) := by
  intro K
  induction K with
  | zero => intro x0 x1 h o hs; cases hs
  | succ K ih =>
    intro x0 x1 h o hs lv l0 l1 i0
    unfold fg_583_70 at hs
    refine aw_iload_n (pc1 := 71) at_583_70 l1 rfl ?_
    refine aw_bipush (v := 6) (pc1 := 73) at_583_71 (by decide) rfl ?_
    by_cases c1 : 6 ≤ x1
    · rw [if_pos c1] at hs
      refine aw_icge_t at_583_73 c1 ?_
      cases hs
      exact aw_vret at_583_172 rt_583 rfl
    · rw [if_neg c1] at hs
      refine aw_icge_f (pc1 := 76) at_583_73 c1 rfl ?_
      refine aw_iconst (v := 0) (pc1 := 77) at_583_76 (by decide) rfl ?_
      refine aw_istore_n (lv1 := am_put1 _ 2 _) (pc1 := 78) at_583_77 rfl rfl ?_
      exact rg_583_78 (fun z0 z1 h o hs => ih z0 z1 h o hs) N x0 x1 0 h o hs _ (am_lk1 l0 rfl rfl) (am_lk1 l1 rfl rfl) am_lk0 i0
def fg_583_55 (N : Nat) (rec_2 : Value → Int32 → am_H → Option am_O) (rec_21 : Value → Int32 → Int32 → am_H → Option am_O) (x0 : Value) (x1 : Int32) (x2 : Int32) (s0 : Value) (s1 : Int32) (s2 : Int32) (h : am_H) : Option am_O := ((am_pS 0 s0 s1 s2 h).bind fun h1 => (rec_21 x0 x1 ((x2 + (-1))) h1))
theorem rg_583_55 {X : am_X} {d : Nat} {N : Nat} {rec_2 : Value → Int32 → am_H → Option am_O} {rec_21 : Value → Int32 → Int32 → am_H → Option am_O} (q_2 : ∀ (x0 : Value) (x1 : Int32) (h : am_H) (o : am_O), rec_2 x0 x1 h = some o → ∀ lv : am_LV, (lv.lookup 0 = some x0) → (lv.lookup 1 = some (.int x1)) → (am_isR x0 = true) → am_W X (d + 2) 583 2 lv [] h (fun q => q = o)) (q_21 : ∀ (x0 : Value) (x1 : Int32) (x2 : Int32) (h : am_H) (o : am_O), rec_21 x0 x1 x2 h = some o → ∀ lv : am_LV, (lv.lookup 0 = some x0) → (lv.lookup 1 = some (.int x1)) → (lv.lookup 2 = some (.int x2)) → (am_isR x0 = true) → am_W X (d + 2) 583 21 lv [] h (fun q => q = o)) {lv : am_LV} (x0 : Value) (x1 : Int32) (x2 : Int32) (s0 : Value) (s1 : Int32) (s2 : Int32) (h : am_H) (o : am_O) (l0 : lv.lookup 0 = some x0) (l1 : lv.lookup 1 = some (.int x1)) (l2 : lv.lookup 2 = some (.int x2)) (i0 : am_isR x0 = true) (j0 : am_isR s0 = true) (hs : fg_583_55 N rec_2 rec_21 x0 x1 x2 s0 s1 s2 h = some o) : am_W X (d + 2) 583 55 lv [(.int s2), (.int s1), s0] h (fun q => q = o) := by
  unfold fg_583_55 at hs
  obtain ⟨h1, e2, hs1⟩ := am_bind hs
  clear hs
  refine aw_pS (pc1 := 56) at_583_55 (Or.inl ⟨rfl, rfl⟩) e2 rfl ?_
  refine aw_iinc (v := (x2 + (-1))) (c := (-1)) (lv1 := am_put1 _ 2 _) (pc1 := 59) at_583_56 l2 (by decide) rfl rfl rfl ?_
  refine aw_goto at_583_59 ?_
  exact q_21 x0 x1 ((x2 + (-1))) h1 o hs1 _ (am_lk1 l0 rfl rfl) (am_lk1 l1 rfl rfl) am_lk0 i0
def fg_583_21 (N : Nat) (rec_2 : Value → Int32 → am_H → Option am_O) : Nat → Value → Int32 → Int32 → am_H → Option am_O
  | 0 => fun _ _ _ _ => none
  | K + 1 => fun x0 x1 x2 h => (if x2 < 0 then (rec_2 x0 ((x1 + 1)) h) else ((am_vR (am_pG 3204 x0 h)).bind fun v2 => ((am_vR (am_pG 3093 x0 h)).bind fun v4 => ((am_pA 0 v4 x2 h).bind fun v6 => ((am_vR (am_pG 3093 x0 h)).bind fun v8 => ((am_pA 0 v8 x1 h).bind fun v10 => (if ¬ v6 = v10 then ((am_vR (am_pG 3204 x0 h)).bind fun v13 => ((am_pA 0 v13 x1 h).bind fun v15 => (fg_583_55 N rec_2 (fg_583_21 N rec_2 K) x0 x1 x2 v2 x1 v15 h))) else (fg_583_55 N rec_2 (fg_583_21 N rec_2 K) x0 x1 x2 v2 x1 x2 h))))))))
theorem rg_583_21 {X : am_X} {d : Nat} {N : Nat} {rec_2 : Value → Int32 → am_H → Option am_O} (q_2 : ∀ (x0 : Value) (x1 : Int32) (h : am_H) (o : am_O), rec_2 x0 x1 h = some o → ∀ lv : am_LV, (lv.lookup 0 = some x0) → (lv.lookup 1 = some (.int x1)) → (am_isR x0 = true) → am_W X (d + 2) 583 2 lv [] h (fun q => q = o)) : ∀ (K : Nat) (x0 : Value) (x1 : Int32) (x2 : Int32) (h : am_H) (o : am_O), fg_583_21 N rec_2 K x0 x1 x2 h = some o → ∀ lv : am_LV, (lv.lookup 0 = some x0) → (lv.lookup 1 = some (.int x1)) → (lv.lookup 2 = some (.int x2)) → (am_isR x0 = true) → am_W X (d + 2) 583 21 lv [] h (fun q => q = o) := by
  intro K
  induction K with
  | zero => intro x0 x1 x2 h o hs; cases hs
  | succ K ih =>
    intro x0 x1 x2 h o hs lv l0 l1 l2 i0
    unfold fg_583_21 at hs
    refine aw_iload_n (pc1 := 22) at_583_21 l2 rfl ?_
    by_cases c1 : x2 < 0
    · rw [if_pos c1] at hs
      refine aw_iflt_t at_583_22 c1 ?_
      refine aw_iinc (v := (x1 + 1)) (c := 1) (lv1 := am_put1 _ 1 _) (pc1 := 65) at_583_62 l1 (by decide) rfl rfl rfl ?_
      refine aw_goto at_583_65 ?_
      exact q_2 x0 ((x1 + 1)) h o hs _ (am_lk1 l0 rfl (by rw [am_isRc i0]; rfl)) am_lk0 i0
    · rw [if_neg c1] at hs
      refine aw_iflt_f (pc1 := 25) at_583_22 c1 rfl ?_
      refine aw_vload_n (pc1 := 26) at_583_25 l0 i0 rfl ?_
      obtain ⟨v2, e3, hs1⟩ := am_bind hs
      clear hs
      refine aw_pG (pc1 := 29) at_583_26 (am_vR_s e3).1 rfl ?_
      refine aw_iload_n (pc1 := 30) at_583_29 l1 rfl ?_
      refine aw_vload_n (pc1 := 31) at_583_30 l0 i0 rfl ?_
      obtain ⟨v4, e5, hs2⟩ := am_bind hs1
      clear hs1
      refine aw_pG (pc1 := 34) at_583_31 (am_vR_s e5).1 rfl ?_
      refine aw_iload_n (pc1 := 35) at_583_34 l2 rfl ?_
      obtain ⟨v6, e7, hs3⟩ := am_bind hs2
      clear hs2
      refine aw_pA (pc1 := 36) at_583_35 (Or.inl ⟨rfl, rfl⟩) e7 rfl ?_
      refine aw_vload_n (pc1 := 37) at_583_36 l0 i0 rfl ?_
      obtain ⟨v8, e9, hs4⟩ := am_bind hs3
      clear hs3
      refine aw_pG (pc1 := 40) at_583_37 (am_vR_s e9).1 rfl ?_
      refine aw_iload_n (pc1 := 41) at_583_40 l1 rfl ?_
      obtain ⟨v10, e11, hs5⟩ := am_bind hs4
      clear hs4
      refine aw_pA (pc1 := 42) at_583_41 (Or.inl ⟨rfl, rfl⟩) e11 rfl ?_
      by_cases c12 : ¬ v6 = v10
      · rw [if_pos c12] at hs5
        refine aw_icne_t at_583_42 c12 ?_
        refine aw_vload_n (pc1 := 50) at_583_49 l0 i0 rfl ?_
        obtain ⟨v13, e14, hs6⟩ := am_bind hs5
        clear hs5
        refine aw_pG (pc1 := 53) at_583_50 (am_vR_s e14).1 rfl ?_
        refine aw_iload_n (pc1 := 54) at_583_53 l1 rfl ?_
        obtain ⟨v15, e16, hs7⟩ := am_bind hs6
        clear hs6
        refine aw_pA (pc1 := 55) at_583_54 (Or.inl ⟨rfl, rfl⟩) e16 rfl ?_
        exact rg_583_55 q_2 (fun z0 z1 z2 h o hs7 => ih z0 z1 z2 h o hs7) x0 x1 x2 v2 x1 v15 h o l0 l1 l2 i0 (am_vR_s e3).2 hs7
      · rw [if_neg c12] at hs5
        refine aw_icne_f (pc1 := 45) at_583_42 c12 rfl ?_
        refine aw_iload_n (pc1 := 46) at_583_45 l2 rfl ?_
        refine aw_goto at_583_46 ?_
        exact rg_583_55 q_2 (fun z0 z1 z2 h o hs5 => ih z0 z1 z2 h o hs5) x0 x1 x2 v2 x1 x2 h o l0 l1 l2 i0 (am_vR_s e3).2 hs5
def fg_583_2 (N : Nat) : Nat → Value → Int32 → am_H → Option am_O
  | 0 => fun _ _ _ => none
  | K + 1 => fun x0 x1 h => ((am_vI (am_pG 3090 x0 h)).bind fun v1 => (if v1 ≤ x1 then (fg_583_70 N N x0 0 h) else ((am_vR (am_pG 3204 x0 h)).bind fun v4 => ((am_pS 0 v4 x1 x1 h).bind fun h6 => (fg_583_21 N (fg_583_2 N K) N x0 x1 ((x1 - 1)) h6)))))
theorem rg_583_2 {X : am_X} {d : Nat} {N : Nat} : ∀ (K : Nat) (x0 : Value) (x1 : Int32) (h : am_H) (o : am_O), fg_583_2 N K x0 x1 h = some o → ∀ lv : am_LV, (lv.lookup 0 = some x0) → (lv.lookup 1 = some (.int x1)) → (am_isR x0 = true) → am_W X (d + 2) 583 2 lv [] h (fun q => q = o) := by
  intro K
  induction K with
  | zero => intro x0 x1 h o hs; cases hs
  | succ K ih =>
    intro x0 x1 h o hs lv l0 l1 i0
    unfold fg_583_2 at hs
    refine aw_iload_n (pc1 := 3) at_583_2 l1 rfl ?_
    refine aw_vload_n (pc1 := 4) at_583_3 l0 i0 rfl ?_
    obtain ⟨v1, e2, hs1⟩ := am_bind hs
    clear hs
    refine aw_pG (pc1 := 7) at_583_4 (am_vI_s e2) rfl ?_
    by_cases c3 : v1 ≤ x1
    · rw [if_pos c3] at hs1
      refine aw_icge_t at_583_7 c3 ?_
      refine aw_iconst (v := 0) (pc1 := 69) at_583_68 (by decide) rfl ?_
      refine aw_istore_n (lv1 := am_put1 _ 1 _) (pc1 := 70) at_583_69 rfl rfl ?_
      exact rg_583_70 N x0 0 h o hs1 _ (am_lk1 l0 rfl (by rw [am_isRc i0]; rfl)) am_lk0 i0
    · rw [if_neg c3] at hs1
      refine aw_icge_f (pc1 := 10) at_583_7 c3 rfl ?_
      refine aw_vload_n (pc1 := 11) at_583_10 l0 i0 rfl ?_
      obtain ⟨v4, e5, hs2⟩ := am_bind hs1
      clear hs1
      refine aw_pG (pc1 := 14) at_583_11 (am_vR_s e5).1 rfl ?_
      refine aw_iload_n (pc1 := 15) at_583_14 l1 rfl ?_
      refine aw_iload_n (pc1 := 16) at_583_15 l1 rfl ?_
      obtain ⟨h6, e7, hs3⟩ := am_bind hs2
      clear hs2
      refine aw_pS (pc1 := 17) at_583_16 (Or.inl ⟨rfl, rfl⟩) e7 rfl ?_
      refine aw_iload_n (pc1 := 18) at_583_17 l1 rfl ?_
      refine aw_iconst (v := 1) (pc1 := 19) at_583_18 (by decide) rfl ?_
      refine aw_isub (v := (x1 - 1)) (pc1 := 20) at_583_19 rfl rfl ?_
      refine aw_istore_n (lv1 := am_put1 _ 2 _) (pc1 := 21) at_583_20 rfl rfl ?_
      exact rg_583_21 (fun z0 z1 h o hs3 => ih z0 z1 h o hs3) N x0 x1 ((x1 - 1)) h6 o hs3 _ (am_lk1 l0 rfl rfl) (am_lk1 l1 rfl rfl) am_lk0 i0
def fg_583_0 (N : Nat) (x0 : Value) (h : am_H) : Option am_O := (fg_583_2 N N x0 0 h)
theorem rg_583_0 {X : am_X} {d : Nat} {N : Nat} {lv : am_LV} (x0 : Value) (h : am_H) (o : am_O) (l0 : lv.lookup 0 = some x0) (i0 : am_isR x0 = true) (hs : fg_583_0 N x0 h = some o) : am_W X (d + 2) 583 0 lv [] h (fun q => q = o) := by
  unfold fg_583_0 at hs
  refine aw_iconst (v := 0) (pc1 := 1) at_583_0 (by decide) rfl ?_
  refine aw_istore_n (lv1 := am_put1 _ 1 _) (pc1 := 2) at_583_1 rfl rfl ?_
  exact rg_583_2 N x0 0 h o hs _ (am_lk1 l0 rfl (by rw [am_isRc i0]; rfl)) am_lk0 i0
def fm_583 (N : Nat) (y0 : Value) (h : am_H) : Option am_O := fg_583_0 N y0 h
theorem rm_583 {X : am_X} {d : Nat} {N : Nat} (y0 : Value) (h : am_H) (o : am_O) (i0 : am_isR y0 = true) (hs : fm_583 N y0 h = some o) : am_W X (d + 2) 583 0 (am_args 0 [y0]) [] h (fun q => q = o) := by
  rw [am_args_R i0]
  exact rg_583_0 y0 h o rfl i0 hs
def fg_582_197 (N : Nat) (rec_128 : Value → Int32 → Int32 → Int32 → am_H → Option am_O) (rec_139 : Value → Int32 → Int32 → Int32 → Int32 → Int32 → am_H → Option am_O) (x0 : Value) (x1 : Int32) (x2 : Int32) (x3 : Int32) (x4 : Int32) (x5 : Int32) (x6 : Int32) (h : am_H) : Option am_O := ((am_vR (am_pG 3206 x0 h)).bind fun v1 => ((am_pA 0 v1 x6 h).bind fun v3 => am_cI false (fm_353 x4 x5 v3 h) (fun v5 h6 => (rec_139 x0 x1 x2 x3 v5 ((x5 + 1)) h6))))
theorem rg_582_197 {X : am_X} {d : Nat} {N : Nat} {rec_128 : Value → Int32 → Int32 → Int32 → am_H → Option am_O} {rec_139 : Value → Int32 → Int32 → Int32 → Int32 → Int32 → am_H → Option am_O} (q_128 : ∀ (x0 : Value) (x1 : Int32) (x2 : Int32) (x3 : Int32) (h : am_H) (o : am_O), rec_128 x0 x1 x2 x3 h = some o → ∀ lv : am_LV, (lv.lookup 0 = some x0) → (lv.lookup 1 = some (.int x1)) → (lv.lookup 2 = some (.int x2)) → (lv.lookup 3 = some (.int x3)) → (am_isR x0 = true) → am_W X (d + 3) 582 128 lv [] h (fun q => q = o)) (q_139 : ∀ (x0 : Value) (x1 : Int32) (x2 : Int32) (x3 : Int32) (x4 : Int32) (x5 : Int32) (h : am_H) (o : am_O), rec_139 x0 x1 x2 x3 x4 x5 h = some o → ∀ lv : am_LV, (lv.lookup 0 = some x0) → (lv.lookup 1 = some (.int x1)) → (lv.lookup 2 = some (.int x2)) → (lv.lookup 3 = some (.int x3)) → (lv.lookup 4 = some (.int x4)) → (lv.lookup 5 = some (.int x5)) → (am_isR x0 = true) → am_W X (d + 3) 582 139 lv [] h (fun q => q = o)) {lv : am_LV} (x0 : Value) (x1 : Int32) (x2 : Int32) (x3 : Int32) (x4 : Int32) (x5 : Int32) (x6 : Int32) (h : am_H) (o : am_O) (l0 : lv.lookup 0 = some x0) (l1 : lv.lookup 1 = some (.int x1)) (l2 : lv.lookup 2 = some (.int x2)) (l3 : lv.lookup 3 = some (.int x3)) (l4 : lv.lookup 4 = some (.int x4)) (l5 : lv.lookup 5 = some (.int x5)) (l6 : lv.lookup 6 = some (.int x6)) (i0 : am_isR x0 = true) (hs : fg_582_197 N rec_128 rec_139 x0 x1 x2 x3 x4 x5 x6 h = some o) : am_W X (d + 3) 582 197 lv [] h (fun q => q = o) := by
  unfold fg_582_197 at hs
  refine aw_iload (pc1 := 199) at_582_197 l4 rfl ?_
  refine aw_iload (pc1 := 201) at_582_199 l5 rfl ?_
  refine aw_vload_n (pc1 := 202) at_582_201 l0 i0 rfl ?_
  obtain ⟨v1, e2, hs1⟩ := am_bind hs
  clear hs
  refine aw_pG (pc1 := 205) at_582_202 (am_vR_s e2).1 rfl ?_
  refine aw_iload (pc1 := 207) at_582_205 l6 rfl ?_
  obtain ⟨v3, e4, hs2⟩ := am_bind hs1
  clear hs1
  refine aw_pA (pc1 := 208) at_582_207 (Or.inl ⟨rfl, rfl⟩) e4 rfl ?_
  refine aw_call (F := fm_353 x4 x5 v3 h) (t := false) (na := 3) (kd := 0) (as := [(.int x4), (.int x5), (.int v3)]) at_582_208 (am_k3s kb_353) mn_353 mk_353 rfl rfl (am_ok_s mi_353 (am_hl rfl (am_ccI (am_ccI (am_ccI am_cats_0))) rfl)) (am_hc am_cats_0 rfl) (fun hz9 => by cases hz9) (fun o1 hz9 => rm_353 x4 x5 v3 h o1  hz9) ?_
  rcases am_cI_s hs2 with ⟨v5, h6, f7, hs3⟩ | hs3
  · clear hs2
    refine Or.inl ⟨_, _, f7, ?_⟩
    show am_W X _ 582 211 _ [(.int v5)] h6 _
    refine aw_istore (lv1 := am_put1 _ 4 _) (pc1 := 213) at_582_211 rfl rfl ?_
    refine aw_iinc (v := (x5 + 1)) (c := 1) (lv1 := am_put1 _ 5 _) (pc1 := 216) at_582_213 (am_lk1 l5 rfl rfl) (by decide) rfl rfl rfl ?_
    refine aw_goto at_582_216 ?_
    exact q_139 x0 x1 x2 x3 v5 ((x5 + 1)) h6 o hs3 _ (am_lk1 (am_lk1 l0 rfl rfl) rfl rfl) (am_lk1 (am_lk1 l1 rfl rfl) rfl rfl) (am_lk1 (am_lk1 l2 rfl rfl) rfl rfl) (am_lk1 (am_lk1 l3 rfl rfl) rfl rfl) (am_lk1 am_lk0 rfl rfl) am_lk0 i0
  · clear hs2
    exact Or.inr hs3
def fg_582_139 (N : Nat) (rec_128 : Value → Int32 → Int32 → Int32 → am_H → Option am_O) : Nat → Value → Int32 → Int32 → Int32 → Int32 → Int32 → am_H → Option am_O
  | 0 => fun _ _ _ _ _ _ _ => none
  | K + 1 => fun x0 x1 x2 x3 x4 x5 h => (if 4 ≤ x5 then ((am_vR (am_pG 3093 x0 h)).bind fun v2 => ((am_vR (am_pG 3207 x0 h)).bind fun v4 => ((am_pA 0 v4 x3 h).bind fun v6 => ((am_pA 0 v2 v6 h).bind fun v8 => (if am_pOk 12 x0 h then am_cV true (fm_335 x0 v8 x4 h) (fun h12 => (rec_128 x0 x1 x2 ((x3 + 1)) h12)) else none))))) else ((am_vR (am_pG 3204 x0 h)).bind fun v14 => ((am_vR (am_pG 3094 x0 h)).bind fun v16 => ((am_vR (am_pG 3207 x0 h)).bind fun v18 => ((am_pA 0 v18 x3 h).bind fun v20 => ((am_pA 0 v16 v20 h).bind fun v22 => am_cI false (fm_367 v22 x5 h) (fun v24 h25 => ((am_pA 0 v14 v24 h25).bind fun v27 => ((am_vR (am_pG 3206 x0 h25)).bind fun v29 => ((am_pA 0 v29 v27 h25).bind fun v31 => (if 0 ≤ v31 then (fg_582_197 N rec_128 (fg_582_139 N rec_128 K) x0 x1 x2 x3 x4 x5 v27 h25) else ((am_vR (am_pG 3206 x0 h25)).bind fun v34 => ((am_pS 0 v34 v27 x2 h25).bind fun h36 => ((am_vR (am_pG 3207 x0 h36)).bind fun v38 => ((am_pS 0 v38 x2 v27 h36).bind fun h40 => (fg_582_197 N rec_128 (fg_582_139 N rec_128 K) x0 x1 ((x2 + 1)) x3 x4 x5 v27 h40))))))))))))))))
theorem rg_582_139 {X : am_X} {d : Nat} {N : Nat} {rec_128 : Value → Int32 → Int32 → Int32 → am_H → Option am_O} (q_128 : ∀ (x0 : Value) (x1 : Int32) (x2 : Int32) (x3 : Int32) (h : am_H) (o : am_O), rec_128 x0 x1 x2 x3 h = some o → ∀ lv : am_LV, (lv.lookup 0 = some x0) → (lv.lookup 1 = some (.int x1)) → (lv.lookup 2 = some (.int x2)) → (lv.lookup 3 = some (.int x3)) → (am_isR x0 = true) → am_W X (d + 3) 582 128 lv [] h (fun q => q = o)) : ∀ (K : Nat) (x0 : Value) (x1 : Int32) (x2 : Int32) (x3 : Int32) (x4 : Int32) (x5 : Int32) (h : am_H) (o : am_O), fg_582_139 N rec_128 K x0 x1 x2 x3 x4 x5 h = some o → ∀ lv : am_LV, (lv.lookup 0 = some x0) → (lv.lookup 1 = some (.int x1)) → (lv.lookup 2 = some (.int x2)) → (lv.lookup 3 = some (.int x3)) → (lv.lookup 4 = some (.int x4)) → (lv.lookup 5 = some (.int x5)) → (am_isR x0 = true) → am_W X (d + 3) 582 139 lv [] h (fun q => q = o) := by
  intro K
  induction K with
  | zero => intro x0 x1 x2 x3 x4 x5 h o hs; cases hs
  | succ K ih =>
    intro x0 x1 x2 x3 x4 x5 h o hs lv l0 l1 l2 l3 l4 l5 i0
    unfold fg_582_139 at hs
    refine aw_iload (pc1 := 141) at_582_139 l5 rfl ?_
    refine aw_iconst (v := 4) (pc1 := 142) at_582_141 (by decide) rfl ?_
    by_cases c1 : 4 ≤ x5
    · rw [if_pos c1] at hs
      refine aw_icge_t at_582_142 c1 ?_
      refine aw_vload_n (pc1 := 220) at_582_219 l0 i0 rfl ?_
      refine aw_vload_n (pc1 := 221) at_582_220 l0 i0 rfl ?_
      obtain ⟨v2, e3, hs1⟩ := am_bind hs
      clear hs
      refine aw_pG (pc1 := 224) at_582_221 (am_vR_s e3).1 rfl ?_
      refine aw_vload_n (pc1 := 225) at_582_224 l0 i0 rfl ?_
      obtain ⟨v4, e5, hs2⟩ := am_bind hs1
      clear hs1
      refine aw_pG (pc1 := 228) at_582_225 (am_vR_s e5).1 rfl ?_
      refine aw_iload_n (pc1 := 229) at_582_228 l3 rfl ?_
      obtain ⟨v6, e7, hs3⟩ := am_bind hs2
      clear hs2
      refine aw_pA (pc1 := 230) at_582_229 (Or.inl ⟨rfl, rfl⟩) e7 rfl ?_
      obtain ⟨v8, e9, hs4⟩ := am_bind hs3
      clear hs3
      refine aw_pA (pc1 := 231) at_582_230 (Or.inl ⟨rfl, rfl⟩) e9 rfl ?_
      refine aw_iload (pc1 := 233) at_582_231 l4 rfl ?_
      obtain ⟨z10, hs5⟩ := am_ift hs4
      clear hs4
      refine aw_call (F := fm_335 x0 v8 x4 h) (t := true) (na := 3) (kd := 1) (as := [x0, (.int v8), (.int x4)]) at_582_233 (am_k3v kb_335) mn_335 mk_335 rfl rfl (am_ok_v mi_335 (am_hl rfl (am_ccR i0 (am_ccI (am_ccI am_cats_0))) rfl) z10) (am_hc am_cats_0 rfl) (fun _ => ⟨rfl, hh_582⟩) (fun o1 hz9 => rm_335 x0 v8 x4 h o1 i0 hz9) ?_
      rcases am_cV_s hs5 with ⟨h12, f13, hs6⟩ | hs6
      · clear hs5
        refine Or.inl ⟨_, _, f13, ?_⟩
        show am_W X _ 582 236 _ [] h12 _
        refine aw_iinc (v := (x3 + 1)) (c := 1) (lv1 := am_put1 _ 3 _) (pc1 := 239) at_582_236 l3 (by decide) rfl rfl rfl ?_
        refine aw_goto at_582_239 ?_
        exact q_128 x0 x1 x2 ((x3 + 1)) h12 o hs6 _ (am_lk1 l0 rfl rfl) (am_lk1 l1 rfl rfl) (am_lk1 l2 rfl rfl) am_lk0 i0
      · clear hs5
        exact Or.inr hs6
    · rw [if_neg c1] at hs
      refine aw_icge_f (pc1 := 145) at_582_142 c1 rfl ?_
      refine aw_vload_n (pc1 := 146) at_582_145 l0 i0 rfl ?_
      obtain ⟨v14, e15, hs7⟩ := am_bind hs
      clear hs
      refine aw_pG (pc1 := 149) at_582_146 (am_vR_s e15).1 rfl ?_
      refine aw_vload_n (pc1 := 150) at_582_149 l0 i0 rfl ?_
      obtain ⟨v16, e17, hs8⟩ := am_bind hs7
      clear hs7
      refine aw_pG (pc1 := 153) at_582_150 (am_vR_s e17).1 rfl ?_
      refine aw_vload_n (pc1 := 154) at_582_153 l0 i0 rfl ?_
      obtain ⟨v18, e19, hs9⟩ := am_bind hs8
      clear hs8
      refine aw_pG (pc1 := 157) at_582_154 (am_vR_s e19).1 rfl ?_
      refine aw_iload_n (pc1 := 158) at_582_157 l3 rfl ?_
      obtain ⟨v20, e21, hs10⟩ := am_bind hs9
      clear hs9
      refine aw_pA (pc1 := 159) at_582_158 (Or.inl ⟨rfl, rfl⟩) e21 rfl ?_
      obtain ⟨v22, e23, hs11⟩ := am_bind hs10
      clear hs10
      refine aw_pA (pc1 := 160) at_582_159 (Or.inl ⟨rfl, rfl⟩) e23 rfl ?_
      refine aw_iload (pc1 := 162) at_582_160 l5 rfl ?_
      refine aw_call (F := fm_367 v22 x5 h) (t := false) (na := 2) (kd := 0) (as := [(.int v22), (.int x5)]) at_582_162 (am_k3s kb_367) mn_367 mk_367 rfl rfl (am_ok_s mi_367 (am_hl rfl (am_ccI (am_ccI am_cats_0)) rfl)) (am_hc (am_ccR (am_vR_s e15).2 am_cats_0) rfl) (fun hz9 => by cases hz9) (fun o1 hz9 => rm_367 v22 x5 h o1  hz9) ?_
      rcases am_cI_s hs11 with ⟨v24, h25, f26, hs12⟩ | hs12
      · clear hs11
        refine Or.inl ⟨_, _, f26, ?_⟩
        show am_W X _ 582 165 _ [(.int v24), v14] h25 _
        obtain ⟨v27, e28, hs13⟩ := am_bind hs12
        clear hs12
        refine aw_pA (pc1 := 166) at_582_165 (Or.inl ⟨rfl, rfl⟩) e28 rfl ?_
        refine aw_istore (lv1 := am_put1 _ 6 _) (pc1 := 168) at_582_166 rfl rfl ?_
        refine aw_vload_n (pc1 := 169) at_582_168 (am_lk1 l0 rfl rfl) i0 rfl ?_
        obtain ⟨v29, e30, hs14⟩ := am_bind hs13
        clear hs13
        refine aw_pG (pc1 := 172) at_582_169 (am_vR_s e30).1 rfl ?_
        refine aw_iload (pc1 := 174) at_582_172 am_lk0 rfl ?_
        obtain ⟨v31, e32, hs15⟩ := am_bind hs14
        clear hs14
        refine aw_pA (pc1 := 175) at_582_174 (Or.inl ⟨rfl, rfl⟩) e32 rfl ?_
        by_cases c33 : 0 ≤ v31
        · rw [if_pos c33] at hs15
          refine aw_ifge_t at_582_175 c33 ?_
          exact rg_582_197 q_128 (fun z0 z1 z2 z3 z4 z5 h o hs15 => ih z0 z1 z2 z3 z4 z5 h o hs15) x0 x1 x2 x3 x4 x5 v27 h25 o (am_lk1 l0 rfl rfl) (am_lk1 l1 rfl rfl) (am_lk1 l2 rfl rfl) (am_lk1 l3 rfl rfl) (am_lk1 l4 rfl rfl) (am_lk1 l5 rfl rfl) am_lk0 i0 hs15
        · rw [if_neg c33] at hs15
          refine aw_ifge_f (pc1 := 178) at_582_175 c33 rfl ?_
          refine aw_vload_n (pc1 := 179) at_582_178 (am_lk1 l0 rfl rfl) i0 rfl ?_
          obtain ⟨v34, e35, hs16⟩ := am_bind hs15
          clear hs15
          refine aw_pG (pc1 := 182) at_582_179 (am_vR_s e35).1 rfl ?_
          refine aw_iload (pc1 := 184) at_582_182 am_lk0 rfl ?_
          refine aw_iload_n (pc1 := 185) at_582_184 (am_lk1 l2 rfl rfl) rfl ?_
          obtain ⟨h36, e37, hs17⟩ := am_bind hs16
          clear hs16
          refine aw_pS (pc1 := 186) at_582_185 (Or.inl ⟨rfl, rfl⟩) e37 rfl ?_
          refine aw_vload_n (pc1 := 187) at_582_186 (am_lk1 l0 rfl rfl) i0 rfl ?_
          obtain ⟨v38, e39, hs18⟩ := am_bind hs17
          clear hs17
          refine aw_pG (pc1 := 190) at_582_187 (am_vR_s e39).1 rfl ?_
          refine aw_iload_n (pc1 := 191) at_582_190 (am_lk1 l2 rfl rfl) rfl ?_
          refine aw_iload (pc1 := 193) at_582_191 am_lk0 rfl ?_
          obtain ⟨h40, e41, hs19⟩ := am_bind hs18
          clear hs18
          refine aw_pS (pc1 := 194) at_582_193 (Or.inl ⟨rfl, rfl⟩) e41 rfl ?_
          refine aw_iinc (v := (x2 + 1)) (c := 1) (lv1 := am_put1 _ 2 _) (pc1 := 197) at_582_194 (am_lk1 l2 rfl rfl) (by decide) rfl rfl rfl ?_
          exact rg_582_197 q_128 (fun z0 z1 z2 z3 z4 z5 h o hs19 => ih z0 z1 z2 z3 z4 z5 h o hs19) x0 x1 ((x2 + 1)) x3 x4 x5 v27 h40 o (am_lk1 (am_lk1 l0 rfl rfl) rfl rfl) (am_lk1 (am_lk1 l1 rfl rfl) rfl rfl) am_lk0 (am_lk1 (am_lk1 l3 rfl rfl) rfl rfl) (am_lk1 (am_lk1 l4 rfl rfl) rfl rfl) (am_lk1 (am_lk1 l5 rfl rfl) rfl rfl) (am_lk1 am_lk0 rfl rfl) i0 hs19
      · clear hs11
        exact Or.inr hs12
def fg_582_128 (N : Nat) : Nat → Value → Int32 → Int32 → Int32 → am_H → Option am_O
  | 0 => fun _ _ _ _ _ => none
  | K + 1 => fun x0 x1 x2 x3 h => (if x2 ≤ x3 then (if am_pOk 12 x0 h then am_cI true (fm_356 N x0 7 x1 ((-1)) ((-1)) ((-1)) 0 h) (fun v3 h4 => some (.inl (some (.int v3), h4))) else none) else (fg_582_139 N (fg_582_128 N K) N x0 x1 x2 x3 0 0 h))
theorem rg_582_128 {X : am_X} {d : Nat} {N : Nat} : ∀ (K : Nat) (x0 : Value) (x1 : Int32) (x2 : Int32) (x3 : Int32) (h : am_H) (o : am_O), fg_582_128 N K x0 x1 x2 x3 h = some o → ∀ lv : am_LV, (lv.lookup 0 = some x0) → (lv.lookup 1 = some (.int x1)) → (lv.lookup 2 = some (.int x2)) → (lv.lookup 3 = some (.int x3)) → (am_isR x0 = true) → am_W X (d + 3) 582 128 lv [] h (fun q => q = o) := by
  intro K
  induction K with
  | zero => intro x0 x1 x2 x3 h o hs; cases hs
  | succ K ih =>
    intro x0 x1 x2 x3 h o hs lv l0 l1 l2 l3 i0
    unfold fg_582_128 at hs
    refine aw_iload_n (pc1 := 129) at_582_128 l3 rfl ?_
    refine aw_iload_n (pc1 := 130) at_582_129 l2 rfl ?_
    by_cases c1 : x2 ≤ x3
    · rw [if_pos c1] at hs
      refine aw_icge_t at_582_130 c1 ?_
      refine aw_vload_n (pc1 := 243) at_582_242 l0 i0 rfl ?_
      refine aw_bipush (v := 7) (pc1 := 245) at_582_243 (by decide) rfl ?_
      refine aw_iload_n (pc1 := 246) at_582_245 l1 rfl ?_
      refine aw_iconst (v := (-1)) (pc1 := 247) at_582_246 (by decide) rfl ?_
      refine aw_iconst (v := (-1)) (pc1 := 248) at_582_247 (by decide) rfl ?_
      refine aw_iconst (v := (-1)) (pc1 := 249) at_582_248 (by decide) rfl ?_
      refine aw_lconst (v := 0) (pc1 := 250) at_582_249 (by decide) rfl ?_
      obtain ⟨z2, hs1⟩ := am_ift hs
      clear hs
      refine aw_call (F := fm_356 N x0 7 x1 ((-1)) ((-1)) ((-1)) 0 h) (t := true) (na := 7) (kd := 1) (as := [x0, (.int 7), (.int x1), (.int (-1)), (.int (-1)), (.int (-1)), (.long 0)]) at_582_250 (am_k3v kb_356) mn_356 mk_356 rfl rfl (am_ok_v mi_356 (am_hl rfl (am_ccR i0 (am_ccI (am_ccI (am_ccI (am_ccI (am_ccI (am_ccL am_cats_0))))))) rfl) z2) (am_hc am_cats_0 rfl) (fun _ => ⟨rfl, hh_582⟩) (fun o1 hz9 => rm_356 x0 7 x1 ((-1)) ((-1)) ((-1)) 0 h o1 i0 hz9) ?_
      rcases am_cI_s hs1 with ⟨v3, h4, f5, hs2⟩ | hs2
      · clear hs1
        refine Or.inl ⟨_, _, f5, ?_⟩
        show am_W X _ 582 253 _ [(.int v3)] h4 _
        cases hs2
        exact aw_iret at_582_253 (by rw [rt_582]; rfl) rfl
      · clear hs1
        exact Or.inr hs2
    · rw [if_neg c1] at hs
      refine aw_icge_f (pc1 := 133) at_582_130 c1 rfl ?_
      refine aw_iconst (v := 0) (pc1 := 134) at_582_133 (by decide) rfl ?_
      refine aw_istore (lv1 := am_put1 _ 4 _) (pc1 := 136) at_582_134 rfl rfl ?_
      refine aw_iconst (v := 0) (pc1 := 137) at_582_136 (by decide) rfl ?_
      refine aw_istore (lv1 := am_put1 _ 5 _) (pc1 := 139) at_582_137 rfl rfl ?_
      exact rg_582_139 (fun z0 z1 z2 z3 h o hs => ih z0 z1 z2 z3 h o hs) N x0 x1 x2 x3 0 0 h o hs _ (am_lk1 (am_lk1 l0 rfl rfl) rfl rfl) (am_lk1 (am_lk1 l1 rfl rfl) rfl rfl) (am_lk1 (am_lk1 l2 rfl rfl) rfl rfl) (am_lk1 (am_lk1 l3 rfl rfl) rfl rfl) (am_lk1 am_lk0 rfl rfl) am_lk0 i0
def fg_582_77 (N : Nat) : Nat → Value → Int32 → Int32 → am_H → Option am_O
  | 0 => fun _ _ _ _ => none
  | K + 1 => fun x0 x1 x2 h => (if 6 ≤ x2 then ((am_vR (am_pG 3206 x0 h)).bind fun v2 => ((am_vR (am_pG 3204 x0 h)).bind fun v4 => ((am_pA 0 v4 0 h).bind fun v6 => ((am_pS 0 v2 v6 0 h).bind fun h8 => ((am_vR (am_pG 3207 x0 h8)).bind fun v10 => ((am_vR (am_pG 3204 x0 h8)).bind fun v12 => ((am_pA 0 v12 0 h8).bind fun v14 => ((am_pS 0 v10 0 v14 h8).bind fun h16 => (if am_pOk 12 x0 h16 then am_cV true (fm_451 x0 h16) (fun h20 => (fg_582_128 N N x0 x1 1 0 h20)) else none))))))))) else ((am_vR (am_pG 3206 x0 h)).bind fun v22 => ((am_pS 0 v22 x2 (-1) h).bind fun h24 => (fg_582_77 N K x0 x1 ((x2 + 1)) h24))))
theorem rg_582_77 {X : am_X} {d : Nat} {N : Nat} : ∀ (K : Nat) (x0 : Value) (x1 : Int32) (x2 : Int32) (h : am_H) (o : am_O), fg_582_77 N K x0 x1 x2 h = some o → ∀ lv : am_LV, (lv.lookup 0 = some x0) → (lv.lookup 1 = some (.int x1)) → (lv.lookup 2 = some (.int x2)) → (am_isR x0 = true) → am_W X (d + 3) 582 77 lv [] h (fun q => q = o) := by
  intro K
  induction K with
  | zero => intro x0 x1 x2 h o hs; cases hs
  | succ K ih =>
    intro x0 x1 x2 h o hs lv l0 l1 l2 i0
    unfold fg_582_77 at hs
    refine aw_iload_n (pc1 := 78) at_582_77 l2 rfl ?_
    refine aw_bipush (v := 6) (pc1 := 80) at_582_78 (by decide) rfl ?_
    by_cases c1 : 6 ≤ x2
    · rw [if_pos c1] at hs
      refine aw_icge_t at_582_80 c1 ?_
      refine aw_vload_n (pc1 := 97) at_582_96 l0 i0 rfl ?_
      obtain ⟨v2, e3, hs1⟩ := am_bind hs
      clear hs
      refine aw_pG (pc1 := 100) at_582_97 (am_vR_s e3).1 rfl ?_
      refine aw_vload_n (pc1 := 101) at_582_100 l0 i0 rfl ?_
      obtain ⟨v4, e5, hs2⟩ := am_bind hs1
      clear hs1
      refine aw_pG (pc1 := 104) at_582_101 (am_vR_s e5).1 rfl ?_
      refine aw_iconst (v := 0) (pc1 := 105) at_582_104 (by decide) rfl ?_
      obtain ⟨v6, e7, hs3⟩ := am_bind hs2
      clear hs2
      refine aw_pA (pc1 := 106) at_582_105 (Or.inl ⟨rfl, rfl⟩) e7 rfl ?_
      refine aw_iconst (v := 0) (pc1 := 107) at_582_106 (by decide) rfl ?_
      obtain ⟨h8, e9, hs4⟩ := am_bind hs3
      clear hs3
      refine aw_pS (pc1 := 108) at_582_107 (Or.inl ⟨rfl, rfl⟩) e9 rfl ?_
      refine aw_vload_n (pc1 := 109) at_582_108 l0 i0 rfl ?_
      obtain ⟨v10, e11, hs5⟩ := am_bind hs4
      clear hs4
      refine aw_pG (pc1 := 112) at_582_109 (am_vR_s e11).1 rfl ?_
      refine aw_iconst (v := 0) (pc1 := 113) at_582_112 (by decide) rfl ?_
      refine aw_vload_n (pc1 := 114) at_582_113 l0 i0 rfl ?_
      obtain ⟨v12, e13, hs6⟩ := am_bind hs5
      clear hs5
      refine aw_pG (pc1 := 117) at_582_114 (am_vR_s e13).1 rfl ?_
      refine aw_iconst (v := 0) (pc1 := 118) at_582_117 (by decide) rfl ?_
      obtain ⟨v14, e15, hs7⟩ := am_bind hs6
      clear hs6
      refine aw_pA (pc1 := 119) at_582_118 (Or.inl ⟨rfl, rfl⟩) e15 rfl ?_
      obtain ⟨h16, e17, hs8⟩ := am_bind hs7
      clear hs7
      refine aw_pS (pc1 := 120) at_582_119 (Or.inl ⟨rfl, rfl⟩) e17 rfl ?_
      refine aw_iconst (v := 1) (pc1 := 121) at_582_120 (by decide) rfl ?_
      refine aw_istore_n (lv1 := am_put1 _ 2 _) (pc1 := 122) at_582_121 rfl rfl ?_
      refine aw_vload_n (pc1 := 123) at_582_122 (am_lk1 l0 rfl rfl) i0 rfl ?_
      obtain ⟨z18, hs9⟩ := am_ift hs8
      clear hs8
      refine aw_call (F := fm_451 x0 h16) (t := true) (na := 1) (kd := 1) (as := [x0]) at_582_123 (am_k3v kb_451) mn_451 mk_451 rfl rfl (am_ok_v mi_451 (am_hl rfl (am_ccR i0 am_cats_0) rfl) z18) (am_hc am_cats_0 rfl) (fun _ => ⟨rfl, hh_582⟩) (fun o1 hz9 => rm_451 x0 h16 o1 i0 hz9) ?_
      rcases am_cV_s hs9 with ⟨h20, f21, hs10⟩ | hs10
      · clear hs9
        refine Or.inl ⟨_, _, f21, ?_⟩
        show am_W X _ 582 126 _ [] h20 _
        refine aw_iconst (v := 0) (pc1 := 127) at_582_126 (by decide) rfl ?_
        refine aw_istore_n (lv1 := am_put1 _ 3 _) (pc1 := 128) at_582_127 rfl rfl ?_
        exact rg_582_128 N x0 x1 1 0 h20 o hs10 _ (am_lk1 (am_lk1 l0 rfl rfl) rfl rfl) (am_lk1 (am_lk1 l1 rfl rfl) rfl rfl) (am_lk1 am_lk0 rfl rfl) am_lk0 i0
      · clear hs9
        exact Or.inr hs10
    · rw [if_neg c1] at hs
      refine aw_icge_f (pc1 := 83) at_582_80 c1 rfl ?_
      refine aw_vload_n (pc1 := 84) at_582_83 l0 i0 rfl ?_
      obtain ⟨v22, e23, hs11⟩ := am_bind hs
      clear hs
      refine aw_pG (pc1 := 87) at_582_84 (am_vR_s e23).1 rfl ?_
      refine aw_iload_n (pc1 := 88) at_582_87 l2 rfl ?_
      refine aw_iconst (v := (-1)) (pc1 := 89) at_582_88 (by decide) rfl ?_
      obtain ⟨h24, e25, hs12⟩ := am_bind hs11
      clear hs11
      refine aw_pS (pc1 := 90) at_582_89 (Or.inl ⟨rfl, rfl⟩) e25 rfl ?_
      refine aw_iinc (v := (x2 + 1)) (c := 1) (lv1 := am_put1 _ 2 _) (pc1 := 93) at_582_90 l2 (by decide) rfl rfl rfl ?_
      refine aw_goto at_582_93 ?_
      exact ih x0 x1 ((x2 + 1)) h24 o hs12 _ (am_lk1 l0 rfl rfl) (am_lk1 l1 rfl rfl) am_lk0 i0
def fg_582_54 (N : Nat) (x0 : Value) (x1 : Int32) (s0 : Value) (s1 : Int32) (h : am_H) : Option am_O := ((am_pP 3072 s0 (.int s1) h).bind fun h1 => ((am_vI (am_pG 3072 x0 h1)).bind fun v3 => (if v3 ≤ 0 then (if am_pOk 12 x0 h1 then am_cV true (fm_391 N x0 x1 h1) (fun h8 => (if am_pOk 12 x0 h8 then am_cV true (fm_583 N x0 h8) (fun h12 => (fg_582_77 N N x0 x1 0 h12)) else none)) else none) else some (.inl (some (.int 0), h1)))))
theorem rg_582_54 {X : am_X} {d : Nat} {N : Nat} {lv : am_LV} (x0 : Value) (x1 : Int32) (s0 : Value) (s1 : Int32) (h : am_H) (o : am_O) (l0 : lv.lookup 0 = some x0) (l1 : lv.lookup 1 = some (.int x1)) (i0 : am_isR x0 = true) (j0 : am_isR s0 = true) (hs : fg_582_54 N x0 x1 s0 s1 h = some o) : am_W X (d + 3) 582 54 lv [(.int s1), s0] h (fun q => q = o) := by
  unfold fg_582_54 at hs
  obtain ⟨h1, e2, hs1⟩ := am_bind hs
  clear hs
  refine aw_pP (pc1 := 57) at_582_54 e2 rfl ?_
  refine aw_vload_n (pc1 := 58) at_582_57 l0 i0 rfl ?_
  obtain ⟨v3, e4, hs2⟩ := am_bind hs1
  clear hs1
  refine aw_pG (pc1 := 61) at_582_58 (am_vI_s e4) rfl ?_
  by_cases c5 : v3 ≤ 0
  · rw [if_pos c5] at hs2
    refine aw_ifle_t at_582_61 c5 ?_
    refine aw_vload_n (pc1 := 67) at_582_66 l0 i0 rfl ?_
    refine aw_iload_n (pc1 := 68) at_582_67 l1 rfl ?_
    obtain ⟨z6, hs3⟩ := am_ift hs2
    clear hs2
    refine aw_call (F := fm_391 N x0 x1 h1) (t := true) (na := 2) (kd := 1) (as := [x0, (.int x1)]) at_582_68 (am_k3v kb_391) mn_391 mk_391 rfl rfl (am_ok_v mi_391 (am_hl rfl (am_ccR i0 (am_ccI am_cats_0)) rfl) z6) (am_hc am_cats_0 rfl) (fun _ => ⟨rfl, hh_582⟩) (fun o1 hz9 => rm_391 x0 x1 h1 o1 i0 hz9) ?_
    rcases am_cV_s hs3 with ⟨h8, f9, hs4⟩ | hs4
    · clear hs3
      refine Or.inl ⟨_, _, f9, ?_⟩
      show am_W X _ 582 71 _ [] h8 _
      refine aw_vload_n (pc1 := 72) at_582_71 l0 i0 rfl ?_
      obtain ⟨z10, hs5⟩ := am_ift hs4
      clear hs4
      refine aw_call (F := fm_583 N x0 h8) (t := true) (na := 1) (kd := 1) (as := [x0]) at_582_72 (am_k3v kb_583) mn_583 mk_583 rfl rfl (am_ok_v mi_583 (am_hl rfl (am_ccR i0 am_cats_0) rfl) z10) (am_hc am_cats_0 rfl) (fun _ => ⟨rfl, hh_582⟩) (fun o1 hz9 => rm_583 x0 h8 o1 i0 hz9) ?_
      rcases am_cV_s hs5 with ⟨h12, f13, hs6⟩ | hs6
      · clear hs5
        refine Or.inl ⟨_, _, f13, ?_⟩
        show am_W X _ 582 75 _ [] h12 _
        refine aw_iconst (v := 0) (pc1 := 76) at_582_75 (by decide) rfl ?_
        refine aw_istore_n (lv1 := am_put1 _ 2 _) (pc1 := 77) at_582_76 rfl rfl ?_
        exact rg_582_77 N x0 x1 0 h12 o hs6 _ (am_lk1 l0 rfl rfl) (am_lk1 l1 rfl rfl) am_lk0 i0
      · clear hs5
        exact Or.inr hs6
    · clear hs3
      exact Or.inr hs4
  · rw [if_neg c5] at hs2
    refine aw_ifle_f (pc1 := 64) at_582_61 c5 rfl ?_
    refine aw_iconst (v := 0) (pc1 := 65) at_582_64 (by decide) rfl ?_
    cases hs2
    exact aw_iret at_582_65 (by rw [rt_582]; rfl) rfl
def fg_582_30 (N : Nat) (x0 : Value) (x1 : Int32) (s0 : Value) (s1 : Value) (s2 : Int32) (h : am_H) : Option am_O := ((am_pA 0 s1 s2 h).bind fun v1 => (if v1 = 2 then ((am_vI (am_pG 3073 x0 h)).bind fun v4 => (if ¬ v4 = 600 then (fg_582_54 N x0 x1 s0 0 h) else (fg_582_54 N x0 x1 s0 3 h))) else (fg_582_54 N x0 x1 s0 2 h)))
theorem rg_582_30 {X : am_X} {d : Nat} {N : Nat} {lv : am_LV} (x0 : Value) (x1 : Int32) (s0 : Value) (s1 : Value) (s2 : Int32) (h : am_H) (o : am_O) (l0 : lv.lookup 0 = some x0) (l1 : lv.lookup 1 = some (.int x1)) (i0 : am_isR x0 = true) (j0 : am_isR s0 = true) (j1 : am_isR s1 = true) (hs : fg_582_30 N x0 x1 s0 s1 s2 h = some o) : am_W X (d + 3) 582 30 lv [(.int s2), s1, s0] h (fun q => q = o) := by
  unfold fg_582_30 at hs
  obtain ⟨v1, e2, hs1⟩ := am_bind hs
  clear hs
  refine aw_pA (pc1 := 31) at_582_30 (Or.inl ⟨rfl, rfl⟩) e2 rfl ?_
  refine aw_iconst (v := 2) (pc1 := 32) at_582_31 (by decide) rfl ?_
  by_cases c3 : v1 = 2
  · rw [if_pos c3] at hs1
    refine aw_iceq_t at_582_32 c3 ?_
    refine aw_vload_n (pc1 := 40) at_582_39 l0 i0 rfl ?_
    obtain ⟨v4, e5, hs2⟩ := am_bind hs1
    clear hs1
    refine aw_pG (pc1 := 43) at_582_40 (am_vI_s e5) rfl ?_
    refine aw_sipush (v := 600) (pc1 := 46) at_582_43 (by decide) rfl ?_
    by_cases c6 : ¬ v4 = 600
    · rw [if_pos c6] at hs2
      refine aw_icne_t at_582_46 c6 ?_
      refine aw_iconst (v := 0) (pc1 := 54) at_582_53 (by decide) rfl ?_
      exact rg_582_54 x0 x1 s0 0 h o l0 l1 i0 j0 hs2
    · rw [if_neg c6] at hs2
      refine aw_icne_f (pc1 := 49) at_582_46 c6 rfl ?_
      refine aw_iconst (v := 3) (pc1 := 50) at_582_49 (by decide) rfl ?_
      refine aw_goto at_582_50 ?_
      exact rg_582_54 x0 x1 s0 3 h o l0 l1 i0 j0 hs2
  · rw [if_neg c3] at hs1
    refine aw_iceq_f (pc1 := 35) at_582_32 c3 rfl ?_
    refine aw_iconst (v := 2) (pc1 := 36) at_582_35 (by decide) rfl ?_
    refine aw_goto at_582_36 ?_
    exact rg_582_54 x0 x1 s0 2 h o l0 l1 i0 j0 hs1
def fg_582_0 (N : Nat) (x0 : Value) (x1 : Int32) (h : am_H) : Option am_O := (if am_pOk 12 x0 h then am_cI true (fm_358 x0 x1 h) (fun v2 h3 => (if ¬ v2 = 0 then ((am_vR (am_pG 3074 x0 h3)).bind fun v6 => (if am_pOk 12 x0 h3 then am_cI true (fm_358 x0 x1 h3) (fun v9 h10 => (if v9 = 0 then (fg_582_30 N x0 x1 x0 v6 0 h10) else (fg_582_30 N x0 x1 x0 v6 x1 h10))) else none)) else (fg_582_54 N x0 x1 x0 1 h3))) else none)
theorem rg_582_0 {X : am_X} {d : Nat} {N : Nat} {lv : am_LV} (x0 : Value) (x1 : Int32) (h : am_H) (o : am_O) (l0 : lv.lookup 0 = some x0) (l1 : lv.lookup 1 = some (.int x1)) (i0 : am_isR x0 = true) (hs : fg_582_0 N x0 x1 h = some o) : am_W X (d + 3) 582 0 lv [] h (fun q => q = o) := by
  unfold fg_582_0 at hs
  refine aw_vload_n (pc1 := 1) at_582_0 l0 i0 rfl ?_
  refine aw_vload_n (pc1 := 2) at_582_1 l0 i0 rfl ?_
  refine aw_iload_n (pc1 := 3) at_582_2 l1 rfl ?_
  obtain ⟨z1, hs1⟩ := am_ift hs
  clear hs
  refine aw_call (F := fm_358 x0 x1 h) (t := true) (na := 2) (kd := 1) (as := [x0, (.int x1)]) at_582_3 (am_k3v kb_358) mn_358 mk_358 rfl rfl (am_ok_v mi_358 (am_hl rfl (am_ccR i0 (am_ccI am_cats_0)) rfl) z1) (am_hc (am_ccR i0 am_cats_0) rfl) (fun _ => ⟨rfl, hh_582⟩) (fun o1 hz9 => rm_358 x0 x1 h o1 i0 hz9) ?_
  rcases am_cI_s hs1 with ⟨v2, h3, f4, hs2⟩ | hs2
  · clear hs1
    refine Or.inl ⟨_, _, f4, ?_⟩
    show am_W X _ 582 6 _ [(.int v2), x0] h3 _
    by_cases c5 : ¬ v2 = 0
    · rw [if_pos c5] at hs2
      refine aw_ifne_t at_582_6 c5 ?_
      refine aw_vload_n (pc1 := 14) at_582_13 l0 i0 rfl ?_
      obtain ⟨v6, e7, hs3⟩ := am_bind hs2
      clear hs2
      refine aw_pG (pc1 := 17) at_582_14 (am_vR_s e7).1 rfl ?_
      refine aw_vload_n (pc1 := 18) at_582_17 l0 i0 rfl ?_
      refine aw_iload_n (pc1 := 19) at_582_18 l1 rfl ?_
      obtain ⟨z8, hs4⟩ := am_ift hs3
      clear hs3
      refine aw_call (F := fm_358 x0 x1 h3) (t := true) (na := 2) (kd := 1) (as := [x0, (.int x1)]) at_582_19 (am_k3v kb_358) mn_358 mk_358 rfl rfl (am_ok_v mi_358 (am_hl rfl (am_ccR i0 (am_ccI am_cats_0)) rfl) z8) (am_hc (am_ccR (am_vR_s e7).2 (am_ccR i0 am_cats_0)) rfl) (fun _ => ⟨rfl, hh_582⟩) (fun o1 hz9 => rm_358 x0 x1 h3 o1 i0 hz9) ?_
      rcases am_cI_s hs4 with ⟨v9, h10, f11, hs5⟩ | hs5
      · clear hs4
        refine Or.inl ⟨_, _, f11, ?_⟩
        show am_W X _ 582 22 _ [(.int v9), v6, x0] h10 _
        by_cases c12 : v9 = 0
        · rw [if_pos c12] at hs5
          refine aw_ifeq_t at_582_22 c12 ?_
          refine aw_iconst (v := 0) (pc1 := 30) at_582_29 (by decide) rfl ?_
          exact rg_582_30 x0 x1 x0 v6 0 h10 o l0 l1 i0 i0 (am_vR_s e7).2 hs5
        · rw [if_neg c12] at hs5
          refine aw_ifeq_f (pc1 := 25) at_582_22 c12 rfl ?_
          refine aw_iload_n (pc1 := 26) at_582_25 l1 rfl ?_
          refine aw_goto at_582_26 ?_
          exact rg_582_30 x0 x1 x0 v6 x1 h10 o l0 l1 i0 i0 (am_vR_s e7).2 hs5
      · clear hs4
        exact Or.inr hs5
    · rw [if_neg c5] at hs2
      refine aw_ifne_f (pc1 := 9) at_582_6 c5 rfl ?_
      refine aw_iconst (v := 1) (pc1 := 10) at_582_9 (by decide) rfl ?_
      refine aw_goto at_582_10 ?_
      exact rg_582_54 x0 x1 x0 1 h3 o l0 l1 i0 i0 hs2
  · clear hs1
    exact Or.inr hs2
def fm_582 (N : Nat) (y0 : Value) (y1 : Int32) (h : am_H) : Option am_O := fg_582_0 N y0 y1 h
theorem rm_582 {X : am_X} {d : Nat} {N : Nat} (y0 : Value) (y1 : Int32) (h : am_H) (o : am_O) (i0 : am_isR y0 = true) (hs : fm_582 N y0 y1 h = some o) : am_W X (d + 3) 582 0 (am_args 0 [y0, .int y1]) [] h (fun q => q = o) := by
  rw [am_args_R i0, am_args_I]
  exact rg_582_0 y0 y1 h o rfl rfl i0 hs
def fg_315_0 (x0 : Value) (x1 : Int32) (h : am_H) : Option am_O := (if am_pOk 11 x0 h then am_cR true (fm_63 x0 x1 h) (fun v2 h3 => ((am_vI (am_pG 769 v2 h3)).bind fun v5 => (if v5 = 3 then am_pRet v2 h3 else some (.inr (0, h3 ++ [am_dummy]))))) else none)
theorem rg_315_0 {X : am_X} {d : Nat} {lv : am_LV} (x0 : Value) (x1 : Int32) (h : am_H) (o : am_O) (l0 : lv.lookup 0 = some x0) (l1 : lv.lookup 1 = some (.int x1)) (i0 : am_isR x0 = true) (hs : fg_315_0 x0 x1 h = some o) : am_W X (d + 1) 315 0 lv [] h (fun q => q = o) := by
  unfold fg_315_0 at hs
  refine aw_vload_n (pc1 := 1) at_315_0 l0 i0 rfl ?_
  refine aw_iload_n (pc1 := 2) at_315_1 l1 rfl ?_
  obtain ⟨z1, hs1⟩ := am_ift hs
  clear hs
  refine aw_call (F := fm_63 x0 x1 h) (t := true) (na := 2) (kd := 1) (as := [x0, (.int x1)]) at_315_2 (am_k3v kb_63) mn_63 mk_63 rfl rfl (am_ok_v mi_63 (am_hl rfl (am_ccR i0 (am_ccI am_cats_0)) rfl) z1) (am_hc am_cats_0 rfl) (fun _ => ⟨rfl, hh_315⟩) (fun o1 hz9 => rm_63 x0 x1 h o1 i0 hz9) ?_
  rcases am_cR_s hs1 with ⟨v2, h3, f4, iv2, hs2⟩ | hs2
  · clear hs1
    refine Or.inl ⟨_, _, f4, ?_⟩
    show am_W X _ 315 5 _ [v2] h3 _
    refine aw_vstore_n (lv1 := am_put1 _ 2 _) (pc1 := 6) at_315_5 iv2 rfl rfl ?_
    refine aw_vload_n (pc1 := 7) at_315_6 am_lk0 iv2 rfl ?_
    obtain ⟨v5, e6, hs3⟩ := am_bind hs2
    clear hs2
    refine aw_pG (pc1 := 10) at_315_7 (am_vI_s e6) rfl ?_
    refine aw_iconst (v := 3) (pc1 := 11) at_315_10 (by decide) rfl ?_
    by_cases c7 : v5 = 3
    · rw [if_pos c7] at hs3
      refine aw_iceq_t at_315_11 c7 ?_
      refine aw_vload_n (pc1 := 26) at_315_25 am_lk0 iv2 rfl ?_
      exact aw_pRet at_315_26 rt_315 hs3
    · rw [if_neg c7] at hs3
      refine aw_iceq_f (pc1 := 14) at_315_11 c7 rfl ?_
      cases hs3
      exact aw_throw at_315_14 rfl th_315_14 (am_hc am_cats_0 rfl) rfl
  · clear hs1
    exact Or.inr hs2
def fm_315 (y0 : Value) (y1 : Int32) (h : am_H) : Option am_O := fg_315_0 y0 y1 h
theorem rm_315 {X : am_X} {d : Nat} (y0 : Value) (y1 : Int32) (h : am_H) (o : am_O) (i0 : am_isR y0 = true) (hs : fm_315 y0 y1 h = some o) : am_W X (d + 1) 315 0 (am_args 0 [y0, .int y1]) [] h (fun q => q = o) := by
  rw [am_args_R i0, am_args_I]
  exact rg_315_0 y0 y1 h o rfl rfl i0 hs
def fg_316_131 (N : Nat) (rec_99 : Value → Value → Int64 → Int32 → am_H → Option am_O) (x1 : Value) (x2 : Value) (x3 : Int64) (x5 : Int32) (h : am_H) : Option am_O := (rec_99 x1 x2 x3 ((x5 + 1)) h)
theorem rg_316_131 {X : am_X} {d : Nat} {N : Nat} {rec_99 : Value → Value → Int64 → Int32 → am_H → Option am_O} (q_99 : ∀ (x1 : Value) (x2 : Value) (x3 : Int64) (x5 : Int32) (h : am_H) (o : am_O), rec_99 x1 x2 x3 x5 h = some o → ∀ lv : am_LV, (lv.lookup 1 = some x1) → (lv.lookup 2 = some x2) → (lv.lookup 3 = some (.long x3)) → (lv.lookup 5 = some (.int x5)) → (am_isR x1 = true) → (am_isR x2 = true) → am_W X (d + 1) 316 99 lv [] h (fun q => q = o)) {lv : am_LV} (x1 : Value) (x2 : Value) (x3 : Int64) (x5 : Int32) (h : am_H) (o : am_O) (l1 : lv.lookup 1 = some x1) (l2 : lv.lookup 2 = some x2) (l3 : lv.lookup 3 = some (.long x3)) (l5 : lv.lookup 5 = some (.int x5)) (i1 : am_isR x1 = true) (i2 : am_isR x2 = true) (hs : fg_316_131 N rec_99 x1 x2 x3 x5 h = some o) : am_W X (d + 1) 316 131 lv [] h (fun q => q = o) := by
  unfold fg_316_131 at hs
  refine aw_iinc (v := (x5 + 1)) (c := 1) (lv1 := am_put1 _ 5 _) (pc1 := 134) at_316_131 l5 (by decide) rfl rfl rfl ?_
  refine aw_goto at_316_134 ?_
  exact q_99 x1 x2 x3 ((x5 + 1)) h o hs _ (am_lk1 l1 rfl rfl) (am_lk1 l2 rfl rfl) (am_lk1 l3 rfl rfl) am_lk0 i1 i2
def fg_316_99 (N : Nat) : Nat → Value → Value → Int64 → Int32 → am_H → Option am_O
  | 0 => fun _ _ _ _ _ => none
  | K + 1 => fun x1 x2 x3 x5 h => ((am_vI (am_pG 771 x1 h)).bind fun v1 => (if v1 ≤ x5 then some (.inl (none, h)) else (if ¬ (lg_cmp ((x3 >>> (Int32.toInt64 x5 &&& 63)) &&& 1) 1) = 0 then (fg_316_131 N (fg_316_99 N K) x1 x2 x3 x5 h) else (if am_pOk 3 x2 h then am_cI true (fm_170 x2 x1 x5 ((x5 + 1)) h) (fun v6 h7 => (fg_316_131 N (fg_316_99 N K) x1 x2 x3 x5 h7)) else none))))
theorem rg_316_99 {X : am_X} {d : Nat} {N : Nat} : ∀ (K : Nat) (x1 : Value) (x2 : Value) (x3 : Int64) (x5 : Int32) (h : am_H) (o : am_O), fg_316_99 N K x1 x2 x3 x5 h = some o → ∀ lv : am_LV, (lv.lookup 1 = some x1) → (lv.lookup 2 = some x2) → (lv.lookup 3 = some (.long x3)) → (lv.lookup 5 = some (.int x5)) → (am_isR x1 = true) → (am_isR x2 = true) → am_W X (d + 1) 316 99 lv [] h (fun q => q = o) := by
  intro K
  induction K with
  | zero => intro x1 x2 x3 x5 h o hs; cases hs
  | succ K ih =>
    intro x1 x2 x3 x5 h o hs lv l1 l2 l3 l5 i1 i2
    unfold fg_316_99 at hs
    refine aw_iload (pc1 := 101) at_316_99 l5 rfl ?_
    refine aw_vload_n (pc1 := 102) at_316_101 l1 i1 rfl ?_
    obtain ⟨v1, e2, hs1⟩ := am_bind hs
    clear hs
    refine aw_pG (pc1 := 105) at_316_102 (am_vI_s e2) rfl ?_
    by_cases c3 : v1 ≤ x5
    · rw [if_pos c3] at hs1
      refine aw_icge_t at_316_105 c3 ?_
      cases hs1
      exact aw_vret at_316_137 rt_316 rfl
    · rw [if_neg c3] at hs1
      refine aw_icge_f (pc1 := 108) at_316_105 c3 rfl ?_
      refine aw_lload_n (pc1 := 109) at_316_108 l3 rfl ?_
      refine aw_iload (pc1 := 111) at_316_109 l5 rfl ?_
      refine aw_lshr (v := (x3 >>> (Int32.toInt64 x5 &&& 63))) (pc1 := 112) at_316_111 rfl rfl ?_
      refine aw_lconst (v := 1) (pc1 := 113) at_316_112 (by decide) rfl ?_
      refine aw_land (v := ((x3 >>> (Int32.toInt64 x5 &&& 63)) &&& 1)) (pc1 := 114) at_316_113 rfl rfl ?_
      refine aw_lconst (v := 1) (pc1 := 115) at_316_114 (by decide) rfl ?_
      refine aw_lcmp (v := (lg_cmp ((x3 >>> (Int32.toInt64 x5 &&& 63)) &&& 1) 1)) (pc1 := 116) at_316_115 rfl rfl ?_
      by_cases c4 : ¬ (lg_cmp ((x3 >>> (Int32.toInt64 x5 &&& 63)) &&& 1) 1) = 0
      · rw [if_pos c4] at hs1
        refine aw_ifne_t at_316_116 c4 ?_
        exact rg_316_131 (fun z0 z1 z2 z3 h o hs1 => ih z0 z1 z2 z3 h o hs1) x1 x2 x3 x5 h o l1 l2 l3 l5 i1 i2 hs1
      · rw [if_neg c4] at hs1
        refine aw_ifne_f (pc1 := 119) at_316_116 c4 rfl ?_
        refine aw_vload_n (pc1 := 120) at_316_119 l2 i2 rfl ?_
        refine aw_vload_n (pc1 := 121) at_316_120 l1 i1 rfl ?_
        refine aw_iload (pc1 := 123) at_316_121 l5 rfl ?_
        refine aw_iload (pc1 := 125) at_316_123 l5 rfl ?_
        refine aw_iconst (v := 1) (pc1 := 126) at_316_125 (by decide) rfl ?_
        refine aw_iadd (v := (x5 + 1)) (pc1 := 127) at_316_126 rfl rfl ?_
        obtain ⟨z5, hs2⟩ := am_ift hs1
        clear hs1
        refine aw_call (F := fm_170 x2 x1 x5 ((x5 + 1)) h) (t := true) (na := 4) (kd := 1) (as := [x2, x1, (.int x5), (.int (x5 + 1))]) at_316_127 (am_k3v kb_170) mn_170 mk_170 rfl rfl (am_ok_v mi_170 (am_hl rfl (am_ccR i2 (am_ccR i1 (am_ccI (am_ccI am_cats_0)))) rfl) z5) (am_hc am_cats_0 rfl) (fun _ => ⟨rfl, hh_316⟩) (fun o1 hz9 => rm_170 x2 x1 x5 ((x5 + 1)) h o1 i2 i1 hz9) ?_
        rcases am_cI_s hs2 with ⟨v6, h7, f8, hs3⟩ | hs3
        · clear hs2
          refine Or.inl ⟨_, _, f8, ?_⟩
          show am_W X _ 316 130 _ [(.int v6)] h7 _
          refine aw_popi (pc1 := 131) at_316_130 rfl ?_
          exact rg_316_131 (fun z0 z1 z2 z3 h o hs3 => ih z0 z1 z2 z3 h o hs3) x1 x2 x3 x5 h7 o l1 l2 l3 l5 i1 i2 hs3
        · clear hs2
          exact Or.inr hs3
def fg_316_69 (N : Nat) (rec_5 : Value → Value → Int64 → Int32 → am_H → Option am_O) (rec_23 : Value → Value → Int64 → Int32 → Int32 → Int32 → am_H → Option am_O) (x1 : Value) (x2 : Value) (x5 : Int32) (x7 : Int32) (x8 : Int32) (s0 : Int64) (s1 : Int64) (h : am_H) : Option am_O := (rec_23 x1 x2 ((s0 ||| s1)) x5 x8 ((x7 + 1)) h)
theorem rg_316_69 {X : am_X} {d : Nat} {N : Nat} {rec_5 : Value → Value → Int64 → Int32 → am_H → Option am_O} {rec_23 : Value → Value → Int64 → Int32 → Int32 → Int32 → am_H → Option am_O} (q_5 : ∀ (x1 : Value) (x2 : Value) (x3 : Int64) (x5 : Int32) (h : am_H) (o : am_O), rec_5 x1 x2 x3 x5 h = some o → ∀ lv : am_LV, (lv.lookup 1 = some x1) → (lv.lookup 2 = some x2) → (lv.lookup 3 = some (.long x3)) → (lv.lookup 5 = some (.int x5)) → (am_isR x1 = true) → (am_isR x2 = true) → am_W X (d + 1) 316 5 lv [] h (fun q => q = o)) (q_23 : ∀ (x1 : Value) (x2 : Value) (x3 : Int64) (x5 : Int32) (x6 : Int32) (x7 : Int32) (h : am_H) (o : am_O), rec_23 x1 x2 x3 x5 x6 x7 h = some o → ∀ lv : am_LV, (lv.lookup 1 = some x1) → (lv.lookup 2 = some x2) → (lv.lookup 3 = some (.long x3)) → (lv.lookup 5 = some (.int x5)) → (lv.lookup 6 = some (.int x6)) → (lv.lookup 7 = some (.int x7)) → (am_isR x1 = true) → (am_isR x2 = true) → am_W X (d + 1) 316 23 lv [] h (fun q => q = o)) {lv : am_LV} (x1 : Value) (x2 : Value) (x5 : Int32) (x7 : Int32) (x8 : Int32) (s0 : Int64) (s1 : Int64) (h : am_H) (o : am_O) (l1 : lv.lookup 1 = some x1) (l2 : lv.lookup 2 = some x2) (l5 : lv.lookup 5 = some (.int x5)) (l7 : lv.lookup 7 = some (.int x7)) (l8 : lv.lookup 8 = some (.int x8)) (i1 : am_isR x1 = true) (i2 : am_isR x2 = true) (hs : fg_316_69 N rec_5 rec_23 x1 x2 x5 x7 x8 s0 s1 h = some o) : am_W X (d + 1) 316 69 lv [(.long s1), (.long s0)] h (fun q => q = o) := by
  unfold fg_316_69 at hs
  refine aw_lor (v := (s0 ||| s1)) (pc1 := 70) at_316_69 rfl rfl ?_
  refine aw_lstore_n (lv1 := am_put2 _ 3 _) (pc1 := 71) at_316_70 rfl rfl ?_
  refine aw_iload (pc1 := 73) at_316_71 (am_lk2 l8 rfl rfl) rfl ?_
  refine aw_istore (lv1 := am_put1 _ 6 _) (pc1 := 75) at_316_73 rfl rfl ?_
  refine aw_iinc (v := (x7 + 1)) (c := 1) (lv1 := am_put1 _ 7 _) (pc1 := 78) at_316_75 (am_lk1 (am_lk2 l7 rfl rfl) rfl rfl) (by decide) rfl rfl rfl ?_
  refine aw_goto at_316_78 ?_
  exact q_23 x1 x2 ((s0 ||| s1)) x5 x8 ((x7 + 1)) h o hs _ (am_lk1 (am_lk1 (am_lk2 l1 rfl rfl) rfl rfl) rfl rfl) (am_lk1 (am_lk1 (am_lk2 l2 rfl (by rw [am_isRc i2]; rfl)) rfl rfl) rfl rfl) (am_lk1 (am_lk1 am_lk02 rfl rfl) rfl rfl) (am_lk1 (am_lk1 (am_lk2 l5 rfl rfl) rfl rfl) rfl rfl) (am_lk1 am_lk0 rfl rfl) am_lk0 i1 i2
def fg_316_23 (N : Nat) (rec_5 : Value → Value → Int64 → Int32 → am_H → Option am_O) : Nat → Value → Value → Int64 → Int32 → Int32 → Int32 → am_H → Option am_O
  | 0 => fun _ _ _ _ _ _ _ => none
  | K + 1 => fun x1 x2 x3 x5 x6 x7 h => ((am_vI (am_pG 771 x1 h)).bind fun v1 => (if v1 ≤ x7 then (rec_5 x1 x2 x3 ((x5 + 1)) h) else (if am_pOk 3 x1 h then am_cI true (fm_54 x1 x7 0 h) (fun v5 h6 => (if am_pOk 3 x1 h6 then am_cI true (fm_54 x1 x7 1 h6) (fun v9 h10 => am_cI false (fm_292 x6 v5 v9 h10) (fun v12 h13 => (if v12 = x6 then (fg_316_69 N rec_5 (fg_316_23 N rec_5 K) x1 x2 x5 x7 v12 x3 0 h13) else (fg_316_69 N rec_5 (fg_316_23 N rec_5 K) x1 x2 x5 x7 v12 x3 ((1 <<< (Int32.toInt64 x7 &&& 63))) h13)))) else none)) else none)))
theorem rg_316_23 {X : am_X} {d : Nat} {N : Nat} {rec_5 : Value → Value → Int64 → Int32 → am_H → Option am_O} (q_5 : ∀ (x1 : Value) (x2 : Value) (x3 : Int64) (x5 : Int32) (h : am_H) (o : am_O), rec_5 x1 x2 x3 x5 h = some o → ∀ lv : am_LV, (lv.lookup 1 = some x1) → (lv.lookup 2 = some x2) → (lv.lookup 3 = some (.long x3)) → (lv.lookup 5 = some (.int x5)) → (am_isR x1 = true) → (am_isR x2 = true) → am_W X (d + 1) 316 5 lv [] h (fun q => q = o)) : ∀ (K : Nat) (x1 : Value) (x2 : Value) (x3 : Int64) (x5 : Int32) (x6 : Int32) (x7 : Int32) (h : am_H) (o : am_O), fg_316_23 N rec_5 K x1 x2 x3 x5 x6 x7 h = some o → ∀ lv : am_LV, (lv.lookup 1 = some x1) → (lv.lookup 2 = some x2) → (lv.lookup 3 = some (.long x3)) → (lv.lookup 5 = some (.int x5)) → (lv.lookup 6 = some (.int x6)) → (lv.lookup 7 = some (.int x7)) → (am_isR x1 = true) → (am_isR x2 = true) → am_W X (d + 1) 316 23 lv [] h (fun q => q = o) := by
  intro K
  induction K with
  | zero => intro x1 x2 x3 x5 x6 x7 h o hs; cases hs
  | succ K ih =>
    intro x1 x2 x3 x5 x6 x7 h o hs lv l1 l2 l3 l5 l6 l7 i1 i2
    unfold fg_316_23 at hs
    refine aw_iload (pc1 := 25) at_316_23 l7 rfl ?_
    refine aw_vload_n (pc1 := 26) at_316_25 l1 i1 rfl ?_
    obtain ⟨v1, e2, hs1⟩ := am_bind hs
    clear hs
    refine aw_pG (pc1 := 29) at_316_26 (am_vI_s e2) rfl ?_
    by_cases c3 : v1 ≤ x7
    · rw [if_pos c3] at hs1
      refine aw_icge_t at_316_29 c3 ?_
      refine aw_iinc (v := (x5 + 1)) (c := 1) (lv1 := am_put1 _ 5 _) (pc1 := 84) at_316_81 l5 (by decide) rfl rfl rfl ?_
      refine aw_goto at_316_84 ?_
      exact q_5 x1 x2 x3 ((x5 + 1)) h o hs1 _ (am_lk1 l1 rfl rfl) (am_lk1 l2 rfl rfl) (am_lk1 l3 rfl rfl) am_lk0 i1 i2
    · rw [if_neg c3] at hs1
      refine aw_icge_f (pc1 := 32) at_316_29 c3 rfl ?_
      refine aw_iload (pc1 := 34) at_316_32 l6 rfl ?_
      refine aw_vload_n (pc1 := 35) at_316_34 l1 i1 rfl ?_
      refine aw_iload (pc1 := 37) at_316_35 l7 rfl ?_
      refine aw_iconst (v := 0) (pc1 := 38) at_316_37 (by decide) rfl ?_
      obtain ⟨z4, hs2⟩ := am_ift hs1
      clear hs1
      refine aw_call (F := fm_54 x1 x7 0 h) (t := true) (na := 3) (kd := 1) (as := [x1, (.int x7), (.int 0)]) at_316_38 (am_k3v kb_54) mn_54 mk_54 rfl rfl (am_ok_v mi_54 (am_hl rfl (am_ccR i1 (am_ccI (am_ccI am_cats_0))) rfl) z4) (am_hc (am_ccI am_cats_0) rfl) (fun _ => ⟨rfl, hh_316⟩) (fun o1 hz9 => rm_54 x1 x7 0 h o1 i1 hz9) ?_
      rcases am_cI_s hs2 with ⟨v5, h6, f7, hs3⟩ | hs3
      · clear hs2
        refine Or.inl ⟨_, _, f7, ?_⟩
        show am_W X _ 316 41 _ [(.int v5), (.int x6)] h6 _
        refine aw_vload_n (pc1 := 42) at_316_41 l1 i1 rfl ?_
        refine aw_iload (pc1 := 44) at_316_42 l7 rfl ?_
        refine aw_iconst (v := 1) (pc1 := 45) at_316_44 (by decide) rfl ?_
        obtain ⟨z8, hs4⟩ := am_ift hs3
        clear hs3
        refine aw_call (F := fm_54 x1 x7 1 h6) (t := true) (na := 3) (kd := 1) (as := [x1, (.int x7), (.int 1)]) at_316_45 (am_k3v kb_54) mn_54 mk_54 rfl rfl (am_ok_v mi_54 (am_hl rfl (am_ccR i1 (am_ccI (am_ccI am_cats_0))) rfl) z8) (am_hc (am_ccI (am_ccI am_cats_0)) rfl) (fun _ => ⟨rfl, hh_316⟩) (fun o1 hz9 => rm_54 x1 x7 1 h6 o1 i1 hz9) ?_
        rcases am_cI_s hs4 with ⟨v9, h10, f11, hs5⟩ | hs5
        · clear hs4
          refine Or.inl ⟨_, _, f11, ?_⟩
          show am_W X _ 316 48 _ [(.int v9), (.int v5), (.int x6)] h10 _
          refine aw_call (F := fm_292 x6 v5 v9 h10) (t := false) (na := 3) (kd := 0) (as := [(.int x6), (.int v5), (.int v9)]) at_316_48 (am_k3s kb_292) mn_292 mk_292 rfl rfl (am_ok_s mi_292 (am_hl rfl (am_ccI (am_ccI (am_ccI am_cats_0))) rfl)) (am_hc am_cats_0 rfl) (fun hz9 => by cases hz9) (fun o1 hz9 => rm_292 x6 v5 v9 h10 o1  hz9) ?_
          rcases am_cI_s hs5 with ⟨v12, h13, f14, hs6⟩ | hs6
          · clear hs5
            refine Or.inl ⟨_, _, f14, ?_⟩
            show am_W X _ 316 51 _ [(.int v12)] h13 _
            refine aw_istore (lv1 := am_put1 _ 8 _) (pc1 := 53) at_316_51 rfl rfl ?_
            refine aw_lload_n (pc1 := 54) at_316_53 (am_lk1 l3 rfl rfl) rfl ?_
            refine aw_iload (pc1 := 56) at_316_54 am_lk0 rfl ?_
            refine aw_iload (pc1 := 58) at_316_56 (am_lk1 l6 rfl rfl) rfl ?_
            by_cases c15 : v12 = x6
            · rw [if_pos c15] at hs6
              refine aw_iceq_t at_316_58 c15 ?_
              refine aw_lconst (v := 0) (pc1 := 69) at_316_68 (by decide) rfl ?_
              exact rg_316_69 q_5 (fun z0 z1 z2 z3 z4 z5 h o hs6 => ih z0 z1 z2 z3 z4 z5 h o hs6) x1 x2 x5 x7 v12 x3 0 h13 o (am_lk1 l1 rfl rfl) (am_lk1 l2 rfl rfl) (am_lk1 l5 rfl rfl) (am_lk1 l7 rfl rfl) am_lk0 i1 i2 hs6
            · rw [if_neg c15] at hs6
              refine aw_iceq_f (pc1 := 61) at_316_58 c15 rfl ?_
              refine aw_lconst (v := 1) (pc1 := 62) at_316_61 (by decide) rfl ?_
              refine aw_iload (pc1 := 64) at_316_62 (am_lk1 l7 rfl rfl) rfl ?_
              refine aw_lshl (v := (1 <<< (Int32.toInt64 x7 &&& 63))) (pc1 := 65) at_316_64 rfl rfl ?_
              refine aw_goto at_316_65 ?_
              exact rg_316_69 q_5 (fun z0 z1 z2 z3 z4 z5 h o hs6 => ih z0 z1 z2 z3 z4 z5 h o hs6) x1 x2 x5 x7 v12 x3 ((1 <<< (Int32.toInt64 x7 &&& 63))) h13 o (am_lk1 l1 rfl rfl) (am_lk1 l2 rfl rfl) (am_lk1 l5 rfl rfl) (am_lk1 l7 rfl rfl) am_lk0 i1 i2 hs6
          · clear hs5
            exact Or.inr hs6
        · clear hs4
          exact Or.inr hs5
      · clear hs2
        exact Or.inr hs3
def fg_316_5 (N : Nat) : Nat → Value → Value → Int64 → Int32 → am_H → Option am_O
  | 0 => fun _ _ _ _ _ => none
  | K + 1 => fun x1 x2 x3 x5 h => ((am_vI (am_pG 770 x1 h)).bind fun v1 => (if (1 <<< (v1 &&& 31)) ≤ x5 then ((am_vI (am_pG 770 x1 h)).bind fun v4 => (if am_pOk 3 x2 h then am_cV true (fm_34 x2 3 v4 h) (fun h8 => (fg_316_99 N N x1 x2 x3 0 h8)) else none)) else (fg_316_23 N (fg_316_5 N K) N x1 x2 x3 x5 x5 0 h)))
theorem rg_316_5 {X : am_X} {d : Nat} {N : Nat} : ∀ (K : Nat) (x1 : Value) (x2 : Value) (x3 : Int64) (x5 : Int32) (h : am_H) (o : am_O), fg_316_5 N K x1 x2 x3 x5 h = some o → ∀ lv : am_LV, (lv.lookup 1 = some x1) → (lv.lookup 2 = some x2) → (lv.lookup 3 = some (.long x3)) → (lv.lookup 5 = some (.int x5)) → (am_isR x1 = true) → (am_isR x2 = true) → am_W X (d + 1) 316 5 lv [] h (fun q => q = o) := by
  intro K
  induction K with
  | zero => intro x1 x2 x3 x5 h o hs; cases hs
  | succ K ih =>
    intro x1 x2 x3 x5 h o hs lv l1 l2 l3 l5 i1 i2
    unfold fg_316_5 at hs
    refine aw_iload (pc1 := 7) at_316_5 l5 rfl ?_
    refine aw_iconst (v := 1) (pc1 := 8) at_316_7 (by decide) rfl ?_
    refine aw_vload_n (pc1 := 9) at_316_8 l1 i1 rfl ?_
    obtain ⟨v1, e2, hs1⟩ := am_bind hs
    clear hs
    refine aw_pG (pc1 := 12) at_316_9 (am_vI_s e2) rfl ?_
    refine aw_ishl (v := (1 <<< (v1 &&& 31))) (pc1 := 13) at_316_12 rfl rfl ?_
    by_cases c3 : (1 <<< (v1 &&& 31)) ≤ x5
    · rw [if_pos c3] at hs1
      refine aw_icge_t at_316_13 c3 ?_
      refine aw_vload_n (pc1 := 88) at_316_87 l2 i2 rfl ?_
      refine aw_iconst (v := 3) (pc1 := 89) at_316_88 (by decide) rfl ?_
      refine aw_vload_n (pc1 := 90) at_316_89 l1 i1 rfl ?_
      obtain ⟨v4, e5, hs2⟩ := am_bind hs1
      clear hs1
      refine aw_pG (pc1 := 93) at_316_90 (am_vI_s e5) rfl ?_
      obtain ⟨z6, hs3⟩ := am_ift hs2
      clear hs2
      refine aw_call (F := fm_34 x2 3 v4 h) (t := true) (na := 3) (kd := 1) (as := [x2, (.int 3), (.int v4)]) at_316_93 (am_k3v kb_34) mn_34 mk_34 rfl rfl (am_ok_v mi_34 (am_hl rfl (am_ccR i2 (am_ccI (am_ccI am_cats_0))) rfl) z6) (am_hc am_cats_0 rfl) (fun _ => ⟨rfl, hh_316⟩) (fun o1 hz9 => rm_34 x2 3 v4 h o1 i2 hz9) ?_
      rcases am_cV_s hs3 with ⟨h8, f9, hs4⟩ | hs4
      · clear hs3
        refine Or.inl ⟨_, _, f9, ?_⟩
        show am_W X _ 316 96 _ [] h8 _
        refine aw_iconst (v := 0) (pc1 := 97) at_316_96 (by decide) rfl ?_
        refine aw_istore (lv1 := am_put1 _ 5 _) (pc1 := 99) at_316_97 rfl rfl ?_
        exact rg_316_99 N x1 x2 x3 0 h8 o hs4 _ (am_lk1 l1 rfl rfl) (am_lk1 l2 rfl rfl) (am_lk1 l3 rfl rfl) am_lk0 i1 i2
      · clear hs3
        exact Or.inr hs4
    · rw [if_neg c3] at hs1
      refine aw_icge_f (pc1 := 16) at_316_13 c3 rfl ?_
      refine aw_iload (pc1 := 18) at_316_16 l5 rfl ?_
      refine aw_istore (lv1 := am_put1 _ 6 _) (pc1 := 20) at_316_18 rfl rfl ?_
      refine aw_iconst (v := 0) (pc1 := 21) at_316_20 (by decide) rfl ?_
      refine aw_istore (lv1 := am_put1 _ 7 _) (pc1 := 23) at_316_21 rfl rfl ?_
      exact rg_316_23 (fun z0 z1 z2 z3 h o hs1 => ih z0 z1 z2 z3 h o hs1) N x1 x2 x3 x5 x5 0 h o hs1 _ (am_lk1 (am_lk1 l1 rfl rfl) rfl rfl) (am_lk1 (am_lk1 l2 rfl rfl) rfl rfl) (am_lk1 (am_lk1 l3 rfl rfl) rfl rfl) (am_lk1 (am_lk1 l5 rfl rfl) rfl rfl) (am_lk1 am_lk0 rfl rfl) am_lk0 i1 i2
def fg_316_0 (N : Nat) (x1 : Value) (x2 : Value) (h : am_H) : Option am_O := (fg_316_5 N N x1 x2 0 0 h)
theorem rg_316_0 {X : am_X} {d : Nat} {N : Nat} {lv : am_LV} (x1 : Value) (x2 : Value) (h : am_H) (o : am_O) (l1 : lv.lookup 1 = some x1) (l2 : lv.lookup 2 = some x2) (i1 : am_isR x1 = true) (i2 : am_isR x2 = true) (hs : fg_316_0 N x1 x2 h = some o) : am_W X (d + 1) 316 0 lv [] h (fun q => q = o) := by
  unfold fg_316_0 at hs
  refine aw_lconst (v := 0) (pc1 := 1) at_316_0 (by decide) rfl ?_
  refine aw_lstore_n (lv1 := am_put2 _ 3 _) (pc1 := 2) at_316_1 rfl rfl ?_
  refine aw_iconst (v := 0) (pc1 := 3) at_316_2 (by decide) rfl ?_
  refine aw_istore (lv1 := am_put1 _ 5 _) (pc1 := 5) at_316_3 rfl rfl ?_
  exact rg_316_5 N x1 x2 0 0 h o hs _ (am_lk1 (am_lk2 l1 rfl rfl) rfl rfl) (am_lk1 (am_lk2 l2 rfl (by rw [am_isRc i2]; rfl)) rfl rfl) (am_lk1 am_lk02 rfl rfl) am_lk0 i1 i2
def fm_316 (N : Nat) (y0 : Value) (y1 : Value) (y2 : Value) (h : am_H) : Option am_O := fg_316_0 N y1 y2 h
theorem rm_316 {X : am_X} {d : Nat} {N : Nat} (y0 : Value) (y1 : Value) (y2 : Value) (h : am_H) (o : am_O) (i0 : am_isR y0 = true) (i1 : am_isR y1 = true) (i2 : am_isR y2 = true) (hs : fm_316 N y0 y1 y2 h = some o) : am_W X (d + 1) 316 0 (am_args 0 [y0, y1, y2]) [] h (fun q => q = o) := by
  rw [am_args_R i0, am_args_R i1, am_args_R i2]
  exact rg_316_0 y1 y2 h o rfl rfl i1 i2 hs
def fg_314_0 (N : Nat) (x0 : Value) (x1 : Int32) (h : am_H) : Option am_O := (if am_pOk 11 x0 h then am_cR true (fm_315 x0 x1 h) (fun v2 h3 => (if am_pOk 11 x0 h3 then am_cV true (fm_32 x0 1 h3) (fun h7 => ((am_vR (am_pG 2825 x0 h7)).bind fun v9 => ((am_vR (am_pG 2831 x0 h7)).bind fun v11 => (if am_pOk 10 v9 h7 then am_cV true (fm_316 N v9 v2 v11 h7) (fun h15 => ((am_vR (am_pG 2831 x0 h15)).bind fun v17 => (if am_pOk 11 x0 h15 then am_cI true (fm_59 x0 v17 7 x1 ((-1)) ((-1)) ((-1)) 0 h15) (fun v20 h21 => some (.inl (some (.int v20), h21))) else none))) else none)))) else none)) else none)
theorem rg_314_0 {X : am_X} {d : Nat} {N : Nat} {lv : am_LV} (x0 : Value) (x1 : Int32) (h : am_H) (o : am_O) (l0 : lv.lookup 0 = some x0) (l1 : lv.lookup 1 = some (.int x1)) (i0 : am_isR x0 = true) (hs : fg_314_0 N x0 x1 h = some o) : am_W X (d + 3) 314 0 lv [] h (fun q => q = o) := by
  unfold fg_314_0 at hs
  refine aw_vload_n (pc1 := 1) at_314_0 l0 i0 rfl ?_
  refine aw_iload_n (pc1 := 2) at_314_1 l1 rfl ?_
  obtain ⟨z1, hs1⟩ := am_ift hs
  clear hs
  refine aw_call (F := fm_315 x0 x1 h) (t := true) (na := 2) (kd := 1) (as := [x0, (.int x1)]) at_314_2 (am_k3v kb_315) mn_315 mk_315 rfl rfl (am_ok_v mi_315 (am_hl rfl (am_ccR i0 (am_ccI am_cats_0)) rfl) z1) (am_hc am_cats_0 rfl) (fun _ => ⟨rfl, hh_314⟩) (fun o1 hz9 => rm_315 x0 x1 h o1 i0 hz9) ?_
  rcases am_cR_s hs1 with ⟨v2, h3, f4, iv2, hs2⟩ | hs2
  · clear hs1
    refine Or.inl ⟨_, _, f4, ?_⟩
    show am_W X _ 314 5 _ [v2] h3 _
    refine aw_vstore_n (lv1 := am_put1 _ 2 _) (pc1 := 6) at_314_5 iv2 rfl rfl ?_
    refine aw_vload_n (pc1 := 7) at_314_6 (am_lk1 l0 rfl rfl) i0 rfl ?_
    refine aw_iconst (v := 1) (pc1 := 8) at_314_7 (by decide) rfl ?_
    obtain ⟨z5, hs3⟩ := am_ift hs2
    clear hs2
    refine aw_call (F := fm_32 x0 1 h3) (t := true) (na := 2) (kd := 1) (as := [x0, (.int 1)]) at_314_8 (am_k3v kb_32) mn_32 mk_32 rfl rfl (am_ok_v mi_32 (am_hl rfl (am_ccR i0 (am_ccI am_cats_0)) rfl) z5) (am_hc am_cats_0 rfl) (fun _ => ⟨rfl, hh_314⟩) (fun o1 hz9 => rm_32 x0 1 h3 o1 i0 hz9) ?_
    rcases am_cV_s hs3 with ⟨h7, f8, hs4⟩ | hs4
    · clear hs3
      refine Or.inl ⟨_, _, f8, ?_⟩
      show am_W X _ 314 11 _ [] h7 _
      refine aw_vload_n (pc1 := 12) at_314_11 (am_lk1 l0 rfl rfl) i0 rfl ?_
      obtain ⟨v9, e10, hs5⟩ := am_bind hs4
      clear hs4
      refine aw_pG (pc1 := 15) at_314_12 (am_vR_s e10).1 rfl ?_
      refine aw_vload_n (pc1 := 16) at_314_15 am_lk0 iv2 rfl ?_
      refine aw_vload_n (pc1 := 17) at_314_16 (am_lk1 l0 rfl rfl) i0 rfl ?_
      obtain ⟨v11, e12, hs6⟩ := am_bind hs5
      clear hs5
      refine aw_pG (pc1 := 20) at_314_17 (am_vR_s e12).1 rfl ?_
      obtain ⟨z13, hs7⟩ := am_ift hs6
      clear hs6
      refine aw_call (F := fm_316 N v9 v2 v11 h7) (t := true) (na := 3) (kd := 1) (as := [v9, v2, v11]) at_314_20 (am_k3v kb_316) mn_316 mk_316 rfl rfl (am_ok_v mi_316 (am_hl rfl (am_ccR (am_vR_s e10).2 (am_ccR iv2 (am_ccR (am_vR_s e12).2 am_cats_0))) rfl) z13) (am_hc am_cats_0 rfl) (fun _ => ⟨rfl, hh_314⟩) (fun o1 hz9 => rm_316 v9 v2 v11 h7 o1 (am_vR_s e10).2 iv2 (am_vR_s e12).2 hz9) ?_
      rcases am_cV_s hs7 with ⟨h15, f16, hs8⟩ | hs8
      · clear hs7
        refine Or.inl ⟨_, _, f16, ?_⟩
        show am_W X _ 314 23 _ [] h15 _
        refine aw_vload_n (pc1 := 24) at_314_23 (am_lk1 l0 rfl rfl) i0 rfl ?_
        refine aw_vload_n (pc1 := 25) at_314_24 (am_lk1 l0 rfl rfl) i0 rfl ?_
        obtain ⟨v17, e18, hs9⟩ := am_bind hs8
        clear hs8
        refine aw_pG (pc1 := 28) at_314_25 (am_vR_s e18).1 rfl ?_
        refine aw_bipush (v := 7) (pc1 := 30) at_314_28 (by decide) rfl ?_
        refine aw_iload_n (pc1 := 31) at_314_30 (am_lk1 l1 rfl rfl) rfl ?_
        refine aw_iconst (v := (-1)) (pc1 := 32) at_314_31 (by decide) rfl ?_
        refine aw_iconst (v := (-1)) (pc1 := 33) at_314_32 (by decide) rfl ?_
        refine aw_iconst (v := (-1)) (pc1 := 34) at_314_33 (by decide) rfl ?_
        refine aw_lconst (v := 0) (pc1 := 35) at_314_34 (by decide) rfl ?_
        obtain ⟨z19, hs10⟩ := am_ift hs9
        clear hs9
        refine aw_call (F := fm_59 x0 v17 7 x1 ((-1)) ((-1)) ((-1)) 0 h15) (t := true) (na := 8) (kd := 1) (as := [x0, v17, (.int 7), (.int x1), (.int (-1)), (.int (-1)), (.int (-1)), (.long 0)]) at_314_35 (am_k3v kb_59) mn_59 mk_59 rfl rfl (am_ok_v mi_59 (am_hl rfl (am_ccR i0 (am_ccR (am_vR_s e18).2 (am_ccI (am_ccI (am_ccI (am_ccI (am_ccI (am_ccL am_cats_0)))))))) rfl) z19) (am_hc am_cats_0 rfl) (fun _ => ⟨rfl, hh_314⟩) (fun o1 hz9 => rm_59 x0 v17 7 x1 ((-1)) ((-1)) ((-1)) 0 h15 o1 i0 (am_vR_s e18).2 hz9) ?_
        rcases am_cI_s hs10 with ⟨v20, h21, f22, hs11⟩ | hs11
        · clear hs10
          refine Or.inl ⟨_, _, f22, ?_⟩
          show am_W X _ 314 38 _ [(.int v20)] h21 _
          cases hs11
          exact aw_iret at_314_38 (by rw [rt_314]; rfl) rfl
        · clear hs10
          exact Or.inr hs11
      · clear hs7
        exact Or.inr hs8
    · clear hs3
      exact Or.inr hs4
  · clear hs1
    exact Or.inr hs2
def fm_314 (N : Nat) (y0 : Value) (y1 : Int32) (h : am_H) : Option am_O := fg_314_0 N y0 y1 h
theorem rm_314 {X : am_X} {d : Nat} {N : Nat} (y0 : Value) (y1 : Int32) (h : am_H) (o : am_O) (i0 : am_isR y0 = true) (hs : fm_314 N y0 y1 h = some o) : am_W X (d + 3) 314 0 (am_args 0 [y0, .int y1]) [] h (fun q => q = o) := by
  rw [am_args_R i0, am_args_I]
  exact rg_314_0 y0 y1 h o rfl rfl i0 hs
def fg_313_19 (N : Nat) (h : am_H) : Option am_O := some (.inl (some (.int 3), h))
theorem rg_313_19 {X : am_X} {d : Nat} {N : Nat} {lv : am_LV} (h : am_H) (o : am_O) (hs : fg_313_19 N h = some o) : am_W X (d + 4) 313 19 lv [] h (fun q => q = o) := by
  unfold fg_313_19 at hs
  refine aw_iconst (v := 3) (pc1 := 20) at_313_19 (by decide) rfl ?_
  cases hs
  exact aw_iret at_313_20 (by rw [rt_313]; rfl) rfl
def fg_313_16 (N : Nat) (h : am_H) : Option am_O := some (.inl (some (.int 2), h))
theorem rg_313_16 {X : am_X} {d : Nat} {N : Nat} {lv : am_LV} (h : am_H) (o : am_O) (hs : fg_313_16 N h = some o) : am_W X (d + 4) 313 16 lv [] h (fun q => q = o) := by
  unfold fg_313_16 at hs
  refine aw_iconst (v := 2) (pc1 := 17) at_313_16 (by decide) rfl ?_
  cases hs
  exact aw_iret at_313_17 (by rw [rt_313]; rfl) rfl
def fg_313_13 (N : Nat) (h : am_H) : Option am_O := some (.inl (some (.int 1), h))
theorem rg_313_13 {X : am_X} {d : Nat} {N : Nat} {lv : am_LV} (h : am_H) (o : am_O) (hs : fg_313_13 N h = some o) : am_W X (d + 4) 313 13 lv [] h (fun q => q = o) := by
  unfold fg_313_13 at hs
  refine aw_iconst (v := 1) (pc1 := 14) at_313_13 (by decide) rfl ?_
  cases hs
  exact aw_iret at_313_14 (by rw [rt_313]; rfl) rfl
def fg_313_0 (N : Nat) (x0 : Value) (x1 : Int32) (x2 : Value) (h : am_H) : Option am_O := (if am_pOk 11 x0 h then (match fm_314 N x0 x1 h with | some (.inl (some (.int v2), h3)) => ((am_pSL x2 0 (Int32.toInt64 v2) h3).bind fun h5 => some (.inl (some (.int 0), h5))) | some (.inr (0, h7)) => (fg_313_16 N h7) | some (.inr (1, h9)) => (fg_313_19 N h9) | some (.inr (2, h11)) => (fg_313_13 N h11) | _ => none) else none)
theorem rg_313_0 {X : am_X} {d : Nat} {N : Nat} {lv : am_LV} (x0 : Value) (x1 : Int32) (x2 : Value) (h : am_H) (o : am_O) (l0 : lv.lookup 0 = some x0) (l1 : lv.lookup 1 = some (.int x1)) (l2 : lv.lookup 2 = some x2) (i0 : am_isR x0 = true) (i2 : am_isR x2 = true) (hs : fg_313_0 N x0 x1 x2 h = some o) : am_W X (d + 4) 313 0 lv [] h (fun q => q = o) := by
  unfold fg_313_0 at hs
  refine aw_vload_n (pc1 := 1) at_313_0 l2 i2 rfl ?_
  refine aw_iconst (v := 0) (pc1 := 2) at_313_1 (by decide) rfl ?_
  refine aw_vload_n (pc1 := 3) at_313_2 l0 i0 rfl ?_
  refine aw_iload_n (pc1 := 4) at_313_3 l1 rfl ?_
  obtain ⟨z1, hs1⟩ := am_ift hs
  clear hs
  refine aw_callH (F := fm_314 N x0 x1 h) (na := 2) (kd := 1) (as := [x0, (.int x1)]) at_313_4 (am_k3v kb_314) mn_314 mk_314 rfl rfl (am_ok_v mi_314 (am_hl rfl (am_ccR i0 (am_ccI am_cats_0)) rfl) z1) (am_hc (am_ccI (am_ccR i2 am_cats_0)) rfl) (fun o1 hz9 => rm_314 x0 x1 h o1 i0 hz9) ?_
  split at hs1
  · rename_i v2 h3 f4
    refine Or.inl ⟨_, _, f4, ?_⟩
    show am_W X _ 313 7 _ [(.int v2), (.int 0), x2] h3 _
    refine aw_i2l (v := (Int32.toInt64 v2)) (pc1 := 8) at_313_7 rfl rfl ?_
    obtain ⟨h5, e6, hs2⟩ := am_bind hs1
    clear hs1
    refine aw_pSL (pc1 := 9) at_313_8 e6 rfl ?_
    refine aw_goto at_313_9 ?_
    refine aw_iconst (v := 0) (pc1 := 22) at_313_21 (by decide) rfl ?_
    cases hs2
    exact aw_iret at_313_22 (by rw [rt_313]; rfl) rfl
  · rename_i h7 f8
    refine Or.inr ⟨_, _, 16, 3, f8, rfl, hn_313, hd_313_4_0, ?_⟩
    exact rg_313_16 h7 o   hs1
  · rename_i h9 f10
    refine Or.inr ⟨_, _, 19, 3, f10, rfl, hn_313, hd_313_4_1, ?_⟩
    exact rg_313_19 h9 o   hs1
  · rename_i h11 f12
    refine Or.inr ⟨_, _, 13, 3, f12, rfl, hn_313, hd_313_4_2, ?_⟩
    exact rg_313_13 h11 o   hs1
  · cases hs1
def fm_313 (N : Nat) (y0 : Value) (y1 : Int32) (y2 : Value) (h : am_H) : Option am_O := fg_313_0 N y0 y1 y2 h
theorem rm_313 {X : am_X} {d : Nat} {N : Nat} (y0 : Value) (y1 : Int32) (y2 : Value) (h : am_H) (o : am_O) (i0 : am_isR y0 = true) (i2 : am_isR y2 = true) (hs : fm_313 N y0 y1 y2 h = some o) : am_W X (d + 4) 313 0 (am_args 0 [y0, .int y1, y2]) [] h (fun q => q = o) := by
  rw [am_args_R i0, am_args_I, am_args_R i2]
  exact rg_313_0 y0 y1 y2 h o rfl rfl rfl i0 i2 hs
def fg_586_39 (s0 : Int32) (h : am_H) : Option am_O := some (.inl (some (.int s0), h))
theorem rg_586_39 {X : am_X} {d : Nat} {lv : am_LV} (s0 : Int32) (h : am_H) (o : am_O) (hs : fg_586_39 s0 h = some o) : am_W X (d + 2) 586 39 lv [(.int s0)] h (fun q => q = o) := by
  unfold fg_586_39 at hs
  cases hs
  exact aw_iret at_586_39 (by rw [rt_586]; rfl) rfl
def fg_586_29 (s0 : Value) (s1 : Int32) (h : am_H) : Option am_O := ((am_pA 0 s0 s1 h).bind fun v1 => (if v1 = 3 then (fg_586_39 0 h) else (fg_586_39 2 h)))
theorem rg_586_29 {X : am_X} {d : Nat} {lv : am_LV} (s0 : Value) (s1 : Int32) (h : am_H) (o : am_O) (j0 : am_isR s0 = true) (hs : fg_586_29 s0 s1 h = some o) : am_W X (d + 2) 586 29 lv [(.int s1), s0] h (fun q => q = o) := by
  unfold fg_586_29 at hs
  obtain ⟨v1, e2, hs1⟩ := am_bind hs
  clear hs
  refine aw_pA (pc1 := 30) at_586_29 (Or.inl ⟨rfl, rfl⟩) e2 rfl ?_
  refine aw_iconst (v := 3) (pc1 := 31) at_586_30 (by decide) rfl ?_
  by_cases c3 : v1 = 3
  · rw [if_pos c3] at hs1
    refine aw_iceq_t at_586_31 c3 ?_
    refine aw_iconst (v := 0) (pc1 := 39) at_586_38 (by decide) rfl ?_
    exact rg_586_39 0 h o   hs1
  · rw [if_neg c3] at hs1
    refine aw_iceq_f (pc1 := 34) at_586_31 c3 rfl ?_
    refine aw_iconst (v := 2) (pc1 := 35) at_586_34 (by decide) rfl ?_
    refine aw_goto at_586_35 ?_
    exact rg_586_39 2 h o   hs1
def fg_586_0 (x0 : Value) (x1 : Int32) (h : am_H) : Option am_O := (if am_pOk 12 x0 h then am_cI true (fm_358 x0 x1 h) (fun v2 h3 => (if ¬ v2 = 0 then ((am_vR (am_pG 3074 x0 h3)).bind fun v6 => (if am_pOk 12 x0 h3 then am_cI true (fm_358 x0 x1 h3) (fun v9 h10 => (if v9 = 0 then (fg_586_29 v6 0 h10) else (fg_586_29 v6 x1 h10))) else none)) else (fg_586_39 1 h3))) else none)
theorem rg_586_0 {X : am_X} {d : Nat} {lv : am_LV} (x0 : Value) (x1 : Int32) (h : am_H) (o : am_O) (l0 : lv.lookup 0 = some x0) (l1 : lv.lookup 1 = some (.int x1)) (i0 : am_isR x0 = true) (hs : fg_586_0 x0 x1 h = some o) : am_W X (d + 2) 586 0 lv [] h (fun q => q = o) := by
  unfold fg_586_0 at hs
  refine aw_vload_n (pc1 := 1) at_586_0 l0 i0 rfl ?_
  refine aw_iload_n (pc1 := 2) at_586_1 l1 rfl ?_
  obtain ⟨z1, hs1⟩ := am_ift hs
  clear hs
  refine aw_call (F := fm_358 x0 x1 h) (t := true) (na := 2) (kd := 1) (as := [x0, (.int x1)]) at_586_2 (am_k3v kb_358) mn_358 mk_358 rfl rfl (am_ok_v mi_358 (am_hl rfl (am_ccR i0 (am_ccI am_cats_0)) rfl) z1) (am_hc am_cats_0 rfl) (fun _ => ⟨rfl, hh_586⟩) (fun o1 hz9 => rm_358 x0 x1 h o1 i0 hz9) ?_
  rcases am_cI_s hs1 with ⟨v2, h3, f4, hs2⟩ | hs2
  · clear hs1
    refine Or.inl ⟨_, _, f4, ?_⟩
    show am_W X _ 586 5 _ [(.int v2)] h3 _
    by_cases c5 : ¬ v2 = 0
    · rw [if_pos c5] at hs2
      refine aw_ifne_t at_586_5 c5 ?_
      refine aw_vload_n (pc1 := 13) at_586_12 l0 i0 rfl ?_
      obtain ⟨v6, e7, hs3⟩ := am_bind hs2
      clear hs2
      refine aw_pG (pc1 := 16) at_586_13 (am_vR_s e7).1 rfl ?_
      refine aw_vload_n (pc1 := 17) at_586_16 l0 i0 rfl ?_
      refine aw_iload_n (pc1 := 18) at_586_17 l1 rfl ?_
      obtain ⟨z8, hs4⟩ := am_ift hs3
      clear hs3
      refine aw_call (F := fm_358 x0 x1 h3) (t := true) (na := 2) (kd := 1) (as := [x0, (.int x1)]) at_586_18 (am_k3v kb_358) mn_358 mk_358 rfl rfl (am_ok_v mi_358 (am_hl rfl (am_ccR i0 (am_ccI am_cats_0)) rfl) z8) (am_hc (am_ccR (am_vR_s e7).2 am_cats_0) rfl) (fun _ => ⟨rfl, hh_586⟩) (fun o1 hz9 => rm_358 x0 x1 h3 o1 i0 hz9) ?_
      rcases am_cI_s hs4 with ⟨v9, h10, f11, hs5⟩ | hs5
      · clear hs4
        refine Or.inl ⟨_, _, f11, ?_⟩
        show am_W X _ 586 21 _ [(.int v9), v6] h10 _
        by_cases c12 : v9 = 0
        · rw [if_pos c12] at hs5
          refine aw_ifeq_t at_586_21 c12 ?_
          refine aw_iconst (v := 0) (pc1 := 29) at_586_28 (by decide) rfl ?_
          exact rg_586_29 v6 0 h10 o  (am_vR_s e7).2 hs5
        · rw [if_neg c12] at hs5
          refine aw_ifeq_f (pc1 := 24) at_586_21 c12 rfl ?_
          refine aw_iload_n (pc1 := 25) at_586_24 l1 rfl ?_
          refine aw_goto at_586_25 ?_
          exact rg_586_29 v6 x1 h10 o  (am_vR_s e7).2 hs5
      · clear hs4
        exact Or.inr hs5
    · rw [if_neg c5] at hs2
      refine aw_ifne_f (pc1 := 8) at_586_5 c5 rfl ?_
      refine aw_iconst (v := 1) (pc1 := 9) at_586_8 (by decide) rfl ?_
      refine aw_goto at_586_9 ?_
      exact rg_586_39 1 h3 o   hs2
  · clear hs1
    exact Or.inr hs2
def fm_586 (y0 : Value) (y1 : Int32) (h : am_H) : Option am_O := fg_586_0 y0 y1 h
theorem rm_586 {X : am_X} {d : Nat} (y0 : Value) (y1 : Int32) (h : am_H) (o : am_O) (i0 : am_isR y0 = true) (hs : fm_586 y0 y1 h = some o) : am_W X (d + 2) 586 0 (am_args 0 [y0, .int y1]) [] h (fun q => q = o) := by
  rw [am_args_R i0, am_args_I]
  exact rg_586_0 y0 y1 h o rfl rfl i0 hs
