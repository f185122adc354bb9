/-! ===== methods as functions ===== -/
def fg_412_0 (x0 : Value) (x1 : Int32) (h : am_H) : Option am_O := ((am_vR (am_pG 3136 x0 h)).bind fun v1 => ((am_pA 0 v1 (x1 + 1) h).bind fun v3 => some (.inl (some (.int ((x1 + 1) + v3)), h))))
theorem rg_412_0 {X : am_X} {d : Nat} {lv : am_LV} (x0 : Value) (x1 : Int32) (h : am_H) (o : am_O) (l0 : lv.lookup 0 = some x0) (l1 : lv.lookup 1 = some (.int x1)) (i0 : am_isR x0 = true) (hs : fg_412_0 x0 x1 h = some o) : am_W X (d) 412 0 lv [] h (fun q => q = o) := by
  unfold fg_412_0 at hs
  refine aw_iload_n (pc1 := 1) at_412_0 l1 rfl ?_
  refine aw_iconst (v := 1) (pc1 := 2) at_412_1 (by decide) rfl ?_
  refine aw_iadd (v := (x1 + 1)) (pc1 := 3) at_412_2 rfl rfl ?_
  refine aw_vload_n (pc1 := 4) at_412_3 l0 i0 rfl ?_
  obtain ⟨v1, e2, hs1⟩ := am_bind hs
  clear hs
  refine aw_pG (pc1 := 7) at_412_4 (am_vR_s e2).1 rfl ?_
  refine aw_iload_n (pc1 := 8) at_412_7 l1 rfl ?_
  refine aw_iconst (v := 1) (pc1 := 9) at_412_8 (by decide) rfl ?_
  refine aw_iadd (v := (x1 + 1)) (pc1 := 10) at_412_9 rfl rfl ?_
  obtain ⟨v3, e4, hs2⟩ := am_bind hs1
  clear hs1
  refine aw_pA (pc1 := 11) at_412_10 (Or.inl ⟨rfl, rfl⟩) e4 rfl ?_
  refine aw_iadd (v := ((x1 + 1) + v3)) (pc1 := 12) at_412_11 rfl rfl ?_
  cases hs2
  exact aw_iret at_412_12 (by rw [rt_412]; rfl) rfl
def fm_412 (y0 : Value) (y1 : Int32) (h : am_H) : Option am_O := fg_412_0 y0 y1 h
theorem rm_412 {X : am_X} {d : Nat} (y0 : Value) (y1 : Int32) (h : am_H) (o : am_O) (i0 : am_isR y0 = true) (hs : fm_412 y0 y1 h = some o) : am_W X (d) 412 0 (am_args 0 [y0, .int y1]) [] h (fun q => q = o) := by
  rw [am_args_R i0, am_args_I]
  exact rg_412_0 y0 y1 h o rfl rfl i0 hs
def fg_413_124 (s0 : Int32) (h : am_H) : Option am_O := some (.inl (some (.int s0), h))
theorem rg_413_124 {X : am_X} {d : Nat} {lv : am_LV} (s0 : Int32) (h : am_H) (o : am_O) (hs : fg_413_124 s0 h = some o) : am_W X (d) 413 124 lv [(.int s0)] h (fun q => q = o) := by
  unfold fg_413_124 at hs
  cases hs
  exact aw_iret at_413_124 (by rw [rt_413]; rfl) rfl
def fg_413_113 (s0 : Int32) (h : am_H) : Option am_O := some (.inl (some (.int s0), h))
theorem rg_413_113 {X : am_X} {d : Nat} {lv : am_LV} (s0 : Int32) (h : am_H) (o : am_O) (hs : fg_413_113 s0 h = some o) : am_W X (d) 413 113 lv [(.int s0)] h (fun q => q = o) := by
  unfold fg_413_113 at hs
  cases hs
  exact aw_iret at_413_113 (by rw [rt_413]; rfl) rfl
def fg_413_102 (s0 : Int32) (h : am_H) : Option am_O := some (.inl (some (.int s0), h))
theorem rg_413_102 {X : am_X} {d : Nat} {lv : am_LV} (s0 : Int32) (h : am_H) (o : am_O) (hs : fg_413_102 s0 h = some o) : am_W X (d) 413 102 lv [(.int s0)] h (fun q => q = o) := by
  unfold fg_413_102 at hs
  cases hs
  exact aw_iret at_413_102 (by rw [rt_413]; rfl) rfl
def fg_413_89 (s0 : Int32) (h : am_H) : Option am_O := some (.inl (some (.int s0), h))
theorem rg_413_89 {X : am_X} {d : Nat} {lv : am_LV} (s0 : Int32) (h : am_H) (o : am_O) (hs : fg_413_89 s0 h = some o) : am_W X (d) 413 89 lv [(.int s0)] h (fun q => q = o) := by
  unfold fg_413_89 at hs
  cases hs
  exact aw_iret at_413_89 (by rw [rt_413]; rfl) rfl
def fg_413_23 (x1 : Int32) (x2 : Int32) (x3 : Int32) (h : am_H) : Option am_O := (if x1 = 10 then some (.inl (some (.int (x2 + x3)), h)) else (if x1 = 11 then some (.inl (some (.int (x2 - x3)), h)) else (if x1 = 12 then some (.inl (some (.int (x2 * x3)), h)) else (if x1 = 13 then (if ¬ x3 = (-1) then (if (x3 : Int32) ≠ 0 then (fg_413_89 ((x2 / x3)) h) else none) else (fg_413_89 ((-x2)) h)) else (if x1 = 14 then (if ¬ x3 = (-1) then (if (x3 : Int32) ≠ 0 then (fg_413_102 ((x2 - x2 / x3 * x3)) h) else none) else (fg_413_102 0 h)) else (if x1 = 15 then (if x3 ≤ x2 then (fg_413_113 0 h) else (fg_413_113 1 h)) else (if ¬ x2 = x3 then (fg_413_124 0 h) else (fg_413_124 1 h))))))))
theorem rg_413_23 {X : am_X} {d : Nat} {lv : am_LV} (x1 : Int32) (x2 : Int32) (x3 : Int32) (h : am_H) (o : am_O) (l1 : lv.lookup 1 = some (.int x1)) (l2 : lv.lookup 2 = some (.int x2)) (l3 : lv.lookup 3 = some (.int x3)) (hs : fg_413_23 x1 x2 x3 h = some o) : am_W X (d) 413 23 lv [] h (fun q => q = o) := by
  unfold fg_413_23 at hs
  refine aw_iload_n (pc1 := 24) at_413_23 l1 rfl ?_
  by_cases c1 : x1 = 10
  · rw [if_pos c1] at hs
    refine aw_tsw (t := 64) at_413_24 (by rw [c1]; rfl) ?_
    refine aw_iload_n (pc1 := 65) at_413_64 l2 rfl ?_
    refine aw_iload_n (pc1 := 66) at_413_65 l3 rfl ?_
    refine aw_iadd (v := (x2 + x3)) (pc1 := 67) at_413_66 rfl rfl ?_
    cases hs
    exact aw_iret at_413_67 (by rw [rt_413]; rfl) rfl
  · rw [if_neg c1] at hs
    by_cases c2 : x1 = 11
    · rw [if_pos c2] at hs
      refine aw_tsw (t := 68) at_413_24 (by rw [c2]; rfl) ?_
      refine aw_iload_n (pc1 := 69) at_413_68 l2 rfl ?_
      refine aw_iload_n (pc1 := 70) at_413_69 l3 rfl ?_
      refine aw_isub (v := (x2 - x3)) (pc1 := 71) at_413_70 rfl rfl ?_
      cases hs
      exact aw_iret at_413_71 (by rw [rt_413]; rfl) rfl
    · rw [if_neg c2] at hs
      by_cases c3 : x1 = 12
      · rw [if_pos c3] at hs
        refine aw_tsw (t := 72) at_413_24 (by rw [c3]; rfl) ?_
        refine aw_iload_n (pc1 := 73) at_413_72 l2 rfl ?_
        refine aw_iload_n (pc1 := 74) at_413_73 l3 rfl ?_
        refine aw_imul (v := (x2 * x3)) (pc1 := 75) at_413_74 rfl rfl ?_
        cases hs
        exact aw_iret at_413_75 (by rw [rt_413]; rfl) rfl
      · rw [if_neg c3] at hs
        by_cases c4 : x1 = 13
        · rw [if_pos c4] at hs
          refine aw_tsw (t := 76) at_413_24 (by rw [c4]; rfl) ?_
          refine aw_iload_n (pc1 := 77) at_413_76 l3 rfl ?_
          refine aw_iconst (v := (-1)) (pc1 := 78) at_413_77 (by decide) rfl ?_
          by_cases c5 : ¬ x3 = (-1)
          · rw [if_pos c5] at hs
            refine aw_icne_t at_413_78 c5 ?_
            refine aw_iload_n (pc1 := 87) at_413_86 l2 rfl ?_
            refine aw_iload_n (pc1 := 88) at_413_87 l3 rfl ?_
            obtain ⟨z6, hs1⟩ := am_ift hs
            clear hs
            refine aw_idiv (v := (x2 / x3)) (pc1 := 89) at_413_88 z6 rfl rfl ?_
            exact rg_413_89 ((x2 / x3)) h o   hs1
          · rw [if_neg c5] at hs
            refine aw_icne_f (pc1 := 81) at_413_78 c5 rfl ?_
            refine aw_iload_n (pc1 := 82) at_413_81 l2 rfl ?_
            refine aw_ineg (v := (-x2)) (pc1 := 83) at_413_82 rfl rfl ?_
            refine aw_goto at_413_83 ?_
            exact rg_413_89 ((-x2)) h o   hs
        · rw [if_neg c4] at hs
          by_cases c7 : x1 = 14
          · rw [if_pos c7] at hs
            refine aw_tsw (t := 90) at_413_24 (by rw [c7]; rfl) ?_
            refine aw_iload_n (pc1 := 91) at_413_90 l3 rfl ?_
            refine aw_iconst (v := (-1)) (pc1 := 92) at_413_91 (by decide) rfl ?_
            by_cases c8 : ¬ x3 = (-1)
            · rw [if_pos c8] at hs
              refine aw_icne_t at_413_92 c8 ?_
              refine aw_iload_n (pc1 := 100) at_413_99 l2 rfl ?_
              refine aw_iload_n (pc1 := 101) at_413_100 l3 rfl ?_
              obtain ⟨z9, hs2⟩ := am_ift hs
              clear hs
              refine aw_irem (v := (x2 - x2 / x3 * x3)) (pc1 := 102) at_413_101 z9 rfl rfl ?_
              exact rg_413_102 ((x2 - x2 / x3 * x3)) h o   hs2
            · rw [if_neg c8] at hs
              refine aw_icne_f (pc1 := 95) at_413_92 c8 rfl ?_
              refine aw_iconst (v := 0) (pc1 := 96) at_413_95 (by decide) rfl ?_
              refine aw_goto at_413_96 ?_
              exact rg_413_102 0 h o   hs
          · rw [if_neg c7] at hs
            by_cases c10 : x1 = 15
            · rw [if_pos c10] at hs
              refine aw_tsw (t := 103) at_413_24 (by rw [c10]; rfl) ?_
              refine aw_iload_n (pc1 := 104) at_413_103 l2 rfl ?_
              refine aw_iload_n (pc1 := 105) at_413_104 l3 rfl ?_
              by_cases c11 : x3 ≤ x2
              · rw [if_pos c11] at hs
                refine aw_icge_t at_413_105 c11 ?_
                refine aw_iconst (v := 0) (pc1 := 113) at_413_112 (by decide) rfl ?_
                exact rg_413_113 0 h o   hs
              · rw [if_neg c11] at hs
                refine aw_icge_f (pc1 := 108) at_413_105 c11 rfl ?_
                refine aw_iconst (v := 1) (pc1 := 109) at_413_108 (by decide) rfl ?_
                refine aw_goto at_413_109 ?_
                exact rg_413_113 1 h o   hs
            · rw [if_neg c10] at hs
              have tc1 : x1.toInt ≠ 10 := fun e9 => c1 (Int32.toInt_inj.mp e9)
              have tc2 : x1.toInt ≠ 11 := fun e9 => c2 (Int32.toInt_inj.mp e9)
              have tc3 : x1.toInt ≠ 12 := fun e9 => c3 (Int32.toInt_inj.mp e9)
              have tc4 : x1.toInt ≠ 13 := fun e9 => c4 (Int32.toInt_inj.mp e9)
              have tc7 : x1.toInt ≠ 14 := fun e9 => c7 (Int32.toInt_inj.mp e9)
              have tc10 : x1.toInt ≠ 15 := fun e9 => c10 (Int32.toInt_inj.mp e9)
              refine aw_tsw (t := 114) at_413_24 (am_tsw_d (by omega)) ?_
              refine aw_iload_n (pc1 := 115) at_413_114 l2 rfl ?_
              refine aw_iload_n (pc1 := 116) at_413_115 l3 rfl ?_
              by_cases c12 : ¬ x2 = x3
              · rw [if_pos c12] at hs
                refine aw_icne_t at_413_116 c12 ?_
                refine aw_iconst (v := 0) (pc1 := 124) at_413_123 (by decide) rfl ?_
                exact rg_413_124 0 h o   hs
              · rw [if_neg c12] at hs
                refine aw_icne_f (pc1 := 119) at_413_116 c12 rfl ?_
                refine aw_iconst (v := 1) (pc1 := 120) at_413_119 (by decide) rfl ?_
                refine aw_goto at_413_120 ?_
                exact rg_413_124 1 h o   hs
def fg_413_12 (x0 : Value) (x1 : Int32) (x2 : Int32) (x3 : Int32) (h : am_H) : Option am_O := (if ¬ x3 = 0 then (fg_413_23 x1 x2 x3 h) else ((am_pP 3120 x0 (.int 1) h).bind fun h2 => some (.inl (some (.int 0), h2))))
theorem rg_413_12 {X : am_X} {d : Nat} {lv : am_LV} (x0 : Value) (x1 : Int32) (x2 : Int32) (x3 : Int32) (h : am_H) (o : am_O) (l0 : lv.lookup 0 = some x0) (l1 : lv.lookup 1 = some (.int x1)) (l2 : lv.lookup 2 = some (.int x2)) (l3 : lv.lookup 3 = some (.int x3)) (i0 : am_isR x0 = true) (hs : fg_413_12 x0 x1 x2 x3 h = some o) : am_W X (d) 413 12 lv [] h (fun q => q = o) := by
  unfold fg_413_12 at hs
  refine aw_iload_n (pc1 := 13) at_413_12 l3 rfl ?_
  by_cases c1 : ¬ x3 = 0
  · rw [if_pos c1] at hs
    refine aw_ifne_t at_413_13 c1 ?_
    exact rg_413_23 x1 x2 x3 h o l1 l2 l3  hs
  · rw [if_neg c1] at hs
    refine aw_ifne_f (pc1 := 16) at_413_13 c1 rfl ?_
    refine aw_vload_n (pc1 := 17) at_413_16 l0 i0 rfl ?_
    refine aw_iconst (v := 1) (pc1 := 18) at_413_17 (by decide) rfl ?_
    obtain ⟨h2, e3, hs1⟩ := am_bind hs
    clear hs
    refine aw_pP (pc1 := 21) at_413_18 e3 rfl ?_
    refine aw_iconst (v := 0) (pc1 := 22) at_413_21 (by decide) rfl ?_
    cases hs1
    exact aw_iret at_413_22 (by rw [rt_413]; rfl) rfl
def fg_413_0 (x0 : Value) (x1 : Int32) (x2 : Int32) (x3 : Int32) (h : am_H) : Option am_O := (if x1 = 13 then (fg_413_12 x0 x1 x2 x3 h) else (if ¬ x1 = 14 then (fg_413_23 x1 x2 x3 h) else (fg_413_12 x0 x1 x2 x3 h)))
theorem rg_413_0 {X : am_X} {d : Nat} {lv : am_LV} (x0 : Value) (x1 : Int32) (x2 : Int32) (x3 : Int32) (h : am_H) (o : am_O) (l0 : lv.lookup 0 = some x0) (l1 : lv.lookup 1 = some (.int x1)) (l2 : lv.lookup 2 = some (.int x2)) (l3 : lv.lookup 3 = some (.int x3)) (i0 : am_isR x0 = true) (hs : fg_413_0 x0 x1 x2 x3 h = some o) : am_W X (d) 413 0 lv [] h (fun q => q = o) := by
  unfold fg_413_0 at hs
  refine aw_iload_n (pc1 := 1) at_413_0 l1 rfl ?_
  refine aw_bipush (v := 13) (pc1 := 3) at_413_1 (by decide) rfl ?_
  by_cases c1 : x1 = 13
  · rw [if_pos c1] at hs
    refine aw_iceq_t at_413_3 c1 ?_
    exact rg_413_12 x0 x1 x2 x3 h o l0 l1 l2 l3 i0 hs
  · rw [if_neg c1] at hs
    refine aw_iceq_f (pc1 := 6) at_413_3 c1 rfl ?_
    refine aw_iload_n (pc1 := 7) at_413_6 l1 rfl ?_
    refine aw_bipush (v := 14) (pc1 := 9) at_413_7 (by decide) rfl ?_
    by_cases c2 : ¬ x1 = 14
    · rw [if_pos c2] at hs
      refine aw_icne_t at_413_9 c2 ?_
      exact rg_413_23 x1 x2 x3 h o l1 l2 l3  hs
    · rw [if_neg c2] at hs
      refine aw_icne_f (pc1 := 12) at_413_9 c2 rfl ?_
      exact rg_413_12 x0 x1 x2 x3 h o l0 l1 l2 l3 i0 hs
def fm_413 (y0 : Value) (y1 : Int32) (y2 : Int32) (y3 : Int32) (h : am_H) : Option am_O := fg_413_0 y0 y1 y2 y3 h
theorem rm_413 {X : am_X} {d : Nat} (y0 : Value) (y1 : Int32) (y2 : Int32) (y3 : Int32) (h : am_H) (o : am_O) (i0 : am_isR y0 = true) (hs : fm_413 y0 y1 y2 y3 h = some o) : am_W X (d) 413 0 (am_args 0 [y0, .int y1, .int y2, .int y3]) [] h (fun q => q = o) := by
  rw [am_args_R i0, am_args_I, am_args_I, am_args_I]
  exact rg_413_0 y0 y1 y2 y3 h o rfl rfl rfl rfl i0 hs
def fg_414_0 (x0 : Value) (x1 : Int32) (x2 : Int32) (x3 : Int32) (h : am_H) : Option am_O := ((am_vR (am_pG 3134 x0 h)).bind fun v1 => ((am_vI (am_pG 3138 x0 h)).bind fun v3 => ((am_pS 0 v1 x1 v3 h).bind fun h5 => ((am_vI (am_pG 3126 x0 h5)).bind fun v7 => (if ¬ (x3 - 1) = v7 then ((am_vR (am_pG 3134 x0 h5)).bind fun v10 => ((am_pA 0 v10 x1 h5).bind fun v12 => ((am_pP 3130 x0 (.int v12) h5).bind fun h14 => ((am_vR (am_pG 3127 x0 h14)).bind fun v16 => ((am_pA 0 v16 (x3 - 1) h14).bind fun v18 => ((am_pP 3131 x0 (.int v18) h14).bind fun h20 => (if am_pOk 12 x0 h20 then am_cI true (fm_412 x0 x2 h20) (fun v23 h24 => (if am_pOk 12 x0 h24 then am_cV true (fm_406 x0 v23 h24) (fun h28 => some (.inl (none, h28))) else none)) else none))))))) else ((am_vR (am_pG 3134 x0 h5)).bind fun v30 => ((am_pA 0 v30 x1 h5).bind fun v32 => (if am_pOk 12 x0 h5 then am_cV true (fm_409 x0 v32 h5) (fun h36 => some (.inl (none, h36))) else none))))))))
theorem rg_414_0 {X : am_X} {d : Nat} {lv : am_LV} (x0 : Value) (x1 : Int32) (x2 : Int32) (x3 : Int32) (h : am_H) (o : am_O) (l0 : lv.lookup 0 = some x0) (l1 : lv.lookup 1 = some (.int x1)) (l2 : lv.lookup 2 = some (.int x2)) (l3 : lv.lookup 3 = some (.int x3)) (i0 : am_isR x0 = true) (hs : fg_414_0 x0 x1 x2 x3 h = some o) : am_W X (d + 2) 414 0 lv [] h (fun q => q = o) := by
  unfold fg_414_0 at hs
  refine aw_vload_n (pc1 := 1) at_414_0 l0 i0 rfl ?_
  obtain ⟨v1, e2, hs1⟩ := am_bind hs
  clear hs
  refine aw_pG (pc1 := 4) at_414_1 (am_vR_s e2).1 rfl ?_
  refine aw_iload_n (pc1 := 5) at_414_4 l1 rfl ?_
  refine aw_vload_n (pc1 := 6) at_414_5 l0 i0 rfl ?_
  obtain ⟨v3, e4, hs2⟩ := am_bind hs1
  clear hs1
  refine aw_pG (pc1 := 9) at_414_6 (am_vI_s e4) rfl ?_
  obtain ⟨h5, e6, hs3⟩ := am_bind hs2
  clear hs2
  refine aw_pS (pc1 := 10) at_414_9 (Or.inl ⟨rfl, rfl⟩) e6 rfl ?_
  refine aw_iload_n (pc1 := 11) at_414_10 l3 rfl ?_
  refine aw_iconst (v := 1) (pc1 := 12) at_414_11 (by decide) rfl ?_
  refine aw_isub (v := (x3 - 1)) (pc1 := 13) at_414_12 rfl rfl ?_
  refine aw_vload_n (pc1 := 14) at_414_13 l0 i0 rfl ?_
  obtain ⟨v7, e8, hs4⟩ := am_bind hs3
  clear hs3
  refine aw_pG (pc1 := 17) at_414_14 (am_vI_s e8) rfl ?_
  by_cases c9 : ¬ (x3 - 1) = v7
  · rw [if_pos c9] at hs4
    refine aw_icne_t at_414_17 c9 ?_
    refine aw_vload_n (pc1 := 32) at_414_31 l0 i0 rfl ?_
    refine aw_vload_n (pc1 := 33) at_414_32 l0 i0 rfl ?_
    obtain ⟨v10, e11, hs5⟩ := am_bind hs4
    clear hs4
    refine aw_pG (pc1 := 36) at_414_33 (am_vR_s e11).1 rfl ?_
    refine aw_iload_n (pc1 := 37) at_414_36 l1 rfl ?_
    obtain ⟨v12, e13, hs6⟩ := am_bind hs5
    clear hs5
    refine aw_pA (pc1 := 38) at_414_37 (Or.inl ⟨rfl, rfl⟩) e13 rfl ?_
    obtain ⟨h14, e15, hs7⟩ := am_bind hs6
    clear hs6
    refine aw_pP (pc1 := 41) at_414_38 e15 rfl ?_
    refine aw_vload_n (pc1 := 42) at_414_41 l0 i0 rfl ?_
    refine aw_vload_n (pc1 := 43) at_414_42 l0 i0 rfl ?_
    obtain ⟨v16, e17, hs8⟩ := am_bind hs7
    clear hs7
    refine aw_pG (pc1 := 46) at_414_43 (am_vR_s e17).1 rfl ?_
    refine aw_iload_n (pc1 := 47) at_414_46 l3 rfl ?_
    refine aw_iconst (v := 1) (pc1 := 48) at_414_47 (by decide) rfl ?_
    refine aw_isub (v := (x3 - 1)) (pc1 := 49) at_414_48 rfl rfl ?_
    obtain ⟨v18, e19, hs9⟩ := am_bind hs8
    clear hs8
    refine aw_pA (pc1 := 50) at_414_49 (Or.inl ⟨rfl, rfl⟩) e19 rfl ?_
    obtain ⟨h20, e21, hs10⟩ := am_bind hs9
    clear hs9
    refine aw_pP (pc1 := 53) at_414_50 e21 rfl ?_
    refine aw_vload_n (pc1 := 54) at_414_53 l0 i0 rfl ?_
    refine aw_vload_n (pc1 := 55) at_414_54 l0 i0 rfl ?_
    refine aw_iload_n (pc1 := 56) at_414_55 l2 rfl ?_
    obtain ⟨z22, hs11⟩ := am_ift hs10
    clear hs10
    refine aw_call (F := fm_412 x0 x2 h20) (t := true) (na := 2) (kd := 1) (as := [x0, (.int x2)]) at_414_56 (am_k3v kb_412) mn_412 mk_412 rfl rfl (am_ok_v mi_412 (am_hl rfl (am_ccR i0 (am_ccI am_cats_0)) rfl) z22) (am_hc (am_ccR i0 am_cats_0) rfl) (fun _ => ⟨rfl, hh_414⟩) (fun o1 hz9 => rm_412 x0 x2 h20 o1 i0 hz9) ?_
    rcases am_cI_s hs11 with ⟨v23, h24, f25, hs12⟩ | hs12
    · clear hs11
      refine Or.inl ⟨_, _, f25, ?_⟩
      show am_W X _ 414 59 _ [(.int v23), x0] h24 _
      obtain ⟨z26, hs13⟩ := am_ift hs12
      clear hs12
      refine aw_call (F := fm_406 x0 v23 h24) (t := true) (na := 2) (kd := 1) (as := [x0, (.int v23)]) at_414_59 (am_k3v kb_406) mn_406 mk_406 rfl rfl (am_ok_v mi_406 (am_hl rfl (am_ccR i0 (am_ccI am_cats_0)) rfl) z26) (am_hc am_cats_0 rfl) (fun _ => ⟨rfl, hh_414⟩) (fun o1 hz9 => rm_406 x0 v23 h24 o1 i0 hz9) ?_
      rcases am_cV_s hs13 with ⟨h28, f29, hs14⟩ | hs14
      · clear hs13
        refine Or.inl ⟨_, _, f29, ?_⟩
        show am_W X _ 414 62 _ [] h28 _
        cases hs14
        exact aw_vret at_414_62 rt_414 rfl
      · clear hs13
        exact Or.inr hs14
    · clear hs11
      exact Or.inr hs12
  · rw [if_neg c9] at hs4
    refine aw_icne_f (pc1 := 20) at_414_17 c9 rfl ?_
    refine aw_vload_n (pc1 := 21) at_414_20 l0 i0 rfl ?_
    refine aw_vload_n (pc1 := 22) at_414_21 l0 i0 rfl ?_
    obtain ⟨v30, e31, hs15⟩ := am_bind hs4
    clear hs4
    refine aw_pG (pc1 := 25) at_414_22 (am_vR_s e31).1 rfl ?_
    refine aw_iload_n (pc1 := 26) at_414_25 l1 rfl ?_
    obtain ⟨v32, e33, hs16⟩ := am_bind hs15
    clear hs15
    refine aw_pA (pc1 := 27) at_414_26 (Or.inl ⟨rfl, rfl⟩) e33 rfl ?_
    obtain ⟨z34, hs17⟩ := am_ift hs16
    clear hs16
    refine aw_call (F := fm_409 x0 v32 h5) (t := true) (na := 2) (kd := 1) (as := [x0, (.int v32)]) at_414_27 (am_k3v kb_409) mn_409 mk_409 rfl rfl (am_ok_v mi_409 (am_hl rfl (am_ccR i0 (am_ccI am_cats_0)) rfl) z34) (am_hc am_cats_0 rfl) (fun _ => ⟨rfl, hh_414⟩) (fun o1 hz9 => rm_409 x0 v32 h5 o1 i0 hz9) ?_
    rcases am_cV_s hs17 with ⟨h36, f37, hs18⟩ | hs18
    · clear hs17
      refine Or.inl ⟨_, _, f37, ?_⟩
      show am_W X _ 414 30 _ [] h36 _
      cases hs18
      exact aw_vret at_414_30 rt_414 rfl
    · clear hs17
      exact Or.inr hs18
def fm_414 (y0 : Value) (y1 : Int32) (y2 : Int32) (y3 : Int32) (h : am_H) : Option am_O := fg_414_0 y0 y1 y2 y3 h
theorem rm_414 {X : am_X} {d : Nat} (y0 : Value) (y1 : Int32) (y2 : Int32) (y3 : Int32) (h : am_H) (o : am_O) (i0 : am_isR y0 = true) (hs : fm_414 y0 y1 y2 y3 h = some o) : am_W X (d + 2) 414 0 (am_args 0 [y0, .int y1, .int y2, .int y3]) [] h (fun q => q = o) := by
  rw [am_args_R i0, am_args_I, am_args_I, am_args_I]
  exact rg_414_0 y0 y1 y2 y3 h o rfl rfl rfl rfl i0 hs
def fg_410_286 (h : am_H) : Option am_O := some (.inl (none, h))
theorem rg_410_286 {X : am_X} {d : Nat} {lv : am_LV} (h : am_H) (o : am_O) (hs : fg_410_286 h = some o) : am_W X (d + 3) 410 286 lv [] h (fun q => q = o) := by
  unfold fg_410_286 at hs
  cases hs
  exact aw_vret at_410_286 rt_410 rfl
def fg_410_272 (s0 : Value) (s1 : Int32) (h : am_H) : Option am_O := (if am_pOk 12 s0 h then am_cV true (fm_406 s0 s1 h) (fun h3 => (fg_410_286 h3)) else none)
theorem rg_410_272 {X : am_X} {d : Nat} {lv : am_LV} (s0 : Value) (s1 : Int32) (h : am_H) (o : am_O) (j0 : am_isR s0 = true) (hs : fg_410_272 s0 s1 h = some o) : am_W X (d + 3) 410 272 lv [(.int s1), s0] h (fun q => q = o) := by
  unfold fg_410_272 at hs
  obtain ⟨z1, hs1⟩ := am_ift hs
  clear hs
  refine aw_call (F := fm_406 s0 s1 h) (t := true) (na := 2) (kd := 1) (as := [s0, (.int s1)]) at_410_272 (am_k3v kb_406) mn_406 mk_406 rfl rfl (am_ok_v mi_406 (am_hl rfl (am_ccR j0 (am_ccI am_cats_0)) rfl) z1) (am_hc am_cats_0 rfl) (fun _ => ⟨rfl, hh_410⟩) (fun o1 hz9 => rm_406 s0 s1 h o1 j0 hz9) ?_
  rcases am_cV_s hs1 with ⟨h3, f4, hs2⟩ | hs2
  · clear hs1
    refine Or.inl ⟨_, _, f4, ?_⟩
    show am_W X _ 410 275 _ [] h3 _
    refine aw_goto at_410_275 ?_
    exact rg_410_286 h3 o   hs2
  · clear hs1
    exact Or.inr hs2
def fg_410_205 (x0 : Value) (h : am_H) : Option am_O := ((am_vI (am_pG 3138 x0 h)).bind fun v1 => (if am_pOk 12 x0 h then am_cV true (fm_409 x0 v1 h) (fun h5 => (fg_410_286 h5)) else none))
theorem rg_410_205 {X : am_X} {d : Nat} {lv : am_LV} (x0 : Value) (h : am_H) (o : am_O) (l0 : lv.lookup 0 = some x0) (i0 : am_isR x0 = true) (hs : fg_410_205 x0 h = some o) : am_W X (d + 3) 410 205 lv [] h (fun q => q = o) := by
  unfold fg_410_205 at hs
  refine aw_vload_n (pc1 := 206) at_410_205 l0 i0 rfl ?_
  refine aw_vload_n (pc1 := 207) at_410_206 l0 i0 rfl ?_
  obtain ⟨v1, e2, hs1⟩ := am_bind hs
  clear hs
  refine aw_pG (pc1 := 210) at_410_207 (am_vI_s e2) rfl ?_
  obtain ⟨z3, hs2⟩ := am_ift hs1
  clear hs1
  refine aw_call (F := fm_409 x0 v1 h) (t := true) (na := 2) (kd := 1) (as := [x0, (.int v1)]) at_410_210 (am_k3v kb_409) mn_409 mk_409 rfl rfl (am_ok_v mi_409 (am_hl rfl (am_ccR i0 (am_ccI am_cats_0)) rfl) z3) (am_hc am_cats_0 rfl) (fun _ => ⟨rfl, hh_410⟩) (fun o1 hz9 => rm_409 x0 v1 h o1 i0 hz9) ?_
  rcases am_cV_s hs2 with ⟨h5, f6, hs3⟩ | hs3
  · clear hs2
    refine Or.inl ⟨_, _, f6, ?_⟩
    show am_W X _ 410 213 _ [] h5 _
    refine aw_goto at_410_213 ?_
    exact rg_410_286 h5 o   hs3
  · clear hs2
    exact Or.inr hs3
def fg_410_190 (x0 : Value) (x2 : Int32) (s0 : Int32) (s1 : Int32) (h : am_H) : Option am_O := (if ¬ s0 = s1 then (fg_410_205 x0 h) else (if am_pOk 12 x0 h then am_cI true (fm_412 x0 x2 h) (fun v3 h4 => (if am_pOk 12 x0 h4 then am_cV true (fm_406 x0 v3 h4) (fun h8 => (fg_410_286 h8)) else none)) else none))
theorem rg_410_190 {X : am_X} {d : Nat} {lv : am_LV} (x0 : Value) (x2 : Int32) (s0 : Int32) (s1 : Int32) (h : am_H) (o : am_O) (l0 : lv.lookup 0 = some x0) (l2 : lv.lookup 2 = some (.int x2)) (i0 : am_isR x0 = true) (hs : fg_410_190 x0 x2 s0 s1 h = some o) : am_W X (d + 3) 410 190 lv [(.int s1), (.int s0)] h (fun q => q = o) := by
  unfold fg_410_190 at hs
  by_cases c1 : ¬ s0 = s1
  · rw [if_pos c1] at hs
    refine aw_icne_t at_410_190 c1 ?_
    exact rg_410_205 x0 h o l0 i0 hs
  · rw [if_neg c1] at hs
    refine aw_icne_f (pc1 := 193) at_410_190 c1 rfl ?_
    refine aw_vload_n (pc1 := 194) at_410_193 l0 i0 rfl ?_
    refine aw_vload_n (pc1 := 195) at_410_194 l0 i0 rfl ?_
    refine aw_iload_n (pc1 := 196) at_410_195 l2 rfl ?_
    obtain ⟨z2, hs1⟩ := am_ift hs
    clear hs
    refine aw_call (F := fm_412 x0 x2 h) (t := true) (na := 2) (kd := 1) (as := [x0, (.int x2)]) at_410_196 (am_k3v kb_412) mn_412 mk_412 rfl rfl (am_ok_v mi_412 (am_hl rfl (am_ccR i0 (am_ccI am_cats_0)) rfl) z2) (am_hc (am_ccR i0 am_cats_0) rfl) (fun _ => ⟨rfl, hh_410⟩) (fun o1 hz9 => rm_412 x0 x2 h o1 i0 hz9) ?_
    rcases am_cI_s hs1 with ⟨v3, h4, f5, hs2⟩ | hs2
    · clear hs1
      refine Or.inl ⟨_, _, f5, ?_⟩
      show am_W X _ 410 199 _ [(.int v3), x0] h4 _
      obtain ⟨z6, hs3⟩ := am_ift hs2
      clear hs2
      refine aw_call (F := fm_406 x0 v3 h4) (t := true) (na := 2) (kd := 1) (as := [x0, (.int v3)]) at_410_199 (am_k3v kb_406) mn_406 mk_406 rfl rfl (am_ok_v mi_406 (am_hl rfl (am_ccR i0 (am_ccI am_cats_0)) rfl) z6) (am_hc am_cats_0 rfl) (fun _ => ⟨rfl, hh_410⟩) (fun o1 hz9 => rm_406 x0 v3 h4 o1 i0 hz9) ?_
      rcases am_cV_s hs3 with ⟨h8, f9, hs4⟩ | hs4
      · clear hs3
        refine Or.inl ⟨_, _, f9, ?_⟩
        show am_W X _ 410 202 _ [] h8 _
        refine aw_goto at_410_202 ?_
        exact rg_410_286 h8 o   hs4
      · clear hs3
        exact Or.inr hs4
    · clear hs1
      exact Or.inr hs2
def fg_410_109 (s0 : Value) (s1 : Int32) (h : am_H) : Option am_O := (if am_pOk 12 s0 h then am_cV true (fm_409 s0 s1 h) (fun h3 => (fg_410_286 h3)) else none)
theorem rg_410_109 {X : am_X} {d : Nat} {lv : am_LV} (s0 : Value) (s1 : Int32) (h : am_H) (o : am_O) (j0 : am_isR s0 = true) (hs : fg_410_109 s0 s1 h = some o) : am_W X (d + 3) 410 109 lv [(.int s1), s0] h (fun q => q = o) := by
  unfold fg_410_109 at hs
  obtain ⟨z1, hs1⟩ := am_ift hs
  clear hs
  refine aw_call (F := fm_409 s0 s1 h) (t := true) (na := 2) (kd := 1) (as := [s0, (.int s1)]) at_410_109 (am_k3v kb_409) mn_409 mk_409 rfl rfl (am_ok_v mi_409 (am_hl rfl (am_ccR j0 (am_ccI am_cats_0)) rfl) z1) (am_hc am_cats_0 rfl) (fun _ => ⟨rfl, hh_410⟩) (fun o1 hz9 => rm_409 s0 s1 h o1 j0 hz9) ?_
  rcases am_cV_s hs1 with ⟨h3, f4, hs2⟩ | hs2
  · clear hs1
    refine Or.inl ⟨_, _, f4, ?_⟩
    show am_W X _ 410 112 _ [] h3 _
    refine aw_goto at_410_112 ?_
    exact rg_410_286 h3 o   hs2
  · clear hs1
    exact Or.inr hs2
def fg_410_65 (x0 : Value) (x1 : Int32) (x3 : Int32) (h : am_H) : Option am_O := (if ¬ x3 = 7 then (if ¬ x3 = 8 then ((am_vR (am_pG 3134 x0 h)).bind fun v3 => ((am_pA 0 v3 x1 h).bind fun v5 => (fg_410_109 x0 ((1 - v5)) h))) else ((am_vR (am_pG 3134 x0 h)).bind fun v7 => ((am_pA 0 v7 x1 h).bind fun v9 => (if am_pOk 12 x0 h then am_cI true (fm_411 x0 v9 h) (fun v12 h13 => (fg_410_109 x0 v12 h13)) else none)))) else ((am_vR (am_pG 3134 x0 h)).bind fun v15 => ((am_pA 0 v15 x1 h).bind fun v17 => (fg_410_109 x0 ((-v17)) h))))
theorem rg_410_65 {X : am_X} {d : Nat} {lv : am_LV} (x0 : Value) (x1 : Int32) (x3 : Int32) (h : am_H) (o : am_O) (l0 : lv.lookup 0 = some x0) (l1 : lv.lookup 1 = some (.int x1)) (l3 : lv.lookup 3 = some (.int x3)) (i0 : am_isR x0 = true) (hs : fg_410_65 x0 x1 x3 h = some o) : am_W X (d + 3) 410 65 lv [] h (fun q => q = o) := by
  unfold fg_410_65 at hs
  refine aw_vload_n (pc1 := 66) at_410_65 l0 i0 rfl ?_
  refine aw_iload_n (pc1 := 67) at_410_66 l3 rfl ?_
  refine aw_bipush (v := 7) (pc1 := 69) at_410_67 (by decide) rfl ?_
  by_cases c1 : ¬ x3 = 7
  · rw [if_pos c1] at hs
    refine aw_icne_t at_410_69 c1 ?_
    refine aw_iload_n (pc1 := 83) at_410_82 l3 rfl ?_
    refine aw_bipush (v := 8) (pc1 := 85) at_410_83 (by decide) rfl ?_
    by_cases c2 : ¬ x3 = 8
    · rw [if_pos c2] at hs
      refine aw_icne_t at_410_85 c2 ?_
      refine aw_iconst (v := 1) (pc1 := 102) at_410_101 (by decide) rfl ?_
      refine aw_vload_n (pc1 := 103) at_410_102 l0 i0 rfl ?_
      obtain ⟨v3, e4, hs1⟩ := am_bind hs
      clear hs
      refine aw_pG (pc1 := 106) at_410_103 (am_vR_s e4).1 rfl ?_
      refine aw_iload_n (pc1 := 107) at_410_106 l1 rfl ?_
      obtain ⟨v5, e6, hs2⟩ := am_bind hs1
      clear hs1
      refine aw_pA (pc1 := 108) at_410_107 (Or.inl ⟨rfl, rfl⟩) e6 rfl ?_
      refine aw_isub (v := (1 - v5)) (pc1 := 109) at_410_108 rfl rfl ?_
      exact rg_410_109 x0 ((1 - v5)) h o  i0 hs2
    · rw [if_neg c2] at hs
      refine aw_icne_f (pc1 := 88) at_410_85 c2 rfl ?_
      refine aw_vload_n (pc1 := 89) at_410_88 l0 i0 rfl ?_
      refine aw_vload_n (pc1 := 90) at_410_89 l0 i0 rfl ?_
      obtain ⟨v7, e8, hs3⟩ := am_bind hs
      clear hs
      refine aw_pG (pc1 := 93) at_410_90 (am_vR_s e8).1 rfl ?_
      refine aw_iload_n (pc1 := 94) at_410_93 l1 rfl ?_
      obtain ⟨v9, e10, hs4⟩ := am_bind hs3
      clear hs3
      refine aw_pA (pc1 := 95) at_410_94 (Or.inl ⟨rfl, rfl⟩) e10 rfl ?_
      obtain ⟨z11, hs5⟩ := am_ift hs4
      clear hs4
      refine aw_call (F := fm_411 x0 v9 h) (t := true) (na := 2) (kd := 1) (as := [x0, (.int v9)]) at_410_95 (am_k3v kb_411) mn_411 mk_411 rfl rfl (am_ok_v mi_411 (am_hl rfl (am_ccR i0 (am_ccI am_cats_0)) rfl) z11) (am_hc (am_ccR i0 am_cats_0) rfl) (fun _ => ⟨rfl, hh_410⟩) (fun o1 hz9 => rm_411 x0 v9 h o1 i0 hz9) ?_
      rcases am_cI_s hs5 with ⟨v12, h13, f14, hs6⟩ | hs6
      · clear hs5
        refine Or.inl ⟨_, _, f14, ?_⟩
        show am_W X _ 410 98 _ [(.int v12), x0] h13 _
        refine aw_goto at_410_98 ?_
        exact rg_410_109 x0 v12 h13 o  i0 hs6
      · clear hs5
        exact Or.inr hs6
  · rw [if_neg c1] at hs
    refine aw_icne_f (pc1 := 72) at_410_69 c1 rfl ?_
    refine aw_vload_n (pc1 := 73) at_410_72 l0 i0 rfl ?_
    obtain ⟨v15, e16, hs7⟩ := am_bind hs
    clear hs
    refine aw_pG (pc1 := 76) at_410_73 (am_vR_s e16).1 rfl ?_
    refine aw_iload_n (pc1 := 77) at_410_76 l1 rfl ?_
    obtain ⟨v17, e18, hs8⟩ := am_bind hs7
    clear hs7
    refine aw_pA (pc1 := 78) at_410_77 (Or.inl ⟨rfl, rfl⟩) e18 rfl ?_
    refine aw_ineg (v := (-v17)) (pc1 := 79) at_410_78 rfl rfl ?_
    refine aw_goto at_410_79 ?_
    exact rg_410_109 x0 ((-v17)) h o  i0 hs8
def fg_410_47 (x0 : Value) (x1 : Int32) (x2 : Int32) (x3 : Int32) (x4 : Int32) (h : am_H) : Option am_O := (if x3 = 7 then (fg_410_65 x0 x1 x3 h) else (if x3 = 8 then (fg_410_65 x0 x1 x3 h) else (if ¬ x3 = 9 then (if 17 ≤ x3 then (if 19 ≤ x3 then (if ¬ x3 = 19 then (if am_pOk 12 x0 h then am_cI true (fm_412 x0 x2 h) (fun v8 h9 => (if ¬ x4 = 1 then ((am_vI (am_pG 3138 x0 h9)).bind fun v12 => (if am_pOk 12 x0 h9 then am_cV true (fm_409 x0 v12 h9) (fun h16 => (fg_410_286 h16)) else none)) else ((am_vR (am_pG 3134 x0 h9)).bind fun v18 => ((am_pA 0 v18 x1 h9).bind fun v20 => (if ¬ v20 = 1 then ((am_vR (am_pG 3136 x0 h9)).bind fun v23 => ((am_pA 0 v23 v8 h9).bind fun v25 => (fg_410_272 x0 ((v8 + v25)) h9))) else (fg_410_272 x0 v8 h9)))))) else none) else (if am_pOk 12 x0 h then am_cV true (fm_414 x0 x1 x2 x4 h) (fun h29 => (fg_410_286 h29)) else none)) else (if ¬ x4 = 1 then (fg_410_205 x0 h) else ((am_vR (am_pG 3134 x0 h)).bind fun v32 => ((am_pA 0 v32 x1 h).bind fun v34 => (if ¬ x3 = 17 then (fg_410_190 x0 x2 v34 0 h) else (fg_410_190 x0 x2 v34 1 h)))))) else (if ¬ x4 = 1 then ((am_vR (am_pG 3134 x0 h)).bind fun v38 => ((am_pA 0 v38 x1 h).bind fun v40 => ((am_vI (am_pG 3138 x0 h)).bind fun v42 => (if am_pOk 12 x0 h then am_cI true (fm_413 x0 x3 v40 v42 h) (fun v45 h46 => (if am_pOk 12 x0 h46 then am_cV true (fm_409 x0 v45 h46) (fun h50 => (fg_410_286 h50)) else none)) else none)))) else (if am_pOk 12 x0 h then am_cI true (fm_412 x0 x2 h) (fun v53 h54 => (if am_pOk 12 x0 h54 then am_cV true (fm_406 x0 v53 h54) (fun h58 => (fg_410_286 h58)) else none)) else none))) else (fg_410_65 x0 x1 x3 h))))
theorem rg_410_47 {X : am_X} {d : Nat} {lv : am_LV} (x0 : Value) (x1 : Int32) (x2 : Int32) (x3 : Int32) (x4 : Int32) (h : am_H) (o : am_O) (l0 : lv.lookup 0 = some x0) (l1 : lv.lookup 1 = some (.int x1)) (l2 : lv.lookup 2 = some (.int x2)) (l3 : lv.lookup 3 = some (.int x3)) (l4 : lv.lookup 4 = some (.int x4)) (i0 : am_isR x0 = true) (hs : fg_410_47 x0 x1 x2 x3 x4 h = some o) : am_W X (d + 3) 410 47 lv [] h (fun q => q = o) := by
  unfold fg_410_47 at hs
  refine aw_iload_n (pc1 := 48) at_410_47 l3 rfl ?_
  refine aw_bipush (v := 7) (pc1 := 50) at_410_48 (by decide) rfl ?_
  by_cases c1 : x3 = 7
  · rw [if_pos c1] at hs
    refine aw_iceq_t at_410_50 c1 ?_
    exact rg_410_65 x0 x1 x3 h o l0 l1 l3 i0 hs
  · rw [if_neg c1] at hs
    refine aw_iceq_f (pc1 := 53) at_410_50 c1 rfl ?_
    refine aw_iload_n (pc1 := 54) at_410_53 l3 rfl ?_
    refine aw_bipush (v := 8) (pc1 := 56) at_410_54 (by decide) rfl ?_
    by_cases c2 : x3 = 8
    · rw [if_pos c2] at hs
      refine aw_iceq_t at_410_56 c2 ?_
      exact rg_410_65 x0 x1 x3 h o l0 l1 l3 i0 hs
    · rw [if_neg c2] at hs
      refine aw_iceq_f (pc1 := 59) at_410_56 c2 rfl ?_
      refine aw_iload_n (pc1 := 60) at_410_59 l3 rfl ?_
      refine aw_bipush (v := 9) (pc1 := 62) at_410_60 (by decide) rfl ?_
      by_cases c3 : ¬ x3 = 9
      · rw [if_pos c3] at hs
        refine aw_icne_t at_410_62 c3 ?_
        refine aw_iload_n (pc1 := 116) at_410_115 l3 rfl ?_
        refine aw_bipush (v := 17) (pc1 := 118) at_410_116 (by decide) rfl ?_
        by_cases c4 : 17 ≤ x3
        · rw [if_pos c4] at hs
          refine aw_icge_t at_410_118 c4 ?_
          refine aw_iload_n (pc1 := 162) at_410_161 l3 rfl ?_
          refine aw_bipush (v := 19) (pc1 := 164) at_410_162 (by decide) rfl ?_
          by_cases c5 : 19 ≤ x3
          · rw [if_pos c5] at hs
            refine aw_icge_t at_410_164 c5 ?_
            refine aw_iload_n (pc1 := 217) at_410_216 l3 rfl ?_
            refine aw_bipush (v := 19) (pc1 := 219) at_410_217 (by decide) rfl ?_
            by_cases c6 : ¬ x3 = 19
            · rw [if_pos c6] at hs
              refine aw_icne_t at_410_219 c6 ?_
              refine aw_vload_n (pc1 := 234) at_410_233 l0 i0 rfl ?_
              refine aw_iload_n (pc1 := 235) at_410_234 l2 rfl ?_
              obtain ⟨z7, hs1⟩ := am_ift hs
              clear hs
              refine aw_call (F := fm_412 x0 x2 h) (t := true) (na := 2) (kd := 1) (as := [x0, (.int x2)]) at_410_235 (am_k3v kb_412) mn_412 mk_412 rfl rfl (am_ok_v mi_412 (am_hl rfl (am_ccR i0 (am_ccI am_cats_0)) rfl) z7) (am_hc am_cats_0 rfl) (fun _ => ⟨rfl, hh_410⟩) (fun o1 hz9 => rm_412 x0 x2 h o1 i0 hz9) ?_
              rcases am_cI_s hs1 with ⟨v8, h9, f10, hs2⟩ | hs2
              · clear hs1
                refine Or.inl ⟨_, _, f10, ?_⟩
                show am_W X _ 410 238 _ [(.int v8)] h9 _
                refine aw_istore (lv1 := am_put1 _ 5 _) (pc1 := 240) at_410_238 rfl rfl ?_
                refine aw_iload (pc1 := 242) at_410_240 (am_lk1 l4 rfl rfl) rfl ?_
                refine aw_iconst (v := 1) (pc1 := 243) at_410_242 (by decide) rfl ?_
                by_cases c11 : ¬ x4 = 1
                · rw [if_pos c11] at hs2
                  refine aw_icne_t at_410_243 c11 ?_
                  refine aw_vload_n (pc1 := 279) at_410_278 (am_lk1 l0 rfl rfl) i0 rfl ?_
                  refine aw_vload_n (pc1 := 280) at_410_279 (am_lk1 l0 rfl rfl) i0 rfl ?_
                  obtain ⟨v12, e13, hs3⟩ := am_bind hs2
                  clear hs2
                  refine aw_pG (pc1 := 283) at_410_280 (am_vI_s e13) rfl ?_
                  obtain ⟨z14, hs4⟩ := am_ift hs3
                  clear hs3
                  refine aw_call (F := fm_409 x0 v12 h9) (t := true) (na := 2) (kd := 1) (as := [x0, (.int v12)]) at_410_283 (am_k3v kb_409) mn_409 mk_409 rfl rfl (am_ok_v mi_409 (am_hl rfl (am_ccR i0 (am_ccI am_cats_0)) rfl) z14) (am_hc am_cats_0 rfl) (fun _ => ⟨rfl, hh_410⟩) (fun o1 hz9 => rm_409 x0 v12 h9 o1 i0 hz9) ?_
                  rcases am_cV_s hs4 with ⟨h16, f17, hs5⟩ | hs5
                  · clear hs4
                    refine Or.inl ⟨_, _, f17, ?_⟩
                    show am_W X _ 410 286 _ [] h16 _
                    exact rg_410_286 h16 o   hs5
                  · clear hs4
                    exact Or.inr hs5
                · rw [if_neg c11] at hs2
                  refine aw_icne_f (pc1 := 246) at_410_243 c11 rfl ?_
                  refine aw_vload_n (pc1 := 247) at_410_246 (am_lk1 l0 rfl rfl) i0 rfl ?_
                  refine aw_vload_n (pc1 := 248) at_410_247 (am_lk1 l0 rfl rfl) i0 rfl ?_
                  obtain ⟨v18, e19, hs6⟩ := am_bind hs2
                  clear hs2
                  refine aw_pG (pc1 := 251) at_410_248 (am_vR_s e19).1 rfl ?_
                  refine aw_iload_n (pc1 := 252) at_410_251 (am_lk1 l1 rfl rfl) rfl ?_
                  obtain ⟨v20, e21, hs7⟩ := am_bind hs6
                  clear hs6
                  refine aw_pA (pc1 := 253) at_410_252 (Or.inl ⟨rfl, rfl⟩) e21 rfl ?_
                  refine aw_iconst (v := 1) (pc1 := 254) at_410_253 (by decide) rfl ?_
                  by_cases c22 : ¬ v20 = 1
                  · rw [if_pos c22] at hs7
                    refine aw_icne_t at_410_254 c22 ?_
                    refine aw_iload (pc1 := 264) at_410_262 am_lk0 rfl ?_
                    refine aw_vload_n (pc1 := 265) at_410_264 (am_lk1 l0 rfl rfl) i0 rfl ?_
                    obtain ⟨v23, e24, hs8⟩ := am_bind hs7
                    clear hs7
                    refine aw_pG (pc1 := 268) at_410_265 (am_vR_s e24).1 rfl ?_
                    refine aw_iload (pc1 := 270) at_410_268 am_lk0 rfl ?_
                    obtain ⟨v25, e26, hs9⟩ := am_bind hs8
                    clear hs8
                    refine aw_pA (pc1 := 271) at_410_270 (Or.inl ⟨rfl, rfl⟩) e26 rfl ?_
                    refine aw_iadd (v := (v8 + v25)) (pc1 := 272) at_410_271 rfl rfl ?_
                    exact rg_410_272 x0 ((v8 + v25)) h9 o  i0 hs9
                  · rw [if_neg c22] at hs7
                    refine aw_icne_f (pc1 := 257) at_410_254 c22 rfl ?_
                    refine aw_iload (pc1 := 259) at_410_257 am_lk0 rfl ?_
                    refine aw_goto at_410_259 ?_
                    exact rg_410_272 x0 v8 h9 o  i0 hs7
              · clear hs1
                exact Or.inr hs2
            · rw [if_neg c6] at hs
              refine aw_icne_f (pc1 := 222) at_410_219 c6 rfl ?_
              refine aw_vload_n (pc1 := 223) at_410_222 l0 i0 rfl ?_
              refine aw_iload_n (pc1 := 224) at_410_223 l1 rfl ?_
              refine aw_iload_n (pc1 := 225) at_410_224 l2 rfl ?_
              refine aw_iload (pc1 := 227) at_410_225 l4 rfl ?_
              obtain ⟨z27, hs10⟩ := am_ift hs
              clear hs
              refine aw_call (F := fm_414 x0 x1 x2 x4 h) (t := true) (na := 4) (kd := 1) (as := [x0, (.int x1), (.int x2), (.int x4)]) at_410_227 (am_k3v kb_414) mn_414 mk_414 rfl rfl (am_ok_v mi_414 (am_hl rfl (am_ccR i0 (am_ccI (am_ccI (am_ccI am_cats_0)))) rfl) z27) (am_hc am_cats_0 rfl) (fun _ => ⟨rfl, hh_410⟩) (fun o1 hz9 => rm_414 x0 x1 x2 x4 h o1 i0 hz9) ?_
              rcases am_cV_s hs10 with ⟨h29, f30, hs11⟩ | hs11
              · clear hs10
                refine Or.inl ⟨_, _, f30, ?_⟩
                show am_W X _ 410 230 _ [] h29 _
                refine aw_goto at_410_230 ?_
                exact rg_410_286 h29 o   hs11
              · clear hs10
                exact Or.inr hs11
          · rw [if_neg c5] at hs
            refine aw_icge_f (pc1 := 167) at_410_164 c5 rfl ?_
            refine aw_iload (pc1 := 169) at_410_167 l4 rfl ?_
            refine aw_iconst (v := 1) (pc1 := 170) at_410_169 (by decide) rfl ?_
            by_cases c31 : ¬ x4 = 1
            · rw [if_pos c31] at hs
              refine aw_icne_t at_410_170 c31 ?_
              exact rg_410_205 x0 h o l0 i0 hs
            · rw [if_neg c31] at hs
              refine aw_icne_f (pc1 := 173) at_410_170 c31 rfl ?_
              refine aw_vload_n (pc1 := 174) at_410_173 l0 i0 rfl ?_
              obtain ⟨v32, e33, hs12⟩ := am_bind hs
              clear hs
              refine aw_pG (pc1 := 177) at_410_174 (am_vR_s e33).1 rfl ?_
              refine aw_iload_n (pc1 := 178) at_410_177 l1 rfl ?_
              obtain ⟨v34, e35, hs13⟩ := am_bind hs12
              clear hs12
              refine aw_pA (pc1 := 179) at_410_178 (Or.inl ⟨rfl, rfl⟩) e35 rfl ?_
              refine aw_iload_n (pc1 := 180) at_410_179 l3 rfl ?_
              refine aw_bipush (v := 17) (pc1 := 182) at_410_180 (by decide) rfl ?_
              by_cases c36 : ¬ x3 = 17
              · rw [if_pos c36] at hs13
                refine aw_icne_t at_410_182 c36 ?_
                refine aw_iconst (v := 0) (pc1 := 190) at_410_189 (by decide) rfl ?_
                exact rg_410_190 x0 x2 v34 0 h o l0 l2 i0 hs13
              · rw [if_neg c36] at hs13
                refine aw_icne_f (pc1 := 185) at_410_182 c36 rfl ?_
                refine aw_iconst (v := 1) (pc1 := 186) at_410_185 (by decide) rfl ?_
                refine aw_goto at_410_186 ?_
                exact rg_410_190 x0 x2 v34 1 h o l0 l2 i0 hs13
        · rw [if_neg c4] at hs
          refine aw_icge_f (pc1 := 121) at_410_118 c4 rfl ?_
          refine aw_iload (pc1 := 123) at_410_121 l4 rfl ?_
          refine aw_iconst (v := 1) (pc1 := 124) at_410_123 (by decide) rfl ?_
          by_cases c37 : ¬ x4 = 1
          · rw [if_pos c37] at hs
            refine aw_icne_t at_410_124 c37 ?_
            refine aw_vload_n (pc1 := 140) at_410_139 l0 i0 rfl ?_
            refine aw_vload_n (pc1 := 141) at_410_140 l0 i0 rfl ?_
            refine aw_iload_n (pc1 := 142) at_410_141 l3 rfl ?_
            refine aw_vload_n (pc1 := 143) at_410_142 l0 i0 rfl ?_
            obtain ⟨v38, e39, hs14⟩ := am_bind hs
            clear hs
            refine aw_pG (pc1 := 146) at_410_143 (am_vR_s e39).1 rfl ?_
            refine aw_iload_n (pc1 := 147) at_410_146 l1 rfl ?_
            obtain ⟨v40, e41, hs15⟩ := am_bind hs14
            clear hs14
            refine aw_pA (pc1 := 148) at_410_147 (Or.inl ⟨rfl, rfl⟩) e41 rfl ?_
            refine aw_vload_n (pc1 := 149) at_410_148 l0 i0 rfl ?_
            obtain ⟨v42, e43, hs16⟩ := am_bind hs15
            clear hs15
            refine aw_pG (pc1 := 152) at_410_149 (am_vI_s e43) rfl ?_
            obtain ⟨z44, hs17⟩ := am_ift hs16
            clear hs16
            refine aw_call (F := fm_413 x0 x3 v40 v42 h) (t := true) (na := 4) (kd := 1) (as := [x0, (.int x3), (.int v40), (.int v42)]) at_410_152 (am_k3v kb_413) mn_413 mk_413 rfl rfl (am_ok_v mi_413 (am_hl rfl (am_ccR i0 (am_ccI (am_ccI (am_ccI am_cats_0)))) rfl) z44) (am_hc (am_ccR i0 am_cats_0) rfl) (fun _ => ⟨rfl, hh_410⟩) (fun o1 hz9 => rm_413 x0 x3 v40 v42 h o1 i0 hz9) ?_
            rcases am_cI_s hs17 with ⟨v45, h46, f47, hs18⟩ | hs18
            · clear hs17
              refine Or.inl ⟨_, _, f47, ?_⟩
              show am_W X _ 410 155 _ [(.int v45), x0] h46 _
              obtain ⟨z48, hs19⟩ := am_ift hs18
              clear hs18
              refine aw_call (F := fm_409 x0 v45 h46) (t := true) (na := 2) (kd := 1) (as := [x0, (.int v45)]) at_410_155 (am_k3v kb_409) mn_409 mk_409 rfl rfl (am_ok_v mi_409 (am_hl rfl (am_ccR i0 (am_ccI am_cats_0)) rfl) z48) (am_hc am_cats_0 rfl) (fun _ => ⟨rfl, hh_410⟩) (fun o1 hz9 => rm_409 x0 v45 h46 o1 i0 hz9) ?_
              rcases am_cV_s hs19 with ⟨h50, f51, hs20⟩ | hs20
              · clear hs19
                refine Or.inl ⟨_, _, f51, ?_⟩
                show am_W X _ 410 158 _ [] h50 _
                refine aw_goto at_410_158 ?_
                exact rg_410_286 h50 o   hs20
              · clear hs19
                exact Or.inr hs20
            · clear hs17
              exact Or.inr hs18
          · rw [if_neg c37] at hs
            refine aw_icne_f (pc1 := 127) at_410_124 c37 rfl ?_
            refine aw_vload_n (pc1 := 128) at_410_127 l0 i0 rfl ?_
            refine aw_vload_n (pc1 := 129) at_410_128 l0 i0 rfl ?_
            refine aw_iload_n (pc1 := 130) at_410_129 l2 rfl ?_
            obtain ⟨z52, hs21⟩ := am_ift hs
            clear hs
            refine aw_call (F := fm_412 x0 x2 h) (t := true) (na := 2) (kd := 1) (as := [x0, (.int x2)]) at_410_130 (am_k3v kb_412) mn_412 mk_412 rfl rfl (am_ok_v mi_412 (am_hl rfl (am_ccR i0 (am_ccI am_cats_0)) rfl) z52) (am_hc (am_ccR i0 am_cats_0) rfl) (fun _ => ⟨rfl, hh_410⟩) (fun o1 hz9 => rm_412 x0 x2 h o1 i0 hz9) ?_
            rcases am_cI_s hs21 with ⟨v53, h54, f55, hs22⟩ | hs22
            · clear hs21
              refine Or.inl ⟨_, _, f55, ?_⟩
              show am_W X _ 410 133 _ [(.int v53), x0] h54 _
              obtain ⟨z56, hs23⟩ := am_ift hs22
              clear hs22
              refine aw_call (F := fm_406 x0 v53 h54) (t := true) (na := 2) (kd := 1) (as := [x0, (.int v53)]) at_410_133 (am_k3v kb_406) mn_406 mk_406 rfl rfl (am_ok_v mi_406 (am_hl rfl (am_ccR i0 (am_ccI am_cats_0)) rfl) z56) (am_hc am_cats_0 rfl) (fun _ => ⟨rfl, hh_410⟩) (fun o1 hz9 => rm_406 x0 v53 h54 o1 i0 hz9) ?_
              rcases am_cV_s hs23 with ⟨h58, f59, hs24⟩ | hs24
              · clear hs23
                refine Or.inl ⟨_, _, f59, ?_⟩
                show am_W X _ 410 136 _ [] h58 _
                refine aw_goto at_410_136 ?_
                exact rg_410_286 h58 o   hs24
              · clear hs23
                exact Or.inr hs24
            · clear hs21
              exact Or.inr hs22
      · rw [if_neg c3] at hs
        refine aw_icne_f (pc1 := 65) at_410_62 c3 rfl ?_
        exact rg_410_65 x0 x1 x3 h o l0 l1 l3 i0 hs
def fg_410_0 (x0 : Value) (x1 : Int32) (x2 : Int32) (x3 : Int32) (h : am_H) : Option am_O := ((am_vR (am_pG 3133 x0 h)).bind fun v1 => ((am_pA 0 v1 x1 h).bind fun v3 => ((am_vR (am_pG 3133 x0 h)).bind fun v5 => ((am_pA 0 v5 x1 h).bind fun v7 => ((am_pS 0 v5 x1 (v7 + 1) h).bind fun h9 => (if ¬ v3 = 0 then (if ¬ v3 = 1 then (fg_410_47 x0 x1 x2 x3 v3 h9) else ((am_vR (am_pG 3134 x0 h9)).bind fun v13 => ((am_vI (am_pG 3138 x0 h9)).bind fun v15 => ((am_pS 0 v13 x1 v15 h9).bind fun h17 => (fg_410_47 x0 x1 x2 x3 v3 h17))))) else (if am_pOk 12 x0 h9 then am_cV true (fm_406 x0 ((x2 + 1)) h9) (fun h21 => some (.inl (none, h21))) else none)))))))
theorem rg_410_0 {X : am_X} {d : Nat} {lv : am_LV} (x0 : Value) (x1 : Int32) (x2 : Int32) (x3 : Int32) (h : am_H) (o : am_O) (l0 : lv.lookup 0 = some x0) (l1 : lv.lookup 1 = some (.int x1)) (l2 : lv.lookup 2 = some (.int x2)) (l3 : lv.lookup 3 = some (.int x3)) (i0 : am_isR x0 = true) (hs : fg_410_0 x0 x1 x2 x3 h = some o) : am_W X (d + 3) 410 0 lv [] h (fun q => q = o) := by
  unfold fg_410_0 at hs
  refine aw_vload_n (pc1 := 1) at_410_0 l0 i0 rfl ?_
  obtain ⟨v1, e2, hs1⟩ := am_bind hs
  clear hs
  refine aw_pG (pc1 := 4) at_410_1 (am_vR_s e2).1 rfl ?_
  refine aw_iload_n (pc1 := 5) at_410_4 l1 rfl ?_
  obtain ⟨v3, e4, hs2⟩ := am_bind hs1
  clear hs1
  refine aw_pA (pc1 := 6) at_410_5 (Or.inl ⟨rfl, rfl⟩) e4 rfl ?_
  refine aw_istore (lv1 := am_put1 _ 4 _) (pc1 := 8) at_410_6 rfl rfl ?_
  refine aw_vload_n (pc1 := 9) at_410_8 (am_lk1 l0 rfl rfl) i0 rfl ?_
  obtain ⟨v5, e6, hs3⟩ := am_bind hs2
  clear hs2
  refine aw_pG (pc1 := 12) at_410_9 (am_vR_s e6).1 rfl ?_
  refine aw_iload_n (pc1 := 13) at_410_12 (am_lk1 l1 rfl rfl) rfl ?_
  refine aw_vdup2 (pc1 := 14) at_410_13 (am_vR_s e6).2 rfl ?_
  obtain ⟨v7, e8, hs4⟩ := am_bind hs3
  clear hs3
  refine aw_pA (pc1 := 15) at_410_14 (Or.inl ⟨rfl, rfl⟩) e8 rfl ?_
  refine aw_iconst (v := 1) (pc1 := 16) at_410_15 (by decide) rfl ?_
  refine aw_iadd (v := (v7 + 1)) (pc1 := 17) at_410_16 rfl rfl ?_
  obtain ⟨h9, e10, hs5⟩ := am_bind hs4
  clear hs4
  refine aw_pS (pc1 := 18) at_410_17 (Or.inl ⟨rfl, rfl⟩) e10 rfl ?_
  refine aw_iload (pc1 := 20) at_410_18 am_lk0 rfl ?_
  by_cases c11 : ¬ v3 = 0
  · rw [if_pos c11] at hs5
    refine aw_ifne_t at_410_20 c11 ?_
    refine aw_iload (pc1 := 33) at_410_31 am_lk0 rfl ?_
    refine aw_iconst (v := 1) (pc1 := 34) at_410_33 (by decide) rfl ?_
    by_cases c12 : ¬ v3 = 1
    · rw [if_pos c12] at hs5
      refine aw_icne_t at_410_34 c12 ?_
      exact rg_410_47 x0 x1 x2 x3 v3 h9 o (am_lk1 l0 rfl rfl) (am_lk1 l1 rfl rfl) (am_lk1 l2 rfl rfl) (am_lk1 l3 rfl rfl) am_lk0 i0 hs5
    · rw [if_neg c12] at hs5
      refine aw_icne_f (pc1 := 37) at_410_34 c12 rfl ?_
      refine aw_vload_n (pc1 := 38) at_410_37 (am_lk1 l0 rfl rfl) i0 rfl ?_
      obtain ⟨v13, e14, hs6⟩ := am_bind hs5
      clear hs5
      refine aw_pG (pc1 := 41) at_410_38 (am_vR_s e14).1 rfl ?_
      refine aw_iload_n (pc1 := 42) at_410_41 (am_lk1 l1 rfl rfl) rfl ?_
      refine aw_vload_n (pc1 := 43) at_410_42 (am_lk1 l0 rfl rfl) i0 rfl ?_
      obtain ⟨v15, e16, hs7⟩ := am_bind hs6
      clear hs6
      refine aw_pG (pc1 := 46) at_410_43 (am_vI_s e16) rfl ?_
      obtain ⟨h17, e18, hs8⟩ := am_bind hs7
      clear hs7
      refine aw_pS (pc1 := 47) at_410_46 (Or.inl ⟨rfl, rfl⟩) e18 rfl ?_
      exact rg_410_47 x0 x1 x2 x3 v3 h17 o (am_lk1 l0 rfl rfl) (am_lk1 l1 rfl rfl) (am_lk1 l2 rfl rfl) (am_lk1 l3 rfl rfl) am_lk0 i0 hs8
  · rw [if_neg c11] at hs5
    refine aw_ifne_f (pc1 := 23) at_410_20 c11 rfl ?_
    refine aw_vload_n (pc1 := 24) at_410_23 (am_lk1 l0 rfl rfl) i0 rfl ?_
    refine aw_iload_n (pc1 := 25) at_410_24 (am_lk1 l2 rfl rfl) rfl ?_
    refine aw_iconst (v := 1) (pc1 := 26) at_410_25 (by decide) rfl ?_
    refine aw_iadd (v := (x2 + 1)) (pc1 := 27) at_410_26 rfl rfl ?_
    obtain ⟨z19, hs9⟩ := am_ift hs5
    clear hs5
    refine aw_call (F := fm_406 x0 ((x2 + 1)) h9) (t := true) (na := 2) (kd := 1) (as := [x0, (.int (x2 + 1))]) at_410_27 (am_k3v kb_406) mn_406 mk_406 rfl rfl (am_ok_v mi_406 (am_hl rfl (am_ccR i0 (am_ccI am_cats_0)) rfl) z19) (am_hc am_cats_0 rfl) (fun _ => ⟨rfl, hh_410⟩) (fun o1 hz9 => rm_406 x0 ((x2 + 1)) h9 o1 i0 hz9) ?_
    rcases am_cV_s hs9 with ⟨h21, f22, hs10⟩ | hs10
    · clear hs9
      refine Or.inl ⟨_, _, f22, ?_⟩
      show am_W X _ 410 30 _ [] h21 _
      cases hs10
      exact aw_vret at_410_30 rt_410 rfl
    · clear hs9
      exact Or.inr hs10
def fm_410 (y0 : Value) (y1 : Int32) (y2 : Int32) (y3 : Int32) (h : am_H) : Option am_O := fg_410_0 y0 y1 y2 y3 h
theorem rm_410 {X : am_X} {d : Nat} (y0 : Value) (y1 : Int32) (y2 : Int32) (y3 : Int32) (h : am_H) (o : am_O) (i0 : am_isR y0 = true) (hs : fm_410 y0 y1 y2 y3 h = some o) : am_W X (d + 3) 410 0 (am_args 0 [y0, .int y1, .int y2, .int y3]) [] h (fun q => q = o) := by
  rw [am_args_R i0, am_args_I, am_args_I, am_args_I]
  exact rg_410_0 y0 y1 y2 y3 h o rfl rfl rfl rfl i0 hs
def fg_404_84 (N : Nat) (x0 : Value) (h : am_H) : Option am_O := ((am_vI (am_pG 3138 x0 h)).bind fun v1 => ((am_pP 3121 x0 (.int v1) h).bind fun h3 => some (.inl (none, h3))))
theorem rg_404_84 {X : am_X} {d : Nat} {N : Nat} {lv : am_LV} (x0 : Value) (h : am_H) (o : am_O) (l0 : lv.lookup 0 = some x0) (i0 : am_isR x0 = true) (hs : fg_404_84 N x0 h = some o) : am_W X (d + 4) 404 84 lv [] h (fun q => q = o) := by
  unfold fg_404_84 at hs
  refine aw_vload_n (pc1 := 85) at_404_84 l0 i0 rfl ?_
  refine aw_vload_n (pc1 := 86) at_404_85 l0 i0 rfl ?_
  obtain ⟨v1, e2, hs1⟩ := am_bind hs
  clear hs
  refine aw_pG (pc1 := 89) at_404_86 (am_vI_s e2) rfl ?_
  obtain ⟨h3, e4, hs2⟩ := am_bind hs1
  clear hs1
  refine aw_pP (pc1 := 92) at_404_89 e4 rfl ?_
  cases hs2
  exact aw_vret at_404_92 rt_404 rfl
def fg_404_81 (N : Nat) (rec_14 : Value → am_H → Option am_O) (x0 : Value) (h : am_H) : Option am_O := (rec_14 x0 h)
theorem rg_404_81 {X : am_X} {d : Nat} {N : Nat} {rec_14 : Value → am_H → Option am_O} (q_14 : ∀ (x0 : Value) (h : am_H) (o : am_O), rec_14 x0 h = some o → ∀ lv : am_LV, (lv.lookup 0 = some x0) → (am_isR x0 = true) → am_W X (d + 4) 404 14 lv [] h (fun q => q = o)) {lv : am_LV} (x0 : Value) (h : am_H) (o : am_O) (l0 : lv.lookup 0 = some x0) (i0 : am_isR x0 = true) (hs : fg_404_81 N rec_14 x0 h = some o) : am_W X (d + 4) 404 81 lv [] h (fun q => q = o) := by
  unfold fg_404_81 at hs
  refine aw_goto at_404_81 ?_
  exact q_14 x0 h o hs _ l0 i0
def fg_404_14 (N : Nat) : Nat → Value → am_H → Option am_O
  | 0 => fun _ _ => none
  | K + 1 => fun x0 h => ((am_vI (am_pG 3137 x0 h)).bind fun v1 => (if v1 ≤ 0 then (fg_404_84 N x0 h) else ((am_vI (am_pG 3120 x0 h)).bind fun v4 => (if ¬ v4 = 0 then (fg_404_84 N x0 h) else ((am_vI (am_pG 3137 x0 h)).bind fun v7 => ((am_vR (am_pG 3132 x0 h)).bind fun v9 => ((am_pA 0 v9 (v7 - 1) h).bind fun v11 => ((am_vR (am_pG 3088 x0 h)).bind fun v13 => ((am_pA 0 v13 v11 h).bind fun v15 => am_cI false (fm_343 v15 h) (fun v17 h18 => (if ¬ v17 = 0 then (if am_pOk 12 x0 h18 then am_cV true (fm_410 x0 ((v7 - 1)) v11 v15 h18) (fun h23 => (fg_404_81 N (fg_404_14 N K) x0 h23)) else none) else ((am_vR (am_pG 3089 x0 h18)).bind fun v25 => ((am_pA 0 v25 v11 h18).bind fun v27 => (if am_pOk 12 x0 h18 then am_cI true (fm_408 x0 v15 v27 h18) (fun v30 h31 => (if am_pOk 12 x0 h31 then am_cV true (fm_409 x0 v30 h31) (fun h35 => (fg_404_81 N (fg_404_14 N K) x0 h35)) else none)) else none))))))))))))))
theorem rg_404_14 {X : am_X} {d : Nat} {N : Nat} : ∀ (K : Nat) (x0 : Value) (h : am_H) (o : am_O), fg_404_14 N K x0 h = some o → ∀ lv : am_LV, (lv.lookup 0 = some x0) → (am_isR x0 = true) → am_W X (d + 4) 404 14 lv [] h (fun q => q = o) := by
  intro K
  induction K with
  | zero => intro x0 h o hs; cases hs
  | succ K ih =>
    intro x0 h o hs lv l0 i0
    unfold fg_404_14 at hs
    refine aw_vload_n (pc1 := 15) at_404_14 l0 i0 rfl ?_
    obtain ⟨v1, e2, hs1⟩ := am_bind hs
    clear hs
    refine aw_pG (pc1 := 18) at_404_15 (am_vI_s e2) rfl ?_
    by_cases c3 : v1 ≤ 0
    · rw [if_pos c3] at hs1
      refine aw_ifle_t at_404_18 c3 ?_
      exact rg_404_84 x0 h o l0 i0 hs1
    · rw [if_neg c3] at hs1
      refine aw_ifle_f (pc1 := 21) at_404_18 c3 rfl ?_
      refine aw_vload_n (pc1 := 22) at_404_21 l0 i0 rfl ?_
      obtain ⟨v4, e5, hs2⟩ := am_bind hs1
      clear hs1
      refine aw_pG (pc1 := 25) at_404_22 (am_vI_s e5) rfl ?_
      by_cases c6 : ¬ v4 = 0
      · rw [if_pos c6] at hs2
        refine aw_ifne_t at_404_25 c6 ?_
        exact rg_404_84 x0 h o l0 i0 hs2
      · rw [if_neg c6] at hs2
        refine aw_ifne_f (pc1 := 28) at_404_25 c6 rfl ?_
        refine aw_vload_n (pc1 := 29) at_404_28 l0 i0 rfl ?_
        obtain ⟨v7, e8, hs3⟩ := am_bind hs2
        clear hs2
        refine aw_pG (pc1 := 32) at_404_29 (am_vI_s e8) rfl ?_
        refine aw_iconst (v := 1) (pc1 := 33) at_404_32 (by decide) rfl ?_
        refine aw_isub (v := (v7 - 1)) (pc1 := 34) at_404_33 rfl rfl ?_
        refine aw_istore_n (lv1 := am_put1 _ 1 _) (pc1 := 35) at_404_34 rfl rfl ?_
        refine aw_vload_n (pc1 := 36) at_404_35 (am_lk1 l0 rfl (by rw [am_isRc i0]; rfl)) i0 rfl ?_
        obtain ⟨v9, e10, hs4⟩ := am_bind hs3
        clear hs3
        refine aw_pG (pc1 := 39) at_404_36 (am_vR_s e10).1 rfl ?_
        refine aw_iload_n (pc1 := 40) at_404_39 am_lk0 rfl ?_
        obtain ⟨v11, e12, hs5⟩ := am_bind hs4
        clear hs4
        refine aw_pA (pc1 := 41) at_404_40 (Or.inl ⟨rfl, rfl⟩) e12 rfl ?_
        refine aw_istore_n (lv1 := am_put1 _ 2 _) (pc1 := 42) at_404_41 rfl rfl ?_
        refine aw_vload_n (pc1 := 43) at_404_42 (am_lk1 (am_lk1 l0 rfl (by rw [am_isRc i0]; rfl)) rfl rfl) i0 rfl ?_
        obtain ⟨v13, e14, hs6⟩ := am_bind hs5
        clear hs5
        refine aw_pG (pc1 := 46) at_404_43 (am_vR_s e14).1 rfl ?_
        refine aw_iload_n (pc1 := 47) at_404_46 am_lk0 rfl ?_
        obtain ⟨v15, e16, hs7⟩ := am_bind hs6
        clear hs6
        refine aw_pA (pc1 := 48) at_404_47 (Or.inl ⟨rfl, rfl⟩) e16 rfl ?_
        refine aw_istore_n (lv1 := am_put1 _ 3 _) (pc1 := 49) at_404_48 rfl rfl ?_
        refine aw_iload_n (pc1 := 50) at_404_49 am_lk0 rfl ?_
        refine aw_call (F := fm_343 v15 h) (t := false) (na := 1) (kd := 0) (as := [(.int v15)]) at_404_50 (am_k3s kb_343) mn_343 mk_343 rfl rfl (am_ok_s mi_343 (am_hl rfl (am_ccI am_cats_0) rfl)) (am_hc am_cats_0 rfl) (fun hz9 => by cases hz9) (fun o1 hz9 => rm_343 v15 h o1  hz9) ?_
        rcases am_cI_s hs7 with ⟨v17, h18, f19, hs8⟩ | hs8
        · clear hs7
          refine Or.inl ⟨_, _, f19, ?_⟩
          show am_W X _ 404 53 _ [(.int v17)] h18 _
          by_cases c20 : ¬ v17 = 0
          · rw [if_pos c20] at hs8
            refine aw_ifne_t at_404_53 c20 ?_
            refine aw_vload_n (pc1 := 75) at_404_74 (am_lk1 (am_lk1 (am_lk1 l0 rfl (by rw [am_isRc i0]; rfl)) rfl rfl) rfl rfl) i0 rfl ?_
            refine aw_iload_n (pc1 := 76) at_404_75 (am_lk1 (am_lk1 am_lk0 rfl rfl) rfl rfl) rfl ?_
            refine aw_iload_n (pc1 := 77) at_404_76 (am_lk1 am_lk0 rfl rfl) rfl ?_
            refine aw_iload_n (pc1 := 78) at_404_77 am_lk0 rfl ?_
            obtain ⟨z21, hs9⟩ := am_ift hs8
            clear hs8
            refine aw_call (F := fm_410 x0 ((v7 - 1)) v11 v15 h18) (t := true) (na := 4) (kd := 1) (as := [x0, (.int (v7 - 1)), (.int v11), (.int v15)]) at_404_78 (am_k3v kb_410) mn_410 mk_410 rfl rfl (am_ok_v mi_410 (am_hl rfl (am_ccR i0 (am_ccI (am_ccI (am_ccI am_cats_0)))) rfl) z21) (am_hc am_cats_0 rfl) (fun _ => ⟨rfl, hh_404⟩) (fun o1 hz9 => rm_410 x0 ((v7 - 1)) v11 v15 h18 o1 i0 hz9) ?_
            rcases am_cV_s hs9 with ⟨h23, f24, hs10⟩ | hs10
            · clear hs9
              refine Or.inl ⟨_, _, f24, ?_⟩
              show am_W X _ 404 81 _ [] h23 _
              exact rg_404_81 (fun z0 h o hs10 => ih z0 h o hs10) x0 h23 o (am_lk1 (am_lk1 (am_lk1 l0 rfl (by rw [am_isRc i0]; rfl)) rfl rfl) rfl rfl) i0 hs10
            · clear hs9
              exact Or.inr hs10
          · rw [if_neg c20] at hs8
            refine aw_ifne_f (pc1 := 56) at_404_53 c20 rfl ?_
            refine aw_vload_n (pc1 := 57) at_404_56 (am_lk1 (am_lk1 (am_lk1 l0 rfl (by rw [am_isRc i0]; rfl)) rfl rfl) rfl rfl) i0 rfl ?_
            refine aw_vload_n (pc1 := 58) at_404_57 (am_lk1 (am_lk1 (am_lk1 l0 rfl (by rw [am_isRc i0]; rfl)) rfl rfl) rfl rfl) i0 rfl ?_
            refine aw_iload_n (pc1 := 59) at_404_58 am_lk0 rfl ?_
            refine aw_vload_n (pc1 := 60) at_404_59 (am_lk1 (am_lk1 (am_lk1 l0 rfl (by rw [am_isRc i0]; rfl)) rfl rfl) rfl rfl) i0 rfl ?_
            obtain ⟨v25, e26, hs11⟩ := am_bind hs8
            clear hs8
            refine aw_pG (pc1 := 63) at_404_60 (am_vR_s e26).1 rfl ?_
            refine aw_iload_n (pc1 := 64) at_404_63 (am_lk1 am_lk0 rfl rfl) rfl ?_
            obtain ⟨v27, e28, hs12⟩ := am_bind hs11
            clear hs11
            refine aw_pA (pc1 := 65) at_404_64 (Or.inl ⟨rfl, rfl⟩) e28 rfl ?_
            obtain ⟨z29, hs13⟩ := am_ift hs12
            clear hs12
            refine aw_call (F := fm_408 x0 v15 v27 h18) (t := true) (na := 3) (kd := 1) (as := [x0, (.int v15), (.int v27)]) at_404_65 (am_k3v kb_408) mn_408 mk_408 rfl rfl (am_ok_v mi_408 (am_hl rfl (am_ccR i0 (am_ccI (am_ccI am_cats_0))) rfl) z29) (am_hc (am_ccR i0 am_cats_0) rfl) (fun _ => ⟨rfl, hh_404⟩) (fun o1 hz9 => rm_408 x0 v15 v27 h18 o1 i0 hz9) ?_
            rcases am_cI_s hs13 with ⟨v30, h31, f32, hs14⟩ | hs14
            · clear hs13
              refine Or.inl ⟨_, _, f32, ?_⟩
              show am_W X _ 404 68 _ [(.int v30), x0] h31 _
              obtain ⟨z33, hs15⟩ := am_ift hs14
              clear hs14
              refine aw_call (F := fm_409 x0 v30 h31) (t := true) (na := 2) (kd := 1) (as := [x0, (.int v30)]) at_404_68 (am_k3v kb_409) mn_409 mk_409 rfl rfl (am_ok_v mi_409 (am_hl rfl (am_ccR i0 (am_ccI am_cats_0)) rfl) z33) (am_hc am_cats_0 rfl) (fun _ => ⟨rfl, hh_404⟩) (fun o1 hz9 => rm_409 x0 v30 h31 o1 i0 hz9) ?_
              rcases am_cV_s hs15 with ⟨h35, f36, hs16⟩ | hs16
              · clear hs15
                refine Or.inl ⟨_, _, f36, ?_⟩
                show am_W X _ 404 71 _ [] h35 _
                refine aw_goto at_404_71 ?_
                exact rg_404_81 (fun z0 h o hs16 => ih z0 h o hs16) x0 h35 o (am_lk1 (am_lk1 (am_lk1 l0 rfl (by rw [am_isRc i0]; rfl)) rfl rfl) rfl rfl) i0 hs16
              · clear hs15
                exact Or.inr hs16
            · clear hs13
              exact Or.inr hs14
        · clear hs7
          exact Or.inr hs8
def fg_404_0 (N : Nat) (x0 : Value) (h : am_H) : Option am_O := (if am_pOk 12 x0 h then am_cV true (fm_405 N x0 h) (fun h3 => ((am_pP 3137 x0 (.int 0) h3).bind fun h5 => (if am_pOk 12 x0 h5 then am_cV true (fm_406 x0 0 h5) (fun h9 => (fg_404_14 N N x0 h9)) else none))) else none)
theorem rg_404_0 {X : am_X} {d : Nat} {N : Nat} {lv : am_LV} (x0 : Value) (h : am_H) (o : am_O) (l0 : lv.lookup 0 = some x0) (i0 : am_isR x0 = true) (hs : fg_404_0 N x0 h = some o) : am_W X (d + 4) 404 0 lv [] h (fun q => q = o) := by
  unfold fg_404_0 at hs
  refine aw_vload_n (pc1 := 1) at_404_0 l0 i0 rfl ?_
  obtain ⟨z1, hs1⟩ := am_ift hs
  clear hs
  refine aw_call (F := fm_405 N x0 h) (t := true) (na := 1) (kd := 1) (as := [x0]) at_404_1 (am_k3v kb_405) mn_405 mk_405 rfl rfl (am_ok_v mi_405 (am_hl rfl (am_ccR i0 am_cats_0) rfl) z1) (am_hc am_cats_0 rfl) (fun _ => ⟨rfl, hh_404⟩) (fun o1 hz9 => rm_405 x0 h o1 i0 hz9) ?_
  rcases am_cV_s hs1 with ⟨h3, f4, hs2⟩ | hs2
  · clear hs1
    refine Or.inl ⟨_, _, f4, ?_⟩
    show am_W X _ 404 4 _ [] h3 _
    refine aw_vload_n (pc1 := 5) at_404_4 l0 i0 rfl ?_
    refine aw_iconst (v := 0) (pc1 := 6) at_404_5 (by decide) rfl ?_
    obtain ⟨h5, e6, hs3⟩ := am_bind hs2
    clear hs2
    refine aw_pP (pc1 := 9) at_404_6 e6 rfl ?_
    refine aw_vload_n (pc1 := 10) at_404_9 l0 i0 rfl ?_
    refine aw_iconst (v := 0) (pc1 := 11) at_404_10 (by decide) rfl ?_
    obtain ⟨z7, hs4⟩ := am_ift hs3
    clear hs3
    refine aw_call (F := fm_406 x0 0 h5) (t := true) (na := 2) (kd := 1) (as := [x0, (.int 0)]) at_404_11 (am_k3v kb_406) mn_406 mk_406 rfl rfl (am_ok_v mi_406 (am_hl rfl (am_ccR i0 (am_ccI am_cats_0)) rfl) z7) (am_hc am_cats_0 rfl) (fun _ => ⟨rfl, hh_404⟩) (fun o1 hz9 => rm_406 x0 0 h5 o1 i0 hz9) ?_
    rcases am_cV_s hs4 with ⟨h9, f10, hs5⟩ | hs5
    · clear hs4
      refine Or.inl ⟨_, _, f10, ?_⟩
      show am_W X _ 404 14 _ [] h9 _
      exact rg_404_14 N x0 h9 o hs5 _ l0 i0
    · clear hs4
      exact Or.inr hs5
  · clear hs1
    exact Or.inr hs2
def fm_404 (N : Nat) (y0 : Value) (h : am_H) : Option am_O := fg_404_0 N y0 h
theorem rm_404 {X : am_X} {d : Nat} {N : Nat} (y0 : Value) (h : am_H) (o : am_O) (i0 : am_isR y0 = true) (hs : fm_404 N y0 h = some o) : am_W X (d + 4) 404 0 (am_args 0 [y0]) [] h (fun q => q = o) := by
  rw [am_args_R i0]
  exact rg_404_0 y0 h o rfl i0 hs
def fg_415_273 (N : Nat) (x0 : Value) (h : am_H) : Option am_O := ((am_vR (am_pG 3100 x0 h)).bind fun v1 => ((am_pA 0 v1 0 h).bind fun v3 => ((am_pP 3121 x0 (.int v3) h).bind fun h5 => some (.inl (none, h5)))))
theorem rg_415_273 {X : am_X} {d : Nat} {N : Nat} {lv : am_LV} (x0 : Value) (h : am_H) (o : am_O) (l0 : lv.lookup 0 = some x0) (i0 : am_isR x0 = true) (hs : fg_415_273 N x0 h = some o) : am_W X (d + 2) 415 273 lv [] h (fun q => q = o) := by
  unfold fg_415_273 at hs
  refine aw_vload_n (pc1 := 274) at_415_273 l0 i0 rfl ?_
  refine aw_vload_n (pc1 := 275) at_415_274 l0 i0 rfl ?_
  obtain ⟨v1, e2, hs1⟩ := am_bind hs
  clear hs
  refine aw_pG (pc1 := 278) at_415_275 (am_vR_s e2).1 rfl ?_
  refine aw_iconst (v := 0) (pc1 := 279) at_415_278 (by decide) rfl ?_
  obtain ⟨v3, e4, hs2⟩ := am_bind hs1
  clear hs1
  refine aw_pA (pc1 := 280) at_415_279 (Or.inl ⟨rfl, rfl⟩) e4 rfl ?_
  obtain ⟨h5, e6, hs3⟩ := am_bind hs2
  clear hs2
  refine aw_pP (pc1 := 283) at_415_280 e6 rfl ?_
  cases hs3
  exact aw_vret at_415_283 rt_415 rfl
def fg_415_269 (N : Nat) (rec_4 : Value → Int32 → Int32 → am_H → Option am_O) (x0 : Value) (x1 : Int32) (s0 : Int32) (h : am_H) : Option am_O := (rec_4 x0 x1 s0 h)
theorem rg_415_269 {X : am_X} {d : Nat} {N : Nat} {rec_4 : Value → Int32 → Int32 → am_H → Option am_O} (q_4 : ∀ (x0 : Value) (x1 : Int32) (x2 : Int32) (h : am_H) (o : am_O), rec_4 x0 x1 x2 h = some o → ∀ lv : am_LV, (lv.lookup 0 = some x0) → (lv.lookup 1 = some (.int x1)) → (lv.lookup 2 = some (.int x2)) → (am_isR x0 = true) → am_W X (d + 2) 415 4 lv [] h (fun q => q = o)) {lv : am_LV} (x0 : Value) (x1 : Int32) (s0 : Int32) (h : am_H) (o : am_O) (l0 : lv.lookup 0 = some x0) (l1 : lv.lookup 1 = some (.int x1)) (i0 : am_isR x0 = true) (hs : fg_415_269 N rec_4 x0 x1 s0 h = some o) : am_W X (d + 2) 415 269 lv [(.int s0)] h (fun q => q = o) := by
  unfold fg_415_269 at hs
  refine aw_istore_n (lv1 := am_put1 _ 2 _) (pc1 := 270) at_415_269 rfl rfl ?_
  refine aw_goto at_415_270 ?_
  exact q_4 x0 x1 s0 h o hs _ (am_lk1 l0 rfl rfl) (am_lk1 l1 rfl rfl) am_lk0 i0
def fg_415_241 (N : Nat) (rec_4 : Value → Int32 → Int32 → am_H → Option am_O) (x0 : Value) (x1 : Int32) (x3 : Int32) (x4 : Int32) (h : am_H) : Option am_O := am_cI false (fm_348 x3 h) (fun v1 h2 => am_cI false (fm_349 x3 h2) (fun v4 h5 => ((am_vI (am_pG 3120 x0 h5)).bind fun v7 => (if v7 ≤ 0 then (fg_415_269 N rec_4 x0 (((x1 - v1) + v4)) x4 h5) else ((am_vI (am_pG 3086 x0 h5)).bind fun v10 => (fg_415_269 N rec_4 x0 (((x1 - v1) + v4)) v10 h5))))))
theorem rg_415_241 {X : am_X} {d : Nat} {N : Nat} {rec_4 : Value → Int32 → Int32 → am_H → Option am_O} (q_4 : ∀ (x0 : Value) (x1 : Int32) (x2 : Int32) (h : am_H) (o : am_O), rec_4 x0 x1 x2 h = some o → ∀ lv : am_LV, (lv.lookup 0 = some x0) → (lv.lookup 1 = some (.int x1)) → (lv.lookup 2 = some (.int x2)) → (am_isR x0 = true) → am_W X (d + 2) 415 4 lv [] h (fun q => q = o)) {lv : am_LV} (x0 : Value) (x1 : Int32) (x3 : Int32) (x4 : Int32) (h : am_H) (o : am_O) (l0 : lv.lookup 0 = some x0) (l1 : lv.lookup 1 = some (.int x1)) (l3 : lv.lookup 3 = some (.int x3)) (l4 : lv.lookup 4 = some (.int x4)) (i0 : am_isR x0 = true) (hs : fg_415_241 N rec_4 x0 x1 x3 x4 h = some o) : am_W X (d + 2) 415 241 lv [] h (fun q => q = o) := by
  unfold fg_415_241 at hs
  refine aw_iload_n (pc1 := 242) at_415_241 l1 rfl ?_
  refine aw_iload_n (pc1 := 243) at_415_242 l3 rfl ?_
  refine aw_call (F := fm_348 x3 h) (t := false) (na := 1) (kd := 0) (as := [(.int x3)]) at_415_243 (am_k3s kb_348) mn_348 mk_348 rfl rfl (am_ok_s mi_348 (am_hl rfl (am_ccI am_cats_0) rfl)) (am_hc (am_ccI am_cats_0) rfl) (fun hz9 => by cases hz9) (fun o1 hz9 => rm_348 x3 h o1  hz9) ?_
  rcases am_cI_s hs with ⟨v1, h2, f3, hs1⟩ | hs1
  · clear hs
    refine Or.inl ⟨_, _, f3, ?_⟩
    show am_W X _ 415 246 _ [(.int v1), (.int x1)] h2 _
    refine aw_isub (v := (x1 - v1)) (pc1 := 247) at_415_246 rfl rfl ?_
    refine aw_iload_n (pc1 := 248) at_415_247 l3 rfl ?_
    refine aw_call (F := fm_349 x3 h2) (t := false) (na := 1) (kd := 0) (as := [(.int x3)]) at_415_248 (am_k3s kb_349) mn_349 mk_349 rfl rfl (am_ok_s mi_349 (am_hl rfl (am_ccI am_cats_0) rfl)) (am_hc (am_ccI am_cats_0) rfl) (fun hz9 => by cases hz9) (fun o1 hz9 => rm_349 x3 h2 o1  hz9) ?_
    rcases am_cI_s hs1 with ⟨v4, h5, f6, hs2⟩ | hs2
    · clear hs1
      refine Or.inl ⟨_, _, f6, ?_⟩
      show am_W X _ 415 251 _ [(.int v4), (.int (x1 - v1))] h5 _
      refine aw_iadd (v := ((x1 - v1) + v4)) (pc1 := 252) at_415_251 rfl rfl ?_
      refine aw_istore_n (lv1 := am_put1 _ 1 _) (pc1 := 253) at_415_252 rfl rfl ?_
      refine aw_vload_n (pc1 := 254) at_415_253 (am_lk1 l0 rfl (by rw [am_isRc i0]; rfl)) i0 rfl ?_
      obtain ⟨v7, e8, hs3⟩ := am_bind hs2
      clear hs2
      refine aw_pG (pc1 := 257) at_415_254 (am_vI_s e8) rfl ?_
      by_cases c9 : v7 ≤ 0
      · rw [if_pos c9] at hs3
        refine aw_ifle_t at_415_257 c9 ?_
        refine aw_iload (pc1 := 269) at_415_267 (am_lk1 l4 rfl rfl) rfl ?_
        exact rg_415_269 q_4 x0 (((x1 - v1) + v4)) x4 h5 o (am_lk1 l0 rfl (by rw [am_isRc i0]; rfl)) am_lk0 i0 hs3
      · rw [if_neg c9] at hs3
        refine aw_ifle_f (pc1 := 260) at_415_257 c9 rfl ?_
        refine aw_vload_n (pc1 := 261) at_415_260 (am_lk1 l0 rfl (by rw [am_isRc i0]; rfl)) i0 rfl ?_
        obtain ⟨v10, e11, hs4⟩ := am_bind hs3
        clear hs3
        refine aw_pG (pc1 := 264) at_415_261 (am_vI_s e11) rfl ?_
        refine aw_goto at_415_264 ?_
        exact rg_415_269 q_4 x0 (((x1 - v1) + v4)) v10 h5 o (am_lk1 l0 rfl (by rw [am_isRc i0]; rfl)) am_lk0 i0 hs4
    · clear hs1
      exact Or.inr hs2
  · clear hs
    exact Or.inr hs1
def fg_415_229 (N : Nat) (rec_4 : Value → Int32 → Int32 → am_H → Option am_O) (x0 : Value) (x1 : Int32) (x2 : Int32) (x3 : Int32) (h : am_H) : Option am_O := ((am_vR (am_pG 3089 x0 h)).bind fun v1 => ((am_pA 0 v1 x2 h).bind fun v3 => (fg_415_241 N rec_4 x0 x1 x3 (((x2 + 1) + v3)) h)))
theorem rg_415_229 {X : am_X} {d : Nat} {N : Nat} {rec_4 : Value → Int32 → Int32 → am_H → Option am_O} (q_4 : ∀ (x0 : Value) (x1 : Int32) (x2 : Int32) (h : am_H) (o : am_O), rec_4 x0 x1 x2 h = some o → ∀ lv : am_LV, (lv.lookup 0 = some x0) → (lv.lookup 1 = some (.int x1)) → (lv.lookup 2 = some (.int x2)) → (am_isR x0 = true) → am_W X (d + 2) 415 4 lv [] h (fun q => q = o)) {lv : am_LV} (x0 : Value) (x1 : Int32) (x2 : Int32) (x3 : Int32) (h : am_H) (o : am_O) (l0 : lv.lookup 0 = some x0) (l1 : lv.lookup 1 = some (.int x1)) (l2 : lv.lookup 2 = some (.int x2)) (l3 : lv.lookup 3 = some (.int x3)) (i0 : am_isR x0 = true) (hs : fg_415_229 N rec_4 x0 x1 x2 x3 h = some o) : am_W X (d + 2) 415 229 lv [] h (fun q => q = o) := by
  unfold fg_415_229 at hs
  refine aw_iload_n (pc1 := 230) at_415_229 l2 rfl ?_
  refine aw_iconst (v := 1) (pc1 := 231) at_415_230 (by decide) rfl ?_
  refine aw_iadd (v := (x2 + 1)) (pc1 := 232) at_415_231 rfl rfl ?_
  refine aw_vload_n (pc1 := 233) at_415_232 l0 i0 rfl ?_
  obtain ⟨v1, e2, hs1⟩ := am_bind hs
  clear hs
  refine aw_pG (pc1 := 236) at_415_233 (am_vR_s e2).1 rfl ?_
  refine aw_iload_n (pc1 := 237) at_415_236 l2 rfl ?_
  obtain ⟨v3, e4, hs2⟩ := am_bind hs1
  clear hs1
  refine aw_pA (pc1 := 238) at_415_237 (Or.inl ⟨rfl, rfl⟩) e4 rfl ?_
  refine aw_iadd (v := ((x2 + 1) + v3)) (pc1 := 239) at_415_238 rfl rfl ?_
  refine aw_istore (lv1 := am_put1 _ 4 _) (pc1 := 241) at_415_239 rfl rfl ?_
  exact rg_415_241 q_4 x0 x1 x3 (((x2 + 1) + v3)) h o (am_lk1 l0 rfl rfl) (am_lk1 l1 rfl rfl) (am_lk1 l3 rfl rfl) am_lk0 i0 hs2
def fg_415_206 (N : Nat) (rec_4 : Value → Int32 → Int32 → am_H → Option am_O) (x0 : Value) (x1 : Int32) (x2 : Int32) (x3 : Int32) (x4 : Int32) (h : am_H) : Option am_O := (if x3 = 17 then (fg_415_229 N rec_4 x0 x1 x2 x3 h) else (if ¬ x3 = 18 then (fg_415_241 N rec_4 x0 x1 x3 x4 h) else ((am_vR (am_pG 3100 x0 h)).bind fun v3 => ((am_pA 0 v3 (x1 - 1) h).bind fun v5 => (if ¬ v5 = 0 then (fg_415_241 N rec_4 x0 x1 x3 x4 h) else (fg_415_229 N rec_4 x0 x1 x2 x3 h))))))
theorem rg_415_206 {X : am_X} {d : Nat} {N : Nat} {rec_4 : Value → Int32 → Int32 → am_H → Option am_O} (q_4 : ∀ (x0 : Value) (x1 : Int32) (x2 : Int32) (h : am_H) (o : am_O), rec_4 x0 x1 x2 h = some o → ∀ lv : am_LV, (lv.lookup 0 = some x0) → (lv.lookup 1 = some (.int x1)) → (lv.lookup 2 = some (.int x2)) → (am_isR x0 = true) → am_W X (d + 2) 415 4 lv [] h (fun q => q = o)) {lv : am_LV} (x0 : Value) (x1 : Int32) (x2 : Int32) (x3 : Int32) (x4 : Int32) (h : am_H) (o : am_O) (l0 : lv.lookup 0 = some x0) (l1 : lv.lookup 1 = some (.int x1)) (l2 : lv.lookup 2 = some (.int x2)) (l3 : lv.lookup 3 = some (.int x3)) (l4 : lv.lookup 4 = some (.int x4)) (i0 : am_isR x0 = true) (hs : fg_415_206 N rec_4 x0 x1 x2 x3 x4 h = some o) : am_W X (d + 2) 415 206 lv [] h (fun q => q = o) := by
  unfold fg_415_206 at hs
  refine aw_iload_n (pc1 := 207) at_415_206 l3 rfl ?_
  refine aw_bipush (v := 17) (pc1 := 209) at_415_207 (by decide) rfl ?_
  by_cases c1 : x3 = 17
  · rw [if_pos c1] at hs
    refine aw_iceq_t at_415_209 c1 ?_
    exact rg_415_229 q_4 x0 x1 x2 x3 h o l0 l1 l2 l3 i0 hs
  · rw [if_neg c1] at hs
    refine aw_iceq_f (pc1 := 212) at_415_209 c1 rfl ?_
    refine aw_iload_n (pc1 := 213) at_415_212 l3 rfl ?_
    refine aw_bipush (v := 18) (pc1 := 215) at_415_213 (by decide) rfl ?_
    by_cases c2 : ¬ x3 = 18
    · rw [if_pos c2] at hs
      refine aw_icne_t at_415_215 c2 ?_
      exact rg_415_241 q_4 x0 x1 x3 x4 h o l0 l1 l3 l4 i0 hs
    · rw [if_neg c2] at hs
      refine aw_icne_f (pc1 := 218) at_415_215 c2 rfl ?_
      refine aw_vload_n (pc1 := 219) at_415_218 l0 i0 rfl ?_
      obtain ⟨v3, e4, hs1⟩ := am_bind hs
      clear hs
      refine aw_pG (pc1 := 222) at_415_219 (am_vR_s e4).1 rfl ?_
      refine aw_iload_n (pc1 := 223) at_415_222 l1 rfl ?_
      refine aw_iconst (v := 1) (pc1 := 224) at_415_223 (by decide) rfl ?_
      refine aw_isub (v := (x1 - 1)) (pc1 := 225) at_415_224 rfl rfl ?_
      obtain ⟨v5, e6, hs2⟩ := am_bind hs1
      clear hs1
      refine aw_pA (pc1 := 226) at_415_225 (Or.inl ⟨rfl, rfl⟩) e6 rfl ?_
      by_cases c7 : ¬ v5 = 0
      · rw [if_pos c7] at hs2
        refine aw_ifne_t at_415_226 c7 ?_
        exact rg_415_241 q_4 x0 x1 x3 x4 h o l0 l1 l3 l4 i0 hs2
      · rw [if_neg c7] at hs2
        refine aw_ifne_f (pc1 := 229) at_415_226 c7 rfl ?_
        exact rg_415_229 q_4 x0 x1 x2 x3 h o l0 l1 l2 l3 i0 hs2
def fg_415_164 (N : Nat) (rec_4 : Value → Int32 → Int32 → am_H → Option am_O) (x0 : Value) (x1 : Int32) (x2 : Int32) (x3 : Int32) (x4 : Int32) (h : am_H) : Option am_O := (if ¬ x3 = 15 then (fg_415_206 N rec_4 x0 x1 x2 x3 x4 h) else ((am_vR (am_pG 3100 x0 h)).bind fun v2 => ((am_pA 0 v2 (x1 - 1) h).bind fun v4 => ((am_vR (am_pG 3100 x0 h)).bind fun v6 => ((am_vR (am_pG 3100 x0 h)).bind fun v8 => ((am_pA 0 v8 (x1 - 2) h).bind fun v10 => ((am_pS 0 v6 (x1 - 1) v10 h).bind fun h12 => ((am_vR (am_pG 3100 x0 h12)).bind fun v14 => ((am_pS 0 v14 (x1 - 2) v4 h12).bind fun h16 => (fg_415_206 N rec_4 x0 x1 x2 x3 x4 h16))))))))))
theorem rg_415_164 {X : am_X} {d : Nat} {N : Nat} {rec_4 : Value → Int32 → Int32 → am_H → Option am_O} (q_4 : ∀ (x0 : Value) (x1 : Int32) (x2 : Int32) (h : am_H) (o : am_O), rec_4 x0 x1 x2 h = some o → ∀ lv : am_LV, (lv.lookup 0 = some x0) → (lv.lookup 1 = some (.int x1)) → (lv.lookup 2 = some (.int x2)) → (am_isR x0 = true) → am_W X (d + 2) 415 4 lv [] h (fun q => q = o)) {lv : am_LV} (x0 : Value) (x1 : Int32) (x2 : Int32) (x3 : Int32) (x4 : Int32) (h : am_H) (o : am_O) (l0 : lv.lookup 0 = some x0) (l1 : lv.lookup 1 = some (.int x1)) (l2 : lv.lookup 2 = some (.int x2)) (l3 : lv.lookup 3 = some (.int x3)) (l4 : lv.lookup 4 = some (.int x4)) (i0 : am_isR x0 = true) (hs : fg_415_164 N rec_4 x0 x1 x2 x3 x4 h = some o) : am_W X (d + 2) 415 164 lv [] h (fun q => q = o) := by
  unfold fg_415_164 at hs
  refine aw_iload_n (pc1 := 165) at_415_164 l3 rfl ?_
  refine aw_bipush (v := 15) (pc1 := 167) at_415_165 (by decide) rfl ?_
  by_cases c1 : ¬ x3 = 15
  · rw [if_pos c1] at hs
    refine aw_icne_t at_415_167 c1 ?_
    exact rg_415_206 q_4 x0 x1 x2 x3 x4 h o l0 l1 l2 l3 l4 i0 hs
  · rw [if_neg c1] at hs
    refine aw_icne_f (pc1 := 170) at_415_167 c1 rfl ?_
    refine aw_vload_n (pc1 := 171) at_415_170 l0 i0 rfl ?_
    obtain ⟨v2, e3, hs1⟩ := am_bind hs
    clear hs
    refine aw_pG (pc1 := 174) at_415_171 (am_vR_s e3).1 rfl ?_
    refine aw_iload_n (pc1 := 175) at_415_174 l1 rfl ?_
    refine aw_iconst (v := 1) (pc1 := 176) at_415_175 (by decide) rfl ?_
    refine aw_isub (v := (x1 - 1)) (pc1 := 177) at_415_176 rfl rfl ?_
    obtain ⟨v4, e5, hs2⟩ := am_bind hs1
    clear hs1
    refine aw_pA (pc1 := 178) at_415_177 (Or.inl ⟨rfl, rfl⟩) e5 rfl ?_
    refine aw_istore (lv1 := am_put1 _ 5 _) (pc1 := 180) at_415_178 rfl rfl ?_
    refine aw_vload_n (pc1 := 181) at_415_180 (am_lk1 l0 rfl rfl) i0 rfl ?_
    obtain ⟨v6, e7, hs3⟩ := am_bind hs2
    clear hs2
    refine aw_pG (pc1 := 184) at_415_181 (am_vR_s e7).1 rfl ?_
    refine aw_iload_n (pc1 := 185) at_415_184 (am_lk1 l1 rfl rfl) rfl ?_
    refine aw_iconst (v := 1) (pc1 := 186) at_415_185 (by decide) rfl ?_
    refine aw_isub (v := (x1 - 1)) (pc1 := 187) at_415_186 rfl rfl ?_
    refine aw_vload_n (pc1 := 188) at_415_187 (am_lk1 l0 rfl rfl) i0 rfl ?_
    obtain ⟨v8, e9, hs4⟩ := am_bind hs3
    clear hs3
    refine aw_pG (pc1 := 191) at_415_188 (am_vR_s e9).1 rfl ?_
    refine aw_iload_n (pc1 := 192) at_415_191 (am_lk1 l1 rfl rfl) rfl ?_
    refine aw_iconst (v := 2) (pc1 := 193) at_415_192 (by decide) rfl ?_
    refine aw_isub (v := (x1 - 2)) (pc1 := 194) at_415_193 rfl rfl ?_
    obtain ⟨v10, e11, hs5⟩ := am_bind hs4
    clear hs4
    refine aw_pA (pc1 := 195) at_415_194 (Or.inl ⟨rfl, rfl⟩) e11 rfl ?_
    obtain ⟨h12, e13, hs6⟩ := am_bind hs5
    clear hs5
    refine aw_pS (pc1 := 196) at_415_195 (Or.inl ⟨rfl, rfl⟩) e13 rfl ?_
    refine aw_vload_n (pc1 := 197) at_415_196 (am_lk1 l0 rfl rfl) i0 rfl ?_
    obtain ⟨v14, e15, hs7⟩ := am_bind hs6
    clear hs6
    refine aw_pG (pc1 := 200) at_415_197 (am_vR_s e15).1 rfl ?_
    refine aw_iload_n (pc1 := 201) at_415_200 (am_lk1 l1 rfl rfl) rfl ?_
    refine aw_iconst (v := 2) (pc1 := 202) at_415_201 (by decide) rfl ?_
    refine aw_isub (v := (x1 - 2)) (pc1 := 203) at_415_202 rfl rfl ?_
    refine aw_iload (pc1 := 205) at_415_203 am_lk0 rfl ?_
    obtain ⟨h16, e17, hs8⟩ := am_bind hs7
    clear hs7
    refine aw_pS (pc1 := 206) at_415_205 (Or.inl ⟨rfl, rfl⟩) e17 rfl ?_
    exact rg_415_206 q_4 x0 x1 x2 x3 x4 h16 o (am_lk1 l0 rfl rfl) (am_lk1 l1 rfl rfl) (am_lk1 l2 rfl rfl) (am_lk1 l3 rfl rfl) (am_lk1 l4 rfl rfl) i0 hs8
def fg_415_144 (N : Nat) (rec_4 : Value → Int32 → Int32 → am_H → Option am_O) (x0 : Value) (x1 : Int32) (x2 : Int32) (x3 : Int32) (x4 : Int32) (h : am_H) : Option am_O := (if ¬ x3 = 14 then (fg_415_164 N rec_4 x0 x1 x2 x3 x4 h) else ((am_vR (am_pG 3100 x0 h)).bind fun v2 => ((am_vR (am_pG 3100 x0 h)).bind fun v4 => ((am_pA 0 v4 (x1 - 1) h).bind fun v6 => ((am_pS 0 v2 x1 v6 h).bind fun h8 => (fg_415_164 N rec_4 x0 x1 x2 x3 x4 h8))))))
theorem rg_415_144 {X : am_X} {d : Nat} {N : Nat} {rec_4 : Value → Int32 → Int32 → am_H → Option am_O} (q_4 : ∀ (x0 : Value) (x1 : Int32) (x2 : Int32) (h : am_H) (o : am_O), rec_4 x0 x1 x2 h = some o → ∀ lv : am_LV, (lv.lookup 0 = some x0) → (lv.lookup 1 = some (.int x1)) → (lv.lookup 2 = some (.int x2)) → (am_isR x0 = true) → am_W X (d + 2) 415 4 lv [] h (fun q => q = o)) {lv : am_LV} (x0 : Value) (x1 : Int32) (x2 : Int32) (x3 : Int32) (x4 : Int32) (h : am_H) (o : am_O) (l0 : lv.lookup 0 = some x0) (l1 : lv.lookup 1 = some (.int x1)) (l2 : lv.lookup 2 = some (.int x2)) (l3 : lv.lookup 3 = some (.int x3)) (l4 : lv.lookup 4 = some (.int x4)) (i0 : am_isR x0 = true) (hs : fg_415_144 N rec_4 x0 x1 x2 x3 x4 h = some o) : am_W X (d + 2) 415 144 lv [] h (fun q => q = o) := by
  unfold fg_415_144 at hs
  refine aw_iload_n (pc1 := 145) at_415_144 l3 rfl ?_
  refine aw_bipush (v := 14) (pc1 := 147) at_415_145 (by decide) rfl ?_
  by_cases c1 : ¬ x3 = 14
  · rw [if_pos c1] at hs
    refine aw_icne_t at_415_147 c1 ?_
    exact rg_415_164 q_4 x0 x1 x2 x3 x4 h o l0 l1 l2 l3 l4 i0 hs
  · rw [if_neg c1] at hs
    refine aw_icne_f (pc1 := 150) at_415_147 c1 rfl ?_
    refine aw_vload_n (pc1 := 151) at_415_150 l0 i0 rfl ?_
    obtain ⟨v2, e3, hs1⟩ := am_bind hs
    clear hs
    refine aw_pG (pc1 := 154) at_415_151 (am_vR_s e3).1 rfl ?_
    refine aw_iload_n (pc1 := 155) at_415_154 l1 rfl ?_
    refine aw_vload_n (pc1 := 156) at_415_155 l0 i0 rfl ?_
    obtain ⟨v4, e5, hs2⟩ := am_bind hs1
    clear hs1
    refine aw_pG (pc1 := 159) at_415_156 (am_vR_s e5).1 rfl ?_
    refine aw_iload_n (pc1 := 160) at_415_159 l1 rfl ?_
    refine aw_iconst (v := 1) (pc1 := 161) at_415_160 (by decide) rfl ?_
    refine aw_isub (v := (x1 - 1)) (pc1 := 162) at_415_161 rfl rfl ?_
    obtain ⟨v6, e7, hs3⟩ := am_bind hs2
    clear hs2
    refine aw_pA (pc1 := 163) at_415_162 (Or.inl ⟨rfl, rfl⟩) e7 rfl ?_
    obtain ⟨h8, e9, hs4⟩ := am_bind hs3
    clear hs3
    refine aw_pS (pc1 := 164) at_415_163 (Or.inl ⟨rfl, rfl⟩) e9 rfl ?_
    exact rg_415_164 q_4 x0 x1 x2 x3 x4 h8 o l0 l1 l2 l3 l4 i0 hs4
def fg_415_101 (N : Nat) (rec_4 : Value → Int32 → Int32 → am_H → Option am_O) (x0 : Value) (x1 : Int32) (x2 : Int32) (x3 : Int32) (x4 : Int32) (h : am_H) : Option am_O := (if x3 ≤ 6 then (fg_415_144 N rec_4 x0 x1 x2 x3 x4 h) else (if 14 ≤ x3 then (fg_415_144 N rec_4 x0 x1 x2 x3 x4 h) else ((am_vR (am_pG 3100 x0 h)).bind fun v3 => ((am_vR (am_pG 3100 x0 h)).bind fun v5 => ((am_pA 0 v5 (x1 - 2) h).bind fun v7 => ((am_vR (am_pG 3100 x0 h)).bind fun v9 => ((am_pA 0 v9 (x1 - 1) h).bind fun v11 => (if am_pOk 12 x0 h then am_cI true (fm_413 x0 ((x3 + 3)) v7 v11 h) (fun v14 h15 => ((am_pS 0 v3 (x1 - 2) v14 h15).bind fun h17 => (fg_415_144 N rec_4 x0 x1 x2 x3 x4 h17))) else none))))))))
theorem rg_415_101 {X : am_X} {d : Nat} {N : Nat} {rec_4 : Value → Int32 → Int32 → am_H → Option am_O} (q_4 : ∀ (x0 : Value) (x1 : Int32) (x2 : Int32) (h : am_H) (o : am_O), rec_4 x0 x1 x2 h = some o → ∀ lv : am_LV, (lv.lookup 0 = some x0) → (lv.lookup 1 = some (.int x1)) → (lv.lookup 2 = some (.int x2)) → (am_isR x0 = true) → am_W X (d + 2) 415 4 lv [] h (fun q => q = o)) {lv : am_LV} (x0 : Value) (x1 : Int32) (x2 : Int32) (x3 : Int32) (x4 : Int32) (h : am_H) (o : am_O) (l0 : lv.lookup 0 = some x0) (l1 : lv.lookup 1 = some (.int x1)) (l2 : lv.lookup 2 = some (.int x2)) (l3 : lv.lookup 3 = some (.int x3)) (l4 : lv.lookup 4 = some (.int x4)) (i0 : am_isR x0 = true) (hs : fg_415_101 N rec_4 x0 x1 x2 x3 x4 h = some o) : am_W X (d + 2) 415 101 lv [] h (fun q => q = o) := by
  unfold fg_415_101 at hs
  refine aw_iload_n (pc1 := 102) at_415_101 l3 rfl ?_
  refine aw_bipush (v := 6) (pc1 := 104) at_415_102 (by decide) rfl ?_
  by_cases c1 : x3 ≤ 6
  · rw [if_pos c1] at hs
    refine aw_icle_t at_415_104 c1 ?_
    exact rg_415_144 q_4 x0 x1 x2 x3 x4 h o l0 l1 l2 l3 l4 i0 hs
  · rw [if_neg c1] at hs
    refine aw_icle_f (pc1 := 107) at_415_104 c1 rfl ?_
    refine aw_iload_n (pc1 := 108) at_415_107 l3 rfl ?_
    refine aw_bipush (v := 14) (pc1 := 110) at_415_108 (by decide) rfl ?_
    by_cases c2 : 14 ≤ x3
    · rw [if_pos c2] at hs
      refine aw_icge_t at_415_110 c2 ?_
      exact rg_415_144 q_4 x0 x1 x2 x3 x4 h o l0 l1 l2 l3 l4 i0 hs
    · rw [if_neg c2] at hs
      refine aw_icge_f (pc1 := 113) at_415_110 c2 rfl ?_
      refine aw_vload_n (pc1 := 114) at_415_113 l0 i0 rfl ?_
      obtain ⟨v3, e4, hs1⟩ := am_bind hs
      clear hs
      refine aw_pG (pc1 := 117) at_415_114 (am_vR_s e4).1 rfl ?_
      refine aw_iload_n (pc1 := 118) at_415_117 l1 rfl ?_
      refine aw_iconst (v := 2) (pc1 := 119) at_415_118 (by decide) rfl ?_
      refine aw_isub (v := (x1 - 2)) (pc1 := 120) at_415_119 rfl rfl ?_
      refine aw_vload_n (pc1 := 121) at_415_120 l0 i0 rfl ?_
      refine aw_iload_n (pc1 := 122) at_415_121 l3 rfl ?_
      refine aw_iconst (v := 3) (pc1 := 123) at_415_122 (by decide) rfl ?_
      refine aw_iadd (v := (x3 + 3)) (pc1 := 124) at_415_123 rfl rfl ?_
      refine aw_vload_n (pc1 := 125) at_415_124 l0 i0 rfl ?_
      obtain ⟨v5, e6, hs2⟩ := am_bind hs1
      clear hs1
      refine aw_pG (pc1 := 128) at_415_125 (am_vR_s e6).1 rfl ?_
      refine aw_iload_n (pc1 := 129) at_415_128 l1 rfl ?_
      refine aw_iconst (v := 2) (pc1 := 130) at_415_129 (by decide) rfl ?_
      refine aw_isub (v := (x1 - 2)) (pc1 := 131) at_415_130 rfl rfl ?_
      obtain ⟨v7, e8, hs3⟩ := am_bind hs2
      clear hs2
      refine aw_pA (pc1 := 132) at_415_131 (Or.inl ⟨rfl, rfl⟩) e8 rfl ?_
      refine aw_vload_n (pc1 := 133) at_415_132 l0 i0 rfl ?_
      obtain ⟨v9, e10, hs4⟩ := am_bind hs3
      clear hs3
      refine aw_pG (pc1 := 136) at_415_133 (am_vR_s e10).1 rfl ?_
      refine aw_iload_n (pc1 := 137) at_415_136 l1 rfl ?_
      refine aw_iconst (v := 1) (pc1 := 138) at_415_137 (by decide) rfl ?_
      refine aw_isub (v := (x1 - 1)) (pc1 := 139) at_415_138 rfl rfl ?_
      obtain ⟨v11, e12, hs5⟩ := am_bind hs4
      clear hs4
      refine aw_pA (pc1 := 140) at_415_139 (Or.inl ⟨rfl, rfl⟩) e12 rfl ?_
      obtain ⟨z13, hs6⟩ := am_ift hs5
      clear hs5
      refine aw_call (F := fm_413 x0 ((x3 + 3)) v7 v11 h) (t := true) (na := 4) (kd := 1) (as := [x0, (.int (x3 + 3)), (.int v7), (.int v11)]) at_415_140 (am_k3v kb_413) mn_413 mk_413 rfl rfl (am_ok_v mi_413 (am_hl rfl (am_ccR i0 (am_ccI (am_ccI (am_ccI am_cats_0)))) rfl) z13) (am_hc (am_ccI (am_ccR (am_vR_s e4).2 am_cats_0)) rfl) (fun _ => ⟨rfl, hh_415⟩) (fun o1 hz9 => rm_413 x0 ((x3 + 3)) v7 v11 h o1 i0 hz9) ?_
      rcases am_cI_s hs6 with ⟨v14, h15, f16, hs7⟩ | hs7
      · clear hs6
        refine Or.inl ⟨_, _, f16, ?_⟩
        show am_W X _ 415 143 _ [(.int v14), (.int (x1 - 2)), v3] h15 _
        obtain ⟨h17, e18, hs8⟩ := am_bind hs7
        clear hs7
        refine aw_pS (pc1 := 144) at_415_143 (Or.inl ⟨rfl, rfl⟩) e18 rfl ?_
        exact rg_415_144 q_4 x0 x1 x2 x3 x4 h17 o l0 l1 l2 l3 l4 i0 hs8
      · clear hs6
        exact Or.inr hs7
def fg_415_75 (N : Nat) (rec_4 : Value → Int32 → Int32 → am_H → Option am_O) (x0 : Value) (x1 : Int32) (x2 : Int32) (x3 : Int32) (x4 : Int32) (h : am_H) : Option am_O := (if ¬ x3 = 6 then (fg_415_101 N rec_4 x0 x1 x2 x3 x4 h) else ((am_vR (am_pG 3100 x0 h)).bind fun v2 => ((am_vR (am_pG 3100 x0 h)).bind fun v4 => ((am_pA 0 v4 (x1 - 1) h).bind fun v6 => (if am_pOk 12 x0 h then am_cI true (fm_411 x0 v6 h) (fun v9 h10 => ((am_pS 0 v2 (x1 - 1) v9 h10).bind fun h12 => (fg_415_101 N rec_4 x0 x1 x2 x3 x4 h12))) else none)))))
theorem rg_415_75 {X : am_X} {d : Nat} {N : Nat} {rec_4 : Value → Int32 → Int32 → am_H → Option am_O} (q_4 : ∀ (x0 : Value) (x1 : Int32) (x2 : Int32) (h : am_H) (o : am_O), rec_4 x0 x1 x2 h = some o → ∀ lv : am_LV, (lv.lookup 0 = some x0) → (lv.lookup 1 = some (.int x1)) → (lv.lookup 2 = some (.int x2)) → (am_isR x0 = true) → am_W X (d + 2) 415 4 lv [] h (fun q => q = o)) {lv : am_LV} (x0 : Value) (x1 : Int32) (x2 : Int32) (x3 : Int32) (x4 : Int32) (h : am_H) (o : am_O) (l0 : lv.lookup 0 = some x0) (l1 : lv.lookup 1 = some (.int x1)) (l2 : lv.lookup 2 = some (.int x2)) (l3 : lv.lookup 3 = some (.int x3)) (l4 : lv.lookup 4 = some (.int x4)) (i0 : am_isR x0 = true) (hs : fg_415_75 N rec_4 x0 x1 x2 x3 x4 h = some o) : am_W X (d + 2) 415 75 lv [] h (fun q => q = o) := by
  unfold fg_415_75 at hs
  refine aw_iload_n (pc1 := 76) at_415_75 l3 rfl ?_
  refine aw_bipush (v := 6) (pc1 := 78) at_415_76 (by decide) rfl ?_
  by_cases c1 : ¬ x3 = 6
  · rw [if_pos c1] at hs
    refine aw_icne_t at_415_78 c1 ?_
    exact rg_415_101 q_4 x0 x1 x2 x3 x4 h o l0 l1 l2 l3 l4 i0 hs
  · rw [if_neg c1] at hs
    refine aw_icne_f (pc1 := 81) at_415_78 c1 rfl ?_
    refine aw_vload_n (pc1 := 82) at_415_81 l0 i0 rfl ?_
    obtain ⟨v2, e3, hs1⟩ := am_bind hs
    clear hs
    refine aw_pG (pc1 := 85) at_415_82 (am_vR_s e3).1 rfl ?_
    refine aw_iload_n (pc1 := 86) at_415_85 l1 rfl ?_
    refine aw_iconst (v := 1) (pc1 := 87) at_415_86 (by decide) rfl ?_
    refine aw_isub (v := (x1 - 1)) (pc1 := 88) at_415_87 rfl rfl ?_
    refine aw_vload_n (pc1 := 89) at_415_88 l0 i0 rfl ?_
    refine aw_vload_n (pc1 := 90) at_415_89 l0 i0 rfl ?_
    obtain ⟨v4, e5, hs2⟩ := am_bind hs1
    clear hs1
    refine aw_pG (pc1 := 93) at_415_90 (am_vR_s e5).1 rfl ?_
    refine aw_iload_n (pc1 := 94) at_415_93 l1 rfl ?_
    refine aw_iconst (v := 1) (pc1 := 95) at_415_94 (by decide) rfl ?_
    refine aw_isub (v := (x1 - 1)) (pc1 := 96) at_415_95 rfl rfl ?_
    obtain ⟨v6, e7, hs3⟩ := am_bind hs2
    clear hs2
    refine aw_pA (pc1 := 97) at_415_96 (Or.inl ⟨rfl, rfl⟩) e7 rfl ?_
    obtain ⟨z8, hs4⟩ := am_ift hs3
    clear hs3
    refine aw_call (F := fm_411 x0 v6 h) (t := true) (na := 2) (kd := 1) (as := [x0, (.int v6)]) at_415_97 (am_k3v kb_411) mn_411 mk_411 rfl rfl (am_ok_v mi_411 (am_hl rfl (am_ccR i0 (am_ccI am_cats_0)) rfl) z8) (am_hc (am_ccI (am_ccR (am_vR_s e3).2 am_cats_0)) rfl) (fun _ => ⟨rfl, hh_415⟩) (fun o1 hz9 => rm_411 x0 v6 h o1 i0 hz9) ?_
    rcases am_cI_s hs4 with ⟨v9, h10, f11, hs5⟩ | hs5
    · clear hs4
      refine Or.inl ⟨_, _, f11, ?_⟩
      show am_W X _ 415 100 _ [(.int v9), (.int (x1 - 1)), v2] h10 _
      obtain ⟨h12, e13, hs6⟩ := am_bind hs5
      clear hs5
      refine aw_pS (pc1 := 101) at_415_100 (Or.inl ⟨rfl, rfl⟩) e13 rfl ?_
      exact rg_415_101 q_4 x0 x1 x2 x3 x4 h12 o l0 l1 l2 l3 l4 i0 hs6
    · clear hs4
      exact Or.inr hs5
def fg_415_53 (N : Nat) (rec_4 : Value → Int32 → Int32 → am_H → Option am_O) (x0 : Value) (x1 : Int32) (x2 : Int32) (x3 : Int32) (x4 : Int32) (h : am_H) : Option am_O := (if ¬ x3 = 5 then (fg_415_75 N rec_4 x0 x1 x2 x3 x4 h) else ((am_vR (am_pG 3100 x0 h)).bind fun v2 => ((am_vR (am_pG 3100 x0 h)).bind fun v4 => ((am_pA 0 v4 (x1 - 1) h).bind fun v6 => ((am_pS 0 v2 (x1 - 1) (-v6) h).bind fun h8 => (fg_415_75 N rec_4 x0 x1 x2 x3 x4 h8))))))
theorem rg_415_53 {X : am_X} {d : Nat} {N : Nat} {rec_4 : Value → Int32 → Int32 → am_H → Option am_O} (q_4 : ∀ (x0 : Value) (x1 : Int32) (x2 : Int32) (h : am_H) (o : am_O), rec_4 x0 x1 x2 h = some o → ∀ lv : am_LV, (lv.lookup 0 = some x0) → (lv.lookup 1 = some (.int x1)) → (lv.lookup 2 = some (.int x2)) → (am_isR x0 = true) → am_W X (d + 2) 415 4 lv [] h (fun q => q = o)) {lv : am_LV} (x0 : Value) (x1 : Int32) (x2 : Int32) (x3 : Int32) (x4 : Int32) (h : am_H) (o : am_O) (l0 : lv.lookup 0 = some x0) (l1 : lv.lookup 1 = some (.int x1)) (l2 : lv.lookup 2 = some (.int x2)) (l3 : lv.lookup 3 = some (.int x3)) (l4 : lv.lookup 4 = some (.int x4)) (i0 : am_isR x0 = true) (hs : fg_415_53 N rec_4 x0 x1 x2 x3 x4 h = some o) : am_W X (d + 2) 415 53 lv [] h (fun q => q = o) := by
  unfold fg_415_53 at hs
  refine aw_iload_n (pc1 := 54) at_415_53 l3 rfl ?_
  refine aw_iconst (v := 5) (pc1 := 55) at_415_54 (by decide) rfl ?_
  by_cases c1 : ¬ x3 = 5
  · rw [if_pos c1] at hs
    refine aw_icne_t at_415_55 c1 ?_
    exact rg_415_75 q_4 x0 x1 x2 x3 x4 h o l0 l1 l2 l3 l4 i0 hs
  · rw [if_neg c1] at hs
    refine aw_icne_f (pc1 := 58) at_415_55 c1 rfl ?_
    refine aw_vload_n (pc1 := 59) at_415_58 l0 i0 rfl ?_
    obtain ⟨v2, e3, hs1⟩ := am_bind hs
    clear hs
    refine aw_pG (pc1 := 62) at_415_59 (am_vR_s e3).1 rfl ?_
    refine aw_iload_n (pc1 := 63) at_415_62 l1 rfl ?_
    refine aw_iconst (v := 1) (pc1 := 64) at_415_63 (by decide) rfl ?_
    refine aw_isub (v := (x1 - 1)) (pc1 := 65) at_415_64 rfl rfl ?_
    refine aw_vload_n (pc1 := 66) at_415_65 l0 i0 rfl ?_
    obtain ⟨v4, e5, hs2⟩ := am_bind hs1
    clear hs1
    refine aw_pG (pc1 := 69) at_415_66 (am_vR_s e5).1 rfl ?_
    refine aw_iload_n (pc1 := 70) at_415_69 l1 rfl ?_
    refine aw_iconst (v := 1) (pc1 := 71) at_415_70 (by decide) rfl ?_
    refine aw_isub (v := (x1 - 1)) (pc1 := 72) at_415_71 rfl rfl ?_
    obtain ⟨v6, e7, hs3⟩ := am_bind hs2
    clear hs2
    refine aw_pA (pc1 := 73) at_415_72 (Or.inl ⟨rfl, rfl⟩) e7 rfl ?_
    refine aw_ineg (v := (-v6)) (pc1 := 74) at_415_73 rfl rfl ?_
    obtain ⟨h8, e9, hs4⟩ := am_bind hs3
    clear hs3
    refine aw_pS (pc1 := 75) at_415_74 (Or.inl ⟨rfl, rfl⟩) e9 rfl ?_
    exact rg_415_75 q_4 x0 x1 x2 x3 x4 h8 o l0 l1 l2 l3 l4 i0 hs4
def fg_415_4 (N : Nat) : Nat → Value → Int32 → Int32 → am_H → Option am_O
  | 0 => fun _ _ _ _ => none
  | K + 1 => fun x0 x1 x2 h => ((am_vI (am_pG 3086 x0 h)).bind fun v1 => (if v1 ≤ x2 then (fg_415_273 N x0 h) else (if am_pOk 12 x0 h then am_cI true (fm_407 x0 h) (fun v5 h6 => (if v5 = 0 then (fg_415_273 N x0 h6) else ((am_vR (am_pG 3088 x0 h6)).bind fun v9 => ((am_pA 0 v9 x2 h6).bind fun v11 => (if 5 ≤ v11 then (fg_415_53 N (fg_415_4 N K) x0 x1 x2 v11 ((x2 + 1)) h6) else ((am_vR (am_pG 3100 x0 h6)).bind fun v14 => ((am_vR (am_pG 3089 x0 h6)).bind fun v16 => ((am_pA 0 v16 x2 h6).bind fun v18 => (if am_pOk 12 x0 h6 then am_cI true (fm_408 x0 v11 v18 h6) (fun v21 h22 => ((am_pS 0 v14 x1 v21 h22).bind fun h24 => (fg_415_53 N (fg_415_4 N K) x0 x1 x2 v11 ((x2 + 1)) h24))) else none))))))))) else none)))
theorem rg_415_4 {X : am_X} {d : Nat} {N : Nat} : ∀ (K : Nat) (x0 : Value) (x1 : Int32) (x2 : Int32) (h : am_H) (o : am_O), fg_415_4 N K x0 x1 x2 h = some o → ∀ lv : am_LV, (lv.lookup 0 = some x0) → (lv.lookup 1 = some (.int x1)) → (lv.lookup 2 = some (.int x2)) → (am_isR x0 = true) → am_W X (d + 2) 415 4 lv [] h (fun q => q = o) := by
  intro K
  induction K with
  | zero => intro x0 x1 x2 h o hs; cases hs
  | succ K ih =>
    intro x0 x1 x2 h o hs lv l0 l1 l2 i0
    unfold fg_415_4 at hs
    refine aw_iload_n (pc1 := 5) at_415_4 l2 rfl ?_
    refine aw_vload_n (pc1 := 6) at_415_5 l0 i0 rfl ?_
    obtain ⟨v1, e2, hs1⟩ := am_bind hs
    clear hs
    refine aw_pG (pc1 := 9) at_415_6 (am_vI_s e2) rfl ?_
    by_cases c3 : v1 ≤ x2
    · rw [if_pos c3] at hs1
      refine aw_icge_t at_415_9 c3 ?_
      exact rg_415_273 x0 h o l0 i0 hs1
    · rw [if_neg c3] at hs1
      refine aw_icge_f (pc1 := 12) at_415_9 c3 rfl ?_
      refine aw_vload_n (pc1 := 13) at_415_12 l0 i0 rfl ?_
      obtain ⟨z4, hs2⟩ := am_ift hs1
      clear hs1
      refine aw_call (F := fm_407 x0 h) (t := true) (na := 1) (kd := 1) (as := [x0]) at_415_13 (am_k3v kb_407) mn_407 mk_407 rfl rfl (am_ok_v mi_407 (am_hl rfl (am_ccR i0 am_cats_0) rfl) z4) (am_hc am_cats_0 rfl) (fun _ => ⟨rfl, hh_415⟩) (fun o1 hz9 => rm_407 x0 h o1 i0 hz9) ?_
      rcases am_cI_s hs2 with ⟨v5, h6, f7, hs3⟩ | hs3
      · clear hs2
        refine Or.inl ⟨_, _, f7, ?_⟩
        show am_W X _ 415 16 _ [(.int v5)] h6 _
        by_cases c8 : v5 = 0
        · rw [if_pos c8] at hs3
          refine aw_ifeq_t at_415_16 c8 ?_
          exact rg_415_273 x0 h6 o l0 i0 hs3
        · rw [if_neg c8] at hs3
          refine aw_ifeq_f (pc1 := 19) at_415_16 c8 rfl ?_
          refine aw_vload_n (pc1 := 20) at_415_19 l0 i0 rfl ?_
          obtain ⟨v9, e10, hs4⟩ := am_bind hs3
          clear hs3
          refine aw_pG (pc1 := 23) at_415_20 (am_vR_s e10).1 rfl ?_
          refine aw_iload_n (pc1 := 24) at_415_23 l2 rfl ?_
          obtain ⟨v11, e12, hs5⟩ := am_bind hs4
          clear hs4
          refine aw_pA (pc1 := 25) at_415_24 (Or.inl ⟨rfl, rfl⟩) e12 rfl ?_
          refine aw_istore_n (lv1 := am_put1 _ 3 _) (pc1 := 26) at_415_25 rfl rfl ?_
          refine aw_iload_n (pc1 := 27) at_415_26 (am_lk1 l2 rfl rfl) rfl ?_
          refine aw_iconst (v := 1) (pc1 := 28) at_415_27 (by decide) rfl ?_
          refine aw_iadd (v := (x2 + 1)) (pc1 := 29) at_415_28 rfl rfl ?_
          refine aw_istore (lv1 := am_put1 _ 4 _) (pc1 := 31) at_415_29 rfl rfl ?_
          refine aw_iload_n (pc1 := 32) at_415_31 (am_lk1 am_lk0 rfl rfl) rfl ?_
          refine aw_iconst (v := 5) (pc1 := 33) at_415_32 (by decide) rfl ?_
          by_cases c13 : 5 ≤ v11
          · rw [if_pos c13] at hs5
            refine aw_icge_t at_415_33 c13 ?_
            exact rg_415_53 (fun z0 z1 z2 h o hs5 => ih z0 z1 z2 h o hs5) x0 x1 x2 v11 ((x2 + 1)) h6 o (am_lk1 (am_lk1 l0 rfl rfl) rfl rfl) (am_lk1 (am_lk1 l1 rfl rfl) rfl rfl) (am_lk1 (am_lk1 l2 rfl rfl) rfl rfl) (am_lk1 am_lk0 rfl rfl) am_lk0 i0 hs5
          · rw [if_neg c13] at hs5
            refine aw_icge_f (pc1 := 36) at_415_33 c13 rfl ?_
            refine aw_vload_n (pc1 := 37) at_415_36 (am_lk1 (am_lk1 l0 rfl rfl) rfl rfl) i0 rfl ?_
            obtain ⟨v14, e15, hs6⟩ := am_bind hs5
            clear hs5
            refine aw_pG (pc1 := 40) at_415_37 (am_vR_s e15).1 rfl ?_
            refine aw_iload_n (pc1 := 41) at_415_40 (am_lk1 (am_lk1 l1 rfl rfl) rfl rfl) rfl ?_
            refine aw_vload_n (pc1 := 42) at_415_41 (am_lk1 (am_lk1 l0 rfl rfl) rfl rfl) i0 rfl ?_
            refine aw_iload_n (pc1 := 43) at_415_42 (am_lk1 am_lk0 rfl rfl) rfl ?_
            refine aw_vload_n (pc1 := 44) at_415_43 (am_lk1 (am_lk1 l0 rfl rfl) rfl rfl) i0 rfl ?_
            obtain ⟨v16, e17, hs7⟩ := am_bind hs6
            clear hs6
            refine aw_pG (pc1 := 47) at_415_44 (am_vR_s e17).1 rfl ?_
            refine aw_iload_n (pc1 := 48) at_415_47 (am_lk1 (am_lk1 l2 rfl rfl) rfl rfl) rfl ?_
            obtain ⟨v18, e19, hs8⟩ := am_bind hs7
            clear hs7
            refine aw_pA (pc1 := 49) at_415_48 (Or.inl ⟨rfl, rfl⟩) e19 rfl ?_
            obtain ⟨z20, hs9⟩ := am_ift hs8
            clear hs8
            refine aw_call (F := fm_408 x0 v11 v18 h6) (t := true) (na := 3) (kd := 1) (as := [x0, (.int v11), (.int v18)]) at_415_49 (am_k3v kb_408) mn_408 mk_408 rfl rfl (am_ok_v mi_408 (am_hl rfl (am_ccR i0 (am_ccI (am_ccI am_cats_0))) rfl) z20) (am_hc (am_ccI (am_ccR (am_vR_s e15).2 am_cats_0)) rfl) (fun _ => ⟨rfl, hh_415⟩) (fun o1 hz9 => rm_408 x0 v11 v18 h6 o1 i0 hz9) ?_
            rcases am_cI_s hs9 with ⟨v21, h22, f23, hs10⟩ | hs10
            · clear hs9
              refine Or.inl ⟨_, _, f23, ?_⟩
              show am_W X _ 415 52 _ [(.int v21), (.int x1), v14] h22 _
              obtain ⟨h24, e25, hs11⟩ := am_bind hs10
              clear hs10
              refine aw_pS (pc1 := 53) at_415_52 (Or.inl ⟨rfl, rfl⟩) e25 rfl ?_
              exact rg_415_53 (fun z0 z1 z2 h o hs11 => ih z0 z1 z2 h o hs11) x0 x1 x2 v11 ((x2 + 1)) h24 o (am_lk1 (am_lk1 l0 rfl rfl) rfl rfl) (am_lk1 (am_lk1 l1 rfl rfl) rfl rfl) (am_lk1 (am_lk1 l2 rfl rfl) rfl rfl) (am_lk1 am_lk0 rfl rfl) am_lk0 i0 hs11
            · clear hs9
              exact Or.inr hs10
      · clear hs2
        exact Or.inr hs3
def fg_415_0 (N : Nat) (x0 : Value) (h : am_H) : Option am_O := (fg_415_4 N N x0 0 0 h)
theorem rg_415_0 {X : am_X} {d : Nat} {N : Nat} {lv : am_LV} (x0 : Value) (h : am_H) (o : am_O) (l0 : lv.lookup 0 = some x0) (i0 : am_isR x0 = true) (hs : fg_415_0 N x0 h = some o) : am_W X (d + 2) 415 0 lv [] h (fun q => q = o) := by
  unfold fg_415_0 at hs
  refine aw_iconst (v := 0) (pc1 := 1) at_415_0 (by decide) rfl ?_
  refine aw_istore_n (lv1 := am_put1 _ 1 _) (pc1 := 2) at_415_1 rfl rfl ?_
  refine aw_iconst (v := 0) (pc1 := 3) at_415_2 (by decide) rfl ?_
  refine aw_istore_n (lv1 := am_put1 _ 2 _) (pc1 := 4) at_415_3 rfl rfl ?_
  exact rg_415_4 N x0 0 0 h o hs _ (am_lk1 (am_lk1 l0 rfl (by rw [am_isRc i0]; rfl)) rfl rfl) (am_lk1 am_lk0 rfl rfl) am_lk0 i0
def fm_415 (N : Nat) (y0 : Value) (h : am_H) : Option am_O := fg_415_0 N y0 h
theorem rm_415 {X : am_X} {d : Nat} {N : Nat} (y0 : Value) (h : am_H) (o : am_O) (i0 : am_isR y0 = true) (hs : fm_415 N y0 h = some o) : am_W X (d + 2) 415 0 (am_args 0 [y0]) [] h (fun q => q = o) := by
  rw [am_args_R i0]
  exact rg_415_0 y0 h o rfl i0 hs
def fg_416_54 (N : Nat) (x0 : Value) (x1 : Int32) (h : am_H) : Option am_O := ((am_vR (am_pG 3088 x0 h)).bind fun v1 => ((am_pA 0 v1 x1 h).bind fun v3 => ((am_pP 3121 x0 (.int v3) h).bind fun h5 => some (.inl (none, h5)))))
theorem rg_416_54 {X : am_X} {d : Nat} {N : Nat} {lv : am_LV} (x0 : Value) (x1 : Int32) (h : am_H) (o : am_O) (l0 : lv.lookup 0 = some x0) (l1 : lv.lookup 1 = some (.int x1)) (i0 : am_isR x0 = true) (hs : fg_416_54 N x0 x1 h = some o) : am_W X (d + 1) 416 54 lv [] h (fun q => q = o) := by
  unfold fg_416_54 at hs
  refine aw_vload_n (pc1 := 55) at_416_54 l0 i0 rfl ?_
  refine aw_vload_n (pc1 := 56) at_416_55 l0 i0 rfl ?_
  obtain ⟨v1, e2, hs1⟩ := am_bind hs
  clear hs
  refine aw_pG (pc1 := 59) at_416_56 (am_vR_s e2).1 rfl ?_
  refine aw_iload_n (pc1 := 60) at_416_59 l1 rfl ?_
  obtain ⟨v3, e4, hs2⟩ := am_bind hs1
  clear hs1
  refine aw_pA (pc1 := 61) at_416_60 (Or.inl ⟨rfl, rfl⟩) e4 rfl ?_
  obtain ⟨h5, e6, hs3⟩ := am_bind hs2
  clear hs2
  refine aw_pP (pc1 := 64) at_416_61 e6 rfl ?_
  cases hs3
  exact aw_vret at_416_64 rt_416 rfl
def fg_416_48 (N : Nat) (rec_9 : Value → Int32 → Int32 → Int32 → am_H → Option am_O) (x0 : Value) (x1 : Int32) (x2 : Int32) (x3 : Int32) (h : am_H) : Option am_O := (rec_9 x0 x1 x2 ((x3 + 1)) h)
theorem rg_416_48 {X : am_X} {d : Nat} {N : Nat} {rec_9 : Value → Int32 → Int32 → Int32 → am_H → Option am_O} (q_9 : ∀ (x0 : Value) (x1 : Int32) (x2 : Int32) (x3 : Int32) (h : am_H) (o : am_O), rec_9 x0 x1 x2 x3 h = some o → ∀ lv : am_LV, (lv.lookup 0 = some x0) → (lv.lookup 1 = some (.int x1)) → (lv.lookup 2 = some (.int x2)) → (lv.lookup 3 = some (.int x3)) → (am_isR x0 = true) → am_W X (d + 1) 416 9 lv [] h (fun q => q = o)) {lv : am_LV} (x0 : Value) (x1 : Int32) (x2 : Int32) (x3 : Int32) (h : am_H) (o : am_O) (l0 : lv.lookup 0 = some x0) (l1 : lv.lookup 1 = some (.int x1)) (l2 : lv.lookup 2 = some (.int x2)) (l3 : lv.lookup 3 = some (.int x3)) (i0 : am_isR x0 = true) (hs : fg_416_48 N rec_9 x0 x1 x2 x3 h = some o) : am_W X (d + 1) 416 48 lv [] h (fun q => q = o) := by
  unfold fg_416_48 at hs
  refine aw_iinc (v := (x3 + 1)) (c := 1) (lv1 := am_put1 _ 3 _) (pc1 := 51) at_416_48 l3 (by decide) rfl rfl rfl ?_
  refine aw_goto at_416_51 ?_
  exact q_9 x0 x1 x2 ((x3 + 1)) h o hs _ (am_lk1 l0 rfl rfl) (am_lk1 l1 rfl rfl) (am_lk1 l2 rfl rfl) am_lk0 i0
def fg_416_9 (N : Nat) : Nat → Value → Int32 → Int32 → Int32 → am_H → Option am_O
  | 0 => fun _ _ _ _ _ => none
  | K + 1 => fun x0 x1 x2 x3 h => ((am_vI (am_pG 3126 x0 h)).bind fun v1 => (if v1 ≤ x3 then (fg_416_54 N x0 x1 h) else (if x2 = 0 then (fg_416_54 N x0 x1 h) else (if am_pOk 12 x0 h then am_cI true (fm_407 x0 h) (fun v6 h7 => (if v6 = 0 then (fg_416_48 N (fg_416_9 N K) x0 x1 v6 x3 h7) else ((am_vR (am_pG 3089 x0 h7)).bind fun v10 => ((am_pA 0 v10 x1 h7).bind fun v12 => ((am_vR (am_pG 3127 x0 h7)).bind fun v14 => ((am_pA 0 v14 x3 h7).bind fun v16 => am_cI false (fm_367 v12 ((v16 &&& 3)) h7) (fun v18 h19 => (fg_416_48 N (fg_416_9 N K) x0 v18 v6 x3 h19)))))))) else none))))
theorem rg_416_9 {X : am_X} {d : Nat} {N : Nat} : ∀ (K : Nat) (x0 : Value) (x1 : Int32) (x2 : Int32) (x3 : Int32) (h : am_H) (o : am_O), fg_416_9 N K x0 x1 x2 x3 h = some o → ∀ lv : am_LV, (lv.lookup 0 = some x0) → (lv.lookup 1 = some (.int x1)) → (lv.lookup 2 = some (.int x2)) → (lv.lookup 3 = some (.int x3)) → (am_isR x0 = true) → am_W X (d + 1) 416 9 lv [] h (fun q => q = o) := by
  intro K
  induction K with
  | zero => intro x0 x1 x2 x3 h o hs; cases hs
  | succ K ih =>
    intro x0 x1 x2 x3 h o hs lv l0 l1 l2 l3 i0
    unfold fg_416_9 at hs
    refine aw_iload_n (pc1 := 10) at_416_9 l3 rfl ?_
    refine aw_vload_n (pc1 := 11) at_416_10 l0 i0 rfl ?_
    obtain ⟨v1, e2, hs1⟩ := am_bind hs
    clear hs
    refine aw_pG (pc1 := 14) at_416_11 (am_vI_s e2) rfl ?_
    by_cases c3 : v1 ≤ x3
    · rw [if_pos c3] at hs1
      refine aw_icge_t at_416_14 c3 ?_
      exact rg_416_54 x0 x1 h o l0 l1 i0 hs1
    · rw [if_neg c3] at hs1
      refine aw_icge_f (pc1 := 17) at_416_14 c3 rfl ?_
      refine aw_iload_n (pc1 := 18) at_416_17 l2 rfl ?_
      by_cases c4 : x2 = 0
      · rw [if_pos c4] at hs1
        refine aw_ifeq_t at_416_18 c4 ?_
        exact rg_416_54 x0 x1 h o l0 l1 i0 hs1
      · rw [if_neg c4] at hs1
        refine aw_ifeq_f (pc1 := 21) at_416_18 c4 rfl ?_
        refine aw_vload_n (pc1 := 22) at_416_21 l0 i0 rfl ?_
        obtain ⟨z5, hs2⟩ := am_ift hs1
        clear hs1
        refine aw_call (F := fm_407 x0 h) (t := true) (na := 1) (kd := 1) (as := [x0]) at_416_22 (am_k3v kb_407) mn_407 mk_407 rfl rfl (am_ok_v mi_407 (am_hl rfl (am_ccR i0 am_cats_0) rfl) z5) (am_hc am_cats_0 rfl) (fun _ => ⟨rfl, hh_416⟩) (fun o1 hz9 => rm_407 x0 h o1 i0 hz9) ?_
        rcases am_cI_s hs2 with ⟨v6, h7, f8, hs3⟩ | hs3
        · clear hs2
          refine Or.inl ⟨_, _, f8, ?_⟩
          show am_W X _ 416 25 _ [(.int v6)] h7 _
          refine aw_istore_n (lv1 := am_put1 _ 2 _) (pc1 := 26) at_416_25 rfl rfl ?_
          refine aw_iload_n (pc1 := 27) at_416_26 am_lk0 rfl ?_
          by_cases c9 : v6 = 0
          · rw [if_pos c9] at hs3
            refine aw_ifeq_t at_416_27 c9 ?_
            exact rg_416_48 (fun z0 z1 z2 z3 h o hs3 => ih z0 z1 z2 z3 h o hs3) x0 x1 v6 x3 h7 o (am_lk1 l0 rfl rfl) (am_lk1 l1 rfl rfl) am_lk0 (am_lk1 l3 rfl rfl) i0 hs3
          · rw [if_neg c9] at hs3
            refine aw_ifeq_f (pc1 := 30) at_416_27 c9 rfl ?_
            refine aw_vload_n (pc1 := 31) at_416_30 (am_lk1 l0 rfl rfl) i0 rfl ?_
            obtain ⟨v10, e11, hs4⟩ := am_bind hs3
            clear hs3
            refine aw_pG (pc1 := 34) at_416_31 (am_vR_s e11).1 rfl ?_
            refine aw_iload_n (pc1 := 35) at_416_34 (am_lk1 l1 rfl rfl) rfl ?_
            obtain ⟨v12, e13, hs5⟩ := am_bind hs4
            clear hs4
            refine aw_pA (pc1 := 36) at_416_35 (Or.inl ⟨rfl, rfl⟩) e13 rfl ?_
            refine aw_vload_n (pc1 := 37) at_416_36 (am_lk1 l0 rfl rfl) i0 rfl ?_
            obtain ⟨v14, e15, hs6⟩ := am_bind hs5
            clear hs5
            refine aw_pG (pc1 := 40) at_416_37 (am_vR_s e15).1 rfl ?_
            refine aw_iload_n (pc1 := 41) at_416_40 (am_lk1 l3 rfl rfl) rfl ?_
            obtain ⟨v16, e17, hs7⟩ := am_bind hs6
            clear hs6
            refine aw_pA (pc1 := 42) at_416_41 (Or.inl ⟨rfl, rfl⟩) e17 rfl ?_
            refine aw_iconst (v := 3) (pc1 := 43) at_416_42 (by decide) rfl ?_
            refine aw_iand (v := (v16 &&& 3)) (pc1 := 44) at_416_43 rfl rfl ?_
            refine aw_call (F := fm_367 v12 ((v16 &&& 3)) h7) (t := false) (na := 2) (kd := 0) (as := [(.int v12), (.int (v16 &&& 3))]) at_416_44 (am_k3s kb_367) mn_367 mk_367 rfl rfl (am_ok_s mi_367 (am_hl rfl (am_ccI (am_ccI am_cats_0)) rfl)) (am_hc am_cats_0 rfl) (fun hz9 => by cases hz9) (fun o1 hz9 => rm_367 v12 ((v16 &&& 3)) h7 o1  hz9) ?_
            rcases am_cI_s hs7 with ⟨v18, h19, f20, hs8⟩ | hs8
            · clear hs7
              refine Or.inl ⟨_, _, f20, ?_⟩
              show am_W X _ 416 47 _ [(.int v18)] h19 _
              refine aw_istore_n (lv1 := am_put1 _ 1 _) (pc1 := 48) at_416_47 rfl rfl ?_
              exact rg_416_48 (fun z0 z1 z2 z3 h o hs8 => ih z0 z1 z2 z3 h o hs8) x0 v18 v6 x3 h19 o (am_lk1 (am_lk1 l0 rfl rfl) rfl (by rw [am_isRc i0]; rfl)) am_lk0 (am_lk1 am_lk0 rfl rfl) (am_lk1 (am_lk1 l3 rfl rfl) rfl rfl) i0 hs8
            · clear hs7
              exact Or.inr hs8
        · clear hs2
          exact Or.inr hs3
def fg_416_0 (N : Nat) (x0 : Value) (h : am_H) : Option am_O := (if am_pOk 12 x0 h then am_cI true (fm_407 x0 h) (fun v2 h3 => (fg_416_9 N N x0 0 v2 0 h3)) else none)
theorem rg_416_0 {X : am_X} {d : Nat} {N : Nat} {lv : am_LV} (x0 : Value) (h : am_H) (o : am_O) (l0 : lv.lookup 0 = some x0) (i0 : am_isR x0 = true) (hs : fg_416_0 N x0 h = some o) : am_W X (d + 1) 416 0 lv [] h (fun q => q = o) := by
  unfold fg_416_0 at hs
  refine aw_iconst (v := 0) (pc1 := 1) at_416_0 (by decide) rfl ?_
  refine aw_istore_n (lv1 := am_put1 _ 1 _) (pc1 := 2) at_416_1 rfl rfl ?_
  refine aw_vload_n (pc1 := 3) at_416_2 (am_lk1 l0 rfl (by rw [am_isRc i0]; rfl)) i0 rfl ?_
  obtain ⟨z1, hs1⟩ := am_ift hs
  clear hs
  refine aw_call (F := fm_407 x0 h) (t := true) (na := 1) (kd := 1) (as := [x0]) at_416_3 (am_k3v kb_407) mn_407 mk_407 rfl rfl (am_ok_v mi_407 (am_hl rfl (am_ccR i0 am_cats_0) rfl) z1) (am_hc am_cats_0 rfl) (fun _ => ⟨rfl, hh_416⟩) (fun o1 hz9 => rm_407 x0 h o1 i0 hz9) ?_
  rcases am_cI_s hs1 with ⟨v2, h3, f4, hs2⟩ | hs2
  · clear hs1
    refine Or.inl ⟨_, _, f4, ?_⟩
    show am_W X _ 416 6 _ [(.int v2)] h3 _
    refine aw_istore_n (lv1 := am_put1 _ 2 _) (pc1 := 7) at_416_6 rfl rfl ?_
    refine aw_iconst (v := 0) (pc1 := 8) at_416_7 (by decide) rfl ?_
    refine aw_istore_n (lv1 := am_put1 _ 3 _) (pc1 := 9) at_416_8 rfl rfl ?_
    exact rg_416_9 N x0 0 v2 0 h3 o hs2 _ (am_lk1 (am_lk1 (am_lk1 l0 rfl (by rw [am_isRc i0]; rfl)) rfl rfl) rfl rfl) (am_lk1 (am_lk1 am_lk0 rfl rfl) rfl rfl) (am_lk1 am_lk0 rfl rfl) am_lk0 i0
  · clear hs1
    exact Or.inr hs2
def fm_416 (N : Nat) (y0 : Value) (h : am_H) : Option am_O := fg_416_0 N y0 h
theorem rm_416 {X : am_X} {d : Nat} {N : Nat} (y0 : Value) (h : am_H) (o : am_O) (i0 : am_isR y0 = true) (hs : fm_416 N y0 h = some o) : am_W X (d + 1) 416 0 (am_args 0 [y0]) [] h (fun q => q = o) := by
  rw [am_args_R i0]
  exact rg_416_0 y0 h o rfl i0 hs
def fg_418_0 (x0 : Value) (x1 : Int32) (h : am_H) : Option am_O := ((am_vR (am_pG 3100 x0 h)).bind fun v1 => ((am_vR (am_pG 3088 x0 h)).bind fun v3 => ((am_pA 0 v3 x1 h).bind fun v5 => ((am_pA 0 v1 v5 h).bind fun v7 => ((am_vR (am_pG 3100 x0 h)).bind fun v9 => ((am_vR (am_pG 3089 x0 h)).bind fun v11 => ((am_pA 0 v11 x1 h).bind fun v13 => ((am_pA 0 v9 v13 h).bind fun v15 => (if v15 < v7 then ((am_vR (am_pG 3100 x0 h)).bind fun v18 => ((am_vR (am_pG 3088 x0 h)).bind fun v20 => ((am_pA 0 v20 x1 h).bind fun v22 => ((am_pS 0 v18 v22 v15 h).bind fun h24 => ((am_vR (am_pG 3100 x0 h24)).bind fun v26 => ((am_vR (am_pG 3089 x0 h24)).bind fun v28 => ((am_pA 0 v28 x1 h24).bind fun v30 => ((am_pS 0 v26 v30 v7 h24).bind fun h32 => some (.inl (some (.int 1), h32)))))))))) else some (.inl (some (.int 0), h)))))))))))
theorem rg_418_0 {X : am_X} {d : Nat} {lv : am_LV} (x0 : Value) (x1 : Int32) (h : am_H) (o : am_O) (l0 : lv.lookup 0 = some x0) (l1 : lv.lookup 1 = some (.int x1)) (i0 : am_isR x0 = true) (hs : fg_418_0 x0 x1 h = some o) : am_W X (d) 418 0 lv [] h (fun q => q = o) := by
  unfold fg_418_0 at hs
  refine aw_vload_n (pc1 := 1) at_418_0 l0 i0 rfl ?_
  obtain ⟨v1, e2, hs1⟩ := am_bind hs
  clear hs
  refine aw_pG (pc1 := 4) at_418_1 (am_vR_s e2).1 rfl ?_
  refine aw_vload_n (pc1 := 5) at_418_4 l0 i0 rfl ?_
  obtain ⟨v3, e4, hs2⟩ := am_bind hs1
  clear hs1
  refine aw_pG (pc1 := 8) at_418_5 (am_vR_s e4).1 rfl ?_
  refine aw_iload_n (pc1 := 9) at_418_8 l1 rfl ?_
  obtain ⟨v5, e6, hs3⟩ := am_bind hs2
  clear hs2
  refine aw_pA (pc1 := 10) at_418_9 (Or.inl ⟨rfl, rfl⟩) e6 rfl ?_
  obtain ⟨v7, e8, hs4⟩ := am_bind hs3
  clear hs3
  refine aw_pA (pc1 := 11) at_418_10 (Or.inl ⟨rfl, rfl⟩) e8 rfl ?_
  refine aw_istore_n (lv1 := am_put1 _ 2 _) (pc1 := 12) at_418_11 rfl rfl ?_
  refine aw_vload_n (pc1 := 13) at_418_12 (am_lk1 l0 rfl rfl) i0 rfl ?_
  obtain ⟨v9, e10, hs5⟩ := am_bind hs4
  clear hs4
  refine aw_pG (pc1 := 16) at_418_13 (am_vR_s e10).1 rfl ?_
  refine aw_vload_n (pc1 := 17) at_418_16 (am_lk1 l0 rfl rfl) i0 rfl ?_
  obtain ⟨v11, e12, hs6⟩ := am_bind hs5
  clear hs5
  refine aw_pG (pc1 := 20) at_418_17 (am_vR_s e12).1 rfl ?_
  refine aw_iload_n (pc1 := 21) at_418_20 (am_lk1 l1 rfl rfl) rfl ?_
  obtain ⟨v13, e14, hs7⟩ := am_bind hs6
  clear hs6
  refine aw_pA (pc1 := 22) at_418_21 (Or.inl ⟨rfl, rfl⟩) e14 rfl ?_
  obtain ⟨v15, e16, hs8⟩ := am_bind hs7
  clear hs7
  refine aw_pA (pc1 := 23) at_418_22 (Or.inl ⟨rfl, rfl⟩) e16 rfl ?_
  refine aw_istore_n (lv1 := am_put1 _ 3 _) (pc1 := 24) at_418_23 rfl rfl ?_
  refine aw_iload_n (pc1 := 25) at_418_24 (am_lk1 am_lk0 rfl rfl) rfl ?_
  refine aw_iload_n (pc1 := 26) at_418_25 am_lk0 rfl ?_
  by_cases c17 : v15 < v7
  · rw [if_pos c17] at hs8
    refine aw_icgt_t at_418_26 c17 ?_
    refine aw_vload_n (pc1 := 32) at_418_31 (am_lk1 (am_lk1 l0 rfl rfl) rfl rfl) i0 rfl ?_
    obtain ⟨v18, e19, hs9⟩ := am_bind hs8
    clear hs8
    refine aw_pG (pc1 := 35) at_418_32 (am_vR_s e19).1 rfl ?_
    refine aw_vload_n (pc1 := 36) at_418_35 (am_lk1 (am_lk1 l0 rfl rfl) rfl rfl) i0 rfl ?_
    obtain ⟨v20, e21, hs10⟩ := am_bind hs9
    clear hs9
    refine aw_pG (pc1 := 39) at_418_36 (am_vR_s e21).1 rfl ?_
    refine aw_iload_n (pc1 := 40) at_418_39 (am_lk1 (am_lk1 l1 rfl rfl) rfl rfl) rfl ?_
    obtain ⟨v22, e23, hs11⟩ := am_bind hs10
    clear hs10
    refine aw_pA (pc1 := 41) at_418_40 (Or.inl ⟨rfl, rfl⟩) e23 rfl ?_
    refine aw_iload_n (pc1 := 42) at_418_41 am_lk0 rfl ?_
    obtain ⟨h24, e25, hs12⟩ := am_bind hs11
    clear hs11
    refine aw_pS (pc1 := 43) at_418_42 (Or.inl ⟨rfl, rfl⟩) e25 rfl ?_
    refine aw_vload_n (pc1 := 44) at_418_43 (am_lk1 (am_lk1 l0 rfl rfl) rfl rfl) i0 rfl ?_
    obtain ⟨v26, e27, hs13⟩ := am_bind hs12
    clear hs12
    refine aw_pG (pc1 := 47) at_418_44 (am_vR_s e27).1 rfl ?_
    refine aw_vload_n (pc1 := 48) at_418_47 (am_lk1 (am_lk1 l0 rfl rfl) rfl rfl) i0 rfl ?_
    obtain ⟨v28, e29, hs14⟩ := am_bind hs13
    clear hs13
    refine aw_pG (pc1 := 51) at_418_48 (am_vR_s e29).1 rfl ?_
    refine aw_iload_n (pc1 := 52) at_418_51 (am_lk1 (am_lk1 l1 rfl rfl) rfl rfl) rfl ?_
    obtain ⟨v30, e31, hs15⟩ := am_bind hs14
    clear hs14
    refine aw_pA (pc1 := 53) at_418_52 (Or.inl ⟨rfl, rfl⟩) e31 rfl ?_
    refine aw_iload_n (pc1 := 54) at_418_53 (am_lk1 am_lk0 rfl rfl) rfl ?_
    obtain ⟨h32, e33, hs16⟩ := am_bind hs15
    clear hs15
    refine aw_pS (pc1 := 55) at_418_54 (Or.inl ⟨rfl, rfl⟩) e33 rfl ?_
    refine aw_iconst (v := 1) (pc1 := 56) at_418_55 (by decide) rfl ?_
    cases hs16
    exact aw_iret at_418_56 (by rw [rt_418]; decide) rfl
  · rw [if_neg c17] at hs8
    refine aw_icgt_f (pc1 := 29) at_418_26 c17 rfl ?_
    refine aw_iconst (v := 0) (pc1 := 30) at_418_29 (by decide) rfl ?_
    cases hs8
    exact aw_iret at_418_30 (by rw [rt_418]; decide) rfl
def fm_418 (y0 : Value) (y1 : Int32) (h : am_H) : Option am_O := fg_418_0 y0 y1 h
theorem rm_418 {X : am_X} {d : Nat} (y0 : Value) (y1 : Int32) (h : am_H) (o : am_O) (i0 : am_isR y0 = true) (hs : fm_418 y0 y1 h = some o) : am_W X (d) 418 0 (am_args 0 [y0, .int y1]) [] h (fun q => q = o) := by
  rw [am_args_R i0, am_args_I]
  exact rg_418_0 y0 y1 h o rfl rfl i0 hs
def fg_417_80 (N : Nat) (x0 : Value) (h : am_H) : Option am_O := ((am_vR (am_pG 3100 x0 h)).bind fun v1 => ((am_vI (am_pG 3087 x0 h)).bind fun v3 => ((am_pA 0 v1 ((v3 - 1) / 2) h).bind fun v5 => ((am_pP 3121 x0 (.int v5) h).bind fun h7 => some (.inl (none, h7))))))
theorem rg_417_80 {X : am_X} {d : Nat} {N : Nat} {lv : am_LV} (x0 : Value) (h : am_H) (o : am_O) (l0 : lv.lookup 0 = some x0) (i0 : am_isR x0 = true) (hs : fg_417_80 N x0 h = some o) : am_W X (d + 1) 417 80 lv [] h (fun q => q = o) := by
  unfold fg_417_80 at hs
  refine aw_vload_n (pc1 := 81) at_417_80 l0 i0 rfl ?_
  refine aw_vload_n (pc1 := 82) at_417_81 l0 i0 rfl ?_
  obtain ⟨v1, e2, hs1⟩ := am_bind hs
  clear hs
  refine aw_pG (pc1 := 85) at_417_82 (am_vR_s e2).1 rfl ?_
  refine aw_vload_n (pc1 := 86) at_417_85 l0 i0 rfl ?_
  obtain ⟨v3, e4, hs2⟩ := am_bind hs1
  clear hs1
  refine aw_pG (pc1 := 89) at_417_86 (am_vI_s e4) rfl ?_
  refine aw_iconst (v := 1) (pc1 := 90) at_417_89 (by decide) rfl ?_
  refine aw_isub (v := (v3 - 1)) (pc1 := 91) at_417_90 rfl rfl ?_
  refine aw_iconst (v := 2) (pc1 := 92) at_417_91 (by decide) rfl ?_
  refine aw_idiv (v := ((v3 - 1) / 2)) (pc1 := 93) at_417_92 (by decide) rfl rfl ?_
  obtain ⟨v5, e6, hs3⟩ := am_bind hs2
  clear hs2
  refine aw_pA (pc1 := 94) at_417_93 (Or.inl ⟨rfl, rfl⟩) e6 rfl ?_
  obtain ⟨h7, e8, hs4⟩ := am_bind hs3
  clear hs3
  refine aw_pP (pc1 := 97) at_417_94 e8 rfl ?_
  cases hs4
  exact aw_vret at_417_97 rt_417 rfl
def fg_417_74 (N : Nat) (rec_47 : Value → Int32 → Int32 → am_H → Option am_O) (x0 : Value) (x1 : Int32) (x2 : Int32) (h : am_H) : Option am_O := (rec_47 x0 x1 ((x2 + 1)) h)
theorem rg_417_74 {X : am_X} {d : Nat} {N : Nat} {rec_47 : Value → Int32 → Int32 → am_H → Option am_O} (q_47 : ∀ (x0 : Value) (x1 : Int32) (x2 : Int32) (h : am_H) (o : am_O), rec_47 x0 x1 x2 h = some o → ∀ lv : am_LV, (lv.lookup 0 = some x0) → (lv.lookup 1 = some (.int x1)) → (lv.lookup 2 = some (.int x2)) → (am_isR x0 = true) → am_W X (d + 1) 417 47 lv [] h (fun q => q = o)) {lv : am_LV} (x0 : Value) (x1 : Int32) (x2 : Int32) (h : am_H) (o : am_O) (l0 : lv.lookup 0 = some x0) (l1 : lv.lookup 1 = some (.int x1)) (l2 : lv.lookup 2 = some (.int x2)) (i0 : am_isR x0 = true) (hs : fg_417_74 N rec_47 x0 x1 x2 h = some o) : am_W X (d + 1) 417 74 lv [] h (fun q => q = o) := by
  unfold fg_417_74 at hs
  refine aw_iinc (v := (x2 + 1)) (c := 1) (lv1 := am_put1 _ 2 _) (pc1 := 77) at_417_74 l2 (by decide) rfl rfl rfl ?_
  refine aw_goto at_417_77 ?_
  exact q_47 x0 x1 ((x2 + 1)) h o hs _ (am_lk1 l0 rfl rfl) (am_lk1 l1 rfl rfl) am_lk0 i0
def fg_417_47 (N : Nat) : Nat → Value → Int32 → Int32 → am_H → Option am_O
  | 0 => fun _ _ _ _ => none
  | K + 1 => fun x0 x1 x2 h => ((am_vI (am_pG 3086 x0 h)).bind fun v1 => (if v1 ≤ x2 then (fg_417_80 N x0 h) else (if x1 = 0 then (fg_417_80 N x0 h) else (if am_pOk 12 x0 h then am_cI true (fm_407 x0 h) (fun v6 h7 => (if v6 = 0 then (fg_417_74 N (fg_417_47 N K) x0 v6 x2 h7) else (if am_pOk 12 x0 h7 then am_cI true (fm_418 x0 x2 h7) (fun v11 h12 => (fg_417_74 N (fg_417_47 N K) x0 v6 x2 h12)) else none))) else none))))
theorem rg_417_47 {X : am_X} {d : Nat} {N : Nat} : ∀ (K : Nat) (x0 : Value) (x1 : Int32) (x2 : Int32) (h : am_H) (o : am_O), fg_417_47 N K x0 x1 x2 h = some o → ∀ lv : am_LV, (lv.lookup 0 = some x0) → (lv.lookup 1 = some (.int x1)) → (lv.lookup 2 = some (.int x2)) → (am_isR x0 = true) → am_W X (d + 1) 417 47 lv [] h (fun q => q = o) := by
  intro K
  induction K with
  | zero => intro x0 x1 x2 h o hs; cases hs
  | succ K ih =>
    intro x0 x1 x2 h o hs lv l0 l1 l2 i0
    unfold fg_417_47 at hs
    refine aw_iload_n (pc1 := 48) at_417_47 l2 rfl ?_
    refine aw_vload_n (pc1 := 49) at_417_48 l0 i0 rfl ?_
    obtain ⟨v1, e2, hs1⟩ := am_bind hs
    clear hs
    refine aw_pG (pc1 := 52) at_417_49 (am_vI_s e2) rfl ?_
    by_cases c3 : v1 ≤ x2
    · rw [if_pos c3] at hs1
      refine aw_icge_t at_417_52 c3 ?_
      exact rg_417_80 x0 h o l0 i0 hs1
    · rw [if_neg c3] at hs1
      refine aw_icge_f (pc1 := 55) at_417_52 c3 rfl ?_
      refine aw_iload_n (pc1 := 56) at_417_55 l1 rfl ?_
      by_cases c4 : x1 = 0
      · rw [if_pos c4] at hs1
        refine aw_ifeq_t at_417_56 c4 ?_
        exact rg_417_80 x0 h o l0 i0 hs1
      · rw [if_neg c4] at hs1
        refine aw_ifeq_f (pc1 := 59) at_417_56 c4 rfl ?_
        refine aw_vload_n (pc1 := 60) at_417_59 l0 i0 rfl ?_
        obtain ⟨z5, hs2⟩ := am_ift hs1
        clear hs1
        refine aw_call (F := fm_407 x0 h) (t := true) (na := 1) (kd := 1) (as := [x0]) at_417_60 (am_k3v kb_407) mn_407 mk_407 rfl rfl (am_ok_v mi_407 (am_hl rfl (am_ccR i0 am_cats_0) rfl) z5) (am_hc am_cats_0 rfl) (fun _ => ⟨rfl, hh_417⟩) (fun o1 hz9 => rm_407 x0 h o1 i0 hz9) ?_
        rcases am_cI_s hs2 with ⟨v6, h7, f8, hs3⟩ | hs3
        · clear hs2
          refine Or.inl ⟨_, _, f8, ?_⟩
          show am_W X _ 417 63 _ [(.int v6)] h7 _
          refine aw_istore_n (lv1 := am_put1 _ 1 _) (pc1 := 64) at_417_63 rfl rfl ?_
          refine aw_iload_n (pc1 := 65) at_417_64 am_lk0 rfl ?_
          by_cases c9 : v6 = 0
          · rw [if_pos c9] at hs3
            refine aw_ifeq_t at_417_65 c9 ?_
            exact rg_417_74 (fun z0 z1 z2 h o hs3 => ih z0 z1 z2 h o hs3) x0 v6 x2 h7 o (am_lk1 l0 rfl (by rw [am_isRc i0]; rfl)) am_lk0 (am_lk1 l2 rfl rfl) i0 hs3
          · rw [if_neg c9] at hs3
            refine aw_ifeq_f (pc1 := 68) at_417_65 c9 rfl ?_
            refine aw_vload_n (pc1 := 69) at_417_68 (am_lk1 l0 rfl (by rw [am_isRc i0]; rfl)) i0 rfl ?_
            refine aw_iload_n (pc1 := 70) at_417_69 (am_lk1 l2 rfl rfl) rfl ?_
            obtain ⟨z10, hs4⟩ := am_ift hs3
            clear hs3
            refine aw_call (F := fm_418 x0 x2 h7) (t := true) (na := 2) (kd := 1) (as := [x0, (.int x2)]) at_417_70 (am_k3v kb_418) mn_418 mk_418 rfl rfl (am_ok_v mi_418 (am_hl rfl (am_ccR i0 (am_ccI am_cats_0)) rfl) z10) (am_hc am_cats_0 rfl) (fun _ => ⟨rfl, hh_417⟩) (fun o1 hz9 => rm_418 x0 x2 h7 o1 i0 hz9) ?_
            rcases am_cI_s hs4 with ⟨v11, h12, f13, hs5⟩ | hs5
            · clear hs4
              refine Or.inl ⟨_, _, f13, ?_⟩
              show am_W X _ 417 73 _ [(.int v11)] h12 _
              refine aw_popi (pc1 := 74) at_417_73 rfl ?_
              exact rg_417_74 (fun z0 z1 z2 h o hs5 => ih z0 z1 z2 h o hs5) x0 v6 x2 h12 o (am_lk1 l0 rfl (by rw [am_isRc i0]; rfl)) am_lk0 (am_lk1 l2 rfl rfl) i0 hs5
            · clear hs4
              exact Or.inr hs5
        · clear hs2
          exact Or.inr hs3
def fg_417_33 (N : Nat) (rec_2 : Value → Int32 → am_H → Option am_O) (x0 : Value) (x1 : Int32) (s0 : Value) (s1 : Int32) (s2 : Int32) (h : am_H) : Option am_O := ((am_pS 0 s0 s1 s2 h).bind fun h1 => (rec_2 x0 ((x1 + 1)) h1))
theorem rg_417_33 {X : am_X} {d : Nat} {N : Nat} {rec_2 : Value → Int32 → am_H → Option am_O} (q_2 : ∀ (x0 : Value) (x1 : Int32) (h : am_H) (o : am_O), rec_2 x0 x1 h = some o → ∀ lv : am_LV, (lv.lookup 0 = some x0) → (lv.lookup 1 = some (.int x1)) → (am_isR x0 = true) → am_W X (d + 1) 417 2 lv [] h (fun q => q = o)) {lv : am_LV} (x0 : Value) (x1 : Int32) (s0 : Value) (s1 : Int32) (s2 : Int32) (h : am_H) (o : am_O) (l0 : lv.lookup 0 = some x0) (l1 : lv.lookup 1 = some (.int x1)) (i0 : am_isR x0 = true) (j0 : am_isR s0 = true) (hs : fg_417_33 N rec_2 x0 x1 s0 s1 s2 h = some o) : am_W X (d + 1) 417 33 lv [(.int s2), (.int s1), s0] h (fun q => q = o) := by
  unfold fg_417_33 at hs
  obtain ⟨h1, e2, hs1⟩ := am_bind hs
  clear hs
  refine aw_pS (pc1 := 34) at_417_33 (Or.inl ⟨rfl, rfl⟩) e2 rfl ?_
  refine aw_iinc (v := (x1 + 1)) (c := 1) (lv1 := am_put1 _ 1 _) (pc1 := 37) at_417_34 l1 (by decide) rfl rfl rfl ?_
  refine aw_goto at_417_37 ?_
  exact q_2 x0 ((x1 + 1)) h1 o hs1 _ (am_lk1 l0 rfl (by rw [am_isRc i0]; rfl)) am_lk0 i0
def fg_417_2 (N : Nat) : Nat → Value → Int32 → am_H → Option am_O
  | 0 => fun _ _ _ => none
  | K + 1 => fun x0 x1 h => ((am_vI (am_pG 3087 x0 h)).bind fun v1 => (if v1 ≤ x1 then (if am_pOk 12 x0 h then am_cI true (fm_407 x0 h) (fun v5 h6 => (fg_417_47 N N x0 v5 0 h6)) else none) else ((am_vR (am_pG 3100 x0 h)).bind fun v8 => ((am_vI (am_pG 3126 x0 h)).bind fun v10 => (if v10 ≤ x1 then (fg_417_33 N (fg_417_2 N K) x0 x1 v8 x1 0 h) else ((am_vR (am_pG 3127 x0 h)).bind fun v13 => ((am_pA 0 v13 x1 h).bind fun v15 => (fg_417_33 N (fg_417_2 N K) x0 x1 v8 x1 v15 h))))))))
theorem rg_417_2 {X : am_X} {d : Nat} {N : Nat} : ∀ (K : Nat) (x0 : Value) (x1 : Int32) (h : am_H) (o : am_O), fg_417_2 N K x0 x1 h = some o → ∀ lv : am_LV, (lv.lookup 0 = some x0) → (lv.lookup 1 = some (.int x1)) → (am_isR x0 = true) → am_W X (d + 1) 417 2 lv [] h (fun q => q = o) := by
  intro K
  induction K with
  | zero => intro x0 x1 h o hs; cases hs
  | succ K ih =>
    intro x0 x1 h o hs lv l0 l1 i0
    unfold fg_417_2 at hs
    refine aw_iload_n (pc1 := 3) at_417_2 l1 rfl ?_
    refine aw_vload_n (pc1 := 4) at_417_3 l0 i0 rfl ?_
    obtain ⟨v1, e2, hs1⟩ := am_bind hs
    clear hs
    refine aw_pG (pc1 := 7) at_417_4 (am_vI_s e2) rfl ?_
    by_cases c3 : v1 ≤ x1
    · rw [if_pos c3] at hs1
      refine aw_icge_t at_417_7 c3 ?_
      refine aw_vload_n (pc1 := 41) at_417_40 l0 i0 rfl ?_
      obtain ⟨z4, hs2⟩ := am_ift hs1
      clear hs1
      refine aw_call (F := fm_407 x0 h) (t := true) (na := 1) (kd := 1) (as := [x0]) at_417_41 (am_k3v kb_407) mn_407 mk_407 rfl rfl (am_ok_v mi_407 (am_hl rfl (am_ccR i0 am_cats_0) rfl) z4) (am_hc am_cats_0 rfl) (fun _ => ⟨rfl, hh_417⟩) (fun o1 hz9 => rm_407 x0 h o1 i0 hz9) ?_
      rcases am_cI_s hs2 with ⟨v5, h6, f7, hs3⟩ | hs3
      · clear hs2
        refine Or.inl ⟨_, _, f7, ?_⟩
        show am_W X _ 417 44 _ [(.int v5)] h6 _
        refine aw_istore_n (lv1 := am_put1 _ 1 _) (pc1 := 45) at_417_44 rfl rfl ?_
        refine aw_iconst (v := 0) (pc1 := 46) at_417_45 (by decide) rfl ?_
        refine aw_istore_n (lv1 := am_put1 _ 2 _) (pc1 := 47) at_417_46 rfl rfl ?_
        exact rg_417_47 N x0 v5 0 h6 o hs3 _ (am_lk1 (am_lk1 l0 rfl (by rw [am_isRc i0]; rfl)) rfl rfl) (am_lk1 am_lk0 rfl rfl) am_lk0 i0
      · clear hs2
        exact Or.inr hs3
    · rw [if_neg c3] at hs1
      refine aw_icge_f (pc1 := 10) at_417_7 c3 rfl ?_
      refine aw_vload_n (pc1 := 11) at_417_10 l0 i0 rfl ?_
      obtain ⟨v8, e9, hs4⟩ := am_bind hs1
      clear hs1
      refine aw_pG (pc1 := 14) at_417_11 (am_vR_s e9).1 rfl ?_
      refine aw_iload_n (pc1 := 15) at_417_14 l1 rfl ?_
      refine aw_iload_n (pc1 := 16) at_417_15 l1 rfl ?_
      refine aw_vload_n (pc1 := 17) at_417_16 l0 i0 rfl ?_
      obtain ⟨v10, e11, hs5⟩ := am_bind hs4
      clear hs4
      refine aw_pG (pc1 := 20) at_417_17 (am_vI_s e11) rfl ?_
      by_cases c12 : v10 ≤ x1
      · rw [if_pos c12] at hs5
        refine aw_icge_t at_417_20 c12 ?_
        refine aw_iconst (v := 0) (pc1 := 33) at_417_32 (by decide) rfl ?_
        exact rg_417_33 (fun z0 z1 h o hs5 => ih z0 z1 h o hs5) x0 x1 v8 x1 0 h o l0 l1 i0 (am_vR_s e9).2 hs5
      · rw [if_neg c12] at hs5
        refine aw_icge_f (pc1 := 23) at_417_20 c12 rfl ?_
        refine aw_vload_n (pc1 := 24) at_417_23 l0 i0 rfl ?_
        obtain ⟨v13, e14, hs6⟩ := am_bind hs5
        clear hs5
        refine aw_pG (pc1 := 27) at_417_24 (am_vR_s e14).1 rfl ?_
        refine aw_iload_n (pc1 := 28) at_417_27 l1 rfl ?_
        obtain ⟨v15, e16, hs7⟩ := am_bind hs6
        clear hs6
        refine aw_pA (pc1 := 29) at_417_28 (Or.inl ⟨rfl, rfl⟩) e16 rfl ?_
        refine aw_goto at_417_29 ?_
        exact rg_417_33 (fun z0 z1 h o hs7 => ih z0 z1 h o hs7) x0 x1 v8 x1 v15 h o l0 l1 i0 (am_vR_s e9).2 hs7
def fg_417_0 (N : Nat) (x0 : Value) (h : am_H) : Option am_O := (fg_417_2 N N x0 0 h)
theorem rg_417_0 {X : am_X} {d : Nat} {N : Nat} {lv : am_LV} (x0 : Value) (h : am_H) (o : am_O) (l0 : lv.lookup 0 = some x0) (i0 : am_isR x0 = true) (hs : fg_417_0 N x0 h = some o) : am_W X (d + 1) 417 0 lv [] h (fun q => q = o) := by
  unfold fg_417_0 at hs
  refine aw_iconst (v := 0) (pc1 := 1) at_417_0 (by decide) rfl ?_
  refine aw_istore_n (lv1 := am_put1 _ 1 _) (pc1 := 2) at_417_1 rfl rfl ?_
  exact rg_417_2 N x0 0 h o hs _ (am_lk1 l0 rfl (by rw [am_isRc i0]; rfl)) am_lk0 i0
def fm_417 (N : Nat) (y0 : Value) (h : am_H) : Option am_O := fg_417_0 N y0 h
theorem rm_417 {X : am_X} {d : Nat} {N : Nat} (y0 : Value) (h : am_H) (o : am_O) (i0 : am_isR y0 = true) (hs : fm_417 N y0 h = some o) : am_W X (d + 1) 417 0 (am_args 0 [y0]) [] h (fun q => q = o) := by
  rw [am_args_R i0]
  exact rg_417_0 y0 h o rfl i0 hs
def fg_403_79 (N : Nat) (s0 : Value) (s1 : Int32) (h : am_H) : Option am_O := ((am_pP 3121 s0 (.int s1) h).bind fun h1 => some (.inl (none, h1)))
theorem rg_403_79 {X : am_X} {d : Nat} {N : Nat} {lv : am_LV} (s0 : Value) (s1 : Int32) (h : am_H) (o : am_O) (j0 : am_isR s0 = true) (hs : fg_403_79 N s0 s1 h = some o) : am_W X (d + 5) 403 79 lv [(.int s1), s0] h (fun q => q = o) := by
  unfold fg_403_79 at hs
  obtain ⟨h1, e2, hs1⟩ := am_bind hs
  clear hs
  refine aw_pP (pc1 := 82) at_403_79 e2 rfl ?_
  cases hs1
  exact aw_vret at_403_82 rt_403 rfl
def fg_403_63 (N : Nat) (x0 : Value) (h : am_H) : Option am_O := ((am_vI (am_pG 3120 x0 h)).bind fun v1 => (if v1 ≤ 0 then ((am_vI (am_pG 3121 x0 h)).bind fun v4 => (fg_403_79 N x0 v4 h)) else (fg_403_79 N x0 0 h)))
theorem rg_403_63 {X : am_X} {d : Nat} {N : Nat} {lv : am_LV} (x0 : Value) (h : am_H) (o : am_O) (l0 : lv.lookup 0 = some x0) (i0 : am_isR x0 = true) (hs : fg_403_63 N x0 h = some o) : am_W X (d + 5) 403 63 lv [] h (fun q => q = o) := by
  unfold fg_403_63 at hs
  refine aw_vload_n (pc1 := 64) at_403_63 l0 i0 rfl ?_
  refine aw_vload_n (pc1 := 65) at_403_64 l0 i0 rfl ?_
  obtain ⟨v1, e2, hs1⟩ := am_bind hs
  clear hs
  refine aw_pG (pc1 := 68) at_403_65 (am_vI_s e2) rfl ?_
  by_cases c3 : v1 ≤ 0
  · rw [if_pos c3] at hs1
    refine aw_ifle_t at_403_68 c3 ?_
    refine aw_vload_n (pc1 := 76) at_403_75 l0 i0 rfl ?_
    obtain ⟨v4, e5, hs2⟩ := am_bind hs1
    clear hs1
    refine aw_pG (pc1 := 79) at_403_76 (am_vI_s e5) rfl ?_
    exact rg_403_79 x0 v4 h o  i0 hs2
  · rw [if_neg c3] at hs1
    refine aw_ifle_f (pc1 := 71) at_403_68 c3 rfl ?_
    refine aw_iconst (v := 0) (pc1 := 72) at_403_71 (by decide) rfl ?_
    refine aw_goto at_403_72 ?_
    exact rg_403_79 x0 0 h o  i0 hs1
def fg_403_0 (N : Nat) (x0 : Value) (h : am_H) : Option am_O := ((am_pP 3120 x0 (.int 0) h).bind fun h1 => ((am_pP 3122 x0 (.int 0) h1).bind fun h3 => ((am_pP 3121 x0 (.int 0) h3).bind fun h5 => ((am_vI (am_pG 3085 x0 h5)).bind fun v7 => (if ¬ v7 = 0 then ((am_vI (am_pG 3085 x0 h5)).bind fun v10 => (if ¬ v10 = 1 then ((am_vI (am_pG 3085 x0 h5)).bind fun v13 => (if ¬ v13 = 2 then (if am_pOk 12 x0 h5 then am_cV true (fm_417 N x0 h5) (fun h18 => (fg_403_63 N x0 h18)) else none) else (if am_pOk 12 x0 h5 then am_cV true (fm_416 N x0 h5) (fun h22 => (fg_403_63 N x0 h22)) else none))) else (if am_pOk 12 x0 h5 then am_cV true (fm_415 N x0 h5) (fun h26 => (fg_403_63 N x0 h26)) else none))) else (if am_pOk 12 x0 h5 then am_cV true (fm_404 N x0 h5) (fun h30 => (fg_403_63 N x0 h30)) else none))))))
theorem rg_403_0 {X : am_X} {d : Nat} {N : Nat} {lv : am_LV} (x0 : Value) (h : am_H) (o : am_O) (l0 : lv.lookup 0 = some x0) (i0 : am_isR x0 = true) (hs : fg_403_0 N x0 h = some o) : am_W X (d + 5) 403 0 lv [] h (fun q => q = o) := by
  unfold fg_403_0 at hs
  refine aw_vload_n (pc1 := 1) at_403_0 l0 i0 rfl ?_
  refine aw_iconst (v := 0) (pc1 := 2) at_403_1 (by decide) rfl ?_
  obtain ⟨h1, e2, hs1⟩ := am_bind hs
  clear hs
  refine aw_pP (pc1 := 5) at_403_2 e2 rfl ?_
  refine aw_vload_n (pc1 := 6) at_403_5 l0 i0 rfl ?_
  refine aw_iconst (v := 0) (pc1 := 7) at_403_6 (by decide) rfl ?_
  obtain ⟨h3, e4, hs2⟩ := am_bind hs1
  clear hs1
  refine aw_pP (pc1 := 10) at_403_7 e4 rfl ?_
  refine aw_vload_n (pc1 := 11) at_403_10 l0 i0 rfl ?_
  refine aw_iconst (v := 0) (pc1 := 12) at_403_11 (by decide) rfl ?_
  obtain ⟨h5, e6, hs3⟩ := am_bind hs2
  clear hs2
  refine aw_pP (pc1 := 15) at_403_12 e6 rfl ?_
  refine aw_vload_n (pc1 := 16) at_403_15 l0 i0 rfl ?_
  obtain ⟨v7, e8, hs4⟩ := am_bind hs3
  clear hs3
  refine aw_pG (pc1 := 19) at_403_16 (am_vI_s e8) rfl ?_
  by_cases c9 : ¬ v7 = 0
  · rw [if_pos c9] at hs4
    refine aw_ifne_t at_403_19 c9 ?_
    refine aw_vload_n (pc1 := 30) at_403_29 l0 i0 rfl ?_
    obtain ⟨v10, e11, hs5⟩ := am_bind hs4
    clear hs4
    refine aw_pG (pc1 := 33) at_403_30 (am_vI_s e11) rfl ?_
    refine aw_iconst (v := 1) (pc1 := 34) at_403_33 (by decide) rfl ?_
    by_cases c12 : ¬ v10 = 1
    · rw [if_pos c12] at hs5
      refine aw_icne_t at_403_34 c12 ?_
      refine aw_vload_n (pc1 := 45) at_403_44 l0 i0 rfl ?_
      obtain ⟨v13, e14, hs6⟩ := am_bind hs5
      clear hs5
      refine aw_pG (pc1 := 48) at_403_45 (am_vI_s e14) rfl ?_
      refine aw_iconst (v := 2) (pc1 := 49) at_403_48 (by decide) rfl ?_
      by_cases c15 : ¬ v13 = 2
      · rw [if_pos c15] at hs6
        refine aw_icne_t at_403_49 c15 ?_
        refine aw_vload_n (pc1 := 60) at_403_59 l0 i0 rfl ?_
        obtain ⟨z16, hs7⟩ := am_ift hs6
        clear hs6
        refine aw_call (F := fm_417 N x0 h5) (t := true) (na := 1) (kd := 1) (as := [x0]) at_403_60 (am_k3v kb_417) mn_417 mk_417 rfl rfl (am_ok_v mi_417 (am_hl rfl (am_ccR i0 am_cats_0) rfl) z16) (am_hc am_cats_0 rfl) (fun _ => ⟨rfl, hh_403⟩) (fun o1 hz9 => rm_417 x0 h5 o1 i0 hz9) ?_
        rcases am_cV_s hs7 with ⟨h18, f19, hs8⟩ | hs8
        · clear hs7
          refine Or.inl ⟨_, _, f19, ?_⟩
          show am_W X _ 403 63 _ [] h18 _
          exact rg_403_63 x0 h18 o l0 i0 hs8
        · clear hs7
          exact Or.inr hs8
      · rw [if_neg c15] at hs6
        refine aw_icne_f (pc1 := 52) at_403_49 c15 rfl ?_
        refine aw_vload_n (pc1 := 53) at_403_52 l0 i0 rfl ?_
        obtain ⟨z20, hs9⟩ := am_ift hs6
        clear hs6
        refine aw_call (F := fm_416 N x0 h5) (t := true) (na := 1) (kd := 1) (as := [x0]) at_403_53 (am_k3v kb_416) mn_416 mk_416 rfl rfl (am_ok_v mi_416 (am_hl rfl (am_ccR i0 am_cats_0) rfl) z20) (am_hc am_cats_0 rfl) (fun _ => ⟨rfl, hh_403⟩) (fun o1 hz9 => rm_416 x0 h5 o1 i0 hz9) ?_
        rcases am_cV_s hs9 with ⟨h22, f23, hs10⟩ | hs10
        · clear hs9
          refine Or.inl ⟨_, _, f23, ?_⟩
          show am_W X _ 403 56 _ [] h22 _
          refine aw_goto at_403_56 ?_
          exact rg_403_63 x0 h22 o l0 i0 hs10
        · clear hs9
          exact Or.inr hs10
    · rw [if_neg c12] at hs5
      refine aw_icne_f (pc1 := 37) at_403_34 c12 rfl ?_
      refine aw_vload_n (pc1 := 38) at_403_37 l0 i0 rfl ?_
      obtain ⟨z24, hs11⟩ := am_ift hs5
      clear hs5
      refine aw_call (F := fm_415 N x0 h5) (t := true) (na := 1) (kd := 1) (as := [x0]) at_403_38 (am_k3v kb_415) mn_415 mk_415 rfl rfl (am_ok_v mi_415 (am_hl rfl (am_ccR i0 am_cats_0) rfl) z24) (am_hc am_cats_0 rfl) (fun _ => ⟨rfl, hh_403⟩) (fun o1 hz9 => rm_415 x0 h5 o1 i0 hz9) ?_
      rcases am_cV_s hs11 with ⟨h26, f27, hs12⟩ | hs12
      · clear hs11
        refine Or.inl ⟨_, _, f27, ?_⟩
        show am_W X _ 403 41 _ [] h26 _
        refine aw_goto at_403_41 ?_
        exact rg_403_63 x0 h26 o l0 i0 hs12
      · clear hs11
        exact Or.inr hs12
  · rw [if_neg c9] at hs4
    refine aw_ifne_f (pc1 := 22) at_403_19 c9 rfl ?_
    refine aw_vload_n (pc1 := 23) at_403_22 l0 i0 rfl ?_
    obtain ⟨z28, hs13⟩ := am_ift hs4
    clear hs4
    refine aw_call (F := fm_404 N x0 h5) (t := true) (na := 1) (kd := 1) (as := [x0]) at_403_23 (am_k3v kb_404) mn_404 mk_404 rfl rfl (am_ok_v mi_404 (am_hl rfl (am_ccR i0 am_cats_0) rfl) z28) (am_hc am_cats_0 rfl) (fun _ => ⟨rfl, hh_403⟩) (fun o1 hz9 => rm_404 x0 h5 o1 i0 hz9) ?_
    rcases am_cV_s hs13 with ⟨h30, f31, hs14⟩ | hs14
    · clear hs13
      refine Or.inl ⟨_, _, f31, ?_⟩
      show am_W X _ 403 26 _ [] h30 _
      refine aw_goto at_403_26 ?_
      exact rg_403_63 x0 h30 o l0 i0 hs14
    · clear hs13
      exact Or.inr hs14
def fm_403 (N : Nat) (y0 : Value) (h : am_H) : Option am_O := fg_403_0 N y0 h
theorem rm_403 {X : am_X} {d : Nat} {N : Nat} (y0 : Value) (h : am_H) (o : am_O) (i0 : am_isR y0 = true) (hs : fm_403 N y0 h = some o) : am_W X (d + 5) 403 0 (am_args 0 [y0]) [] h (fun q => q = o) := by
  rw [am_args_R i0]
  exact rg_403_0 y0 h o rfl i0 hs
def fg_419_0 (x0 : Value) (h : am_H) : Option am_O := ((am_vI (am_pG 3121 x0 h)).bind fun v1 => ((am_pP 3128 x0 (.int v1) h).bind fun h3 => ((am_vI (am_pG 3122 x0 h3)).bind fun v5 => ((am_pP 3129 x0 (.int v5) h3).bind fun h7 => ((am_vI (am_pG 3120 x0 h7)).bind fun v9 => some (.inl (some (.int v9), h7)))))))
theorem rg_419_0 {X : am_X} {d : Nat} {lv : am_LV} (x0 : Value) (h : am_H) (o : am_O) (l0 : lv.lookup 0 = some x0) (i0 : am_isR x0 = true) (hs : fg_419_0 x0 h = some o) : am_W X (d) 419 0 lv [] h (fun q => q = o) := by
  unfold fg_419_0 at hs
  refine aw_vload_n (pc1 := 1) at_419_0 l0 i0 rfl ?_
  refine aw_vload_n (pc1 := 2) at_419_1 l0 i0 rfl ?_
  obtain ⟨v1, e2, hs1⟩ := am_bind hs
  clear hs
  refine aw_pG (pc1 := 5) at_419_2 (am_vI_s e2) rfl ?_
  obtain ⟨h3, e4, hs2⟩ := am_bind hs1
  clear hs1
  refine aw_pP (pc1 := 8) at_419_5 e4 rfl ?_
  refine aw_vload_n (pc1 := 9) at_419_8 l0 i0 rfl ?_
  refine aw_vload_n (pc1 := 10) at_419_9 l0 i0 rfl ?_
  obtain ⟨v5, e6, hs3⟩ := am_bind hs2
  clear hs2
  refine aw_pG (pc1 := 13) at_419_10 (am_vI_s e6) rfl ?_
  obtain ⟨h7, e8, hs4⟩ := am_bind hs3
  clear hs3
  refine aw_pP (pc1 := 16) at_419_13 e8 rfl ?_
  refine aw_vload_n (pc1 := 17) at_419_16 l0 i0 rfl ?_
  obtain ⟨v9, e10, hs5⟩ := am_bind hs4
  clear hs4
  refine aw_pG (pc1 := 20) at_419_17 (am_vI_s e10) rfl ?_
  cases hs5
  exact aw_iret at_419_20 (by rw [rt_419]; rfl) rfl
def fm_419 (y0 : Value) (h : am_H) : Option am_O := fg_419_0 y0 h
theorem rm_419 {X : am_X} {d : Nat} (y0 : Value) (h : am_H) (o : am_O) (i0 : am_isR y0 = true) (hs : fm_419 y0 h = some o) : am_W X (d) 419 0 (am_args 0 [y0]) [] h (fun q => q = o) := by
  rw [am_args_R i0]
  exact rg_419_0 y0 h o rfl i0 hs
def fg_401_22 (N : Nat) (x0 : Value) (x1 : Int32) (x2 : Int32) (s0 : Value) (s1 : Int32) (h : am_H) : Option am_O := ((am_pP 3072 s0 (.int s1) h).bind fun h1 => ((am_vI (am_pG 3072 x0 h1)).bind fun v3 => (if v3 ≤ 0 then (if am_pOk 12 x0 h1 then am_cV true (fm_359 N x0 x1 h1) (fun h8 => (if am_pOk 12 x0 h8 then am_cV true (fm_402 N x0 x2 h8) (fun h12 => (if am_pOk 12 x0 h12 then am_cV true (fm_403 N x0 h12) (fun h16 => (if am_pOk 12 x0 h16 then am_cI true (fm_419 x0 h16) (fun v19 h20 => some (.inl (some (.int v19), h20))) else none)) else none)) else none)) else none) else some (.inl (some (.int 0), h1)))))
theorem rg_401_22 {X : am_X} {d : Nat} {N : Nat} {lv : am_LV} (x0 : Value) (x1 : Int32) (x2 : Int32) (s0 : Value) (s1 : Int32) (h : am_H) (o : am_O) (l0 : lv.lookup 0 = some x0) (l1 : lv.lookup 1 = some (.int x1)) (l2 : lv.lookup 2 = some (.int x2)) (i0 : am_isR x0 = true) (j0 : am_isR s0 = true) (hs : fg_401_22 N x0 x1 x2 s0 s1 h = some o) : am_W X (d + 6) 401 22 lv [(.int s1), s0] h (fun q => q = o) := by
  unfold fg_401_22 at hs
  obtain ⟨h1, e2, hs1⟩ := am_bind hs
  clear hs
  refine aw_pP (pc1 := 25) at_401_22 e2 rfl ?_
  refine aw_vload_n (pc1 := 26) at_401_25 l0 i0 rfl ?_
  obtain ⟨v3, e4, hs2⟩ := am_bind hs1
  clear hs1
  refine aw_pG (pc1 := 29) at_401_26 (am_vI_s e4) rfl ?_
  by_cases c5 : v3 ≤ 0
  · rw [if_pos c5] at hs2
    refine aw_ifle_t at_401_29 c5 ?_
    refine aw_vload_n (pc1 := 35) at_401_34 l0 i0 rfl ?_
    refine aw_iload_n (pc1 := 36) at_401_35 l1 rfl ?_
    obtain ⟨z6, hs3⟩ := am_ift hs2
    clear hs2
    refine aw_call (F := fm_359 N x0 x1 h1) (t := true) (na := 2) (kd := 1) (as := [x0, (.int x1)]) at_401_36 (am_k3v kb_359) mn_359 mk_359 rfl rfl (am_ok_v mi_359 (am_hl rfl (am_ccR i0 (am_ccI am_cats_0)) rfl) z6) (am_hc am_cats_0 rfl) (fun _ => ⟨rfl, hh_401⟩) (fun o1 hz9 => rm_359 x0 x1 h1 o1 i0 hz9) ?_
    rcases am_cV_s hs3 with ⟨h8, f9, hs4⟩ | hs4
    · clear hs3
      refine Or.inl ⟨_, _, f9, ?_⟩
      show am_W X _ 401 39 _ [] h8 _
      refine aw_vload_n (pc1 := 40) at_401_39 l0 i0 rfl ?_
      refine aw_iload_n (pc1 := 41) at_401_40 l2 rfl ?_
      obtain ⟨z10, hs5⟩ := am_ift hs4
      clear hs4
      refine aw_call (F := fm_402 N x0 x2 h8) (t := true) (na := 2) (kd := 1) (as := [x0, (.int x2)]) at_401_41 (am_k3v kb_402) mn_402 mk_402 rfl rfl (am_ok_v mi_402 (am_hl rfl (am_ccR i0 (am_ccI am_cats_0)) rfl) z10) (am_hc am_cats_0 rfl) (fun _ => ⟨rfl, hh_401⟩) (fun o1 hz9 => rm_402 x0 x2 h8 o1 i0 hz9) ?_
      rcases am_cV_s hs5 with ⟨h12, f13, hs6⟩ | hs6
      · clear hs5
        refine Or.inl ⟨_, _, f13, ?_⟩
        show am_W X _ 401 44 _ [] h12 _
        refine aw_vload_n (pc1 := 45) at_401_44 l0 i0 rfl ?_
        obtain ⟨z14, hs7⟩ := am_ift hs6
        clear hs6
        refine aw_call (F := fm_403 N x0 h12) (t := true) (na := 1) (kd := 1) (as := [x0]) at_401_45 (am_k3v kb_403) mn_403 mk_403 rfl rfl (am_ok_v mi_403 (am_hl rfl (am_ccR i0 am_cats_0) rfl) z14) (am_hc am_cats_0 rfl) (fun _ => ⟨rfl, hh_401⟩) (fun o1 hz9 => rm_403 x0 h12 o1 i0 hz9) ?_
        rcases am_cV_s hs7 with ⟨h16, f17, hs8⟩ | hs8
        · clear hs7
          refine Or.inl ⟨_, _, f17, ?_⟩
          show am_W X _ 401 48 _ [] h16 _
          refine aw_vload_n (pc1 := 49) at_401_48 l0 i0 rfl ?_
          obtain ⟨z18, hs9⟩ := am_ift hs8
          clear hs8
          refine aw_call (F := fm_419 x0 h16) (t := true) (na := 1) (kd := 1) (as := [x0]) at_401_49 (am_k3v kb_419) mn_419 mk_419 rfl rfl (am_ok_v mi_419 (am_hl rfl (am_ccR i0 am_cats_0) rfl) z18) (am_hc am_cats_0 rfl) (fun _ => ⟨rfl, hh_401⟩) (fun o1 hz9 => rm_419 x0 h16 o1 i0 hz9) ?_
          rcases am_cI_s hs9 with ⟨v19, h20, f21, hs10⟩ | hs10
          · clear hs9
            refine Or.inl ⟨_, _, f21, ?_⟩
            show am_W X _ 401 52 _ [(.int v19)] h20 _
            cases hs10
            exact aw_iret at_401_52 (by rw [rt_401]; rfl) rfl
          · clear hs9
            exact Or.inr hs10
        · clear hs7
          exact Or.inr hs8
      · clear hs5
        exact Or.inr hs6
    · clear hs3
      exact Or.inr hs4
  · rw [if_neg c5] at hs2
    refine aw_ifle_f (pc1 := 32) at_401_29 c5 rfl ?_
    refine aw_iconst (v := 0) (pc1 := 33) at_401_32 (by decide) rfl ?_
    cases hs2
    exact aw_iret at_401_33 (by rw [rt_401]; rfl) rfl
def fg_401_21 (N : Nat) (x0 : Value) (x1 : Int32) (x2 : Int32) (s0 : Value) (h : am_H) : Option am_O := (fg_401_22 N x0 x1 x2 s0 1 h)
theorem rg_401_21 {X : am_X} {d : Nat} {N : Nat} {lv : am_LV} (x0 : Value) (x1 : Int32) (x2 : Int32) (s0 : Value) (h : am_H) (o : am_O) (l0 : lv.lookup 0 = some x0) (l1 : lv.lookup 1 = some (.int x1)) (l2 : lv.lookup 2 = some (.int x2)) (i0 : am_isR x0 = true) (j0 : am_isR s0 = true) (hs : fg_401_21 N x0 x1 x2 s0 h = some o) : am_W X (d + 6) 401 21 lv [s0] h (fun q => q = o) := by
  unfold fg_401_21 at hs
  refine aw_iconst (v := 1) (pc1 := 22) at_401_21 (by decide) rfl ?_
  exact rg_401_22 x0 x1 x2 s0 1 h o l0 l1 l2 i0 j0 hs
def fg_401_0 (N : Nat) (x0 : Value) (x1 : Int32) (x2 : Int32) (h : am_H) : Option am_O := (if am_pOk 12 x0 h then am_cI true (fm_358 x0 x1 h) (fun v2 h3 => (if v2 = 0 then (fg_401_21 N x0 x1 x2 x0 h3) else (if am_pOk 12 x0 h3 then am_cI true (fm_398 x0 x2 h3) (fun v7 h8 => (if v7 = 0 then (fg_401_21 N x0 x1 x2 x0 h8) else (fg_401_22 N x0 x1 x2 x0 0 h8))) else none))) else none)
theorem rg_401_0 {X : am_X} {d : Nat} {N : Nat} {lv : am_LV} (x0 : Value) (x1 : Int32) (x2 : Int32) (h : am_H) (o : am_O) (l0 : lv.lookup 0 = some x0) (l1 : lv.lookup 1 = some (.int x1)) (l2 : lv.lookup 2 = some (.int x2)) (i0 : am_isR x0 = true) (hs : fg_401_0 N x0 x1 x2 h = some o) : am_W X (d + 6) 401 0 lv [] h (fun q => q = o) := by
  unfold fg_401_0 at hs
  refine aw_vload_n (pc1 := 1) at_401_0 l0 i0 rfl ?_
  refine aw_vload_n (pc1 := 2) at_401_1 l0 i0 rfl ?_
  refine aw_iload_n (pc1 := 3) at_401_2 l1 rfl ?_
  obtain ⟨z1, hs1⟩ := am_ift hs
  clear hs
  refine aw_call (F := fm_358 x0 x1 h) (t := true) (na := 2) (kd := 1) (as := [x0, (.int x1)]) at_401_3 (am_k3v kb_358) mn_358 mk_358 rfl rfl (am_ok_v mi_358 (am_hl rfl (am_ccR i0 (am_ccI am_cats_0)) rfl) z1) (am_hc (am_ccR i0 am_cats_0) rfl) (fun _ => ⟨rfl, hh_401⟩) (fun o1 hz9 => rm_358 x0 x1 h o1 i0 hz9) ?_
  rcases am_cI_s hs1 with ⟨v2, h3, f4, hs2⟩ | hs2
  · clear hs1
    refine Or.inl ⟨_, _, f4, ?_⟩
    show am_W X _ 401 6 _ [(.int v2), x0] h3 _
    by_cases c5 : v2 = 0
    · rw [if_pos c5] at hs2
      refine aw_ifeq_t at_401_6 c5 ?_
      exact rg_401_21 x0 x1 x2 x0 h3 o l0 l1 l2 i0 i0 hs2
    · rw [if_neg c5] at hs2
      refine aw_ifeq_f (pc1 := 9) at_401_6 c5 rfl ?_
      refine aw_vload_n (pc1 := 10) at_401_9 l0 i0 rfl ?_
      refine aw_iload_n (pc1 := 11) at_401_10 l2 rfl ?_
      obtain ⟨z6, hs3⟩ := am_ift hs2
      clear hs2
      refine aw_call (F := fm_398 x0 x2 h3) (t := true) (na := 2) (kd := 1) (as := [x0, (.int x2)]) at_401_11 (am_k3v kb_398) mn_398 mk_398 rfl rfl (am_ok_v mi_398 (am_hl rfl (am_ccR i0 (am_ccI am_cats_0)) rfl) z6) (am_hc (am_ccR i0 am_cats_0) rfl) (fun _ => ⟨rfl, hh_401⟩) (fun o1 hz9 => rm_398 x0 x2 h3 o1 i0 hz9) ?_
      rcases am_cI_s hs3 with ⟨v7, h8, f9, hs4⟩ | hs4
      · clear hs3
        refine Or.inl ⟨_, _, f9, ?_⟩
        show am_W X _ 401 14 _ [(.int v7), x0] h8 _
        by_cases c10 : v7 = 0
        · rw [if_pos c10] at hs4
          refine aw_ifeq_t at_401_14 c10 ?_
          exact rg_401_21 x0 x1 x2 x0 h8 o l0 l1 l2 i0 i0 hs4
        · rw [if_neg c10] at hs4
          refine aw_ifeq_f (pc1 := 17) at_401_14 c10 rfl ?_
          refine aw_iconst (v := 0) (pc1 := 18) at_401_17 (by decide) rfl ?_
          refine aw_goto at_401_18 ?_
          exact rg_401_22 x0 x1 x2 x0 0 h8 o l0 l1 l2 i0 i0 hs4
      · clear hs3
        exact Or.inr hs4
  · clear hs1
    exact Or.inr hs2
def fm_401 (N : Nat) (y0 : Value) (y1 : Int32) (y2 : Int32) (h : am_H) : Option am_O := fg_401_0 N y0 y1 y2 h
theorem rm_401 {X : am_X} {d : Nat} {N : Nat} (y0 : Value) (y1 : Int32) (y2 : Int32) (h : am_H) (o : am_O) (i0 : am_isR y0 = true) (hs : fm_401 N y0 y1 y2 h = some o) : am_W X (d + 6) 401 0 (am_args 0 [y0, .int y1, .int y2]) [] h (fun q => q = o) := by
  rw [am_args_R i0, am_args_I, am_args_I]
  exact rg_401_0 y0 y1 y2 h o rfl rfl rfl i0 hs
def fg_130_0 (N : Nat) (x0 : Value) (x1 : Int32) (x2 : Int32) (x3 : Int32) (x4 : Int32) (h : am_H) : Option am_O := ((am_vR (am_pG 2819 x0 h)).bind fun v1 => ((am_vR (am_pG 514 v1 h)).bind fun v3 => (if am_pOk 11 x0 h then am_cR true (fm_63 x0 x1 h) (fun v6 h7 => (if am_pOk 6 v3 h7 then am_cV true (fm_115 N v3 v6 h7) (fun h11 => ((am_vR (am_pG 2826 x0 h11)).bind fun v13 => ((am_pS 0 v13 0 x2 h11).bind fun h15 => ((am_vR (am_pG 2826 x0 h15)).bind fun v17 => ((am_pS 0 v17 1 x3 h15).bind fun h19 => ((am_vR (am_pG 2826 x0 h19)).bind fun v21 => ((am_pS 0 v21 2 x4 h19).bind fun h23 => ((am_vR (am_pG 2819 x0 h23)).bind fun v25 => ((am_vR (am_pG 514 v25 h23)).bind fun v27 => ((am_vR (am_pG 2826 x0 h23)).bind fun v29 => (if am_pOk 6 v27 h23 then am_cV true (fm_116 N v27 v29 0 h23) (fun h33 => (if am_pOk 11 x0 h33 then am_cI true (fm_128 x0 h33) (fun v36 h37 => some (.inl (some (.int v36), h37))) else none)) else none))))))))))) else none)) else none)))
theorem rg_130_0 {X : am_X} {d : Nat} {N : Nat} {lv : am_LV} (x0 : Value) (x1 : Int32) (x2 : Int32) (x3 : Int32) (x4 : Int32) (h : am_H) (o : am_O) (l0 : lv.lookup 0 = some x0) (l1 : lv.lookup 1 = some (.int x1)) (l2 : lv.lookup 2 = some (.int x2)) (l3 : lv.lookup 3 = some (.int x3)) (l4 : lv.lookup 4 = some (.int x4)) (i0 : am_isR x0 = true) (hs : fg_130_0 N x0 x1 x2 x3 x4 h = some o) : am_W X (d + 82) 130 0 lv [] h (fun q => q = o) := by
  unfold fg_130_0 at hs
  refine aw_vload_n (pc1 := 1) at_130_0 l0 i0 rfl ?_
  obtain ⟨v1, e2, hs1⟩ := am_bind hs
  clear hs
  refine aw_pG (pc1 := 4) at_130_1 (am_vR_s e2).1 rfl ?_
  obtain ⟨v3, e4, hs2⟩ := am_bind hs1
  clear hs1
  refine aw_pG (pc1 := 7) at_130_4 (am_vR_s e4).1 rfl ?_
  refine aw_vload_n (pc1 := 8) at_130_7 l0 i0 rfl ?_
  refine aw_iload_n (pc1 := 9) at_130_8 l1 rfl ?_
  obtain ⟨z5, hs3⟩ := am_ift hs2
  clear hs2
  refine aw_call (F := fm_63 x0 x1 h) (t := true) (na := 2) (kd := 1) (as := [x0, (.int x1)]) at_130_9 (am_k3v kb_63) mn_63 mk_63 rfl rfl (am_ok_v mi_63 (am_hl rfl (am_ccR i0 (am_ccI am_cats_0)) rfl) z5) (am_hc (am_ccR (am_vR_s e4).2 am_cats_0) rfl) (fun _ => ⟨rfl, hh_130⟩) (fun o1 hz9 => rm_63 x0 x1 h o1 i0 hz9) ?_
  rcases am_cR_s hs3 with ⟨v6, h7, f8, iv6, hs4⟩ | hs4
  · clear hs3
    refine Or.inl ⟨_, _, f8, ?_⟩
    show am_W X _ 130 12 _ [v6, v3] h7 _
    obtain ⟨z9, hs5⟩ := am_ift hs4
    clear hs4
    refine aw_call (F := fm_115 N v3 v6 h7) (t := true) (na := 2) (kd := 1) (as := [v3, v6]) at_130_12 (am_k3v kb_115) mn_115 mk_115 rfl rfl (am_ok_v mi_115 (am_hl rfl (am_ccR (am_vR_s e4).2 (am_ccR iv6 am_cats_0)) rfl) z9) (am_hc am_cats_0 rfl) (fun _ => ⟨rfl, hh_130⟩) (fun o1 hz9 => rm_115 v3 v6 h7 o1 (am_vR_s e4).2 iv6 hz9) ?_
    rcases am_cV_s hs5 with ⟨h11, f12, hs6⟩ | hs6
    · clear hs5
      refine Or.inl ⟨_, _, f12, ?_⟩
      show am_W X _ 130 15 _ [] h11 _
      refine aw_vload_n (pc1 := 16) at_130_15 l0 i0 rfl ?_
      obtain ⟨v13, e14, hs7⟩ := am_bind hs6
      clear hs6
      refine aw_pG (pc1 := 19) at_130_16 (am_vR_s e14).1 rfl ?_
      refine aw_iconst (v := 0) (pc1 := 20) at_130_19 (by decide) rfl ?_
      refine aw_iload_n (pc1 := 21) at_130_20 l2 rfl ?_
      obtain ⟨h15, e16, hs8⟩ := am_bind hs7
      clear hs7
      refine aw_pS (pc1 := 22) at_130_21 (Or.inl ⟨rfl, rfl⟩) e16 rfl ?_
      refine aw_vload_n (pc1 := 23) at_130_22 l0 i0 rfl ?_
      obtain ⟨v17, e18, hs9⟩ := am_bind hs8
      clear hs8
      refine aw_pG (pc1 := 26) at_130_23 (am_vR_s e18).1 rfl ?_
      refine aw_iconst (v := 1) (pc1 := 27) at_130_26 (by decide) rfl ?_
      refine aw_iload_n (pc1 := 28) at_130_27 l3 rfl ?_
      obtain ⟨h19, e20, hs10⟩ := am_bind hs9
      clear hs9
      refine aw_pS (pc1 := 29) at_130_28 (Or.inl ⟨rfl, rfl⟩) e20 rfl ?_
      refine aw_vload_n (pc1 := 30) at_130_29 l0 i0 rfl ?_
      obtain ⟨v21, e22, hs11⟩ := am_bind hs10
      clear hs10
      refine aw_pG (pc1 := 33) at_130_30 (am_vR_s e22).1 rfl ?_
      refine aw_iconst (v := 2) (pc1 := 34) at_130_33 (by decide) rfl ?_
      refine aw_iload (pc1 := 36) at_130_34 l4 rfl ?_
      obtain ⟨h23, e24, hs12⟩ := am_bind hs11
      clear hs11
      refine aw_pS (pc1 := 37) at_130_36 (Or.inl ⟨rfl, rfl⟩) e24 rfl ?_
      refine aw_vload_n (pc1 := 38) at_130_37 l0 i0 rfl ?_
      obtain ⟨v25, e26, hs13⟩ := am_bind hs12
      clear hs12
      refine aw_pG (pc1 := 41) at_130_38 (am_vR_s e26).1 rfl ?_
      obtain ⟨v27, e28, hs14⟩ := am_bind hs13
      clear hs13
      refine aw_pG (pc1 := 44) at_130_41 (am_vR_s e28).1 rfl ?_
      refine aw_vload_n (pc1 := 45) at_130_44 l0 i0 rfl ?_
      obtain ⟨v29, e30, hs15⟩ := am_bind hs14
      clear hs14
      refine aw_pG (pc1 := 48) at_130_45 (am_vR_s e30).1 rfl ?_
      refine aw_iconst (v := 0) (pc1 := 49) at_130_48 (by decide) rfl ?_
      obtain ⟨z31, hs16⟩ := am_ift hs15
      clear hs15
      refine aw_call (F := fm_116 N v27 v29 0 h23) (t := true) (na := 3) (kd := 1) (as := [v27, v29, (.int 0)]) at_130_49 (am_k3v kb_116) mn_116 mk_116 rfl rfl (am_ok_v mi_116 (am_hl rfl (am_ccR (am_vR_s e28).2 (am_ccR (am_vR_s e30).2 (am_ccI am_cats_0))) rfl) z31) (am_hc am_cats_0 rfl) (fun _ => ⟨rfl, hh_130⟩) (fun o1 hz9 => rm_116 v27 v29 0 h23 o1 (am_vR_s e28).2 (am_vR_s e30).2 hz9) ?_
      rcases am_cV_s hs16 with ⟨h33, f34, hs17⟩ | hs17
      · clear hs16
        refine Or.inl ⟨_, _, f34, ?_⟩
        show am_W X _ 130 52 _ [] h33 _
        refine aw_vload_n (pc1 := 53) at_130_52 l0 i0 rfl ?_
        obtain ⟨z35, hs18⟩ := am_ift hs17
        clear hs17
        refine aw_call (F := fm_128 x0 h33) (t := true) (na := 1) (kd := 1) (as := [x0]) at_130_53 (am_k3v kb_128) mn_128 mk_128 rfl rfl (am_ok_v mi_128 (am_hl rfl (am_ccR i0 am_cats_0) rfl) z35) (am_hc am_cats_0 rfl) (fun _ => ⟨rfl, hh_130⟩) (fun o1 hz9 => rm_128 x0 h33 o1 i0 hz9) ?_
        rcases am_cI_s hs18 with ⟨v36, h37, f38, hs19⟩ | hs19
        · clear hs18
          refine Or.inl ⟨_, _, f38, ?_⟩
          show am_W X _ 130 56 _ [(.int v36)] h37 _
          cases hs19
          exact aw_iret at_130_56 (by rw [rt_130]; rfl) rfl
        · clear hs18
          exact Or.inr hs19
      · clear hs16
        exact Or.inr hs17
    · clear hs5
      exact Or.inr hs6
  · clear hs3
    exact Or.inr hs4
def fm_130 (N : Nat) (y0 : Value) (y1 : Int32) (y2 : Int32) (y3 : Int32) (y4 : Int32) (h : am_H) : Option am_O := fg_130_0 N y0 y1 y2 y3 y4 h
theorem rm_130 {X : am_X} {d : Nat} {N : Nat} (y0 : Value) (y1 : Int32) (y2 : Int32) (y3 : Int32) (y4 : Int32) (h : am_H) (o : am_O) (i0 : am_isR y0 = true) (hs : fm_130 N y0 y1 y2 y3 y4 h = some o) : am_W X (d + 82) 130 0 (am_args 0 [y0, .int y1, .int y2, .int y3, .int y4]) [] h (fun q => q = o) := by
  rw [am_args_R i0, am_args_I, am_args_I, am_args_I, am_args_I]
  exact rg_130_0 y0 y1 y2 y3 y4 h o rfl rfl rfl rfl rfl i0 hs
def fg_129_19 (N : Nat) (h : am_H) : Option am_O := some (.inl (some (.int 1), h))
theorem rg_129_19 {X : am_X} {d : Nat} {N : Nat} {lv : am_LV} (h : am_H) (o : am_O) (hs : fg_129_19 N h = some o) : am_W X (d + 83) 129 19 lv [] h (fun q => q = o) := by
  unfold fg_129_19 at hs
  refine aw_iconst (v := 1) (pc1 := 20) at_129_19 (by decide) rfl ?_
  cases hs
  exact aw_iret at_129_20 (by rw [rt_129]; rfl) rfl
def fg_129_0 (N : Nat) (x0 : Value) (x1 : Int32) (x2 : Int32) (x3 : Int32) (x4 : Int32) (x5 : Value) (h : am_H) : Option am_O := (if am_pOk 11 x0 h then (match fm_130 N x0 x1 x2 x3 x4 h with | some (.inl (some (.int v2), h3)) => ((am_pSL x5 0 (Int32.toInt64 v2) h3).bind fun h5 => some (.inl (some (.int 0), h5))) | some (.inr (2, h7)) => (fg_129_19 N h7) | _ => none) else none)
theorem rg_129_0 {X : am_X} {d : Nat} {N : Nat} {lv : am_LV} (x0 : Value) (x1 : Int32) (x2 : Int32) (x3 : Int32) (x4 : Int32) (x5 : Value) (h : am_H) (o : am_O) (l0 : lv.lookup 0 = some x0) (l1 : lv.lookup 1 = some (.int x1)) (l2 : lv.lookup 2 = some (.int x2)) (l3 : lv.lookup 3 = some (.int x3)) (l4 : lv.lookup 4 = some (.int x4)) (l5 : lv.lookup 5 = some x5) (i0 : am_isR x0 = true) (i5 : am_isR x5 = true) (hs : fg_129_0 N x0 x1 x2 x3 x4 x5 h = some o) : am_W X (d + 83) 129 0 lv [] h (fun q => q = o) := by
  unfold fg_129_0 at hs
  refine aw_vload (pc1 := 2) at_129_0 l5 i5 rfl ?_
  refine aw_iconst (v := 0) (pc1 := 3) at_129_2 (by decide) rfl ?_
  refine aw_vload_n (pc1 := 4) at_129_3 l0 i0 rfl ?_
  refine aw_iload_n (pc1 := 5) at_129_4 l1 rfl ?_
  refine aw_iload_n (pc1 := 6) at_129_5 l2 rfl ?_
  refine aw_iload_n (pc1 := 7) at_129_6 l3 rfl ?_
  refine aw_iload (pc1 := 9) at_129_7 l4 rfl ?_
  obtain ⟨z1, hs1⟩ := am_ift hs
  clear hs
  refine aw_callH (F := fm_130 N x0 x1 x2 x3 x4 h) (na := 5) (kd := 1) (as := [x0, (.int x1), (.int x2), (.int x3), (.int x4)]) at_129_9 (am_k3v kb_130) mn_130 mk_130 rfl rfl (am_ok_v mi_130 (am_hl rfl (am_ccR i0 (am_ccI (am_ccI (am_ccI (am_ccI am_cats_0))))) rfl) z1) (am_hc (am_ccI (am_ccR i5 am_cats_0)) rfl) (fun o1 hz9 => rm_130 x0 x1 x2 x3 x4 h o1 i0 hz9) ?_
  split at hs1
  · rename_i v2 h3 f4
    refine Or.inl ⟨_, _, f4, ?_⟩
    show am_W X _ 129 12 _ [(.int v2), (.int 0), x5] h3 _
    refine aw_i2l (v := (Int32.toInt64 v2)) (pc1 := 13) at_129_12 rfl rfl ?_
    obtain ⟨h5, e6, hs2⟩ := am_bind hs1
    clear hs1
    refine aw_pSL (pc1 := 14) at_129_13 e6 rfl ?_
    refine aw_goto at_129_14 ?_
    refine aw_iconst (v := 0) (pc1 := 22) at_129_21 (by decide) rfl ?_
    cases hs2
    exact aw_iret at_129_22 (by rw [rt_129]; rfl) rfl
  · rename_i h7 f8
    refine Or.inr ⟨_, _, 19, 6, f8, rfl, hn_129, hd_129_9_2, ?_⟩
    exact rg_129_19 h7 o   hs1
  · cases hs1
def fm_129 (N : Nat) (y0 : Value) (y1 : Int32) (y2 : Int32) (y3 : Int32) (y4 : Int32) (y5 : Value) (h : am_H) : Option am_O := fg_129_0 N y0 y1 y2 y3 y4 y5 h
theorem rm_129 {X : am_X} {d : Nat} {N : Nat} (y0 : Value) (y1 : Int32) (y2 : Int32) (y3 : Int32) (y4 : Int32) (y5 : Value) (h : am_H) (o : am_O) (i0 : am_isR y0 = true) (i5 : am_isR y5 = true) (hs : fm_129 N y0 y1 y2 y3 y4 y5 h = some o) : am_W X (d + 83) 129 0 (am_args 0 [y0, .int y1, .int y2, .int y3, .int y4, y5]) [] h (fun q => q = o) := by
  rw [am_args_R i0, am_args_I, am_args_I, am_args_I, am_args_I, am_args_R i5]
  exact rg_129_0 y0 y1 y2 y3 y4 y5 h o rfl rfl rfl rfl rfl rfl i0 i5 hs
def fg_421_26 (N : Nat) : Nat → Value → Int32 → am_H → Option am_O
  | 0 => fun _ _ _ => none
  | K + 1 => fun x0 x4 h => ((am_vI (am_pG 3112 x0 h)).bind fun v1 => (if v1 ≤ x4 then some (.inl (none, h)) else ((am_vR (am_pG 3127 x0 h)).bind fun v4 => ((am_vR (am_pG 3113 x0 h)).bind fun v6 => ((am_pA 0 v6 x4 h).bind fun v8 => ((am_pS 0 v4 x4 v8 h).bind fun h10 => (fg_421_26 N K x0 ((x4 + 1)) h10)))))))
theorem rg_421_26 {X : am_X} {d : Nat} {N : Nat} : ∀ (K : Nat) (x0 : Value) (x4 : Int32) (h : am_H) (o : am_O), fg_421_26 N K x0 x4 h = some o → ∀ lv : am_LV, (lv.lookup 0 = some x0) → (lv.lookup 4 = some (.int x4)) → (am_isR x0 = true) → am_W X (d) 421 26 lv [] h (fun q => q = o) := by
  intro K
  induction K with
  | zero => intro x0 x4 h o hs; cases hs
  | succ K ih =>
    intro x0 x4 h o hs lv l0 l4 i0
    unfold fg_421_26 at hs
    refine aw_iload (pc1 := 28) at_421_26 l4 rfl ?_
    refine aw_vload_n (pc1 := 29) at_421_28 l0 i0 rfl ?_
    obtain ⟨v1, e2, hs1⟩ := am_bind hs
    clear hs
    refine aw_pG (pc1 := 32) at_421_29 (am_vI_s e2) rfl ?_
    by_cases c3 : v1 ≤ x4
    · rw [if_pos c3] at hs1
      refine aw_icge_t at_421_32 c3 ?_
      cases hs1
      exact aw_vret at_421_55 rt_421 rfl
    · rw [if_neg c3] at hs1
      refine aw_icge_f (pc1 := 35) at_421_32 c3 rfl ?_
      refine aw_vload_n (pc1 := 36) at_421_35 l0 i0 rfl ?_
      obtain ⟨v4, e5, hs2⟩ := am_bind hs1
      clear hs1
      refine aw_pG (pc1 := 39) at_421_36 (am_vR_s e5).1 rfl ?_
      refine aw_iload (pc1 := 41) at_421_39 l4 rfl ?_
      refine aw_vload_n (pc1 := 42) at_421_41 l0 i0 rfl ?_
      obtain ⟨v6, e7, hs3⟩ := am_bind hs2
      clear hs2
      refine aw_pG (pc1 := 45) at_421_42 (am_vR_s e7).1 rfl ?_
      refine aw_iload (pc1 := 47) at_421_45 l4 rfl ?_
      obtain ⟨v8, e9, hs4⟩ := am_bind hs3
      clear hs3
      refine aw_pA (pc1 := 48) at_421_47 (Or.inl ⟨rfl, rfl⟩) e9 rfl ?_
      obtain ⟨h10, e11, hs5⟩ := am_bind hs4
      clear hs4
      refine aw_pS (pc1 := 49) at_421_48 (Or.inl ⟨rfl, rfl⟩) e11 rfl ?_
      refine aw_iinc (v := (x4 + 1)) (c := 1) (lv1 := am_put1 _ 4 _) (pc1 := 52) at_421_49 l4 (by decide) rfl rfl rfl ?_
      refine aw_goto at_421_52 ?_
      exact ih x0 ((x4 + 1)) h10 o hs5 _ (am_lk1 l0 rfl rfl) am_lk0 i0
def fg_421_0 (N : Nat) (x0 : Value) (x1 : Int32) (x2 : Int32) (x3 : Int32) (h : am_H) : Option am_O := ((am_pP 3123 x0 (.int x1) h).bind fun h1 => ((am_pP 3124 x0 (.int x2) h1).bind fun h3 => ((am_pP 3125 x0 (.int x3) h3).bind fun h5 => ((am_vI (am_pG 3112 x0 h5)).bind fun v7 => ((am_pP 3126 x0 (.int v7) h5).bind fun h9 => (fg_421_26 N N x0 0 h9))))))
theorem rg_421_0 {X : am_X} {d : Nat} {N : Nat} {lv : am_LV} (x0 : Value) (x1 : Int32) (x2 : Int32) (x3 : Int32) (h : am_H) (o : am_O) (l0 : lv.lookup 0 = some x0) (l1 : lv.lookup 1 = some (.int x1)) (l2 : lv.lookup 2 = some (.int x2)) (l3 : lv.lookup 3 = some (.int x3)) (i0 : am_isR x0 = true) (hs : fg_421_0 N x0 x1 x2 x3 h = some o) : am_W X (d) 421 0 lv [] h (fun q => q = o) := by
  unfold fg_421_0 at hs
  refine aw_vload_n (pc1 := 1) at_421_0 l0 i0 rfl ?_
  refine aw_iload_n (pc1 := 2) at_421_1 l1 rfl ?_
  obtain ⟨h1, e2, hs1⟩ := am_bind hs
  clear hs
  refine aw_pP (pc1 := 5) at_421_2 e2 rfl ?_
  refine aw_vload_n (pc1 := 6) at_421_5 l0 i0 rfl ?_
  refine aw_iload_n (pc1 := 7) at_421_6 l2 rfl ?_
  obtain ⟨h3, e4, hs2⟩ := am_bind hs1
  clear hs1
  refine aw_pP (pc1 := 10) at_421_7 e4 rfl ?_
  refine aw_vload_n (pc1 := 11) at_421_10 l0 i0 rfl ?_
  refine aw_iload_n (pc1 := 12) at_421_11 l3 rfl ?_
  obtain ⟨h5, e6, hs3⟩ := am_bind hs2
  clear hs2
  refine aw_pP (pc1 := 15) at_421_12 e6 rfl ?_
  refine aw_vload_n (pc1 := 16) at_421_15 l0 i0 rfl ?_
  refine aw_vload_n (pc1 := 17) at_421_16 l0 i0 rfl ?_
  obtain ⟨v7, e8, hs4⟩ := am_bind hs3
  clear hs3
  refine aw_pG (pc1 := 20) at_421_17 (am_vI_s e8) rfl ?_
  obtain ⟨h9, e10, hs5⟩ := am_bind hs4
  clear hs4
  refine aw_pP (pc1 := 23) at_421_20 e10 rfl ?_
  refine aw_iconst (v := 0) (pc1 := 24) at_421_23 (by decide) rfl ?_
  refine aw_istore (lv1 := am_put1 _ 4 _) (pc1 := 26) at_421_24 rfl rfl ?_
  exact rg_421_26 N x0 0 h9 o hs5 _ (am_lk1 l0 rfl rfl) am_lk0 i0
def fm_421 (N : Nat) (y0 : Value) (y1 : Int32) (y2 : Int32) (y3 : Int32) (h : am_H) : Option am_O := fg_421_0 N y0 y1 y2 y3 h
theorem rm_421 {X : am_X} {d : Nat} {N : Nat} (y0 : Value) (y1 : Int32) (y2 : Int32) (y3 : Int32) (h : am_H) (o : am_O) (i0 : am_isR y0 = true) (hs : fm_421 N y0 y1 y2 y3 h = some o) : am_W X (d) 421 0 (am_args 0 [y0, .int y1, .int y2, .int y3]) [] h (fun q => q = o) := by
  rw [am_args_R i0, am_args_I, am_args_I, am_args_I]
  exact rg_421_0 y0 y1 y2 y3 h o rfl rfl rfl rfl i0 hs
def fg_420_14 (N : Nat) (x0 : Value) (x1 : Int32) (x2 : Int32) (x3 : Int32) (x4 : Int32) (s0 : Value) (s1 : Int32) (h : am_H) : Option am_O := ((am_pP 3072 s0 (.int s1) h).bind fun h1 => ((am_vI (am_pG 3072 x0 h1)).bind fun v3 => (if v3 ≤ 0 then (if am_pOk 12 x0 h1 then am_cV true (fm_359 N x0 x1 h1) (fun h8 => (if am_pOk 12 x0 h8 then am_cV true (fm_421 N x0 x2 x3 x4 h8) (fun h12 => (if am_pOk 12 x0 h12 then am_cV true (fm_403 N x0 h12) (fun h16 => (if am_pOk 12 x0 h16 then am_cI true (fm_419 x0 h16) (fun v19 h20 => some (.inl (some (.int v19), h20))) else none)) else none)) else none)) else none) else some (.inl (some (.int 0), h1)))))
theorem rg_420_14 {X : am_X} {d : Nat} {N : Nat} {lv : am_LV} (x0 : Value) (x1 : Int32) (x2 : Int32) (x3 : Int32) (x4 : Int32) (s0 : Value) (s1 : Int32) (h : am_H) (o : am_O) (l0 : lv.lookup 0 = some x0) (l1 : lv.lookup 1 = some (.int x1)) (l2 : lv.lookup 2 = some (.int x2)) (l3 : lv.lookup 3 = some (.int x3)) (l4 : lv.lookup 4 = some (.int x4)) (i0 : am_isR x0 = true) (j0 : am_isR s0 = true) (hs : fg_420_14 N x0 x1 x2 x3 x4 s0 s1 h = some o) : am_W X (d + 6) 420 14 lv [(.int s1), s0] h (fun q => q = o) := by
  unfold fg_420_14 at hs
  obtain ⟨h1, e2, hs1⟩ := am_bind hs
  clear hs
  refine aw_pP (pc1 := 17) at_420_14 e2 rfl ?_
  refine aw_vload_n (pc1 := 18) at_420_17 l0 i0 rfl ?_
  obtain ⟨v3, e4, hs2⟩ := am_bind hs1
  clear hs1
  refine aw_pG (pc1 := 21) at_420_18 (am_vI_s e4) rfl ?_
  by_cases c5 : v3 ≤ 0
  · rw [if_pos c5] at hs2
    refine aw_ifle_t at_420_21 c5 ?_
    refine aw_vload_n (pc1 := 27) at_420_26 l0 i0 rfl ?_
    refine aw_iload_n (pc1 := 28) at_420_27 l1 rfl ?_
    obtain ⟨z6, hs3⟩ := am_ift hs2
    clear hs2
    refine aw_call (F := fm_359 N x0 x1 h1) (t := true) (na := 2) (kd := 1) (as := [x0, (.int x1)]) at_420_28 (am_k3v kb_359) mn_359 mk_359 rfl rfl (am_ok_v mi_359 (am_hl rfl (am_ccR i0 (am_ccI am_cats_0)) rfl) z6) (am_hc am_cats_0 rfl) (fun _ => ⟨rfl, hh_420⟩) (fun o1 hz9 => rm_359 x0 x1 h1 o1 i0 hz9) ?_
    rcases am_cV_s hs3 with ⟨h8, f9, hs4⟩ | hs4
    · clear hs3
      refine Or.inl ⟨_, _, f9, ?_⟩
      show am_W X _ 420 31 _ [] h8 _
      refine aw_vload_n (pc1 := 32) at_420_31 l0 i0 rfl ?_
      refine aw_iload_n (pc1 := 33) at_420_32 l2 rfl ?_
      refine aw_iload_n (pc1 := 34) at_420_33 l3 rfl ?_
      refine aw_iload (pc1 := 36) at_420_34 l4 rfl ?_
      obtain ⟨z10, hs5⟩ := am_ift hs4
      clear hs4
      refine aw_call (F := fm_421 N x0 x2 x3 x4 h8) (t := true) (na := 4) (kd := 1) (as := [x0, (.int x2), (.int x3), (.int x4)]) at_420_36 (am_k3v kb_421) mn_421 mk_421 rfl rfl (am_ok_v mi_421 (am_hl rfl (am_ccR i0 (am_ccI (am_ccI (am_ccI am_cats_0)))) rfl) z10) (am_hc am_cats_0 rfl) (fun _ => ⟨rfl, hh_420⟩) (fun o1 hz9 => rm_421 x0 x2 x3 x4 h8 o1 i0 hz9) ?_
      rcases am_cV_s hs5 with ⟨h12, f13, hs6⟩ | hs6
      · clear hs5
        refine Or.inl ⟨_, _, f13, ?_⟩
        show am_W X _ 420 39 _ [] h12 _
        refine aw_vload_n (pc1 := 40) at_420_39 l0 i0 rfl ?_
        obtain ⟨z14, hs7⟩ := am_ift hs6
        clear hs6
        refine aw_call (F := fm_403 N x0 h12) (t := true) (na := 1) (kd := 1) (as := [x0]) at_420_40 (am_k3v kb_403) mn_403 mk_403 rfl rfl (am_ok_v mi_403 (am_hl rfl (am_ccR i0 am_cats_0) rfl) z14) (am_hc am_cats_0 rfl) (fun _ => ⟨rfl, hh_420⟩) (fun o1 hz9 => rm_403 x0 h12 o1 i0 hz9) ?_
        rcases am_cV_s hs7 with ⟨h16, f17, hs8⟩ | hs8
        · clear hs7
          refine Or.inl ⟨_, _, f17, ?_⟩
          show am_W X _ 420 43 _ [] h16 _
          refine aw_vload_n (pc1 := 44) at_420_43 l0 i0 rfl ?_
          obtain ⟨z18, hs9⟩ := am_ift hs8
          clear hs8
          refine aw_call (F := fm_419 x0 h16) (t := true) (na := 1) (kd := 1) (as := [x0]) at_420_44 (am_k3v kb_419) mn_419 mk_419 rfl rfl (am_ok_v mi_419 (am_hl rfl (am_ccR i0 am_cats_0) rfl) z18) (am_hc am_cats_0 rfl) (fun _ => ⟨rfl, hh_420⟩) (fun o1 hz9 => rm_419 x0 h16 o1 i0 hz9) ?_
          rcases am_cI_s hs9 with ⟨v19, h20, f21, hs10⟩ | hs10
          · clear hs9
            refine Or.inl ⟨_, _, f21, ?_⟩
            show am_W X _ 420 47 _ [(.int v19)] h20 _
            cases hs10
            exact aw_iret at_420_47 (by rw [rt_420]; rfl) rfl
          · clear hs9
            exact Or.inr hs10
        · clear hs7
          exact Or.inr hs8
      · clear hs5
        exact Or.inr hs6
    · clear hs3
      exact Or.inr hs4
  · rw [if_neg c5] at hs2
    refine aw_ifle_f (pc1 := 24) at_420_21 c5 rfl ?_
    refine aw_iconst (v := 0) (pc1 := 25) at_420_24 (by decide) rfl ?_
    cases hs2
    exact aw_iret at_420_25 (by rw [rt_420]; rfl) rfl
def fg_420_0 (N : Nat) (x0 : Value) (x1 : Int32) (x2 : Int32) (x3 : Int32) (x4 : Int32) (h : am_H) : Option am_O := (if am_pOk 12 x0 h then am_cI true (fm_358 x0 x1 h) (fun v2 h3 => (if v2 = 0 then (fg_420_14 N x0 x1 x2 x3 x4 x0 1 h3) else (fg_420_14 N x0 x1 x2 x3 x4 x0 0 h3))) else none)
theorem rg_420_0 {X : am_X} {d : Nat} {N : Nat} {lv : am_LV} (x0 : Value) (x1 : Int32) (x2 : Int32) (x3 : Int32) (x4 : Int32) (h : am_H) (o : am_O) (l0 : lv.lookup 0 = some x0) (l1 : lv.lookup 1 = some (.int x1)) (l2 : lv.lookup 2 = some (.int x2)) (l3 : lv.lookup 3 = some (.int x3)) (l4 : lv.lookup 4 = some (.int x4)) (i0 : am_isR x0 = true) (hs : fg_420_0 N x0 x1 x2 x3 x4 h = some o) : am_W X (d + 6) 420 0 lv [] h (fun q => q = o) := by
  unfold fg_420_0 at hs
  refine aw_vload_n (pc1 := 1) at_420_0 l0 i0 rfl ?_
  refine aw_vload_n (pc1 := 2) at_420_1 l0 i0 rfl ?_
  refine aw_iload_n (pc1 := 3) at_420_2 l1 rfl ?_
  obtain ⟨z1, hs1⟩ := am_ift hs
  clear hs
  refine aw_call (F := fm_358 x0 x1 h) (t := true) (na := 2) (kd := 1) (as := [x0, (.int x1)]) at_420_3 (am_k3v kb_358) mn_358 mk_358 rfl rfl (am_ok_v mi_358 (am_hl rfl (am_ccR i0 (am_ccI am_cats_0)) rfl) z1) (am_hc (am_ccR i0 am_cats_0) rfl) (fun _ => ⟨rfl, hh_420⟩) (fun o1 hz9 => rm_358 x0 x1 h o1 i0 hz9) ?_
  rcases am_cI_s hs1 with ⟨v2, h3, f4, hs2⟩ | hs2
  · clear hs1
    refine Or.inl ⟨_, _, f4, ?_⟩
    show am_W X _ 420 6 _ [(.int v2), x0] h3 _
    by_cases c5 : v2 = 0
    · rw [if_pos c5] at hs2
      refine aw_ifeq_t at_420_6 c5 ?_
      refine aw_iconst (v := 1) (pc1 := 14) at_420_13 (by decide) rfl ?_
      exact rg_420_14 x0 x1 x2 x3 x4 x0 1 h3 o l0 l1 l2 l3 l4 i0 i0 hs2
    · rw [if_neg c5] at hs2
      refine aw_ifeq_f (pc1 := 9) at_420_6 c5 rfl ?_
      refine aw_iconst (v := 0) (pc1 := 10) at_420_9 (by decide) rfl ?_
      refine aw_goto at_420_10 ?_
      exact rg_420_14 x0 x1 x2 x3 x4 x0 0 h3 o l0 l1 l2 l3 l4 i0 i0 hs2
  · clear hs1
    exact Or.inr hs2
def fm_420 (N : Nat) (y0 : Value) (y1 : Int32) (y2 : Int32) (y3 : Int32) (y4 : Int32) (h : am_H) : Option am_O := fg_420_0 N y0 y1 y2 y3 y4 h
theorem rm_420 {X : am_X} {d : Nat} {N : Nat} (y0 : Value) (y1 : Int32) (y2 : Int32) (y3 : Int32) (y4 : Int32) (h : am_H) (o : am_O) (i0 : am_isR y0 = true) (hs : fm_420 N y0 y1 y2 y3 y4 h = some o) : am_W X (d + 6) 420 0 (am_args 0 [y0, .int y1, .int y2, .int y3, .int y4]) [] h (fun q => q = o) := by
  rw [am_args_R i0, am_args_I, am_args_I, am_args_I, am_args_I]
  exact rg_420_0 y0 y1 y2 y3 y4 h o rfl rfl rfl rfl rfl i0 hs
def fg_26_0 (x0 : Value) (h : am_H) : Option am_O := ((am_vI (am_pG 2828 x0 h)).bind fun v1 => some (.inl (some (.int v1), h)))
theorem rg_26_0 {X : am_X} {d : Nat} {lv : am_LV} (x0 : Value) (h : am_H) (o : am_O) (l0 : lv.lookup 0 = some x0) (i0 : am_isR x0 = true) (hs : fg_26_0 x0 h = some o) : am_W X (d) 26 0 lv [] h (fun q => q = o) := by
  unfold fg_26_0 at hs
  refine aw_vload_n (pc1 := 1) at_26_0 l0 i0 rfl ?_
  obtain ⟨v1, e2, hs1⟩ := am_bind hs
  clear hs
  refine aw_pG (pc1 := 4) at_26_1 (am_vI_s e2) rfl ?_
  cases hs1
  exact aw_iret at_26_4 (by rw [rt_26]; rfl) rfl
def fm_26 (y0 : Value) (h : am_H) : Option am_O := fg_26_0 y0 h
theorem rm_26 {X : am_X} {d : Nat} (y0 : Value) (h : am_H) (o : am_O) (i0 : am_isR y0 = true) (hs : fm_26 y0 h = some o) : am_W X (d) 26 0 (am_args 0 [y0]) [] h (fun q => q = o) := by
  rw [am_args_R i0]
  exact rg_26_0 y0 h o rfl i0 hs
def fg_422_0 (x0 : Value) (h : am_H) : Option am_O := ((am_pP 3072 x0 (.int 0) h).bind fun h1 => ((am_vI (am_pG 3128 x0 h1)).bind fun v3 => some (.inl (some (.int v3), h1))))
theorem rg_422_0 {X : am_X} {d : Nat} {lv : am_LV} (x0 : Value) (h : am_H) (o : am_O) (l0 : lv.lookup 0 = some x0) (i0 : am_isR x0 = true) (hs : fg_422_0 x0 h = some o) : am_W X (d) 422 0 lv [] h (fun q => q = o) := by
  unfold fg_422_0 at hs
  refine aw_vload_n (pc1 := 1) at_422_0 l0 i0 rfl ?_
  refine aw_iconst (v := 0) (pc1 := 2) at_422_1 (by decide) rfl ?_
  obtain ⟨h1, e2, hs1⟩ := am_bind hs
  clear hs
  refine aw_pP (pc1 := 5) at_422_2 e2 rfl ?_
  refine aw_vload_n (pc1 := 6) at_422_5 l0 i0 rfl ?_
  obtain ⟨v3, e4, hs2⟩ := am_bind hs1
  clear hs1
  refine aw_pG (pc1 := 9) at_422_6 (am_vI_s e4) rfl ?_
  cases hs2
  exact aw_iret at_422_9 (by rw [rt_422]; rfl) rfl
def fm_422 (y0 : Value) (h : am_H) : Option am_O := fg_422_0 y0 h
theorem rm_422 {X : am_X} {d : Nat} (y0 : Value) (h : am_H) (o : am_O) (i0 : am_isR y0 = true) (hs : fm_422 y0 h = some o) : am_W X (d) 422 0 (am_args 0 [y0]) [] h (fun q => q = o) := by
  rw [am_args_R i0]
  exact rg_422_0 y0 h o rfl i0 hs
def fg_27_0 (x0 : Value) (h : am_H) : Option am_O := ((am_vI (am_pG 2829 x0 h)).bind fun v1 => some (.inl (some (.int v1), h)))
theorem rg_27_0 {X : am_X} {d : Nat} {lv : am_LV} (x0 : Value) (h : am_H) (o : am_O) (l0 : lv.lookup 0 = some x0) (i0 : am_isR x0 = true) (hs : fg_27_0 x0 h = some o) : am_W X (d) 27 0 lv [] h (fun q => q = o) := by
  unfold fg_27_0 at hs
  refine aw_vload_n (pc1 := 1) at_27_0 l0 i0 rfl ?_
  obtain ⟨v1, e2, hs1⟩ := am_bind hs
  clear hs
  refine aw_pG (pc1 := 4) at_27_1 (am_vI_s e2) rfl ?_
  cases hs1
  exact aw_iret at_27_4 (by rw [rt_27]; rfl) rfl
def fm_27 (y0 : Value) (h : am_H) : Option am_O := fg_27_0 y0 h
theorem rm_27 {X : am_X} {d : Nat} (y0 : Value) (h : am_H) (o : am_O) (i0 : am_isR y0 = true) (hs : fm_27 y0 h = some o) : am_W X (d) 27 0 (am_args 0 [y0]) [] h (fun q => q = o) := by
  rw [am_args_R i0]
  exact rg_27_0 y0 h o rfl i0 hs
def fg_423_0 (x0 : Value) (h : am_H) : Option am_O := ((am_pP 3072 x0 (.int 0) h).bind fun h1 => ((am_vI (am_pG 3129 x0 h1)).bind fun v3 => some (.inl (some (.int v3), h1))))
theorem rg_423_0 {X : am_X} {d : Nat} {lv : am_LV} (x0 : Value) (h : am_H) (o : am_O) (l0 : lv.lookup 0 = some x0) (i0 : am_isR x0 = true) (hs : fg_423_0 x0 h = some o) : am_W X (d) 423 0 lv [] h (fun q => q = o) := by
  unfold fg_423_0 at hs
  refine aw_vload_n (pc1 := 1) at_423_0 l0 i0 rfl ?_
  refine aw_iconst (v := 0) (pc1 := 2) at_423_1 (by decide) rfl ?_
  obtain ⟨h1, e2, hs1⟩ := am_bind hs
  clear hs
  refine aw_pP (pc1 := 5) at_423_2 e2 rfl ?_
  refine aw_vload_n (pc1 := 6) at_423_5 l0 i0 rfl ?_
  obtain ⟨v3, e4, hs2⟩ := am_bind hs1
  clear hs1
  refine aw_pG (pc1 := 9) at_423_6 (am_vI_s e4) rfl ?_
  cases hs2
  exact aw_iret at_423_9 (by rw [rt_423]; rfl) rfl
def fm_423 (y0 : Value) (h : am_H) : Option am_O := fg_423_0 y0 h
theorem rm_423 {X : am_X} {d : Nat} (y0 : Value) (h : am_H) (o : am_O) (i0 : am_isR y0 = true) (hs : fm_423 y0 h = some o) : am_W X (d) 423 0 (am_args 0 [y0]) [] h (fun q => q = o) := by
  rw [am_args_R i0]
  exact rg_423_0 y0 h o rfl i0 hs
def fg_135_12 (s0 : Int64) (h : am_H) : Option am_O := some (.inl (some (.long s0), h))
theorem rg_135_12 {X : am_X} {d : Nat} {lv : am_LV} (s0 : Int64) (h : am_H) (o : am_O) (hs : fg_135_12 s0 h = some o) : am_W X (d) 135 12 lv [(.long s0)] h (fun q => q = o) := by
  unfold fg_135_12 at hs
  cases hs
  exact aw_lret at_135_12 rt_135 rfl
def fg_135_0 (x0 : Int64) (h : am_H) : Option am_O := (if 0 ≤ (lg_cmp x0 0) then (fg_135_12 x0 h) else (fg_135_12 ((-x0)) h))
theorem rg_135_0 {X : am_X} {d : Nat} {lv : am_LV} (x0 : Int64) (h : am_H) (o : am_O) (l0 : lv.lookup 0 = some (.long x0)) (hs : fg_135_0 x0 h = some o) : am_W X (d) 135 0 lv [] h (fun q => q = o) := by
  unfold fg_135_0 at hs
  refine aw_lload_n (pc1 := 1) at_135_0 l0 rfl ?_
  refine aw_lconst (v := 0) (pc1 := 2) at_135_1 (by decide) rfl ?_
  refine aw_lcmp (v := (lg_cmp x0 0)) (pc1 := 3) at_135_2 rfl rfl ?_
  by_cases c1 : 0 ≤ (lg_cmp x0 0)
  · rw [if_pos c1] at hs
    refine aw_ifge_t at_135_3 c1 ?_
    refine aw_lload_n (pc1 := 12) at_135_11 l0 rfl ?_
    exact rg_135_12 x0 h o   hs
  · rw [if_neg c1] at hs
    refine aw_ifge_f (pc1 := 6) at_135_3 c1 rfl ?_
    refine aw_lload_n (pc1 := 7) at_135_6 l0 rfl ?_
    refine aw_lneg (v := (-x0)) (pc1 := 8) at_135_7 rfl rfl ?_
    refine aw_goto at_135_8 ?_
    exact rg_135_12 ((-x0)) h o   hs
def fm_135 (y0 : Int64) (h : am_H) : Option am_O := fg_135_0 y0 h
theorem rm_135 {X : am_X} {d : Nat} (y0 : Int64) (h : am_H) (o : am_O) (hs : fm_135 y0 h = some o) : am_W X (d) 135 0 (am_args 0 [.long y0]) [] h (fun q => q = o) := by
  rw [am_args_L]
  exact rg_135_0 y0 h o rfl  hs
def fg_136_11 (s0 : Int64) (h : am_H) : Option am_O := some (.inl (some (.long s0), h))
theorem rg_136_11 {X : am_X} {d : Nat} {lv : am_LV} (s0 : Int64) (h : am_H) (o : am_O) (hs : fg_136_11 s0 h = some o) : am_W X (d) 136 11 lv [(.long s0)] h (fun q => q = o) := by
  unfold fg_136_11 at hs
  cases hs
  exact aw_lret at_136_11 rt_136 rfl
def fg_136_0 (x0 : Int64) (x2 : Int64) (h : am_H) : Option am_O := (if 0 < (lg_cmp x0 x2) then (fg_136_11 x2 h) else (fg_136_11 x0 h))
theorem rg_136_0 {X : am_X} {d : Nat} {lv : am_LV} (x0 : Int64) (x2 : Int64) (h : am_H) (o : am_O) (l0 : lv.lookup 0 = some (.long x0)) (l2 : lv.lookup 2 = some (.long x2)) (hs : fg_136_0 x0 x2 h = some o) : am_W X (d) 136 0 lv [] h (fun q => q = o) := by
  unfold fg_136_0 at hs
  refine aw_lload_n (pc1 := 1) at_136_0 l0 rfl ?_
  refine aw_lload_n (pc1 := 2) at_136_1 l2 rfl ?_
  refine aw_lcmp (v := (lg_cmp x0 x2)) (pc1 := 3) at_136_2 rfl rfl ?_
  by_cases c1 : 0 < (lg_cmp x0 x2)
  · rw [if_pos c1] at hs
    refine aw_ifgt_t at_136_3 c1 ?_
    refine aw_lload_n (pc1 := 11) at_136_10 l2 rfl ?_
    exact rg_136_11 x2 h o   hs
  · rw [if_neg c1] at hs
    refine aw_ifgt_f (pc1 := 6) at_136_3 c1 rfl ?_
    refine aw_lload_n (pc1 := 7) at_136_6 l0 rfl ?_
    refine aw_goto at_136_7 ?_
    exact rg_136_11 x0 h o   hs
def fm_136 (y0 : Int64) (y1 : Int64) (h : am_H) : Option am_O := fg_136_0 y0 y1 h
theorem rm_136 {X : am_X} {d : Nat} (y0 : Int64) (y1 : Int64) (h : am_H) (o : am_O) (hs : fm_136 y0 y1 h = some o) : am_W X (d) 136 0 (am_args 0 [.long y0, .long y1]) [] h (fun q => q = o) := by
  rw [am_args_L, am_args_L]
  exact rg_136_0 y0 y1 h o rfl rfl  hs
def fg_134_0 (x0 : Int32) (x1 : Int32) (h : am_H) : Option am_O := am_cL false (fm_135 (((Int32.toInt64 x0) - (Int32.toInt64 x1))) h) (fun v1 h2 => am_cL false (fm_136 v1 1000000 h2) (fun v4 h5 => some (.inl (some (.int (Int64.toInt32 v4)), h5))))
theorem rg_134_0 {X : am_X} {d : Nat} {lv : am_LV} (x0 : Int32) (x1 : Int32) (h : am_H) (o : am_O) (l0 : lv.lookup 0 = some (.int x0)) (l1 : lv.lookup 1 = some (.int x1)) (hs : fg_134_0 x0 x1 h = some o) : am_W X (d + 1) 134 0 lv [] h (fun q => q = o) := by
  unfold fg_134_0 at hs
  refine aw_iload_n (pc1 := 1) at_134_0 l0 rfl ?_
  refine aw_i2l (v := (Int32.toInt64 x0)) (pc1 := 2) at_134_1 rfl rfl ?_
  refine aw_iload_n (pc1 := 3) at_134_2 l1 rfl ?_
  refine aw_i2l (v := (Int32.toInt64 x1)) (pc1 := 4) at_134_3 rfl rfl ?_
  refine aw_lsub (v := ((Int32.toInt64 x0) - (Int32.toInt64 x1))) (pc1 := 5) at_134_4 rfl rfl ?_
  refine aw_call (F := fm_135 (((Int32.toInt64 x0) - (Int32.toInt64 x1))) h) (t := false) (na := 1) (kd := 0) (as := [(.long ((Int32.toInt64 x0) - (Int32.toInt64 x1)))]) at_134_5 (am_k3s kb_135) mn_135 mk_135 rfl rfl (am_ok_s mi_135 (am_hl rfl (am_ccL am_cats_0) rfl)) (am_hc am_cats_0 rfl) (fun hz9 => by cases hz9) (fun o1 hz9 => rm_135 (((Int32.toInt64 x0) - (Int32.toInt64 x1))) h o1  hz9) ?_
  rcases am_cL_s hs with ⟨v1, h2, f3, hs1⟩ | hs1
  · clear hs
    refine Or.inl ⟨_, _, f3, ?_⟩
    show am_W X _ 134 8 _ [(.long v1)] h2 _
    refine aw_ldc2 (v := 1000000) (pc1 := 11) at_134_8 rfl rfl ?_
    refine aw_call (F := fm_136 v1 1000000 h2) (t := false) (na := 2) (kd := 0) (as := [(.long v1), (.long 1000000)]) at_134_11 (am_k3s kb_136) mn_136 mk_136 rfl rfl (am_ok_s mi_136 (am_hl rfl (am_ccL (am_ccL am_cats_0)) rfl)) (am_hc am_cats_0 rfl) (fun hz9 => by cases hz9) (fun o1 hz9 => rm_136 v1 1000000 h2 o1  hz9) ?_
    rcases am_cL_s hs1 with ⟨v4, h5, f6, hs2⟩ | hs2
    · clear hs1
      refine Or.inl ⟨_, _, f6, ?_⟩
      show am_W X _ 134 14 _ [(.long v4)] h5 _
      refine aw_l2i (v := (Int64.toInt32 v4)) (pc1 := 15) at_134_14 rfl rfl ?_
      cases hs2
      exact aw_iret at_134_15 (by rw [rt_134]; rfl) rfl
    · clear hs1
      exact Or.inr hs2
  · clear hs
    exact Or.inr hs1
def fm_134 (y0 : Int32) (y1 : Int32) (h : am_H) : Option am_O := fg_134_0 y0 y1 h
theorem rm_134 {X : am_X} {d : Nat} (y0 : Int32) (y1 : Int32) (h : am_H) (o : am_O) (hs : fm_134 y0 y1 h = some o) : am_W X (d + 1) 134 0 (am_args 0 [.int y0, .int y1]) [] h (fun q => q = o) := by
  rw [am_args_I, am_args_I]
  exact rg_134_0 y0 y1 h o rfl rfl  hs
def fg_133_46 (N : Nat) (s0 : Int32) (h : am_H) : Option am_O := some (.inl (some (.int s0), h))
theorem rg_133_46 {X : am_X} {d : Nat} {N : Nat} {lv : am_LV} (s0 : Int32) (h : am_H) (o : am_O) (hs : fg_133_46 N s0 h = some o) : am_W X (d + 82) 133 46 lv [(.int s0)] h (fun q => q = o) := by
  unfold fg_133_46 at hs
  cases hs
  exact aw_iret at_133_46 (by rw [rt_133]; rfl) rfl
def fg_133_0 (N : Nat) (x0 : Value) (x1 : Int32) (h : am_H) : Option am_O := ((am_vR (am_pG 514 x0 h)).bind fun v1 => ((am_vR (am_pG 512 x0 h)).bind fun v3 => (if am_pOk 6 v1 h then am_cV true (fm_116 N v1 v3 ((x1 * 15)) h) (fun h7 => ((am_vR (am_pG 514 x0 h7)).bind fun v9 => ((am_vI (am_pG 1537 v9 h7)).bind fun v11 => (if v11 = 0 then ((am_vR (am_pG 514 x0 h7)).bind fun v14 => ((am_vI (am_pG 1539 v14 h7)).bind fun v16 => (if am_pOk 2 x0 h7 then am_cI true (fm_112 x0 x1 3 h7) (fun v19 h20 => am_cI false (fm_134 v16 v19 h20) (fun v22 h23 => (fg_133_46 N v22 h23))) else none))) else (fg_133_46 N 2000000 h7))))) else none)))
theorem rg_133_0 {X : am_X} {d : Nat} {N : Nat} {lv : am_LV} (x0 : Value) (x1 : Int32) (h : am_H) (o : am_O) (l0 : lv.lookup 0 = some x0) (l1 : lv.lookup 1 = some (.int x1)) (i0 : am_isR x0 = true) (hs : fg_133_0 N x0 x1 h = some o) : am_W X (d + 82) 133 0 lv [] h (fun q => q = o) := by
  unfold fg_133_0 at hs
  refine aw_vload_n (pc1 := 1) at_133_0 l0 i0 rfl ?_
  obtain ⟨v1, e2, hs1⟩ := am_bind hs
  clear hs
  refine aw_pG (pc1 := 4) at_133_1 (am_vR_s e2).1 rfl ?_
  refine aw_vload_n (pc1 := 5) at_133_4 l0 i0 rfl ?_
  obtain ⟨v3, e4, hs2⟩ := am_bind hs1
  clear hs1
  refine aw_pG (pc1 := 8) at_133_5 (am_vR_s e4).1 rfl ?_
  refine aw_iload_n (pc1 := 9) at_133_8 l1 rfl ?_
  refine aw_bipush (v := 15) (pc1 := 11) at_133_9 (by decide) rfl ?_
  refine aw_imul (v := (x1 * 15)) (pc1 := 12) at_133_11 rfl rfl ?_
  obtain ⟨z5, hs3⟩ := am_ift hs2
  clear hs2
  refine aw_call (F := fm_116 N v1 v3 ((x1 * 15)) h) (t := true) (na := 3) (kd := 1) (as := [v1, v3, (.int (x1 * 15))]) at_133_12 (am_k3v kb_116) mn_116 mk_116 rfl rfl (am_ok_v mi_116 (am_hl rfl (am_ccR (am_vR_s e2).2 (am_ccR (am_vR_s e4).2 (am_ccI am_cats_0))) rfl) z5) (am_hc am_cats_0 rfl) (fun _ => ⟨rfl, hh_133⟩) (fun o1 hz9 => rm_116 v1 v3 ((x1 * 15)) h o1 (am_vR_s e2).2 (am_vR_s e4).2 hz9) ?_
  rcases am_cV_s hs3 with ⟨h7, f8, hs4⟩ | hs4
  · clear hs3
    refine Or.inl ⟨_, _, f8, ?_⟩
    show am_W X _ 133 15 _ [] h7 _
    refine aw_vload_n (pc1 := 16) at_133_15 l0 i0 rfl ?_
    obtain ⟨v9, e10, hs5⟩ := am_bind hs4
    clear hs4
    refine aw_pG (pc1 := 19) at_133_16 (am_vR_s e10).1 rfl ?_
    obtain ⟨v11, e12, hs6⟩ := am_bind hs5
    clear hs5
    refine aw_pG (pc1 := 22) at_133_19 (am_vI_s e12) rfl ?_
    by_cases c13 : v11 = 0
    · rw [if_pos c13] at hs6
      refine aw_ifeq_t at_133_22 c13 ?_
      refine aw_vload_n (pc1 := 31) at_133_30 l0 i0 rfl ?_
      obtain ⟨v14, e15, hs7⟩ := am_bind hs6
      clear hs6
      refine aw_pG (pc1 := 34) at_133_31 (am_vR_s e15).1 rfl ?_
      obtain ⟨v16, e17, hs8⟩ := am_bind hs7
      clear hs7
      refine aw_pG (pc1 := 37) at_133_34 (am_vI_s e17) rfl ?_
      refine aw_vload_n (pc1 := 38) at_133_37 l0 i0 rfl ?_
      refine aw_iload_n (pc1 := 39) at_133_38 l1 rfl ?_
      refine aw_iconst (v := 3) (pc1 := 40) at_133_39 (by decide) rfl ?_
      obtain ⟨z18, hs9⟩ := am_ift hs8
      clear hs8
      refine aw_call (F := fm_112 x0 x1 3 h7) (t := true) (na := 3) (kd := 1) (as := [x0, (.int x1), (.int 3)]) at_133_40 (am_k3v kb_112) mn_112 mk_112 rfl rfl (am_ok_v mi_112 (am_hl rfl (am_ccR i0 (am_ccI (am_ccI am_cats_0))) rfl) z18) (am_hc (am_ccI am_cats_0) rfl) (fun _ => ⟨rfl, hh_133⟩) (fun o1 hz9 => rm_112 x0 x1 3 h7 o1 i0 hz9) ?_
      rcases am_cI_s hs9 with ⟨v19, h20, f21, hs10⟩ | hs10
      · clear hs9
        refine Or.inl ⟨_, _, f21, ?_⟩
        show am_W X _ 133 43 _ [(.int v19), (.int v16)] h20 _
        refine aw_call (F := fm_134 v16 v19 h20) (t := false) (na := 2) (kd := 0) (as := [(.int v16), (.int v19)]) at_133_43 (am_k3s kb_134) mn_134 mk_134 rfl rfl (am_ok_s mi_134 (am_hl rfl (am_ccI (am_ccI am_cats_0)) rfl)) (am_hc am_cats_0 rfl) (fun hz9 => by cases hz9) (fun o1 hz9 => rm_134 v16 v19 h20 o1  hz9) ?_
        rcases am_cI_s hs10 with ⟨v22, h23, f24, hs11⟩ | hs11
        · clear hs10
          refine Or.inl ⟨_, _, f24, ?_⟩
          show am_W X _ 133 46 _ [(.int v22)] h23 _
          exact rg_133_46 v22 h23 o   hs11
        · clear hs10
          exact Or.inr hs11
      · clear hs9
        exact Or.inr hs10
    · rw [if_neg c13] at hs6
      refine aw_ifeq_f (pc1 := 25) at_133_22 c13 rfl ?_
      refine aw_ldc (v := 2000000) (pc1 := 27) at_133_25 rfl rfl rfl ?_
      refine aw_goto at_133_27 ?_
      exact rg_133_46 2000000 h7 o   hs6
  · clear hs3
    exact Or.inr hs4
def fm_133 (N : Nat) (y0 : Value) (y1 : Int32) (h : am_H) : Option am_O := fg_133_0 N y0 y1 h
theorem rm_133 {X : am_X} {d : Nat} {N : Nat} (y0 : Value) (y1 : Int32) (h : am_H) (o : am_O) (i0 : am_isR y0 = true) (hs : fm_133 N y0 y1 h = some o) : am_W X (d + 82) 133 0 (am_args 0 [y0, .int y1]) [] h (fun q => q = o) := by
  rw [am_args_R i0, am_args_I]
  exact rg_133_0 y0 y1 h o rfl rfl i0 hs
def fg_132_0 (N : Nat) (x0 : Value) (x1 : Int32) (x2 : Int32) (h : am_H) : Option am_O := (if am_pOk 11 x0 h then am_cR true (fm_63 x0 x1 h) (fun v2 h3 => (if am_pOk 11 x0 h3 then am_cV true (fm_108 x0 x2 h3) (fun h7 => ((am_vR (am_pG 2819 x0 h7)).bind fun v9 => ((am_vR (am_pG 514 v9 h7)).bind fun v11 => (if am_pOk 6 v11 h7 then am_cV true (fm_115 N v11 v2 h7) (fun h15 => ((am_vR (am_pG 2819 x0 h15)).bind fun v17 => (if am_pOk 2 v17 h15 then am_cI true (fm_133 N v17 x2 h15) (fun v20 h21 => some (.inl (some (.int v20), h21))) else none))) else none)))) else none)) else none)
theorem rg_132_0 {X : am_X} {d : Nat} {N : Nat} {lv : am_LV} (x0 : Value) (x1 : Int32) (x2 : Int32) (h : am_H) (o : am_O) (l0 : lv.lookup 0 = some x0) (l1 : lv.lookup 1 = some (.int x1)) (l2 : lv.lookup 2 = some (.int x2)) (i0 : am_isR x0 = true) (hs : fg_132_0 N x0 x1 x2 h = some o) : am_W X (d + 83) 132 0 lv [] h (fun q => q = o) := by
  unfold fg_132_0 at hs
  refine aw_vload_n (pc1 := 1) at_132_0 l0 i0 rfl ?_
  refine aw_iload_n (pc1 := 2) at_132_1 l1 rfl ?_
  obtain ⟨z1, hs1⟩ := am_ift hs
  clear hs
  refine aw_call (F := fm_63 x0 x1 h) (t := true) (na := 2) (kd := 1) (as := [x0, (.int x1)]) at_132_2 (am_k3v kb_63) mn_63 mk_63 rfl rfl (am_ok_v mi_63 (am_hl rfl (am_ccR i0 (am_ccI am_cats_0)) rfl) z1) (am_hc am_cats_0 rfl) (fun _ => ⟨rfl, hh_132⟩) (fun o1 hz9 => rm_63 x0 x1 h o1 i0 hz9) ?_
  rcases am_cR_s hs1 with ⟨v2, h3, f4, iv2, hs2⟩ | hs2
  · clear hs1
    refine Or.inl ⟨_, _, f4, ?_⟩
    show am_W X _ 132 5 _ [v2] h3 _
    refine aw_vstore_n (lv1 := am_put1 _ 3 _) (pc1 := 6) at_132_5 iv2 rfl rfl ?_
    refine aw_vload_n (pc1 := 7) at_132_6 (am_lk1 l0 rfl rfl) i0 rfl ?_
    refine aw_iload_n (pc1 := 8) at_132_7 (am_lk1 l2 rfl rfl) rfl ?_
    obtain ⟨z5, hs3⟩ := am_ift hs2
    clear hs2
    refine aw_call (F := fm_108 x0 x2 h3) (t := true) (na := 2) (kd := 1) (as := [x0, (.int x2)]) at_132_8 (am_k3v kb_108) mn_108 mk_108 rfl rfl (am_ok_v mi_108 (am_hl rfl (am_ccR i0 (am_ccI am_cats_0)) rfl) z5) (am_hc am_cats_0 rfl) (fun _ => ⟨rfl, hh_132⟩) (fun o1 hz9 => rm_108 x0 x2 h3 o1 i0 hz9) ?_
    rcases am_cV_s hs3 with ⟨h7, f8, hs4⟩ | hs4
    · clear hs3
      refine Or.inl ⟨_, _, f8, ?_⟩
      show am_W X _ 132 11 _ [] h7 _
      refine aw_vload_n (pc1 := 12) at_132_11 (am_lk1 l0 rfl rfl) i0 rfl ?_
      obtain ⟨v9, e10, hs5⟩ := am_bind hs4
      clear hs4
      refine aw_pG (pc1 := 15) at_132_12 (am_vR_s e10).1 rfl ?_
      obtain ⟨v11, e12, hs6⟩ := am_bind hs5
      clear hs5
      refine aw_pG (pc1 := 18) at_132_15 (am_vR_s e12).1 rfl ?_
      refine aw_vload_n (pc1 := 19) at_132_18 am_lk0 iv2 rfl ?_
      obtain ⟨z13, hs7⟩ := am_ift hs6
      clear hs6
      refine aw_call (F := fm_115 N v11 v2 h7) (t := true) (na := 2) (kd := 1) (as := [v11, v2]) at_132_19 (am_k3v kb_115) mn_115 mk_115 rfl rfl (am_ok_v mi_115 (am_hl rfl (am_ccR (am_vR_s e12).2 (am_ccR iv2 am_cats_0)) rfl) z13) (am_hc am_cats_0 rfl) (fun _ => ⟨rfl, hh_132⟩) (fun o1 hz9 => rm_115 v11 v2 h7 o1 (am_vR_s e12).2 iv2 hz9) ?_
      rcases am_cV_s hs7 with ⟨h15, f16, hs8⟩ | hs8
      · clear hs7
        refine Or.inl ⟨_, _, f16, ?_⟩
        show am_W X _ 132 22 _ [] h15 _
        refine aw_vload_n (pc1 := 23) at_132_22 (am_lk1 l0 rfl rfl) i0 rfl ?_
        obtain ⟨v17, e18, hs9⟩ := am_bind hs8
        clear hs8
        refine aw_pG (pc1 := 26) at_132_23 (am_vR_s e18).1 rfl ?_
        refine aw_iload_n (pc1 := 27) at_132_26 (am_lk1 l2 rfl rfl) rfl ?_
        obtain ⟨z19, hs10⟩ := am_ift hs9
        clear hs9
        refine aw_call (F := fm_133 N v17 x2 h15) (t := true) (na := 2) (kd := 1) (as := [v17, (.int x2)]) at_132_27 (am_k3v kb_133) mn_133 mk_133 rfl rfl (am_ok_v mi_133 (am_hl rfl (am_ccR (am_vR_s e18).2 (am_ccI am_cats_0)) rfl) z19) (am_hc am_cats_0 rfl) (fun _ => ⟨rfl, hh_132⟩) (fun o1 hz9 => rm_133 v17 x2 h15 o1 (am_vR_s e18).2 hz9) ?_
        rcases am_cI_s hs10 with ⟨v20, h21, f22, hs11⟩ | hs11
        · clear hs10
          refine Or.inl ⟨_, _, f22, ?_⟩
          show am_W X _ 132 30 _ [(.int v20)] h21 _
          cases hs11
          exact aw_iret at_132_30 (by rw [rt_132]; rfl) rfl
        · clear hs10
          exact Or.inr hs11
      · clear hs7
        exact Or.inr hs8
    · clear hs3
      exact Or.inr hs4
  · clear hs1
    exact Or.inr hs2
def fm_132 (N : Nat) (y0 : Value) (y1 : Int32) (y2 : Int32) (h : am_H) : Option am_O := fg_132_0 N y0 y1 y2 h
theorem rm_132 {X : am_X} {d : Nat} {N : Nat} (y0 : Value) (y1 : Int32) (y2 : Int32) (h : am_H) (o : am_O) (i0 : am_isR y0 = true) (hs : fm_132 N y0 y1 y2 h = some o) : am_W X (d + 83) 132 0 (am_args 0 [y0, .int y1, .int y2]) [] h (fun q => q = o) := by
  rw [am_args_R i0, am_args_I, am_args_I]
  exact rg_132_0 y0 y1 y2 h o rfl rfl rfl i0 hs
def fg_131_15 (N : Nat) (h : am_H) : Option am_O := some (.inl (some (.int 1), h))
theorem rg_131_15 {X : am_X} {d : Nat} {N : Nat} {lv : am_LV} (h : am_H) (o : am_O) (hs : fg_131_15 N h = some o) : am_W X (d + 84) 131 15 lv [] h (fun q => q = o) := by
  unfold fg_131_15 at hs
  refine aw_iconst (v := 1) (pc1 := 16) at_131_15 (by decide) rfl ?_
  cases hs
  exact aw_iret at_131_16 (by rw [rt_131]; rfl) rfl
def fg_131_0 (N : Nat) (x0 : Value) (x1 : Int32) (x2 : Int32) (x3 : Value) (h : am_H) : Option am_O := (if am_pOk 11 x0 h then (match fm_132 N x0 x1 x2 h with | some (.inl (some (.int v2), h3)) => ((am_pSL x3 0 (Int32.toInt64 v2) h3).bind fun h5 => some (.inl (some (.int 0), h5))) | some (.inr (2, h7)) => (fg_131_15 N h7) | _ => none) else none)
theorem rg_131_0 {X : am_X} {d : Nat} {N : Nat} {lv : am_LV} (x0 : Value) (x1 : Int32) (x2 : Int32) (x3 : Value) (h : am_H) (o : am_O) (l0 : lv.lookup 0 = some x0) (l1 : lv.lookup 1 = some (.int x1)) (l2 : lv.lookup 2 = some (.int x2)) (l3 : lv.lookup 3 = some x3) (i0 : am_isR x0 = true) (i3 : am_isR x3 = true) (hs : fg_131_0 N x0 x1 x2 x3 h = some o) : am_W X (d + 84) 131 0 lv [] h (fun q => q = o) := by
  unfold fg_131_0 at hs
  refine aw_vload_n (pc1 := 1) at_131_0 l3 i3 rfl ?_
  refine aw_iconst (v := 0) (pc1 := 2) at_131_1 (by decide) rfl ?_
  refine aw_vload_n (pc1 := 3) at_131_2 l0 i0 rfl ?_
  refine aw_iload_n (pc1 := 4) at_131_3 l1 rfl ?_
  refine aw_iload_n (pc1 := 5) at_131_4 l2 rfl ?_
  obtain ⟨z1, hs1⟩ := am_ift hs
  clear hs
  refine aw_callH (F := fm_132 N x0 x1 x2 h) (na := 3) (kd := 1) (as := [x0, (.int x1), (.int x2)]) at_131_5 (am_k3v kb_132) mn_132 mk_132 rfl rfl (am_ok_v mi_132 (am_hl rfl (am_ccR i0 (am_ccI (am_ccI am_cats_0))) rfl) z1) (am_hc (am_ccI (am_ccR i3 am_cats_0)) rfl) (fun o1 hz9 => rm_132 x0 x1 x2 h o1 i0 hz9) ?_
  split at hs1
  · rename_i v2 h3 f4
    refine Or.inl ⟨_, _, f4, ?_⟩
    show am_W X _ 131 8 _ [(.int v2), (.int 0), x3] h3 _
    refine aw_i2l (v := (Int32.toInt64 v2)) (pc1 := 9) at_131_8 rfl rfl ?_
    obtain ⟨h5, e6, hs2⟩ := am_bind hs1
    clear hs1
    refine aw_pSL (pc1 := 10) at_131_9 e6 rfl ?_
    refine aw_goto at_131_10 ?_
    refine aw_iconst (v := 0) (pc1 := 18) at_131_17 (by decide) rfl ?_
    cases hs2
    exact aw_iret at_131_18 (by rw [rt_131]; rfl) rfl
  · rename_i h7 f8
    refine Or.inr ⟨_, _, 15, 4, f8, rfl, hn_131, hd_131_5_2, ?_⟩
    exact rg_131_15 h7 o   hs1
  · cases hs1
def fm_131 (N : Nat) (y0 : Value) (y1 : Int32) (y2 : Int32) (y3 : Value) (h : am_H) : Option am_O := fg_131_0 N y0 y1 y2 y3 h
theorem rm_131 {X : am_X} {d : Nat} {N : Nat} (y0 : Value) (y1 : Int32) (y2 : Int32) (y3 : Value) (h : am_H) (o : am_O) (i0 : am_isR y0 = true) (i3 : am_isR y3 = true) (hs : fm_131 N y0 y1 y2 y3 h = some o) : am_W X (d + 84) 131 0 (am_args 0 [y0, .int y1, .int y2, y3]) [] h (fun q => q = o) := by
  rw [am_args_R i0, am_args_I, am_args_I, am_args_R i3]
  exact rg_131_0 y0 y1 y2 y3 h o rfl rfl rfl rfl i0 i3 hs
def fg_426_34 (s0 : Int64) (h : am_H) : Option am_O := some (.inl (some (.long s0), h))
theorem rg_426_34 {X : am_X} {d : Nat} {lv : am_LV} (s0 : Int64) (h : am_H) (o : am_O) (hs : fg_426_34 s0 h = some o) : am_W X (d) 426 34 lv [(.long s0)] h (fun q => q = o) := by
  unfold fg_426_34 at hs
  cases hs
  exact aw_lret at_426_34 rt_426 rfl
def fg_426_18 (s0 : Int64) (h : am_H) : Option am_O := (if (lg_cmp s0 1000000) ≤ 0 then (fg_426_34 s0 h) else (fg_426_34 1000000 h))
theorem rg_426_18 {X : am_X} {d : Nat} {lv : am_LV} (s0 : Int64) (h : am_H) (o : am_O) (hs : fg_426_18 s0 h = some o) : am_W X (d) 426 18 lv [(.long s0)] h (fun q => q = o) := by
  unfold fg_426_18 at hs
  refine aw_lstore_n (lv1 := am_put2 _ 2 _) (pc1 := 19) at_426_18 rfl rfl ?_
  refine aw_lload_n (pc1 := 20) at_426_19 am_lk02 rfl ?_
  refine aw_ldc2 (v := 1000000) (pc1 := 23) at_426_20 rfl rfl ?_
  refine aw_lcmp (v := (lg_cmp s0 1000000)) (pc1 := 24) at_426_23 rfl rfl ?_
  by_cases c1 : (lg_cmp s0 1000000) ≤ 0
  · rw [if_pos c1] at hs
    refine aw_ifle_t at_426_24 c1 ?_
    refine aw_lload_n (pc1 := 34) at_426_33 am_lk02 rfl ?_
    exact rg_426_34 s0 h o   hs
  · rw [if_neg c1] at hs
    refine aw_ifle_f (pc1 := 27) at_426_24 c1 rfl ?_
    refine aw_ldc2 (v := 1000000) (pc1 := 30) at_426_27 rfl rfl ?_
    refine aw_goto at_426_30 ?_
    exact rg_426_34 1000000 h o   hs
def fg_426_0 (x0 : Int32) (x1 : Int32) (h : am_H) : Option am_O := (if 0 ≤ (lg_cmp ((Int32.toInt64 x0) - (Int32.toInt64 x1)) 0) then (fg_426_18 (((Int32.toInt64 x0) - (Int32.toInt64 x1))) h) else (fg_426_18 ((-((Int32.toInt64 x0) - (Int32.toInt64 x1)))) h))
theorem rg_426_0 {X : am_X} {d : Nat} {lv : am_LV} (x0 : Int32) (x1 : Int32) (h : am_H) (o : am_O) (l0 : lv.lookup 0 = some (.int x0)) (l1 : lv.lookup 1 = some (.int x1)) (hs : fg_426_0 x0 x1 h = some o) : am_W X (d) 426 0 lv [] h (fun q => q = o) := by
  unfold fg_426_0 at hs
  refine aw_iload_n (pc1 := 1) at_426_0 l0 rfl ?_
  refine aw_i2l (v := (Int32.toInt64 x0)) (pc1 := 2) at_426_1 rfl rfl ?_
  refine aw_iload_n (pc1 := 3) at_426_2 l1 rfl ?_
  refine aw_i2l (v := (Int32.toInt64 x1)) (pc1 := 4) at_426_3 rfl rfl ?_
  refine aw_lsub (v := ((Int32.toInt64 x0) - (Int32.toInt64 x1))) (pc1 := 5) at_426_4 rfl rfl ?_
  refine aw_lstore_n (lv1 := am_put2 _ 2 _) (pc1 := 6) at_426_5 rfl rfl ?_
  refine aw_lload_n (pc1 := 7) at_426_6 am_lk02 rfl ?_
  refine aw_lconst (v := 0) (pc1 := 8) at_426_7 (by decide) rfl ?_
  refine aw_lcmp (v := (lg_cmp ((Int32.toInt64 x0) - (Int32.toInt64 x1)) 0)) (pc1 := 9) at_426_8 rfl rfl ?_
  by_cases c1 : 0 ≤ (lg_cmp ((Int32.toInt64 x0) - (Int32.toInt64 x1)) 0)
  · rw [if_pos c1] at hs
    refine aw_ifge_t at_426_9 c1 ?_
    refine aw_lload_n (pc1 := 18) at_426_17 am_lk02 rfl ?_
    exact rg_426_18 (((Int32.toInt64 x0) - (Int32.toInt64 x1))) h o   hs
  · rw [if_neg c1] at hs
    refine aw_ifge_f (pc1 := 12) at_426_9 c1 rfl ?_
    refine aw_lload_n (pc1 := 13) at_426_12 am_lk02 rfl ?_
    refine aw_lneg (v := (-((Int32.toInt64 x0) - (Int32.toInt64 x1)))) (pc1 := 14) at_426_13 rfl rfl ?_
    refine aw_goto at_426_14 ?_
    exact rg_426_18 ((-((Int32.toInt64 x0) - (Int32.toInt64 x1)))) h o   hs
def fm_426 (y0 : Int32) (y1 : Int32) (h : am_H) : Option am_O := fg_426_0 y0 y1 h
theorem rm_426 {X : am_X} {d : Nat} (y0 : Int32) (y1 : Int32) (h : am_H) (o : am_O) (hs : fm_426 y0 y1 h = some o) : am_W X (d) 426 0 (am_args 0 [.int y0, .int y1]) [] h (fun q => q = o) := by
  rw [am_args_I, am_args_I]
  exact rg_426_0 y0 y1 h o rfl rfl  hs
def fg_425_35 (N : Nat) (s0 : Int64) (h : am_H) : Option am_O := some (.inl (some (.long s0), h))
theorem rg_425_35 {X : am_X} {d : Nat} {N : Nat} {lv : am_LV} (s0 : Int64) (h : am_H) (o : am_O) (hs : fg_425_35 N s0 h = some o) : am_W X (d + 6) 425 35 lv [(.long s0)] h (fun q => q = o) := by
  unfold fg_425_35 at hs
  cases hs
  exact aw_lret at_425_35 rt_425 rfl
def fg_425_0 (N : Nat) (x0 : Value) (x1 : Int32) (h : am_H) : Option am_O := (if am_pOk 12 x0 h then am_cV true (fm_402 N x0 x1 h) (fun h3 => (if am_pOk 12 x0 h3 then am_cV true (fm_403 N x0 h3) (fun h7 => ((am_vI (am_pG 3120 x0 h7)).bind fun v9 => (if v9 ≤ 0 then ((am_vI (am_pG 3121 x0 h7)).bind fun v12 => ((am_vR (am_pG 3107 x0 h7)).bind fun v14 => ((am_pA 0 v14 x1 h7).bind fun v16 => am_cL false (fm_426 v12 v16 h7) (fun v18 h19 => (fg_425_35 N v18 h19))))) else (fg_425_35 N 2000000 h7)))) else none)) else none)
theorem rg_425_0 {X : am_X} {d : Nat} {N : Nat} {lv : am_LV} (x0 : Value) (x1 : Int32) (h : am_H) (o : am_O) (l0 : lv.lookup 0 = some x0) (l1 : lv.lookup 1 = some (.int x1)) (i0 : am_isR x0 = true) (hs : fg_425_0 N x0 x1 h = some o) : am_W X (d + 6) 425 0 lv [] h (fun q => q = o) := by
  unfold fg_425_0 at hs
  refine aw_vload_n (pc1 := 1) at_425_0 l0 i0 rfl ?_
  refine aw_iload_n (pc1 := 2) at_425_1 l1 rfl ?_
  obtain ⟨z1, hs1⟩ := am_ift hs
  clear hs
  refine aw_call (F := fm_402 N x0 x1 h) (t := true) (na := 2) (kd := 1) (as := [x0, (.int x1)]) at_425_2 (am_k3v kb_402) mn_402 mk_402 rfl rfl (am_ok_v mi_402 (am_hl rfl (am_ccR i0 (am_ccI am_cats_0)) rfl) z1) (am_hc am_cats_0 rfl) (fun _ => ⟨rfl, hh_425⟩) (fun o1 hz9 => rm_402 x0 x1 h o1 i0 hz9) ?_
  rcases am_cV_s hs1 with ⟨h3, f4, hs2⟩ | hs2
  · clear hs1
    refine Or.inl ⟨_, _, f4, ?_⟩
    show am_W X _ 425 5 _ [] h3 _
    refine aw_vload_n (pc1 := 6) at_425_5 l0 i0 rfl ?_
    obtain ⟨z5, hs3⟩ := am_ift hs2
    clear hs2
    refine aw_call (F := fm_403 N x0 h3) (t := true) (na := 1) (kd := 1) (as := [x0]) at_425_6 (am_k3v kb_403) mn_403 mk_403 rfl rfl (am_ok_v mi_403 (am_hl rfl (am_ccR i0 am_cats_0) rfl) z5) (am_hc am_cats_0 rfl) (fun _ => ⟨rfl, hh_425⟩) (fun o1 hz9 => rm_403 x0 h3 o1 i0 hz9) ?_
    rcases am_cV_s hs3 with ⟨h7, f8, hs4⟩ | hs4
    · clear hs3
      refine Or.inl ⟨_, _, f8, ?_⟩
      show am_W X _ 425 9 _ [] h7 _
      refine aw_vload_n (pc1 := 10) at_425_9 l0 i0 rfl ?_
      obtain ⟨v9, e10, hs5⟩ := am_bind hs4
      clear hs4
      refine aw_pG (pc1 := 13) at_425_10 (am_vI_s e10) rfl ?_
      by_cases c11 : v9 ≤ 0
      · rw [if_pos c11] at hs5
        refine aw_ifle_t at_425_13 c11 ?_
        refine aw_vload_n (pc1 := 23) at_425_22 l0 i0 rfl ?_
        obtain ⟨v12, e13, hs6⟩ := am_bind hs5
        clear hs5
        refine aw_pG (pc1 := 26) at_425_23 (am_vI_s e13) rfl ?_
        refine aw_vload_n (pc1 := 27) at_425_26 l0 i0 rfl ?_
        obtain ⟨v14, e15, hs7⟩ := am_bind hs6
        clear hs6
        refine aw_pG (pc1 := 30) at_425_27 (am_vR_s e15).1 rfl ?_
        refine aw_iload_n (pc1 := 31) at_425_30 l1 rfl ?_
        obtain ⟨v16, e17, hs8⟩ := am_bind hs7
        clear hs7
        refine aw_pA (pc1 := 32) at_425_31 (Or.inl ⟨rfl, rfl⟩) e17 rfl ?_
        refine aw_call (F := fm_426 v12 v16 h7) (t := false) (na := 2) (kd := 0) (as := [(.int v12), (.int v16)]) at_425_32 (am_k3s kb_426) mn_426 mk_426 rfl rfl (am_ok_s mi_426 (am_hl rfl (am_ccI (am_ccI am_cats_0)) rfl)) (am_hc am_cats_0 rfl) (fun hz9 => by cases hz9) (fun o1 hz9 => rm_426 v12 v16 h7 o1  hz9) ?_
        rcases am_cL_s hs8 with ⟨v18, h19, f20, hs9⟩ | hs9
        · clear hs8
          refine Or.inl ⟨_, _, f20, ?_⟩
          show am_W X _ 425 35 _ [(.long v18)] h19 _
          exact rg_425_35 v18 h19 o   hs9
        · clear hs8
          exact Or.inr hs9
      · rw [if_neg c11] at hs5
        refine aw_ifle_f (pc1 := 16) at_425_13 c11 rfl ?_
        refine aw_ldc2 (v := 2000000) (pc1 := 19) at_425_16 rfl rfl ?_
        refine aw_goto at_425_19 ?_
        exact rg_425_35 2000000 h7 o   hs5
    · clear hs3
      exact Or.inr hs4
  · clear hs1
    exact Or.inr hs2
def fm_425 (N : Nat) (y0 : Value) (y1 : Int32) (h : am_H) : Option am_O := fg_425_0 N y0 y1 h
theorem rm_425 {X : am_X} {d : Nat} {N : Nat} (y0 : Value) (y1 : Int32) (h : am_H) (o : am_O) (i0 : am_isR y0 = true) (hs : fm_425 N y0 y1 h = some o) : am_W X (d + 6) 425 0 (am_args 0 [y0, .int y1]) [] h (fun q => q = o) := by
  rw [am_args_R i0, am_args_I]
  exact rg_425_0 y0 y1 h o rfl rfl i0 hs
def fg_424_22 (N : Nat) (x0 : Value) (x1 : Int32) (x2 : Int32) (s0 : Value) (s1 : Int32) (h : am_H) : Option am_O := ((am_pP 3072 s0 (.int s1) h).bind fun h1 => ((am_vI (am_pG 3072 x0 h1)).bind fun v3 => (if v3 ≤ 0 then (if am_pOk 12 x0 h1 then am_cV true (fm_359 N x0 x1 h1) (fun h8 => (if am_pOk 12 x0 h8 then am_cL true (fm_425 N x0 x2 h8) (fun v11 h12 => some (.inl (some (.int (Int64.toInt32 v11)), h12))) else none)) else none) else some (.inl (some (.int 0), h1)))))
theorem rg_424_22 {X : am_X} {d : Nat} {N : Nat} {lv : am_LV} (x0 : Value) (x1 : Int32) (x2 : Int32) (s0 : Value) (s1 : Int32) (h : am_H) (o : am_O) (l0 : lv.lookup 0 = some x0) (l1 : lv.lookup 1 = some (.int x1)) (l2 : lv.lookup 2 = some (.int x2)) (i0 : am_isR x0 = true) (j0 : am_isR s0 = true) (hs : fg_424_22 N x0 x1 x2 s0 s1 h = some o) : am_W X (d + 7) 424 22 lv [(.int s1), s0] h (fun q => q = o) := by
  unfold fg_424_22 at hs
  obtain ⟨h1, e2, hs1⟩ := am_bind hs
  clear hs
  refine aw_pP (pc1 := 25) at_424_22 e2 rfl ?_
  refine aw_vload_n (pc1 := 26) at_424_25 l0 i0 rfl ?_
  obtain ⟨v3, e4, hs2⟩ := am_bind hs1
  clear hs1
  refine aw_pG (pc1 := 29) at_424_26 (am_vI_s e4) rfl ?_
  by_cases c5 : v3 ≤ 0
  · rw [if_pos c5] at hs2
    refine aw_ifle_t at_424_29 c5 ?_
    refine aw_vload_n (pc1 := 35) at_424_34 l0 i0 rfl ?_
    refine aw_iload_n (pc1 := 36) at_424_35 l1 rfl ?_
    obtain ⟨z6, hs3⟩ := am_ift hs2
    clear hs2
    refine aw_call (F := fm_359 N x0 x1 h1) (t := true) (na := 2) (kd := 1) (as := [x0, (.int x1)]) at_424_36 (am_k3v kb_359) mn_359 mk_359 rfl rfl (am_ok_v mi_359 (am_hl rfl (am_ccR i0 (am_ccI am_cats_0)) rfl) z6) (am_hc am_cats_0 rfl) (fun _ => ⟨rfl, hh_424⟩) (fun o1 hz9 => rm_359 x0 x1 h1 o1 i0 hz9) ?_
    rcases am_cV_s hs3 with ⟨h8, f9, hs4⟩ | hs4
    · clear hs3
      refine Or.inl ⟨_, _, f9, ?_⟩
      show am_W X _ 424 39 _ [] h8 _
      refine aw_vload_n (pc1 := 40) at_424_39 l0 i0 rfl ?_
      refine aw_iload_n (pc1 := 41) at_424_40 l2 rfl ?_
      obtain ⟨z10, hs5⟩ := am_ift hs4
      clear hs4
      refine aw_call (F := fm_425 N x0 x2 h8) (t := true) (na := 2) (kd := 1) (as := [x0, (.int x2)]) at_424_41 (am_k3v kb_425) mn_425 mk_425 rfl rfl (am_ok_v mi_425 (am_hl rfl (am_ccR i0 (am_ccI am_cats_0)) rfl) z10) (am_hc am_cats_0 rfl) (fun _ => ⟨rfl, hh_424⟩) (fun o1 hz9 => rm_425 x0 x2 h8 o1 i0 hz9) ?_
      rcases am_cL_s hs5 with ⟨v11, h12, f13, hs6⟩ | hs6
      · clear hs5
        refine Or.inl ⟨_, _, f13, ?_⟩
        show am_W X _ 424 44 _ [(.long v11)] h12 _
        refine aw_l2i (v := (Int64.toInt32 v11)) (pc1 := 45) at_424_44 rfl rfl ?_
        cases hs6
        exact aw_iret at_424_45 (by rw [rt_424]; rfl) rfl
      · clear hs5
        exact Or.inr hs6
    · clear hs3
      exact Or.inr hs4
  · rw [if_neg c5] at hs2
    refine aw_ifle_f (pc1 := 32) at_424_29 c5 rfl ?_
    refine aw_iconst (v := 0) (pc1 := 33) at_424_32 (by decide) rfl ?_
    cases hs2
    exact aw_iret at_424_33 (by rw [rt_424]; rfl) rfl
def fg_424_21 (N : Nat) (x0 : Value) (x1 : Int32) (x2 : Int32) (s0 : Value) (h : am_H) : Option am_O := (fg_424_22 N x0 x1 x2 s0 1 h)
theorem rg_424_21 {X : am_X} {d : Nat} {N : Nat} {lv : am_LV} (x0 : Value) (x1 : Int32) (x2 : Int32) (s0 : Value) (h : am_H) (o : am_O) (l0 : lv.lookup 0 = some x0) (l1 : lv.lookup 1 = some (.int x1)) (l2 : lv.lookup 2 = some (.int x2)) (i0 : am_isR x0 = true) (j0 : am_isR s0 = true) (hs : fg_424_21 N x0 x1 x2 s0 h = some o) : am_W X (d + 7) 424 21 lv [s0] h (fun q => q = o) := by
  unfold fg_424_21 at hs
  refine aw_iconst (v := 1) (pc1 := 22) at_424_21 (by decide) rfl ?_
  exact rg_424_22 x0 x1 x2 s0 1 h o l0 l1 l2 i0 j0 hs
def fg_424_0 (N : Nat) (x0 : Value) (x1 : Int32) (x2 : Int32) (h : am_H) : Option am_O := (if am_pOk 12 x0 h then am_cI true (fm_358 x0 x1 h) (fun v2 h3 => (if v2 = 0 then (fg_424_21 N x0 x1 x2 x0 h3) else (if am_pOk 12 x0 h3 then am_cI true (fm_398 x0 x2 h3) (fun v7 h8 => (if v7 = 0 then (fg_424_21 N x0 x1 x2 x0 h8) else (fg_424_22 N x0 x1 x2 x0 0 h8))) else none))) else none)
theorem rg_424_0 {X : am_X} {d : Nat} {N : Nat} {lv : am_LV} (x0 : Value) (x1 : Int32) (x2 : Int32) (h : am_H) (o : am_O) (l0 : lv.lookup 0 = some x0) (l1 : lv.lookup 1 = some (.int x1)) (l2 : lv.lookup 2 = some (.int x2)) (i0 : am_isR x0 = true) (hs : fg_424_0 N x0 x1 x2 h = some o) : am_W X (d + 7) 424 0 lv [] h (fun q => q = o) := by
  unfold fg_424_0 at hs
  refine aw_vload_n (pc1 := 1) at_424_0 l0 i0 rfl ?_
  refine aw_vload_n (pc1 := 2) at_424_1 l0 i0 rfl ?_
  refine aw_iload_n (pc1 := 3) at_424_2 l1 rfl ?_
  obtain ⟨z1, hs1⟩ := am_ift hs
  clear hs
  refine aw_call (F := fm_358 x0 x1 h) (t := true) (na := 2) (kd := 1) (as := [x0, (.int x1)]) at_424_3 (am_k3v kb_358) mn_358 mk_358 rfl rfl (am_ok_v mi_358 (am_hl rfl (am_ccR i0 (am_ccI am_cats_0)) rfl) z1) (am_hc (am_ccR i0 am_cats_0) rfl) (fun _ => ⟨rfl, hh_424⟩) (fun o1 hz9 => rm_358 x0 x1 h o1 i0 hz9) ?_
  rcases am_cI_s hs1 with ⟨v2, h3, f4, hs2⟩ | hs2
  · clear hs1
    refine Or.inl ⟨_, _, f4, ?_⟩
    show am_W X _ 424 6 _ [(.int v2), x0] h3 _
    by_cases c5 : v2 = 0
    · rw [if_pos c5] at hs2
      refine aw_ifeq_t at_424_6 c5 ?_
      exact rg_424_21 x0 x1 x2 x0 h3 o l0 l1 l2 i0 i0 hs2
    · rw [if_neg c5] at hs2
      refine aw_ifeq_f (pc1 := 9) at_424_6 c5 rfl ?_
      refine aw_vload_n (pc1 := 10) at_424_9 l0 i0 rfl ?_
      refine aw_iload_n (pc1 := 11) at_424_10 l2 rfl ?_
      obtain ⟨z6, hs3⟩ := am_ift hs2
      clear hs2
      refine aw_call (F := fm_398 x0 x2 h3) (t := true) (na := 2) (kd := 1) (as := [x0, (.int x2)]) at_424_11 (am_k3v kb_398) mn_398 mk_398 rfl rfl (am_ok_v mi_398 (am_hl rfl (am_ccR i0 (am_ccI am_cats_0)) rfl) z6) (am_hc (am_ccR i0 am_cats_0) rfl) (fun _ => ⟨rfl, hh_424⟩) (fun o1 hz9 => rm_398 x0 x2 h3 o1 i0 hz9) ?_
      rcases am_cI_s hs3 with ⟨v7, h8, f9, hs4⟩ | hs4
      · clear hs3
        refine Or.inl ⟨_, _, f9, ?_⟩
        show am_W X _ 424 14 _ [(.int v7), x0] h8 _
        by_cases c10 : v7 = 0
        · rw [if_pos c10] at hs4
          refine aw_ifeq_t at_424_14 c10 ?_
          exact rg_424_21 x0 x1 x2 x0 h8 o l0 l1 l2 i0 i0 hs4
        · rw [if_neg c10] at hs4
          refine aw_ifeq_f (pc1 := 17) at_424_14 c10 rfl ?_
          refine aw_iconst (v := 0) (pc1 := 18) at_424_17 (by decide) rfl ?_
          refine aw_goto at_424_18 ?_
          exact rg_424_22 x0 x1 x2 x0 0 h8 o l0 l1 l2 i0 i0 hs4
      · clear hs3
        exact Or.inr hs4
  · clear hs1
    exact Or.inr hs2
def fm_424 (N : Nat) (y0 : Value) (y1 : Int32) (y2 : Int32) (h : am_H) : Option am_O := fg_424_0 N y0 y1 y2 h
theorem rm_424 {X : am_X} {d : Nat} {N : Nat} (y0 : Value) (y1 : Int32) (y2 : Int32) (h : am_H) (o : am_O) (i0 : am_isR y0 = true) (hs : fm_424 N y0 y1 y2 h = some o) : am_W X (d + 7) 424 0 (am_args 0 [y0, .int y1, .int y2]) [] h (fun q => q = o) := by
  rw [am_args_R i0, am_args_I, am_args_I]
  exact rg_424_0 y0 y1 y2 h o rfl rfl rfl i0 hs
def fg_139_9 (h : am_H) : Option am_O := some (.inr (0, h ++ [am_dummy]))
theorem rg_139_9 {X : am_X} {d : Nat} {lv : am_LV} (h : am_H) (o : am_O) (hs : fg_139_9 h = some o) : am_W X (d) 139 9 lv [] h (fun q => q = o) := by
  unfold fg_139_9 at hs
  cases hs
  exact aw_throw at_139_9 rfl th_139_9 (am_hc am_cats_0 rfl) rfl
def fg_139_0 (x1 : Int32) (h : am_H) : Option am_O := (if x1 < 0 then (fg_139_9 h) else (if x1 ≤ 1 then some (.inl (none, h)) else (fg_139_9 h)))
theorem rg_139_0 {X : am_X} {d : Nat} {lv : am_LV} (x1 : Int32) (h : am_H) (o : am_O) (l1 : lv.lookup 1 = some (.int x1)) (hs : fg_139_0 x1 h = some o) : am_W X (d) 139 0 lv [] h (fun q => q = o) := by
  unfold fg_139_0 at hs
  refine aw_iload_n (pc1 := 1) at_139_0 l1 rfl ?_
  by_cases c1 : x1 < 0
  · rw [if_pos c1] at hs
    refine aw_iflt_t at_139_1 c1 ?_
    exact rg_139_9 h o   hs
  · rw [if_neg c1] at hs
    refine aw_iflt_f (pc1 := 4) at_139_1 c1 rfl ?_
    refine aw_iload_n (pc1 := 5) at_139_4 l1 rfl ?_
    refine aw_iconst (v := 1) (pc1 := 6) at_139_5 (by decide) rfl ?_
    by_cases c2 : x1 ≤ 1
    · rw [if_pos c2] at hs
      refine aw_icle_t at_139_6 c2 ?_
      cases hs
      exact aw_vret at_139_20 rt_139 rfl
    · rw [if_neg c2] at hs
      refine aw_icle_f (pc1 := 9) at_139_6 c2 rfl ?_
      exact rg_139_9 h o   hs
def fm_139 (y0 : Value) (y1 : Int32) (h : am_H) : Option am_O := fg_139_0 y1 h
theorem rm_139 {X : am_X} {d : Nat} (y0 : Value) (y1 : Int32) (h : am_H) (o : am_O) (i0 : am_isR y0 = true) (hs : fm_139 y0 y1 h = some o) : am_W X (d) 139 0 (am_args 0 [y0, .int y1]) [] h (fun q => q = o) := by
  rw [am_args_R i0, am_args_I]
  exact rg_139_0 y1 h o rfl  hs
def fg_141_23 (s0 : Int32) (h : am_H) : Option am_O := (if am_rfit (some FieldType.boolean) s0 then some (.inl (some (.int s0), h)) else none)
theorem rg_141_23 {X : am_X} {d : Nat} {lv : am_LV} (s0 : Int32) (h : am_H) (o : am_O) (hs : fg_141_23 s0 h = some o) : am_W X (d + 1) 141 23 lv [(.int s0)] h (fun q => q = o) := by
  unfold fg_141_23 at hs
  obtain ⟨z1, hs1⟩ := am_ift hs
  clear hs
  cases hs1
  exact aw_iret at_141_23 (by rw [rt_141]; exact z1) rfl
def fg_141_14 (x2 : Int32) (s0 : Int32) (h : am_H) : Option am_O := (if ¬ s0 = x2 then (fg_141_23 0 h) else (fg_141_23 1 h))
theorem rg_141_14 {X : am_X} {d : Nat} {lv : am_LV} (x2 : Int32) (s0 : Int32) (h : am_H) (o : am_O) (l2 : lv.lookup 2 = some (.int x2)) (hs : fg_141_14 x2 s0 h = some o) : am_W X (d + 1) 141 14 lv [(.int s0)] h (fun q => q = o) := by
  unfold fg_141_14 at hs
  refine aw_iload_n (pc1 := 15) at_141_14 l2 rfl ?_
  by_cases c1 : ¬ s0 = x2
  · rw [if_pos c1] at hs
    refine aw_icne_t at_141_15 c1 ?_
    refine aw_iconst (v := 0) (pc1 := 23) at_141_22 (by decide) rfl ?_
    exact rg_141_23 0 h o   hs
  · rw [if_neg c1] at hs
    refine aw_icne_f (pc1 := 18) at_141_15 c1 rfl ?_
    refine aw_iconst (v := 1) (pc1 := 19) at_141_18 (by decide) rfl ?_
    refine aw_goto at_141_19 ?_
    exact rg_141_23 1 h o   hs
def fg_141_0 (x0 : Value) (x1 : Int32) (x2 : Int32) (h : am_H) : Option am_O := (if am_pOk 2 x0 h then am_cI true (fm_112 x0 x1 5 h) (fun v2 h3 => (if v2 = 0 then (fg_141_14 x2 0 h3) else (fg_141_14 x2 1 h3))) else none)
theorem rg_141_0 {X : am_X} {d : Nat} {lv : am_LV} (x0 : Value) (x1 : Int32) (x2 : Int32) (h : am_H) (o : am_O) (l0 : lv.lookup 0 = some x0) (l1 : lv.lookup 1 = some (.int x1)) (l2 : lv.lookup 2 = some (.int x2)) (i0 : am_isR x0 = true) (hs : fg_141_0 x0 x1 x2 h = some o) : am_W X (d + 1) 141 0 lv [] h (fun q => q = o) := by
  unfold fg_141_0 at hs
  refine aw_vload_n (pc1 := 1) at_141_0 l0 i0 rfl ?_
  refine aw_iload_n (pc1 := 2) at_141_1 l1 rfl ?_
  refine aw_iconst (v := 5) (pc1 := 3) at_141_2 (by decide) rfl ?_
  obtain ⟨z1, hs1⟩ := am_ift hs
  clear hs
  refine aw_call (F := fm_112 x0 x1 5 h) (t := true) (na := 3) (kd := 1) (as := [x0, (.int x1), (.int 5)]) at_141_3 (am_k3v kb_112) mn_112 mk_112 rfl rfl (am_ok_v mi_112 (am_hl rfl (am_ccR i0 (am_ccI (am_ccI am_cats_0))) rfl) z1) (am_hc am_cats_0 rfl) (fun _ => ⟨rfl, hh_141⟩) (fun o1 hz9 => rm_112 x0 x1 5 h o1 i0 hz9) ?_
  rcases am_cI_s hs1 with ⟨v2, h3, f4, hs2⟩ | hs2
  · clear hs1
    refine Or.inl ⟨_, _, f4, ?_⟩
    show am_W X _ 141 6 _ [(.int v2)] h3 _
    by_cases c5 : v2 = 0
    · rw [if_pos c5] at hs2
      refine aw_ifeq_t at_141_6 c5 ?_
      refine aw_iconst (v := 0) (pc1 := 14) at_141_13 (by decide) rfl ?_
      exact rg_141_14 x2 0 h3 o l2  hs2
    · rw [if_neg c5] at hs2
      refine aw_ifeq_f (pc1 := 9) at_141_6 c5 rfl ?_
      refine aw_iconst (v := 1) (pc1 := 10) at_141_9 (by decide) rfl ?_
      refine aw_goto at_141_10 ?_
      exact rg_141_14 x2 1 h3 o l2  hs2
  · clear hs1
    exact Or.inr hs2
def fm_141 (y0 : Value) (y1 : Int32) (y2 : Int32) (h : am_H) : Option am_O := fg_141_0 y0 y1 y2 h
theorem rm_141 {X : am_X} {d : Nat} (y0 : Value) (y1 : Int32) (y2 : Int32) (h : am_H) (o : am_O) (i0 : am_isR y0 = true) (hs : fm_141 y0 y1 y2 h = some o) : am_W X (d + 1) 141 0 (am_args 0 [y0, .int y1, .int y2]) [] h (fun q => q = o) := by
  rw [am_args_R i0, am_args_I, am_args_I]
  exact rg_141_0 y0 y1 y2 h o rfl rfl rfl i0 hs
def fg_140_51 (N : Nat) (rec_13 : Value → Int32 → Int64 → Int32 → am_H → Option am_O) (x0 : Value) (x2 : Int32) (x3 : Int64) (x5 : Int32) (h : am_H) : Option am_O := (rec_13 x0 x2 x3 ((x5 + 1)) h)
theorem rg_140_51 {X : am_X} {d : Nat} {N : Nat} {rec_13 : Value → Int32 → Int64 → Int32 → am_H → Option am_O} (q_13 : ∀ (x0 : Value) (x2 : Int32) (x3 : Int64) (x5 : Int32) (h : am_H) (o : am_O), rec_13 x0 x2 x3 x5 h = some o → ∀ lv : am_LV, (lv.lookup 0 = some x0) → (lv.lookup 2 = some (.int x2)) → (lv.lookup 3 = some (.long x3)) → (lv.lookup 5 = some (.int x5)) → (am_isR x0 = true) → am_W X (d + 83) 140 13 lv [] h (fun q => q = o)) {lv : am_LV} (x0 : Value) (x2 : Int32) (x3 : Int64) (x5 : Int32) (h : am_H) (o : am_O) (l0 : lv.lookup 0 = some x0) (l2 : lv.lookup 2 = some (.int x2)) (l3 : lv.lookup 3 = some (.long x3)) (l5 : lv.lookup 5 = some (.int x5)) (i0 : am_isR x0 = true) (hs : fg_140_51 N rec_13 x0 x2 x3 x5 h = some o) : am_W X (d + 83) 140 51 lv [] h (fun q => q = o) := by
  unfold fg_140_51 at hs
  refine aw_iinc (v := (x5 + 1)) (c := 1) (lv1 := am_put1 _ 5 _) (pc1 := 54) at_140_51 l5 (by decide) rfl rfl rfl ?_
  refine aw_goto at_140_54 ?_
  exact q_13 x0 x2 x3 ((x5 + 1)) h o hs _ (am_lk1 l0 rfl rfl) (am_lk1 l2 rfl rfl) (am_lk1 l3 rfl rfl) am_lk0 i0
def fg_140_13 (N : Nat) : Nat → Value → Int32 → Int64 → Int32 → am_H → Option am_O
  | 0 => fun _ _ _ _ _ => none
  | K + 1 => fun x0 x2 x3 x5 h => ((am_vI (am_pG 513 x0 h)).bind fun v1 => (if v1 ≤ x5 then some (.inl (some (.long x3), h)) else (if am_pOk 2 x0 h then am_cI true (fm_141 x0 x5 x2 h) (fun v5 h6 => (if v5 = 0 then (fg_140_51 N (fg_140_13 N K) x0 x2 x3 x5 h6) else (if am_pOk 2 x0 h6 then am_cI true (fm_112 x0 x5 4 h6) (fun v10 h11 => (if am_pOk 2 x0 h11 then am_cI true (fm_133 N x0 x5 h11) (fun v14 h15 => (fg_140_51 N (fg_140_13 N K) x0 x2 ((x3 + ((Int32.toInt64 v10) * (Int32.toInt64 v14)))) x5 h15)) else none)) else none))) else none)))
theorem rg_140_13 {X : am_X} {d : Nat} {N : Nat} : ∀ (K : Nat) (x0 : Value) (x2 : Int32) (x3 : Int64) (x5 : Int32) (h : am_H) (o : am_O), fg_140_13 N K x0 x2 x3 x5 h = some o → ∀ lv : am_LV, (lv.lookup 0 = some x0) → (lv.lookup 2 = some (.int x2)) → (lv.lookup 3 = some (.long x3)) → (lv.lookup 5 = some (.int x5)) → (am_isR x0 = true) → am_W X (d + 83) 140 13 lv [] h (fun q => q = o) := by
  intro K
  induction K with
  | zero => intro x0 x2 x3 x5 h o hs; cases hs
  | succ K ih =>
    intro x0 x2 x3 x5 h o hs lv l0 l2 l3 l5 i0
    unfold fg_140_13 at hs
    refine aw_iload (pc1 := 15) at_140_13 l5 rfl ?_
    refine aw_vload_n (pc1 := 16) at_140_15 l0 i0 rfl ?_
    obtain ⟨v1, e2, hs1⟩ := am_bind hs
    clear hs
    refine aw_pG (pc1 := 19) at_140_16 (am_vI_s e2) rfl ?_
    by_cases c3 : v1 ≤ x5
    · rw [if_pos c3] at hs1
      refine aw_icge_t at_140_19 c3 ?_
      refine aw_lload_n (pc1 := 58) at_140_57 l3 rfl ?_
      cases hs1
      exact aw_lret at_140_58 rt_140 rfl
    · rw [if_neg c3] at hs1
      refine aw_icge_f (pc1 := 22) at_140_19 c3 rfl ?_
      refine aw_vload_n (pc1 := 23) at_140_22 l0 i0 rfl ?_
      refine aw_iload (pc1 := 25) at_140_23 l5 rfl ?_
      refine aw_iload_n (pc1 := 26) at_140_25 l2 rfl ?_
      obtain ⟨z4, hs2⟩ := am_ift hs1
      clear hs1
      refine aw_call (F := fm_141 x0 x5 x2 h) (t := true) (na := 3) (kd := 1) (as := [x0, (.int x5), (.int x2)]) at_140_26 (am_k3v kb_141) mn_141 mk_141 rfl rfl (am_ok_v mi_141 (am_hl rfl (am_ccR i0 (am_ccI (am_ccI am_cats_0))) rfl) z4) (am_hc am_cats_0 rfl) (fun _ => ⟨rfl, hh_140⟩) (fun o1 hz9 => rm_141 x0 x5 x2 h o1 i0 hz9) ?_
      rcases am_cI_s hs2 with ⟨v5, h6, f7, hs3⟩ | hs3
      · clear hs2
        refine Or.inl ⟨_, _, f7, ?_⟩
        show am_W X _ 140 29 _ [(.int v5)] h6 _
        by_cases c8 : v5 = 0
        · rw [if_pos c8] at hs3
          refine aw_ifeq_t at_140_29 c8 ?_
          exact rg_140_51 (fun z0 z1 z2 z3 h o hs3 => ih z0 z1 z2 z3 h o hs3) x0 x2 x3 x5 h6 o l0 l2 l3 l5 i0 hs3
        · rw [if_neg c8] at hs3
          refine aw_ifeq_f (pc1 := 32) at_140_29 c8 rfl ?_
          refine aw_lload_n (pc1 := 33) at_140_32 l3 rfl ?_
          refine aw_vload_n (pc1 := 34) at_140_33 l0 i0 rfl ?_
          refine aw_iload (pc1 := 36) at_140_34 l5 rfl ?_
          refine aw_iconst (v := 4) (pc1 := 37) at_140_36 (by decide) rfl ?_
          obtain ⟨z9, hs4⟩ := am_ift hs3
          clear hs3
          refine aw_call (F := fm_112 x0 x5 4 h6) (t := true) (na := 3) (kd := 1) (as := [x0, (.int x5), (.int 4)]) at_140_37 (am_k3v kb_112) mn_112 mk_112 rfl rfl (am_ok_v mi_112 (am_hl rfl (am_ccR i0 (am_ccI (am_ccI am_cats_0))) rfl) z9) (am_hc (am_ccL am_cats_0) rfl) (fun _ => ⟨rfl, hh_140⟩) (fun o1 hz9 => rm_112 x0 x5 4 h6 o1 i0 hz9) ?_
          rcases am_cI_s hs4 with ⟨v10, h11, f12, hs5⟩ | hs5
          · clear hs4
            refine Or.inl ⟨_, _, f12, ?_⟩
            show am_W X _ 140 40 _ [(.int v10), (.long x3)] h11 _
            refine aw_i2l (v := (Int32.toInt64 v10)) (pc1 := 41) at_140_40 rfl rfl ?_
            refine aw_vload_n (pc1 := 42) at_140_41 l0 i0 rfl ?_
            refine aw_iload (pc1 := 44) at_140_42 l5 rfl ?_
            obtain ⟨z13, hs6⟩ := am_ift hs5
            clear hs5
            refine aw_call (F := fm_133 N x0 x5 h11) (t := true) (na := 2) (kd := 1) (as := [x0, (.int x5)]) at_140_44 (am_k3v kb_133) mn_133 mk_133 rfl rfl (am_ok_v mi_133 (am_hl rfl (am_ccR i0 (am_ccI am_cats_0)) rfl) z13) (am_hc (am_ccL (am_ccL am_cats_0)) rfl) (fun _ => ⟨rfl, hh_140⟩) (fun o1 hz9 => rm_133 x0 x5 h11 o1 i0 hz9) ?_
            rcases am_cI_s hs6 with ⟨v14, h15, f16, hs7⟩ | hs7
            · clear hs6
              refine Or.inl ⟨_, _, f16, ?_⟩
              show am_W X _ 140 47 _ [(.int v14), (.long (Int32.toInt64 v10)), (.long x3)] h15 _
              refine aw_i2l (v := (Int32.toInt64 v14)) (pc1 := 48) at_140_47 rfl rfl ?_
              refine aw_lmul (v := ((Int32.toInt64 v10) * (Int32.toInt64 v14))) (pc1 := 49) at_140_48 rfl rfl ?_
              refine aw_ladd (v := (x3 + ((Int32.toInt64 v10) * (Int32.toInt64 v14)))) (pc1 := 50) at_140_49 rfl rfl ?_
              refine aw_lstore_n (lv1 := am_put2 _ 3 _) (pc1 := 51) at_140_50 rfl rfl ?_
              exact rg_140_51 (fun z0 z1 z2 z3 h o hs7 => ih z0 z1 z2 z3 h o hs7) x0 x2 ((x3 + ((Int32.toInt64 v10) * (Int32.toInt64 v14)))) x5 h15 o (am_lk2 l0 rfl rfl) (am_lk2 l2 rfl rfl) am_lk02 (am_lk2 l5 rfl rfl) i0 hs7
            · clear hs6
              exact Or.inr hs7
          · clear hs4
            exact Or.inr hs5
      · clear hs2
        exact Or.inr hs3
def fg_140_0 (N : Nat) (x0 : Value) (x1 : Value) (x2 : Int32) (h : am_H) : Option am_O := ((am_vR (am_pG 514 x0 h)).bind fun v1 => (if am_pOk 6 v1 h then am_cV true (fm_115 N v1 x1 h) (fun h5 => (fg_140_13 N N x0 x2 0 0 h5)) else none))
theorem rg_140_0 {X : am_X} {d : Nat} {N : Nat} {lv : am_LV} (x0 : Value) (x1 : Value) (x2 : Int32) (h : am_H) (o : am_O) (l0 : lv.lookup 0 = some x0) (l1 : lv.lookup 1 = some x1) (l2 : lv.lookup 2 = some (.int x2)) (i0 : am_isR x0 = true) (i1 : am_isR x1 = true) (hs : fg_140_0 N x0 x1 x2 h = some o) : am_W X (d + 83) 140 0 lv [] h (fun q => q = o) := by
  unfold fg_140_0 at hs
  refine aw_vload_n (pc1 := 1) at_140_0 l0 i0 rfl ?_
  obtain ⟨v1, e2, hs1⟩ := am_bind hs
  clear hs
  refine aw_pG (pc1 := 4) at_140_1 (am_vR_s e2).1 rfl ?_
  refine aw_vload_n (pc1 := 5) at_140_4 l1 i1 rfl ?_
  obtain ⟨z3, hs2⟩ := am_ift hs1
  clear hs1
  refine aw_call (F := fm_115 N v1 x1 h) (t := true) (na := 2) (kd := 1) (as := [v1, x1]) at_140_5 (am_k3v kb_115) mn_115 mk_115 rfl rfl (am_ok_v mi_115 (am_hl rfl (am_ccR (am_vR_s e2).2 (am_ccR i1 am_cats_0)) rfl) z3) (am_hc am_cats_0 rfl) (fun _ => ⟨rfl, hh_140⟩) (fun o1 hz9 => rm_115 v1 x1 h o1 (am_vR_s e2).2 i1 hz9) ?_
  rcases am_cV_s hs2 with ⟨h5, f6, hs3⟩ | hs3
  · clear hs2
    refine Or.inl ⟨_, _, f6, ?_⟩
    show am_W X _ 140 8 _ [] h5 _
    refine aw_lconst (v := 0) (pc1 := 9) at_140_8 (by decide) rfl ?_
    refine aw_lstore_n (lv1 := am_put2 _ 3 _) (pc1 := 10) at_140_9 rfl rfl ?_
    refine aw_iconst (v := 0) (pc1 := 11) at_140_10 (by decide) rfl ?_
    refine aw_istore (lv1 := am_put1 _ 5 _) (pc1 := 13) at_140_11 rfl rfl ?_
    exact rg_140_13 N x0 x2 0 0 h5 o hs3 _ (am_lk1 (am_lk2 l0 rfl rfl) rfl rfl) (am_lk1 (am_lk2 l2 rfl rfl) rfl rfl) (am_lk1 am_lk02 rfl rfl) am_lk0 i0
  · clear hs2
    exact Or.inr hs3
def fm_140 (N : Nat) (y0 : Value) (y1 : Value) (y2 : Int32) (h : am_H) : Option am_O := fg_140_0 N y0 y1 y2 h
theorem rm_140 {X : am_X} {d : Nat} {N : Nat} (y0 : Value) (y1 : Value) (y2 : Int32) (h : am_H) (o : am_O) (i0 : am_isR y0 = true) (i1 : am_isR y1 = true) (hs : fm_140 N y0 y1 y2 h = some o) : am_W X (d + 83) 140 0 (am_args 0 [y0, y1, .int y2]) [] h (fun q => q = o) := by
  rw [am_args_R i0, am_args_R i1, am_args_I]
  exact rg_140_0 y0 y1 y2 h o rfl rfl rfl i0 i1 hs
def fg_142_52 (N : Nat) (s0 : Int64) (h : am_H) : Option am_O := some (.inl (some (.long s0), h))
theorem rg_142_52 {X : am_X} {d : Nat} {N : Nat} {lv : am_LV} (s0 : Int64) (h : am_H) (o : am_O) (hs : fg_142_52 N s0 h = some o) : am_W X (d + 2) 142 52 lv [(.long s0)] h (fun q => q = o) := by
  unfold fg_142_52 at hs
  cases hs
  exact aw_lret at_142_52 rt_142 rfl
def fg_142_35 (N : Nat) (rec_5 : Value → Int32 → Int64 → Int32 → am_H → Option am_O) (x0 : Value) (x1 : Int32) (x2 : Int64) (x4 : Int32) (h : am_H) : Option am_O := (rec_5 x0 x1 x2 ((x4 + 1)) h)
theorem rg_142_35 {X : am_X} {d : Nat} {N : Nat} {rec_5 : Value → Int32 → Int64 → Int32 → am_H → Option am_O} (q_5 : ∀ (x0 : Value) (x1 : Int32) (x2 : Int64) (x4 : Int32) (h : am_H) (o : am_O), rec_5 x0 x1 x2 x4 h = some o → ∀ lv : am_LV, (lv.lookup 0 = some x0) → (lv.lookup 1 = some (.int x1)) → (lv.lookup 2 = some (.long x2)) → (lv.lookup 4 = some (.int x4)) → (am_isR x0 = true) → am_W X (d + 2) 142 5 lv [] h (fun q => q = o)) {lv : am_LV} (x0 : Value) (x1 : Int32) (x2 : Int64) (x4 : Int32) (h : am_H) (o : am_O) (l0 : lv.lookup 0 = some x0) (l1 : lv.lookup 1 = some (.int x1)) (l2 : lv.lookup 2 = some (.long x2)) (l4 : lv.lookup 4 = some (.int x4)) (i0 : am_isR x0 = true) (hs : fg_142_35 N rec_5 x0 x1 x2 x4 h = some o) : am_W X (d + 2) 142 35 lv [] h (fun q => q = o) := by
  unfold fg_142_35 at hs
  refine aw_iinc (v := (x4 + 1)) (c := 1) (lv1 := am_put1 _ 4 _) (pc1 := 38) at_142_35 l4 (by decide) rfl rfl rfl ?_
  refine aw_goto at_142_38 ?_
  exact q_5 x0 x1 x2 ((x4 + 1)) h o hs _ (am_lk1 l0 rfl rfl) (am_lk1 l1 rfl rfl) (am_lk1 l2 rfl rfl) am_lk0 i0
def fg_142_5 (N : Nat) : Nat → Value → Int32 → Int64 → Int32 → am_H → Option am_O
  | 0 => fun _ _ _ _ _ => none
  | K + 1 => fun x0 x1 x2 x4 h => ((am_vI (am_pG 513 x0 h)).bind fun v1 => (if v1 ≤ x4 then (if (lg_cmp x2 0) ≤ 0 then (fg_142_52 N 1 h) else (fg_142_52 N x2 h)) else (if am_pOk 2 x0 h then am_cI true (fm_141 x0 x4 x1 h) (fun v6 h7 => (if v6 = 0 then (fg_142_35 N (fg_142_5 N K) x0 x1 x2 x4 h7) else (if am_pOk 2 x0 h7 then am_cI true (fm_112 x0 x4 4 h7) (fun v11 h12 => (fg_142_35 N (fg_142_5 N K) x0 x1 ((x2 + (Int32.toInt64 v11))) x4 h12)) else none))) else none)))
theorem rg_142_5 {X : am_X} {d : Nat} {N : Nat} : ∀ (K : Nat) (x0 : Value) (x1 : Int32) (x2 : Int64) (x4 : Int32) (h : am_H) (o : am_O), fg_142_5 N K x0 x1 x2 x4 h = some o → ∀ lv : am_LV, (lv.lookup 0 = some x0) → (lv.lookup 1 = some (.int x1)) → (lv.lookup 2 = some (.long x2)) → (lv.lookup 4 = some (.int x4)) → (am_isR x0 = true) → am_W X (d + 2) 142 5 lv [] h (fun q => q = o) := by
  intro K
  induction K with
  | zero => intro x0 x1 x2 x4 h o hs; cases hs
  | succ K ih =>
    intro x0 x1 x2 x4 h o hs lv l0 l1 l2 l4 i0
    unfold fg_142_5 at hs
    refine aw_iload (pc1 := 7) at_142_5 l4 rfl ?_
    refine aw_vload_n (pc1 := 8) at_142_7 l0 i0 rfl ?_
    obtain ⟨v1, e2, hs1⟩ := am_bind hs
    clear hs
    refine aw_pG (pc1 := 11) at_142_8 (am_vI_s e2) rfl ?_
    by_cases c3 : v1 ≤ x4
    · rw [if_pos c3] at hs1
      refine aw_icge_t at_142_11 c3 ?_
      refine aw_lload_n (pc1 := 42) at_142_41 l2 rfl ?_
      refine aw_lconst (v := 0) (pc1 := 43) at_142_42 (by decide) rfl ?_
      refine aw_lcmp (v := (lg_cmp x2 0)) (pc1 := 44) at_142_43 rfl rfl ?_
      by_cases c4 : (lg_cmp x2 0) ≤ 0
      · rw [if_pos c4] at hs1
        refine aw_ifle_t at_142_44 c4 ?_
        refine aw_lconst (v := 1) (pc1 := 52) at_142_51 (by decide) rfl ?_
        exact rg_142_52 1 h o   hs1
      · rw [if_neg c4] at hs1
        refine aw_ifle_f (pc1 := 47) at_142_44 c4 rfl ?_
        refine aw_lload_n (pc1 := 48) at_142_47 l2 rfl ?_
        refine aw_goto at_142_48 ?_
        exact rg_142_52 x2 h o   hs1
    · rw [if_neg c3] at hs1
      refine aw_icge_f (pc1 := 14) at_142_11 c3 rfl ?_
      refine aw_vload_n (pc1 := 15) at_142_14 l0 i0 rfl ?_
      refine aw_iload (pc1 := 17) at_142_15 l4 rfl ?_
      refine aw_iload_n (pc1 := 18) at_142_17 l1 rfl ?_
      obtain ⟨z5, hs2⟩ := am_ift hs1
      clear hs1
      refine aw_call (F := fm_141 x0 x4 x1 h) (t := true) (na := 3) (kd := 1) (as := [x0, (.int x4), (.int x1)]) at_142_18 (am_k3v kb_141) mn_141 mk_141 rfl rfl (am_ok_v mi_141 (am_hl rfl (am_ccR i0 (am_ccI (am_ccI am_cats_0))) rfl) z5) (am_hc am_cats_0 rfl) (fun _ => ⟨rfl, hh_142⟩) (fun o1 hz9 => rm_141 x0 x4 x1 h o1 i0 hz9) ?_
      rcases am_cI_s hs2 with ⟨v6, h7, f8, hs3⟩ | hs3
      · clear hs2
        refine Or.inl ⟨_, _, f8, ?_⟩
        show am_W X _ 142 21 _ [(.int v6)] h7 _
        by_cases c9 : v6 = 0
        · rw [if_pos c9] at hs3
          refine aw_ifeq_t at_142_21 c9 ?_
          exact rg_142_35 (fun z0 z1 z2 z3 h o hs3 => ih z0 z1 z2 z3 h o hs3) x0 x1 x2 x4 h7 o l0 l1 l2 l4 i0 hs3
        · rw [if_neg c9] at hs3
          refine aw_ifeq_f (pc1 := 24) at_142_21 c9 rfl ?_
          refine aw_lload_n (pc1 := 25) at_142_24 l2 rfl ?_
          refine aw_vload_n (pc1 := 26) at_142_25 l0 i0 rfl ?_
          refine aw_iload (pc1 := 28) at_142_26 l4 rfl ?_
          refine aw_iconst (v := 4) (pc1 := 29) at_142_28 (by decide) rfl ?_
          obtain ⟨z10, hs4⟩ := am_ift hs3
          clear hs3
          refine aw_call (F := fm_112 x0 x4 4 h7) (t := true) (na := 3) (kd := 1) (as := [x0, (.int x4), (.int 4)]) at_142_29 (am_k3v kb_112) mn_112 mk_112 rfl rfl (am_ok_v mi_112 (am_hl rfl (am_ccR i0 (am_ccI (am_ccI am_cats_0))) rfl) z10) (am_hc (am_ccL am_cats_0) rfl) (fun _ => ⟨rfl, hh_142⟩) (fun o1 hz9 => rm_112 x0 x4 4 h7 o1 i0 hz9) ?_
          rcases am_cI_s hs4 with ⟨v11, h12, f13, hs5⟩ | hs5
          · clear hs4
            refine Or.inl ⟨_, _, f13, ?_⟩
            show am_W X _ 142 32 _ [(.int v11), (.long x2)] h12 _
            refine aw_i2l (v := (Int32.toInt64 v11)) (pc1 := 33) at_142_32 rfl rfl ?_
            refine aw_ladd (v := (x2 + (Int32.toInt64 v11))) (pc1 := 34) at_142_33 rfl rfl ?_
            refine aw_lstore_n (lv1 := am_put2 _ 2 _) (pc1 := 35) at_142_34 rfl rfl ?_
            exact rg_142_35 (fun z0 z1 z2 z3 h o hs5 => ih z0 z1 z2 z3 h o hs5) x0 x1 ((x2 + (Int32.toInt64 v11))) x4 h12 o (am_lk2 l0 rfl rfl) (am_lk2 l1 rfl rfl) am_lk02 (am_lk2 l4 rfl rfl) i0 hs5
          · clear hs4
            exact Or.inr hs5
      · clear hs2
        exact Or.inr hs3
def fg_142_0 (N : Nat) (x0 : Value) (x1 : Int32) (h : am_H) : Option am_O := (fg_142_5 N N x0 x1 0 0 h)
theorem rg_142_0 {X : am_X} {d : Nat} {N : Nat} {lv : am_LV} (x0 : Value) (x1 : Int32) (h : am_H) (o : am_O) (l0 : lv.lookup 0 = some x0) (l1 : lv.lookup 1 = some (.int x1)) (i0 : am_isR x0 = true) (hs : fg_142_0 N x0 x1 h = some o) : am_W X (d + 2) 142 0 lv [] h (fun q => q = o) := by
  unfold fg_142_0 at hs
  refine aw_lconst (v := 0) (pc1 := 1) at_142_0 (by decide) rfl ?_
  refine aw_lstore_n (lv1 := am_put2 _ 2 _) (pc1 := 2) at_142_1 rfl rfl ?_
  refine aw_iconst (v := 0) (pc1 := 3) at_142_2 (by decide) rfl ?_
  refine aw_istore (lv1 := am_put1 _ 4 _) (pc1 := 5) at_142_3 rfl rfl ?_
  exact rg_142_5 N x0 x1 0 0 h o hs _ (am_lk1 (am_lk2 l0 rfl rfl) rfl rfl) (am_lk1 (am_lk2 l1 rfl rfl) rfl rfl) (am_lk1 am_lk02 rfl rfl) am_lk0 i0
def fm_142 (N : Nat) (y0 : Value) (y1 : Int32) (h : am_H) : Option am_O := fg_142_0 N y0 y1 h
theorem rm_142 {X : am_X} {d : Nat} {N : Nat} (y0 : Value) (y1 : Int32) (h : am_H) (o : am_O) (i0 : am_isR y0 = true) (hs : fm_142 N y0 y1 h = some o) : am_W X (d + 2) 142 0 (am_args 0 [y0, .int y1]) [] h (fun q => q = o) := by
  rw [am_args_R i0, am_args_I]
  exact rg_142_0 y0 y1 h o rfl rfl i0 hs
def fg_143_83 (N : Nat) (s0 : Value) (s1 : Int64) (h : am_H) : Option am_O := ((am_pP 517 s0 (.long s1) h).bind fun h1 => some (.inl (none, h1)))
theorem rg_143_83 {X : am_X} {d : Nat} {N : Nat} {lv : am_LV} (s0 : Value) (s1 : Int64) (h : am_H) (o : am_O) (j0 : am_isR s0 = true) (hs : fg_143_83 N s0 s1 h = some o) : am_W X (d + 1) 143 83 lv [(.long s1), s0] h (fun q => q = o) := by
  unfold fg_143_83 at hs
  obtain ⟨h1, e2, hs1⟩ := am_bind hs
  clear hs
  refine aw_pP (pc1 := 86) at_143_83 e2 rfl ?_
  cases hs1
  exact aw_vret at_143_86 rt_143 rfl
def fg_143_64 (N : Nat) (x0 : Value) (x3 : Int64) (x7 : Int64) (s0 : Value) (s1 : Int64) (h : am_H) : Option am_O := ((am_pP 516 s0 (.long s1) h).bind fun h1 => (if (lg_cmp x7 0) ≤ 0 then (fg_143_83 N x0 x3 h1) else (if (x7 : Int64) ≠ 0 then (fg_143_83 N x0 ((x3 / x7)) h1) else none)))
theorem rg_143_64 {X : am_X} {d : Nat} {N : Nat} {lv : am_LV} (x0 : Value) (x3 : Int64) (x7 : Int64) (s0 : Value) (s1 : Int64) (h : am_H) (o : am_O) (l0 : lv.lookup 0 = some x0) (l3 : lv.lookup 3 = some (.long x3)) (l7 : lv.lookup 7 = some (.long x7)) (i0 : am_isR x0 = true) (j0 : am_isR s0 = true) (hs : fg_143_64 N x0 x3 x7 s0 s1 h = some o) : am_W X (d + 1) 143 64 lv [(.long s1), s0] h (fun q => q = o) := by
  unfold fg_143_64 at hs
  obtain ⟨h1, e2, hs1⟩ := am_bind hs
  clear hs
  refine aw_pP (pc1 := 67) at_143_64 e2 rfl ?_
  refine aw_vload_n (pc1 := 68) at_143_67 l0 i0 rfl ?_
  refine aw_lload (pc1 := 70) at_143_68 l7 rfl ?_
  refine aw_lconst (v := 0) (pc1 := 71) at_143_70 (by decide) rfl ?_
  refine aw_lcmp (v := (lg_cmp x7 0)) (pc1 := 72) at_143_71 rfl rfl ?_
  by_cases c3 : (lg_cmp x7 0) ≤ 0
  · rw [if_pos c3] at hs1
    refine aw_ifle_t at_143_72 c3 ?_
    refine aw_lload_n (pc1 := 83) at_143_82 l3 rfl ?_
    exact rg_143_83 x0 x3 h1 o  i0 hs1
  · rw [if_neg c3] at hs1
    refine aw_ifle_f (pc1 := 75) at_143_72 c3 rfl ?_
    refine aw_lload_n (pc1 := 76) at_143_75 l3 rfl ?_
    refine aw_lload (pc1 := 78) at_143_76 l7 rfl ?_
    obtain ⟨z4, hs2⟩ := am_ift hs1
    clear hs1
    refine aw_ldiv (v := (x3 / x7)) (pc1 := 79) at_143_78 z4 rfl rfl ?_
    refine aw_goto at_143_79 ?_
    exact rg_143_83 x0 ((x3 / x7)) h1 o  i0 hs2
def fg_143_48 (N : Nat) (x0 : Value) (x1 : Int64) (x3 : Int64) (x7 : Int64) (h : am_H) : Option am_O := (if (lg_cmp x7 0) ≤ 0 then (fg_143_64 N x0 x3 x7 x0 x1 h) else (if (x7 : Int64) ≠ 0 then (fg_143_64 N x0 x3 x7 x0 ((x1 / x7)) h) else none))
theorem rg_143_48 {X : am_X} {d : Nat} {N : Nat} {lv : am_LV} (x0 : Value) (x1 : Int64) (x3 : Int64) (x7 : Int64) (h : am_H) (o : am_O) (l0 : lv.lookup 0 = some x0) (l1 : lv.lookup 1 = some (.long x1)) (l3 : lv.lookup 3 = some (.long x3)) (l7 : lv.lookup 7 = some (.long x7)) (i0 : am_isR x0 = true) (hs : fg_143_48 N x0 x1 x3 x7 h = some o) : am_W X (d + 1) 143 48 lv [] h (fun q => q = o) := by
  unfold fg_143_48 at hs
  refine aw_vload_n (pc1 := 49) at_143_48 l0 i0 rfl ?_
  refine aw_lload (pc1 := 51) at_143_49 l7 rfl ?_
  refine aw_lconst (v := 0) (pc1 := 52) at_143_51 (by decide) rfl ?_
  refine aw_lcmp (v := (lg_cmp x7 0)) (pc1 := 53) at_143_52 rfl rfl ?_
  by_cases c1 : (lg_cmp x7 0) ≤ 0
  · rw [if_pos c1] at hs
    refine aw_ifle_t at_143_53 c1 ?_
    refine aw_lload_n (pc1 := 64) at_143_63 l1 rfl ?_
    exact rg_143_64 x0 x3 x7 x0 x1 h o l0 l3 l7 i0 i0 hs
  · rw [if_neg c1] at hs
    refine aw_ifle_f (pc1 := 56) at_143_53 c1 rfl ?_
    refine aw_lload_n (pc1 := 57) at_143_56 l1 rfl ?_
    refine aw_lload (pc1 := 59) at_143_57 l7 rfl ?_
    obtain ⟨z2, hs1⟩ := am_ift hs
    clear hs
    refine aw_ldiv (v := (x1 / x7)) (pc1 := 60) at_143_59 z2 rfl rfl ?_
    refine aw_goto at_143_60 ?_
    exact rg_143_64 x0 x3 x7 x0 ((x1 / x7)) h o l0 l3 l7 i0 i0 hs1
def fg_143_12 (N : Nat) : Nat → Value → Int64 → Int64 → Int64 → Int64 → Int32 → am_H → Option am_O
  | 0 => fun _ _ _ _ _ _ _ => none
  | K + 1 => fun x0 x1 x3 x5 x7 x9 h => (if 200 ≤ x9 then (fg_143_48 N x0 x1 x3 x7 h) else (if (lg_cmp x5 0) = 0 then (fg_143_48 N x0 x1 x3 x7 h) else (if (x5 : Int64) ≠ 0 then (fg_143_12 N K x0 x1 x3 ((x7 - x7 / x5 * x5)) x5 ((x9 + 1)) h) else none)))
theorem rg_143_12 {X : am_X} {d : Nat} {N : Nat} : ∀ (K : Nat) (x0 : Value) (x1 : Int64) (x3 : Int64) (x5 : Int64) (x7 : Int64) (x9 : Int32) (h : am_H) (o : am_O), fg_143_12 N K x0 x1 x3 x5 x7 x9 h = some o → ∀ lv : am_LV, (lv.lookup 0 = some x0) → (lv.lookup 1 = some (.long x1)) → (lv.lookup 3 = some (.long x3)) → (lv.lookup 5 = some (.long x5)) → (lv.lookup 7 = some (.long x7)) → (lv.lookup 9 = some (.int x9)) → (am_isR x0 = true) → am_W X (d + 1) 143 12 lv [] h (fun q => q = o) := by
  intro K
  induction K with
  | zero => intro x0 x1 x3 x5 x7 x9 h o hs; cases hs
  | succ K ih =>
    intro x0 x1 x3 x5 x7 x9 h o hs lv l0 l1 l3 l5 l7 l9 i0
    unfold fg_143_12 at hs
    refine aw_iload (pc1 := 14) at_143_12 l9 rfl ?_
    refine aw_sipush (v := 200) (pc1 := 17) at_143_14 (by decide) rfl ?_
    by_cases c1 : 200 ≤ x9
    · rw [if_pos c1] at hs
      refine aw_icge_t at_143_17 c1 ?_
      exact rg_143_48 x0 x1 x3 x7 h o l0 l1 l3 l7 i0 hs
    · rw [if_neg c1] at hs
      refine aw_icge_f (pc1 := 20) at_143_17 c1 rfl ?_
      refine aw_lload (pc1 := 22) at_143_20 l5 rfl ?_
      refine aw_lconst (v := 0) (pc1 := 23) at_143_22 (by decide) rfl ?_
      refine aw_lcmp (v := (lg_cmp x5 0)) (pc1 := 24) at_143_23 rfl rfl ?_
      by_cases c2 : (lg_cmp x5 0) = 0
      · rw [if_pos c2] at hs
        refine aw_ifeq_t at_143_24 c2 ?_
        exact rg_143_48 x0 x1 x3 x7 h o l0 l1 l3 l7 i0 hs
      · rw [if_neg c2] at hs
        refine aw_ifeq_f (pc1 := 27) at_143_24 c2 rfl ?_
        refine aw_lload (pc1 := 29) at_143_27 l7 rfl ?_
        refine aw_lload (pc1 := 31) at_143_29 l5 rfl ?_
        obtain ⟨z3, hs1⟩ := am_ift hs
        clear hs
        refine aw_lrem (v := (x7 - x7 / x5 * x5)) (pc1 := 32) at_143_31 z3 rfl rfl ?_
        refine aw_lstore (lv1 := am_put2 _ 10 _) (pc1 := 34) at_143_32 rfl rfl ?_
        refine aw_lload (pc1 := 36) at_143_34 (am_lk2 l5 rfl rfl) rfl ?_
        refine aw_lstore (lv1 := am_put2 _ 7 _) (pc1 := 38) at_143_36 rfl rfl ?_
        refine aw_lload (pc1 := 40) at_143_38 (am_lk2 am_lk02 rfl rfl) rfl ?_
        refine aw_lstore (lv1 := am_put2 _ 5 _) (pc1 := 42) at_143_40 rfl rfl ?_
        refine aw_iinc (v := (x9 + 1)) (c := 1) (lv1 := am_put1 _ 9 _) (pc1 := 45) at_143_42 (am_lk2 (am_lk2 (am_lk2 l9 rfl rfl) rfl rfl) rfl rfl) (by decide) rfl rfl rfl ?_
        refine aw_goto at_143_45 ?_
        exact ih x0 x1 x3 ((x7 - x7 / x5 * x5)) x5 ((x9 + 1)) h o hs1 _ (am_lk1 (am_lk2 (am_lk2 (am_lk2 l0 rfl rfl) rfl rfl) rfl rfl) rfl rfl) (am_lk1 (am_lk2 (am_lk2 (am_lk2 l1 rfl rfl) rfl rfl) rfl rfl) rfl rfl) (am_lk1 (am_lk2 (am_lk2 (am_lk2 l3 rfl rfl) rfl rfl) rfl rfl) rfl rfl) (am_lk1 am_lk02 rfl rfl) (am_lk1 (am_lk2 am_lk02 rfl rfl) rfl rfl) am_lk0 i0
def fg_143_0 (N : Nat) (x0 : Value) (x1 : Int64) (x3 : Int64) (h : am_H) : Option am_O := am_cL false (fm_135 x1 h) (fun v1 h2 => (fg_143_12 N N x0 x1 x3 v1 x3 0 h2))
theorem rg_143_0 {X : am_X} {d : Nat} {N : Nat} {lv : am_LV} (x0 : Value) (x1 : Int64) (x3 : Int64) (h : am_H) (o : am_O) (l0 : lv.lookup 0 = some x0) (l1 : lv.lookup 1 = some (.long x1)) (l3 : lv.lookup 3 = some (.long x3)) (i0 : am_isR x0 = true) (hs : fg_143_0 N x0 x1 x3 h = some o) : am_W X (d + 1) 143 0 lv [] h (fun q => q = o) := by
  unfold fg_143_0 at hs
  refine aw_lload_n (pc1 := 1) at_143_0 l1 rfl ?_
  refine aw_call (F := fm_135 x1 h) (t := false) (na := 1) (kd := 0) (as := [(.long x1)]) at_143_1 (am_k3s kb_135) mn_135 mk_135 rfl rfl (am_ok_s mi_135 (am_hl rfl (am_ccL am_cats_0) rfl)) (am_hc am_cats_0 rfl) (fun hz9 => by cases hz9) (fun o1 hz9 => rm_135 x1 h o1  hz9) ?_
  rcases am_cL_s hs with ⟨v1, h2, f3, hs1⟩ | hs1
  · clear hs
    refine Or.inl ⟨_, _, f3, ?_⟩
    show am_W X _ 143 4 _ [(.long v1)] h2 _
    refine aw_lstore (lv1 := am_put2 _ 5 _) (pc1 := 6) at_143_4 rfl rfl ?_
    refine aw_lload_n (pc1 := 7) at_143_6 (am_lk2 l3 rfl rfl) rfl ?_
    refine aw_lstore (lv1 := am_put2 _ 7 _) (pc1 := 9) at_143_7 rfl rfl ?_
    refine aw_iconst (v := 0) (pc1 := 10) at_143_9 (by decide) rfl ?_
    refine aw_istore (lv1 := am_put1 _ 9 _) (pc1 := 12) at_143_10 rfl rfl ?_
    exact rg_143_12 N x0 x1 x3 v1 x3 0 h2 o hs1 _ (am_lk1 (am_lk2 (am_lk2 l0 rfl rfl) rfl rfl) rfl rfl) (am_lk1 (am_lk2 (am_lk2 l1 rfl rfl) rfl rfl) rfl rfl) (am_lk1 (am_lk2 (am_lk2 l3 rfl rfl) rfl rfl) rfl rfl) (am_lk1 (am_lk2 am_lk02 rfl rfl) rfl rfl) (am_lk1 am_lk02 rfl rfl) am_lk0 i0
  · clear hs
    exact Or.inr hs1
def fm_143 (N : Nat) (y0 : Value) (y1 : Int64) (y2 : Int64) (h : am_H) : Option am_O := fg_143_0 N y0 y1 y2 h
theorem rm_143 {X : am_X} {d : Nat} {N : Nat} (y0 : Value) (y1 : Int64) (y2 : Int64) (h : am_H) (o : am_O) (i0 : am_isR y0 = true) (hs : fm_143 N y0 y1 y2 h = some o) : am_W X (d + 1) 143 0 (am_args 0 [y0, .long y1, .long y2]) [] h (fun q => q = o) := by
  rw [am_args_R i0, am_args_L, am_args_L]
  exact rg_143_0 y0 y1 y2 h o rfl rfl rfl i0 hs
def fg_144_15 (s0 : Int64) (h : am_H) : Option am_O := some (.inl (some (.long s0), h))
theorem rg_144_15 {X : am_X} {d : Nat} {lv : am_LV} (s0 : Int64) (h : am_H) (o : am_O) (hs : fg_144_15 s0 h = some o) : am_W X (d) 144 15 lv [(.long s0)] h (fun q => q = o) := by
  unfold fg_144_15 at hs
  cases hs
  exact aw_lret at_144_15 rt_144 rfl
def fg_144_0 (x0 : Value) (x1 : Int32) (h : am_H) : Option am_O := (if ¬ x1 = 0 then ((am_vL (am_pG 517 x0 h)).bind fun v2 => (fg_144_15 v2 h)) else ((am_vL (am_pG 516 x0 h)).bind fun v4 => (fg_144_15 v4 h)))
theorem rg_144_0 {X : am_X} {d : Nat} {lv : am_LV} (x0 : Value) (x1 : Int32) (h : am_H) (o : am_O) (l0 : lv.lookup 0 = some x0) (l1 : lv.lookup 1 = some (.int x1)) (i0 : am_isR x0 = true) (hs : fg_144_0 x0 x1 h = some o) : am_W X (d) 144 0 lv [] h (fun q => q = o) := by
  unfold fg_144_0 at hs
  refine aw_iload_n (pc1 := 1) at_144_0 l1 rfl ?_
  by_cases c1 : ¬ x1 = 0
  · rw [if_pos c1] at hs
    refine aw_ifne_t at_144_1 c1 ?_
    refine aw_vload_n (pc1 := 12) at_144_11 l0 i0 rfl ?_
    obtain ⟨v2, e3, hs1⟩ := am_bind hs
    clear hs
    refine aw_pG (pc1 := 15) at_144_12 (am_vL_s e3) rfl ?_
    exact rg_144_15 v2 h o   hs1
  · rw [if_neg c1] at hs
    refine aw_ifne_f (pc1 := 4) at_144_1 c1 rfl ?_
    refine aw_vload_n (pc1 := 5) at_144_4 l0 i0 rfl ?_
    obtain ⟨v4, e5, hs2⟩ := am_bind hs
    clear hs
    refine aw_pG (pc1 := 8) at_144_5 (am_vL_s e5) rfl ?_
    refine aw_goto at_144_8 ?_
    exact rg_144_15 v4 h o   hs2
def fm_144 (y0 : Value) (y1 : Int32) (h : am_H) : Option am_O := fg_144_0 y0 y1 h
theorem rm_144 {X : am_X} {d : Nat} (y0 : Value) (y1 : Int32) (h : am_H) (o : am_O) (i0 : am_isR y0 = true) (hs : fm_144 y0 y1 h = some o) : am_W X (d) 144 0 (am_args 0 [y0, .int y1]) [] h (fun q => q = o) := by
  rw [am_args_R i0, am_args_I]
  exact rg_144_0 y0 y1 h o rfl rfl i0 hs
def fg_138_0 (N : Nat) (x0 : Value) (x1 : Int32) (x2 : Int32) (x3 : Int32) (h : am_H) : Option am_O := (if am_pOk 11 x0 h then am_cR true (fm_63 x0 x1 h) (fun v2 h3 => (if am_pOk 11 x0 h3 then am_cV true (fm_139 x0 x3 h3) (fun h7 => ((am_vR (am_pG 2819 x0 h7)).bind fun v9 => ((am_vR (am_pG 2819 x0 h7)).bind fun v11 => (if am_pOk 2 v11 h7 then am_cL true (fm_140 N v11 v2 x2 h7) (fun v14 h15 => ((am_vR (am_pG 2819 x0 h15)).bind fun v17 => (if am_pOk 2 v17 h15 then am_cL true (fm_142 N v17 x2 h15) (fun v20 h21 => (if am_pOk 2 v9 h21 then am_cV true (fm_143 N v9 v14 v20 h21) (fun h25 => ((am_vR (am_pG 2819 x0 h25)).bind fun v27 => (if am_pOk 2 v27 h25 then am_cL true (fm_144 v27 x3 h25) (fun v30 h31 => some (.inl (some (.long v30), h31))) else none))) else none)) else none))) else none)))) else none)) else none)
theorem rg_138_0 {X : am_X} {d : Nat} {N : Nat} {lv : am_LV} (x0 : Value) (x1 : Int32) (x2 : Int32) (x3 : Int32) (h : am_H) (o : am_O) (l0 : lv.lookup 0 = some x0) (l1 : lv.lookup 1 = some (.int x1)) (l2 : lv.lookup 2 = some (.int x2)) (l3 : lv.lookup 3 = some (.int x3)) (i0 : am_isR x0 = true) (hs : fg_138_0 N x0 x1 x2 x3 h = some o) : am_W X (d + 84) 138 0 lv [] h (fun q => q = o) := by
  unfold fg_138_0 at hs
  refine aw_vload_n (pc1 := 1) at_138_0 l0 i0 rfl ?_
  refine aw_iload_n (pc1 := 2) at_138_1 l1 rfl ?_
  obtain ⟨z1, hs1⟩ := am_ift hs
  clear hs
  refine aw_call (F := fm_63 x0 x1 h) (t := true) (na := 2) (kd := 1) (as := [x0, (.int x1)]) at_138_2 (am_k3v kb_63) mn_63 mk_63 rfl rfl (am_ok_v mi_63 (am_hl rfl (am_ccR i0 (am_ccI am_cats_0)) rfl) z1) (am_hc am_cats_0 rfl) (fun _ => ⟨rfl, hh_138⟩) (fun o1 hz9 => rm_63 x0 x1 h o1 i0 hz9) ?_
  rcases am_cR_s hs1 with ⟨v2, h3, f4, iv2, hs2⟩ | hs2
  · clear hs1
    refine Or.inl ⟨_, _, f4, ?_⟩
    show am_W X _ 138 5 _ [v2] h3 _
    refine aw_vstore (lv1 := am_put1 _ 4 _) (pc1 := 7) at_138_5 iv2 rfl rfl ?_
    refine aw_vload_n (pc1 := 8) at_138_7 (am_lk1 l0 rfl rfl) i0 rfl ?_
    refine aw_iload_n (pc1 := 9) at_138_8 (am_lk1 l3 rfl rfl) rfl ?_
    obtain ⟨z5, hs3⟩ := am_ift hs2
    clear hs2
    refine aw_call (F := fm_139 x0 x3 h3) (t := true) (na := 2) (kd := 1) (as := [x0, (.int x3)]) at_138_9 (am_k3v kb_139) mn_139 mk_139 rfl rfl (am_ok_v mi_139 (am_hl rfl (am_ccR i0 (am_ccI am_cats_0)) rfl) z5) (am_hc am_cats_0 rfl) (fun _ => ⟨rfl, hh_138⟩) (fun o1 hz9 => rm_139 x0 x3 h3 o1 i0 hz9) ?_
    rcases am_cV_s hs3 with ⟨h7, f8, hs4⟩ | hs4
    · clear hs3
      refine Or.inl ⟨_, _, f8, ?_⟩
      show am_W X _ 138 12 _ [] h7 _
      refine aw_vload_n (pc1 := 13) at_138_12 (am_lk1 l0 rfl rfl) i0 rfl ?_
      obtain ⟨v9, e10, hs5⟩ := am_bind hs4
      clear hs4
      refine aw_pG (pc1 := 16) at_138_13 (am_vR_s e10).1 rfl ?_
      refine aw_vload_n (pc1 := 17) at_138_16 (am_lk1 l0 rfl rfl) i0 rfl ?_
      obtain ⟨v11, e12, hs6⟩ := am_bind hs5
      clear hs5
      refine aw_pG (pc1 := 20) at_138_17 (am_vR_s e12).1 rfl ?_
      refine aw_vload (pc1 := 22) at_138_20 am_lk0 iv2 rfl ?_
      refine aw_iload_n (pc1 := 23) at_138_22 (am_lk1 l2 rfl rfl) rfl ?_
      obtain ⟨z13, hs7⟩ := am_ift hs6
      clear hs6
      refine aw_call (F := fm_140 N v11 v2 x2 h7) (t := true) (na := 3) (kd := 1) (as := [v11, v2, (.int x2)]) at_138_23 (am_k3v kb_140) mn_140 mk_140 rfl rfl (am_ok_v mi_140 (am_hl rfl (am_ccR (am_vR_s e12).2 (am_ccR iv2 (am_ccI am_cats_0))) rfl) z13) (am_hc (am_ccR (am_vR_s e10).2 am_cats_0) rfl) (fun _ => ⟨rfl, hh_138⟩) (fun o1 hz9 => rm_140 v11 v2 x2 h7 o1 (am_vR_s e12).2 iv2 hz9) ?_
      rcases am_cL_s hs7 with ⟨v14, h15, f16, hs8⟩ | hs8
      · clear hs7
        refine Or.inl ⟨_, _, f16, ?_⟩
        show am_W X _ 138 26 _ [(.long v14), v9] h15 _
        refine aw_vload_n (pc1 := 27) at_138_26 (am_lk1 l0 rfl rfl) i0 rfl ?_
        obtain ⟨v17, e18, hs9⟩ := am_bind hs8
        clear hs8
        refine aw_pG (pc1 := 30) at_138_27 (am_vR_s e18).1 rfl ?_
        refine aw_iload_n (pc1 := 31) at_138_30 (am_lk1 l2 rfl rfl) rfl ?_
        obtain ⟨z19, hs10⟩ := am_ift hs9
        clear hs9
        refine aw_call (F := fm_142 N v17 x2 h15) (t := true) (na := 2) (kd := 1) (as := [v17, (.int x2)]) at_138_31 (am_k3v kb_142) mn_142 mk_142 rfl rfl (am_ok_v mi_142 (am_hl rfl (am_ccR (am_vR_s e18).2 (am_ccI am_cats_0)) rfl) z19) (am_hc (am_ccL (am_ccR (am_vR_s e10).2 am_cats_0)) rfl) (fun _ => ⟨rfl, hh_138⟩) (fun o1 hz9 => rm_142 v17 x2 h15 o1 (am_vR_s e18).2 hz9) ?_
        rcases am_cL_s hs10 with ⟨v20, h21, f22, hs11⟩ | hs11
        · clear hs10
          refine Or.inl ⟨_, _, f22, ?_⟩
          show am_W X _ 138 34 _ [(.long v20), (.long v14), v9] h21 _
          obtain ⟨z23, hs12⟩ := am_ift hs11
          clear hs11
          refine aw_call (F := fm_143 N v9 v14 v20 h21) (t := true) (na := 3) (kd := 1) (as := [v9, (.long v14), (.long v20)]) at_138_34 (am_k3v kb_143) mn_143 mk_143 rfl rfl (am_ok_v mi_143 (am_hl rfl (am_ccR (am_vR_s e10).2 (am_ccL (am_ccL am_cats_0))) rfl) z23) (am_hc am_cats_0 rfl) (fun _ => ⟨rfl, hh_138⟩) (fun o1 hz9 => rm_143 v9 v14 v20 h21 o1 (am_vR_s e10).2 hz9) ?_
          rcases am_cV_s hs12 with ⟨h25, f26, hs13⟩ | hs13
          · clear hs12
            refine Or.inl ⟨_, _, f26, ?_⟩
            show am_W X _ 138 37 _ [] h25 _
            refine aw_vload_n (pc1 := 38) at_138_37 (am_lk1 l0 rfl rfl) i0 rfl ?_
            obtain ⟨v27, e28, hs14⟩ := am_bind hs13
            clear hs13
            refine aw_pG (pc1 := 41) at_138_38 (am_vR_s e28).1 rfl ?_
            refine aw_iload_n (pc1 := 42) at_138_41 (am_lk1 l3 rfl rfl) rfl ?_
            obtain ⟨z29, hs15⟩ := am_ift hs14
            clear hs14
            refine aw_call (F := fm_144 v27 x3 h25) (t := true) (na := 2) (kd := 1) (as := [v27, (.int x3)]) at_138_42 (am_k3v kb_144) mn_144 mk_144 rfl rfl (am_ok_v mi_144 (am_hl rfl (am_ccR (am_vR_s e28).2 (am_ccI am_cats_0)) rfl) z29) (am_hc am_cats_0 rfl) (fun _ => ⟨rfl, hh_138⟩) (fun o1 hz9 => rm_144 v27 x3 h25 o1 (am_vR_s e28).2 hz9) ?_
            rcases am_cL_s hs15 with ⟨v30, h31, f32, hs16⟩ | hs16
            · clear hs15
              refine Or.inl ⟨_, _, f32, ?_⟩
              show am_W X _ 138 45 _ [(.long v30)] h31 _
              cases hs16
              exact aw_lret at_138_45 rt_138 rfl
            · clear hs15
              exact Or.inr hs16
          · clear hs12
            exact Or.inr hs13
        · clear hs10
          exact Or.inr hs11
      · clear hs7
        exact Or.inr hs8
    · clear hs3
      exact Or.inr hs4
  · clear hs1
    exact Or.inr hs2
def fm_138 (N : Nat) (y0 : Value) (y1 : Int32) (y2 : Int32) (y3 : Int32) (h : am_H) : Option am_O := fg_138_0 N y0 y1 y2 y3 h
theorem rm_138 {X : am_X} {d : Nat} {N : Nat} (y0 : Value) (y1 : Int32) (y2 : Int32) (y3 : Int32) (h : am_H) (o : am_O) (i0 : am_isR y0 = true) (hs : fm_138 N y0 y1 y2 y3 h = some o) : am_W X (d + 84) 138 0 (am_args 0 [y0, .int y1, .int y2, .int y3]) [] h (fun q => q = o) := by
  rw [am_args_R i0, am_args_I, am_args_I, am_args_I]
  exact rg_138_0 y0 y1 y2 y3 h o rfl rfl rfl rfl i0 hs
def fg_137_20 (N : Nat) (h : am_H) : Option am_O := some (.inl (some (.int 2), h))
theorem rg_137_20 {X : am_X} {d : Nat} {N : Nat} {lv : am_LV} (h : am_H) (o : am_O) (hs : fg_137_20 N h = some o) : am_W X (d + 85) 137 20 lv [] h (fun q => q = o) := by
  unfold fg_137_20 at hs
  refine aw_iconst (v := 2) (pc1 := 21) at_137_20 (by decide) rfl ?_
  cases hs
  exact aw_iret at_137_21 (by rw [rt_137]; rfl) rfl
def fg_137_16 (N : Nat) (h : am_H) : Option am_O := some (.inl (some (.int 1), h))
theorem rg_137_16 {X : am_X} {d : Nat} {N : Nat} {lv : am_LV} (h : am_H) (o : am_O) (hs : fg_137_16 N h = some o) : am_W X (d + 85) 137 16 lv [] h (fun q => q = o) := by
  unfold fg_137_16 at hs
  refine aw_iconst (v := 1) (pc1 := 17) at_137_16 (by decide) rfl ?_
  cases hs
  exact aw_iret at_137_17 (by rw [rt_137]; rfl) rfl
def fg_137_0 (N : Nat) (x0 : Value) (x1 : Int32) (x2 : Int32) (x3 : Int32) (x4 : Value) (h : am_H) : Option am_O := (if am_pOk 11 x0 h then (match fm_138 N x0 x1 x2 x3 h with | some (.inl (some (.long v2), h3)) => ((am_pSL x4 0 v2 h3).bind fun h5 => some (.inl (some (.int 0), h5))) | some (.inr (0, h7)) => (fg_137_20 N h7) | some (.inr (2, h9)) => (fg_137_16 N h9) | _ => none) else none)
theorem rg_137_0 {X : am_X} {d : Nat} {N : Nat} {lv : am_LV} (x0 : Value) (x1 : Int32) (x2 : Int32) (x3 : Int32) (x4 : Value) (h : am_H) (o : am_O) (l0 : lv.lookup 0 = some x0) (l1 : lv.lookup 1 = some (.int x1)) (l2 : lv.lookup 2 = some (.int x2)) (l3 : lv.lookup 3 = some (.int x3)) (l4 : lv.lookup 4 = some x4) (i0 : am_isR x0 = true) (i4 : am_isR x4 = true) (hs : fg_137_0 N x0 x1 x2 x3 x4 h = some o) : am_W X (d + 85) 137 0 lv [] h (fun q => q = o) := by
  unfold fg_137_0 at hs
  refine aw_vload (pc1 := 2) at_137_0 l4 i4 rfl ?_
  refine aw_iconst (v := 0) (pc1 := 3) at_137_2 (by decide) rfl ?_
  refine aw_vload_n (pc1 := 4) at_137_3 l0 i0 rfl ?_
  refine aw_iload_n (pc1 := 5) at_137_4 l1 rfl ?_
  refine aw_iload_n (pc1 := 6) at_137_5 l2 rfl ?_
  refine aw_iload_n (pc1 := 7) at_137_6 l3 rfl ?_
  obtain ⟨z1, hs1⟩ := am_ift hs
  clear hs
  refine aw_callH (F := fm_138 N x0 x1 x2 x3 h) (na := 4) (kd := 1) (as := [x0, (.int x1), (.int x2), (.int x3)]) at_137_7 (am_k3v kb_138) mn_138 mk_138 rfl rfl (am_ok_v mi_138 (am_hl rfl (am_ccR i0 (am_ccI (am_ccI (am_ccI am_cats_0)))) rfl) z1) (am_hc (am_ccI (am_ccR i4 am_cats_0)) rfl) (fun o1 hz9 => rm_138 x0 x1 x2 x3 h o1 i0 hz9) ?_
  split at hs1
  · rename_i v2 h3 f4
    refine Or.inl ⟨_, _, f4, ?_⟩
    show am_W X _ 137 10 _ [(.long v2), (.int 0), x4] h3 _
    obtain ⟨h5, e6, hs2⟩ := am_bind hs1
    clear hs1
    refine aw_pSL (pc1 := 11) at_137_10 e6 rfl ?_
    refine aw_goto at_137_11 ?_
    refine aw_iconst (v := 0) (pc1 := 23) at_137_22 (by decide) rfl ?_
    cases hs2
    exact aw_iret at_137_23 (by rw [rt_137]; rfl) rfl
  · rename_i h7 f8
    refine Or.inr ⟨_, _, 20, 5, f8, rfl, hn_137, hd_137_7_0, ?_⟩
    exact rg_137_20 h7 o   hs1
  · rename_i h9 f10
    refine Or.inr ⟨_, _, 16, 5, f10, rfl, hn_137, hd_137_7_2, ?_⟩
    exact rg_137_16 h9 o   hs1
  · cases hs1
def fm_137 (N : Nat) (y0 : Value) (y1 : Int32) (y2 : Int32) (y3 : Int32) (y4 : Value) (h : am_H) : Option am_O := fg_137_0 N y0 y1 y2 y3 y4 h
theorem rm_137 {X : am_X} {d : Nat} {N : Nat} (y0 : Value) (y1 : Int32) (y2 : Int32) (y3 : Int32) (y4 : Value) (h : am_H) (o : am_O) (i0 : am_isR y0 = true) (i4 : am_isR y4 = true) (hs : fm_137 N y0 y1 y2 y3 y4 h = some o) : am_W X (d + 85) 137 0 (am_args 0 [y0, .int y1, .int y2, .int y3, y4]) [] h (fun q => q = o) := by
  rw [am_args_R i0, am_args_I, am_args_I, am_args_I, am_args_R i4]
  exact rg_137_0 y0 y1 y2 y3 y4 h o rfl rfl rfl rfl rfl i0 i4 hs
def fg_430_17 (N : Nat) : Nat → Int64 → Int64 → am_H → Option am_O
  | 0 => fun _ _ _ => none
  | K + 1 => fun x4 x6 h => (if (lg_cmp x6 0) = 0 then some (.inl (some (.long x4), h)) else (if (x6 : Int64) ≠ 0 then (fg_430_17 N K x6 ((x4 - x4 / x6 * x6)) h) else none))
theorem rg_430_17 {X : am_X} {d : Nat} {N : Nat} : ∀ (K : Nat) (x4 : Int64) (x6 : Int64) (h : am_H) (o : am_O), fg_430_17 N K x4 x6 h = some o → ∀ lv : am_LV, (lv.lookup 4 = some (.long x4)) → (lv.lookup 6 = some (.long x6)) → am_W X (d) 430 17 lv [] h (fun q => q = o) := by
  intro K
  induction K with
  | zero => intro x4 x6 h o hs; cases hs
  | succ K ih =>
    intro x4 x6 h o hs lv l4 l6
    unfold fg_430_17 at hs
    refine aw_lload (pc1 := 19) at_430_17 l6 rfl ?_
    refine aw_lconst (v := 0) (pc1 := 20) at_430_19 (by decide) rfl ?_
    refine aw_lcmp (v := (lg_cmp x6 0)) (pc1 := 21) at_430_20 rfl rfl ?_
    by_cases c1 : (lg_cmp x6 0) = 0
    · rw [if_pos c1] at hs
      refine aw_ifeq_t at_430_21 c1 ?_
      refine aw_lload (pc1 := 44) at_430_42 l4 rfl ?_
      cases hs
      exact aw_lret at_430_44 rt_430 rfl
    · rw [if_neg c1] at hs
      refine aw_ifeq_f (pc1 := 24) at_430_21 c1 rfl ?_
      refine aw_lload (pc1 := 26) at_430_24 l4 rfl ?_
      refine aw_lload (pc1 := 28) at_430_26 l6 rfl ?_
      obtain ⟨z2, hs1⟩ := am_ift hs
      clear hs
      refine aw_lrem (v := (x4 - x4 / x6 * x6)) (pc1 := 29) at_430_28 z2 rfl rfl ?_
      refine aw_lstore (lv1 := am_put2 _ 8 _) (pc1 := 31) at_430_29 rfl rfl ?_
      refine aw_lload (pc1 := 33) at_430_31 (am_lk2 l6 rfl rfl) rfl ?_
      refine aw_lstore (lv1 := am_put2 _ 4 _) (pc1 := 35) at_430_33 rfl rfl ?_
      refine aw_lload (pc1 := 37) at_430_35 (am_lk2 am_lk02 rfl rfl) rfl ?_
      refine aw_lstore (lv1 := am_put2 _ 6 _) (pc1 := 39) at_430_37 rfl rfl ?_
      refine aw_goto at_430_39 ?_
      exact ih x6 ((x4 - x4 / x6 * x6)) h o hs1 _ (am_lk2 am_lk02 rfl rfl) am_lk02 
def fg_430_12 (N : Nat) (x2 : Int64) (s0 : Int64) (h : am_H) : Option am_O := (fg_430_17 N N s0 x2 h)
theorem rg_430_12 {X : am_X} {d : Nat} {N : Nat} {lv : am_LV} (x2 : Int64) (s0 : Int64) (h : am_H) (o : am_O) (l2 : lv.lookup 2 = some (.long x2)) (hs : fg_430_12 N x2 s0 h = some o) : am_W X (d) 430 12 lv [(.long s0)] h (fun q => q = o) := by
  unfold fg_430_12 at hs
  refine aw_lstore (lv1 := am_put2 _ 4 _) (pc1 := 14) at_430_12 rfl rfl ?_
  refine aw_lload_n (pc1 := 15) at_430_14 (am_lk2 l2 rfl rfl) rfl ?_
  refine aw_lstore (lv1 := am_put2 _ 6 _) (pc1 := 17) at_430_15 rfl rfl ?_
  exact rg_430_17 N s0 x2 h o hs _ (am_lk2 am_lk02 rfl rfl) am_lk02 
def fg_430_0 (N : Nat) (x0 : Int64) (x2 : Int64) (h : am_H) : Option am_O := (if 0 ≤ (lg_cmp x0 0) then (fg_430_12 N x2 x0 h) else (fg_430_12 N x2 ((-x0)) h))
theorem rg_430_0 {X : am_X} {d : Nat} {N : Nat} {lv : am_LV} (x0 : Int64) (x2 : Int64) (h : am_H) (o : am_O) (l0 : lv.lookup 0 = some (.long x0)) (l2 : lv.lookup 2 = some (.long x2)) (hs : fg_430_0 N x0 x2 h = some o) : am_W X (d) 430 0 lv [] h (fun q => q = o) := by
  unfold fg_430_0 at hs
  refine aw_lload_n (pc1 := 1) at_430_0 l0 rfl ?_
  refine aw_lconst (v := 0) (pc1 := 2) at_430_1 (by decide) rfl ?_
  refine aw_lcmp (v := (lg_cmp x0 0)) (pc1 := 3) at_430_2 rfl rfl ?_
  by_cases c1 : 0 ≤ (lg_cmp x0 0)
  · rw [if_pos c1] at hs
    refine aw_ifge_t at_430_3 c1 ?_
    refine aw_lload_n (pc1 := 12) at_430_11 l0 rfl ?_
    exact rg_430_12 x2 x0 h o l2  hs
  · rw [if_neg c1] at hs
    refine aw_ifge_f (pc1 := 6) at_430_3 c1 rfl ?_
    refine aw_lload_n (pc1 := 7) at_430_6 l0 rfl ?_
    refine aw_lneg (v := (-x0)) (pc1 := 8) at_430_7 rfl rfl ?_
    refine aw_goto at_430_8 ?_
    exact rg_430_12 x2 ((-x0)) h o l2  hs
def fm_430 (N : Nat) (y0 : Int64) (y1 : Int64) (h : am_H) : Option am_O := fg_430_0 N y0 y1 h
theorem rm_430 {X : am_X} {d : Nat} {N : Nat} (y0 : Int64) (y1 : Int64) (h : am_H) (o : am_O) (hs : fm_430 N y0 y1 h = some o) : am_W X (d) 430 0 (am_args 0 [.long y0, .long y1]) [] h (fun q => q = o) := by
  rw [am_args_L, am_args_L]
  exact rg_430_0 y0 y1 h o rfl rfl  hs
def fg_429_0 (N : Nat) (x0 : Value) (h : am_H) : Option am_O := ((am_vL (am_pG 3163 x0 h)).bind fun v1 => ((am_vL (am_pG 3164 x0 h)).bind fun v3 => am_cL false (fm_430 N v1 v3 h) (fun v5 h6 => ((am_vL (am_pG 3163 x0 h6)).bind fun v8 => (if (v5 : Int64) ≠ 0 then ((am_pP 3163 x0 (.long (v8 / v5)) h6).bind fun h11 => ((am_vL (am_pG 3164 x0 h11)).bind fun v13 => (if (v5 : Int64) ≠ 0 then ((am_pP 3164 x0 (.long (v13 / v5)) h11).bind fun h16 => some (.inl (none, h16))) else none))) else none)))))
theorem rg_429_0 {X : am_X} {d : Nat} {N : Nat} {lv : am_LV} (x0 : Value) (h : am_H) (o : am_O) (l0 : lv.lookup 0 = some x0) (i0 : am_isR x0 = true) (hs : fg_429_0 N x0 h = some o) : am_W X (d + 1) 429 0 lv [] h (fun q => q = o) := by
  unfold fg_429_0 at hs
  refine aw_vload_n (pc1 := 1) at_429_0 l0 i0 rfl ?_
  obtain ⟨v1, e2, hs1⟩ := am_bind hs
  clear hs
  refine aw_pG (pc1 := 4) at_429_1 (am_vL_s e2) rfl ?_
  refine aw_vload_n (pc1 := 5) at_429_4 l0 i0 rfl ?_
  obtain ⟨v3, e4, hs2⟩ := am_bind hs1
  clear hs1
  refine aw_pG (pc1 := 8) at_429_5 (am_vL_s e4) rfl ?_
  refine aw_call (F := fm_430 N v1 v3 h) (t := false) (na := 2) (kd := 0) (as := [(.long v1), (.long v3)]) at_429_8 (am_k3s kb_430) mn_430 mk_430 rfl rfl (am_ok_s mi_430 (am_hl rfl (am_ccL (am_ccL am_cats_0)) rfl)) (am_hc am_cats_0 rfl) (fun hz9 => by cases hz9) (fun o1 hz9 => rm_430 v1 v3 h o1  hz9) ?_
  rcases am_cL_s hs2 with ⟨v5, h6, f7, hs3⟩ | hs3
  · clear hs2
    refine Or.inl ⟨_, _, f7, ?_⟩
    show am_W X _ 429 11 _ [(.long v5)] h6 _
    refine aw_lstore_n (lv1 := am_put2 _ 1 _) (pc1 := 12) at_429_11 rfl rfl ?_
    refine aw_vload_n (pc1 := 13) at_429_12 (am_lk2 l0 rfl (by rw [am_isRc i0]; rfl)) i0 rfl ?_
    refine aw_vload_n (pc1 := 14) at_429_13 (am_lk2 l0 rfl (by rw [am_isRc i0]; rfl)) i0 rfl ?_
    obtain ⟨v8, e9, hs4⟩ := am_bind hs3
    clear hs3
    refine aw_pG (pc1 := 17) at_429_14 (am_vL_s e9) rfl ?_
    refine aw_lload_n (pc1 := 18) at_429_17 am_lk02 rfl ?_
    obtain ⟨z10, hs5⟩ := am_ift hs4
    clear hs4
    refine aw_ldiv (v := (v8 / v5)) (pc1 := 19) at_429_18 z10 rfl rfl ?_
    obtain ⟨h11, e12, hs6⟩ := am_bind hs5
    clear hs5
    refine aw_pP (pc1 := 22) at_429_19 e12 rfl ?_
    refine aw_vload_n (pc1 := 23) at_429_22 (am_lk2 l0 rfl (by rw [am_isRc i0]; rfl)) i0 rfl ?_
    refine aw_vload_n (pc1 := 24) at_429_23 (am_lk2 l0 rfl (by rw [am_isRc i0]; rfl)) i0 rfl ?_
    obtain ⟨v13, e14, hs7⟩ := am_bind hs6
    clear hs6
    refine aw_pG (pc1 := 27) at_429_24 (am_vL_s e14) rfl ?_
    refine aw_lload_n (pc1 := 28) at_429_27 am_lk02 rfl ?_
    obtain ⟨z15, hs8⟩ := am_ift hs7
    clear hs7
    refine aw_ldiv (v := (v13 / v5)) (pc1 := 29) at_429_28 z15 rfl rfl ?_
    obtain ⟨h16, e17, hs9⟩ := am_bind hs8
    clear hs8
    refine aw_pP (pc1 := 32) at_429_29 e17 rfl ?_
    cases hs9
    exact aw_vret at_429_32 rt_429 rfl
  · clear hs2
    exact Or.inr hs3
def fm_429 (N : Nat) (y0 : Value) (h : am_H) : Option am_O := fg_429_0 N y0 h
theorem rm_429 {X : am_X} {d : Nat} {N : Nat} (y0 : Value) (h : am_H) (o : am_O) (i0 : am_isR y0 = true) (hs : fm_429 N y0 h = some o) : am_W X (d + 1) 429 0 (am_args 0 [y0]) [] h (fun q => q = o) := by
  rw [am_args_R i0]
  exact rg_429_0 y0 h o rfl i0 hs
def fg_428_95 (N : Nat) (x0 : Value) (s0 : Value) (s1 : Int64) (h : am_H) : Option am_O := ((am_pP 3164 s0 (.long s1) h).bind fun h1 => (if am_pOk 12 x0 h1 then am_cV true (fm_429 N x0 h1) (fun h5 => some (.inl (none, h5))) else none))
theorem rg_428_95 {X : am_X} {d : Nat} {N : Nat} {lv : am_LV} (x0 : Value) (s0 : Value) (s1 : Int64) (h : am_H) (o : am_O) (l0 : lv.lookup 0 = some x0) (i0 : am_isR x0 = true) (j0 : am_isR s0 = true) (hs : fg_428_95 N x0 s0 s1 h = some o) : am_W X (d + 7) 428 95 lv [(.long s1), s0] h (fun q => q = o) := by
  unfold fg_428_95 at hs
  obtain ⟨h1, e2, hs1⟩ := am_bind hs
  clear hs
  refine aw_pP (pc1 := 98) at_428_95 e2 rfl ?_
  refine aw_vload_n (pc1 := 99) at_428_98 l0 i0 rfl ?_
  obtain ⟨z3, hs2⟩ := am_ift hs1
  clear hs1
  refine aw_call (F := fm_429 N x0 h1) (t := true) (na := 1) (kd := 1) (as := [x0]) at_428_99 (am_k3v kb_429) mn_429 mk_429 rfl rfl (am_ok_v mi_429 (am_hl rfl (am_ccR i0 am_cats_0) rfl) z3) (am_hc am_cats_0 rfl) (fun _ => ⟨rfl, hh_428⟩) (fun o1 hz9 => rm_429 x0 h1 o1 i0 hz9) ?_
  rcases am_cV_s hs2 with ⟨h5, f6, hs3⟩ | hs3
  · clear hs2
    refine Or.inl ⟨_, _, f6, ?_⟩
    show am_W X _ 428 102 _ [] h5 _
    cases hs3
    exact aw_vret at_428_102 rt_428 rfl
  · clear hs2
    exact Or.inr hs3
def fg_428_71 (N : Nat) (rec_12 : Value → Int32 → Int32 → am_H → Option am_O) (x0 : Value) (x1 : Int32) (x2 : Int32) (h : am_H) : Option am_O := (rec_12 x0 x1 ((x2 + 1)) h)
theorem rg_428_71 {X : am_X} {d : Nat} {N : Nat} {rec_12 : Value → Int32 → Int32 → am_H → Option am_O} (q_12 : ∀ (x0 : Value) (x1 : Int32) (x2 : Int32) (h : am_H) (o : am_O), rec_12 x0 x1 x2 h = some o → ∀ lv : am_LV, (lv.lookup 0 = some x0) → (lv.lookup 1 = some (.int x1)) → (lv.lookup 2 = some (.int x2)) → (am_isR x0 = true) → am_W X (d + 7) 428 12 lv [] h (fun q => q = o)) {lv : am_LV} (x0 : Value) (x1 : Int32) (x2 : Int32) (h : am_H) (o : am_O) (l0 : lv.lookup 0 = some x0) (l1 : lv.lookup 1 = some (.int x1)) (l2 : lv.lookup 2 = some (.int x2)) (i0 : am_isR x0 = true) (hs : fg_428_71 N rec_12 x0 x1 x2 h = some o) : am_W X (d + 7) 428 71 lv [] h (fun q => q = o) := by
  unfold fg_428_71 at hs
  refine aw_iinc (v := (x2 + 1)) (c := 1) (lv1 := am_put1 _ 2 _) (pc1 := 74) at_428_71 l2 (by decide) rfl rfl rfl ?_
  refine aw_goto at_428_74 ?_
  exact q_12 x0 x1 ((x2 + 1)) h o hs _ (am_lk1 l0 rfl rfl) (am_lk1 l1 rfl rfl) am_lk0 i0
def fg_428_12 (N : Nat) : Nat → Value → Int32 → Int32 → am_H → Option am_O
  | 0 => fun _ _ _ _ => none
  | K + 1 => fun x0 x1 x2 h => ((am_vI (am_pG 3103 x0 h)).bind fun v1 => (if v1 ≤ x2 then ((am_vL (am_pG 3164 x0 h)).bind fun v4 => (if ¬ (lg_cmp v4 0) = 0 then ((am_vL (am_pG 3164 x0 h)).bind fun v7 => (fg_428_95 N x0 x0 v7 h)) else (fg_428_95 N x0 x0 1 h))) else ((am_vR (am_pG 3109 x0 h)).bind fun v9 => ((am_pA 2 v9 x2 h).bind fun v11 => (if v11 = x1 then ((am_vL (am_pG 3163 x0 h)).bind fun v14 => ((am_vR (am_pG 3108 x0 h)).bind fun v16 => ((am_pA 0 v16 x2 h).bind fun v18 => (if am_pOk 12 x0 h then am_cL true (fm_425 N x0 x2 h) (fun v21 h22 => ((am_pP 3163 x0 (.long (v14 + ((Int32.toInt64 v18) * v21))) h22).bind fun h24 => ((am_vL (am_pG 3164 x0 h24)).bind fun v26 => ((am_vR (am_pG 3108 x0 h24)).bind fun v28 => ((am_pA 0 v28 x2 h24).bind fun v30 => ((am_pP 3164 x0 (.long (v26 + (Int32.toInt64 v30))) h24).bind fun h32 => (fg_428_71 N (fg_428_12 N K) x0 x1 x2 h32))))))) else none)))) else (fg_428_71 N (fg_428_12 N K) x0 x1 x2 h))))))
theorem rg_428_12 {X : am_X} {d : Nat} {N : Nat} : ∀ (K : Nat) (x0 : Value) (x1 : Int32) (x2 : Int32) (h : am_H) (o : am_O), fg_428_12 N K x0 x1 x2 h = some o → ∀ lv : am_LV, (lv.lookup 0 = some x0) → (lv.lookup 1 = some (.int x1)) → (lv.lookup 2 = some (.int x2)) → (am_isR x0 = true) → am_W X (d + 7) 428 12 lv [] h (fun q => q = o) := by
  intro K
  induction K with
  | zero => intro x0 x1 x2 h o hs; cases hs
  | succ K ih =>
    intro x0 x1 x2 h o hs lv l0 l1 l2 i0
    unfold fg_428_12 at hs
    refine aw_iload_n (pc1 := 13) at_428_12 l2 rfl ?_
    refine aw_vload_n (pc1 := 14) at_428_13 l0 i0 rfl ?_
    obtain ⟨v1, e2, hs1⟩ := am_bind hs
    clear hs
    refine aw_pG (pc1 := 17) at_428_14 (am_vI_s e2) rfl ?_
    by_cases c3 : v1 ≤ x2
    · rw [if_pos c3] at hs1
      refine aw_icge_t at_428_17 c3 ?_
      refine aw_vload_n (pc1 := 78) at_428_77 l0 i0 rfl ?_
      refine aw_vload_n (pc1 := 79) at_428_78 l0 i0 rfl ?_
      obtain ⟨v4, e5, hs2⟩ := am_bind hs1
      clear hs1
      refine aw_pG (pc1 := 82) at_428_79 (am_vL_s e5) rfl ?_
      refine aw_lconst (v := 0) (pc1 := 83) at_428_82 (by decide) rfl ?_
      refine aw_lcmp (v := (lg_cmp v4 0)) (pc1 := 84) at_428_83 rfl rfl ?_
      by_cases c6 : ¬ (lg_cmp v4 0) = 0
      · rw [if_pos c6] at hs2
        refine aw_ifne_t at_428_84 c6 ?_
        refine aw_vload_n (pc1 := 92) at_428_91 l0 i0 rfl ?_
        obtain ⟨v7, e8, hs3⟩ := am_bind hs2
        clear hs2
        refine aw_pG (pc1 := 95) at_428_92 (am_vL_s e8) rfl ?_
        exact rg_428_95 x0 x0 v7 h o l0 i0 i0 hs3
      · rw [if_neg c6] at hs2
        refine aw_ifne_f (pc1 := 87) at_428_84 c6 rfl ?_
        refine aw_lconst (v := 1) (pc1 := 88) at_428_87 (by decide) rfl ?_
        refine aw_goto at_428_88 ?_
        exact rg_428_95 x0 x0 1 h o l0 i0 i0 hs2
    · rw [if_neg c3] at hs1
      refine aw_icge_f (pc1 := 20) at_428_17 c3 rfl ?_
      refine aw_vload_n (pc1 := 21) at_428_20 l0 i0 rfl ?_
      obtain ⟨v9, e10, hs4⟩ := am_bind hs1
      clear hs1
      refine aw_pG (pc1 := 24) at_428_21 (am_vR_s e10).1 rfl ?_
      refine aw_iload_n (pc1 := 25) at_428_24 l2 rfl ?_
      obtain ⟨v11, e12, hs5⟩ := am_bind hs4
      clear hs4
      refine aw_pA (pc1 := 26) at_428_25 (Or.inr (Or.inl ⟨rfl, rfl⟩)) e12 rfl ?_
      refine aw_iload_n (pc1 := 27) at_428_26 l1 rfl ?_
      by_cases c13 : v11 = x1
      · rw [if_pos c13] at hs5
        refine aw_iceq_t at_428_27 c13 ?_
        refine aw_vload_n (pc1 := 34) at_428_33 l0 i0 rfl ?_
        refine aw_vdup (pc1 := 35) at_428_34 i0 rfl ?_
        obtain ⟨v14, e15, hs6⟩ := am_bind hs5
        clear hs5
        refine aw_pG (pc1 := 38) at_428_35 (am_vL_s e15) rfl ?_
        refine aw_vload_n (pc1 := 39) at_428_38 l0 i0 rfl ?_
        obtain ⟨v16, e17, hs7⟩ := am_bind hs6
        clear hs6
        refine aw_pG (pc1 := 42) at_428_39 (am_vR_s e17).1 rfl ?_
        refine aw_iload_n (pc1 := 43) at_428_42 l2 rfl ?_
        obtain ⟨v18, e19, hs8⟩ := am_bind hs7
        clear hs7
        refine aw_pA (pc1 := 44) at_428_43 (Or.inl ⟨rfl, rfl⟩) e19 rfl ?_
        refine aw_i2l (v := (Int32.toInt64 v18)) (pc1 := 45) at_428_44 rfl rfl ?_
        refine aw_vload_n (pc1 := 46) at_428_45 l0 i0 rfl ?_
        refine aw_iload_n (pc1 := 47) at_428_46 l2 rfl ?_
        obtain ⟨z20, hs9⟩ := am_ift hs8
        clear hs8
        refine aw_call (F := fm_425 N x0 x2 h) (t := true) (na := 2) (kd := 1) (as := [x0, (.int x2)]) at_428_47 (am_k3v kb_425) mn_425 mk_425 rfl rfl (am_ok_v mi_425 (am_hl rfl (am_ccR i0 (am_ccI am_cats_0)) rfl) z20) (am_hc (am_ccL (am_ccL (am_ccR i0 am_cats_0))) rfl) (fun _ => ⟨rfl, hh_428⟩) (fun o1 hz9 => rm_425 x0 x2 h o1 i0 hz9) ?_
        rcases am_cL_s hs9 with ⟨v21, h22, f23, hs10⟩ | hs10
        · clear hs9
          refine Or.inl ⟨_, _, f23, ?_⟩
          show am_W X _ 428 50 _ [(.long v21), (.long (Int32.toInt64 v18)), (.long v14), x0] h22 _
          refine aw_lmul (v := ((Int32.toInt64 v18) * v21)) (pc1 := 51) at_428_50 rfl rfl ?_
          refine aw_ladd (v := (v14 + ((Int32.toInt64 v18) * v21))) (pc1 := 52) at_428_51 rfl rfl ?_
          obtain ⟨h24, e25, hs11⟩ := am_bind hs10
          clear hs10
          refine aw_pP (pc1 := 55) at_428_52 e25 rfl ?_
          refine aw_vload_n (pc1 := 56) at_428_55 l0 i0 rfl ?_
          refine aw_vdup (pc1 := 57) at_428_56 i0 rfl ?_
          obtain ⟨v26, e27, hs12⟩ := am_bind hs11
          clear hs11
          refine aw_pG (pc1 := 60) at_428_57 (am_vL_s e27) rfl ?_
          refine aw_vload_n (pc1 := 61) at_428_60 l0 i0 rfl ?_
          obtain ⟨v28, e29, hs13⟩ := am_bind hs12
          clear hs12
          refine aw_pG (pc1 := 64) at_428_61 (am_vR_s e29).1 rfl ?_
          refine aw_iload_n (pc1 := 65) at_428_64 l2 rfl ?_
          obtain ⟨v30, e31, hs14⟩ := am_bind hs13
          clear hs13
          refine aw_pA (pc1 := 66) at_428_65 (Or.inl ⟨rfl, rfl⟩) e31 rfl ?_
          refine aw_i2l (v := (Int32.toInt64 v30)) (pc1 := 67) at_428_66 rfl rfl ?_
          refine aw_ladd (v := (v26 + (Int32.toInt64 v30))) (pc1 := 68) at_428_67 rfl rfl ?_
          obtain ⟨h32, e33, hs15⟩ := am_bind hs14
          clear hs14
          refine aw_pP (pc1 := 71) at_428_68 e33 rfl ?_
          exact rg_428_71 (fun z0 z1 z2 h o hs15 => ih z0 z1 z2 h o hs15) x0 x1 x2 h32 o l0 l1 l2 i0 hs15
        · clear hs9
          exact Or.inr hs10
      · rw [if_neg c13] at hs5
        refine aw_iceq_f (pc1 := 30) at_428_27 c13 rfl ?_
        refine aw_goto at_428_30 ?_
        exact rg_428_71 (fun z0 z1 z2 h o hs5 => ih z0 z1 z2 h o hs5) x0 x1 x2 h o l0 l1 l2 i0 hs5
def fg_428_0 (N : Nat) (x0 : Value) (x1 : Int32) (h : am_H) : Option am_O := ((am_pP 3163 x0 (.long 0) h).bind fun h1 => ((am_pP 3164 x0 (.long 0) h1).bind fun h3 => (fg_428_12 N N x0 x1 0 h3)))
theorem rg_428_0 {X : am_X} {d : Nat} {N : Nat} {lv : am_LV} (x0 : Value) (x1 : Int32) (h : am_H) (o : am_O) (l0 : lv.lookup 0 = some x0) (l1 : lv.lookup 1 = some (.int x1)) (i0 : am_isR x0 = true) (hs : fg_428_0 N x0 x1 h = some o) : am_W X (d + 7) 428 0 lv [] h (fun q => q = o) := by
  unfold fg_428_0 at hs
  refine aw_vload_n (pc1 := 1) at_428_0 l0 i0 rfl ?_
  refine aw_lconst (v := 0) (pc1 := 2) at_428_1 (by decide) rfl ?_
  obtain ⟨h1, e2, hs1⟩ := am_bind hs
  clear hs
  refine aw_pP (pc1 := 5) at_428_2 e2 rfl ?_
  refine aw_vload_n (pc1 := 6) at_428_5 l0 i0 rfl ?_
  refine aw_lconst (v := 0) (pc1 := 7) at_428_6 (by decide) rfl ?_
  obtain ⟨h3, e4, hs2⟩ := am_bind hs1
  clear hs1
  refine aw_pP (pc1 := 10) at_428_7 e4 rfl ?_
  refine aw_iconst (v := 0) (pc1 := 11) at_428_10 (by decide) rfl ?_
  refine aw_istore_n (lv1 := am_put1 _ 2 _) (pc1 := 12) at_428_11 rfl rfl ?_
  exact rg_428_12 N x0 x1 0 h3 o hs2 _ (am_lk1 l0 rfl rfl) (am_lk1 l1 rfl rfl) am_lk0 i0
def fm_428 (N : Nat) (y0 : Value) (y1 : Int32) (h : am_H) : Option am_O := fg_428_0 N y0 y1 h
theorem rm_428 {X : am_X} {d : Nat} {N : Nat} (y0 : Value) (y1 : Int32) (h : am_H) (o : am_O) (i0 : am_isR y0 = true) (hs : fm_428 N y0 y1 h = some o) : am_W X (d + 7) 428 0 (am_args 0 [y0, .int y1]) [] h (fun q => q = o) := by
  rw [am_args_R i0, am_args_I]
  exact rg_428_0 y0 y1 h o rfl rfl i0 hs
def fg_427_65 (N : Nat) (s0 : Int64) (h : am_H) : Option am_O := some (.inl (some (.long s0), h))
theorem rg_427_65 {X : am_X} {d : Nat} {N : Nat} {lv : am_LV} (s0 : Int64) (h : am_H) (o : am_O) (hs : fg_427_65 N s0 h = some o) : am_W X (d + 8) 427 65 lv [(.long s0)] h (fun q => q = o) := by
  unfold fg_427_65 at hs
  cases hs
  exact aw_lret at_427_65 rt_427 rfl
def fg_427_28 (N : Nat) (x0 : Value) (x1 : Int32) (x2 : Int32) (x3 : Int32) (s0 : Value) (s1 : Int32) (h : am_H) : Option am_O := ((am_pP 3072 s0 (.int s1) h).bind fun h1 => ((am_vI (am_pG 3072 x0 h1)).bind fun v3 => (if v3 ≤ 0 then (if am_pOk 12 x0 h1 then am_cV true (fm_359 N x0 x1 h1) (fun h8 => (if am_pOk 12 x0 h8 then am_cV true (fm_428 N x0 x2 h8) (fun h12 => (if ¬ x3 = 0 then ((am_vL (am_pG 3164 x0 h12)).bind fun v15 => (fg_427_65 N v15 h12)) else ((am_vL (am_pG 3163 x0 h12)).bind fun v17 => (fg_427_65 N v17 h12)))) else none)) else none) else some (.inl (some (.long 0), h1)))))
theorem rg_427_28 {X : am_X} {d : Nat} {N : Nat} {lv : am_LV} (x0 : Value) (x1 : Int32) (x2 : Int32) (x3 : Int32) (s0 : Value) (s1 : Int32) (h : am_H) (o : am_O) (l0 : lv.lookup 0 = some x0) (l1 : lv.lookup 1 = some (.int x1)) (l2 : lv.lookup 2 = some (.int x2)) (l3 : lv.lookup 3 = some (.int x3)) (i0 : am_isR x0 = true) (j0 : am_isR s0 = true) (hs : fg_427_28 N x0 x1 x2 x3 s0 s1 h = some o) : am_W X (d + 8) 427 28 lv [(.int s1), s0] h (fun q => q = o) := by
  unfold fg_427_28 at hs
  obtain ⟨h1, e2, hs1⟩ := am_bind hs
  clear hs
  refine aw_pP (pc1 := 31) at_427_28 e2 rfl ?_
  refine aw_vload_n (pc1 := 32) at_427_31 l0 i0 rfl ?_
  obtain ⟨v3, e4, hs2⟩ := am_bind hs1
  clear hs1
  refine aw_pG (pc1 := 35) at_427_32 (am_vI_s e4) rfl ?_
  by_cases c5 : v3 ≤ 0
  · rw [if_pos c5] at hs2
    refine aw_ifle_t at_427_35 c5 ?_
    refine aw_vload_n (pc1 := 41) at_427_40 l0 i0 rfl ?_
    refine aw_iload_n (pc1 := 42) at_427_41 l1 rfl ?_
    obtain ⟨z6, hs3⟩ := am_ift hs2
    clear hs2
    refine aw_call (F := fm_359 N x0 x1 h1) (t := true) (na := 2) (kd := 1) (as := [x0, (.int x1)]) at_427_42 (am_k3v kb_359) mn_359 mk_359 rfl rfl (am_ok_v mi_359 (am_hl rfl (am_ccR i0 (am_ccI am_cats_0)) rfl) z6) (am_hc am_cats_0 rfl) (fun _ => ⟨rfl, hh_427⟩) (fun o1 hz9 => rm_359 x0 x1 h1 o1 i0 hz9) ?_
    rcases am_cV_s hs3 with ⟨h8, f9, hs4⟩ | hs4
    · clear hs3
      refine Or.inl ⟨_, _, f9, ?_⟩
      show am_W X _ 427 45 _ [] h8 _
      refine aw_vload_n (pc1 := 46) at_427_45 l0 i0 rfl ?_
      refine aw_iload_n (pc1 := 47) at_427_46 l2 rfl ?_
      obtain ⟨z10, hs5⟩ := am_ift hs4
      clear hs4
      refine aw_call (F := fm_428 N x0 x2 h8) (t := true) (na := 2) (kd := 1) (as := [x0, (.int x2)]) at_427_47 (am_k3v kb_428) mn_428 mk_428 rfl rfl (am_ok_v mi_428 (am_hl rfl (am_ccR i0 (am_ccI am_cats_0)) rfl) z10) (am_hc am_cats_0 rfl) (fun _ => ⟨rfl, hh_427⟩) (fun o1 hz9 => rm_428 x0 x2 h8 o1 i0 hz9) ?_
      rcases am_cV_s hs5 with ⟨h12, f13, hs6⟩ | hs6
      · clear hs5
        refine Or.inl ⟨_, _, f13, ?_⟩
        show am_W X _ 427 50 _ [] h12 _
        refine aw_iload_n (pc1 := 51) at_427_50 l3 rfl ?_
        by_cases c14 : ¬ x3 = 0
        · rw [if_pos c14] at hs6
          refine aw_ifne_t at_427_51 c14 ?_
          refine aw_vload_n (pc1 := 62) at_427_61 l0 i0 rfl ?_
          obtain ⟨v15, e16, hs7⟩ := am_bind hs6
          clear hs6
          refine aw_pG (pc1 := 65) at_427_62 (am_vL_s e16) rfl ?_
          exact rg_427_65 v15 h12 o   hs7
        · rw [if_neg c14] at hs6
          refine aw_ifne_f (pc1 := 54) at_427_51 c14 rfl ?_
          refine aw_vload_n (pc1 := 55) at_427_54 l0 i0 rfl ?_
          obtain ⟨v17, e18, hs8⟩ := am_bind hs6
          clear hs6
          refine aw_pG (pc1 := 58) at_427_55 (am_vL_s e18) rfl ?_
          refine aw_goto at_427_58 ?_
          exact rg_427_65 v17 h12 o   hs8
      · clear hs5
        exact Or.inr hs6
    · clear hs3
      exact Or.inr hs4
  · rw [if_neg c5] at hs2
    refine aw_ifle_f (pc1 := 38) at_427_35 c5 rfl ?_
    refine aw_lconst (v := 0) (pc1 := 39) at_427_38 (by decide) rfl ?_
    cases hs2
    exact aw_lret at_427_39 rt_427 rfl
def fg_427_0 (N : Nat) (x0 : Value) (x1 : Int32) (x2 : Int32) (x3 : Int32) (h : am_H) : Option am_O := (if am_pOk 12 x0 h then am_cI true (fm_358 x0 x1 h) (fun v2 h3 => (if ¬ v2 = 0 then am_cI false (fm_327 ((Int32.toInt64 x3)) 0 1 h3) (fun v6 h7 => (if ¬ v6 = 0 then (fg_427_28 N x0 x1 x2 x3 x0 0 h7) else (fg_427_28 N x0 x1 x2 x3 x0 2 h7))) else (fg_427_28 N x0 x1 x2 x3 x0 1 h3))) else none)
theorem rg_427_0 {X : am_X} {d : Nat} {N : Nat} {lv : am_LV} (x0 : Value) (x1 : Int32) (x2 : Int32) (x3 : Int32) (h : am_H) (o : am_O) (l0 : lv.lookup 0 = some x0) (l1 : lv.lookup 1 = some (.int x1)) (l2 : lv.lookup 2 = some (.int x2)) (l3 : lv.lookup 3 = some (.int x3)) (i0 : am_isR x0 = true) (hs : fg_427_0 N x0 x1 x2 x3 h = some o) : am_W X (d + 8) 427 0 lv [] h (fun q => q = o) := by
  unfold fg_427_0 at hs
  refine aw_vload_n (pc1 := 1) at_427_0 l0 i0 rfl ?_
  refine aw_vload_n (pc1 := 2) at_427_1 l0 i0 rfl ?_
  refine aw_iload_n (pc1 := 3) at_427_2 l1 rfl ?_
  obtain ⟨z1, hs1⟩ := am_ift hs
  clear hs
  refine aw_call (F := fm_358 x0 x1 h) (t := true) (na := 2) (kd := 1) (as := [x0, (.int x1)]) at_427_3 (am_k3v kb_358) mn_358 mk_358 rfl rfl (am_ok_v mi_358 (am_hl rfl (am_ccR i0 (am_ccI am_cats_0)) rfl) z1) (am_hc (am_ccR i0 am_cats_0) rfl) (fun _ => ⟨rfl, hh_427⟩) (fun o1 hz9 => rm_358 x0 x1 h o1 i0 hz9) ?_
  rcases am_cI_s hs1 with ⟨v2, h3, f4, hs2⟩ | hs2
  · clear hs1
    refine Or.inl ⟨_, _, f4, ?_⟩
    show am_W X _ 427 6 _ [(.int v2), x0] h3 _
    by_cases c5 : ¬ v2 = 0
    · rw [if_pos c5] at hs2
      refine aw_ifne_t at_427_6 c5 ?_
      refine aw_iload_n (pc1 := 14) at_427_13 l3 rfl ?_
      refine aw_i2l (v := (Int32.toInt64 x3)) (pc1 := 15) at_427_14 rfl rfl ?_
      refine aw_lconst (v := 0) (pc1 := 16) at_427_15 (by decide) rfl ?_
      refine aw_lconst (v := 1) (pc1 := 17) at_427_16 (by decide) rfl ?_
      refine aw_call (F := fm_327 ((Int32.toInt64 x3)) 0 1 h3) (t := false) (na := 3) (kd := 0) (as := [(.long (Int32.toInt64 x3)), (.long 0), (.long 1)]) at_427_17 (am_k3s kb_327) mn_327 mk_327 rfl rfl (am_ok_s mi_327 (am_hl rfl (am_ccL (am_ccL (am_ccL am_cats_0))) rfl)) (am_hc (am_ccR i0 am_cats_0) rfl) (fun hz9 => by cases hz9) (fun o1 hz9 => rm_327 ((Int32.toInt64 x3)) 0 1 h3 o1  hz9) ?_
      rcases am_cI_s hs2 with ⟨v6, h7, f8, hs3⟩ | hs3
      · clear hs2
        refine Or.inl ⟨_, _, f8, ?_⟩
        show am_W X _ 427 20 _ [(.int v6), x0] h7 _
        by_cases c9 : ¬ v6 = 0
        · rw [if_pos c9] at hs3
          refine aw_ifne_t at_427_20 c9 ?_
          refine aw_iconst (v := 0) (pc1 := 28) at_427_27 (by decide) rfl ?_
          exact rg_427_28 x0 x1 x2 x3 x0 0 h7 o l0 l1 l2 l3 i0 i0 hs3
        · rw [if_neg c9] at hs3
          refine aw_ifne_f (pc1 := 23) at_427_20 c9 rfl ?_
          refine aw_iconst (v := 2) (pc1 := 24) at_427_23 (by decide) rfl ?_
          refine aw_goto at_427_24 ?_
          exact rg_427_28 x0 x1 x2 x3 x0 2 h7 o l0 l1 l2 l3 i0 i0 hs3
      · clear hs2
        exact Or.inr hs3
    · rw [if_neg c5] at hs2
      refine aw_ifne_f (pc1 := 9) at_427_6 c5 rfl ?_
      refine aw_iconst (v := 1) (pc1 := 10) at_427_9 (by decide) rfl ?_
      refine aw_goto at_427_10 ?_
      exact rg_427_28 x0 x1 x2 x3 x0 1 h3 o l0 l1 l2 l3 i0 i0 hs2
  · clear hs1
    exact Or.inr hs2
def fm_427 (N : Nat) (y0 : Value) (y1 : Int32) (y2 : Int32) (y3 : Int32) (h : am_H) : Option am_O := fg_427_0 N y0 y1 y2 y3 h
theorem rm_427 {X : am_X} {d : Nat} {N : Nat} (y0 : Value) (y1 : Int32) (y2 : Int32) (y3 : Int32) (h : am_H) (o : am_O) (i0 : am_isR y0 = true) (hs : fm_427 N y0 y1 y2 y3 h = some o) : am_W X (d + 8) 427 0 (am_args 0 [y0, .int y1, .int y2, .int y3]) [] h (fun q => q = o) := by
  rw [am_args_R i0, am_args_I, am_args_I, am_args_I]
  exact rg_427_0 y0 y1 y2 y3 h o rfl rfl rfl rfl i0 hs
def fg_146_0 (N : Nat) (x0 : Value) (x1 : Int32) (x2 : Int32) (h : am_H) : Option am_O := (if am_pOk 11 x0 h then am_cR true (fm_63 x0 x1 h) (fun v2 h3 => (if am_pOk 11 x0 h3 then am_cV true (fm_139 x0 x2 h3) (fun h7 => ((am_vR (am_pG 2819 x0 h7)).bind fun v9 => (if am_pOk 2 v9 h7 then am_cL true (fm_142 N v9 0 h7) (fun v12 h13 => ((am_vR (am_pG 2819 x0 h13)).bind fun v15 => (if am_pOk 2 v15 h13 then am_cL true (fm_142 N v15 1 h13) (fun v18 h19 => ((am_vR (am_pG 2819 x0 h19)).bind fun v21 => ((am_vR (am_pG 2819 x0 h19)).bind fun v23 => (if am_pOk 2 v23 h19 then am_cL true (fm_140 N v23 v2 1 h19) (fun v26 h27 => ((am_vR (am_pG 2819 x0 h27)).bind fun v29 => (if am_pOk 2 v29 h27 then am_cL true (fm_140 N v29 v2 0 h27) (fun v32 h33 => (if am_pOk 2 v21 h33 then am_cV true (fm_143 N v21 (((v26 * v12) - (v32 * v18))) ((v12 * v18)) h33) (fun h37 => ((am_vR (am_pG 2819 x0 h37)).bind fun v39 => (if am_pOk 2 v39 h37 then am_cL true (fm_144 v39 x2 h37) (fun v42 h43 => some (.inl (some (.long v42), h43))) else none))) else none)) else none))) else none)))) else none))) else none))) else none)) else none)
theorem rg_146_0 {X : am_X} {d : Nat} {N : Nat} {lv : am_LV} (x0 : Value) (x1 : Int32) (x2 : Int32) (h : am_H) (o : am_O) (l0 : lv.lookup 0 = some x0) (l1 : lv.lookup 1 = some (.int x1)) (l2 : lv.lookup 2 = some (.int x2)) (i0 : am_isR x0 = true) (hs : fg_146_0 N x0 x1 x2 h = some o) : am_W X (d + 84) 146 0 lv [] h (fun q => q = o) := by
  unfold fg_146_0 at hs
  refine aw_vload_n (pc1 := 1) at_146_0 l0 i0 rfl ?_
  refine aw_iload_n (pc1 := 2) at_146_1 l1 rfl ?_
  obtain ⟨z1, hs1⟩ := am_ift hs
  clear hs
  refine aw_call (F := fm_63 x0 x1 h) (t := true) (na := 2) (kd := 1) (as := [x0, (.int x1)]) at_146_2 (am_k3v kb_63) mn_63 mk_63 rfl rfl (am_ok_v mi_63 (am_hl rfl (am_ccR i0 (am_ccI am_cats_0)) rfl) z1) (am_hc am_cats_0 rfl) (fun _ => ⟨rfl, hh_146⟩) (fun o1 hz9 => rm_63 x0 x1 h o1 i0 hz9) ?_
  rcases am_cR_s hs1 with ⟨v2, h3, f4, iv2, hs2⟩ | hs2
  · clear hs1
    refine Or.inl ⟨_, _, f4, ?_⟩
    show am_W X _ 146 5 _ [v2] h3 _
    refine aw_vstore_n (lv1 := am_put1 _ 3 _) (pc1 := 6) at_146_5 iv2 rfl rfl ?_
    refine aw_vload_n (pc1 := 7) at_146_6 (am_lk1 l0 rfl rfl) i0 rfl ?_
    refine aw_iload_n (pc1 := 8) at_146_7 (am_lk1 l2 rfl rfl) rfl ?_
    obtain ⟨z5, hs3⟩ := am_ift hs2
    clear hs2
    refine aw_call (F := fm_139 x0 x2 h3) (t := true) (na := 2) (kd := 1) (as := [x0, (.int x2)]) at_146_8 (am_k3v kb_139) mn_139 mk_139 rfl rfl (am_ok_v mi_139 (am_hl rfl (am_ccR i0 (am_ccI am_cats_0)) rfl) z5) (am_hc am_cats_0 rfl) (fun _ => ⟨rfl, hh_146⟩) (fun o1 hz9 => rm_139 x0 x2 h3 o1 i0 hz9) ?_
    rcases am_cV_s hs3 with ⟨h7, f8, hs4⟩ | hs4
    · clear hs3
      refine Or.inl ⟨_, _, f8, ?_⟩
      show am_W X _ 146 11 _ [] h7 _
      refine aw_vload_n (pc1 := 12) at_146_11 (am_lk1 l0 rfl rfl) i0 rfl ?_
      obtain ⟨v9, e10, hs5⟩ := am_bind hs4
      clear hs4
      refine aw_pG (pc1 := 15) at_146_12 (am_vR_s e10).1 rfl ?_
      refine aw_iconst (v := 0) (pc1 := 16) at_146_15 (by decide) rfl ?_
      obtain ⟨z11, hs6⟩ := am_ift hs5
      clear hs5
      refine aw_call (F := fm_142 N v9 0 h7) (t := true) (na := 2) (kd := 1) (as := [v9, (.int 0)]) at_146_16 (am_k3v kb_142) mn_142 mk_142 rfl rfl (am_ok_v mi_142 (am_hl rfl (am_ccR (am_vR_s e10).2 (am_ccI am_cats_0)) rfl) z11) (am_hc am_cats_0 rfl) (fun _ => ⟨rfl, hh_146⟩) (fun o1 hz9 => rm_142 v9 0 h7 o1 (am_vR_s e10).2 hz9) ?_
      rcases am_cL_s hs6 with ⟨v12, h13, f14, hs7⟩ | hs7
      · clear hs6
        refine Or.inl ⟨_, _, f14, ?_⟩
        show am_W X _ 146 19 _ [(.long v12)] h13 _
        refine aw_lstore (lv1 := am_put2 _ 4 _) (pc1 := 21) at_146_19 rfl rfl ?_
        refine aw_vload_n (pc1 := 22) at_146_21 (am_lk2 (am_lk1 l0 rfl rfl) rfl rfl) i0 rfl ?_
        obtain ⟨v15, e16, hs8⟩ := am_bind hs7
        clear hs7
        refine aw_pG (pc1 := 25) at_146_22 (am_vR_s e16).1 rfl ?_
        refine aw_iconst (v := 1) (pc1 := 26) at_146_25 (by decide) rfl ?_
        obtain ⟨z17, hs9⟩ := am_ift hs8
        clear hs8
        refine aw_call (F := fm_142 N v15 1 h13) (t := true) (na := 2) (kd := 1) (as := [v15, (.int 1)]) at_146_26 (am_k3v kb_142) mn_142 mk_142 rfl rfl (am_ok_v mi_142 (am_hl rfl (am_ccR (am_vR_s e16).2 (am_ccI am_cats_0)) rfl) z17) (am_hc am_cats_0 rfl) (fun _ => ⟨rfl, hh_146⟩) (fun o1 hz9 => rm_142 v15 1 h13 o1 (am_vR_s e16).2 hz9) ?_
        rcases am_cL_s hs9 with ⟨v18, h19, f20, hs10⟩ | hs10
        · clear hs9
          refine Or.inl ⟨_, _, f20, ?_⟩
          show am_W X _ 146 29 _ [(.long v18)] h19 _
          refine aw_lstore (lv1 := am_put2 _ 6 _) (pc1 := 31) at_146_29 rfl rfl ?_
          refine aw_vload_n (pc1 := 32) at_146_31 (am_lk2 (am_lk2 (am_lk1 l0 rfl rfl) rfl rfl) rfl rfl) i0 rfl ?_
          obtain ⟨v21, e22, hs11⟩ := am_bind hs10
          clear hs10
          refine aw_pG (pc1 := 35) at_146_32 (am_vR_s e22).1 rfl ?_
          refine aw_vload_n (pc1 := 36) at_146_35 (am_lk2 (am_lk2 (am_lk1 l0 rfl rfl) rfl rfl) rfl rfl) i0 rfl ?_
          obtain ⟨v23, e24, hs12⟩ := am_bind hs11
          clear hs11
          refine aw_pG (pc1 := 39) at_146_36 (am_vR_s e24).1 rfl ?_
          refine aw_vload_n (pc1 := 40) at_146_39 (am_lk2 (am_lk2 am_lk0 rfl (by rw [am_isRc iv2]; rfl)) rfl rfl) iv2 rfl ?_
          refine aw_iconst (v := 1) (pc1 := 41) at_146_40 (by decide) rfl ?_
          obtain ⟨z25, hs13⟩ := am_ift hs12
          clear hs12
          refine aw_call (F := fm_140 N v23 v2 1 h19) (t := true) (na := 3) (kd := 1) (as := [v23, v2, (.int 1)]) at_146_41 (am_k3v kb_140) mn_140 mk_140 rfl rfl (am_ok_v mi_140 (am_hl rfl (am_ccR (am_vR_s e24).2 (am_ccR iv2 (am_ccI am_cats_0))) rfl) z25) (am_hc (am_ccR (am_vR_s e22).2 am_cats_0) rfl) (fun _ => ⟨rfl, hh_146⟩) (fun o1 hz9 => rm_140 v23 v2 1 h19 o1 (am_vR_s e24).2 iv2 hz9) ?_
          rcases am_cL_s hs13 with ⟨v26, h27, f28, hs14⟩ | hs14
          · clear hs13
            refine Or.inl ⟨_, _, f28, ?_⟩
            show am_W X _ 146 44 _ [(.long v26), v21] h27 _
            refine aw_lload (pc1 := 46) at_146_44 (am_lk2 am_lk02 rfl rfl) rfl ?_
            refine aw_lmul (v := (v26 * v12)) (pc1 := 47) at_146_46 rfl rfl ?_
            refine aw_vload_n (pc1 := 48) at_146_47 (am_lk2 (am_lk2 (am_lk1 l0 rfl rfl) rfl rfl) rfl rfl) i0 rfl ?_
            obtain ⟨v29, e30, hs15⟩ := am_bind hs14
            clear hs14
            refine aw_pG (pc1 := 51) at_146_48 (am_vR_s e30).1 rfl ?_
            refine aw_vload_n (pc1 := 52) at_146_51 (am_lk2 (am_lk2 am_lk0 rfl (by rw [am_isRc iv2]; rfl)) rfl rfl) iv2 rfl ?_
            refine aw_iconst (v := 0) (pc1 := 53) at_146_52 (by decide) rfl ?_
            obtain ⟨z31, hs16⟩ := am_ift hs15
            clear hs15
            refine aw_call (F := fm_140 N v29 v2 0 h27) (t := true) (na := 3) (kd := 1) (as := [v29, v2, (.int 0)]) at_146_53 (am_k3v kb_140) mn_140 mk_140 rfl rfl (am_ok_v mi_140 (am_hl rfl (am_ccR (am_vR_s e30).2 (am_ccR iv2 (am_ccI am_cats_0))) rfl) z31) (am_hc (am_ccL (am_ccR (am_vR_s e22).2 am_cats_0)) rfl) (fun _ => ⟨rfl, hh_146⟩) (fun o1 hz9 => rm_140 v29 v2 0 h27 o1 (am_vR_s e30).2 iv2 hz9) ?_
            rcases am_cL_s hs16 with ⟨v32, h33, f34, hs17⟩ | hs17
            · clear hs16
              refine Or.inl ⟨_, _, f34, ?_⟩
              show am_W X _ 146 56 _ [(.long v32), (.long (v26 * v12)), v21] h33 _
              refine aw_lload (pc1 := 58) at_146_56 am_lk02 rfl ?_
              refine aw_lmul (v := (v32 * v18)) (pc1 := 59) at_146_58 rfl rfl ?_
              refine aw_lsub (v := ((v26 * v12) - (v32 * v18))) (pc1 := 60) at_146_59 rfl rfl ?_
              refine aw_lload (pc1 := 62) at_146_60 (am_lk2 am_lk02 rfl rfl) rfl ?_
              refine aw_lload (pc1 := 64) at_146_62 am_lk02 rfl ?_
              refine aw_lmul (v := (v12 * v18)) (pc1 := 65) at_146_64 rfl rfl ?_
              obtain ⟨z35, hs18⟩ := am_ift hs17
              clear hs17
              refine aw_call (F := fm_143 N v21 (((v26 * v12) - (v32 * v18))) ((v12 * v18)) h33) (t := true) (na := 3) (kd := 1) (as := [v21, (.long ((v26 * v12) - (v32 * v18))), (.long (v12 * v18))]) at_146_65 (am_k3v kb_143) mn_143 mk_143 rfl rfl (am_ok_v mi_143 (am_hl rfl (am_ccR (am_vR_s e22).2 (am_ccL (am_ccL am_cats_0))) rfl) z35) (am_hc am_cats_0 rfl) (fun _ => ⟨rfl, hh_146⟩) (fun o1 hz9 => rm_143 v21 (((v26 * v12) - (v32 * v18))) ((v12 * v18)) h33 o1 (am_vR_s e22).2 hz9) ?_
              rcases am_cV_s hs18 with ⟨h37, f38, hs19⟩ | hs19
              · clear hs18
                refine Or.inl ⟨_, _, f38, ?_⟩
                show am_W X _ 146 68 _ [] h37 _
                refine aw_vload_n (pc1 := 69) at_146_68 (am_lk2 (am_lk2 (am_lk1 l0 rfl rfl) rfl rfl) rfl rfl) i0 rfl ?_
                obtain ⟨v39, e40, hs20⟩ := am_bind hs19
                clear hs19
                refine aw_pG (pc1 := 72) at_146_69 (am_vR_s e40).1 rfl ?_
                refine aw_iload_n (pc1 := 73) at_146_72 (am_lk2 (am_lk2 (am_lk1 l2 rfl rfl) rfl rfl) rfl rfl) rfl ?_
                obtain ⟨z41, hs21⟩ := am_ift hs20
                clear hs20
                refine aw_call (F := fm_144 v39 x2 h37) (t := true) (na := 2) (kd := 1) (as := [v39, (.int x2)]) at_146_73 (am_k3v kb_144) mn_144 mk_144 rfl rfl (am_ok_v mi_144 (am_hl rfl (am_ccR (am_vR_s e40).2 (am_ccI am_cats_0)) rfl) z41) (am_hc am_cats_0 rfl) (fun _ => ⟨rfl, hh_146⟩) (fun o1 hz9 => rm_144 v39 x2 h37 o1 (am_vR_s e40).2 hz9) ?_
                rcases am_cL_s hs21 with ⟨v42, h43, f44, hs22⟩ | hs22
                · clear hs21
                  refine Or.inl ⟨_, _, f44, ?_⟩
                  show am_W X _ 146 76 _ [(.long v42)] h43 _
                  cases hs22
                  exact aw_lret at_146_76 rt_146 rfl
                · clear hs21
                  exact Or.inr hs22
              · clear hs18
                exact Or.inr hs19
            · clear hs16
              exact Or.inr hs17
          · clear hs13
            exact Or.inr hs14
        · clear hs9
          exact Or.inr hs10
      · clear hs6
        exact Or.inr hs7
    · clear hs3
      exact Or.inr hs4
  · clear hs1
    exact Or.inr hs2
def fm_146 (N : Nat) (y0 : Value) (y1 : Int32) (y2 : Int32) (h : am_H) : Option am_O := fg_146_0 N y0 y1 y2 h
theorem rm_146 {X : am_X} {d : Nat} {N : Nat} (y0 : Value) (y1 : Int32) (y2 : Int32) (h : am_H) (o : am_O) (i0 : am_isR y0 = true) (hs : fm_146 N y0 y1 y2 h = some o) : am_W X (d + 84) 146 0 (am_args 0 [y0, .int y1, .int y2]) [] h (fun q => q = o) := by
  rw [am_args_R i0, am_args_I, am_args_I]
  exact rg_146_0 y0 y1 y2 h o rfl rfl rfl i0 hs
def fg_145_18 (N : Nat) (h : am_H) : Option am_O := some (.inl (some (.int 2), h))
theorem rg_145_18 {X : am_X} {d : Nat} {N : Nat} {lv : am_LV} (h : am_H) (o : am_O) (hs : fg_145_18 N h = some o) : am_W X (d + 85) 145 18 lv [] h (fun q => q = o) := by
  unfold fg_145_18 at hs
  refine aw_iconst (v := 2) (pc1 := 19) at_145_18 (by decide) rfl ?_
  cases hs
  exact aw_iret at_145_19 (by rw [rt_145]; rfl) rfl
def fg_145_14 (N : Nat) (h : am_H) : Option am_O := some (.inl (some (.int 1), h))
theorem rg_145_14 {X : am_X} {d : Nat} {N : Nat} {lv : am_LV} (h : am_H) (o : am_O) (hs : fg_145_14 N h = some o) : am_W X (d + 85) 145 14 lv [] h (fun q => q = o) := by
  unfold fg_145_14 at hs
  refine aw_iconst (v := 1) (pc1 := 15) at_145_14 (by decide) rfl ?_
  cases hs
  exact aw_iret at_145_15 (by rw [rt_145]; rfl) rfl
def fg_145_0 (N : Nat) (x0 : Value) (x1 : Int32) (x2 : Int32) (x3 : Value) (h : am_H) : Option am_O := (if am_pOk 11 x0 h then (match fm_146 N x0 x1 x2 h with | some (.inl (some (.long v2), h3)) => ((am_pSL x3 0 v2 h3).bind fun h5 => some (.inl (some (.int 0), h5))) | some (.inr (0, h7)) => (fg_145_18 N h7) | some (.inr (2, h9)) => (fg_145_14 N h9) | _ => none) else none)
theorem rg_145_0 {X : am_X} {d : Nat} {N : Nat} {lv : am_LV} (x0 : Value) (x1 : Int32) (x2 : Int32) (x3 : Value) (h : am_H) (o : am_O) (l0 : lv.lookup 0 = some x0) (l1 : lv.lookup 1 = some (.int x1)) (l2 : lv.lookup 2 = some (.int x2)) (l3 : lv.lookup 3 = some x3) (i0 : am_isR x0 = true) (i3 : am_isR x3 = true) (hs : fg_145_0 N x0 x1 x2 x3 h = some o) : am_W X (d + 85) 145 0 lv [] h (fun q => q = o) := by
  unfold fg_145_0 at hs
  refine aw_vload_n (pc1 := 1) at_145_0 l3 i3 rfl ?_
  refine aw_iconst (v := 0) (pc1 := 2) at_145_1 (by decide) rfl ?_
  refine aw_vload_n (pc1 := 3) at_145_2 l0 i0 rfl ?_
  refine aw_iload_n (pc1 := 4) at_145_3 l1 rfl ?_
  refine aw_iload_n (pc1 := 5) at_145_4 l2 rfl ?_
  obtain ⟨z1, hs1⟩ := am_ift hs
  clear hs
  refine aw_callH (F := fm_146 N x0 x1 x2 h) (na := 3) (kd := 1) (as := [x0, (.int x1), (.int x2)]) at_145_5 (am_k3v kb_146) mn_146 mk_146 rfl rfl (am_ok_v mi_146 (am_hl rfl (am_ccR i0 (am_ccI (am_ccI am_cats_0))) rfl) z1) (am_hc (am_ccI (am_ccR i3 am_cats_0)) rfl) (fun o1 hz9 => rm_146 x0 x1 x2 h o1 i0 hz9) ?_
  split at hs1
  · rename_i v2 h3 f4
    refine Or.inl ⟨_, _, f4, ?_⟩
    show am_W X _ 145 8 _ [(.long v2), (.int 0), x3] h3 _
    obtain ⟨h5, e6, hs2⟩ := am_bind hs1
    clear hs1
    refine aw_pSL (pc1 := 9) at_145_8 e6 rfl ?_
    refine aw_goto at_145_9 ?_
    refine aw_iconst (v := 0) (pc1 := 21) at_145_20 (by decide) rfl ?_
    cases hs2
    exact aw_iret at_145_21 (by rw [rt_145]; rfl) rfl
  · rename_i h7 f8
    refine Or.inr ⟨_, _, 18, 4, f8, rfl, hn_145, hd_145_5_0, ?_⟩
    exact rg_145_18 h7 o   hs1
  · rename_i h9 f10
    refine Or.inr ⟨_, _, 14, 4, f10, rfl, hn_145, hd_145_5_2, ?_⟩
    exact rg_145_14 h9 o   hs1
  · cases hs1
def fm_145 (N : Nat) (y0 : Value) (y1 : Int32) (y2 : Int32) (y3 : Value) (h : am_H) : Option am_O := fg_145_0 N y0 y1 y2 y3 h
theorem rm_145 {X : am_X} {d : Nat} {N : Nat} (y0 : Value) (y1 : Int32) (y2 : Int32) (y3 : Value) (h : am_H) (o : am_O) (i0 : am_isR y0 = true) (i3 : am_isR y3 = true) (hs : fm_145 N y0 y1 y2 y3 h = some o) : am_W X (d + 85) 145 0 (am_args 0 [y0, .int y1, .int y2, y3]) [] h (fun q => q = o) := by
  rw [am_args_R i0, am_args_I, am_args_I, am_args_R i3]
  exact rg_145_0 y0 y1 y2 y3 h o rfl rfl rfl rfl i0 i3 hs
def fg_432_41 (N : Nat) (s0 : Int64) (h : am_H) : Option am_O := some (.inl (some (.long s0), h))
theorem rg_432_41 {X : am_X} {d : Nat} {N : Nat} {lv : am_LV} (s0 : Int64) (h : am_H) (o : am_O) (hs : fg_432_41 N s0 h = some o) : am_W X (d + 2) 432 41 lv [(.long s0)] h (fun q => q = o) := by
  unfold fg_432_41 at hs
  cases hs
  exact aw_lret at_432_41 rt_432 rfl
def fg_432_0 (N : Nat) (x0 : Value) (x1 : Int64) (x3 : Int64) (x5 : Int64) (x7 : Int64) (x9 : Int32) (h : am_H) : Option am_O := ((am_pP 3163 x0 (.long ((x1 * x7) - (x5 * x3))) h).bind fun h1 => ((am_pP 3164 x0 (.long (x3 * x7)) h1).bind fun h3 => (if am_pOk 12 x0 h3 then am_cV true (fm_429 N x0 h3) (fun h7 => (if ¬ x9 = 0 then ((am_vL (am_pG 3164 x0 h7)).bind fun v10 => (fg_432_41 N v10 h7)) else ((am_vL (am_pG 3163 x0 h7)).bind fun v12 => (fg_432_41 N v12 h7)))) else none)))
theorem rg_432_0 {X : am_X} {d : Nat} {N : Nat} {lv : am_LV} (x0 : Value) (x1 : Int64) (x3 : Int64) (x5 : Int64) (x7 : Int64) (x9 : Int32) (h : am_H) (o : am_O) (l0 : lv.lookup 0 = some x0) (l1 : lv.lookup 1 = some (.long x1)) (l3 : lv.lookup 3 = some (.long x3)) (l5 : lv.lookup 5 = some (.long x5)) (l7 : lv.lookup 7 = some (.long x7)) (l9 : lv.lookup 9 = some (.int x9)) (i0 : am_isR x0 = true) (hs : fg_432_0 N x0 x1 x3 x5 x7 x9 h = some o) : am_W X (d + 2) 432 0 lv [] h (fun q => q = o) := by
  unfold fg_432_0 at hs
  refine aw_vload_n (pc1 := 1) at_432_0 l0 i0 rfl ?_
  refine aw_lload_n (pc1 := 2) at_432_1 l1 rfl ?_
  refine aw_lload (pc1 := 4) at_432_2 l7 rfl ?_
  refine aw_lmul (v := (x1 * x7)) (pc1 := 5) at_432_4 rfl rfl ?_
  refine aw_lload (pc1 := 7) at_432_5 l5 rfl ?_
  refine aw_lload_n (pc1 := 8) at_432_7 l3 rfl ?_
  refine aw_lmul (v := (x5 * x3)) (pc1 := 9) at_432_8 rfl rfl ?_
  refine aw_lsub (v := ((x1 * x7) - (x5 * x3))) (pc1 := 10) at_432_9 rfl rfl ?_
  obtain ⟨h1, e2, hs1⟩ := am_bind hs
  clear hs
  refine aw_pP (pc1 := 13) at_432_10 e2 rfl ?_
  refine aw_vload_n (pc1 := 14) at_432_13 l0 i0 rfl ?_
  refine aw_lload_n (pc1 := 15) at_432_14 l3 rfl ?_
  refine aw_lload (pc1 := 17) at_432_15 l7 rfl ?_
  refine aw_lmul (v := (x3 * x7)) (pc1 := 18) at_432_17 rfl rfl ?_
  obtain ⟨h3, e4, hs2⟩ := am_bind hs1
  clear hs1
  refine aw_pP (pc1 := 21) at_432_18 e4 rfl ?_
  refine aw_vload_n (pc1 := 22) at_432_21 l0 i0 rfl ?_
  obtain ⟨z5, hs3⟩ := am_ift hs2
  clear hs2
  refine aw_call (F := fm_429 N x0 h3) (t := true) (na := 1) (kd := 1) (as := [x0]) at_432_22 (am_k3v kb_429) mn_429 mk_429 rfl rfl (am_ok_v mi_429 (am_hl rfl (am_ccR i0 am_cats_0) rfl) z5) (am_hc am_cats_0 rfl) (fun _ => ⟨rfl, hh_432⟩) (fun o1 hz9 => rm_429 x0 h3 o1 i0 hz9) ?_
  rcases am_cV_s hs3 with ⟨h7, f8, hs4⟩ | hs4
  · clear hs3
    refine Or.inl ⟨_, _, f8, ?_⟩
    show am_W X _ 432 25 _ [] h7 _
    refine aw_iload (pc1 := 27) at_432_25 l9 rfl ?_
    by_cases c9 : ¬ x9 = 0
    · rw [if_pos c9] at hs4
      refine aw_ifne_t at_432_27 c9 ?_
      refine aw_vload_n (pc1 := 38) at_432_37 l0 i0 rfl ?_
      obtain ⟨v10, e11, hs5⟩ := am_bind hs4
      clear hs4
      refine aw_pG (pc1 := 41) at_432_38 (am_vL_s e11) rfl ?_
      exact rg_432_41 v10 h7 o   hs5
    · rw [if_neg c9] at hs4
      refine aw_ifne_f (pc1 := 30) at_432_27 c9 rfl ?_
      refine aw_vload_n (pc1 := 31) at_432_30 l0 i0 rfl ?_
      obtain ⟨v12, e13, hs6⟩ := am_bind hs4
      clear hs4
      refine aw_pG (pc1 := 34) at_432_31 (am_vL_s e13) rfl ?_
      refine aw_goto at_432_34 ?_
      exact rg_432_41 v12 h7 o   hs6
  · clear hs3
    exact Or.inr hs4
def fm_432 (N : Nat) (y0 : Value) (y1 : Int64) (y2 : Int64) (y3 : Int64) (y4 : Int64) (y5 : Int32) (h : am_H) : Option am_O := fg_432_0 N y0 y1 y2 y3 y4 y5 h
theorem rm_432 {X : am_X} {d : Nat} {N : Nat} (y0 : Value) (y1 : Int64) (y2 : Int64) (y3 : Int64) (y4 : Int64) (y5 : Int32) (h : am_H) (o : am_O) (i0 : am_isR y0 = true) (hs : fm_432 N y0 y1 y2 y3 y4 y5 h = some o) : am_W X (d + 2) 432 0 (am_args 0 [y0, .long y1, .long y2, .long y3, .long y4, .int y5]) [] h (fun q => q = o) := by
  rw [am_args_R i0, am_args_L, am_args_L, am_args_L, am_args_L, am_args_I]
  exact rg_432_0 y0 y1 y2 y3 y4 y5 h o rfl rfl rfl rfl rfl rfl i0 hs
def fg_431_28 (N : Nat) (x0 : Value) (x1 : Int32) (x2 : Int32) (s0 : Value) (s1 : Int32) (h : am_H) : Option am_O := ((am_pP 3072 s0 (.int s1) h).bind fun h1 => ((am_vI (am_pG 3072 x0 h1)).bind fun v3 => (if v3 ≤ 0 then (if am_pOk 12 x0 h1 then am_cV true (fm_359 N x0 x1 h1) (fun h8 => (if am_pOk 12 x0 h8 then am_cV true (fm_428 N x0 1 h8) (fun h12 => ((am_vL (am_pG 3163 x0 h12)).bind fun v14 => ((am_vL (am_pG 3164 x0 h12)).bind fun v16 => (if am_pOk 12 x0 h12 then am_cV true (fm_428 N x0 0 h12) (fun h20 => ((am_vL (am_pG 3163 x0 h20)).bind fun v22 => ((am_vL (am_pG 3164 x0 h20)).bind fun v24 => (if am_pOk 12 x0 h20 then am_cL true (fm_432 N x0 v14 v16 v22 v24 x2 h20) (fun v27 h28 => some (.inl (some (.long v27), h28))) else none)))) else none)))) else none)) else none) else some (.inl (some (.long 0), h1)))))
theorem rg_431_28 {X : am_X} {d : Nat} {N : Nat} {lv : am_LV} (x0 : Value) (x1 : Int32) (x2 : Int32) (s0 : Value) (s1 : Int32) (h : am_H) (o : am_O) (l0 : lv.lookup 0 = some x0) (l1 : lv.lookup 1 = some (.int x1)) (l2 : lv.lookup 2 = some (.int x2)) (i0 : am_isR x0 = true) (j0 : am_isR s0 = true) (hs : fg_431_28 N x0 x1 x2 s0 s1 h = some o) : am_W X (d + 8) 431 28 lv [(.int s1), s0] h (fun q => q = o) := by
  unfold fg_431_28 at hs
  obtain ⟨h1, e2, hs1⟩ := am_bind hs
  clear hs
  refine aw_pP (pc1 := 31) at_431_28 e2 rfl ?_
  refine aw_vload_n (pc1 := 32) at_431_31 l0 i0 rfl ?_
  obtain ⟨v3, e4, hs2⟩ := am_bind hs1
  clear hs1
  refine aw_pG (pc1 := 35) at_431_32 (am_vI_s e4) rfl ?_
  by_cases c5 : v3 ≤ 0
  · rw [if_pos c5] at hs2
    refine aw_ifle_t at_431_35 c5 ?_
    refine aw_vload_n (pc1 := 41) at_431_40 l0 i0 rfl ?_
    refine aw_iload_n (pc1 := 42) at_431_41 l1 rfl ?_
    obtain ⟨z6, hs3⟩ := am_ift hs2
    clear hs2
    refine aw_call (F := fm_359 N x0 x1 h1) (t := true) (na := 2) (kd := 1) (as := [x0, (.int x1)]) at_431_42 (am_k3v kb_359) mn_359 mk_359 rfl rfl (am_ok_v mi_359 (am_hl rfl (am_ccR i0 (am_ccI am_cats_0)) rfl) z6) (am_hc am_cats_0 rfl) (fun _ => ⟨rfl, hh_431⟩) (fun o1 hz9 => rm_359 x0 x1 h1 o1 i0 hz9) ?_
    rcases am_cV_s hs3 with ⟨h8, f9, hs4⟩ | hs4
    · clear hs3
      refine Or.inl ⟨_, _, f9, ?_⟩
      show am_W X _ 431 45 _ [] h8 _
      refine aw_vload_n (pc1 := 46) at_431_45 l0 i0 rfl ?_
      refine aw_iconst (v := 1) (pc1 := 47) at_431_46 (by decide) rfl ?_
      obtain ⟨z10, hs5⟩ := am_ift hs4
      clear hs4
      refine aw_call (F := fm_428 N x0 1 h8) (t := true) (na := 2) (kd := 1) (as := [x0, (.int 1)]) at_431_47 (am_k3v kb_428) mn_428 mk_428 rfl rfl (am_ok_v mi_428 (am_hl rfl (am_ccR i0 (am_ccI am_cats_0)) rfl) z10) (am_hc am_cats_0 rfl) (fun _ => ⟨rfl, hh_431⟩) (fun o1 hz9 => rm_428 x0 1 h8 o1 i0 hz9) ?_
      rcases am_cV_s hs5 with ⟨h12, f13, hs6⟩ | hs6
      · clear hs5
        refine Or.inl ⟨_, _, f13, ?_⟩
        show am_W X _ 431 50 _ [] h12 _
        refine aw_vload_n (pc1 := 51) at_431_50 l0 i0 rfl ?_
        obtain ⟨v14, e15, hs7⟩ := am_bind hs6
        clear hs6
        refine aw_pG (pc1 := 54) at_431_51 (am_vL_s e15) rfl ?_
        refine aw_lstore_n (lv1 := am_put2 _ 3 _) (pc1 := 55) at_431_54 rfl rfl ?_
        refine aw_vload_n (pc1 := 56) at_431_55 (am_lk2 l0 rfl rfl) i0 rfl ?_
        obtain ⟨v16, e17, hs8⟩ := am_bind hs7
        clear hs7
        refine aw_pG (pc1 := 59) at_431_56 (am_vL_s e17) rfl ?_
        refine aw_lstore (lv1 := am_put2 _ 5 _) (pc1 := 61) at_431_59 rfl rfl ?_
        refine aw_vload_n (pc1 := 62) at_431_61 (am_lk2 (am_lk2 l0 rfl rfl) rfl rfl) i0 rfl ?_
        refine aw_iconst (v := 0) (pc1 := 63) at_431_62 (by decide) rfl ?_
        obtain ⟨z18, hs9⟩ := am_ift hs8
        clear hs8
        refine aw_call (F := fm_428 N x0 0 h12) (t := true) (na := 2) (kd := 1) (as := [x0, (.int 0)]) at_431_63 (am_k3v kb_428) mn_428 mk_428 rfl rfl (am_ok_v mi_428 (am_hl rfl (am_ccR i0 (am_ccI am_cats_0)) rfl) z18) (am_hc am_cats_0 rfl) (fun _ => ⟨rfl, hh_431⟩) (fun o1 hz9 => rm_428 x0 0 h12 o1 i0 hz9) ?_
        rcases am_cV_s hs9 with ⟨h20, f21, hs10⟩ | hs10
        · clear hs9
          refine Or.inl ⟨_, _, f21, ?_⟩
          show am_W X _ 431 66 _ [] h20 _
          refine aw_vload_n (pc1 := 67) at_431_66 (am_lk2 (am_lk2 l0 rfl rfl) rfl rfl) i0 rfl ?_
          refine aw_lload_n (pc1 := 68) at_431_67 (am_lk2 am_lk02 rfl rfl) rfl ?_
          refine aw_lload (pc1 := 70) at_431_68 am_lk02 rfl ?_
          refine aw_vload_n (pc1 := 71) at_431_70 (am_lk2 (am_lk2 l0 rfl rfl) rfl rfl) i0 rfl ?_
          obtain ⟨v22, e23, hs11⟩ := am_bind hs10
          clear hs10
          refine aw_pG (pc1 := 74) at_431_71 (am_vL_s e23) rfl ?_
          refine aw_vload_n (pc1 := 75) at_431_74 (am_lk2 (am_lk2 l0 rfl rfl) rfl rfl) i0 rfl ?_
          obtain ⟨v24, e25, hs12⟩ := am_bind hs11
          clear hs11
          refine aw_pG (pc1 := 78) at_431_75 (am_vL_s e25) rfl ?_
          refine aw_iload_n (pc1 := 79) at_431_78 (am_lk2 (am_lk2 l2 rfl rfl) rfl rfl) rfl ?_
          obtain ⟨z26, hs13⟩ := am_ift hs12
          clear hs12
          refine aw_call (F := fm_432 N x0 v14 v16 v22 v24 x2 h20) (t := true) (na := 6) (kd := 1) (as := [x0, (.long v14), (.long v16), (.long v22), (.long v24), (.int x2)]) at_431_79 (am_k3v kb_432) mn_432 mk_432 rfl rfl (am_ok_v mi_432 (am_hl rfl (am_ccR i0 (am_ccL (am_ccL (am_ccL (am_ccL (am_ccI am_cats_0)))))) rfl) z26) (am_hc am_cats_0 rfl) (fun _ => ⟨rfl, hh_431⟩) (fun o1 hz9 => rm_432 x0 v14 v16 v22 v24 x2 h20 o1 i0 hz9) ?_
          rcases am_cL_s hs13 with ⟨v27, h28, f29, hs14⟩ | hs14
          · clear hs13
            refine Or.inl ⟨_, _, f29, ?_⟩
            show am_W X _ 431 82 _ [(.long v27)] h28 _
            cases hs14
            exact aw_lret at_431_82 rt_431 rfl
          · clear hs13
            exact Or.inr hs14
        · clear hs9
          exact Or.inr hs10
      · clear hs5
        exact Or.inr hs6
    · clear hs3
      exact Or.inr hs4
  · rw [if_neg c5] at hs2
    refine aw_ifle_f (pc1 := 38) at_431_35 c5 rfl ?_
    refine aw_lconst (v := 0) (pc1 := 39) at_431_38 (by decide) rfl ?_
    cases hs2
    exact aw_lret at_431_39 rt_431 rfl
def fg_431_0 (N : Nat) (x0 : Value) (x1 : Int32) (x2 : Int32) (h : am_H) : Option am_O := (if am_pOk 12 x0 h then am_cI true (fm_358 x0 x1 h) (fun v2 h3 => (if ¬ v2 = 0 then am_cI false (fm_327 ((Int32.toInt64 x2)) 0 1 h3) (fun v6 h7 => (if ¬ v6 = 0 then (fg_431_28 N x0 x1 x2 x0 0 h7) else (fg_431_28 N x0 x1 x2 x0 2 h7))) else (fg_431_28 N x0 x1 x2 x0 1 h3))) else none)
theorem rg_431_0 {X : am_X} {d : Nat} {N : Nat} {lv : am_LV} (x0 : Value) (x1 : Int32) (x2 : Int32) (h : am_H) (o : am_O) (l0 : lv.lookup 0 = some x0) (l1 : lv.lookup 1 = some (.int x1)) (l2 : lv.lookup 2 = some (.int x2)) (i0 : am_isR x0 = true) (hs : fg_431_0 N x0 x1 x2 h = some o) : am_W X (d + 8) 431 0 lv [] h (fun q => q = o) := by
  unfold fg_431_0 at hs
  refine aw_vload_n (pc1 := 1) at_431_0 l0 i0 rfl ?_
  refine aw_vload_n (pc1 := 2) at_431_1 l0 i0 rfl ?_
  refine aw_iload_n (pc1 := 3) at_431_2 l1 rfl ?_
  obtain ⟨z1, hs1⟩ := am_ift hs
  clear hs
  refine aw_call (F := fm_358 x0 x1 h) (t := true) (na := 2) (kd := 1) (as := [x0, (.int x1)]) at_431_3 (am_k3v kb_358) mn_358 mk_358 rfl rfl (am_ok_v mi_358 (am_hl rfl (am_ccR i0 (am_ccI am_cats_0)) rfl) z1) (am_hc (am_ccR i0 am_cats_0) rfl) (fun _ => ⟨rfl, hh_431⟩) (fun o1 hz9 => rm_358 x0 x1 h o1 i0 hz9) ?_
  rcases am_cI_s hs1 with ⟨v2, h3, f4, hs2⟩ | hs2
  · clear hs1
    refine Or.inl ⟨_, _, f4, ?_⟩
    show am_W X _ 431 6 _ [(.int v2), x0] h3 _
    by_cases c5 : ¬ v2 = 0
    · rw [if_pos c5] at hs2
      refine aw_ifne_t at_431_6 c5 ?_
      refine aw_iload_n (pc1 := 14) at_431_13 l2 rfl ?_
      refine aw_i2l (v := (Int32.toInt64 x2)) (pc1 := 15) at_431_14 rfl rfl ?_
      refine aw_lconst (v := 0) (pc1 := 16) at_431_15 (by decide) rfl ?_
      refine aw_lconst (v := 1) (pc1 := 17) at_431_16 (by decide) rfl ?_
      refine aw_call (F := fm_327 ((Int32.toInt64 x2)) 0 1 h3) (t := false) (na := 3) (kd := 0) (as := [(.long (Int32.toInt64 x2)), (.long 0), (.long 1)]) at_431_17 (am_k3s kb_327) mn_327 mk_327 rfl rfl (am_ok_s mi_327 (am_hl rfl (am_ccL (am_ccL (am_ccL am_cats_0))) rfl)) (am_hc (am_ccR i0 am_cats_0) rfl) (fun hz9 => by cases hz9) (fun o1 hz9 => rm_327 ((Int32.toInt64 x2)) 0 1 h3 o1  hz9) ?_
      rcases am_cI_s hs2 with ⟨v6, h7, f8, hs3⟩ | hs3
      · clear hs2
        refine Or.inl ⟨_, _, f8, ?_⟩
        show am_W X _ 431 20 _ [(.int v6), x0] h7 _
        by_cases c9 : ¬ v6 = 0
        · rw [if_pos c9] at hs3
          refine aw_ifne_t at_431_20 c9 ?_
          refine aw_iconst (v := 0) (pc1 := 28) at_431_27 (by decide) rfl ?_
          exact rg_431_28 x0 x1 x2 x0 0 h7 o l0 l1 l2 i0 i0 hs3
        · rw [if_neg c9] at hs3
          refine aw_ifne_f (pc1 := 23) at_431_20 c9 rfl ?_
          refine aw_iconst (v := 2) (pc1 := 24) at_431_23 (by decide) rfl ?_
          refine aw_goto at_431_24 ?_
          exact rg_431_28 x0 x1 x2 x0 2 h7 o l0 l1 l2 i0 i0 hs3
      · clear hs2
        exact Or.inr hs3
    · rw [if_neg c5] at hs2
      refine aw_ifne_f (pc1 := 9) at_431_6 c5 rfl ?_
      refine aw_iconst (v := 1) (pc1 := 10) at_431_9 (by decide) rfl ?_
      refine aw_goto at_431_10 ?_
      exact rg_431_28 x0 x1 x2 x0 1 h3 o l0 l1 l2 i0 i0 hs2
  · clear hs1
    exact Or.inr hs2
def fm_431 (N : Nat) (y0 : Value) (y1 : Int32) (y2 : Int32) (h : am_H) : Option am_O := fg_431_0 N y0 y1 y2 h
theorem rm_431 {X : am_X} {d : Nat} {N : Nat} (y0 : Value) (y1 : Int32) (y2 : Int32) (h : am_H) (o : am_O) (i0 : am_isR y0 = true) (hs : fm_431 N y0 y1 y2 h = some o) : am_W X (d + 8) 431 0 (am_args 0 [y0, .int y1, .int y2]) [] h (fun q => q = o) := by
  rw [am_args_R i0, am_args_I, am_args_I]
  exact rg_431_0 y0 y1 y2 h o rfl rfl rfl i0 hs
def fg_148_60 (N : Nat) (rec_20 : Value → Int32 → Int32 → Int32 → am_H → Option am_O) (x0 : Value) (x2 : Int32) (x3 : Int32) (x4 : Int32) (h : am_H) : Option am_O := (rec_20 x0 x2 x3 ((x4 + 1)) h)
theorem rg_148_60 {X : am_X} {d : Nat} {N : Nat} {rec_20 : Value → Int32 → Int32 → Int32 → am_H → Option am_O} (q_20 : ∀ (x0 : Value) (x2 : Int32) (x3 : Int32) (x4 : Int32) (h : am_H) (o : am_O), rec_20 x0 x2 x3 x4 h = some o → ∀ lv : am_LV, (lv.lookup 0 = some x0) → (lv.lookup 2 = some (.int x2)) → (lv.lookup 3 = some (.int x3)) → (lv.lookup 4 = some (.int x4)) → (am_isR x0 = true) → am_W X (d + 83) 148 20 lv [] h (fun q => q = o)) {lv : am_LV} (x0 : Value) (x2 : Int32) (x3 : Int32) (x4 : Int32) (h : am_H) (o : am_O) (l0 : lv.lookup 0 = some x0) (l2 : lv.lookup 2 = some (.int x2)) (l3 : lv.lookup 3 = some (.int x3)) (l4 : lv.lookup 4 = some (.int x4)) (i0 : am_isR x0 = true) (hs : fg_148_60 N rec_20 x0 x2 x3 x4 h = some o) : am_W X (d + 83) 148 60 lv [] h (fun q => q = o) := by
  unfold fg_148_60 at hs
  refine aw_iinc (v := (x4 + 1)) (c := 1) (lv1 := am_put1 _ 4 _) (pc1 := 63) at_148_60 l4 (by decide) rfl rfl rfl ?_
  refine aw_goto at_148_63 ?_
  exact q_20 x0 x2 x3 ((x4 + 1)) h o hs _ (am_lk1 l0 rfl rfl) (am_lk1 l2 rfl rfl) (am_lk1 l3 rfl rfl) am_lk0 i0
def fg_148_20 (N : Nat) : Nat → Value → Int32 → Int32 → Int32 → am_H → Option am_O
  | 0 => fun _ _ _ _ _ => none
  | K + 1 => fun x0 x2 x3 x4 h => ((am_vR (am_pG 2819 x0 h)).bind fun v1 => ((am_vI (am_pG 513 v1 h)).bind fun v3 => (if v3 ≤ x4 then some (.inl (some (.int x3), h)) else ((am_vR (am_pG 2819 x0 h)).bind fun v6 => (if am_pOk 2 v6 h then am_cI true (fm_141 v6 x4 x2 h) (fun v9 h10 => (if v9 = 0 then (fg_148_60 N (fg_148_20 N K) x0 x2 x3 x4 h10) else ((am_vR (am_pG 2819 x0 h10)).bind fun v13 => (if am_pOk 2 v13 h10 then am_cI true (fm_133 N v13 x4 h10) (fun v16 h17 => (if ¬ v16 = 0 then (fg_148_60 N (fg_148_20 N K) x0 x2 x3 x4 h17) else (fg_148_60 N (fg_148_20 N K) x0 x2 ((x3 + 1)) x4 h17))) else none)))) else none)))))
theorem rg_148_20 {X : am_X} {d : Nat} {N : Nat} : ∀ (K : Nat) (x0 : Value) (x2 : Int32) (x3 : Int32) (x4 : Int32) (h : am_H) (o : am_O), fg_148_20 N K x0 x2 x3 x4 h = some o → ∀ lv : am_LV, (lv.lookup 0 = some x0) → (lv.lookup 2 = some (.int x2)) → (lv.lookup 3 = some (.int x3)) → (lv.lookup 4 = some (.int x4)) → (am_isR x0 = true) → am_W X (d + 83) 148 20 lv [] h (fun q => q = o) := by
  intro K
  induction K with
  | zero => intro x0 x2 x3 x4 h o hs; cases hs
  | succ K ih =>
    intro x0 x2 x3 x4 h o hs lv l0 l2 l3 l4 i0
    unfold fg_148_20 at hs
    refine aw_iload (pc1 := 22) at_148_20 l4 rfl ?_
    refine aw_vload_n (pc1 := 23) at_148_22 l0 i0 rfl ?_
    obtain ⟨v1, e2, hs1⟩ := am_bind hs
    clear hs
    refine aw_pG (pc1 := 26) at_148_23 (am_vR_s e2).1 rfl ?_
    obtain ⟨v3, e4, hs2⟩ := am_bind hs1
    clear hs1
    refine aw_pG (pc1 := 29) at_148_26 (am_vI_s e4) rfl ?_
    by_cases c5 : v3 ≤ x4
    · rw [if_pos c5] at hs2
      refine aw_icge_t at_148_29 c5 ?_
      refine aw_iload_n (pc1 := 67) at_148_66 l3 rfl ?_
      cases hs2
      exact aw_iret at_148_67 (by rw [rt_148]; rfl) rfl
    · rw [if_neg c5] at hs2
      refine aw_icge_f (pc1 := 32) at_148_29 c5 rfl ?_
      refine aw_vload_n (pc1 := 33) at_148_32 l0 i0 rfl ?_
      obtain ⟨v6, e7, hs3⟩ := am_bind hs2
      clear hs2
      refine aw_pG (pc1 := 36) at_148_33 (am_vR_s e7).1 rfl ?_
      refine aw_iload (pc1 := 38) at_148_36 l4 rfl ?_
      refine aw_iload_n (pc1 := 39) at_148_38 l2 rfl ?_
      obtain ⟨z8, hs4⟩ := am_ift hs3
      clear hs3
      refine aw_call (F := fm_141 v6 x4 x2 h) (t := true) (na := 3) (kd := 1) (as := [v6, (.int x4), (.int x2)]) at_148_39 (am_k3v kb_141) mn_141 mk_141 rfl rfl (am_ok_v mi_141 (am_hl rfl (am_ccR (am_vR_s e7).2 (am_ccI (am_ccI am_cats_0))) rfl) z8) (am_hc am_cats_0 rfl) (fun _ => ⟨rfl, hh_148⟩) (fun o1 hz9 => rm_141 v6 x4 x2 h o1 (am_vR_s e7).2 hz9) ?_
      rcases am_cI_s hs4 with ⟨v9, h10, f11, hs5⟩ | hs5
      · clear hs4
        refine Or.inl ⟨_, _, f11, ?_⟩
        show am_W X _ 148 42 _ [(.int v9)] h10 _
        by_cases c12 : v9 = 0
        · rw [if_pos c12] at hs5
          refine aw_ifeq_t at_148_42 c12 ?_
          exact rg_148_60 (fun z0 z1 z2 z3 h o hs5 => ih z0 z1 z2 z3 h o hs5) x0 x2 x3 x4 h10 o l0 l2 l3 l4 i0 hs5
        · rw [if_neg c12] at hs5
          refine aw_ifeq_f (pc1 := 45) at_148_42 c12 rfl ?_
          refine aw_vload_n (pc1 := 46) at_148_45 l0 i0 rfl ?_
          obtain ⟨v13, e14, hs6⟩ := am_bind hs5
          clear hs5
          refine aw_pG (pc1 := 49) at_148_46 (am_vR_s e14).1 rfl ?_
          refine aw_iload (pc1 := 51) at_148_49 l4 rfl ?_
          obtain ⟨z15, hs7⟩ := am_ift hs6
          clear hs6
          refine aw_call (F := fm_133 N v13 x4 h10) (t := true) (na := 2) (kd := 1) (as := [v13, (.int x4)]) at_148_51 (am_k3v kb_133) mn_133 mk_133 rfl rfl (am_ok_v mi_133 (am_hl rfl (am_ccR (am_vR_s e14).2 (am_ccI am_cats_0)) rfl) z15) (am_hc am_cats_0 rfl) (fun _ => ⟨rfl, hh_148⟩) (fun o1 hz9 => rm_133 v13 x4 h10 o1 (am_vR_s e14).2 hz9) ?_
          rcases am_cI_s hs7 with ⟨v16, h17, f18, hs8⟩ | hs8
          · clear hs7
            refine Or.inl ⟨_, _, f18, ?_⟩
            show am_W X _ 148 54 _ [(.int v16)] h17 _
            by_cases c19 : ¬ v16 = 0
            · rw [if_pos c19] at hs8
              refine aw_ifne_t at_148_54 c19 ?_
              exact rg_148_60 (fun z0 z1 z2 z3 h o hs8 => ih z0 z1 z2 z3 h o hs8) x0 x2 x3 x4 h17 o l0 l2 l3 l4 i0 hs8
            · rw [if_neg c19] at hs8
              refine aw_ifne_f (pc1 := 57) at_148_54 c19 rfl ?_
              refine aw_iinc (v := (x3 + 1)) (c := 1) (lv1 := am_put1 _ 3 _) (pc1 := 60) at_148_57 l3 (by decide) rfl rfl rfl ?_
              exact rg_148_60 (fun z0 z1 z2 z3 h o hs8 => ih z0 z1 z2 z3 h o hs8) x0 x2 ((x3 + 1)) x4 h17 o (am_lk1 l0 rfl rfl) (am_lk1 l2 rfl rfl) am_lk0 (am_lk1 l4 rfl rfl) i0 hs8
          · clear hs7
            exact Or.inr hs8
      · clear hs4
        exact Or.inr hs5
def fg_148_0 (N : Nat) (x0 : Value) (x1 : Int32) (x2 : Int32) (h : am_H) : Option am_O := ((am_vR (am_pG 2819 x0 h)).bind fun v1 => ((am_vR (am_pG 514 v1 h)).bind fun v3 => (if am_pOk 11 x0 h then am_cR true (fm_63 x0 x1 h) (fun v6 h7 => (if am_pOk 6 v3 h7 then am_cV true (fm_115 N v3 v6 h7) (fun h11 => (fg_148_20 N N x0 x2 0 0 h11)) else none)) else none)))
theorem rg_148_0 {X : am_X} {d : Nat} {N : Nat} {lv : am_LV} (x0 : Value) (x1 : Int32) (x2 : Int32) (h : am_H) (o : am_O) (l0 : lv.lookup 0 = some x0) (l1 : lv.lookup 1 = some (.int x1)) (l2 : lv.lookup 2 = some (.int x2)) (i0 : am_isR x0 = true) (hs : fg_148_0 N x0 x1 x2 h = some o) : am_W X (d + 83) 148 0 lv [] h (fun q => q = o) := by
  unfold fg_148_0 at hs
  refine aw_vload_n (pc1 := 1) at_148_0 l0 i0 rfl ?_
  obtain ⟨v1, e2, hs1⟩ := am_bind hs
  clear hs
  refine aw_pG (pc1 := 4) at_148_1 (am_vR_s e2).1 rfl ?_
  obtain ⟨v3, e4, hs2⟩ := am_bind hs1
  clear hs1
  refine aw_pG (pc1 := 7) at_148_4 (am_vR_s e4).1 rfl ?_
  refine aw_vload_n (pc1 := 8) at_148_7 l0 i0 rfl ?_
  refine aw_iload_n (pc1 := 9) at_148_8 l1 rfl ?_
  obtain ⟨z5, hs3⟩ := am_ift hs2
  clear hs2
  refine aw_call (F := fm_63 x0 x1 h) (t := true) (na := 2) (kd := 1) (as := [x0, (.int x1)]) at_148_9 (am_k3v kb_63) mn_63 mk_63 rfl rfl (am_ok_v mi_63 (am_hl rfl (am_ccR i0 (am_ccI am_cats_0)) rfl) z5) (am_hc (am_ccR (am_vR_s e4).2 am_cats_0) rfl) (fun _ => ⟨rfl, hh_148⟩) (fun o1 hz9 => rm_63 x0 x1 h o1 i0 hz9) ?_
  rcases am_cR_s hs3 with ⟨v6, h7, f8, iv6, hs4⟩ | hs4
  · clear hs3
    refine Or.inl ⟨_, _, f8, ?_⟩
    show am_W X _ 148 12 _ [v6, v3] h7 _
    obtain ⟨z9, hs5⟩ := am_ift hs4
    clear hs4
    refine aw_call (F := fm_115 N v3 v6 h7) (t := true) (na := 2) (kd := 1) (as := [v3, v6]) at_148_12 (am_k3v kb_115) mn_115 mk_115 rfl rfl (am_ok_v mi_115 (am_hl rfl (am_ccR (am_vR_s e4).2 (am_ccR iv6 am_cats_0)) rfl) z9) (am_hc am_cats_0 rfl) (fun _ => ⟨rfl, hh_148⟩) (fun o1 hz9 => rm_115 v3 v6 h7 o1 (am_vR_s e4).2 iv6 hz9) ?_
    rcases am_cV_s hs5 with ⟨h11, f12, hs6⟩ | hs6
    · clear hs5
      refine Or.inl ⟨_, _, f12, ?_⟩
      show am_W X _ 148 15 _ [] h11 _
      refine aw_iconst (v := 0) (pc1 := 16) at_148_15 (by decide) rfl ?_
      refine aw_istore_n (lv1 := am_put1 _ 3 _) (pc1 := 17) at_148_16 rfl rfl ?_
      refine aw_iconst (v := 0) (pc1 := 18) at_148_17 (by decide) rfl ?_
      refine aw_istore (lv1 := am_put1 _ 4 _) (pc1 := 20) at_148_18 rfl rfl ?_
      exact rg_148_20 N x0 x2 0 0 h11 o hs6 _ (am_lk1 (am_lk1 l0 rfl rfl) rfl rfl) (am_lk1 (am_lk1 l2 rfl rfl) rfl rfl) (am_lk1 am_lk0 rfl rfl) am_lk0 i0
    · clear hs5
      exact Or.inr hs6
  · clear hs3
    exact Or.inr hs4
def fm_148 (N : Nat) (y0 : Value) (y1 : Int32) (y2 : Int32) (h : am_H) : Option am_O := fg_148_0 N y0 y1 y2 h
theorem rm_148 {X : am_X} {d : Nat} {N : Nat} (y0 : Value) (y1 : Int32) (y2 : Int32) (h : am_H) (o : am_O) (i0 : am_isR y0 = true) (hs : fm_148 N y0 y1 y2 h = some o) : am_W X (d + 83) 148 0 (am_args 0 [y0, .int y1, .int y2]) [] h (fun q => q = o) := by
  rw [am_args_R i0, am_args_I, am_args_I]
  exact rg_148_0 y0 y1 y2 h o rfl rfl rfl i0 hs
def fg_147_15 (N : Nat) (h : am_H) : Option am_O := some (.inl (some (.int 1), h))
theorem rg_147_15 {X : am_X} {d : Nat} {N : Nat} {lv : am_LV} (h : am_H) (o : am_O) (hs : fg_147_15 N h = some o) : am_W X (d + 84) 147 15 lv [] h (fun q => q = o) := by
  unfold fg_147_15 at hs
  refine aw_iconst (v := 1) (pc1 := 16) at_147_15 (by decide) rfl ?_
  cases hs
  exact aw_iret at_147_16 (by rw [rt_147]; rfl) rfl
def fg_147_0 (N : Nat) (x0 : Value) (x1 : Int32) (x2 : Int32) (x3 : Value) (h : am_H) : Option am_O := (if am_pOk 11 x0 h then (match fm_148 N x0 x1 x2 h with | some (.inl (some (.int v2), h3)) => ((am_pSL x3 0 (Int32.toInt64 v2) h3).bind fun h5 => some (.inl (some (.int 0), h5))) | some (.inr (2, h7)) => (fg_147_15 N h7) | _ => none) else none)
theorem rg_147_0 {X : am_X} {d : Nat} {N : Nat} {lv : am_LV} (x0 : Value) (x1 : Int32) (x2 : Int32) (x3 : Value) (h : am_H) (o : am_O) (l0 : lv.lookup 0 = some x0) (l1 : lv.lookup 1 = some (.int x1)) (l2 : lv.lookup 2 = some (.int x2)) (l3 : lv.lookup 3 = some x3) (i0 : am_isR x0 = true) (i3 : am_isR x3 = true) (hs : fg_147_0 N x0 x1 x2 x3 h = some o) : am_W X (d + 84) 147 0 lv [] h (fun q => q = o) := by
  unfold fg_147_0 at hs
  refine aw_vload_n (pc1 := 1) at_147_0 l3 i3 rfl ?_
  refine aw_iconst (v := 0) (pc1 := 2) at_147_1 (by decide) rfl ?_
  refine aw_vload_n (pc1 := 3) at_147_2 l0 i0 rfl ?_
  refine aw_iload_n (pc1 := 4) at_147_3 l1 rfl ?_
  refine aw_iload_n (pc1 := 5) at_147_4 l2 rfl ?_
  obtain ⟨z1, hs1⟩ := am_ift hs
  clear hs
  refine aw_callH (F := fm_148 N x0 x1 x2 h) (na := 3) (kd := 1) (as := [x0, (.int x1), (.int x2)]) at_147_5 (am_k3v kb_148) mn_148 mk_148 rfl rfl (am_ok_v mi_148 (am_hl rfl (am_ccR i0 (am_ccI (am_ccI am_cats_0))) rfl) z1) (am_hc (am_ccI (am_ccR i3 am_cats_0)) rfl) (fun o1 hz9 => rm_148 x0 x1 x2 h o1 i0 hz9) ?_
  split at hs1
  · rename_i v2 h3 f4
    refine Or.inl ⟨_, _, f4, ?_⟩
    show am_W X _ 147 8 _ [(.int v2), (.int 0), x3] h3 _
    refine aw_i2l (v := (Int32.toInt64 v2)) (pc1 := 9) at_147_8 rfl rfl ?_
    obtain ⟨h5, e6, hs2⟩ := am_bind hs1
    clear hs1
    refine aw_pSL (pc1 := 10) at_147_9 e6 rfl ?_
    refine aw_goto at_147_10 ?_
    refine aw_iconst (v := 0) (pc1 := 18) at_147_17 (by decide) rfl ?_
    cases hs2
    exact aw_iret at_147_18 (by rw [rt_147]; rfl) rfl
  · rename_i h7 f8
    refine Or.inr ⟨_, _, 15, 4, f8, rfl, hn_147, hd_147_5_2, ?_⟩
    exact rg_147_15 h7 o   hs1
  · cases hs1
def fm_147 (N : Nat) (y0 : Value) (y1 : Int32) (y2 : Int32) (y3 : Value) (h : am_H) : Option am_O := fg_147_0 N y0 y1 y2 y3 h
theorem rm_147 {X : am_X} {d : Nat} {N : Nat} (y0 : Value) (y1 : Int32) (y2 : Int32) (y3 : Value) (h : am_H) (o : am_O) (i0 : am_isR y0 = true) (i3 : am_isR y3 = true) (hs : fm_147 N y0 y1 y2 y3 h = some o) : am_W X (d + 84) 147 0 (am_args 0 [y0, .int y1, .int y2, y3]) [] h (fun q => q = o) := by
  rw [am_args_R i0, am_args_I, am_args_I, am_args_R i3]
  exact rg_147_0 y0 y1 y2 y3 h o rfl rfl rfl rfl i0 i3 hs
def fg_433_73 (N : Nat) (rec_36 : Value → Int32 → Int32 → Int32 → am_H → Option am_O) (x0 : Value) (x2 : Int32) (x4 : Int32) (s0 : Int32) (s1 : Int32) (h : am_H) : Option am_O := (rec_36 x0 x2 ((s0 + s1)) ((x4 + 1)) h)
theorem rg_433_73 {X : am_X} {d : Nat} {N : Nat} {rec_36 : Value → Int32 → Int32 → Int32 → am_H → Option am_O} (q_36 : ∀ (x0 : Value) (x2 : Int32) (x3 : Int32) (x4 : Int32) (h : am_H) (o : am_O), rec_36 x0 x2 x3 x4 h = some o → ∀ lv : am_LV, (lv.lookup 0 = some x0) → (lv.lookup 2 = some (.int x2)) → (lv.lookup 3 = some (.int x3)) → (lv.lookup 4 = some (.int x4)) → (am_isR x0 = true) → am_W X (d + 7) 433 36 lv [] h (fun q => q = o)) {lv : am_LV} (x0 : Value) (x2 : Int32) (x4 : Int32) (s0 : Int32) (s1 : Int32) (h : am_H) (o : am_O) (l0 : lv.lookup 0 = some x0) (l2 : lv.lookup 2 = some (.int x2)) (l4 : lv.lookup 4 = some (.int x4)) (i0 : am_isR x0 = true) (hs : fg_433_73 N rec_36 x0 x2 x4 s0 s1 h = some o) : am_W X (d + 7) 433 73 lv [(.int s1), (.int s0)] h (fun q => q = o) := by
  unfold fg_433_73 at hs
  refine aw_iadd (v := (s0 + s1)) (pc1 := 74) at_433_73 rfl rfl ?_
  refine aw_istore_n (lv1 := am_put1 _ 3 _) (pc1 := 75) at_433_74 rfl rfl ?_
  refine aw_iinc (v := (x4 + 1)) (c := 1) (lv1 := am_put1 _ 4 _) (pc1 := 78) at_433_75 (am_lk1 l4 rfl rfl) (by decide) rfl rfl rfl ?_
  refine aw_goto at_433_78 ?_
  exact q_36 x0 x2 ((s0 + s1)) ((x4 + 1)) h o hs _ (am_lk1 (am_lk1 l0 rfl rfl) rfl rfl) (am_lk1 (am_lk1 l2 rfl rfl) rfl rfl) (am_lk1 am_lk0 rfl rfl) am_lk0 i0
def fg_433_72 (N : Nat) (rec_36 : Value → Int32 → Int32 → Int32 → am_H → Option am_O) (x0 : Value) (x2 : Int32) (x4 : Int32) (s0 : Int32) (h : am_H) : Option am_O := (fg_433_73 N rec_36 x0 x2 x4 s0 0 h)
theorem rg_433_72 {X : am_X} {d : Nat} {N : Nat} {rec_36 : Value → Int32 → Int32 → Int32 → am_H → Option am_O} (q_36 : ∀ (x0 : Value) (x2 : Int32) (x3 : Int32) (x4 : Int32) (h : am_H) (o : am_O), rec_36 x0 x2 x3 x4 h = some o → ∀ lv : am_LV, (lv.lookup 0 = some x0) → (lv.lookup 2 = some (.int x2)) → (lv.lookup 3 = some (.int x3)) → (lv.lookup 4 = some (.int x4)) → (am_isR x0 = true) → am_W X (d + 7) 433 36 lv [] h (fun q => q = o)) {lv : am_LV} (x0 : Value) (x2 : Int32) (x4 : Int32) (s0 : Int32) (h : am_H) (o : am_O) (l0 : lv.lookup 0 = some x0) (l2 : lv.lookup 2 = some (.int x2)) (l4 : lv.lookup 4 = some (.int x4)) (i0 : am_isR x0 = true) (hs : fg_433_72 N rec_36 x0 x2 x4 s0 h = some o) : am_W X (d + 7) 433 72 lv [(.int s0)] h (fun q => q = o) := by
  unfold fg_433_72 at hs
  refine aw_iconst (v := 0) (pc1 := 73) at_433_72 (by decide) rfl ?_
  exact rg_433_73 q_36 x0 x2 x4 s0 0 h o l0 l2 l4 i0 hs
def fg_433_36 (N : Nat) : Nat → Value → Int32 → Int32 → Int32 → am_H → Option am_O
  | 0 => fun _ _ _ _ _ => none
  | K + 1 => fun x0 x2 x3 x4 h => ((am_vI (am_pG 3103 x0 h)).bind fun v1 => (if v1 ≤ x4 then some (.inl (some (.int x3), h)) else ((am_vR (am_pG 3109 x0 h)).bind fun v4 => ((am_pA 2 v4 x4 h).bind fun v6 => (if ¬ v6 = x2 then (fg_433_72 N (fg_433_36 N K) x0 x2 x4 x3 h) else (if am_pOk 12 x0 h then am_cL true (fm_425 N x0 x4 h) (fun v10 h11 => (if ¬ (lg_cmp v10 0) = 0 then (fg_433_72 N (fg_433_36 N K) x0 x2 x4 x3 h11) else (fg_433_73 N (fg_433_36 N K) x0 x2 x4 x3 1 h11))) else none))))))
theorem rg_433_36 {X : am_X} {d : Nat} {N : Nat} : ∀ (K : Nat) (x0 : Value) (x2 : Int32) (x3 : Int32) (x4 : Int32) (h : am_H) (o : am_O), fg_433_36 N K x0 x2 x3 x4 h = some o → ∀ lv : am_LV, (lv.lookup 0 = some x0) → (lv.lookup 2 = some (.int x2)) → (lv.lookup 3 = some (.int x3)) → (lv.lookup 4 = some (.int x4)) → (am_isR x0 = true) → am_W X (d + 7) 433 36 lv [] h (fun q => q = o) := by
  intro K
  induction K with
  | zero => intro x0 x2 x3 x4 h o hs; cases hs
  | succ K ih =>
    intro x0 x2 x3 x4 h o hs lv l0 l2 l3 l4 i0
    unfold fg_433_36 at hs
    refine aw_iload (pc1 := 38) at_433_36 l4 rfl ?_
    refine aw_vload_n (pc1 := 39) at_433_38 l0 i0 rfl ?_
    obtain ⟨v1, e2, hs1⟩ := am_bind hs
    clear hs
    refine aw_pG (pc1 := 42) at_433_39 (am_vI_s e2) rfl ?_
    by_cases c3 : v1 ≤ x4
    · rw [if_pos c3] at hs1
      refine aw_icge_t at_433_42 c3 ?_
      refine aw_iload_n (pc1 := 82) at_433_81 l3 rfl ?_
      cases hs1
      exact aw_iret at_433_82 (by rw [rt_433]; rfl) rfl
    · rw [if_neg c3] at hs1
      refine aw_icge_f (pc1 := 45) at_433_42 c3 rfl ?_
      refine aw_iload_n (pc1 := 46) at_433_45 l3 rfl ?_
      refine aw_vload_n (pc1 := 47) at_433_46 l0 i0 rfl ?_
      obtain ⟨v4, e5, hs2⟩ := am_bind hs1
      clear hs1
      refine aw_pG (pc1 := 50) at_433_47 (am_vR_s e5).1 rfl ?_
      refine aw_iload (pc1 := 52) at_433_50 l4 rfl ?_
      obtain ⟨v6, e7, hs3⟩ := am_bind hs2
      clear hs2
      refine aw_pA (pc1 := 53) at_433_52 (Or.inr (Or.inl ⟨rfl, rfl⟩)) e7 rfl ?_
      refine aw_iload_n (pc1 := 54) at_433_53 l2 rfl ?_
      by_cases c8 : ¬ v6 = x2
      · rw [if_pos c8] at hs3
        refine aw_icne_t at_433_54 c8 ?_
        exact rg_433_72 (fun z0 z1 z2 z3 h o hs3 => ih z0 z1 z2 z3 h o hs3) x0 x2 x4 x3 h o l0 l2 l4 i0 hs3
      · rw [if_neg c8] at hs3
        refine aw_icne_f (pc1 := 57) at_433_54 c8 rfl ?_
        refine aw_vload_n (pc1 := 58) at_433_57 l0 i0 rfl ?_
        refine aw_iload (pc1 := 60) at_433_58 l4 rfl ?_
        obtain ⟨z9, hs4⟩ := am_ift hs3
        clear hs3
        refine aw_call (F := fm_425 N x0 x4 h) (t := true) (na := 2) (kd := 1) (as := [x0, (.int x4)]) at_433_60 (am_k3v kb_425) mn_425 mk_425 rfl rfl (am_ok_v mi_425 (am_hl rfl (am_ccR i0 (am_ccI am_cats_0)) rfl) z9) (am_hc (am_ccI am_cats_0) rfl) (fun _ => ⟨rfl, hh_433⟩) (fun o1 hz9 => rm_425 x0 x4 h o1 i0 hz9) ?_
        rcases am_cL_s hs4 with ⟨v10, h11, f12, hs5⟩ | hs5
        · clear hs4
          refine Or.inl ⟨_, _, f12, ?_⟩
          show am_W X _ 433 63 _ [(.long v10), (.int x3)] h11 _
          refine aw_lconst (v := 0) (pc1 := 64) at_433_63 (by decide) rfl ?_
          refine aw_lcmp (v := (lg_cmp v10 0)) (pc1 := 65) at_433_64 rfl rfl ?_
          by_cases c13 : ¬ (lg_cmp v10 0) = 0
          · rw [if_pos c13] at hs5
            refine aw_ifne_t at_433_65 c13 ?_
            exact rg_433_72 (fun z0 z1 z2 z3 h o hs5 => ih z0 z1 z2 z3 h o hs5) x0 x2 x4 x3 h11 o l0 l2 l4 i0 hs5
          · rw [if_neg c13] at hs5
            refine aw_ifne_f (pc1 := 68) at_433_65 c13 rfl ?_
            refine aw_iconst (v := 1) (pc1 := 69) at_433_68 (by decide) rfl ?_
            refine aw_goto at_433_69 ?_
            exact rg_433_73 (fun z0 z1 z2 z3 h o hs5 => ih z0 z1 z2 z3 h o hs5) x0 x2 x4 x3 1 h11 o l0 l2 l4 i0 hs5
        · clear hs4
          exact Or.inr hs5
def fg_433_14 (N : Nat) (x0 : Value) (x1 : Int32) (x2 : Int32) (s0 : Value) (s1 : Int32) (h : am_H) : Option am_O := ((am_pP 3072 s0 (.int s1) h).bind fun h1 => ((am_vI (am_pG 3072 x0 h1)).bind fun v3 => (if v3 ≤ 0 then (if am_pOk 12 x0 h1 then am_cV true (fm_359 N x0 x1 h1) (fun h8 => (fg_433_36 N N x0 x2 0 0 h8)) else none) else some (.inl (some (.int 0), h1)))))
theorem rg_433_14 {X : am_X} {d : Nat} {N : Nat} {lv : am_LV} (x0 : Value) (x1 : Int32) (x2 : Int32) (s0 : Value) (s1 : Int32) (h : am_H) (o : am_O) (l0 : lv.lookup 0 = some x0) (l1 : lv.lookup 1 = some (.int x1)) (l2 : lv.lookup 2 = some (.int x2)) (i0 : am_isR x0 = true) (j0 : am_isR s0 = true) (hs : fg_433_14 N x0 x1 x2 s0 s1 h = some o) : am_W X (d + 7) 433 14 lv [(.int s1), s0] h (fun q => q = o) := by
  unfold fg_433_14 at hs
  obtain ⟨h1, e2, hs1⟩ := am_bind hs
  clear hs
  refine aw_pP (pc1 := 17) at_433_14 e2 rfl ?_
  refine aw_vload_n (pc1 := 18) at_433_17 l0 i0 rfl ?_
  obtain ⟨v3, e4, hs2⟩ := am_bind hs1
  clear hs1
  refine aw_pG (pc1 := 21) at_433_18 (am_vI_s e4) rfl ?_
  by_cases c5 : v3 ≤ 0
  · rw [if_pos c5] at hs2
    refine aw_ifle_t at_433_21 c5 ?_
    refine aw_vload_n (pc1 := 27) at_433_26 l0 i0 rfl ?_
    refine aw_iload_n (pc1 := 28) at_433_27 l1 rfl ?_
    obtain ⟨z6, hs3⟩ := am_ift hs2
    clear hs2
    refine aw_call (F := fm_359 N x0 x1 h1) (t := true) (na := 2) (kd := 1) (as := [x0, (.int x1)]) at_433_28 (am_k3v kb_359) mn_359 mk_359 rfl rfl (am_ok_v mi_359 (am_hl rfl (am_ccR i0 (am_ccI am_cats_0)) rfl) z6) (am_hc am_cats_0 rfl) (fun _ => ⟨rfl, hh_433⟩) (fun o1 hz9 => rm_359 x0 x1 h1 o1 i0 hz9) ?_
    rcases am_cV_s hs3 with ⟨h8, f9, hs4⟩ | hs4
    · clear hs3
      refine Or.inl ⟨_, _, f9, ?_⟩
      show am_W X _ 433 31 _ [] h8 _
      refine aw_iconst (v := 0) (pc1 := 32) at_433_31 (by decide) rfl ?_
      refine aw_istore_n (lv1 := am_put1 _ 3 _) (pc1 := 33) at_433_32 rfl rfl ?_
      refine aw_iconst (v := 0) (pc1 := 34) at_433_33 (by decide) rfl ?_
      refine aw_istore (lv1 := am_put1 _ 4 _) (pc1 := 36) at_433_34 rfl rfl ?_
      exact rg_433_36 N x0 x2 0 0 h8 o hs4 _ (am_lk1 (am_lk1 l0 rfl rfl) rfl rfl) (am_lk1 (am_lk1 l2 rfl rfl) rfl rfl) (am_lk1 am_lk0 rfl rfl) am_lk0 i0
    · clear hs3
      exact Or.inr hs4
  · rw [if_neg c5] at hs2
    refine aw_ifle_f (pc1 := 24) at_433_21 c5 rfl ?_
    refine aw_iconst (v := 0) (pc1 := 25) at_433_24 (by decide) rfl ?_
    cases hs2
    exact aw_iret at_433_25 (by rw [rt_433]; rfl) rfl
def fg_433_0 (N : Nat) (x0 : Value) (x1 : Int32) (x2 : Int32) (h : am_H) : Option am_O := (if am_pOk 12 x0 h then am_cI true (fm_358 x0 x1 h) (fun v2 h3 => (if v2 = 0 then (fg_433_14 N x0 x1 x2 x0 1 h3) else (fg_433_14 N x0 x1 x2 x0 0 h3))) else none)
theorem rg_433_0 {X : am_X} {d : Nat} {N : Nat} {lv : am_LV} (x0 : Value) (x1 : Int32) (x2 : Int32) (h : am_H) (o : am_O) (l0 : lv.lookup 0 = some x0) (l1 : lv.lookup 1 = some (.int x1)) (l2 : lv.lookup 2 = some (.int x2)) (i0 : am_isR x0 = true) (hs : fg_433_0 N x0 x1 x2 h = some o) : am_W X (d + 7) 433 0 lv [] h (fun q => q = o) := by
  unfold fg_433_0 at hs
  refine aw_vload_n (pc1 := 1) at_433_0 l0 i0 rfl ?_
  refine aw_vload_n (pc1 := 2) at_433_1 l0 i0 rfl ?_
  refine aw_iload_n (pc1 := 3) at_433_2 l1 rfl ?_
  obtain ⟨z1, hs1⟩ := am_ift hs
  clear hs
  refine aw_call (F := fm_358 x0 x1 h) (t := true) (na := 2) (kd := 1) (as := [x0, (.int x1)]) at_433_3 (am_k3v kb_358) mn_358 mk_358 rfl rfl (am_ok_v mi_358 (am_hl rfl (am_ccR i0 (am_ccI am_cats_0)) rfl) z1) (am_hc (am_ccR i0 am_cats_0) rfl) (fun _ => ⟨rfl, hh_433⟩) (fun o1 hz9 => rm_358 x0 x1 h o1 i0 hz9) ?_
  rcases am_cI_s hs1 with ⟨v2, h3, f4, hs2⟩ | hs2
  · clear hs1
    refine Or.inl ⟨_, _, f4, ?_⟩
    show am_W X _ 433 6 _ [(.int v2), x0] h3 _
    by_cases c5 : v2 = 0
    · rw [if_pos c5] at hs2
      refine aw_ifeq_t at_433_6 c5 ?_
      refine aw_iconst (v := 1) (pc1 := 14) at_433_13 (by decide) rfl ?_
      exact rg_433_14 x0 x1 x2 x0 1 h3 o l0 l1 l2 i0 i0 hs2
    · rw [if_neg c5] at hs2
      refine aw_ifeq_f (pc1 := 9) at_433_6 c5 rfl ?_
      refine aw_iconst (v := 0) (pc1 := 10) at_433_9 (by decide) rfl ?_
      refine aw_goto at_433_10 ?_
      exact rg_433_14 x0 x1 x2 x0 0 h3 o l0 l1 l2 i0 i0 hs2
  · clear hs1
    exact Or.inr hs2
def fm_433 (N : Nat) (y0 : Value) (y1 : Int32) (y2 : Int32) (h : am_H) : Option am_O := fg_433_0 N y0 y1 y2 h
theorem rm_433 {X : am_X} {d : Nat} {N : Nat} (y0 : Value) (y1 : Int32) (y2 : Int32) (h : am_H) (o : am_O) (i0 : am_isR y0 = true) (hs : fm_433 N y0 y1 y2 h = some o) : am_W X (d + 7) 433 0 (am_args 0 [y0, .int y1, .int y2]) [] h (fun q => q = o) := by
  rw [am_args_R i0, am_args_I, am_args_I]
  exact rg_433_0 y0 y1 y2 h o rfl rfl rfl i0 hs
def fg_151_21 (s0 : Int32) (h : am_H) : Option am_O := some (.inl (some (.int s0), h))
theorem rg_151_21 {X : am_X} {d : Nat} {lv : am_LV} (s0 : Int32) (h : am_H) (o : am_O) (hs : fg_151_21 s0 h = some o) : am_W X (d) 151 21 lv [(.int s0)] h (fun q => q = o) := by
  unfold fg_151_21 at hs
  cases hs
  exact aw_iret at_151_21 (by rw [rt_151]; rfl) rfl
def fg_151_0 (x0 : Int64) (x2 : Int64) (h : am_H) : Option am_O := (if 0 ≤ (lg_cmp x0 x2) then (if ¬ (lg_cmp x0 x2) = 0 then (fg_151_21 1 h) else (fg_151_21 0 h)) else (fg_151_21 ((-1)) h))
theorem rg_151_0 {X : am_X} {d : Nat} {lv : am_LV} (x0 : Int64) (x2 : Int64) (h : am_H) (o : am_O) (l0 : lv.lookup 0 = some (.long x0)) (l2 : lv.lookup 2 = some (.long x2)) (hs : fg_151_0 x0 x2 h = some o) : am_W X (d) 151 0 lv [] h (fun q => q = o) := by
  unfold fg_151_0 at hs
  refine aw_lload_n (pc1 := 1) at_151_0 l0 rfl ?_
  refine aw_lload_n (pc1 := 2) at_151_1 l2 rfl ?_
  refine aw_lcmp (v := (lg_cmp x0 x2)) (pc1 := 3) at_151_2 rfl rfl ?_
  by_cases c1 : 0 ≤ (lg_cmp x0 x2)
  · rw [if_pos c1] at hs
    refine aw_ifge_t at_151_3 c1 ?_
    refine aw_lload_n (pc1 := 11) at_151_10 l0 rfl ?_
    refine aw_lload_n (pc1 := 12) at_151_11 l2 rfl ?_
    refine aw_lcmp (v := (lg_cmp x0 x2)) (pc1 := 13) at_151_12 rfl rfl ?_
    by_cases c2 : ¬ (lg_cmp x0 x2) = 0
    · rw [if_pos c2] at hs
      refine aw_ifne_t at_151_13 c2 ?_
      refine aw_iconst (v := 1) (pc1 := 21) at_151_20 (by decide) rfl ?_
      exact rg_151_21 1 h o   hs
    · rw [if_neg c2] at hs
      refine aw_ifne_f (pc1 := 16) at_151_13 c2 rfl ?_
      refine aw_iconst (v := 0) (pc1 := 17) at_151_16 (by decide) rfl ?_
      refine aw_goto at_151_17 ?_
      exact rg_151_21 0 h o   hs
  · rw [if_neg c1] at hs
    refine aw_ifge_f (pc1 := 6) at_151_3 c1 rfl ?_
    refine aw_iconst (v := (-1)) (pc1 := 7) at_151_6 (by decide) rfl ?_
    refine aw_goto at_151_7 ?_
    exact rg_151_21 ((-1)) h o   hs
def fm_151 (y0 : Int64) (y1 : Int64) (h : am_H) : Option am_O := fg_151_0 y0 y1 h
theorem rm_151 {X : am_X} {d : Nat} (y0 : Int64) (y1 : Int64) (h : am_H) (o : am_O) (hs : fm_151 y0 y1 h = some o) : am_W X (d) 151 0 (am_args 0 [.long y0, .long y1]) [] h (fun q => q = o) := by
  rw [am_args_L, am_args_L]
  exact rg_151_0 y0 y1 h o rfl rfl  hs
def fg_152_19 (s0 : Int32) (h : am_H) : Option am_O := some (.inl (some (.int s0), h))
theorem rg_152_19 {X : am_X} {d : Nat} {lv : am_LV} (s0 : Int32) (h : am_H) (o : am_O) (hs : fg_152_19 s0 h = some o) : am_W X (d) 152 19 lv [(.int s0)] h (fun q => q = o) := by
  unfold fg_152_19 at hs
  cases hs
  exact aw_iret at_152_19 (by rw [rt_152]; rfl) rfl
def fg_152_0 (x0 : Int32) (x1 : Int32) (h : am_H) : Option am_O := (if x1 ≤ x0 then (if ¬ x0 = x1 then (fg_152_19 1 h) else (fg_152_19 0 h)) else (fg_152_19 ((-1)) h))
theorem rg_152_0 {X : am_X} {d : Nat} {lv : am_LV} (x0 : Int32) (x1 : Int32) (h : am_H) (o : am_O) (l0 : lv.lookup 0 = some (.int x0)) (l1 : lv.lookup 1 = some (.int x1)) (hs : fg_152_0 x0 x1 h = some o) : am_W X (d) 152 0 lv [] h (fun q => q = o) := by
  unfold fg_152_0 at hs
  refine aw_iload_n (pc1 := 1) at_152_0 l0 rfl ?_
  refine aw_iload_n (pc1 := 2) at_152_1 l1 rfl ?_
  by_cases c1 : x1 ≤ x0
  · rw [if_pos c1] at hs
    refine aw_icge_t at_152_2 c1 ?_
    refine aw_iload_n (pc1 := 10) at_152_9 l0 rfl ?_
    refine aw_iload_n (pc1 := 11) at_152_10 l1 rfl ?_
    by_cases c2 : ¬ x0 = x1
    · rw [if_pos c2] at hs
      refine aw_icne_t at_152_11 c2 ?_
      refine aw_iconst (v := 1) (pc1 := 19) at_152_18 (by decide) rfl ?_
      exact rg_152_19 1 h o   hs
    · rw [if_neg c2] at hs
      refine aw_icne_f (pc1 := 14) at_152_11 c2 rfl ?_
      refine aw_iconst (v := 0) (pc1 := 15) at_152_14 (by decide) rfl ?_
      refine aw_goto at_152_15 ?_
      exact rg_152_19 0 h o   hs
  · rw [if_neg c1] at hs
    refine aw_icge_f (pc1 := 5) at_152_2 c1 rfl ?_
    refine aw_iconst (v := (-1)) (pc1 := 6) at_152_5 (by decide) rfl ?_
    refine aw_goto at_152_6 ?_
    exact rg_152_19 ((-1)) h o   hs
def fm_152 (y0 : Int32) (y1 : Int32) (h : am_H) : Option am_O := fg_152_0 y0 y1 h
theorem rm_152 {X : am_X} {d : Nat} (y0 : Int32) (y1 : Int32) (h : am_H) (o : am_O) (hs : fm_152 y0 y1 h = some o) : am_W X (d) 152 0 (am_args 0 [.int y0, .int y1]) [] h (fun q => q = o) := by
  rw [am_args_I, am_args_I]
  exact rg_152_0 y0 y1 h o rfl rfl  hs
def fg_150_71 (N : Nat) (s0 : Int32) (h : am_H) : Option am_O := some (.inl (some (.int s0), h))
theorem rg_150_71 {X : am_X} {d : Nat} {N : Nat} {lv : am_LV} (s0 : Int32) (h : am_H) (o : am_O) (hs : fg_150_71 N s0 h = some o) : am_W X (d + 84) 150 71 lv [(.int s0)] h (fun q => q = o) := by
  unfold fg_150_71 at hs
  cases hs
  exact aw_iret at_150_71 (by rw [rt_150]; rfl) rfl
def fg_150_56 (N : Nat) (x1 : Int32) (x2 : Int32) (x5 : Int32) (h : am_H) : Option am_O := (if x5 = 0 then am_cI false (fm_152 x1 x2 h) (fun v2 h3 => (fg_150_71 N v2 h3)) else (fg_150_71 N x5 h))
theorem rg_150_56 {X : am_X} {d : Nat} {N : Nat} {lv : am_LV} (x1 : Int32) (x2 : Int32) (x5 : Int32) (h : am_H) (o : am_O) (l1 : lv.lookup 1 = some (.int x1)) (l2 : lv.lookup 2 = some (.int x2)) (l5 : lv.lookup 5 = some (.int x5)) (hs : fg_150_56 N x1 x2 x5 h = some o) : am_W X (d + 84) 150 56 lv [] h (fun q => q = o) := by
  unfold fg_150_56 at hs
  refine aw_iload (pc1 := 58) at_150_56 l5 rfl ?_
  by_cases c1 : x5 = 0
  · rw [if_pos c1] at hs
    refine aw_ifeq_t at_150_58 c1 ?_
    refine aw_iload_n (pc1 := 67) at_150_66 l1 rfl ?_
    refine aw_iload_n (pc1 := 68) at_150_67 l2 rfl ?_
    refine aw_call (F := fm_152 x1 x2 h) (t := false) (na := 2) (kd := 0) (as := [(.int x1), (.int x2)]) at_150_68 (am_k3s kb_152) mn_152 mk_152 rfl rfl (am_ok_s mi_152 (am_hl rfl (am_ccI (am_ccI am_cats_0)) rfl)) (am_hc am_cats_0 rfl) (fun hz9 => by cases hz9) (fun o1 hz9 => rm_152 x1 x2 h o1  hz9) ?_
    rcases am_cI_s hs with ⟨v2, h3, f4, hs1⟩ | hs1
    · clear hs
      refine Or.inl ⟨_, _, f4, ?_⟩
      show am_W X _ 150 71 _ [(.int v2)] h3 _
      exact rg_150_71 v2 h3 o   hs1
    · clear hs
      exact Or.inr hs1
  · rw [if_neg c1] at hs
    refine aw_ifeq_f (pc1 := 61) at_150_58 c1 rfl ?_
    refine aw_iload (pc1 := 63) at_150_61 l5 rfl ?_
    refine aw_goto at_150_63 ?_
    exact rg_150_71 x5 h o   hs
def fg_150_0 (N : Nat) (x0 : Value) (x1 : Int32) (x2 : Int32) (h : am_H) : Option am_O := (if am_pOk 11 x0 h then am_cR true (fm_63 x0 x1 h) (fun v2 h3 => (if am_pOk 11 x0 h3 then am_cR true (fm_63 x0 x2 h3) (fun v6 h7 => ((am_vR (am_pG 2819 x0 h7)).bind fun v9 => (if am_pOk 2 v9 h7 then am_cL true (fm_140 N v9 v2 0 h7) (fun v12 h13 => ((am_vR (am_pG 2819 x0 h13)).bind fun v15 => (if am_pOk 2 v15 h13 then am_cL true (fm_140 N v15 v6 0 h13) (fun v18 h19 => am_cI false (fm_151 v12 v18 h19) (fun v21 h22 => (if ¬ v21 = 0 then (fg_150_56 N x1 x2 v21 h22) else ((am_vI (am_pG 771 v2 h22)).bind fun v25 => ((am_vI (am_pG 771 v6 h22)).bind fun v27 => am_cI false (fm_152 v25 v27 h22) (fun v29 h30 => (fg_150_56 N x1 x2 v29 h30))))))) else none))) else none))) else none)) else none)
theorem rg_150_0 {X : am_X} {d : Nat} {N : Nat} {lv : am_LV} (x0 : Value) (x1 : Int32) (x2 : Int32) (h : am_H) (o : am_O) (l0 : lv.lookup 0 = some x0) (l1 : lv.lookup 1 = some (.int x1)) (l2 : lv.lookup 2 = some (.int x2)) (i0 : am_isR x0 = true) (hs : fg_150_0 N x0 x1 x2 h = some o) : am_W X (d + 84) 150 0 lv [] h (fun q => q = o) := by
  unfold fg_150_0 at hs
  refine aw_vload_n (pc1 := 1) at_150_0 l0 i0 rfl ?_
  refine aw_iload_n (pc1 := 2) at_150_1 l1 rfl ?_
  obtain ⟨z1, hs1⟩ := am_ift hs
  clear hs
  refine aw_call (F := fm_63 x0 x1 h) (t := true) (na := 2) (kd := 1) (as := [x0, (.int x1)]) at_150_2 (am_k3v kb_63) mn_63 mk_63 rfl rfl (am_ok_v mi_63 (am_hl rfl (am_ccR i0 (am_ccI am_cats_0)) rfl) z1) (am_hc am_cats_0 rfl) (fun _ => ⟨rfl, hh_150⟩) (fun o1 hz9 => rm_63 x0 x1 h o1 i0 hz9) ?_
  rcases am_cR_s hs1 with ⟨v2, h3, f4, iv2, hs2⟩ | hs2
  · clear hs1
    refine Or.inl ⟨_, _, f4, ?_⟩
    show am_W X _ 150 5 _ [v2] h3 _
    refine aw_vstore_n (lv1 := am_put1 _ 3 _) (pc1 := 6) at_150_5 iv2 rfl rfl ?_
    refine aw_vload_n (pc1 := 7) at_150_6 (am_lk1 l0 rfl rfl) i0 rfl ?_
    refine aw_iload_n (pc1 := 8) at_150_7 (am_lk1 l2 rfl rfl) rfl ?_
    obtain ⟨z5, hs3⟩ := am_ift hs2
    clear hs2
    refine aw_call (F := fm_63 x0 x2 h3) (t := true) (na := 2) (kd := 1) (as := [x0, (.int x2)]) at_150_8 (am_k3v kb_63) mn_63 mk_63 rfl rfl (am_ok_v mi_63 (am_hl rfl (am_ccR i0 (am_ccI am_cats_0)) rfl) z5) (am_hc am_cats_0 rfl) (fun _ => ⟨rfl, hh_150⟩) (fun o1 hz9 => rm_63 x0 x2 h3 o1 i0 hz9) ?_
    rcases am_cR_s hs3 with ⟨v6, h7, f8, iv6, hs4⟩ | hs4
    · clear hs3
      refine Or.inl ⟨_, _, f8, ?_⟩
      show am_W X _ 150 11 _ [v6] h7 _
      refine aw_vstore (lv1 := am_put1 _ 4 _) (pc1 := 13) at_150_11 iv6 rfl rfl ?_
      refine aw_vload_n (pc1 := 14) at_150_13 (am_lk1 (am_lk1 l0 rfl rfl) rfl rfl) i0 rfl ?_
      obtain ⟨v9, e10, hs5⟩ := am_bind hs4
      clear hs4
      refine aw_pG (pc1 := 17) at_150_14 (am_vR_s e10).1 rfl ?_
      refine aw_vload_n (pc1 := 18) at_150_17 (am_lk1 am_lk0 rfl (by rw [am_isRc iv2]; rfl)) iv2 rfl ?_
      refine aw_iconst (v := 0) (pc1 := 19) at_150_18 (by decide) rfl ?_
      obtain ⟨z11, hs6⟩ := am_ift hs5
      clear hs5
      refine aw_call (F := fm_140 N v9 v2 0 h7) (t := true) (na := 3) (kd := 1) (as := [v9, v2, (.int 0)]) at_150_19 (am_k3v kb_140) mn_140 mk_140 rfl rfl (am_ok_v mi_140 (am_hl rfl (am_ccR (am_vR_s e10).2 (am_ccR iv2 (am_ccI am_cats_0))) rfl) z11) (am_hc am_cats_0 rfl) (fun _ => ⟨rfl, hh_150⟩) (fun o1 hz9 => rm_140 v9 v2 0 h7 o1 (am_vR_s e10).2 iv2 hz9) ?_
      rcases am_cL_s hs6 with ⟨v12, h13, f14, hs7⟩ | hs7
      · clear hs6
        refine Or.inl ⟨_, _, f14, ?_⟩
        show am_W X _ 150 22 _ [(.long v12)] h13 _
        refine aw_vload_n (pc1 := 23) at_150_22 (am_lk1 (am_lk1 l0 rfl rfl) rfl rfl) i0 rfl ?_
        obtain ⟨v15, e16, hs8⟩ := am_bind hs7
        clear hs7
        refine aw_pG (pc1 := 26) at_150_23 (am_vR_s e16).1 rfl ?_
        refine aw_vload (pc1 := 28) at_150_26 am_lk0 iv6 rfl ?_
        refine aw_iconst (v := 0) (pc1 := 29) at_150_28 (by decide) rfl ?_
        obtain ⟨z17, hs9⟩ := am_ift hs8
        clear hs8
        refine aw_call (F := fm_140 N v15 v6 0 h13) (t := true) (na := 3) (kd := 1) (as := [v15, v6, (.int 0)]) at_150_29 (am_k3v kb_140) mn_140 mk_140 rfl rfl (am_ok_v mi_140 (am_hl rfl (am_ccR (am_vR_s e16).2 (am_ccR iv6 (am_ccI am_cats_0))) rfl) z17) (am_hc (am_ccL am_cats_0) rfl) (fun _ => ⟨rfl, hh_150⟩) (fun o1 hz9 => rm_140 v15 v6 0 h13 o1 (am_vR_s e16).2 iv6 hz9) ?_
        rcases am_cL_s hs9 with ⟨v18, h19, f20, hs10⟩ | hs10
        · clear hs9
          refine Or.inl ⟨_, _, f20, ?_⟩
          show am_W X _ 150 32 _ [(.long v18), (.long v12)] h19 _
          refine aw_call (F := fm_151 v12 v18 h19) (t := false) (na := 2) (kd := 0) (as := [(.long v12), (.long v18)]) at_150_32 (am_k3s kb_151) mn_151 mk_151 rfl rfl (am_ok_s mi_151 (am_hl rfl (am_ccL (am_ccL am_cats_0)) rfl)) (am_hc am_cats_0 rfl) (fun hz9 => by cases hz9) (fun o1 hz9 => rm_151 v12 v18 h19 o1  hz9) ?_
          rcases am_cI_s hs10 with ⟨v21, h22, f23, hs11⟩ | hs11
          · clear hs10
            refine Or.inl ⟨_, _, f23, ?_⟩
            show am_W X _ 150 35 _ [(.int v21)] h22 _
            refine aw_istore (lv1 := am_put1 _ 5 _) (pc1 := 37) at_150_35 rfl rfl ?_
            refine aw_iload (pc1 := 39) at_150_37 am_lk0 rfl ?_
            by_cases c24 : ¬ v21 = 0
            · rw [if_pos c24] at hs11
              refine aw_ifne_t at_150_39 c24 ?_
              exact rg_150_56 x1 x2 v21 h22 o (am_lk1 (am_lk1 (am_lk1 l1 rfl rfl) rfl rfl) rfl rfl) (am_lk1 (am_lk1 (am_lk1 l2 rfl rfl) rfl rfl) rfl rfl) am_lk0  hs11
            · rw [if_neg c24] at hs11
              refine aw_ifne_f (pc1 := 42) at_150_39 c24 rfl ?_
              refine aw_vload_n (pc1 := 43) at_150_42 (am_lk1 (am_lk1 am_lk0 rfl (by rw [am_isRc iv2]; rfl)) rfl rfl) iv2 rfl ?_
              obtain ⟨v25, e26, hs12⟩ := am_bind hs11
              clear hs11
              refine aw_pG (pc1 := 46) at_150_43 (am_vI_s e26) rfl ?_
              refine aw_vload (pc1 := 48) at_150_46 (am_lk1 am_lk0 rfl (by rw [am_isRc iv6]; rfl)) iv6 rfl ?_
              obtain ⟨v27, e28, hs13⟩ := am_bind hs12
              clear hs12
              refine aw_pG (pc1 := 51) at_150_48 (am_vI_s e28) rfl ?_
              refine aw_call (F := fm_152 v25 v27 h22) (t := false) (na := 2) (kd := 0) (as := [(.int v25), (.int v27)]) at_150_51 (am_k3s kb_152) mn_152 mk_152 rfl rfl (am_ok_s mi_152 (am_hl rfl (am_ccI (am_ccI am_cats_0)) rfl)) (am_hc am_cats_0 rfl) (fun hz9 => by cases hz9) (fun o1 hz9 => rm_152 v25 v27 h22 o1  hz9) ?_
              rcases am_cI_s hs13 with ⟨v29, h30, f31, hs14⟩ | hs14
              · clear hs13
                refine Or.inl ⟨_, _, f31, ?_⟩
                show am_W X _ 150 54 _ [(.int v29)] h30 _
                refine aw_istore (lv1 := am_put1 _ 5 _) (pc1 := 56) at_150_54 rfl rfl ?_
                exact rg_150_56 x1 x2 v29 h30 o (am_lk1 (am_lk1 (am_lk1 (am_lk1 l1 rfl rfl) rfl rfl) rfl rfl) rfl rfl) (am_lk1 (am_lk1 (am_lk1 (am_lk1 l2 rfl rfl) rfl rfl) rfl rfl) rfl rfl) am_lk0  hs14
              · clear hs13
                exact Or.inr hs14
          · clear hs10
            exact Or.inr hs11
        · clear hs9
          exact Or.inr hs10
      · clear hs6
        exact Or.inr hs7
    · clear hs3
      exact Or.inr hs4
  · clear hs1
    exact Or.inr hs2
def fm_150 (N : Nat) (y0 : Value) (y1 : Int32) (y2 : Int32) (h : am_H) : Option am_O := fg_150_0 N y0 y1 y2 h
theorem rm_150 {X : am_X} {d : Nat} {N : Nat} (y0 : Value) (y1 : Int32) (y2 : Int32) (h : am_H) (o : am_O) (i0 : am_isR y0 = true) (hs : fm_150 N y0 y1 y2 h = some o) : am_W X (d + 84) 150 0 (am_args 0 [y0, .int y1, .int y2]) [] h (fun q => q = o) := by
  rw [am_args_R i0, am_args_I, am_args_I]
  exact rg_150_0 y0 y1 y2 h o rfl rfl rfl i0 hs
def fg_149_15 (N : Nat) (h : am_H) : Option am_O := some (.inl (some (.int 1), h))
theorem rg_149_15 {X : am_X} {d : Nat} {N : Nat} {lv : am_LV} (h : am_H) (o : am_O) (hs : fg_149_15 N h = some o) : am_W X (d + 85) 149 15 lv [] h (fun q => q = o) := by
  unfold fg_149_15 at hs
  refine aw_iconst (v := 1) (pc1 := 16) at_149_15 (by decide) rfl ?_
  cases hs
  exact aw_iret at_149_16 (by rw [rt_149]; rfl) rfl
def fg_149_0 (N : Nat) (x0 : Value) (x1 : Int32) (x2 : Int32) (x3 : Value) (h : am_H) : Option am_O := (if am_pOk 11 x0 h then (match fm_150 N x0 x1 x2 h with | some (.inl (some (.int v2), h3)) => ((am_pSL x3 0 (Int32.toInt64 v2) h3).bind fun h5 => some (.inl (some (.int 0), h5))) | some (.inr (2, h7)) => (fg_149_15 N h7) | _ => none) else none)
theorem rg_149_0 {X : am_X} {d : Nat} {N : Nat} {lv : am_LV} (x0 : Value) (x1 : Int32) (x2 : Int32) (x3 : Value) (h : am_H) (o : am_O) (l0 : lv.lookup 0 = some x0) (l1 : lv.lookup 1 = some (.int x1)) (l2 : lv.lookup 2 = some (.int x2)) (l3 : lv.lookup 3 = some x3) (i0 : am_isR x0 = true) (i3 : am_isR x3 = true) (hs : fg_149_0 N x0 x1 x2 x3 h = some o) : am_W X (d + 85) 149 0 lv [] h (fun q => q = o) := by
  unfold fg_149_0 at hs
  refine aw_vload_n (pc1 := 1) at_149_0 l3 i3 rfl ?_
  refine aw_iconst (v := 0) (pc1 := 2) at_149_1 (by decide) rfl ?_
  refine aw_vload_n (pc1 := 3) at_149_2 l0 i0 rfl ?_
  refine aw_iload_n (pc1 := 4) at_149_3 l1 rfl ?_
  refine aw_iload_n (pc1 := 5) at_149_4 l2 rfl ?_
  obtain ⟨z1, hs1⟩ := am_ift hs
  clear hs
  refine aw_callH (F := fm_150 N x0 x1 x2 h) (na := 3) (kd := 1) (as := [x0, (.int x1), (.int x2)]) at_149_5 (am_k3v kb_150) mn_150 mk_150 rfl rfl (am_ok_v mi_150 (am_hl rfl (am_ccR i0 (am_ccI (am_ccI am_cats_0))) rfl) z1) (am_hc (am_ccI (am_ccR i3 am_cats_0)) rfl) (fun o1 hz9 => rm_150 x0 x1 x2 h o1 i0 hz9) ?_
  split at hs1
  · rename_i v2 h3 f4
    refine Or.inl ⟨_, _, f4, ?_⟩
    show am_W X _ 149 8 _ [(.int v2), (.int 0), x3] h3 _
    refine aw_i2l (v := (Int32.toInt64 v2)) (pc1 := 9) at_149_8 rfl rfl ?_
    obtain ⟨h5, e6, hs2⟩ := am_bind hs1
    clear hs1
    refine aw_pSL (pc1 := 10) at_149_9 e6 rfl ?_
    refine aw_goto at_149_10 ?_
    refine aw_iconst (v := 0) (pc1 := 18) at_149_17 (by decide) rfl ?_
    cases hs2
    exact aw_iret at_149_18 (by rw [rt_149]; rfl) rfl
  · rename_i h7 f8
    refine Or.inr ⟨_, _, 15, 4, f8, rfl, hn_149, hd_149_5_2, ?_⟩
    exact rg_149_15 h7 o   hs1
  · cases hs1
def fm_149 (N : Nat) (y0 : Value) (y1 : Int32) (y2 : Int32) (y3 : Value) (h : am_H) : Option am_O := fg_149_0 N y0 y1 y2 y3 h
theorem rm_149 {X : am_X} {d : Nat} {N : Nat} (y0 : Value) (y1 : Int32) (y2 : Int32) (y3 : Value) (h : am_H) (o : am_O) (i0 : am_isR y0 = true) (i3 : am_isR y3 = true) (hs : fm_149 N y0 y1 y2 y3 h = some o) : am_W X (d + 85) 149 0 (am_args 0 [y0, .int y1, .int y2, y3]) [] h (fun q => q = o) := by
  rw [am_args_R i0, am_args_I, am_args_I, am_args_R i3]
  exact rg_149_0 y0 y1 y2 y3 h o rfl rfl rfl rfl i0 i3 hs
def fg_435_120 (N : Nat) (s0 : Int32) (h : am_H) : Option am_O := some (.inl (some (.int s0), h))
theorem rg_435_120 {X : am_X} {d : Nat} {N : Nat} {lv : am_LV} (s0 : Int32) (h : am_H) (o : am_O) (hs : fg_435_120 N s0 h = some o) : am_W X (d + 8) 435 120 lv [(.int s0)] h (fun q => q = o) := by
  unfold fg_435_120 at hs
  cases hs
  exact aw_iret at_435_120 (by rw [rt_435]; rfl) rfl
def fg_435_109 (N : Nat) (s0 : Int32) (h : am_H) : Option am_O := some (.inl (some (.int s0), h))
theorem rg_435_109 {X : am_X} {d : Nat} {N : Nat} {lv : am_LV} (s0 : Int32) (h : am_H) (o : am_O) (hs : fg_435_109 N s0 h = some o) : am_W X (d + 8) 435 109 lv [(.int s0)] h (fun q => q = o) := by
  unfold fg_435_109 at hs
  cases hs
  exact aw_iret at_435_109 (by rw [rt_435]; rfl) rfl
def fg_435_73 (N : Nat) (s0 : Int32) (h : am_H) : Option am_O := some (.inl (some (.int s0), h))
theorem rg_435_73 {X : am_X} {d : Nat} {N : Nat} {lv : am_LV} (s0 : Int32) (h : am_H) (o : am_O) (hs : fg_435_73 N s0 h = some o) : am_W X (d + 8) 435 73 lv [(.int s0)] h (fun q => q = o) := by
  unfold fg_435_73 at hs
  cases hs
  exact aw_iret at_435_73 (by rw [rt_435]; rfl) rfl
def fg_435_0 (N : Nat) (x0 : Value) (x1 : Int32) (x2 : Int32) (h : am_H) : Option am_O := (if ¬ x1 = x2 then (if am_pOk 12 x0 h then am_cV true (fm_359 N x0 x1 h) (fun h4 => (if am_pOk 12 x0 h4 then am_cV true (fm_428 N x0 0 h4) (fun h8 => ((am_vL (am_pG 3163 x0 h8)).bind fun v10 => ((am_vL (am_pG 3164 x0 h8)).bind fun v12 => (if am_pOk 12 x0 h8 then am_cV true (fm_359 N x0 x2 h8) (fun h16 => (if am_pOk 12 x0 h16 then am_cV true (fm_428 N x0 0 h16) (fun h20 => ((am_vL (am_pG 3164 x0 h20)).bind fun v22 => ((am_vL (am_pG 3163 x0 h20)).bind fun v24 => (if (lg_cmp ((v10 * v22) - (v24 * v12)) 0) = 0 then ((am_vR (am_pG 3075 x0 h20)).bind fun v27 => ((am_pA 0 v27 x1 h20).bind fun v29 => ((am_vR (am_pG 3075 x0 h20)).bind fun v31 => ((am_pA 0 v31 x2 h20).bind fun v33 => (if v29 = v33 then (if x2 ≤ x1 then (fg_435_120 N 1 h20) else (fg_435_120 N ((-1)) h20)) else ((am_vR (am_pG 3075 x0 h20)).bind fun v37 => ((am_pA 0 v37 x1 h20).bind fun v39 => ((am_vR (am_pG 3075 x0 h20)).bind fun v41 => ((am_pA 0 v41 x2 h20).bind fun v43 => (if v43 ≤ v39 then (fg_435_109 N 1 h20) else (fg_435_109 N ((-1)) h20))))))))))) else (if 0 ≤ (lg_cmp ((v10 * v22) - (v24 * v12)) 0) then (fg_435_73 N 1 h20) else (fg_435_73 N ((-1)) h20)))))) else none)) else none)))) else none)) else none) else some (.inl (some (.int 0), h)))
theorem rg_435_0 {X : am_X} {d : Nat} {N : Nat} {lv : am_LV} (x0 : Value) (x1 : Int32) (x2 : Int32) (h : am_H) (o : am_O) (l0 : lv.lookup 0 = some x0) (l1 : lv.lookup 1 = some (.int x1)) (l2 : lv.lookup 2 = some (.int x2)) (i0 : am_isR x0 = true) (hs : fg_435_0 N x0 x1 x2 h = some o) : am_W X (d + 8) 435 0 lv [] h (fun q => q = o) := by
  unfold fg_435_0 at hs
  refine aw_iload_n (pc1 := 1) at_435_0 l1 rfl ?_
  refine aw_iload_n (pc1 := 2) at_435_1 l2 rfl ?_
  by_cases c1 : ¬ x1 = x2
  · rw [if_pos c1] at hs
    refine aw_icne_t at_435_2 c1 ?_
    refine aw_vload_n (pc1 := 8) at_435_7 l0 i0 rfl ?_
    refine aw_iload_n (pc1 := 9) at_435_8 l1 rfl ?_
    obtain ⟨z2, hs1⟩ := am_ift hs
    clear hs
    refine aw_call (F := fm_359 N x0 x1 h) (t := true) (na := 2) (kd := 1) (as := [x0, (.int x1)]) at_435_9 (am_k3v kb_359) mn_359 mk_359 rfl rfl (am_ok_v mi_359 (am_hl rfl (am_ccR i0 (am_ccI am_cats_0)) rfl) z2) (am_hc am_cats_0 rfl) (fun _ => ⟨rfl, hh_435⟩) (fun o1 hz9 => rm_359 x0 x1 h o1 i0 hz9) ?_
    rcases am_cV_s hs1 with ⟨h4, f5, hs2⟩ | hs2
    · clear hs1
      refine Or.inl ⟨_, _, f5, ?_⟩
      show am_W X _ 435 12 _ [] h4 _
      refine aw_vload_n (pc1 := 13) at_435_12 l0 i0 rfl ?_
      refine aw_iconst (v := 0) (pc1 := 14) at_435_13 (by decide) rfl ?_
      obtain ⟨z6, hs3⟩ := am_ift hs2
      clear hs2
      refine aw_call (F := fm_428 N x0 0 h4) (t := true) (na := 2) (kd := 1) (as := [x0, (.int 0)]) at_435_14 (am_k3v kb_428) mn_428 mk_428 rfl rfl (am_ok_v mi_428 (am_hl rfl (am_ccR i0 (am_ccI am_cats_0)) rfl) z6) (am_hc am_cats_0 rfl) (fun _ => ⟨rfl, hh_435⟩) (fun o1 hz9 => rm_428 x0 0 h4 o1 i0 hz9) ?_
      rcases am_cV_s hs3 with ⟨h8, f9, hs4⟩ | hs4
      · clear hs3
        refine Or.inl ⟨_, _, f9, ?_⟩
        show am_W X _ 435 17 _ [] h8 _
        refine aw_vload_n (pc1 := 18) at_435_17 l0 i0 rfl ?_
        obtain ⟨v10, e11, hs5⟩ := am_bind hs4
        clear hs4
        refine aw_pG (pc1 := 21) at_435_18 (am_vL_s e11) rfl ?_
        refine aw_lstore_n (lv1 := am_put2 _ 3 _) (pc1 := 22) at_435_21 rfl rfl ?_
        refine aw_vload_n (pc1 := 23) at_435_22 (am_lk2 l0 rfl rfl) i0 rfl ?_
        obtain ⟨v12, e13, hs6⟩ := am_bind hs5
        clear hs5
        refine aw_pG (pc1 := 26) at_435_23 (am_vL_s e13) rfl ?_
        refine aw_lstore (lv1 := am_put2 _ 5 _) (pc1 := 28) at_435_26 rfl rfl ?_
        refine aw_vload_n (pc1 := 29) at_435_28 (am_lk2 (am_lk2 l0 rfl rfl) rfl rfl) i0 rfl ?_
        refine aw_iload_n (pc1 := 30) at_435_29 (am_lk2 (am_lk2 l2 rfl rfl) rfl rfl) rfl ?_
        obtain ⟨z14, hs7⟩ := am_ift hs6
        clear hs6
        refine aw_call (F := fm_359 N x0 x2 h8) (t := true) (na := 2) (kd := 1) (as := [x0, (.int x2)]) at_435_30 (am_k3v kb_359) mn_359 mk_359 rfl rfl (am_ok_v mi_359 (am_hl rfl (am_ccR i0 (am_ccI am_cats_0)) rfl) z14) (am_hc am_cats_0 rfl) (fun _ => ⟨rfl, hh_435⟩) (fun o1 hz9 => rm_359 x0 x2 h8 o1 i0 hz9) ?_
        rcases am_cV_s hs7 with ⟨h16, f17, hs8⟩ | hs8
        · clear hs7
          refine Or.inl ⟨_, _, f17, ?_⟩
          show am_W X _ 435 33 _ [] h16 _
          refine aw_vload_n (pc1 := 34) at_435_33 (am_lk2 (am_lk2 l0 rfl rfl) rfl rfl) i0 rfl ?_
          refine aw_iconst (v := 0) (pc1 := 35) at_435_34 (by decide) rfl ?_
          obtain ⟨z18, hs9⟩ := am_ift hs8
          clear hs8
          refine aw_call (F := fm_428 N x0 0 h16) (t := true) (na := 2) (kd := 1) (as := [x0, (.int 0)]) at_435_35 (am_k3v kb_428) mn_428 mk_428 rfl rfl (am_ok_v mi_428 (am_hl rfl (am_ccR i0 (am_ccI am_cats_0)) rfl) z18) (am_hc am_cats_0 rfl) (fun _ => ⟨rfl, hh_435⟩) (fun o1 hz9 => rm_428 x0 0 h16 o1 i0 hz9) ?_
          rcases am_cV_s hs9 with ⟨h20, f21, hs10⟩ | hs10
          · clear hs9
            refine Or.inl ⟨_, _, f21, ?_⟩
            show am_W X _ 435 38 _ [] h20 _
            refine aw_lload_n (pc1 := 39) at_435_38 (am_lk2 am_lk02 rfl rfl) rfl ?_
            refine aw_vload_n (pc1 := 40) at_435_39 (am_lk2 (am_lk2 l0 rfl rfl) rfl rfl) i0 rfl ?_
            obtain ⟨v22, e23, hs11⟩ := am_bind hs10
            clear hs10
            refine aw_pG (pc1 := 43) at_435_40 (am_vL_s e23) rfl ?_
            refine aw_lmul (v := (v10 * v22)) (pc1 := 44) at_435_43 rfl rfl ?_
            refine aw_vload_n (pc1 := 45) at_435_44 (am_lk2 (am_lk2 l0 rfl rfl) rfl rfl) i0 rfl ?_
            obtain ⟨v24, e25, hs12⟩ := am_bind hs11
            clear hs11
            refine aw_pG (pc1 := 48) at_435_45 (am_vL_s e25) rfl ?_
            refine aw_lload (pc1 := 50) at_435_48 am_lk02 rfl ?_
            refine aw_lmul (v := (v24 * v12)) (pc1 := 51) at_435_50 rfl rfl ?_
            refine aw_lsub (v := ((v10 * v22) - (v24 * v12))) (pc1 := 52) at_435_51 rfl rfl ?_
            refine aw_lstore (lv1 := am_put2 _ 7 _) (pc1 := 54) at_435_52 rfl rfl ?_
            refine aw_lload (pc1 := 56) at_435_54 am_lk02 rfl ?_
            refine aw_lconst (v := 0) (pc1 := 57) at_435_56 (by decide) rfl ?_
            refine aw_lcmp (v := (lg_cmp ((v10 * v22) - (v24 * v12)) 0)) (pc1 := 58) at_435_57 rfl rfl ?_
            by_cases c26 : (lg_cmp ((v10 * v22) - (v24 * v12)) 0) = 0
            · rw [if_pos c26] at hs12
              refine aw_ifeq_t at_435_58 c26 ?_
              refine aw_vload_n (pc1 := 75) at_435_74 (am_lk2 (am_lk2 (am_lk2 l0 rfl rfl) rfl rfl) rfl rfl) i0 rfl ?_
              obtain ⟨v27, e28, hs13⟩ := am_bind hs12
              clear hs12
              refine aw_pG (pc1 := 78) at_435_75 (am_vR_s e28).1 rfl ?_
              refine aw_iload_n (pc1 := 79) at_435_78 (am_lk2 (am_lk2 (am_lk2 l1 rfl rfl) rfl rfl) rfl rfl) rfl ?_
              obtain ⟨v29, e30, hs14⟩ := am_bind hs13
              clear hs13
              refine aw_pA (pc1 := 80) at_435_79 (Or.inl ⟨rfl, rfl⟩) e30 rfl ?_
              refine aw_vload_n (pc1 := 81) at_435_80 (am_lk2 (am_lk2 (am_lk2 l0 rfl rfl) rfl rfl) rfl rfl) i0 rfl ?_
              obtain ⟨v31, e32, hs15⟩ := am_bind hs14
              clear hs14
              refine aw_pG (pc1 := 84) at_435_81 (am_vR_s e32).1 rfl ?_
              refine aw_iload_n (pc1 := 85) at_435_84 (am_lk2 (am_lk2 (am_lk2 l2 rfl rfl) rfl rfl) rfl rfl) rfl ?_
              obtain ⟨v33, e34, hs16⟩ := am_bind hs15
              clear hs15
              refine aw_pA (pc1 := 86) at_435_85 (Or.inl ⟨rfl, rfl⟩) e34 rfl ?_
              by_cases c35 : v29 = v33
              · rw [if_pos c35] at hs16
                refine aw_iceq_t at_435_86 c35 ?_
                refine aw_iload_n (pc1 := 111) at_435_110 (am_lk2 (am_lk2 (am_lk2 l1 rfl rfl) rfl rfl) rfl rfl) rfl ?_
                refine aw_iload_n (pc1 := 112) at_435_111 (am_lk2 (am_lk2 (am_lk2 l2 rfl rfl) rfl rfl) rfl rfl) rfl ?_
                by_cases c36 : x2 ≤ x1
                · rw [if_pos c36] at hs16
                  refine aw_icge_t at_435_112 c36 ?_
                  refine aw_iconst (v := 1) (pc1 := 120) at_435_119 (by decide) rfl ?_
                  exact rg_435_120 1 h20 o   hs16
                · rw [if_neg c36] at hs16
                  refine aw_icge_f (pc1 := 115) at_435_112 c36 rfl ?_
                  refine aw_iconst (v := (-1)) (pc1 := 116) at_435_115 (by decide) rfl ?_
                  refine aw_goto at_435_116 ?_
                  exact rg_435_120 ((-1)) h20 o   hs16
              · rw [if_neg c35] at hs16
                refine aw_iceq_f (pc1 := 89) at_435_86 c35 rfl ?_
                refine aw_vload_n (pc1 := 90) at_435_89 (am_lk2 (am_lk2 (am_lk2 l0 rfl rfl) rfl rfl) rfl rfl) i0 rfl ?_
                obtain ⟨v37, e38, hs17⟩ := am_bind hs16
                clear hs16
                refine aw_pG (pc1 := 93) at_435_90 (am_vR_s e38).1 rfl ?_
                refine aw_iload_n (pc1 := 94) at_435_93 (am_lk2 (am_lk2 (am_lk2 l1 rfl rfl) rfl rfl) rfl rfl) rfl ?_
                obtain ⟨v39, e40, hs18⟩ := am_bind hs17
                clear hs17
                refine aw_pA (pc1 := 95) at_435_94 (Or.inl ⟨rfl, rfl⟩) e40 rfl ?_
                refine aw_vload_n (pc1 := 96) at_435_95 (am_lk2 (am_lk2 (am_lk2 l0 rfl rfl) rfl rfl) rfl rfl) i0 rfl ?_
                obtain ⟨v41, e42, hs19⟩ := am_bind hs18
                clear hs18
                refine aw_pG (pc1 := 99) at_435_96 (am_vR_s e42).1 rfl ?_
                refine aw_iload_n (pc1 := 100) at_435_99 (am_lk2 (am_lk2 (am_lk2 l2 rfl rfl) rfl rfl) rfl rfl) rfl ?_
                obtain ⟨v43, e44, hs20⟩ := am_bind hs19
                clear hs19
                refine aw_pA (pc1 := 101) at_435_100 (Or.inl ⟨rfl, rfl⟩) e44 rfl ?_
                by_cases c45 : v43 ≤ v39
                · rw [if_pos c45] at hs20
                  refine aw_icge_t at_435_101 c45 ?_
                  refine aw_iconst (v := 1) (pc1 := 109) at_435_108 (by decide) rfl ?_
                  exact rg_435_109 1 h20 o   hs20
                · rw [if_neg c45] at hs20
                  refine aw_icge_f (pc1 := 104) at_435_101 c45 rfl ?_
                  refine aw_iconst (v := (-1)) (pc1 := 105) at_435_104 (by decide) rfl ?_
                  refine aw_goto at_435_105 ?_
                  exact rg_435_109 ((-1)) h20 o   hs20
            · rw [if_neg c26] at hs12
              refine aw_ifeq_f (pc1 := 61) at_435_58 c26 rfl ?_
              refine aw_lload (pc1 := 63) at_435_61 am_lk02 rfl ?_
              refine aw_lconst (v := 0) (pc1 := 64) at_435_63 (by decide) rfl ?_
              refine aw_lcmp (v := (lg_cmp ((v10 * v22) - (v24 * v12)) 0)) (pc1 := 65) at_435_64 rfl rfl ?_
              by_cases c46 : 0 ≤ (lg_cmp ((v10 * v22) - (v24 * v12)) 0)
              · rw [if_pos c46] at hs12
                refine aw_ifge_t at_435_65 c46 ?_
                refine aw_iconst (v := 1) (pc1 := 73) at_435_72 (by decide) rfl ?_
                exact rg_435_73 1 h20 o   hs12
              · rw [if_neg c46] at hs12
                refine aw_ifge_f (pc1 := 68) at_435_65 c46 rfl ?_
                refine aw_iconst (v := (-1)) (pc1 := 69) at_435_68 (by decide) rfl ?_
                refine aw_goto at_435_69 ?_
                exact rg_435_73 ((-1)) h20 o   hs12
          · clear hs9
            exact Or.inr hs10
        · clear hs7
          exact Or.inr hs8
      · clear hs3
        exact Or.inr hs4
    · clear hs1
      exact Or.inr hs2
  · rw [if_neg c1] at hs
    refine aw_icne_f (pc1 := 5) at_435_2 c1 rfl ?_
    refine aw_iconst (v := 0) (pc1 := 6) at_435_5 (by decide) rfl ?_
    cases hs
    exact aw_iret at_435_6 (by rw [rt_435]; rfl) rfl
def fm_435 (N : Nat) (y0 : Value) (y1 : Int32) (y2 : Int32) (h : am_H) : Option am_O := fg_435_0 N y0 y1 y2 h
theorem rm_435 {X : am_X} {d : Nat} {N : Nat} (y0 : Value) (y1 : Int32) (y2 : Int32) (h : am_H) (o : am_O) (i0 : am_isR y0 = true) (hs : fm_435 N y0 y1 y2 h = some o) : am_W X (d + 8) 435 0 (am_args 0 [y0, .int y1, .int y2]) [] h (fun q => q = o) := by
  rw [am_args_R i0, am_args_I, am_args_I]
  exact rg_435_0 y0 y1 y2 h o rfl rfl rfl i0 hs
def fg_434_42 (N : Nat) (s0 : Int32) (h : am_H) : Option am_O := some (.inl (some (.int s0), h))
theorem rg_434_42 {X : am_X} {d : Nat} {N : Nat} {lv : am_LV} (s0 : Int32) (h : am_H) (o : am_O) (hs : fg_434_42 N s0 h = some o) : am_W X (d + 9) 434 42 lv [(.int s0)] h (fun q => q = o) := by
  unfold fg_434_42 at hs
  cases hs
  exact aw_iret at_434_42 (by rw [rt_434]; rfl) rfl
def fg_434_22 (N : Nat) (x0 : Value) (x1 : Int32) (x2 : Int32) (s0 : Value) (s1 : Int32) (h : am_H) : Option am_O := ((am_pP 3072 s0 (.int s1) h).bind fun h1 => ((am_vI (am_pG 3072 x0 h1)).bind fun v3 => (if v3 ≤ 0 then (if am_pOk 12 x0 h1 then am_cI true (fm_435 N x0 x1 x2 h1) (fun v7 h8 => (fg_434_42 N v7 h8)) else none) else (fg_434_42 N 0 h1))))
theorem rg_434_22 {X : am_X} {d : Nat} {N : Nat} {lv : am_LV} (x0 : Value) (x1 : Int32) (x2 : Int32) (s0 : Value) (s1 : Int32) (h : am_H) (o : am_O) (l0 : lv.lookup 0 = some x0) (l1 : lv.lookup 1 = some (.int x1)) (l2 : lv.lookup 2 = some (.int x2)) (i0 : am_isR x0 = true) (j0 : am_isR s0 = true) (hs : fg_434_22 N x0 x1 x2 s0 s1 h = some o) : am_W X (d + 9) 434 22 lv [(.int s1), s0] h (fun q => q = o) := by
  unfold fg_434_22 at hs
  obtain ⟨h1, e2, hs1⟩ := am_bind hs
  clear hs
  refine aw_pP (pc1 := 25) at_434_22 e2 rfl ?_
  refine aw_vload_n (pc1 := 26) at_434_25 l0 i0 rfl ?_
  obtain ⟨v3, e4, hs2⟩ := am_bind hs1
  clear hs1
  refine aw_pG (pc1 := 29) at_434_26 (am_vI_s e4) rfl ?_
  by_cases c5 : v3 ≤ 0
  · rw [if_pos c5] at hs2
    refine aw_ifle_t at_434_29 c5 ?_
    refine aw_vload_n (pc1 := 37) at_434_36 l0 i0 rfl ?_
    refine aw_iload_n (pc1 := 38) at_434_37 l1 rfl ?_
    refine aw_iload_n (pc1 := 39) at_434_38 l2 rfl ?_
    obtain ⟨z6, hs3⟩ := am_ift hs2
    clear hs2
    refine aw_call (F := fm_435 N x0 x1 x2 h1) (t := true) (na := 3) (kd := 1) (as := [x0, (.int x1), (.int x2)]) at_434_39 (am_k3v kb_435) mn_435 mk_435 rfl rfl (am_ok_v mi_435 (am_hl rfl (am_ccR i0 (am_ccI (am_ccI am_cats_0))) rfl) z6) (am_hc am_cats_0 rfl) (fun _ => ⟨rfl, hh_434⟩) (fun o1 hz9 => rm_435 x0 x1 x2 h1 o1 i0 hz9) ?_
    rcases am_cI_s hs3 with ⟨v7, h8, f9, hs4⟩ | hs4
    · clear hs3
      refine Or.inl ⟨_, _, f9, ?_⟩
      show am_W X _ 434 42 _ [(.int v7)] h8 _
      exact rg_434_42 v7 h8 o   hs4
    · clear hs3
      exact Or.inr hs4
  · rw [if_neg c5] at hs2
    refine aw_ifle_f (pc1 := 32) at_434_29 c5 rfl ?_
    refine aw_iconst (v := 0) (pc1 := 33) at_434_32 (by decide) rfl ?_
    refine aw_goto at_434_33 ?_
    exact rg_434_42 0 h1 o   hs2
def fg_434_21 (N : Nat) (x0 : Value) (x1 : Int32) (x2 : Int32) (s0 : Value) (h : am_H) : Option am_O := (fg_434_22 N x0 x1 x2 s0 1 h)
theorem rg_434_21 {X : am_X} {d : Nat} {N : Nat} {lv : am_LV} (x0 : Value) (x1 : Int32) (x2 : Int32) (s0 : Value) (h : am_H) (o : am_O) (l0 : lv.lookup 0 = some x0) (l1 : lv.lookup 1 = some (.int x1)) (l2 : lv.lookup 2 = some (.int x2)) (i0 : am_isR x0 = true) (j0 : am_isR s0 = true) (hs : fg_434_21 N x0 x1 x2 s0 h = some o) : am_W X (d + 9) 434 21 lv [s0] h (fun q => q = o) := by
  unfold fg_434_21 at hs
  refine aw_iconst (v := 1) (pc1 := 22) at_434_21 (by decide) rfl ?_
  exact rg_434_22 x0 x1 x2 s0 1 h o l0 l1 l2 i0 j0 hs
def fg_434_0 (N : Nat) (x0 : Value) (x1 : Int32) (x2 : Int32) (h : am_H) : Option am_O := (if am_pOk 12 x0 h then am_cI true (fm_358 x0 x1 h) (fun v2 h3 => (if v2 = 0 then (fg_434_21 N x0 x1 x2 x0 h3) else (if am_pOk 12 x0 h3 then am_cI true (fm_358 x0 x2 h3) (fun v7 h8 => (if v7 = 0 then (fg_434_21 N x0 x1 x2 x0 h8) else (fg_434_22 N x0 x1 x2 x0 0 h8))) else none))) else none)
theorem rg_434_0 {X : am_X} {d : Nat} {N : Nat} {lv : am_LV} (x0 : Value) (x1 : Int32) (x2 : Int32) (h : am_H) (o : am_O) (l0 : lv.lookup 0 = some x0) (l1 : lv.lookup 1 = some (.int x1)) (l2 : lv.lookup 2 = some (.int x2)) (i0 : am_isR x0 = true) (hs : fg_434_0 N x0 x1 x2 h = some o) : am_W X (d + 9) 434 0 lv [] h (fun q => q = o) := by
  unfold fg_434_0 at hs
  refine aw_vload_n (pc1 := 1) at_434_0 l0 i0 rfl ?_
  refine aw_vload_n (pc1 := 2) at_434_1 l0 i0 rfl ?_
  refine aw_iload_n (pc1 := 3) at_434_2 l1 rfl ?_
  obtain ⟨z1, hs1⟩ := am_ift hs
  clear hs
  refine aw_call (F := fm_358 x0 x1 h) (t := true) (na := 2) (kd := 1) (as := [x0, (.int x1)]) at_434_3 (am_k3v kb_358) mn_358 mk_358 rfl rfl (am_ok_v mi_358 (am_hl rfl (am_ccR i0 (am_ccI am_cats_0)) rfl) z1) (am_hc (am_ccR i0 am_cats_0) rfl) (fun _ => ⟨rfl, hh_434⟩) (fun o1 hz9 => rm_358 x0 x1 h o1 i0 hz9) ?_
  rcases am_cI_s hs1 with ⟨v2, h3, f4, hs2⟩ | hs2
  · clear hs1
    refine Or.inl ⟨_, _, f4, ?_⟩
    show am_W X _ 434 6 _ [(.int v2), x0] h3 _
    by_cases c5 : v2 = 0
    · rw [if_pos c5] at hs2
      refine aw_ifeq_t at_434_6 c5 ?_
      exact rg_434_21 x0 x1 x2 x0 h3 o l0 l1 l2 i0 i0 hs2
    · rw [if_neg c5] at hs2
      refine aw_ifeq_f (pc1 := 9) at_434_6 c5 rfl ?_
      refine aw_vload_n (pc1 := 10) at_434_9 l0 i0 rfl ?_
      refine aw_iload_n (pc1 := 11) at_434_10 l2 rfl ?_
      obtain ⟨z6, hs3⟩ := am_ift hs2
      clear hs2
      refine aw_call (F := fm_358 x0 x2 h3) (t := true) (na := 2) (kd := 1) (as := [x0, (.int x2)]) at_434_11 (am_k3v kb_358) mn_358 mk_358 rfl rfl (am_ok_v mi_358 (am_hl rfl (am_ccR i0 (am_ccI am_cats_0)) rfl) z6) (am_hc (am_ccR i0 am_cats_0) rfl) (fun _ => ⟨rfl, hh_434⟩) (fun o1 hz9 => rm_358 x0 x2 h3 o1 i0 hz9) ?_
      rcases am_cI_s hs3 with ⟨v7, h8, f9, hs4⟩ | hs4
      · clear hs3
        refine Or.inl ⟨_, _, f9, ?_⟩
        show am_W X _ 434 14 _ [(.int v7), x0] h8 _
        by_cases c10 : v7 = 0
        · rw [if_pos c10] at hs4
          refine aw_ifeq_t at_434_14 c10 ?_
          exact rg_434_21 x0 x1 x2 x0 h8 o l0 l1 l2 i0 i0 hs4
        · rw [if_neg c10] at hs4
          refine aw_ifeq_f (pc1 := 17) at_434_14 c10 rfl ?_
          refine aw_iconst (v := 0) (pc1 := 18) at_434_17 (by decide) rfl ?_
          refine aw_goto at_434_18 ?_
          exact rg_434_22 x0 x1 x2 x0 0 h8 o l0 l1 l2 i0 i0 hs4
      · clear hs3
        exact Or.inr hs4
  · clear hs1
    exact Or.inr hs2
def fm_434 (N : Nat) (y0 : Value) (y1 : Int32) (y2 : Int32) (h : am_H) : Option am_O := fg_434_0 N y0 y1 y2 h
theorem rm_434 {X : am_X} {d : Nat} {N : Nat} (y0 : Value) (y1 : Int32) (y2 : Int32) (h : am_H) (o : am_O) (i0 : am_isR y0 = true) (hs : fm_434 N y0 y1 y2 h = some o) : am_W X (d + 9) 434 0 (am_args 0 [y0, .int y1, .int y2]) [] h (fun q => q = o) := by
  rw [am_args_R i0, am_args_I, am_args_I]
  exact rg_434_0 y0 y1 y2 h o rfl rfl rfl i0 hs
def fg_155_0 (x0 : Value) (x1 : Int32) (h : am_H) : Option am_O := ((am_vR (am_pG 514 x0 h)).bind fun v1 => ((am_pP 1536 v1 (.int x1) h).bind fun h3 => ((am_vR (am_pG 515 x0 h3)).bind fun v5 => ((am_pP 1536 v5 (.int x1) h3).bind fun h7 => some (.inl (none, h7))))))
theorem rg_155_0 {X : am_X} {d : Nat} {lv : am_LV} (x0 : Value) (x1 : Int32) (h : am_H) (o : am_O) (l0 : lv.lookup 0 = some x0) (l1 : lv.lookup 1 = some (.int x1)) (i0 : am_isR x0 = true) (hs : fg_155_0 x0 x1 h = some o) : am_W X (d) 155 0 lv [] h (fun q => q = o) := by
  unfold fg_155_0 at hs
  refine aw_vload_n (pc1 := 1) at_155_0 l0 i0 rfl ?_
  obtain ⟨v1, e2, hs1⟩ := am_bind hs
  clear hs
  refine aw_pG (pc1 := 4) at_155_1 (am_vR_s e2).1 rfl ?_
  refine aw_iload_n (pc1 := 5) at_155_4 l1 rfl ?_
  obtain ⟨h3, e4, hs2⟩ := am_bind hs1
  clear hs1
  refine aw_pP (pc1 := 8) at_155_5 e4 rfl ?_
  refine aw_vload_n (pc1 := 9) at_155_8 l0 i0 rfl ?_
  obtain ⟨v5, e6, hs3⟩ := am_bind hs2
  clear hs2
  refine aw_pG (pc1 := 12) at_155_9 (am_vR_s e6).1 rfl ?_
  refine aw_iload_n (pc1 := 13) at_155_12 l1 rfl ?_
  obtain ⟨h7, e8, hs4⟩ := am_bind hs3
  clear hs3
  refine aw_pP (pc1 := 16) at_155_13 e8 rfl ?_
  cases hs4
  exact aw_vret at_155_16 rt_155 rfl
def fm_155 (y0 : Value) (y1 : Int32) (h : am_H) : Option am_O := fg_155_0 y0 y1 h
theorem rm_155 {X : am_X} {d : Nat} (y0 : Value) (y1 : Int32) (h : am_H) (o : am_O) (i0 : am_isR y0 = true) (hs : fm_155 y0 y1 h = some o) : am_W X (d) 155 0 (am_args 0 [y0, .int y1]) [] h (fun q => q = o) := by
  rw [am_args_R i0, am_args_I]
  exact rg_155_0 y0 y1 h o rfl rfl i0 hs
def fg_154_31 (X : am_X) (h : am_H) : Option am_O := some (.inr (0, h ++ [am_dummy]))
theorem rg_154_31 {X : am_X} {d : Nat} {lv : am_LV} (h : am_H) (o : am_O) (hs : fg_154_31 X h = some o) : am_W X (d + 1) 154 31 lv [] h (fun q => q = o) := by
  unfold fg_154_31 at hs
  cases hs
  exact aw_throw at_154_31 rfl th_154_31 (am_hc am_cats_0 rfl) rfl
def fg_154_0 (X : am_X) (x0 : Value) (x1 : Int32) (x2 : Int32) (h : am_H) : Option am_O := (if x1 < 0 then (fg_154_31 X h) else ((am_vR (am_pG 2820 x0 h)).bind fun v2 => ((am_pLen v2 h).bind fun v4 => (if v4 ≤ x1 then (fg_154_31 X h) else ((am_pX X 16 x1).bind fun v7 => (if x2 < v7 then (fg_154_31 X h) else ((am_pX X 17 x1).bind fun v10 => (if x2 ≤ v10 then ((am_vR (am_pG 2820 x0 h)).bind fun v13 => ((am_pA 0 v13 x1 h).bind fun v15 => ((am_vR (am_pG 2820 x0 h)).bind fun v17 => ((am_pS 0 v17 x1 x2 h).bind fun h19 => ((am_vR (am_pG 2819 x0 h19)).bind fun v21 => ((am_vR (am_pG 2820 x0 h19)).bind fun v23 => ((am_pA 0 v23 0 h19).bind fun v25 => (if am_pOk 2 v21 h19 then am_cV true (fm_155 v21 v25 h19) (fun h29 => some (.inl (some (.int v15), h29))) else none)))))))) else (fg_154_31 X h)))))))))
theorem rg_154_0 {X : am_X} {d : Nat} {lv : am_LV} (x0 : Value) (x1 : Int32) (x2 : Int32) (h : am_H) (o : am_O) (l0 : lv.lookup 0 = some x0) (l1 : lv.lookup 1 = some (.int x1)) (l2 : lv.lookup 2 = some (.int x2)) (i0 : am_isR x0 = true) (hs : fg_154_0 X x0 x1 x2 h = some o) : am_W X (d + 1) 154 0 lv [] h (fun q => q = o) := by
  unfold fg_154_0 at hs
  refine aw_iload_n (pc1 := 1) at_154_0 l1 rfl ?_
  by_cases c1 : x1 < 0
  · rw [if_pos c1] at hs
    refine aw_iflt_t at_154_1 c1 ?_
    exact rg_154_31 h o   hs
  · rw [if_neg c1] at hs
    refine aw_iflt_f (pc1 := 4) at_154_1 c1 rfl ?_
    refine aw_iload_n (pc1 := 5) at_154_4 l1 rfl ?_
    refine aw_vload_n (pc1 := 6) at_154_5 l0 i0 rfl ?_
    obtain ⟨v2, e3, hs1⟩ := am_bind hs
    clear hs
    refine aw_pG (pc1 := 9) at_154_6 (am_vR_s e3).1 rfl ?_
    obtain ⟨v4, e5, hs2⟩ := am_bind hs1
    clear hs1
    refine aw_pLen (pc1 := 10) at_154_9 e5 rfl ?_
    by_cases c6 : v4 ≤ x1
    · rw [if_pos c6] at hs2
      refine aw_icge_t at_154_10 c6 ?_
      exact rg_154_31 h o   hs2
    · rw [if_neg c6] at hs2
      refine aw_icge_f (pc1 := 13) at_154_10 c6 rfl ?_
      refine aw_iload_n (pc1 := 14) at_154_13 l2 rfl ?_
      refine aw_gst (pc1 := 17) at_154_14 rfl rfl ?_
      show am_W _ _ _ _ _ [(Value.float 16), (.int x2)] _ _
      refine aw_iload_n (pc1 := 18) at_154_17 l1 rfl ?_
      obtain ⟨v7, e8, hs3⟩ := am_bind hs2
      clear hs2
      refine aw_pX (j := 16) (pc1 := 19) at_154_18 rfl rfl e8 rfl ?_
      by_cases c9 : x2 < v7
      · rw [if_pos c9] at hs3
        refine aw_iclt_t at_154_19 c9 ?_
        exact rg_154_31 h o   hs3
      · rw [if_neg c9] at hs3
        refine aw_iclt_f (pc1 := 22) at_154_19 c9 rfl ?_
        refine aw_iload_n (pc1 := 23) at_154_22 l2 rfl ?_
        refine aw_gst (pc1 := 26) at_154_23 rfl rfl ?_
        show am_W _ _ _ _ _ [(Value.float 17), (.int x2)] _ _
        refine aw_iload_n (pc1 := 27) at_154_26 l1 rfl ?_
        obtain ⟨v10, e11, hs4⟩ := am_bind hs3
        clear hs3
        refine aw_pX (j := 17) (pc1 := 28) at_154_27 rfl rfl e11 rfl ?_
        by_cases c12 : x2 ≤ v10
        · rw [if_pos c12] at hs4
          refine aw_icle_t at_154_28 c12 ?_
          refine aw_vload_n (pc1 := 43) at_154_42 l0 i0 rfl ?_
          obtain ⟨v13, e14, hs5⟩ := am_bind hs4
          clear hs4
          refine aw_pG (pc1 := 46) at_154_43 (am_vR_s e14).1 rfl ?_
          refine aw_iload_n (pc1 := 47) at_154_46 l1 rfl ?_
          obtain ⟨v15, e16, hs6⟩ := am_bind hs5
          clear hs5
          refine aw_pA (pc1 := 48) at_154_47 (Or.inl ⟨rfl, rfl⟩) e16 rfl ?_
          refine aw_istore_n (lv1 := am_put1 _ 3 _) (pc1 := 49) at_154_48 rfl rfl ?_
          refine aw_vload_n (pc1 := 50) at_154_49 (am_lk1 l0 rfl rfl) i0 rfl ?_
          obtain ⟨v17, e18, hs7⟩ := am_bind hs6
          clear hs6
          refine aw_pG (pc1 := 53) at_154_50 (am_vR_s e18).1 rfl ?_
          refine aw_iload_n (pc1 := 54) at_154_53 (am_lk1 l1 rfl rfl) rfl ?_
          refine aw_iload_n (pc1 := 55) at_154_54 (am_lk1 l2 rfl rfl) rfl ?_
          obtain ⟨h19, e20, hs8⟩ := am_bind hs7
          clear hs7
          refine aw_pS (pc1 := 56) at_154_55 (Or.inl ⟨rfl, rfl⟩) e20 rfl ?_
          refine aw_vload_n (pc1 := 57) at_154_56 (am_lk1 l0 rfl rfl) i0 rfl ?_
          obtain ⟨v21, e22, hs9⟩ := am_bind hs8
          clear hs8
          refine aw_pG (pc1 := 60) at_154_57 (am_vR_s e22).1 rfl ?_
          refine aw_vload_n (pc1 := 61) at_154_60 (am_lk1 l0 rfl rfl) i0 rfl ?_
          obtain ⟨v23, e24, hs10⟩ := am_bind hs9
          clear hs9
          refine aw_pG (pc1 := 64) at_154_61 (am_vR_s e24).1 rfl ?_
          refine aw_iconst (v := 0) (pc1 := 65) at_154_64 (by decide) rfl ?_
          obtain ⟨v25, e26, hs11⟩ := am_bind hs10
          clear hs10
          refine aw_pA (pc1 := 66) at_154_65 (Or.inl ⟨rfl, rfl⟩) e26 rfl ?_
          obtain ⟨z27, hs12⟩ := am_ift hs11
          clear hs11
          refine aw_call (F := fm_155 v21 v25 h19) (t := true) (na := 2) (kd := 1) (as := [v21, (.int v25)]) at_154_66 (am_k3v kb_155) mn_155 mk_155 rfl rfl (am_ok_v mi_155 (am_hl rfl (am_ccR (am_vR_s e22).2 (am_ccI am_cats_0)) rfl) z27) (am_hc am_cats_0 rfl) (fun _ => ⟨rfl, hh_154⟩) (fun o1 hz9 => rm_155 v21 v25 h19 o1 (am_vR_s e22).2 hz9) ?_
          rcases am_cV_s hs12 with ⟨h29, f30, hs13⟩ | hs13
          · clear hs12
            refine Or.inl ⟨_, _, f30, ?_⟩
            show am_W X _ 154 69 _ [] h29 _
            refine aw_iload_n (pc1 := 70) at_154_69 am_lk0 rfl ?_
            cases hs13
            exact aw_iret at_154_70 (by rw [rt_154]; rfl) rfl
          · clear hs12
            exact Or.inr hs13
        · rw [if_neg c12] at hs4
          refine aw_icle_f (pc1 := 31) at_154_28 c12 rfl ?_
          exact rg_154_31 h o   hs4
def fm_154 (X : am_X) (y0 : Value) (y1 : Int32) (y2 : Int32) (h : am_H) : Option am_O := fg_154_0 X y0 y1 y2 h
theorem rm_154 {X : am_X} {d : Nat} (y0 : Value) (y1 : Int32) (y2 : Int32) (h : am_H) (o : am_O) (i0 : am_isR y0 = true) (hs : fm_154 X y0 y1 y2 h = some o) : am_W X (d + 1) 154 0 (am_args 0 [y0, .int y1, .int y2]) [] h (fun q => q = o) := by
  rw [am_args_R i0, am_args_I, am_args_I]
  exact rg_154_0 y0 y1 y2 h o rfl rfl rfl i0 hs
def fg_153_15 (X : am_X) (h : am_H) : Option am_O := some (.inl (some (.int 1), h))
theorem rg_153_15 {X : am_X} {d : Nat} {lv : am_LV} (h : am_H) (o : am_O) (hs : fg_153_15 X h = some o) : am_W X (d + 2) 153 15 lv [] h (fun q => q = o) := by
  unfold fg_153_15 at hs
  refine aw_iconst (v := 1) (pc1 := 16) at_153_15 (by decide) rfl ?_
  cases hs
  exact aw_iret at_153_16 (by rw [rt_153]; rfl) rfl
def fg_153_0 (X : am_X) (x0 : Value) (x1 : Int32) (x2 : Int32) (x3 : Value) (h : am_H) : Option am_O := (if am_pOk 11 x0 h then (match fm_154 X x0 x1 x2 h with | some (.inl (some (.int v2), h3)) => ((am_pSL x3 0 (Int32.toInt64 v2) h3).bind fun h5 => some (.inl (some (.int 0), h5))) | some (.inr (0, h7)) => (fg_153_15 X h7) | _ => none) else none)
theorem rg_153_0 {X : am_X} {d : Nat} {lv : am_LV} (x0 : Value) (x1 : Int32) (x2 : Int32) (x3 : Value) (h : am_H) (o : am_O) (l0 : lv.lookup 0 = some x0) (l1 : lv.lookup 1 = some (.int x1)) (l2 : lv.lookup 2 = some (.int x2)) (l3 : lv.lookup 3 = some x3) (i0 : am_isR x0 = true) (i3 : am_isR x3 = true) (hs : fg_153_0 X x0 x1 x2 x3 h = some o) : am_W X (d + 2) 153 0 lv [] h (fun q => q = o) := by
  unfold fg_153_0 at hs
  refine aw_vload_n (pc1 := 1) at_153_0 l3 i3 rfl ?_
  refine aw_iconst (v := 0) (pc1 := 2) at_153_1 (by decide) rfl ?_
  refine aw_vload_n (pc1 := 3) at_153_2 l0 i0 rfl ?_
  refine aw_iload_n (pc1 := 4) at_153_3 l1 rfl ?_
  refine aw_iload_n (pc1 := 5) at_153_4 l2 rfl ?_
  obtain ⟨z1, hs1⟩ := am_ift hs
  clear hs
  refine aw_callH (F := fm_154 X x0 x1 x2 h) (na := 3) (kd := 1) (as := [x0, (.int x1), (.int x2)]) at_153_5 (am_k3v kb_154) mn_154 mk_154 rfl rfl (am_ok_v mi_154 (am_hl rfl (am_ccR i0 (am_ccI (am_ccI am_cats_0))) rfl) z1) (am_hc (am_ccI (am_ccR i3 am_cats_0)) rfl) (fun o1 hz9 => rm_154 x0 x1 x2 h o1 i0 hz9) ?_
  split at hs1
  · rename_i v2 h3 f4
    refine Or.inl ⟨_, _, f4, ?_⟩
    show am_W X _ 153 8 _ [(.int v2), (.int 0), x3] h3 _
    refine aw_i2l (v := (Int32.toInt64 v2)) (pc1 := 9) at_153_8 rfl rfl ?_
    obtain ⟨h5, e6, hs2⟩ := am_bind hs1
    clear hs1
    refine aw_pSL (pc1 := 10) at_153_9 e6 rfl ?_
    refine aw_goto at_153_10 ?_
    refine aw_iconst (v := 0) (pc1 := 18) at_153_17 (by decide) rfl ?_
    cases hs2
    exact aw_iret at_153_18 (by rw [rt_153]; rfl) rfl
  · rename_i h7 f8
    refine Or.inr ⟨_, _, 15, 4, f8, rfl, hn_153, hd_153_5_0, ?_⟩
    exact rg_153_15 h7 o   hs1
  · cases hs1
def fm_153 (X : am_X) (y0 : Value) (y1 : Int32) (y2 : Int32) (y3 : Value) (h : am_H) : Option am_O := fg_153_0 X y0 y1 y2 y3 h
theorem rm_153 {X : am_X} {d : Nat} (y0 : Value) (y1 : Int32) (y2 : Int32) (y3 : Value) (h : am_H) (o : am_O) (i0 : am_isR y0 = true) (i3 : am_isR y3 = true) (hs : fm_153 X y0 y1 y2 y3 h = some o) : am_W X (d + 2) 153 0 (am_args 0 [y0, .int y1, .int y2, y3]) [] h (fun q => q = o) := by
  rw [am_args_R i0, am_args_I, am_args_I, am_args_R i3]
  exact rg_153_0 y0 y1 y2 y3 h o rfl rfl rfl rfl i0 i3 hs
def fg_437_91 (s0 : Int32) (h : am_H) : Option am_O := (if am_rfit (some FieldType.boolean) s0 then some (.inl (some (.int s0), h)) else none)
theorem rg_437_91 {X : am_X} {d : Nat} {lv : am_LV} (s0 : Int32) (h : am_H) (o : am_O) (hs : fg_437_91 s0 h = some o) : am_W X (d + 1) 437 91 lv [(.int s0)] h (fun q => q = o) := by
  unfold fg_437_91 at hs
  obtain ⟨z1, hs1⟩ := am_ift hs
  clear hs
  cases hs1
  exact aw_iret at_437_91 (by rw [rt_437]; exact z1) rfl
def fg_437_90 (h : am_H) : Option am_O := (fg_437_91 0 h)
theorem rg_437_90 {X : am_X} {d : Nat} {lv : am_LV} (h : am_H) (o : am_O) (hs : fg_437_90 h = some o) : am_W X (d + 1) 437 90 lv [] h (fun q => q = o) := by
  unfold fg_437_90 at hs
  refine aw_iconst (v := 0) (pc1 := 91) at_437_90 (by decide) rfl ?_
  exact rg_437_91 0 h o   hs
def fg_437_0 (x0 : Int32) (x1 : Int32) (h : am_H) : Option am_O := (if ¬ x0 = 0 then (if ¬ x0 = 1 then (if ¬ x0 = 2 then (if ¬ x0 = 3 then (if ¬ x0 = 4 then (fg_437_90 h) else am_cI false (fm_327 ((Int32.toInt64 x1)) 0 2 h) (fun v6 h7 => (if v6 = 0 then (fg_437_90 h7) else (fg_437_91 1 h7)))) else am_cI false (fm_327 ((Int32.toInt64 x1)) 0 100 h) (fun v10 h11 => (fg_437_91 v10 h11))) else am_cI false (fm_327 ((Int32.toInt64 x1)) 1 5 h) (fun v13 h14 => (fg_437_91 v13 h14))) else am_cI false (fm_327 ((Int32.toInt64 x1)) 0 4 h) (fun v16 h17 => (fg_437_91 v16 h17))) else am_cI false (fm_327 ((Int32.toInt64 x1)) 10 2000 h) (fun v19 h20 => (fg_437_91 v19 h20)))
theorem rg_437_0 {X : am_X} {d : Nat} {lv : am_LV} (x0 : Int32) (x1 : Int32) (h : am_H) (o : am_O) (l0 : lv.lookup 0 = some (.int x0)) (l1 : lv.lookup 1 = some (.int x1)) (hs : fg_437_0 x0 x1 h = some o) : am_W X (d + 1) 437 0 lv [] h (fun q => q = o) := by
  unfold fg_437_0 at hs
  refine aw_iload_n (pc1 := 1) at_437_0 l0 rfl ?_
  by_cases c1 : ¬ x0 = 0
  · rw [if_pos c1] at hs
    refine aw_ifne_t at_437_1 c1 ?_
    refine aw_iload_n (pc1 := 19) at_437_18 l0 rfl ?_
    refine aw_iconst (v := 1) (pc1 := 20) at_437_19 (by decide) rfl ?_
    by_cases c2 : ¬ x0 = 1
    · rw [if_pos c2] at hs
      refine aw_icne_t at_437_20 c2 ?_
      refine aw_iload_n (pc1 := 36) at_437_35 l0 rfl ?_
      refine aw_iconst (v := 2) (pc1 := 37) at_437_36 (by decide) rfl ?_
      by_cases c3 : ¬ x0 = 2
      · rw [if_pos c3] at hs
        refine aw_icne_t at_437_37 c3 ?_
        refine aw_iload_n (pc1 := 53) at_437_52 l0 rfl ?_
        refine aw_iconst (v := 3) (pc1 := 54) at_437_53 (by decide) rfl ?_
        by_cases c4 : ¬ x0 = 3
        · rw [if_pos c4] at hs
          refine aw_icne_t at_437_54 c4 ?_
          refine aw_iload_n (pc1 := 70) at_437_69 l0 rfl ?_
          refine aw_iconst (v := 4) (pc1 := 71) at_437_70 (by decide) rfl ?_
          by_cases c5 : ¬ x0 = 4
          · rw [if_pos c5] at hs
            refine aw_icne_t at_437_71 c5 ?_
            exact rg_437_90 h o   hs
          · rw [if_neg c5] at hs
            refine aw_icne_f (pc1 := 74) at_437_71 c5 rfl ?_
            refine aw_iload_n (pc1 := 75) at_437_74 l1 rfl ?_
            refine aw_i2l (v := (Int32.toInt64 x1)) (pc1 := 76) at_437_75 rfl rfl ?_
            refine aw_lconst (v := 0) (pc1 := 77) at_437_76 (by decide) rfl ?_
            refine aw_ldc2 (v := 2) (pc1 := 80) at_437_77 rfl rfl ?_
            refine aw_call (F := fm_327 ((Int32.toInt64 x1)) 0 2 h) (t := false) (na := 3) (kd := 0) (as := [(.long (Int32.toInt64 x1)), (.long 0), (.long 2)]) at_437_80 (am_k3s kb_327) mn_327 mk_327 rfl rfl (am_ok_s mi_327 (am_hl rfl (am_ccL (am_ccL (am_ccL am_cats_0))) rfl)) (am_hc am_cats_0 rfl) (fun hz9 => by cases hz9) (fun o1 hz9 => rm_327 ((Int32.toInt64 x1)) 0 2 h o1  hz9) ?_
            rcases am_cI_s hs with ⟨v6, h7, f8, hs1⟩ | hs1
            · clear hs
              refine Or.inl ⟨_, _, f8, ?_⟩
              show am_W X _ 437 83 _ [(.int v6)] h7 _
              by_cases c9 : v6 = 0
              · rw [if_pos c9] at hs1
                refine aw_ifeq_t at_437_83 c9 ?_
                exact rg_437_90 h7 o   hs1
              · rw [if_neg c9] at hs1
                refine aw_ifeq_f (pc1 := 86) at_437_83 c9 rfl ?_
                refine aw_iconst (v := 1) (pc1 := 87) at_437_86 (by decide) rfl ?_
                refine aw_goto at_437_87 ?_
                exact rg_437_91 1 h7 o   hs1
            · clear hs
              exact Or.inr hs1
        · rw [if_neg c4] at hs
          refine aw_icne_f (pc1 := 57) at_437_54 c4 rfl ?_
          refine aw_iload_n (pc1 := 58) at_437_57 l1 rfl ?_
          refine aw_i2l (v := (Int32.toInt64 x1)) (pc1 := 59) at_437_58 rfl rfl ?_
          refine aw_lconst (v := 0) (pc1 := 60) at_437_59 (by decide) rfl ?_
          refine aw_ldc2 (v := 100) (pc1 := 63) at_437_60 rfl rfl ?_
          refine aw_call (F := fm_327 ((Int32.toInt64 x1)) 0 100 h) (t := false) (na := 3) (kd := 0) (as := [(.long (Int32.toInt64 x1)), (.long 0), (.long 100)]) at_437_63 (am_k3s kb_327) mn_327 mk_327 rfl rfl (am_ok_s mi_327 (am_hl rfl (am_ccL (am_ccL (am_ccL am_cats_0))) rfl)) (am_hc am_cats_0 rfl) (fun hz9 => by cases hz9) (fun o1 hz9 => rm_327 ((Int32.toInt64 x1)) 0 100 h o1  hz9) ?_
          rcases am_cI_s hs with ⟨v10, h11, f12, hs2⟩ | hs2
          · clear hs
            refine Or.inl ⟨_, _, f12, ?_⟩
            show am_W X _ 437 66 _ [(.int v10)] h11 _
            refine aw_goto at_437_66 ?_
            exact rg_437_91 v10 h11 o   hs2
          · clear hs
            exact Or.inr hs2
      · rw [if_neg c3] at hs
        refine aw_icne_f (pc1 := 40) at_437_37 c3 rfl ?_
        refine aw_iload_n (pc1 := 41) at_437_40 l1 rfl ?_
        refine aw_i2l (v := (Int32.toInt64 x1)) (pc1 := 42) at_437_41 rfl rfl ?_
        refine aw_lconst (v := 1) (pc1 := 43) at_437_42 (by decide) rfl ?_
        refine aw_ldc2 (v := 5) (pc1 := 46) at_437_43 rfl rfl ?_
        refine aw_call (F := fm_327 ((Int32.toInt64 x1)) 1 5 h) (t := false) (na := 3) (kd := 0) (as := [(.long (Int32.toInt64 x1)), (.long 1), (.long 5)]) at_437_46 (am_k3s kb_327) mn_327 mk_327 rfl rfl (am_ok_s mi_327 (am_hl rfl (am_ccL (am_ccL (am_ccL am_cats_0))) rfl)) (am_hc am_cats_0 rfl) (fun hz9 => by cases hz9) (fun o1 hz9 => rm_327 ((Int32.toInt64 x1)) 1 5 h o1  hz9) ?_
        rcases am_cI_s hs with ⟨v13, h14, f15, hs3⟩ | hs3
        · clear hs
          refine Or.inl ⟨_, _, f15, ?_⟩
          show am_W X _ 437 49 _ [(.int v13)] h14 _
          refine aw_goto at_437_49 ?_
          exact rg_437_91 v13 h14 o   hs3
        · clear hs
          exact Or.inr hs3
    · rw [if_neg c2] at hs
      refine aw_icne_f (pc1 := 23) at_437_20 c2 rfl ?_
      refine aw_iload_n (pc1 := 24) at_437_23 l1 rfl ?_
      refine aw_i2l (v := (Int32.toInt64 x1)) (pc1 := 25) at_437_24 rfl rfl ?_
      refine aw_lconst (v := 0) (pc1 := 26) at_437_25 (by decide) rfl ?_
      refine aw_ldc2 (v := 4) (pc1 := 29) at_437_26 rfl rfl ?_
      refine aw_call (F := fm_327 ((Int32.toInt64 x1)) 0 4 h) (t := false) (na := 3) (kd := 0) (as := [(.long (Int32.toInt64 x1)), (.long 0), (.long 4)]) at_437_29 (am_k3s kb_327) mn_327 mk_327 rfl rfl (am_ok_s mi_327 (am_hl rfl (am_ccL (am_ccL (am_ccL am_cats_0))) rfl)) (am_hc am_cats_0 rfl) (fun hz9 => by cases hz9) (fun o1 hz9 => rm_327 ((Int32.toInt64 x1)) 0 4 h o1  hz9) ?_
      rcases am_cI_s hs with ⟨v16, h17, f18, hs4⟩ | hs4
      · clear hs
        refine Or.inl ⟨_, _, f18, ?_⟩
        show am_W X _ 437 32 _ [(.int v16)] h17 _
        refine aw_goto at_437_32 ?_
        exact rg_437_91 v16 h17 o   hs4
      · clear hs
        exact Or.inr hs4
  · rw [if_neg c1] at hs
    refine aw_ifne_f (pc1 := 4) at_437_1 c1 rfl ?_
    refine aw_iload_n (pc1 := 5) at_437_4 l1 rfl ?_
    refine aw_i2l (v := (Int32.toInt64 x1)) (pc1 := 6) at_437_5 rfl rfl ?_
    refine aw_ldc2 (v := 10) (pc1 := 9) at_437_6 rfl rfl ?_
    refine aw_ldc2 (v := 2000) (pc1 := 12) at_437_9 rfl rfl ?_
    refine aw_call (F := fm_327 ((Int32.toInt64 x1)) 10 2000 h) (t := false) (na := 3) (kd := 0) (as := [(.long (Int32.toInt64 x1)), (.long 10), (.long 2000)]) at_437_12 (am_k3s kb_327) mn_327 mk_327 rfl rfl (am_ok_s mi_327 (am_hl rfl (am_ccL (am_ccL (am_ccL am_cats_0))) rfl)) (am_hc am_cats_0 rfl) (fun hz9 => by cases hz9) (fun o1 hz9 => rm_327 ((Int32.toInt64 x1)) 10 2000 h o1  hz9) ?_
    rcases am_cI_s hs with ⟨v19, h20, f21, hs5⟩ | hs5
    · clear hs
      refine Or.inl ⟨_, _, f21, ?_⟩
      show am_W X _ 437 15 _ [(.int v19)] h20 _
      refine aw_goto at_437_15 ?_
      exact rg_437_91 v19 h20 o   hs5
    · clear hs
      exact Or.inr hs5
def fm_437 (y0 : Int32) (y1 : Int32) (h : am_H) : Option am_O := fg_437_0 y0 y1 h
theorem rm_437 {X : am_X} {d : Nat} (y0 : Int32) (y1 : Int32) (h : am_H) (o : am_O) (hs : fm_437 y0 y1 h = some o) : am_W X (d + 1) 437 0 (am_args 0 [.int y0, .int y1]) [] h (fun q => q = o) := by
  rw [am_args_I, am_args_I]
  exact rg_437_0 y0 y1 h o rfl rfl  hs
def fg_436_14 (x0 : Value) (x1 : Int32) (x2 : Int32) (s0 : Value) (s1 : Int32) (h : am_H) : Option am_O := ((am_pP 3072 s0 (.int s1) h).bind fun h1 => ((am_vI (am_pG 3072 x0 h1)).bind fun v3 => (if v3 ≤ 0 then ((am_vR (am_pG 3114 x0 h1)).bind fun v6 => ((am_pA 0 v6 x1 h1).bind fun v8 => ((am_vR (am_pG 3114 x0 h1)).bind fun v10 => ((am_pS 0 v10 x1 x2 h1).bind fun h12 => some (.inl (some (.int v8), h12)))))) else some (.inl (some (.int 0), h1)))))
theorem rg_436_14 {X : am_X} {d : Nat} {lv : am_LV} (x0 : Value) (x1 : Int32) (x2 : Int32) (s0 : Value) (s1 : Int32) (h : am_H) (o : am_O) (l0 : lv.lookup 0 = some x0) (l1 : lv.lookup 1 = some (.int x1)) (l2 : lv.lookup 2 = some (.int x2)) (i0 : am_isR x0 = true) (j0 : am_isR s0 = true) (hs : fg_436_14 x0 x1 x2 s0 s1 h = some o) : am_W X (d + 2) 436 14 lv [(.int s1), s0] h (fun q => q = o) := by
  unfold fg_436_14 at hs
  obtain ⟨h1, e2, hs1⟩ := am_bind hs
  clear hs
  refine aw_pP (pc1 := 17) at_436_14 e2 rfl ?_
  refine aw_vload_n (pc1 := 18) at_436_17 l0 i0 rfl ?_
  obtain ⟨v3, e4, hs2⟩ := am_bind hs1
  clear hs1
  refine aw_pG (pc1 := 21) at_436_18 (am_vI_s e4) rfl ?_
  by_cases c5 : v3 ≤ 0
  · rw [if_pos c5] at hs2
    refine aw_ifle_t at_436_21 c5 ?_
    refine aw_vload_n (pc1 := 27) at_436_26 l0 i0 rfl ?_
    obtain ⟨v6, e7, hs3⟩ := am_bind hs2
    clear hs2
    refine aw_pG (pc1 := 30) at_436_27 (am_vR_s e7).1 rfl ?_
    refine aw_iload_n (pc1 := 31) at_436_30 l1 rfl ?_
    obtain ⟨v8, e9, hs4⟩ := am_bind hs3
    clear hs3
    refine aw_pA (pc1 := 32) at_436_31 (Or.inl ⟨rfl, rfl⟩) e9 rfl ?_
    refine aw_istore_n (lv1 := am_put1 _ 3 _) (pc1 := 33) at_436_32 rfl rfl ?_
    refine aw_vload_n (pc1 := 34) at_436_33 (am_lk1 l0 rfl rfl) i0 rfl ?_
    obtain ⟨v10, e11, hs5⟩ := am_bind hs4
    clear hs4
    refine aw_pG (pc1 := 37) at_436_34 (am_vR_s e11).1 rfl ?_
    refine aw_iload_n (pc1 := 38) at_436_37 (am_lk1 l1 rfl rfl) rfl ?_
    refine aw_iload_n (pc1 := 39) at_436_38 (am_lk1 l2 rfl rfl) rfl ?_
    obtain ⟨h12, e13, hs6⟩ := am_bind hs5
    clear hs5
    refine aw_pS (pc1 := 40) at_436_39 (Or.inl ⟨rfl, rfl⟩) e13 rfl ?_
    refine aw_iload_n (pc1 := 41) at_436_40 am_lk0 rfl ?_
    cases hs6
    exact aw_iret at_436_41 (by rw [rt_436]; rfl) rfl
  · rw [if_neg c5] at hs2
    refine aw_ifle_f (pc1 := 24) at_436_21 c5 rfl ?_
    refine aw_iconst (v := 0) (pc1 := 25) at_436_24 (by decide) rfl ?_
    cases hs2
    exact aw_iret at_436_25 (by rw [rt_436]; rfl) rfl
def fg_436_0 (x0 : Value) (x1 : Int32) (x2 : Int32) (h : am_H) : Option am_O := am_cI false (fm_437 x1 x2 h) (fun v1 h2 => (if v1 = 0 then (fg_436_14 x0 x1 x2 x0 1 h2) else (fg_436_14 x0 x1 x2 x0 0 h2)))
theorem rg_436_0 {X : am_X} {d : Nat} {lv : am_LV} (x0 : Value) (x1 : Int32) (x2 : Int32) (h : am_H) (o : am_O) (l0 : lv.lookup 0 = some x0) (l1 : lv.lookup 1 = some (.int x1)) (l2 : lv.lookup 2 = some (.int x2)) (i0 : am_isR x0 = true) (hs : fg_436_0 x0 x1 x2 h = some o) : am_W X (d + 2) 436 0 lv [] h (fun q => q = o) := by
  unfold fg_436_0 at hs
  refine aw_vload_n (pc1 := 1) at_436_0 l0 i0 rfl ?_
  refine aw_iload_n (pc1 := 2) at_436_1 l1 rfl ?_
  refine aw_iload_n (pc1 := 3) at_436_2 l2 rfl ?_
  refine aw_call (F := fm_437 x1 x2 h) (t := false) (na := 2) (kd := 0) (as := [(.int x1), (.int x2)]) at_436_3 (am_k3s kb_437) mn_437 mk_437 rfl rfl (am_ok_s mi_437 (am_hl rfl (am_ccI (am_ccI am_cats_0)) rfl)) (am_hc (am_ccR i0 am_cats_0) rfl) (fun hz9 => by cases hz9) (fun o1 hz9 => rm_437 x1 x2 h o1  hz9) ?_
  rcases am_cI_s hs with ⟨v1, h2, f3, hs1⟩ | hs1
  · clear hs
    refine Or.inl ⟨_, _, f3, ?_⟩
    show am_W X _ 436 6 _ [(.int v1), x0] h2 _
    by_cases c4 : v1 = 0
    · rw [if_pos c4] at hs1
      refine aw_ifeq_t at_436_6 c4 ?_
      refine aw_iconst (v := 1) (pc1 := 14) at_436_13 (by decide) rfl ?_
      exact rg_436_14 x0 x1 x2 x0 1 h2 o l0 l1 l2 i0 i0 hs1
    · rw [if_neg c4] at hs1
      refine aw_ifeq_f (pc1 := 9) at_436_6 c4 rfl ?_
      refine aw_iconst (v := 0) (pc1 := 10) at_436_9 (by decide) rfl ?_
      refine aw_goto at_436_10 ?_
      exact rg_436_14 x0 x1 x2 x0 0 h2 o l0 l1 l2 i0 i0 hs1
  · clear hs
    exact Or.inr hs1
def fm_436 (y0 : Value) (y1 : Int32) (y2 : Int32) (h : am_H) : Option am_O := fg_436_0 y0 y1 y2 h
theorem rm_436 {X : am_X} {d : Nat} (y0 : Value) (y1 : Int32) (y2 : Int32) (h : am_H) (o : am_O) (i0 : am_isR y0 = true) (hs : fm_436 y0 y1 y2 h = some o) : am_W X (d + 2) 436 0 (am_args 0 [y0, .int y1, .int y2]) [] h (fun q => q = o) := by
  rw [am_args_R i0, am_args_I, am_args_I]
  exact rg_436_0 y0 y1 y2 h o rfl rfl rfl i0 hs
def fg_158_9 (h : am_H) : Option am_O := some (.inr (0, h ++ [am_dummy]))
theorem rg_158_9 {X : am_X} {d : Nat} {lv : am_LV} (h : am_H) (o : am_O) (hs : fg_158_9 h = some o) : am_W X (d) 158 9 lv [] h (fun q => q = o) := by
  unfold fg_158_9 at hs
  cases hs
  exact aw_throw at_158_9 rfl th_158_9 (am_hc am_cats_0 rfl) rfl
def fg_158_0 (x1 : Int32) (h : am_H) : Option am_O := (if x1 < 0 then (fg_158_9 h) else (if x1 < 4 then some (.inl (none, h)) else (fg_158_9 h)))
theorem rg_158_0 {X : am_X} {d : Nat} {lv : am_LV} (x1 : Int32) (h : am_H) (o : am_O) (l1 : lv.lookup 1 = some (.int x1)) (hs : fg_158_0 x1 h = some o) : am_W X (d) 158 0 lv [] h (fun q => q = o) := by
  unfold fg_158_0 at hs
  refine aw_iload_n (pc1 := 1) at_158_0 l1 rfl ?_
  by_cases c1 : x1 < 0
  · rw [if_pos c1] at hs
    refine aw_iflt_t at_158_1 c1 ?_
    exact rg_158_9 h o   hs
  · rw [if_neg c1] at hs
    refine aw_iflt_f (pc1 := 4) at_158_1 c1 rfl ?_
    refine aw_iload_n (pc1 := 5) at_158_4 l1 rfl ?_
    refine aw_iconst (v := 4) (pc1 := 6) at_158_5 (by decide) rfl ?_
    by_cases c2 : x1 < 4
    · rw [if_pos c2] at hs
      refine aw_iclt_t at_158_6 c2 ?_
      cases hs
      exact aw_vret at_158_20 rt_158 rfl
    · rw [if_neg c2] at hs
      refine aw_iclt_f (pc1 := 9) at_158_6 c2 rfl ?_
      exact rg_158_9 h o   hs
def fm_158 (y0 : Value) (y1 : Int32) (h : am_H) : Option am_O := fg_158_0 y1 h
theorem rm_158 {X : am_X} {d : Nat} (y0 : Value) (y1 : Int32) (h : am_H) (o : am_O) (i0 : am_isR y0 = true) (hs : fm_158 y0 y1 h = some o) : am_W X (d) 158 0 (am_args 0 [y0, .int y1]) [] h (fun q => q = o) := by
  rw [am_args_R i0, am_args_I]
  exact rg_158_0 y1 h o rfl  hs
def fg_160_229 (s0 : Int32) (h : am_H) : Option am_O := some (.inl (some (.int s0), h))
theorem rg_160_229 {X : am_X} {d : Nat} {lv : am_LV} (s0 : Int32) (h : am_H) (o : am_O) (hs : fg_160_229 s0 h = some o) : am_W X (d) 160 229 lv [(.int s0)] h (fun q => q = o) := by
  unfold fg_160_229 at hs
  cases hs
  exact aw_iret at_160_229 (by rw [rt_160]; rfl) rfl
def fg_160_216 (x1 : Int32) (x2 : Int32) (h : am_H) : Option am_O := (if ¬ x1 = 0 then (fg_160_229 ((x2 - 1)) h) else (fg_160_229 ((5 * x2)) h))
theorem rg_160_216 {X : am_X} {d : Nat} {lv : am_LV} (x1 : Int32) (x2 : Int32) (h : am_H) (o : am_O) (l1 : lv.lookup 1 = some (.int x1)) (l2 : lv.lookup 2 = some (.int x2)) (hs : fg_160_216 x1 x2 h = some o) : am_W X (d) 160 216 lv [] h (fun q => q = o) := by
  unfold fg_160_216 at hs
  refine aw_iload_n (pc1 := 217) at_160_216 l1 rfl ?_
  by_cases c1 : ¬ x1 = 0
  · rw [if_pos c1] at hs
    refine aw_ifne_t at_160_217 c1 ?_
    refine aw_iload_n (pc1 := 227) at_160_226 l2 rfl ?_
    refine aw_iconst (v := 1) (pc1 := 228) at_160_227 (by decide) rfl ?_
    refine aw_isub (v := (x2 - 1)) (pc1 := 229) at_160_228 rfl rfl ?_
    exact rg_160_229 ((x2 - 1)) h o   hs
  · rw [if_neg c1] at hs
    refine aw_ifne_f (pc1 := 220) at_160_217 c1 rfl ?_
    refine aw_iconst (v := 5) (pc1 := 221) at_160_220 (by decide) rfl ?_
    refine aw_iload_n (pc1 := 222) at_160_221 l2 rfl ?_
    refine aw_imul (v := (5 * x2)) (pc1 := 223) at_160_222 rfl rfl ?_
    refine aw_goto at_160_223 ?_
    exact rg_160_229 ((5 * x2)) h o   hs
def fg_160_215 (s0 : Int32) (h : am_H) : Option am_O := some (.inl (some (.int s0), h))
theorem rg_160_215 {X : am_X} {d : Nat} {lv : am_LV} (s0 : Int32) (h : am_H) (o : am_O) (hs : fg_160_215 s0 h = some o) : am_W X (d) 160 215 lv [(.int s0)] h (fun q => q = o) := by
  unfold fg_160_215 at hs
  cases hs
  exact aw_iret at_160_215 (by rw [rt_160]; rfl) rfl
def fg_160_187 (s0 : Int32) (h : am_H) : Option am_O := some (.inl (some (.int s0), h))
theorem rg_160_187 {X : am_X} {d : Nat} {lv : am_LV} (s0 : Int32) (h : am_H) (o : am_O) (hs : fg_160_187 s0 h = some o) : am_W X (d) 160 187 lv [(.int s0)] h (fun q => q = o) := by
  unfold fg_160_187 at hs
  cases hs
  exact aw_iret at_160_187 (by rw [rt_160]; rfl) rfl
def fg_160_153 (x2 : Int32) (h : am_H) : Option am_O := some (.inl (some (.int (3 * x2)), h))
theorem rg_160_153 {X : am_X} {d : Nat} {lv : am_LV} (x2 : Int32) (h : am_H) (o : am_O) (l2 : lv.lookup 2 = some (.int x2)) (hs : fg_160_153 x2 h = some o) : am_W X (d) 160 153 lv [] h (fun q => q = o) := by
  unfold fg_160_153 at hs
  refine aw_iconst (v := 3) (pc1 := 154) at_160_153 (by decide) rfl ?_
  refine aw_iload_n (pc1 := 155) at_160_154 l2 rfl ?_
  refine aw_imul (v := (3 * x2)) (pc1 := 156) at_160_155 rfl rfl ?_
  cases hs
  exact aw_iret at_160_156 (by rw [rt_160]; rfl) rfl
def fg_160_58 (x0 : Value) (x1 : Int32) (x2 : Int32) (s0 : Value) (s1 : Int32) (h : am_H) : Option am_O := ((am_pP 8 s0 (.int s1) h).bind fun h1 => ((am_vI (am_pG 7 x0 h1)).bind fun v3 => (if v3 = 1 then some (.inl (some (.int (21 * x2)), h1)) else (if v3 = 2 then (fg_160_153 x2 h1) else (if v3 = 3 then (fg_160_153 x2 h1) else (if v3 = 6 then some (.inl (some (.int (14 * x2)), h1)) else (if v3 = 7 then (fg_160_153 x2 h1) else (if v3 = 8 then some (.inl (some (.int (5 * (x2 + 1))), h1)) else (if v3 = 11 then some (.inl (some (.int ((4 * x2) * x2)), h1)) else (if v3 = 12 then (if 6 ≤ x2 then (fg_160_187 0 h1) else (fg_160_187 ((4 * x2)) h1)) else (if v3 = 15 then ((am_vI (am_pG 8 x0 h1)).bind fun v15 => some (.inl (some (.int (x2 * v15)), h1))) else (if v3 = 16 then some (.inl (some (.int x2), h1)) else (if v3 = 17 then (if 40 ≤ x2 then (fg_160_215 0 h1) else ((am_vI (am_pG 8 x0 h1)).bind fun v20 => (fg_160_215 (((x2 + 1) * v20)) h1))) else (fg_160_216 x1 x2 h1))))))))))))))
theorem rg_160_58 {X : am_X} {d : Nat} {lv : am_LV} (x0 : Value) (x1 : Int32) (x2 : Int32) (s0 : Value) (s1 : Int32) (h : am_H) (o : am_O) (l0 : lv.lookup 0 = some x0) (l1 : lv.lookup 1 = some (.int x1)) (l2 : lv.lookup 2 = some (.int x2)) (i0 : am_isR x0 = true) (j0 : am_isR s0 = true) (hs : fg_160_58 x0 x1 x2 s0 s1 h = some o) : am_W X (d) 160 58 lv [(.int s1), s0] h (fun q => q = o) := by
  unfold fg_160_58 at hs
  obtain ⟨h1, e2, hs1⟩ := am_bind hs
  clear hs
  refine aw_pP (pc1 := 61) at_160_58 e2 rfl ?_
  refine aw_vload_n (pc1 := 62) at_160_61 l0 i0 rfl ?_
  obtain ⟨v3, e4, hs2⟩ := am_bind hs1
  clear hs1
  refine aw_pG (pc1 := 65) at_160_62 (am_vI_s e4) rfl ?_
  by_cases c5 : v3 = 1
  · rw [if_pos c5] at hs2
    refine aw_tsw (t := 148) at_160_65 (by rw [c5]; rfl) ?_
    refine aw_bipush (v := 21) (pc1 := 150) at_160_148 (by decide) rfl ?_
    refine aw_iload_n (pc1 := 151) at_160_150 l2 rfl ?_
    refine aw_imul (v := (21 * x2)) (pc1 := 152) at_160_151 rfl rfl ?_
    cases hs2
    exact aw_iret at_160_152 (by rw [rt_160]; rfl) rfl
  · rw [if_neg c5] at hs2
    by_cases c6 : v3 = 2
    · rw [if_pos c6] at hs2
      refine aw_tsw (t := 153) at_160_65 (by rw [c6]; rfl) ?_
      exact rg_160_153 x2 h1 o l2  hs2
    · rw [if_neg c6] at hs2
      by_cases c7 : v3 = 3
      · rw [if_pos c7] at hs2
        refine aw_tsw (t := 153) at_160_65 (by rw [c7]; rfl) ?_
        exact rg_160_153 x2 h1 o l2  hs2
      · rw [if_neg c7] at hs2
        by_cases c8 : v3 = 6
        · rw [if_pos c8] at hs2
          refine aw_tsw (t := 157) at_160_65 (by rw [c8]; rfl) ?_
          refine aw_bipush (v := 14) (pc1 := 159) at_160_157 (by decide) rfl ?_
          refine aw_iload_n (pc1 := 160) at_160_159 l2 rfl ?_
          refine aw_imul (v := (14 * x2)) (pc1 := 161) at_160_160 rfl rfl ?_
          cases hs2
          exact aw_iret at_160_161 (by rw [rt_160]; rfl) rfl
        · rw [if_neg c8] at hs2
          by_cases c9 : v3 = 7
          · rw [if_pos c9] at hs2
            refine aw_tsw (t := 153) at_160_65 (by rw [c9]; rfl) ?_
            exact rg_160_153 x2 h1 o l2  hs2
          · rw [if_neg c9] at hs2
            by_cases c10 : v3 = 8
            · rw [if_pos c10] at hs2
              refine aw_tsw (t := 162) at_160_65 (by rw [c10]; rfl) ?_
              refine aw_iconst (v := 5) (pc1 := 163) at_160_162 (by decide) rfl ?_
              refine aw_iload_n (pc1 := 164) at_160_163 l2 rfl ?_
              refine aw_iconst (v := 1) (pc1 := 165) at_160_164 (by decide) rfl ?_
              refine aw_iadd (v := (x2 + 1)) (pc1 := 166) at_160_165 rfl rfl ?_
              refine aw_imul (v := (5 * (x2 + 1))) (pc1 := 167) at_160_166 rfl rfl ?_
              cases hs2
              exact aw_iret at_160_167 (by rw [rt_160]; rfl) rfl
            · rw [if_neg c10] at hs2
              by_cases c11 : v3 = 11
              · rw [if_pos c11] at hs2
                refine aw_tsw (t := 168) at_160_65 (by rw [c11]; rfl) ?_
                refine aw_iconst (v := 4) (pc1 := 169) at_160_168 (by decide) rfl ?_
                refine aw_iload_n (pc1 := 170) at_160_169 l2 rfl ?_
                refine aw_imul (v := (4 * x2)) (pc1 := 171) at_160_170 rfl rfl ?_
                refine aw_iload_n (pc1 := 172) at_160_171 l2 rfl ?_
                refine aw_imul (v := ((4 * x2) * x2)) (pc1 := 173) at_160_172 rfl rfl ?_
                cases hs2
                exact aw_iret at_160_173 (by rw [rt_160]; rfl) rfl
              · rw [if_neg c11] at hs2
                by_cases c12 : v3 = 12
                · rw [if_pos c12] at hs2
                  refine aw_tsw (t := 174) at_160_65 (by rw [c12]; rfl) ?_
                  refine aw_iload_n (pc1 := 175) at_160_174 l2 rfl ?_
                  refine aw_bipush (v := 6) (pc1 := 177) at_160_175 (by decide) rfl ?_
                  by_cases c13 : 6 ≤ x2
                  · rw [if_pos c13] at hs2
                    refine aw_icge_t at_160_177 c13 ?_
                    refine aw_iconst (v := 0) (pc1 := 187) at_160_186 (by decide) rfl ?_
                    exact rg_160_187 0 h1 o   hs2
                  · rw [if_neg c13] at hs2
                    refine aw_icge_f (pc1 := 180) at_160_177 c13 rfl ?_
                    refine aw_iconst (v := 4) (pc1 := 181) at_160_180 (by decide) rfl ?_
                    refine aw_iload_n (pc1 := 182) at_160_181 l2 rfl ?_
                    refine aw_imul (v := (4 * x2)) (pc1 := 183) at_160_182 rfl rfl ?_
                    refine aw_goto at_160_183 ?_
                    exact rg_160_187 ((4 * x2)) h1 o   hs2
                · rw [if_neg c12] at hs2
                  by_cases c14 : v3 = 15
                  · rw [if_pos c14] at hs2
                    refine aw_tsw (t := 188) at_160_65 (by rw [c14]; rfl) ?_
                    refine aw_iload_n (pc1 := 189) at_160_188 l2 rfl ?_
                    refine aw_vload_n (pc1 := 190) at_160_189 l0 i0 rfl ?_
                    obtain ⟨v15, e16, hs3⟩ := am_bind hs2
                    clear hs2
                    refine aw_pG (pc1 := 193) at_160_190 (am_vI_s e16) rfl ?_
                    refine aw_imul (v := (x2 * v15)) (pc1 := 194) at_160_193 rfl rfl ?_
                    cases hs3
                    exact aw_iret at_160_194 (by rw [rt_160]; rfl) rfl
                  · rw [if_neg c14] at hs2
                    by_cases c17 : v3 = 16
                    · rw [if_pos c17] at hs2
                      refine aw_tsw (t := 195) at_160_65 (by rw [c17]; rfl) ?_
                      refine aw_iload_n (pc1 := 196) at_160_195 l2 rfl ?_
                      cases hs2
                      exact aw_iret at_160_196 (by rw [rt_160]; rfl) rfl
                    · rw [if_neg c17] at hs2
                      by_cases c18 : v3 = 17
                      · rw [if_pos c18] at hs2
                        refine aw_tsw (t := 197) at_160_65 (by rw [c18]; rfl) ?_
                        refine aw_iload_n (pc1 := 198) at_160_197 l2 rfl ?_
                        refine aw_bipush (v := 40) (pc1 := 200) at_160_198 (by decide) rfl ?_
                        by_cases c19 : 40 ≤ x2
                        · rw [if_pos c19] at hs2
                          refine aw_icge_t at_160_200 c19 ?_
                          refine aw_iconst (v := 0) (pc1 := 215) at_160_214 (by decide) rfl ?_
                          exact rg_160_215 0 h1 o   hs2
                        · rw [if_neg c19] at hs2
                          refine aw_icge_f (pc1 := 203) at_160_200 c19 rfl ?_
                          refine aw_iload_n (pc1 := 204) at_160_203 l2 rfl ?_
                          refine aw_iconst (v := 1) (pc1 := 205) at_160_204 (by decide) rfl ?_
                          refine aw_iadd (v := (x2 + 1)) (pc1 := 206) at_160_205 rfl rfl ?_
                          refine aw_vload_n (pc1 := 207) at_160_206 l0 i0 rfl ?_
                          obtain ⟨v20, e21, hs4⟩ := am_bind hs2
                          clear hs2
                          refine aw_pG (pc1 := 210) at_160_207 (am_vI_s e21) rfl ?_
                          refine aw_imul (v := ((x2 + 1) * v20)) (pc1 := 211) at_160_210 rfl rfl ?_
                          refine aw_goto at_160_211 ?_
                          exact rg_160_215 (((x2 + 1) * v20)) h1 o   hs4
                      · rw [if_neg c18] at hs2
                        have tc5 : v3.toInt ≠ 1 := fun e9 => c5 (Int32.toInt_inj.mp e9)
                        have tc6 : v3.toInt ≠ 2 := fun e9 => c6 (Int32.toInt_inj.mp e9)
                        have tc7 : v3.toInt ≠ 3 := fun e9 => c7 (Int32.toInt_inj.mp e9)
                        have tc8 : v3.toInt ≠ 6 := fun e9 => c8 (Int32.toInt_inj.mp e9)
                        have tc9 : v3.toInt ≠ 7 := fun e9 => c9 (Int32.toInt_inj.mp e9)
                        have tc10 : v3.toInt ≠ 8 := fun e9 => c10 (Int32.toInt_inj.mp e9)
                        have tc11 : v3.toInt ≠ 11 := fun e9 => c11 (Int32.toInt_inj.mp e9)
                        have tc12 : v3.toInt ≠ 12 := fun e9 => c12 (Int32.toInt_inj.mp e9)
                        have tc14 : v3.toInt ≠ 15 := fun e9 => c14 (Int32.toInt_inj.mp e9)
                        have tc17 : v3.toInt ≠ 16 := fun e9 => c17 (Int32.toInt_inj.mp e9)
                        have tc18 : v3.toInt ≠ 17 := fun e9 => c18 (Int32.toInt_inj.mp e9)
                        have hw : (v3.toInt < 1 ∨ 17 < v3.toInt) ∨ v3.toInt = 4 ∨ v3.toInt = 5 ∨ v3.toInt = 9 ∨ v3.toInt = 10 ∨ v3.toInt = 13 ∨ v3.toInt = 14 := by omega
                        refine aw_tsw (t := 216) at_160_65 ?_ ?_
                        · rcases hw with hw | hw | hw | hw | hw | hw | hw
                          · exact am_tsw_d hw
                          · rw [show v3 = 4 from Int32.toInt_inj.mp hw]; rfl
                          · rw [show v3 = 5 from Int32.toInt_inj.mp hw]; rfl
                          · rw [show v3 = 9 from Int32.toInt_inj.mp hw]; rfl
                          · rw [show v3 = 10 from Int32.toInt_inj.mp hw]; rfl
                          · rw [show v3 = 13 from Int32.toInt_inj.mp hw]; rfl
                          · rw [show v3 = 14 from Int32.toInt_inj.mp hw]; rfl
                        exact rg_160_216 x1 x2 h1 o l1 l2  hs2
def fg_160_0 (x0 : Value) (x1 : Int32) (h : am_H) : Option am_O := ((am_vR (am_pG 5 x0 h)).bind fun v1 => ((am_vI (am_pG 771 v1 h)).bind fun v3 => ((am_vR (am_pG 5 x0 h)).bind fun v5 => ((am_vI (am_pG 769 v5 h)).bind fun v7 => (if ¬ v7 = 2 then ((am_vR (am_pG 5 x0 h)).bind fun v10 => ((am_vI (am_pG 769 v10 h)).bind fun v12 => (if ¬ v12 = 3 then (fg_160_58 x0 x1 v3 x0 1 h) else ((am_vR (am_pG 5 x0 h)).bind fun v15 => ((am_vI (am_pG 770 v15 h)).bind fun v17 => ((am_vR (am_pG 5 x0 h)).bind fun v19 => ((am_vI (am_pG 770 v19 h)).bind fun v21 => (fg_160_58 x0 x1 v3 x0 (((v17 * (v21 - 1)) / 2)) h)))))))) else (fg_160_58 x0 x1 v3 x0 v3 h))))))
theorem rg_160_0 {X : am_X} {d : Nat} {lv : am_LV} (x0 : Value) (x1 : Int32) (h : am_H) (o : am_O) (l0 : lv.lookup 0 = some x0) (l1 : lv.lookup 1 = some (.int x1)) (i0 : am_isR x0 = true) (hs : fg_160_0 x0 x1 h = some o) : am_W X (d) 160 0 lv [] h (fun q => q = o) := by
  unfold fg_160_0 at hs
  refine aw_vload_n (pc1 := 1) at_160_0 l0 i0 rfl ?_
  obtain ⟨v1, e2, hs1⟩ := am_bind hs
  clear hs
  refine aw_pG (pc1 := 4) at_160_1 (am_vR_s e2).1 rfl ?_
  obtain ⟨v3, e4, hs2⟩ := am_bind hs1
  clear hs1
  refine aw_pG (pc1 := 7) at_160_4 (am_vI_s e4) rfl ?_
  refine aw_istore_n (lv1 := am_put1 _ 2 _) (pc1 := 8) at_160_7 rfl rfl ?_
  refine aw_vload_n (pc1 := 9) at_160_8 (am_lk1 l0 rfl rfl) i0 rfl ?_
  refine aw_vload_n (pc1 := 10) at_160_9 (am_lk1 l0 rfl rfl) i0 rfl ?_
  obtain ⟨v5, e6, hs3⟩ := am_bind hs2
  clear hs2
  refine aw_pG (pc1 := 13) at_160_10 (am_vR_s e6).1 rfl ?_
  obtain ⟨v7, e8, hs4⟩ := am_bind hs3
  clear hs3
  refine aw_pG (pc1 := 16) at_160_13 (am_vI_s e8) rfl ?_
  refine aw_iconst (v := 2) (pc1 := 17) at_160_16 (by decide) rfl ?_
  by_cases c9 : ¬ v7 = 2
  · rw [if_pos c9] at hs4
    refine aw_icne_t at_160_17 c9 ?_
    refine aw_vload_n (pc1 := 25) at_160_24 (am_lk1 l0 rfl rfl) i0 rfl ?_
    obtain ⟨v10, e11, hs5⟩ := am_bind hs4
    clear hs4
    refine aw_pG (pc1 := 28) at_160_25 (am_vR_s e11).1 rfl ?_
    obtain ⟨v12, e13, hs6⟩ := am_bind hs5
    clear hs5
    refine aw_pG (pc1 := 31) at_160_28 (am_vI_s e13) rfl ?_
    refine aw_iconst (v := 3) (pc1 := 32) at_160_31 (by decide) rfl ?_
    by_cases c14 : ¬ v12 = 3
    · rw [if_pos c14] at hs6
      refine aw_icne_t at_160_32 c14 ?_
      refine aw_iconst (v := 1) (pc1 := 58) at_160_57 (by decide) rfl ?_
      exact rg_160_58 x0 x1 v3 x0 1 h o (am_lk1 l0 rfl rfl) (am_lk1 l1 rfl rfl) am_lk0 i0 i0 hs6
    · rw [if_neg c14] at hs6
      refine aw_icne_f (pc1 := 35) at_160_32 c14 rfl ?_
      refine aw_vload_n (pc1 := 36) at_160_35 (am_lk1 l0 rfl rfl) i0 rfl ?_
      obtain ⟨v15, e16, hs7⟩ := am_bind hs6
      clear hs6
      refine aw_pG (pc1 := 39) at_160_36 (am_vR_s e16).1 rfl ?_
      obtain ⟨v17, e18, hs8⟩ := am_bind hs7
      clear hs7
      refine aw_pG (pc1 := 42) at_160_39 (am_vI_s e18) rfl ?_
      refine aw_vload_n (pc1 := 43) at_160_42 (am_lk1 l0 rfl rfl) i0 rfl ?_
      obtain ⟨v19, e20, hs9⟩ := am_bind hs8
      clear hs8
      refine aw_pG (pc1 := 46) at_160_43 (am_vR_s e20).1 rfl ?_
      obtain ⟨v21, e22, hs10⟩ := am_bind hs9
      clear hs9
      refine aw_pG (pc1 := 49) at_160_46 (am_vI_s e22) rfl ?_
      refine aw_iconst (v := 1) (pc1 := 50) at_160_49 (by decide) rfl ?_
      refine aw_isub (v := (v21 - 1)) (pc1 := 51) at_160_50 rfl rfl ?_
      refine aw_imul (v := (v17 * (v21 - 1))) (pc1 := 52) at_160_51 rfl rfl ?_
      refine aw_iconst (v := 2) (pc1 := 53) at_160_52 (by decide) rfl ?_
      refine aw_idiv (v := ((v17 * (v21 - 1)) / 2)) (pc1 := 54) at_160_53 (by decide) rfl rfl ?_
      refine aw_goto at_160_54 ?_
      exact rg_160_58 x0 x1 v3 x0 (((v17 * (v21 - 1)) / 2)) h o (am_lk1 l0 rfl rfl) (am_lk1 l1 rfl rfl) am_lk0 i0 i0 hs10
  · rw [if_neg c9] at hs4
    refine aw_icne_f (pc1 := 20) at_160_17 c9 rfl ?_
    refine aw_iload_n (pc1 := 21) at_160_20 am_lk0 rfl ?_
    refine aw_goto at_160_21 ?_
    exact rg_160_58 x0 x1 v3 x0 v3 h o (am_lk1 l0 rfl rfl) (am_lk1 l1 rfl rfl) am_lk0 i0 i0 hs4
def fm_160 (y0 : Value) (y1 : Int32) (h : am_H) : Option am_O := fg_160_0 y0 y1 h
theorem rm_160 {X : am_X} {d : Nat} (y0 : Value) (y1 : Int32) (h : am_H) (o : am_O) (i0 : am_isR y0 = true) (hs : fm_160 y0 y1 h = some o) : am_W X (d) 160 0 (am_args 0 [y0, .int y1]) [] h (fun q => q = o) := by
  rw [am_args_R i0, am_args_I]
  exact rg_160_0 y0 y1 h o rfl rfl i0 hs
def fg_161_161 (s0 : Int32) (h : am_H) : Option am_O := some (.inl (some (.int s0), h))
theorem rg_161_161 {X : am_X} {d : Nat} {lv : am_LV} (s0 : Int32) (h : am_H) (o : am_O) (hs : fg_161_161 s0 h = some o) : am_W X (d) 161 161 lv [(.int s0)] h (fun q => q = o) := by
  unfold fg_161_161 at hs
  cases hs
  exact aw_iret at_161_161 (by rw [rt_161]; rfl) rfl
def fg_161_94 (x0 : Value) (s0 : Value) (s1 : Int32) (h : am_H) : Option am_O := ((am_pP 8 s0 (.int s1) h).bind fun h1 => ((am_vR (am_pG 5 x0 h1)).bind fun v3 => ((am_vI (am_pG 769 v3 h1)).bind fun v5 => (if ¬ v5 = 2 then ((am_vR (am_pG 5 x0 h1)).bind fun v8 => ((am_vI (am_pG 769 v8 h1)).bind fun v10 => (if ¬ v10 = 0 then ((am_vR (am_pG 5 x0 h1)).bind fun v13 => ((am_vI (am_pG 771 v13 h1)).bind fun v15 => ((am_vI (am_pG 8 x0 h1)).bind fun v17 => (fg_161_161 (((v15 + 1) * v17)) h1)))) else ((am_vR (am_pG 5 x0 h1)).bind fun v19 => ((am_vI (am_pG 771 v19 h1)).bind fun v21 => ((am_vI (am_pG 8 x0 h1)).bind fun v23 => (fg_161_161 ((v21 * v23)) h1))))))) else ((am_vR (am_pG 5 x0 h1)).bind fun v25 => ((am_vI (am_pG 771 v25 h1)).bind fun v27 => (fg_161_161 (((1 <<< (v27 &&& 31)) - 2)) h1)))))))
theorem rg_161_94 {X : am_X} {d : Nat} {lv : am_LV} (x0 : Value) (s0 : Value) (s1 : Int32) (h : am_H) (o : am_O) (l0 : lv.lookup 0 = some x0) (i0 : am_isR x0 = true) (j0 : am_isR s0 = true) (hs : fg_161_94 x0 s0 s1 h = some o) : am_W X (d) 161 94 lv [(.int s1), s0] h (fun q => q = o) := by
  unfold fg_161_94 at hs
  obtain ⟨h1, e2, hs1⟩ := am_bind hs
  clear hs
  refine aw_pP (pc1 := 97) at_161_94 e2 rfl ?_
  refine aw_vload_n (pc1 := 98) at_161_97 l0 i0 rfl ?_
  obtain ⟨v3, e4, hs2⟩ := am_bind hs1
  clear hs1
  refine aw_pG (pc1 := 101) at_161_98 (am_vR_s e4).1 rfl ?_
  obtain ⟨v5, e6, hs3⟩ := am_bind hs2
  clear hs2
  refine aw_pG (pc1 := 104) at_161_101 (am_vI_s e6) rfl ?_
  refine aw_iconst (v := 2) (pc1 := 105) at_161_104 (by decide) rfl ?_
  by_cases c7 : ¬ v5 = 2
  · rw [if_pos c7] at hs3
    refine aw_icne_t at_161_105 c7 ?_
    refine aw_vload_n (pc1 := 123) at_161_122 l0 i0 rfl ?_
    obtain ⟨v8, e9, hs4⟩ := am_bind hs3
    clear hs3
    refine aw_pG (pc1 := 126) at_161_123 (am_vR_s e9).1 rfl ?_
    obtain ⟨v10, e11, hs5⟩ := am_bind hs4
    clear hs4
    refine aw_pG (pc1 := 129) at_161_126 (am_vI_s e11) rfl ?_
    by_cases c12 : ¬ v10 = 0
    · rw [if_pos c12] at hs5
      refine aw_ifne_t at_161_129 c12 ?_
      refine aw_vload_n (pc1 := 148) at_161_147 l0 i0 rfl ?_
      obtain ⟨v13, e14, hs6⟩ := am_bind hs5
      clear hs5
      refine aw_pG (pc1 := 151) at_161_148 (am_vR_s e14).1 rfl ?_
      obtain ⟨v15, e16, hs7⟩ := am_bind hs6
      clear hs6
      refine aw_pG (pc1 := 154) at_161_151 (am_vI_s e16) rfl ?_
      refine aw_iconst (v := 1) (pc1 := 155) at_161_154 (by decide) rfl ?_
      refine aw_iadd (v := (v15 + 1)) (pc1 := 156) at_161_155 rfl rfl ?_
      refine aw_vload_n (pc1 := 157) at_161_156 l0 i0 rfl ?_
      obtain ⟨v17, e18, hs8⟩ := am_bind hs7
      clear hs7
      refine aw_pG (pc1 := 160) at_161_157 (am_vI_s e18) rfl ?_
      refine aw_imul (v := ((v15 + 1) * v17)) (pc1 := 161) at_161_160 rfl rfl ?_
      exact rg_161_161 (((v15 + 1) * v17)) h1 o   hs8
    · rw [if_neg c12] at hs5
      refine aw_ifne_f (pc1 := 132) at_161_129 c12 rfl ?_
      refine aw_vload_n (pc1 := 133) at_161_132 l0 i0 rfl ?_
      obtain ⟨v19, e20, hs9⟩ := am_bind hs5
      clear hs5
      refine aw_pG (pc1 := 136) at_161_133 (am_vR_s e20).1 rfl ?_
      obtain ⟨v21, e22, hs10⟩ := am_bind hs9
      clear hs9
      refine aw_pG (pc1 := 139) at_161_136 (am_vI_s e22) rfl ?_
      refine aw_vload_n (pc1 := 140) at_161_139 l0 i0 rfl ?_
      obtain ⟨v23, e24, hs11⟩ := am_bind hs10
      clear hs10
      refine aw_pG (pc1 := 143) at_161_140 (am_vI_s e24) rfl ?_
      refine aw_imul (v := (v21 * v23)) (pc1 := 144) at_161_143 rfl rfl ?_
      refine aw_goto at_161_144 ?_
      exact rg_161_161 ((v21 * v23)) h1 o   hs11
  · rw [if_neg c7] at hs3
    refine aw_icne_f (pc1 := 108) at_161_105 c7 rfl ?_
    refine aw_iconst (v := 1) (pc1 := 109) at_161_108 (by decide) rfl ?_
    refine aw_vload_n (pc1 := 110) at_161_109 l0 i0 rfl ?_
    obtain ⟨v25, e26, hs12⟩ := am_bind hs3
    clear hs3
    refine aw_pG (pc1 := 113) at_161_110 (am_vR_s e26).1 rfl ?_
    obtain ⟨v27, e28, hs13⟩ := am_bind hs12
    clear hs12
    refine aw_pG (pc1 := 116) at_161_113 (am_vI_s e28) rfl ?_
    refine aw_ishl (v := (1 <<< (v27 &&& 31))) (pc1 := 117) at_161_116 rfl rfl ?_
    refine aw_iconst (v := 2) (pc1 := 118) at_161_117 (by decide) rfl ?_
    refine aw_isub (v := ((1 <<< (v27 &&& 31)) - 2)) (pc1 := 119) at_161_118 rfl rfl ?_
    refine aw_goto at_161_119 ?_
    exact rg_161_161 (((1 <<< (v27 &&& 31)) - 2)) h1 o   hs13
def fg_161_64 (x0 : Value) (h : am_H) : Option am_O := ((am_vR (am_pG 5 x0 h)).bind fun v1 => ((am_vI (am_pG 769 v1 h)).bind fun v3 => (if ¬ v3 = 0 then ((am_vR (am_pG 6 x0 h)).bind fun v6 => ((am_vI (am_pG 771 v6 h)).bind fun v8 => (fg_161_94 x0 x0 ((v8 + 1)) h))) else ((am_vR (am_pG 6 x0 h)).bind fun v10 => ((am_vI (am_pG 771 v10 h)).bind fun v12 => (fg_161_94 x0 x0 v12 h))))))
theorem rg_161_64 {X : am_X} {d : Nat} {lv : am_LV} (x0 : Value) (h : am_H) (o : am_O) (l0 : lv.lookup 0 = some x0) (i0 : am_isR x0 = true) (hs : fg_161_64 x0 h = some o) : am_W X (d) 161 64 lv [] h (fun q => q = o) := by
  unfold fg_161_64 at hs
  refine aw_vload_n (pc1 := 65) at_161_64 l0 i0 rfl ?_
  refine aw_vload_n (pc1 := 66) at_161_65 l0 i0 rfl ?_
  obtain ⟨v1, e2, hs1⟩ := am_bind hs
  clear hs
  refine aw_pG (pc1 := 69) at_161_66 (am_vR_s e2).1 rfl ?_
  obtain ⟨v3, e4, hs2⟩ := am_bind hs1
  clear hs1
  refine aw_pG (pc1 := 72) at_161_69 (am_vI_s e4) rfl ?_
  by_cases c5 : ¬ v3 = 0
  · rw [if_pos c5] at hs2
    refine aw_ifne_t at_161_72 c5 ?_
    refine aw_vload_n (pc1 := 86) at_161_85 l0 i0 rfl ?_
    obtain ⟨v6, e7, hs3⟩ := am_bind hs2
    clear hs2
    refine aw_pG (pc1 := 89) at_161_86 (am_vR_s e7).1 rfl ?_
    obtain ⟨v8, e9, hs4⟩ := am_bind hs3
    clear hs3
    refine aw_pG (pc1 := 92) at_161_89 (am_vI_s e9) rfl ?_
    refine aw_iconst (v := 1) (pc1 := 93) at_161_92 (by decide) rfl ?_
    refine aw_iadd (v := (v8 + 1)) (pc1 := 94) at_161_93 rfl rfl ?_
    exact rg_161_94 x0 x0 ((v8 + 1)) h o l0 i0 i0 hs4
  · rw [if_neg c5] at hs2
    refine aw_ifne_f (pc1 := 75) at_161_72 c5 rfl ?_
    refine aw_vload_n (pc1 := 76) at_161_75 l0 i0 rfl ?_
    obtain ⟨v10, e11, hs5⟩ := am_bind hs2
    clear hs2
    refine aw_pG (pc1 := 79) at_161_76 (am_vR_s e11).1 rfl ?_
    obtain ⟨v12, e13, hs6⟩ := am_bind hs5
    clear hs5
    refine aw_pG (pc1 := 82) at_161_79 (am_vI_s e13) rfl ?_
    refine aw_goto at_161_82 ?_
    exact rg_161_94 x0 x0 v12 h o l0 i0 i0 hs6
def fg_161_62 (h : am_H) : Option am_O := some (.inl (some (.int 0), h))
theorem rg_161_62 {X : am_X} {d : Nat} {lv : am_LV} (h : am_H) (o : am_O) (hs : fg_161_62 h = some o) : am_W X (d) 161 62 lv [] h (fun q => q = o) := by
  unfold fg_161_62 at hs
  refine aw_iconst (v := 0) (pc1 := 63) at_161_62 (by decide) rfl ?_
  cases hs
  exact aw_iret at_161_63 (by rw [rt_161]; rfl) rfl
def fg_161_0 (x0 : Value) (h : am_H) : Option am_O := ((am_vR (am_pG 5 x0 h)).bind fun v1 => ((am_vI (am_pG 769 v1 h)).bind fun v3 => ((am_vR (am_pG 6 x0 h)).bind fun v5 => ((am_vI (am_pG 769 v5 h)).bind fun v7 => (if ¬ v3 = v7 then (fg_161_62 h) else ((am_vR (am_pG 5 x0 h)).bind fun v10 => ((am_vI (am_pG 770 v10 h)).bind fun v12 => ((am_vR (am_pG 6 x0 h)).bind fun v14 => ((am_vI (am_pG 770 v14 h)).bind fun v16 => (if ¬ v12 = v16 then (fg_161_62 h) else ((am_vR (am_pG 5 x0 h)).bind fun v19 => ((am_vI (am_pG 769 v19 h)).bind fun v21 => (if ¬ v21 = 2 then (fg_161_64 x0 h) else ((am_vR (am_pG 5 x0 h)).bind fun v24 => ((am_vI (am_pG 771 v24 h)).bind fun v26 => ((am_vR (am_pG 6 x0 h)).bind fun v28 => ((am_vI (am_pG 771 v28 h)).bind fun v30 => (if v26 = v30 then (fg_161_64 x0 h) else (fg_161_62 h)))))))))))))))))))
theorem rg_161_0 {X : am_X} {d : Nat} {lv : am_LV} (x0 : Value) (h : am_H) (o : am_O) (l0 : lv.lookup 0 = some x0) (i0 : am_isR x0 = true) (hs : fg_161_0 x0 h = some o) : am_W X (d) 161 0 lv [] h (fun q => q = o) := by
  unfold fg_161_0 at hs
  refine aw_vload_n (pc1 := 1) at_161_0 l0 i0 rfl ?_
  obtain ⟨v1, e2, hs1⟩ := am_bind hs
  clear hs
  refine aw_pG (pc1 := 4) at_161_1 (am_vR_s e2).1 rfl ?_
  obtain ⟨v3, e4, hs2⟩ := am_bind hs1
  clear hs1
  refine aw_pG (pc1 := 7) at_161_4 (am_vI_s e4) rfl ?_
  refine aw_vload_n (pc1 := 8) at_161_7 l0 i0 rfl ?_
  obtain ⟨v5, e6, hs3⟩ := am_bind hs2
  clear hs2
  refine aw_pG (pc1 := 11) at_161_8 (am_vR_s e6).1 rfl ?_
  obtain ⟨v7, e8, hs4⟩ := am_bind hs3
  clear hs3
  refine aw_pG (pc1 := 14) at_161_11 (am_vI_s e8) rfl ?_
  by_cases c9 : ¬ v3 = v7
  · rw [if_pos c9] at hs4
    refine aw_icne_t at_161_14 c9 ?_
    exact rg_161_62 h o   hs4
  · rw [if_neg c9] at hs4
    refine aw_icne_f (pc1 := 17) at_161_14 c9 rfl ?_
    refine aw_vload_n (pc1 := 18) at_161_17 l0 i0 rfl ?_
    obtain ⟨v10, e11, hs5⟩ := am_bind hs4
    clear hs4
    refine aw_pG (pc1 := 21) at_161_18 (am_vR_s e11).1 rfl ?_
    obtain ⟨v12, e13, hs6⟩ := am_bind hs5
    clear hs5
    refine aw_pG (pc1 := 24) at_161_21 (am_vI_s e13) rfl ?_
    refine aw_vload_n (pc1 := 25) at_161_24 l0 i0 rfl ?_
    obtain ⟨v14, e15, hs7⟩ := am_bind hs6
    clear hs6
    refine aw_pG (pc1 := 28) at_161_25 (am_vR_s e15).1 rfl ?_
    obtain ⟨v16, e17, hs8⟩ := am_bind hs7
    clear hs7
    refine aw_pG (pc1 := 31) at_161_28 (am_vI_s e17) rfl ?_
    by_cases c18 : ¬ v12 = v16
    · rw [if_pos c18] at hs8
      refine aw_icne_t at_161_31 c18 ?_
      exact rg_161_62 h o   hs8
    · rw [if_neg c18] at hs8
      refine aw_icne_f (pc1 := 34) at_161_31 c18 rfl ?_
      refine aw_vload_n (pc1 := 35) at_161_34 l0 i0 rfl ?_
      obtain ⟨v19, e20, hs9⟩ := am_bind hs8
      clear hs8
      refine aw_pG (pc1 := 38) at_161_35 (am_vR_s e20).1 rfl ?_
      obtain ⟨v21, e22, hs10⟩ := am_bind hs9
      clear hs9
      refine aw_pG (pc1 := 41) at_161_38 (am_vI_s e22) rfl ?_
      refine aw_iconst (v := 2) (pc1 := 42) at_161_41 (by decide) rfl ?_
      by_cases c23 : ¬ v21 = 2
      · rw [if_pos c23] at hs10
        refine aw_icne_t at_161_42 c23 ?_
        exact rg_161_64 x0 h o l0 i0 hs10
      · rw [if_neg c23] at hs10
        refine aw_icne_f (pc1 := 45) at_161_42 c23 rfl ?_
        refine aw_vload_n (pc1 := 46) at_161_45 l0 i0 rfl ?_
        obtain ⟨v24, e25, hs11⟩ := am_bind hs10
        clear hs10
        refine aw_pG (pc1 := 49) at_161_46 (am_vR_s e25).1 rfl ?_
        obtain ⟨v26, e27, hs12⟩ := am_bind hs11
        clear hs11
        refine aw_pG (pc1 := 52) at_161_49 (am_vI_s e27) rfl ?_
        refine aw_vload_n (pc1 := 53) at_161_52 l0 i0 rfl ?_
        obtain ⟨v28, e29, hs13⟩ := am_bind hs12
        clear hs12
        refine aw_pG (pc1 := 56) at_161_53 (am_vR_s e29).1 rfl ?_
        obtain ⟨v30, e31, hs14⟩ := am_bind hs13
        clear hs13
        refine aw_pG (pc1 := 59) at_161_56 (am_vI_s e31) rfl ?_
        by_cases c32 : v26 = v30
        · rw [if_pos c32] at hs14
          refine aw_iceq_t at_161_59 c32 ?_
          exact rg_161_64 x0 h o l0 i0 hs14
        · rw [if_neg c32] at hs14
          refine aw_iceq_f (pc1 := 62) at_161_59 c32 rfl ?_
          exact rg_161_62 h o   hs14
def fm_161 (y0 : Value) (h : am_H) : Option am_O := fg_161_0 y0 h
theorem rm_161 {X : am_X} {d : Nat} (y0 : Value) (h : am_H) (o : am_O) (i0 : am_isR y0 = true) (hs : fm_161 y0 h = some o) : am_W X (d) 161 0 (am_args 0 [y0]) [] h (fun q => q = o) := by
  rw [am_args_R i0]
  exact rg_161_0 y0 h o rfl i0 hs
def fg_159_126 (N : Nat) (x0 : Value) (s0 : Value) (s1 : Int32) (h : am_H) : Option am_O := ((am_pP 9 s0 (.int s1) h).bind fun h1 => ((am_vI (am_pG 9 x0 h1)).bind fun v3 => some (.inl (some (.int v3), h1))))
theorem rg_159_126 {X : am_X} {d : Nat} {N : Nat} {lv : am_LV} (x0 : Value) (s0 : Value) (s1 : Int32) (h : am_H) (o : am_O) (l0 : lv.lookup 0 = some x0) (i0 : am_isR x0 = true) (j0 : am_isR s0 = true) (hs : fg_159_126 N x0 s0 s1 h = some o) : am_W X (d + 3) 159 126 lv [(.int s1), s0] h (fun q => q = o) := by
  unfold fg_159_126 at hs
  obtain ⟨h1, e2, hs1⟩ := am_bind hs
  clear hs
  refine aw_pP (pc1 := 129) at_159_126 e2 rfl ?_
  refine aw_vload_n (pc1 := 130) at_159_129 l0 i0 rfl ?_
  obtain ⟨v3, e4, hs2⟩ := am_bind hs1
  clear hs1
  refine aw_pG (pc1 := 133) at_159_130 (am_vI_s e4) rfl ?_
  cases hs2
  exact aw_iret at_159_133 (by rw [rt_159]; rfl) rfl
def fg_159_109 (N : Nat) (x0 : Value) (x2 : Value) (x3 : Int32) (h : am_H) : Option am_O := ((am_pZ x2).bind fun b1 => if b1 = true then (if am_pOk 0 x0 h then am_cI true (fm_160 x0 x3 h) (fun v8 h9 => (fg_159_126 N x0 x0 v8 h9)) else none) else (if am_pOk 0 x0 h then am_cI true (fm_161 x0 h) (fun v4 h5 => (fg_159_126 N x0 x0 v4 h5)) else none))
theorem rg_159_109 {X : am_X} {d : Nat} {N : Nat} {lv : am_LV} (x0 : Value) (x2 : Value) (x3 : Int32) (h : am_H) (o : am_O) (l0 : lv.lookup 0 = some x0) (l2 : lv.lookup 2 = some x2) (l3 : lv.lookup 3 = some (.int x3)) (i0 : am_isR x0 = true) (i2 : am_isR x2 = true) (hs : fg_159_109 N x0 x2 x3 h = some o) : am_W X (d + 3) 159 109 lv [] h (fun q => q = o) := by
  unfold fg_159_109 at hs
  refine aw_vload_n (pc1 := 110) at_159_109 l0 i0 rfl ?_
  refine aw_vload_n (pc1 := 111) at_159_110 l2 i2 rfl ?_
  obtain ⟨b1, e2, hs1⟩ := am_bind hs
  clear hs
  cases b1
  · rw [if_neg (by decide)] at hs1
    refine aw_pYt at_159_111 e2 ?_
    refine aw_vload_n (pc1 := 123) at_159_122 l0 i0 rfl ?_
    obtain ⟨z3, hs2⟩ := am_ift hs1
    clear hs1
    refine aw_call (F := fm_161 x0 h) (t := true) (na := 1) (kd := 1) (as := [x0]) at_159_123 (am_k3v kb_161) mn_161 mk_161 rfl rfl (am_ok_v mi_161 (am_hl rfl (am_ccR i0 am_cats_0) rfl) z3) (am_hc (am_ccR i0 am_cats_0) rfl) (fun _ => ⟨rfl, hh_159⟩) (fun o1 hz9 => rm_161 x0 h o1 i0 hz9) ?_
    rcases am_cI_s hs2 with ⟨v4, h5, f6, hs3⟩ | hs3
    · clear hs2
      refine Or.inl ⟨_, _, f6, ?_⟩
      show am_W X _ 159 126 _ [(.int v4), x0] h5 _
      exact rg_159_126 x0 x0 v4 h5 o l0 i0 i0 hs3
    · clear hs2
      exact Or.inr hs3
  · rw [if_pos rfl] at hs1
    refine aw_pYf (pc1 := 114) at_159_111 e2 rfl ?_
    refine aw_vload_n (pc1 := 115) at_159_114 l0 i0 rfl ?_
    refine aw_iload_n (pc1 := 116) at_159_115 l3 rfl ?_
    obtain ⟨z7, hs4⟩ := am_ift hs1
    clear hs1
    refine aw_call (F := fm_160 x0 x3 h) (t := true) (na := 2) (kd := 1) (as := [x0, (.int x3)]) at_159_116 (am_k3v kb_160) mn_160 mk_160 rfl rfl (am_ok_v mi_160 (am_hl rfl (am_ccR i0 (am_ccI am_cats_0)) rfl) z7) (am_hc (am_ccR i0 am_cats_0) rfl) (fun _ => ⟨rfl, hh_159⟩) (fun o1 hz9 => rm_160 x0 x3 h o1 i0 hz9) ?_
    rcases am_cI_s hs4 with ⟨v8, h9, f10, hs5⟩ | hs5
    · clear hs4
      refine Or.inl ⟨_, _, f10, ?_⟩
      show am_W X _ 159 119 _ [(.int v8), x0] h9 _
      refine aw_goto at_159_119 ?_
      exact rg_159_126 x0 x0 v8 h9 o l0 i0 i0 hs5
    · clear hs4
      exact Or.inr hs5
def fg_159_71 (N : Nat) (x0 : Value) (x1 : Value) (x2 : Value) (x3 : Int32) (h : am_H) : Option am_O := ((am_pZ x2).bind fun b1 => if b1 = true then (fg_159_109 N x0 x2 x3 h) else ((am_vI (am_pG 769 x1 h)).bind fun v3 => (if ¬ v3 = 1 then (fg_159_109 N x0 x2 x3 h) else ((am_vI (am_pG 769 x2 h)).bind fun v6 => (if ¬ v6 = 1 then (fg_159_109 N x0 x2 x3 h) else ((am_vR (am_pG 2 x0 h)).bind fun v9 => (if am_pOk 7 v9 h then am_cI true (fm_52 N v9 x1 h) (fun v12 h13 => ((am_vR (am_pG 3 x0 h13)).bind fun v15 => (if am_pOk 7 v15 h13 then am_cI true (fm_52 N v15 x2 h13) (fun v18 h19 => (fg_159_109 N x0 x2 x3 h19)) else none))) else none)))))))
theorem rg_159_71 {X : am_X} {d : Nat} {N : Nat} {lv : am_LV} (x0 : Value) (x1 : Value) (x2 : Value) (x3 : Int32) (h : am_H) (o : am_O) (l0 : lv.lookup 0 = some x0) (l1 : lv.lookup 1 = some x1) (l2 : lv.lookup 2 = some x2) (l3 : lv.lookup 3 = some (.int x3)) (i0 : am_isR x0 = true) (i1 : am_isR x1 = true) (i2 : am_isR x2 = true) (hs : fg_159_71 N x0 x1 x2 x3 h = some o) : am_W X (d + 3) 159 71 lv [] h (fun q => q = o) := by
  unfold fg_159_71 at hs
  refine aw_vload_n (pc1 := 72) at_159_71 l2 i2 rfl ?_
  obtain ⟨b1, e2, hs1⟩ := am_bind hs
  clear hs
  cases b1
  · rw [if_neg (by decide)] at hs1
    refine aw_pZf (pc1 := 75) at_159_72 e2 rfl ?_
    refine aw_vload_n (pc1 := 76) at_159_75 l1 i1 rfl ?_
    obtain ⟨v3, e4, hs2⟩ := am_bind hs1
    clear hs1
    refine aw_pG (pc1 := 79) at_159_76 (am_vI_s e4) rfl ?_
    refine aw_iconst (v := 1) (pc1 := 80) at_159_79 (by decide) rfl ?_
    by_cases c5 : ¬ v3 = 1
    · rw [if_pos c5] at hs2
      refine aw_icne_t at_159_80 c5 ?_
      exact rg_159_109 x0 x2 x3 h o l0 l2 l3 i0 i2 hs2
    · rw [if_neg c5] at hs2
      refine aw_icne_f (pc1 := 83) at_159_80 c5 rfl ?_
      refine aw_vload_n (pc1 := 84) at_159_83 l2 i2 rfl ?_
      obtain ⟨v6, e7, hs3⟩ := am_bind hs2
      clear hs2
      refine aw_pG (pc1 := 87) at_159_84 (am_vI_s e7) rfl ?_
      refine aw_iconst (v := 1) (pc1 := 88) at_159_87 (by decide) rfl ?_
      by_cases c8 : ¬ v6 = 1
      · rw [if_pos c8] at hs3
        refine aw_icne_t at_159_88 c8 ?_
        exact rg_159_109 x0 x2 x3 h o l0 l2 l3 i0 i2 hs3
      · rw [if_neg c8] at hs3
        refine aw_icne_f (pc1 := 91) at_159_88 c8 rfl ?_
        refine aw_vload_n (pc1 := 92) at_159_91 l0 i0 rfl ?_
        obtain ⟨v9, e10, hs4⟩ := am_bind hs3
        clear hs3
        refine aw_pG (pc1 := 95) at_159_92 (am_vR_s e10).1 rfl ?_
        refine aw_vload_n (pc1 := 96) at_159_95 l1 i1 rfl ?_
        obtain ⟨z11, hs5⟩ := am_ift hs4
        clear hs4
        refine aw_call (F := fm_52 N v9 x1 h) (t := true) (na := 2) (kd := 1) (as := [v9, x1]) at_159_96 (am_k3v kb_52) mn_52 mk_52 rfl rfl (am_ok_v mi_52 (am_hl rfl (am_ccR (am_vR_s e10).2 (am_ccR i1 am_cats_0)) rfl) z11) (am_hc am_cats_0 rfl) (fun _ => ⟨rfl, hh_159⟩) (fun o1 hz9 => rm_52 v9 x1 h o1 (am_vR_s e10).2 i1 hz9) ?_
        rcases am_cI_s hs5 with ⟨v12, h13, f14, hs6⟩ | hs6
        · clear hs5
          refine Or.inl ⟨_, _, f14, ?_⟩
          show am_W X _ 159 99 _ [(.int v12)] h13 _
          refine aw_popi (pc1 := 100) at_159_99 rfl ?_
          refine aw_vload_n (pc1 := 101) at_159_100 l0 i0 rfl ?_
          obtain ⟨v15, e16, hs7⟩ := am_bind hs6
          clear hs6
          refine aw_pG (pc1 := 104) at_159_101 (am_vR_s e16).1 rfl ?_
          refine aw_vload_n (pc1 := 105) at_159_104 l2 i2 rfl ?_
          obtain ⟨z17, hs8⟩ := am_ift hs7
          clear hs7
          refine aw_call (F := fm_52 N v15 x2 h13) (t := true) (na := 2) (kd := 1) (as := [v15, x2]) at_159_105 (am_k3v kb_52) mn_52 mk_52 rfl rfl (am_ok_v mi_52 (am_hl rfl (am_ccR (am_vR_s e16).2 (am_ccR i2 am_cats_0)) rfl) z17) (am_hc am_cats_0 rfl) (fun _ => ⟨rfl, hh_159⟩) (fun o1 hz9 => rm_52 v15 x2 h13 o1 (am_vR_s e16).2 i2 hz9) ?_
          rcases am_cI_s hs8 with ⟨v18, h19, f20, hs9⟩ | hs9
          · clear hs8
            refine Or.inl ⟨_, _, f20, ?_⟩
            show am_W X _ 159 108 _ [(.int v18)] h19 _
            refine aw_popi (pc1 := 109) at_159_108 rfl ?_
            exact rg_159_109 x0 x2 x3 h19 o l0 l2 l3 i0 i2 hs9
          · clear hs8
            exact Or.inr hs9
        · clear hs5
          exact Or.inr hs6
  · rw [if_pos rfl] at hs1
    refine aw_pZt at_159_72 e2 ?_
    exact rg_159_109 x0 x2 x3 h o l0 l2 l3 i0 i2 hs1
def fg_159_45 (N : Nat) (x0 : Value) (x1 : Value) (x2 : Value) (x3 : Int32) (h : am_H) : Option am_O := ((am_pZ x2).bind fun b1 => if b1 = true then (fg_159_71 N x0 x1 x2 x3 h) else ((am_vI (am_pG 769 x1 h)).bind fun v3 => (if ¬ v3 = 0 then (fg_159_71 N x0 x1 x2 x3 h) else ((am_vI (am_pG 769 x2 h)).bind fun v6 => (if ¬ v6 = 0 then (fg_159_71 N x0 x1 x2 x3 h) else ((am_vR (am_pG 3 x0 h)).bind fun v9 => (if am_pOk 7 v9 h then am_cV true (fm_76 N v9 x2 h) (fun h13 => (fg_159_71 N x0 x1 x2 x3 h13)) else none)))))))
theorem rg_159_45 {X : am_X} {d : Nat} {N : Nat} {lv : am_LV} (x0 : Value) (x1 : Value) (x2 : Value) (x3 : Int32) (h : am_H) (o : am_O) (l0 : lv.lookup 0 = some x0) (l1 : lv.lookup 1 = some x1) (l2 : lv.lookup 2 = some x2) (l3 : lv.lookup 3 = some (.int x3)) (i0 : am_isR x0 = true) (i1 : am_isR x1 = true) (i2 : am_isR x2 = true) (hs : fg_159_45 N x0 x1 x2 x3 h = some o) : am_W X (d + 3) 159 45 lv [] h (fun q => q = o) := by
  unfold fg_159_45 at hs
  refine aw_vload_n (pc1 := 46) at_159_45 l2 i2 rfl ?_
  obtain ⟨b1, e2, hs1⟩ := am_bind hs
  clear hs
  cases b1
  · rw [if_neg (by decide)] at hs1
    refine aw_pZf (pc1 := 49) at_159_46 e2 rfl ?_
    refine aw_vload_n (pc1 := 50) at_159_49 l1 i1 rfl ?_
    obtain ⟨v3, e4, hs2⟩ := am_bind hs1
    clear hs1
    refine aw_pG (pc1 := 53) at_159_50 (am_vI_s e4) rfl ?_
    by_cases c5 : ¬ v3 = 0
    · rw [if_pos c5] at hs2
      refine aw_ifne_t at_159_53 c5 ?_
      exact rg_159_71 x0 x1 x2 x3 h o l0 l1 l2 l3 i0 i1 i2 hs2
    · rw [if_neg c5] at hs2
      refine aw_ifne_f (pc1 := 56) at_159_53 c5 rfl ?_
      refine aw_vload_n (pc1 := 57) at_159_56 l2 i2 rfl ?_
      obtain ⟨v6, e7, hs3⟩ := am_bind hs2
      clear hs2
      refine aw_pG (pc1 := 60) at_159_57 (am_vI_s e7) rfl ?_
      by_cases c8 : ¬ v6 = 0
      · rw [if_pos c8] at hs3
        refine aw_ifne_t at_159_60 c8 ?_
        exact rg_159_71 x0 x1 x2 x3 h o l0 l1 l2 l3 i0 i1 i2 hs3
      · rw [if_neg c8] at hs3
        refine aw_ifne_f (pc1 := 63) at_159_60 c8 rfl ?_
        refine aw_vload_n (pc1 := 64) at_159_63 l0 i0 rfl ?_
        obtain ⟨v9, e10, hs4⟩ := am_bind hs3
        clear hs3
        refine aw_pG (pc1 := 67) at_159_64 (am_vR_s e10).1 rfl ?_
        refine aw_vload_n (pc1 := 68) at_159_67 l2 i2 rfl ?_
        obtain ⟨z11, hs5⟩ := am_ift hs4
        clear hs4
        refine aw_call (F := fm_76 N v9 x2 h) (t := true) (na := 2) (kd := 1) (as := [v9, x2]) at_159_68 (am_k3v kb_76) mn_76 mk_76 rfl rfl (am_ok_v mi_76 (am_hl rfl (am_ccR (am_vR_s e10).2 (am_ccR i2 am_cats_0)) rfl) z11) (am_hc am_cats_0 rfl) (fun _ => ⟨rfl, hh_159⟩) (fun o1 hz9 => rm_76 v9 x2 h o1 (am_vR_s e10).2 i2 hz9) ?_
        rcases am_cV_s hs5 with ⟨h13, f14, hs6⟩ | hs6
        · clear hs5
          refine Or.inl ⟨_, _, f14, ?_⟩
          show am_W X _ 159 71 _ [] h13 _
          exact rg_159_71 x0 x1 x2 x3 h13 o l0 l1 l2 l3 i0 i1 i2 hs6
        · clear hs5
          exact Or.inr hs6
  · rw [if_pos rfl] at hs1
    refine aw_pZt at_159_46 e2 ?_
    exact rg_159_71 x0 x1 x2 x3 h o l0 l1 l2 l3 i0 i1 i2 hs1
def fg_159_26 (N : Nat) (x0 : Value) (x1 : Value) (x2 : Value) (x3 : Int32) (s0 : Value) (s1 : Int32) (s2 : Int32) (h : am_H) : Option am_O := ((am_pP 7 s0 (.int (s1 + s2)) h).bind fun h1 => ((am_vI (am_pG 769 x1 h1)).bind fun v3 => (if ¬ v3 = 0 then (fg_159_45 N x0 x1 x2 x3 h1) else ((am_vR (am_pG 2 x0 h1)).bind fun v6 => (if am_pOk 7 v6 h1 then am_cV true (fm_76 N v6 x1 h1) (fun h10 => (fg_159_45 N x0 x1 x2 x3 h10)) else none)))))
theorem rg_159_26 {X : am_X} {d : Nat} {N : Nat} {lv : am_LV} (x0 : Value) (x1 : Value) (x2 : Value) (x3 : Int32) (s0 : Value) (s1 : Int32) (s2 : Int32) (h : am_H) (o : am_O) (l0 : lv.lookup 0 = some x0) (l1 : lv.lookup 1 = some x1) (l2 : lv.lookup 2 = some x2) (l3 : lv.lookup 3 = some (.int x3)) (i0 : am_isR x0 = true) (i1 : am_isR x1 = true) (i2 : am_isR x2 = true) (j0 : am_isR s0 = true) (hs : fg_159_26 N x0 x1 x2 x3 s0 s1 s2 h = some o) : am_W X (d + 3) 159 26 lv [(.int s2), (.int s1), s0] h (fun q => q = o) := by
  unfold fg_159_26 at hs
  refine aw_iadd (v := (s1 + s2)) (pc1 := 27) at_159_26 rfl rfl ?_
  obtain ⟨h1, e2, hs1⟩ := am_bind hs
  clear hs
  refine aw_pP (pc1 := 30) at_159_27 e2 rfl ?_
  refine aw_vload_n (pc1 := 31) at_159_30 l1 i1 rfl ?_
  obtain ⟨v3, e4, hs2⟩ := am_bind hs1
  clear hs1
  refine aw_pG (pc1 := 34) at_159_31 (am_vI_s e4) rfl ?_
  by_cases c5 : ¬ v3 = 0
  · rw [if_pos c5] at hs2
    refine aw_ifne_t at_159_34 c5 ?_
    exact rg_159_45 x0 x1 x2 x3 h1 o l0 l1 l2 l3 i0 i1 i2 hs2
  · rw [if_neg c5] at hs2
    refine aw_ifne_f (pc1 := 37) at_159_34 c5 rfl ?_
    refine aw_vload_n (pc1 := 38) at_159_37 l0 i0 rfl ?_
    obtain ⟨v6, e7, hs3⟩ := am_bind hs2
    clear hs2
    refine aw_pG (pc1 := 41) at_159_38 (am_vR_s e7).1 rfl ?_
    refine aw_vload_n (pc1 := 42) at_159_41 l1 i1 rfl ?_
    obtain ⟨z8, hs4⟩ := am_ift hs3
    clear hs3
    refine aw_call (F := fm_76 N v6 x1 h1) (t := true) (na := 2) (kd := 1) (as := [v6, x1]) at_159_42 (am_k3v kb_76) mn_76 mk_76 rfl rfl (am_ok_v mi_76 (am_hl rfl (am_ccR (am_vR_s e7).2 (am_ccR i1 am_cats_0)) rfl) z8) (am_hc am_cats_0 rfl) (fun _ => ⟨rfl, hh_159⟩) (fun o1 hz9 => rm_76 v6 x1 h1 o1 (am_vR_s e7).2 i1 hz9) ?_
    rcases am_cV_s hs4 with ⟨h10, f11, hs5⟩ | hs5
    · clear hs4
      refine Or.inl ⟨_, _, f11, ?_⟩
      show am_W X _ 159 45 _ [] h10 _
      exact rg_159_45 x0 x1 x2 x3 h10 o l0 l1 l2 l3 i0 i1 i2 hs5
    · clear hs4
      exact Or.inr hs5
def fg_159_0 (N : Nat) (x0 : Value) (x1 : Value) (x2 : Value) (x3 : Int32) (h : am_H) : Option am_O := ((am_pP 5 x0 x1 h).bind fun h1 => ((am_pP 6 x0 x2 h1).bind fun h3 => ((am_vI (am_pG 769 x1 h3)).bind fun v5 => ((am_pZ x2).bind fun b7 => if b7 = true then (fg_159_26 N x0 x1 x2 x3 x0 ((5 * v5)) x3 h3) else (fg_159_26 N x0 x1 x2 x3 x0 ((5 * v5)) 4 h3)))))
theorem rg_159_0 {X : am_X} {d : Nat} {N : Nat} {lv : am_LV} (x0 : Value) (x1 : Value) (x2 : Value) (x3 : Int32) (h : am_H) (o : am_O) (l0 : lv.lookup 0 = some x0) (l1 : lv.lookup 1 = some x1) (l2 : lv.lookup 2 = some x2) (l3 : lv.lookup 3 = some (.int x3)) (i0 : am_isR x0 = true) (i1 : am_isR x1 = true) (i2 : am_isR x2 = true) (hs : fg_159_0 N x0 x1 x2 x3 h = some o) : am_W X (d + 3) 159 0 lv [] h (fun q => q = o) := by
  unfold fg_159_0 at hs
  refine aw_vload_n (pc1 := 1) at_159_0 l0 i0 rfl ?_
  refine aw_vload_n (pc1 := 2) at_159_1 l1 i1 rfl ?_
  obtain ⟨h1, e2, hs1⟩ := am_bind hs
  clear hs
  refine aw_pP (pc1 := 5) at_159_2 e2 rfl ?_
  refine aw_vload_n (pc1 := 6) at_159_5 l0 i0 rfl ?_
  refine aw_vload_n (pc1 := 7) at_159_6 l2 i2 rfl ?_
  obtain ⟨h3, e4, hs2⟩ := am_bind hs1
  clear hs1
  refine aw_pP (pc1 := 10) at_159_7 e4 rfl ?_
  refine aw_vload_n (pc1 := 11) at_159_10 l0 i0 rfl ?_
  refine aw_iconst (v := 5) (pc1 := 12) at_159_11 (by decide) rfl ?_
  refine aw_vload_n (pc1 := 13) at_159_12 l1 i1 rfl ?_
  obtain ⟨v5, e6, hs3⟩ := am_bind hs2
  clear hs2
  refine aw_pG (pc1 := 16) at_159_13 (am_vI_s e6) rfl ?_
  refine aw_imul (v := (5 * v5)) (pc1 := 17) at_159_16 rfl rfl ?_
  refine aw_vload_n (pc1 := 18) at_159_17 l2 i2 rfl ?_
  obtain ⟨b7, e8, hs4⟩ := am_bind hs3
  clear hs3
  cases b7
  · rw [if_neg (by decide)] at hs4
    refine aw_pYt at_159_18 e8 ?_
    refine aw_iconst (v := 4) (pc1 := 26) at_159_25 (by decide) rfl ?_
    exact rg_159_26 x0 x1 x2 x3 x0 ((5 * v5)) 4 h3 o l0 l1 l2 l3 i0 i1 i2 i0 hs4
  · rw [if_pos rfl] at hs4
    refine aw_pYf (pc1 := 21) at_159_18 e8 rfl ?_
    refine aw_iload_n (pc1 := 22) at_159_21 l3 rfl ?_
    refine aw_goto at_159_22 ?_
    exact rg_159_26 x0 x1 x2 x3 x0 ((5 * v5)) x3 h3 o l0 l1 l2 l3 i0 i1 i2 i0 hs4
def fm_159 (N : Nat) (y0 : Value) (y1 : Value) (y2 : Value) (y3 : Int32) (h : am_H) : Option am_O := fg_159_0 N y0 y1 y2 y3 h
theorem rm_159 {X : am_X} {d : Nat} {N : Nat} (y0 : Value) (y1 : Value) (y2 : Value) (y3 : Int32) (h : am_H) (o : am_O) (i0 : am_isR y0 = true) (i1 : am_isR y1 = true) (i2 : am_isR y2 = true) (hs : fm_159 N y0 y1 y2 y3 h = some o) : am_W X (d + 3) 159 0 (am_args 0 [y0, y1, y2, .int y3]) [] h (fun q => q = o) := by
  rw [am_args_R i0, am_args_R i1, am_args_R i2, am_args_I]
  exact rg_159_0 y0 y1 y2 y3 h o rfl rfl rfl rfl i0 i1 i2 hs
def fg_164_86 (h : am_H) : Option am_O := some (.inl (some (.int 0), h))
theorem rg_164_86 {X : am_X} {d : Nat} {lv : am_LV} (h : am_H) (o : am_O) (hs : fg_164_86 h = some o) : am_W X (d + 2) 164 86 lv [] h (fun q => q = o) := by
  unfold fg_164_86 at hs
  refine aw_iconst (v := 0) (pc1 := 87) at_164_86 (by decide) rfl ?_
  cases hs
  exact aw_iret at_164_87 (by rw [rt_164]; decide) rfl
def fg_164_63 (x0 : Value) (x1 : Int32) (x2 : Int32) (x4 : Int32) (s0 : Int32) (h : am_H) : Option am_O := (if s0 = x4 then (fg_164_86 h) else (if s0 < (-99) then (fg_164_86 h) else (if s0 ≤ 99 then ((am_vR (am_pG 0 x0 h)).bind fun v4 => ((am_vR (am_pG 5 x0 h)).bind fun v6 => (if am_pOk 3 v4 h then am_cV true (fm_60 v4 v6 h) (fun h10 => ((am_vR (am_pG 0 x0 h10)).bind fun v12 => (if am_pOk 3 v12 h10 then am_cV true (fm_51 v12 x1 x2 s0 h10) (fun h16 => some (.inl (some (.int 1), h16))) else none))) else none))) else (fg_164_86 h))))
theorem rg_164_63 {X : am_X} {d : Nat} {lv : am_LV} (x0 : Value) (x1 : Int32) (x2 : Int32) (x4 : Int32) (s0 : Int32) (h : am_H) (o : am_O) (l0 : lv.lookup 0 = some x0) (l1 : lv.lookup 1 = some (.int x1)) (l2 : lv.lookup 2 = some (.int x2)) (l4 : lv.lookup 4 = some (.int x4)) (i0 : am_isR x0 = true) (hs : fg_164_63 x0 x1 x2 x4 s0 h = some o) : am_W X (d + 2) 164 63 lv [(.int s0)] h (fun q => q = o) := by
  unfold fg_164_63 at hs
  refine aw_istore (lv1 := am_put1 _ 5 _) (pc1 := 65) at_164_63 rfl rfl ?_
  refine aw_iload (pc1 := 67) at_164_65 am_lk0 rfl ?_
  refine aw_iload (pc1 := 69) at_164_67 (am_lk1 l4 rfl rfl) rfl ?_
  by_cases c1 : s0 = x4
  · rw [if_pos c1] at hs
    refine aw_iceq_t at_164_69 c1 ?_
    exact rg_164_86 h o   hs
  · rw [if_neg c1] at hs
    refine aw_iceq_f (pc1 := 72) at_164_69 c1 rfl ?_
    refine aw_iload (pc1 := 74) at_164_72 am_lk0 rfl ?_
    refine aw_bipush (v := (-99)) (pc1 := 76) at_164_74 (by decide) rfl ?_
    by_cases c2 : s0 < (-99)
    · rw [if_pos c2] at hs
      refine aw_iclt_t at_164_76 c2 ?_
      exact rg_164_86 h o   hs
    · rw [if_neg c2] at hs
      refine aw_iclt_f (pc1 := 79) at_164_76 c2 rfl ?_
      refine aw_iload (pc1 := 81) at_164_79 am_lk0 rfl ?_
      refine aw_bipush (v := 99) (pc1 := 83) at_164_81 (by decide) rfl ?_
      by_cases c3 : s0 ≤ 99
      · rw [if_pos c3] at hs
        refine aw_icle_t at_164_83 c3 ?_
        refine aw_vload_n (pc1 := 89) at_164_88 (am_lk1 l0 rfl rfl) i0 rfl ?_
        obtain ⟨v4, e5, hs1⟩ := am_bind hs
        clear hs
        refine aw_pG (pc1 := 92) at_164_89 (am_vR_s e5).1 rfl ?_
        refine aw_vload_n (pc1 := 93) at_164_92 (am_lk1 l0 rfl rfl) i0 rfl ?_
        obtain ⟨v6, e7, hs2⟩ := am_bind hs1
        clear hs1
        refine aw_pG (pc1 := 96) at_164_93 (am_vR_s e7).1 rfl ?_
        obtain ⟨z8, hs3⟩ := am_ift hs2
        clear hs2
        refine aw_call (F := fm_60 v4 v6 h) (t := true) (na := 2) (kd := 1) (as := [v4, v6]) at_164_96 (am_k3v kb_60) mn_60 mk_60 rfl rfl (am_ok_v mi_60 (am_hl rfl (am_ccR (am_vR_s e5).2 (am_ccR (am_vR_s e7).2 am_cats_0)) rfl) z8) (am_hc am_cats_0 rfl) (fun _ => ⟨rfl, hh_164⟩) (fun o1 hz9 => rm_60 v4 v6 h o1 (am_vR_s e5).2 (am_vR_s e7).2 hz9) ?_
        rcases am_cV_s hs3 with ⟨h10, f11, hs4⟩ | hs4
        · clear hs3
          refine Or.inl ⟨_, _, f11, ?_⟩
          show am_W X _ 164 99 _ [] h10 _
          refine aw_vload_n (pc1 := 100) at_164_99 (am_lk1 l0 rfl rfl) i0 rfl ?_
          obtain ⟨v12, e13, hs5⟩ := am_bind hs4
          clear hs4
          refine aw_pG (pc1 := 103) at_164_100 (am_vR_s e13).1 rfl ?_
          refine aw_iload_n (pc1 := 104) at_164_103 (am_lk1 l1 rfl rfl) rfl ?_
          refine aw_iload_n (pc1 := 105) at_164_104 (am_lk1 l2 rfl rfl) rfl ?_
          refine aw_iload (pc1 := 107) at_164_105 am_lk0 rfl ?_
          obtain ⟨z14, hs6⟩ := am_ift hs5
          clear hs5
          refine aw_call (F := fm_51 v12 x1 x2 s0 h10) (t := true) (na := 4) (kd := 1) (as := [v12, (.int x1), (.int x2), (.int s0)]) at_164_107 (am_k3v kb_51) mn_51 mk_51 rfl rfl (am_ok_v mi_51 (am_hl rfl (am_ccR (am_vR_s e13).2 (am_ccI (am_ccI (am_ccI am_cats_0)))) rfl) z14) (am_hc am_cats_0 rfl) (fun _ => ⟨rfl, hh_164⟩) (fun o1 hz9 => rm_51 v12 x1 x2 s0 h10 o1 (am_vR_s e13).2 hz9) ?_
          rcases am_cV_s hs6 with ⟨h16, f17, hs7⟩ | hs7
          · clear hs6
            refine Or.inl ⟨_, _, f17, ?_⟩
            show am_W X _ 164 110 _ [] h16 _
            refine aw_iconst (v := 1) (pc1 := 111) at_164_110 (by decide) rfl ?_
            cases hs7
            exact aw_iret at_164_111 (by rw [rt_164]; decide) rfl
          · clear hs6
            exact Or.inr hs7
        · clear hs3
          exact Or.inr hs4
      · rw [if_neg c3] at hs
        refine aw_icle_f (pc1 := 86) at_164_83 c3 rfl ?_
        exact rg_164_86 h o   hs
def fg_164_0 (x0 : Value) (x1 : Int32) (x2 : Int32) (x3 : Int32) (h : am_H) : Option am_O := ((am_vR (am_pG 5 x0 h)).bind fun v1 => (if am_pOk 3 v1 h then am_cI true (fm_54 v1 x1 x2 h) (fun v4 h5 => (if ¬ x3 = 0 then (if ¬ x3 = 1 then (if ¬ x3 = 2 then (if ¬ x3 = 3 then (fg_164_63 x0 x1 x2 v4 ((-v4)) h5) else (fg_164_63 x0 x1 x2 v4 ((v4 - 10)) h5)) else (fg_164_63 x0 x1 x2 v4 ((v4 + 10)) h5)) else (fg_164_63 x0 x1 x2 v4 ((v4 - 1)) h5)) else (fg_164_63 x0 x1 x2 v4 ((v4 + 1)) h5))) else none))
theorem rg_164_0 {X : am_X} {d : Nat} {lv : am_LV} (x0 : Value) (x1 : Int32) (x2 : Int32) (x3 : Int32) (h : am_H) (o : am_O) (l0 : lv.lookup 0 = some x0) (l1 : lv.lookup 1 = some (.int x1)) (l2 : lv.lookup 2 = some (.int x2)) (l3 : lv.lookup 3 = some (.int x3)) (i0 : am_isR x0 = true) (hs : fg_164_0 x0 x1 x2 x3 h = some o) : am_W X (d + 2) 164 0 lv [] h (fun q => q = o) := by
  unfold fg_164_0 at hs
  refine aw_vload_n (pc1 := 1) at_164_0 l0 i0 rfl ?_
  obtain ⟨v1, e2, hs1⟩ := am_bind hs
  clear hs
  refine aw_pG (pc1 := 4) at_164_1 (am_vR_s e2).1 rfl ?_
  refine aw_iload_n (pc1 := 5) at_164_4 l1 rfl ?_
  refine aw_iload_n (pc1 := 6) at_164_5 l2 rfl ?_
  obtain ⟨z3, hs2⟩ := am_ift hs1
  clear hs1
  refine aw_call (F := fm_54 v1 x1 x2 h) (t := true) (na := 3) (kd := 1) (as := [v1, (.int x1), (.int x2)]) at_164_6 (am_k3v kb_54) mn_54 mk_54 rfl rfl (am_ok_v mi_54 (am_hl rfl (am_ccR (am_vR_s e2).2 (am_ccI (am_ccI am_cats_0))) rfl) z3) (am_hc am_cats_0 rfl) (fun _ => ⟨rfl, hh_164⟩) (fun o1 hz9 => rm_54 v1 x1 x2 h o1 (am_vR_s e2).2 hz9) ?_
  rcases am_cI_s hs2 with ⟨v4, h5, f6, hs3⟩ | hs3
  · clear hs2
    refine Or.inl ⟨_, _, f6, ?_⟩
    show am_W X _ 164 9 _ [(.int v4)] h5 _
    refine aw_istore (lv1 := am_put1 _ 4 _) (pc1 := 11) at_164_9 rfl rfl ?_
    refine aw_iload_n (pc1 := 12) at_164_11 (am_lk1 l3 rfl rfl) rfl ?_
    by_cases c7 : ¬ x3 = 0
    · rw [if_pos c7] at hs3
      refine aw_ifne_t at_164_12 c7 ?_
      refine aw_iload_n (pc1 := 23) at_164_22 (am_lk1 l3 rfl rfl) rfl ?_
      refine aw_iconst (v := 1) (pc1 := 24) at_164_23 (by decide) rfl ?_
      by_cases c8 : ¬ x3 = 1
      · rw [if_pos c8] at hs3
        refine aw_icne_t at_164_24 c8 ?_
        refine aw_iload_n (pc1 := 35) at_164_34 (am_lk1 l3 rfl rfl) rfl ?_
        refine aw_iconst (v := 2) (pc1 := 36) at_164_35 (by decide) rfl ?_
        by_cases c9 : ¬ x3 = 2
        · rw [if_pos c9] at hs3
          refine aw_icne_t at_164_36 c9 ?_
          refine aw_iload_n (pc1 := 48) at_164_47 (am_lk1 l3 rfl rfl) rfl ?_
          refine aw_iconst (v := 3) (pc1 := 49) at_164_48 (by decide) rfl ?_
          by_cases c10 : ¬ x3 = 3
          · rw [if_pos c10] at hs3
            refine aw_icne_t at_164_49 c10 ?_
            refine aw_iload (pc1 := 62) at_164_60 am_lk0 rfl ?_
            refine aw_ineg (v := (-v4)) (pc1 := 63) at_164_62 rfl rfl ?_
            exact rg_164_63 x0 x1 x2 v4 ((-v4)) h5 o (am_lk1 l0 rfl rfl) (am_lk1 l1 rfl rfl) (am_lk1 l2 rfl rfl) am_lk0 i0 hs3
          · rw [if_neg c10] at hs3
            refine aw_icne_f (pc1 := 52) at_164_49 c10 rfl ?_
            refine aw_iload (pc1 := 54) at_164_52 am_lk0 rfl ?_
            refine aw_bipush (v := 10) (pc1 := 56) at_164_54 (by decide) rfl ?_
            refine aw_isub (v := (v4 - 10)) (pc1 := 57) at_164_56 rfl rfl ?_
            refine aw_goto at_164_57 ?_
            exact rg_164_63 x0 x1 x2 v4 ((v4 - 10)) h5 o (am_lk1 l0 rfl rfl) (am_lk1 l1 rfl rfl) (am_lk1 l2 rfl rfl) am_lk0 i0 hs3
        · rw [if_neg c9] at hs3
          refine aw_icne_f (pc1 := 39) at_164_36 c9 rfl ?_
          refine aw_iload (pc1 := 41) at_164_39 am_lk0 rfl ?_
          refine aw_bipush (v := 10) (pc1 := 43) at_164_41 (by decide) rfl ?_
          refine aw_iadd (v := (v4 + 10)) (pc1 := 44) at_164_43 rfl rfl ?_
          refine aw_goto at_164_44 ?_
          exact rg_164_63 x0 x1 x2 v4 ((v4 + 10)) h5 o (am_lk1 l0 rfl rfl) (am_lk1 l1 rfl rfl) (am_lk1 l2 rfl rfl) am_lk0 i0 hs3
      · rw [if_neg c8] at hs3
        refine aw_icne_f (pc1 := 27) at_164_24 c8 rfl ?_
        refine aw_iload (pc1 := 29) at_164_27 am_lk0 rfl ?_
        refine aw_iconst (v := 1) (pc1 := 30) at_164_29 (by decide) rfl ?_
        refine aw_isub (v := (v4 - 1)) (pc1 := 31) at_164_30 rfl rfl ?_
        refine aw_goto at_164_31 ?_
        exact rg_164_63 x0 x1 x2 v4 ((v4 - 1)) h5 o (am_lk1 l0 rfl rfl) (am_lk1 l1 rfl rfl) (am_lk1 l2 rfl rfl) am_lk0 i0 hs3
    · rw [if_neg c7] at hs3
      refine aw_ifne_f (pc1 := 15) at_164_12 c7 rfl ?_
      refine aw_iload (pc1 := 17) at_164_15 am_lk0 rfl ?_
      refine aw_iconst (v := 1) (pc1 := 18) at_164_17 (by decide) rfl ?_
      refine aw_iadd (v := (v4 + 1)) (pc1 := 19) at_164_18 rfl rfl ?_
      refine aw_goto at_164_19 ?_
      exact rg_164_63 x0 x1 x2 v4 ((v4 + 1)) h5 o (am_lk1 l0 rfl rfl) (am_lk1 l1 rfl rfl) (am_lk1 l2 rfl rfl) am_lk0 i0 hs3
  · clear hs2
    exact Or.inr hs3
def fm_164 (y0 : Value) (y1 : Int32) (y2 : Int32) (y3 : Int32) (h : am_H) : Option am_O := fg_164_0 y0 y1 y2 y3 h
theorem rm_164 {X : am_X} {d : Nat} (y0 : Value) (y1 : Int32) (y2 : Int32) (y3 : Int32) (h : am_H) (o : am_O) (i0 : am_isR y0 = true) (hs : fm_164 y0 y1 y2 y3 h = some o) : am_W X (d + 2) 164 0 (am_args 0 [y0, .int y1, .int y2, .int y3]) [] h (fun q => q = o) := by
  rw [am_args_R i0, am_args_I, am_args_I, am_args_I]
  exact rg_164_0 y0 y1 y2 y3 h o rfl rfl rfl rfl i0 hs
def fg_166_7 (N : Nat) : Nat → Value → Int32 → Int32 → Int32 → am_H → Option am_O
  | 0 => fun _ _ _ _ _ => none
  | K + 1 => fun x0 x2 x3 x4 h => (if x2 ≤ x4 then some (.inl (some (.int x3), h)) else (if am_pOk 7 x0 h then am_cI true (fm_100 x0 x3 h) (fun v3 h4 => (fg_166_7 N K x0 x2 v3 ((x4 + 1)) h4)) else none))
theorem rg_166_7 {X : am_X} {d : Nat} {N : Nat} : ∀ (K : Nat) (x0 : Value) (x2 : Int32) (x3 : Int32) (x4 : Int32) (h : am_H) (o : am_O), fg_166_7 N K x0 x2 x3 x4 h = some o → ∀ lv : am_LV, (lv.lookup 0 = some x0) → (lv.lookup 2 = some (.int x2)) → (lv.lookup 3 = some (.int x3)) → (lv.lookup 4 = some (.int x4)) → (am_isR x0 = true) → am_W X (d + 1) 166 7 lv [] h (fun q => q = o) := by
  intro K
  induction K with
  | zero => intro x0 x2 x3 x4 h o hs; cases hs
  | succ K ih =>
    intro x0 x2 x3 x4 h o hs lv l0 l2 l3 l4 i0
    unfold fg_166_7 at hs
    refine aw_iload (pc1 := 9) at_166_7 l4 rfl ?_
    refine aw_iload_n (pc1 := 10) at_166_9 l2 rfl ?_
    by_cases c1 : x2 ≤ x4
    · rw [if_pos c1] at hs
      refine aw_icge_t at_166_10 c1 ?_
      refine aw_iload_n (pc1 := 26) at_166_25 l3 rfl ?_
      cases hs
      exact aw_iret at_166_26 (by rw [rt_166]; rfl) rfl
    · rw [if_neg c1] at hs
      refine aw_icge_f (pc1 := 13) at_166_10 c1 rfl ?_
      refine aw_vload_n (pc1 := 14) at_166_13 l0 i0 rfl ?_
      refine aw_iload_n (pc1 := 15) at_166_14 l3 rfl ?_
      obtain ⟨z2, hs1⟩ := am_ift hs
      clear hs
      refine aw_call (F := fm_100 x0 x3 h) (t := true) (na := 2) (kd := 1) (as := [x0, (.int x3)]) at_166_15 (am_k3v kb_100) mn_100 mk_100 rfl rfl (am_ok_v mi_100 (am_hl rfl (am_ccR i0 (am_ccI am_cats_0)) rfl) z2) (am_hc am_cats_0 rfl) (fun _ => ⟨rfl, hh_166⟩) (fun o1 hz9 => rm_100 x0 x3 h o1 i0 hz9) ?_
      rcases am_cI_s hs1 with ⟨v3, h4, f5, hs2⟩ | hs2
      · clear hs1
        refine Or.inl ⟨_, _, f5, ?_⟩
        show am_W X _ 166 18 _ [(.int v3)] h4 _
        refine aw_istore_n (lv1 := am_put1 _ 3 _) (pc1 := 19) at_166_18 rfl rfl ?_
        refine aw_iinc (v := (x4 + 1)) (c := 1) (lv1 := am_put1 _ 4 _) (pc1 := 22) at_166_19 (am_lk1 l4 rfl rfl) (by decide) rfl rfl rfl ?_
        refine aw_goto at_166_22 ?_
        exact ih x0 x2 v3 ((x4 + 1)) h4 o hs2 _ (am_lk1 (am_lk1 l0 rfl rfl) rfl rfl) (am_lk1 (am_lk1 l2 rfl rfl) rfl rfl) (am_lk1 am_lk0 rfl rfl) am_lk0 i0
      · clear hs1
        exact Or.inr hs2
def fg_166_0 (N : Nat) (x0 : Value) (x1 : Int32) (x2 : Int32) (h : am_H) : Option am_O := (fg_166_7 N N x0 x2 ((x1 + 1)) 0 h)
theorem rg_166_0 {X : am_X} {d : Nat} {N : Nat} {lv : am_LV} (x0 : Value) (x1 : Int32) (x2 : Int32) (h : am_H) (o : am_O) (l0 : lv.lookup 0 = some x0) (l1 : lv.lookup 1 = some (.int x1)) (l2 : lv.lookup 2 = some (.int x2)) (i0 : am_isR x0 = true) (hs : fg_166_0 N x0 x1 x2 h = some o) : am_W X (d + 1) 166 0 lv [] h (fun q => q = o) := by
  unfold fg_166_0 at hs
  refine aw_iload_n (pc1 := 1) at_166_0 l1 rfl ?_
  refine aw_iconst (v := 1) (pc1 := 2) at_166_1 (by decide) rfl ?_
  refine aw_iadd (v := (x1 + 1)) (pc1 := 3) at_166_2 rfl rfl ?_
  refine aw_istore_n (lv1 := am_put1 _ 3 _) (pc1 := 4) at_166_3 rfl rfl ?_
  refine aw_iconst (v := 0) (pc1 := 5) at_166_4 (by decide) rfl ?_
  refine aw_istore (lv1 := am_put1 _ 4 _) (pc1 := 7) at_166_5 rfl rfl ?_
  exact rg_166_7 N x0 x2 ((x1 + 1)) 0 h o hs _ (am_lk1 (am_lk1 l0 rfl rfl) rfl rfl) (am_lk1 (am_lk1 l2 rfl rfl) rfl rfl) (am_lk1 am_lk0 rfl rfl) am_lk0 i0
def fm_166 (N : Nat) (y0 : Value) (y1 : Int32) (y2 : Int32) (h : am_H) : Option am_O := fg_166_0 N y0 y1 y2 h
theorem rm_166 {X : am_X} {d : Nat} {N : Nat} (y0 : Value) (y1 : Int32) (y2 : Int32) (h : am_H) (o : am_O) (i0 : am_isR y0 = true) (hs : fm_166 N y0 y1 y2 h = some o) : am_W X (d + 1) 166 0 (am_args 0 [y0, .int y1, .int y2]) [] h (fun q => q = o) := by
  rw [am_args_R i0, am_args_I, am_args_I]
  exact rg_166_0 y0 y1 y2 h o rfl rfl rfl i0 hs
def fg_165_198 (N : Nat) (s0 : Value) (s1 : Int32) (s2 : Int32) (s3 : Int32) (h : am_H) : Option am_O := (if am_pOk 3 s0 h then am_cV true (fm_51 s0 s1 s2 s3 h) (fun h3 => some (.inl (some (.int 1), h3))) else none)
theorem rg_165_198 {X : am_X} {d : Nat} {N : Nat} {lv : am_LV} (s0 : Value) (s1 : Int32) (s2 : Int32) (s3 : Int32) (h : am_H) (o : am_O) (j0 : am_isR s0 = true) (hs : fg_165_198 N s0 s1 s2 s3 h = some o) : am_W X (d + 2) 165 198 lv [(.int s3), (.int s2), (.int s1), s0] h (fun q => q = o) := by
  unfold fg_165_198 at hs
  obtain ⟨z1, hs1⟩ := am_ift hs
  clear hs
  refine aw_call (F := fm_51 s0 s1 s2 s3 h) (t := true) (na := 4) (kd := 1) (as := [s0, (.int s1), (.int s2), (.int s3)]) at_165_198 (am_k3v kb_51) mn_51 mk_51 rfl rfl (am_ok_v mi_51 (am_hl rfl (am_ccR j0 (am_ccI (am_ccI (am_ccI am_cats_0)))) rfl) z1) (am_hc am_cats_0 rfl) (fun _ => ⟨rfl, hh_165⟩) (fun o1 hz9 => rm_51 s0 s1 s2 s3 h o1 j0 hz9) ?_
  rcases am_cV_s hs1 with ⟨h3, f4, hs2⟩ | hs2
  · clear hs1
    refine Or.inl ⟨_, _, f4, ?_⟩
    show am_W X _ 165 201 _ [] h3 _
    refine aw_iconst (v := 1) (pc1 := 202) at_165_201 (by decide) rfl ?_
    cases hs2
    exact aw_iret at_165_202 (by rw [rt_165]; decide) rfl
  · clear hs1
    exact Or.inr hs2
def fg_165_162 (N : Nat) (x0 : Value) (x1 : Int32) (x2 : Int32) (h : am_H) : Option am_O := ((am_vR (am_pG 0 x0 h)).bind fun v1 => ((am_vR (am_pG 5 x0 h)).bind fun v3 => (if am_pOk 3 v1 h then am_cV true (fm_60 v1 v3 h) (fun h7 => ((am_vR (am_pG 0 x0 h7)).bind fun v9 => (if am_pOk 3 v9 h7 then am_cV true (fm_51 v9 x1 0 x2 h7) (fun h13 => ((am_vR (am_pG 0 x0 h13)).bind fun v15 => (if ¬ x2 = 0 then (fg_165_198 N v15 x1 1 0 h13) else (fg_165_198 N v15 x1 1 1 h13)))) else none))) else none)))
theorem rg_165_162 {X : am_X} {d : Nat} {N : Nat} {lv : am_LV} (x0 : Value) (x1 : Int32) (x2 : Int32) (h : am_H) (o : am_O) (l0 : lv.lookup 0 = some x0) (l1 : lv.lookup 1 = some (.int x1)) (l2 : lv.lookup 2 = some (.int x2)) (i0 : am_isR x0 = true) (hs : fg_165_162 N x0 x1 x2 h = some o) : am_W X (d + 2) 165 162 lv [] h (fun q => q = o) := by
  unfold fg_165_162 at hs
  refine aw_vload_n (pc1 := 163) at_165_162 l0 i0 rfl ?_
  obtain ⟨v1, e2, hs1⟩ := am_bind hs
  clear hs
  refine aw_pG (pc1 := 166) at_165_163 (am_vR_s e2).1 rfl ?_
  refine aw_vload_n (pc1 := 167) at_165_166 l0 i0 rfl ?_
  obtain ⟨v3, e4, hs2⟩ := am_bind hs1
  clear hs1
  refine aw_pG (pc1 := 170) at_165_167 (am_vR_s e4).1 rfl ?_
  obtain ⟨z5, hs3⟩ := am_ift hs2
  clear hs2
  refine aw_call (F := fm_60 v1 v3 h) (t := true) (na := 2) (kd := 1) (as := [v1, v3]) at_165_170 (am_k3v kb_60) mn_60 mk_60 rfl rfl (am_ok_v mi_60 (am_hl rfl (am_ccR (am_vR_s e2).2 (am_ccR (am_vR_s e4).2 am_cats_0)) rfl) z5) (am_hc am_cats_0 rfl) (fun _ => ⟨rfl, hh_165⟩) (fun o1 hz9 => rm_60 v1 v3 h o1 (am_vR_s e2).2 (am_vR_s e4).2 hz9) ?_
  rcases am_cV_s hs3 with ⟨h7, f8, hs4⟩ | hs4
  · clear hs3
    refine Or.inl ⟨_, _, f8, ?_⟩
    show am_W X _ 165 173 _ [] h7 _
    refine aw_vload_n (pc1 := 174) at_165_173 l0 i0 rfl ?_
    obtain ⟨v9, e10, hs5⟩ := am_bind hs4
    clear hs4
    refine aw_pG (pc1 := 177) at_165_174 (am_vR_s e10).1 rfl ?_
    refine aw_iload_n (pc1 := 178) at_165_177 l1 rfl ?_
    refine aw_iconst (v := 0) (pc1 := 179) at_165_178 (by decide) rfl ?_
    refine aw_iload_n (pc1 := 180) at_165_179 l2 rfl ?_
    obtain ⟨z11, hs6⟩ := am_ift hs5
    clear hs5
    refine aw_call (F := fm_51 v9 x1 0 x2 h7) (t := true) (na := 4) (kd := 1) (as := [v9, (.int x1), (.int 0), (.int x2)]) at_165_180 (am_k3v kb_51) mn_51 mk_51 rfl rfl (am_ok_v mi_51 (am_hl rfl (am_ccR (am_vR_s e10).2 (am_ccI (am_ccI (am_ccI am_cats_0)))) rfl) z11) (am_hc am_cats_0 rfl) (fun _ => ⟨rfl, hh_165⟩) (fun o1 hz9 => rm_51 v9 x1 0 x2 h7 o1 (am_vR_s e10).2 hz9) ?_
    rcases am_cV_s hs6 with ⟨h13, f14, hs7⟩ | hs7
    · clear hs6
      refine Or.inl ⟨_, _, f14, ?_⟩
      show am_W X _ 165 183 _ [] h13 _
      refine aw_vload_n (pc1 := 184) at_165_183 l0 i0 rfl ?_
      obtain ⟨v15, e16, hs8⟩ := am_bind hs7
      clear hs7
      refine aw_pG (pc1 := 187) at_165_184 (am_vR_s e16).1 rfl ?_
      refine aw_iload_n (pc1 := 188) at_165_187 l1 rfl ?_
      refine aw_iconst (v := 1) (pc1 := 189) at_165_188 (by decide) rfl ?_
      refine aw_iload_n (pc1 := 190) at_165_189 l2 rfl ?_
      by_cases c17 : ¬ x2 = 0
      · rw [if_pos c17] at hs8
        refine aw_ifne_t at_165_190 c17 ?_
        refine aw_iconst (v := 0) (pc1 := 198) at_165_197 (by decide) rfl ?_
        exact rg_165_198 v15 x1 1 0 h13 o  (am_vR_s e16).2 hs8
      · rw [if_neg c17] at hs8
        refine aw_ifne_f (pc1 := 193) at_165_190 c17 rfl ?_
        refine aw_iconst (v := 1) (pc1 := 194) at_165_193 (by decide) rfl ?_
        refine aw_goto at_165_194 ?_
        exact rg_165_198 v15 x1 1 1 h13 o  (am_vR_s e16).2 hs8
    · clear hs6
      exact Or.inr hs7
  · clear hs3
    exact Or.inr hs4
def fg_165_160 (N : Nat) (h : am_H) : Option am_O := some (.inl (some (.int 0), h))
theorem rg_165_160 {X : am_X} {d : Nat} {N : Nat} {lv : am_LV} (h : am_H) (o : am_O) (hs : fg_165_160 N h = some o) : am_W X (d + 2) 165 160 lv [] h (fun q => q = o) := by
  unfold fg_165_160 at hs
  refine aw_iconst (v := 0) (pc1 := 161) at_165_160 (by decide) rfl ?_
  cases hs
  exact aw_iret at_165_161 (by rw [rt_165]; decide) rfl
def fg_165_129 (N : Nat) (x0 : Value) (x1 : Int32) (x2 : Int32) (x3 : Int32) (x4 : Int32) (h : am_H) : Option am_O := (if ¬ x3 = 19 then (fg_165_162 N x0 x1 x2 h) else ((am_vR (am_pG 5 x0 h)).bind fun v2 => ((am_vI (am_pG 771 v2 h)).bind fun v4 => (if v4 ≤ x4 then (fg_165_162 N x0 x1 x2 h) else ((am_vR (am_pG 2 x0 h)).bind fun v7 => ((am_vR (am_pG 1797 v7 h)).bind fun v9 => ((am_pA 2 v9 x4 h).bind fun v11 => (if v11 = 0 then (fg_165_162 N x0 x1 x2 h) else (fg_165_160 N h)))))))))
theorem rg_165_129 {X : am_X} {d : Nat} {N : Nat} {lv : am_LV} (x0 : Value) (x1 : Int32) (x2 : Int32) (x3 : Int32) (x4 : Int32) (h : am_H) (o : am_O) (l0 : lv.lookup 0 = some x0) (l1 : lv.lookup 1 = some (.int x1)) (l2 : lv.lookup 2 = some (.int x2)) (l3 : lv.lookup 3 = some (.int x3)) (l4 : lv.lookup 4 = some (.int x4)) (i0 : am_isR x0 = true) (hs : fg_165_129 N x0 x1 x2 x3 x4 h = some o) : am_W X (d + 2) 165 129 lv [] h (fun q => q = o) := by
  unfold fg_165_129 at hs
  refine aw_iload_n (pc1 := 130) at_165_129 l3 rfl ?_
  refine aw_bipush (v := 19) (pc1 := 132) at_165_130 (by decide) rfl ?_
  by_cases c1 : ¬ x3 = 19
  · rw [if_pos c1] at hs
    refine aw_icne_t at_165_132 c1 ?_
    exact rg_165_162 x0 x1 x2 h o l0 l1 l2 i0 hs
  · rw [if_neg c1] at hs
    refine aw_icne_f (pc1 := 135) at_165_132 c1 rfl ?_
    refine aw_iload (pc1 := 137) at_165_135 l4 rfl ?_
    refine aw_vload_n (pc1 := 138) at_165_137 l0 i0 rfl ?_
    obtain ⟨v2, e3, hs1⟩ := am_bind hs
    clear hs
    refine aw_pG (pc1 := 141) at_165_138 (am_vR_s e3).1 rfl ?_
    obtain ⟨v4, e5, hs2⟩ := am_bind hs1
    clear hs1
    refine aw_pG (pc1 := 144) at_165_141 (am_vI_s e5) rfl ?_
    by_cases c6 : v4 ≤ x4
    · rw [if_pos c6] at hs2
      refine aw_icge_t at_165_144 c6 ?_
      exact rg_165_162 x0 x1 x2 h o l0 l1 l2 i0 hs2
    · rw [if_neg c6] at hs2
      refine aw_icge_f (pc1 := 147) at_165_144 c6 rfl ?_
      refine aw_vload_n (pc1 := 148) at_165_147 l0 i0 rfl ?_
      obtain ⟨v7, e8, hs3⟩ := am_bind hs2
      clear hs2
      refine aw_pG (pc1 := 151) at_165_148 (am_vR_s e8).1 rfl ?_
      obtain ⟨v9, e10, hs4⟩ := am_bind hs3
      clear hs3
      refine aw_pG (pc1 := 154) at_165_151 (am_vR_s e10).1 rfl ?_
      refine aw_iload (pc1 := 156) at_165_154 l4 rfl ?_
      obtain ⟨v11, e12, hs5⟩ := am_bind hs4
      clear hs4
      refine aw_pA (pc1 := 157) at_165_156 (Or.inr (Or.inl ⟨rfl, rfl⟩)) e12 rfl ?_
      by_cases c13 : v11 = 0
      · rw [if_pos c13] at hs5
        refine aw_ifeq_t at_165_157 c13 ?_
        exact rg_165_162 x0 x1 x2 h o l0 l1 l2 i0 hs5
      · rw [if_neg c13] at hs5
        refine aw_ifeq_f (pc1 := 160) at_165_157 c13 rfl ?_
        exact rg_165_160 h o   hs5
def fg_165_86 (N : Nat) (x0 : Value) (x1 : Int32) (x2 : Int32) (x3 : Int32) (x4 : Int32) (h : am_H) : Option am_O := (if ¬ x2 = 19 then (fg_165_129 N x0 x1 x2 x3 x4 h) else ((am_vR (am_pG 2 x0 h)).bind fun v2 => ((am_vR (am_pG 1795 v2 h)).bind fun v4 => ((am_pA 2 v4 x1 h).bind fun v6 => (if ¬ v6 = 0 then (fg_165_160 N h) else ((am_vR (am_pG 5 x0 h)).bind fun v9 => ((am_vI (am_pG 771 v9 h)).bind fun v11 => (if v11 ≤ x4 then (fg_165_129 N x0 x1 x2 x3 x4 h) else ((am_vR (am_pG 2 x0 h)).bind fun v14 => ((am_vR (am_pG 1796 v14 h)).bind fun v16 => ((am_pA 2 v16 x4 h).bind fun v18 => (if ¬ v18 = 0 then (fg_165_160 N h) else (fg_165_129 N x0 x1 x2 x3 x4 h)))))))))))))
theorem rg_165_86 {X : am_X} {d : Nat} {N : Nat} {lv : am_LV} (x0 : Value) (x1 : Int32) (x2 : Int32) (x3 : Int32) (x4 : Int32) (h : am_H) (o : am_O) (l0 : lv.lookup 0 = some x0) (l1 : lv.lookup 1 = some (.int x1)) (l2 : lv.lookup 2 = some (.int x2)) (l3 : lv.lookup 3 = some (.int x3)) (l4 : lv.lookup 4 = some (.int x4)) (i0 : am_isR x0 = true) (hs : fg_165_86 N x0 x1 x2 x3 x4 h = some o) : am_W X (d + 2) 165 86 lv [] h (fun q => q = o) := by
  unfold fg_165_86 at hs
  refine aw_iload_n (pc1 := 87) at_165_86 l2 rfl ?_
  refine aw_bipush (v := 19) (pc1 := 89) at_165_87 (by decide) rfl ?_
  by_cases c1 : ¬ x2 = 19
  · rw [if_pos c1] at hs
    refine aw_icne_t at_165_89 c1 ?_
    exact rg_165_129 x0 x1 x2 x3 x4 h o l0 l1 l2 l3 l4 i0 hs
  · rw [if_neg c1] at hs
    refine aw_icne_f (pc1 := 92) at_165_89 c1 rfl ?_
    refine aw_vload_n (pc1 := 93) at_165_92 l0 i0 rfl ?_
    obtain ⟨v2, e3, hs1⟩ := am_bind hs
    clear hs
    refine aw_pG (pc1 := 96) at_165_93 (am_vR_s e3).1 rfl ?_
    obtain ⟨v4, e5, hs2⟩ := am_bind hs1
    clear hs1
    refine aw_pG (pc1 := 99) at_165_96 (am_vR_s e5).1 rfl ?_
    refine aw_iload_n (pc1 := 100) at_165_99 l1 rfl ?_
    obtain ⟨v6, e7, hs3⟩ := am_bind hs2
    clear hs2
    refine aw_pA (pc1 := 101) at_165_100 (Or.inr (Or.inl ⟨rfl, rfl⟩)) e7 rfl ?_
    by_cases c8 : ¬ v6 = 0
    · rw [if_pos c8] at hs3
      refine aw_ifne_t at_165_101 c8 ?_
      exact rg_165_160 h o   hs3
    · rw [if_neg c8] at hs3
      refine aw_ifne_f (pc1 := 104) at_165_101 c8 rfl ?_
      refine aw_iload (pc1 := 106) at_165_104 l4 rfl ?_
      refine aw_vload_n (pc1 := 107) at_165_106 l0 i0 rfl ?_
      obtain ⟨v9, e10, hs4⟩ := am_bind hs3
      clear hs3
      refine aw_pG (pc1 := 110) at_165_107 (am_vR_s e10).1 rfl ?_
      obtain ⟨v11, e12, hs5⟩ := am_bind hs4
      clear hs4
      refine aw_pG (pc1 := 113) at_165_110 (am_vI_s e12) rfl ?_
      by_cases c13 : v11 ≤ x4
      · rw [if_pos c13] at hs5
        refine aw_icge_t at_165_113 c13 ?_
        exact rg_165_129 x0 x1 x2 x3 x4 h o l0 l1 l2 l3 l4 i0 hs5
      · rw [if_neg c13] at hs5
        refine aw_icge_f (pc1 := 116) at_165_113 c13 rfl ?_
        refine aw_vload_n (pc1 := 117) at_165_116 l0 i0 rfl ?_
        obtain ⟨v14, e15, hs6⟩ := am_bind hs5
        clear hs5
        refine aw_pG (pc1 := 120) at_165_117 (am_vR_s e15).1 rfl ?_
        obtain ⟨v16, e17, hs7⟩ := am_bind hs6
        clear hs6
        refine aw_pG (pc1 := 123) at_165_120 (am_vR_s e17).1 rfl ?_
        refine aw_iload (pc1 := 125) at_165_123 l4 rfl ?_
        obtain ⟨v18, e19, hs8⟩ := am_bind hs7
        clear hs7
        refine aw_pA (pc1 := 126) at_165_125 (Or.inr (Or.inl ⟨rfl, rfl⟩)) e19 rfl ?_
        by_cases c20 : ¬ v18 = 0
        · rw [if_pos c20] at hs8
          refine aw_ifne_t at_165_126 c20 ?_
          exact rg_165_160 h o   hs8
        · rw [if_neg c20] at hs8
          refine aw_ifne_f (pc1 := 129) at_165_126 c20 rfl ?_
          exact rg_165_129 x0 x1 x2 x3 x4 h o l0 l1 l2 l3 l4 i0 hs8
def fg_165_74 (N : Nat) (x0 : Value) (x1 : Int32) (x2 : Int32) (x3 : Int32) (x4 : Int32) (h : am_H) : Option am_O := ((am_vR (am_pG 2 x0 h)).bind fun v1 => ((am_vR (am_pG 1795 v1 h)).bind fun v3 => ((am_pA 2 v3 x1 h).bind fun v5 => (if v5 = 0 then (fg_165_160 N h) else (fg_165_86 N x0 x1 x2 x3 x4 h)))))
theorem rg_165_74 {X : am_X} {d : Nat} {N : Nat} {lv : am_LV} (x0 : Value) (x1 : Int32) (x2 : Int32) (x3 : Int32) (x4 : Int32) (h : am_H) (o : am_O) (l0 : lv.lookup 0 = some x0) (l1 : lv.lookup 1 = some (.int x1)) (l2 : lv.lookup 2 = some (.int x2)) (l3 : lv.lookup 3 = some (.int x3)) (l4 : lv.lookup 4 = some (.int x4)) (i0 : am_isR x0 = true) (hs : fg_165_74 N x0 x1 x2 x3 x4 h = some o) : am_W X (d + 2) 165 74 lv [] h (fun q => q = o) := by
  unfold fg_165_74 at hs
  refine aw_vload_n (pc1 := 75) at_165_74 l0 i0 rfl ?_
  obtain ⟨v1, e2, hs1⟩ := am_bind hs
  clear hs
  refine aw_pG (pc1 := 78) at_165_75 (am_vR_s e2).1 rfl ?_
  obtain ⟨v3, e4, hs2⟩ := am_bind hs1
  clear hs1
  refine aw_pG (pc1 := 81) at_165_78 (am_vR_s e4).1 rfl ?_
  refine aw_iload_n (pc1 := 82) at_165_81 l1 rfl ?_
  obtain ⟨v5, e6, hs3⟩ := am_bind hs2
  clear hs2
  refine aw_pA (pc1 := 83) at_165_82 (Or.inr (Or.inl ⟨rfl, rfl⟩)) e6 rfl ?_
  by_cases c7 : v5 = 0
  · rw [if_pos c7] at hs3
    refine aw_ifeq_t at_165_83 c7 ?_
    exact rg_165_160 h o   hs3
  · rw [if_neg c7] at hs3
    refine aw_ifeq_f (pc1 := 86) at_165_83 c7 rfl ?_
    exact rg_165_86 x0 x1 x2 x3 x4 h o l0 l1 l2 l3 l4 i0 hs3
def fg_165_61 (N : Nat) (h : am_H) : Option am_O := some (.inl (some (.int 0), h))
theorem rg_165_61 {X : am_X} {d : Nat} {N : Nat} {lv : am_LV} (h : am_H) (o : am_O) (hs : fg_165_61 N h = some o) : am_W X (d + 2) 165 61 lv [] h (fun q => q = o) := by
  unfold fg_165_61 at hs
  refine aw_iconst (v := 0) (pc1 := 62) at_165_61 (by decide) rfl ?_
  cases hs
  exact aw_iret at_165_62 (by rw [rt_165]; decide) rfl
def fg_165_0 (N : Nat) (x0 : Value) (x1 : Int32) (x2 : Int32) (h : am_H) : Option am_O := ((am_vR (am_pG 5 x0 h)).bind fun v1 => (if am_pOk 3 v1 h then am_cI true (fm_54 v1 x1 0 h) (fun v4 h5 => ((am_vR (am_pG 2 x0 h5)).bind fun v7 => (if am_pOk 7 v7 h5 then am_cI true (fm_166 N v7 x1 1 h5) (fun v10 h11 => (if x2 = v4 then (fg_165_61 N h11) else am_cI false (fm_14 x2 h11) (fun v14 h15 => am_cI false (fm_14 v4 h15) (fun v17 h18 => (if ¬ v14 = v17 then (fg_165_61 N h18) else am_cI false (fm_11 x2 h18) (fun v21 h22 => am_cI false (fm_11 v4 h22) (fun v24 h25 => (if ¬ v21 = v24 then (fg_165_61 N h25) else am_cI false (fm_13 x2 0 h25) (fun v28 h29 => am_cI false (fm_13 v4 0 h29) (fun v31 h32 => (if v28 = v31 then (if x2 = 5 then (fg_165_74 N x0 x1 x2 v4 v10 h32) else (if ¬ x2 = 6 then (fg_165_86 N x0 x1 x2 v4 v10 h32) else (fg_165_74 N x0 x1 x2 v4 v10 h32))) else (fg_165_61 N h32)))))))))))) else none))) else none))
theorem rg_165_0 {X : am_X} {d : Nat} {N : Nat} {lv : am_LV} (x0 : Value) (x1 : Int32) (x2 : Int32) (h : am_H) (o : am_O) (l0 : lv.lookup 0 = some x0) (l1 : lv.lookup 1 = some (.int x1)) (l2 : lv.lookup 2 = some (.int x2)) (i0 : am_isR x0 = true) (hs : fg_165_0 N x0 x1 x2 h = some o) : am_W X (d + 2) 165 0 lv [] h (fun q => q = o) := by
  unfold fg_165_0 at hs
  refine aw_vload_n (pc1 := 1) at_165_0 l0 i0 rfl ?_
  obtain ⟨v1, e2, hs1⟩ := am_bind hs
  clear hs
  refine aw_pG (pc1 := 4) at_165_1 (am_vR_s e2).1 rfl ?_
  refine aw_iload_n (pc1 := 5) at_165_4 l1 rfl ?_
  refine aw_iconst (v := 0) (pc1 := 6) at_165_5 (by decide) rfl ?_
  obtain ⟨z3, hs2⟩ := am_ift hs1
  clear hs1
  refine aw_call (F := fm_54 v1 x1 0 h) (t := true) (na := 3) (kd := 1) (as := [v1, (.int x1), (.int 0)]) at_165_6 (am_k3v kb_54) mn_54 mk_54 rfl rfl (am_ok_v mi_54 (am_hl rfl (am_ccR (am_vR_s e2).2 (am_ccI (am_ccI am_cats_0))) rfl) z3) (am_hc am_cats_0 rfl) (fun _ => ⟨rfl, hh_165⟩) (fun o1 hz9 => rm_54 v1 x1 0 h o1 (am_vR_s e2).2 hz9) ?_
  rcases am_cI_s hs2 with ⟨v4, h5, f6, hs3⟩ | hs3
  · clear hs2
    refine Or.inl ⟨_, _, f6, ?_⟩
    show am_W X _ 165 9 _ [(.int v4)] h5 _
    refine aw_istore_n (lv1 := am_put1 _ 3 _) (pc1 := 10) at_165_9 rfl rfl ?_
    refine aw_vload_n (pc1 := 11) at_165_10 (am_lk1 l0 rfl rfl) i0 rfl ?_
    obtain ⟨v7, e8, hs4⟩ := am_bind hs3
    clear hs3
    refine aw_pG (pc1 := 14) at_165_11 (am_vR_s e8).1 rfl ?_
    refine aw_iload_n (pc1 := 15) at_165_14 (am_lk1 l1 rfl rfl) rfl ?_
    refine aw_iconst (v := 1) (pc1 := 16) at_165_15 (by decide) rfl ?_
    obtain ⟨z9, hs5⟩ := am_ift hs4
    clear hs4
    refine aw_call (F := fm_166 N v7 x1 1 h5) (t := true) (na := 3) (kd := 1) (as := [v7, (.int x1), (.int 1)]) at_165_16 (am_k3v kb_166) mn_166 mk_166 rfl rfl (am_ok_v mi_166 (am_hl rfl (am_ccR (am_vR_s e8).2 (am_ccI (am_ccI am_cats_0))) rfl) z9) (am_hc am_cats_0 rfl) (fun _ => ⟨rfl, hh_165⟩) (fun o1 hz9 => rm_166 v7 x1 1 h5 o1 (am_vR_s e8).2 hz9) ?_
    rcases am_cI_s hs5 with ⟨v10, h11, f12, hs6⟩ | hs6
    · clear hs5
      refine Or.inl ⟨_, _, f12, ?_⟩
      show am_W X _ 165 19 _ [(.int v10)] h11 _
      refine aw_istore (lv1 := am_put1 _ 4 _) (pc1 := 21) at_165_19 rfl rfl ?_
      refine aw_iload_n (pc1 := 22) at_165_21 (am_lk1 (am_lk1 l2 rfl rfl) rfl rfl) rfl ?_
      refine aw_iload_n (pc1 := 23) at_165_22 (am_lk1 am_lk0 rfl rfl) rfl ?_
      by_cases c13 : x2 = v4
      · rw [if_pos c13] at hs6
        refine aw_iceq_t at_165_23 c13 ?_
        exact rg_165_61 h11 o   hs6
      · rw [if_neg c13] at hs6
        refine aw_iceq_f (pc1 := 26) at_165_23 c13 rfl ?_
        refine aw_iload_n (pc1 := 27) at_165_26 (am_lk1 (am_lk1 l2 rfl rfl) rfl rfl) rfl ?_
        refine aw_call (F := fm_14 x2 h11) (t := false) (na := 1) (kd := 0) (as := [(.int x2)]) at_165_27 (am_k3s kb_14) mn_14 mk_14 rfl rfl (am_ok_s mi_14 (am_hl rfl (am_ccI am_cats_0) rfl)) (am_hc am_cats_0 rfl) (fun hz9 => by cases hz9) (fun o1 hz9 => rm_14 x2 h11 o1  hz9) ?_
        rcases am_cI_s hs6 with ⟨v14, h15, f16, hs7⟩ | hs7
        · clear hs6
          refine Or.inl ⟨_, _, f16, ?_⟩
          show am_W X _ 165 30 _ [(.int v14)] h15 _
          refine aw_iload_n (pc1 := 31) at_165_30 (am_lk1 am_lk0 rfl rfl) rfl ?_
          refine aw_call (F := fm_14 v4 h15) (t := false) (na := 1) (kd := 0) (as := [(.int v4)]) at_165_31 (am_k3s kb_14) mn_14 mk_14 rfl rfl (am_ok_s mi_14 (am_hl rfl (am_ccI am_cats_0) rfl)) (am_hc (am_ccI am_cats_0) rfl) (fun hz9 => by cases hz9) (fun o1 hz9 => rm_14 v4 h15 o1  hz9) ?_
          rcases am_cI_s hs7 with ⟨v17, h18, f19, hs8⟩ | hs8
          · clear hs7
            refine Or.inl ⟨_, _, f19, ?_⟩
            show am_W X _ 165 34 _ [(.int v17), (.int v14)] h18 _
            by_cases c20 : ¬ v14 = v17
            · rw [if_pos c20] at hs8
              refine aw_icne_t at_165_34 c20 ?_
              exact rg_165_61 h18 o   hs8
            · rw [if_neg c20] at hs8
              refine aw_icne_f (pc1 := 37) at_165_34 c20 rfl ?_
              refine aw_iload_n (pc1 := 38) at_165_37 (am_lk1 (am_lk1 l2 rfl rfl) rfl rfl) rfl ?_
              refine aw_call (F := fm_11 x2 h18) (t := false) (na := 1) (kd := 0) (as := [(.int x2)]) at_165_38 (am_k3s kb_11) mn_11 mk_11 rfl rfl (am_ok_s mi_11 (am_hl rfl (am_ccI am_cats_0) rfl)) (am_hc am_cats_0 rfl) (fun hz9 => by cases hz9) (fun o1 hz9 => rm_11 x2 h18 o1  hz9) ?_
              rcases am_cI_s hs8 with ⟨v21, h22, f23, hs9⟩ | hs9
              · clear hs8
                refine Or.inl ⟨_, _, f23, ?_⟩
                show am_W X _ 165 41 _ [(.int v21)] h22 _
                refine aw_iload_n (pc1 := 42) at_165_41 (am_lk1 am_lk0 rfl rfl) rfl ?_
                refine aw_call (F := fm_11 v4 h22) (t := false) (na := 1) (kd := 0) (as := [(.int v4)]) at_165_42 (am_k3s kb_11) mn_11 mk_11 rfl rfl (am_ok_s mi_11 (am_hl rfl (am_ccI am_cats_0) rfl)) (am_hc (am_ccI am_cats_0) rfl) (fun hz9 => by cases hz9) (fun o1 hz9 => rm_11 v4 h22 o1  hz9) ?_
                rcases am_cI_s hs9 with ⟨v24, h25, f26, hs10⟩ | hs10
                · clear hs9
                  refine Or.inl ⟨_, _, f26, ?_⟩
                  show am_W X _ 165 45 _ [(.int v24), (.int v21)] h25 _
                  by_cases c27 : ¬ v21 = v24
                  · rw [if_pos c27] at hs10
                    refine aw_icne_t at_165_45 c27 ?_
                    exact rg_165_61 h25 o   hs10
                  · rw [if_neg c27] at hs10
                    refine aw_icne_f (pc1 := 48) at_165_45 c27 rfl ?_
                    refine aw_iload_n (pc1 := 49) at_165_48 (am_lk1 (am_lk1 l2 rfl rfl) rfl rfl) rfl ?_
                    refine aw_iconst (v := 0) (pc1 := 50) at_165_49 (by decide) rfl ?_
                    refine aw_call (F := fm_13 x2 0 h25) (t := false) (na := 2) (kd := 0) (as := [(.int x2), (.int 0)]) at_165_50 (am_k3s kb_13) mn_13 mk_13 rfl rfl (am_ok_s mi_13 (am_hl rfl (am_ccI (am_ccI am_cats_0)) rfl)) (am_hc am_cats_0 rfl) (fun hz9 => by cases hz9) (fun o1 hz9 => rm_13 x2 0 h25 o1  hz9) ?_
                    rcases am_cI_s hs10 with ⟨v28, h29, f30, hs11⟩ | hs11
                    · clear hs10
                      refine Or.inl ⟨_, _, f30, ?_⟩
                      show am_W X _ 165 53 _ [(.int v28)] h29 _
                      refine aw_iload_n (pc1 := 54) at_165_53 (am_lk1 am_lk0 rfl rfl) rfl ?_
                      refine aw_iconst (v := 0) (pc1 := 55) at_165_54 (by decide) rfl ?_
                      refine aw_call (F := fm_13 v4 0 h29) (t := false) (na := 2) (kd := 0) (as := [(.int v4), (.int 0)]) at_165_55 (am_k3s kb_13) mn_13 mk_13 rfl rfl (am_ok_s mi_13 (am_hl rfl (am_ccI (am_ccI am_cats_0)) rfl)) (am_hc (am_ccI am_cats_0) rfl) (fun hz9 => by cases hz9) (fun o1 hz9 => rm_13 v4 0 h29 o1  hz9) ?_
                      rcases am_cI_s hs11 with ⟨v31, h32, f33, hs12⟩ | hs12
                      · clear hs11
                        refine Or.inl ⟨_, _, f33, ?_⟩
                        show am_W X _ 165 58 _ [(.int v31), (.int v28)] h32 _
                        by_cases c34 : v28 = v31
                        · rw [if_pos c34] at hs12
                          refine aw_iceq_t at_165_58 c34 ?_
                          refine aw_iload_n (pc1 := 64) at_165_63 (am_lk1 (am_lk1 l2 rfl rfl) rfl rfl) rfl ?_
                          refine aw_iconst (v := 5) (pc1 := 65) at_165_64 (by decide) rfl ?_
                          by_cases c35 : x2 = 5
                          · rw [if_pos c35] at hs12
                            refine aw_iceq_t at_165_65 c35 ?_
                            exact rg_165_74 x0 x1 x2 v4 v10 h32 o (am_lk1 (am_lk1 l0 rfl rfl) rfl rfl) (am_lk1 (am_lk1 l1 rfl rfl) rfl rfl) (am_lk1 (am_lk1 l2 rfl rfl) rfl rfl) (am_lk1 am_lk0 rfl rfl) am_lk0 i0 hs12
                          · rw [if_neg c35] at hs12
                            refine aw_iceq_f (pc1 := 68) at_165_65 c35 rfl ?_
                            refine aw_iload_n (pc1 := 69) at_165_68 (am_lk1 (am_lk1 l2 rfl rfl) rfl rfl) rfl ?_
                            refine aw_bipush (v := 6) (pc1 := 71) at_165_69 (by decide) rfl ?_
                            by_cases c36 : ¬ x2 = 6
                            · rw [if_pos c36] at hs12
                              refine aw_icne_t at_165_71 c36 ?_
                              exact rg_165_86 x0 x1 x2 v4 v10 h32 o (am_lk1 (am_lk1 l0 rfl rfl) rfl rfl) (am_lk1 (am_lk1 l1 rfl rfl) rfl rfl) (am_lk1 (am_lk1 l2 rfl rfl) rfl rfl) (am_lk1 am_lk0 rfl rfl) am_lk0 i0 hs12
                            · rw [if_neg c36] at hs12
                              refine aw_icne_f (pc1 := 74) at_165_71 c36 rfl ?_
                              exact rg_165_74 x0 x1 x2 v4 v10 h32 o (am_lk1 (am_lk1 l0 rfl rfl) rfl rfl) (am_lk1 (am_lk1 l1 rfl rfl) rfl rfl) (am_lk1 (am_lk1 l2 rfl rfl) rfl rfl) (am_lk1 am_lk0 rfl rfl) am_lk0 i0 hs12
                        · rw [if_neg c34] at hs12
                          refine aw_iceq_f (pc1 := 61) at_165_58 c34 rfl ?_
                          exact rg_165_61 h32 o   hs12
                      · clear hs11
                        exact Or.inr hs12
                    · clear hs10
                      exact Or.inr hs11
                · clear hs9
                  exact Or.inr hs10
              · clear hs8
                exact Or.inr hs9
          · clear hs7
            exact Or.inr hs8
        · clear hs6
          exact Or.inr hs7
    · clear hs5
      exact Or.inr hs6
  · clear hs2
    exact Or.inr hs3
def fm_165 (N : Nat) (y0 : Value) (y1 : Int32) (y2 : Int32) (h : am_H) : Option am_O := fg_165_0 N y0 y1 y2 h
theorem rm_165 {X : am_X} {d : Nat} {N : Nat} (y0 : Value) (y1 : Int32) (y2 : Int32) (h : am_H) (o : am_O) (i0 : am_isR y0 = true) (hs : fm_165 N y0 y1 y2 h = some o) : am_W X (d + 2) 165 0 (am_args 0 [y0, .int y1, .int y2]) [] h (fun q => q = o) := by
  rw [am_args_R i0, am_args_I, am_args_I]
  exact rg_165_0 y0 y1 y2 h o rfl rfl rfl i0 hs
