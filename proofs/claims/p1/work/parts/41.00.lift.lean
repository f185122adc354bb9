/-! ===== methods as functions ===== -/
def fg_3_0 (x0 : Value) (h : am_H) : Option am_O := (if am_pRf x0 then ((am_pNew 0 60 h).bind fun h2 => ((am_pP 1792 x0 (Value.ref h.length) h2).bind fun h4 => ((am_pNew 0 60 h4).bind fun h6 => ((am_pP 1793 x0 (Value.ref h4.length) h6).bind fun h8 => ((am_pNew 0 60 h8).bind fun h10 => ((am_pP 1794 x0 (Value.ref h8.length) h10).bind fun h12 => ((am_pNew 2 60 h12).bind fun h14 => ((am_pP 1795 x0 (Value.ref h12.length) h14).bind fun h16 => ((am_pNew 2 60 h16).bind fun h18 => ((am_pP 1796 x0 (Value.ref h16.length) h18).bind fun h20 => ((am_pNew 2 60 h20).bind fun h22 => ((am_pP 1797 x0 (Value.ref h20.length) h22).bind fun h24 => ((am_pNew 0 61 h24).bind fun h26 => ((am_pP 1798 x0 (Value.ref h24.length) h26).bind fun h28 => ((am_pP 1799 x0 (.int 0) h28).bind fun h30 => some (.inl (none, h30))))))))))))))))) else none)
theorem rg_3_0 {X : am_X} {d : Nat} {lv : am_LV} (x0 : Value) (h : am_H) (o : am_O) (l0 : lv.lookup 0 = some x0) (i0 : am_isR x0 = true) (hs : fg_3_0 x0 h = some o) : am_W X (d) 3 0 lv [] h (fun q => q = o) := by
  unfold fg_3_0 at hs
  refine aw_vload_n (pc1 := 1) at_3_0 l0 i0 rfl ?_
  obtain ⟨z1, hs1⟩ := am_ift hs
  clear hs
  refine aw_obi at_3_1 rfl z1 (am_hc am_cats_0 rfl) ?_
  refine aw_vload_n (pc1 := 5) at_3_4 l0 i0 rfl ?_
  refine aw_bipush (v := 60) (pc1 := 7) at_3_5 (by decide) rfl ?_
  obtain ⟨h2, e3, hs2⟩ := am_bind hs1
  clear hs1
  refine aw_pNew (pc1 := 9) at_3_7 e3 rfl ?_
  obtain ⟨h4, e5, hs3⟩ := am_bind hs2
  clear hs2
  refine aw_pP (pc1 := 12) at_3_9 e5 rfl ?_
  refine aw_vload_n (pc1 := 13) at_3_12 l0 i0 rfl ?_
  refine aw_bipush (v := 60) (pc1 := 15) at_3_13 (by decide) rfl ?_
  obtain ⟨h6, e7, hs4⟩ := am_bind hs3
  clear hs3
  refine aw_pNew (pc1 := 17) at_3_15 e7 rfl ?_
  obtain ⟨h8, e9, hs5⟩ := am_bind hs4
  clear hs4
  refine aw_pP (pc1 := 20) at_3_17 e9 rfl ?_
  refine aw_vload_n (pc1 := 21) at_3_20 l0 i0 rfl ?_
  refine aw_bipush (v := 60) (pc1 := 23) at_3_21 (by decide) rfl ?_
  obtain ⟨h10, e11, hs6⟩ := am_bind hs5
  clear hs5
  refine aw_pNew (pc1 := 25) at_3_23 e11 rfl ?_
  obtain ⟨h12, e13, hs7⟩ := am_bind hs6
  clear hs6
  refine aw_pP (pc1 := 28) at_3_25 e13 rfl ?_
  refine aw_vload_n (pc1 := 29) at_3_28 l0 i0 rfl ?_
  refine aw_bipush (v := 60) (pc1 := 31) at_3_29 (by decide) rfl ?_
  obtain ⟨h14, e15, hs8⟩ := am_bind hs7
  clear hs7
  refine aw_pNew (pc1 := 33) at_3_31 e15 rfl ?_
  obtain ⟨h16, e17, hs9⟩ := am_bind hs8
  clear hs8
  refine aw_pP (pc1 := 36) at_3_33 e17 rfl ?_
  refine aw_vload_n (pc1 := 37) at_3_36 l0 i0 rfl ?_
  refine aw_bipush (v := 60) (pc1 := 39) at_3_37 (by decide) rfl ?_
  obtain ⟨h18, e19, hs10⟩ := am_bind hs9
  clear hs9
  refine aw_pNew (pc1 := 41) at_3_39 e19 rfl ?_
  obtain ⟨h20, e21, hs11⟩ := am_bind hs10
  clear hs10
  refine aw_pP (pc1 := 44) at_3_41 e21 rfl ?_
  refine aw_vload_n (pc1 := 45) at_3_44 l0 i0 rfl ?_
  refine aw_bipush (v := 60) (pc1 := 47) at_3_45 (by decide) rfl ?_
  obtain ⟨h22, e23, hs12⟩ := am_bind hs11
  clear hs11
  refine aw_pNew (pc1 := 49) at_3_47 e23 rfl ?_
  obtain ⟨h24, e25, hs13⟩ := am_bind hs12
  clear hs12
  refine aw_pP (pc1 := 52) at_3_49 e25 rfl ?_
  refine aw_vload_n (pc1 := 53) at_3_52 l0 i0 rfl ?_
  refine aw_bipush (v := 61) (pc1 := 55) at_3_53 (by decide) rfl ?_
  obtain ⟨h26, e27, hs14⟩ := am_bind hs13
  clear hs13
  refine aw_pNew (pc1 := 57) at_3_55 e27 rfl ?_
  obtain ⟨h28, e29, hs15⟩ := am_bind hs14
  clear hs14
  refine aw_pP (pc1 := 60) at_3_57 e29 rfl ?_
  refine aw_vload_n (pc1 := 61) at_3_60 l0 i0 rfl ?_
  refine aw_iconst (v := 0) (pc1 := 62) at_3_61 (by decide) rfl ?_
  obtain ⟨h30, e31, hs16⟩ := am_bind hs15
  clear hs15
  refine aw_pP (pc1 := 65) at_3_62 e31 rfl ?_
  cases hs16
  exact aw_vret at_3_65 rt_3 rfl
def fm_3 (y0 : Value) (h : am_H) : Option am_O := fg_3_0 y0 h
theorem rm_3 {X : am_X} {d : Nat} (y0 : Value) (h : am_H) (o : am_O) (i0 : am_isR y0 = true) (hs : fm_3 y0 h = some o) : am_W X (d) 3 0 (am_args 0 [y0]) [] h (fun q => q = o) := by
  rw [am_args_R i0]
  exact rg_3_0 y0 h o rfl i0 hs
def fg_2_0 (x0 : Value) (h : am_H) : Option am_O := (if am_pRf x0 then ((am_pNew 3 240 h).bind fun h2 => ((am_pP 2304 x0 (Value.ref h.length) h2).bind fun h4 => ((am_pP 2305 x0 (.int 0) h4).bind fun h6 => ((am_pP 2306 x0 (.int 0) h6).bind fun h8 => ((am_pP 2307 x0 (.int (-1)) h8).bind fun h10 => ((am_pP 2308 x0 Value.null h10).bind fun h12 => ((am_pNew 0 60 h12).bind fun h14 => ((am_pP 2309 x0 (Value.ref h12.length) h14).bind fun h16 => ((am_pObj 7 h16).bind fun h18 => (if am_pOk 7 (Value.ref h16.length) h18 then am_cV false (fm_3 ((Value.ref h16.length)) h18) (fun h22 => ((am_pP 2310 x0 (Value.ref h16.length) h22).bind fun h24 => ((am_pNew 3 240 h24).bind fun h26 => ((am_pP 2311 x0 (Value.ref h24.length) h26).bind fun h28 => ((am_pP 2312 x0 (.int 0) h28).bind fun h30 => some (.inl (none, h30))))))) else none)))))))))) else none)
theorem rg_2_0 {X : am_X} {d : Nat} {lv : am_LV} (x0 : Value) (h : am_H) (o : am_O) (l0 : lv.lookup 0 = some x0) (i0 : am_isR x0 = true) (hs : fg_2_0 x0 h = some o) : am_W X (d + 1) 2 0 lv [] h (fun q => q = o) := by
  unfold fg_2_0 at hs
  refine aw_vload_n (pc1 := 1) at_2_0 l0 i0 rfl ?_
  obtain ⟨z1, hs1⟩ := am_ift hs
  clear hs
  refine aw_obi at_2_1 rfl z1 (am_hc am_cats_0 rfl) ?_
  refine aw_vload_n (pc1 := 5) at_2_4 l0 i0 rfl ?_
  refine aw_sipush (v := 240) (pc1 := 8) at_2_5 (by decide) rfl ?_
  obtain ⟨h2, e3, hs2⟩ := am_bind hs1
  clear hs1
  refine aw_pNew (pc1 := 10) at_2_8 e3 rfl ?_
  obtain ⟨h4, e5, hs3⟩ := am_bind hs2
  clear hs2
  refine aw_pP (pc1 := 13) at_2_10 e5 rfl ?_
  refine aw_vload_n (pc1 := 14) at_2_13 l0 i0 rfl ?_
  refine aw_iconst (v := 0) (pc1 := 15) at_2_14 (by decide) rfl ?_
  obtain ⟨h6, e7, hs4⟩ := am_bind hs3
  clear hs3
  refine aw_pP (pc1 := 18) at_2_15 e7 rfl ?_
  refine aw_vload_n (pc1 := 19) at_2_18 l0 i0 rfl ?_
  refine aw_iconst (v := 0) (pc1 := 20) at_2_19 (by decide) rfl ?_
  obtain ⟨h8, e9, hs5⟩ := am_bind hs4
  clear hs4
  refine aw_pP (pc1 := 23) at_2_20 e9 rfl ?_
  refine aw_vload_n (pc1 := 24) at_2_23 l0 i0 rfl ?_
  refine aw_iconst (v := (-1)) (pc1 := 25) at_2_24 (by decide) rfl ?_
  obtain ⟨h10, e11, hs6⟩ := am_bind hs5
  clear hs5
  refine aw_pP (pc1 := 28) at_2_25 e11 rfl ?_
  refine aw_vload_n (pc1 := 29) at_2_28 l0 i0 rfl ?_
  refine aw_null (pc1 := 30) at_2_29 rfl ?_
  obtain ⟨h12, e13, hs7⟩ := am_bind hs6
  clear hs6
  refine aw_pP (pc1 := 33) at_2_30 e13 rfl ?_
  refine aw_vload_n (pc1 := 34) at_2_33 l0 i0 rfl ?_
  refine aw_bipush (v := 60) (pc1 := 36) at_2_34 (by decide) rfl ?_
  obtain ⟨h14, e15, hs8⟩ := am_bind hs7
  clear hs7
  refine aw_pNew (pc1 := 38) at_2_36 e15 rfl ?_
  obtain ⟨h16, e17, hs9⟩ := am_bind hs8
  clear hs8
  refine aw_pP (pc1 := 41) at_2_38 e17 rfl ?_
  refine aw_vload_n (pc1 := 42) at_2_41 l0 i0 rfl ?_
  obtain ⟨h18, e19, hs10⟩ := am_bind hs9
  clear hs9
  refine aw_pObj (pc1 := 45) at_2_42 rfl rfl e19 rfl ?_
  refine aw_vdup (pc1 := 46) at_2_45 rfl rfl ?_
  obtain ⟨z20, hs11⟩ := am_ift hs10
  clear hs10
  refine aw_call (F := fm_3 ((Value.ref h16.length)) h18) (t := false) (na := 1) (kd := 2) (as := [(Value.ref h16.length)]) at_2_46 (am_k3p kb_3) mn_3 mk_3 rfl rfl (am_ok_v mi_3 (am_hl rfl (am_ccR rfl am_cats_0) rfl) z20) (am_hc (am_ccR rfl (am_ccR i0 am_cats_0)) rfl) (fun hz9 => by cases hz9) (fun o1 hz9 => rm_3 ((Value.ref h16.length)) h18 o1 rfl hz9) ?_
  rcases am_cV_s hs11 with ⟨h22, f23, hs12⟩ | hs12
  · clear hs11
    refine Or.inl ⟨_, _, f23, ?_⟩
    show am_W X _ 2 49 _ [(Value.ref h16.length), x0] h22 _
    obtain ⟨h24, e25, hs13⟩ := am_bind hs12
    clear hs12
    refine aw_pP (pc1 := 52) at_2_49 e25 rfl ?_
    refine aw_vload_n (pc1 := 53) at_2_52 l0 i0 rfl ?_
    refine aw_sipush (v := 240) (pc1 := 56) at_2_53 (by decide) rfl ?_
    obtain ⟨h26, e27, hs14⟩ := am_bind hs13
    clear hs13
    refine aw_pNew (pc1 := 58) at_2_56 e27 rfl ?_
    obtain ⟨h28, e29, hs15⟩ := am_bind hs14
    clear hs14
    refine aw_pP (pc1 := 61) at_2_58 e29 rfl ?_
    refine aw_vload_n (pc1 := 62) at_2_61 l0 i0 rfl ?_
    refine aw_iconst (v := 0) (pc1 := 63) at_2_62 (by decide) rfl ?_
    obtain ⟨h30, e31, hs16⟩ := am_bind hs15
    clear hs15
    refine aw_pP (pc1 := 66) at_2_63 e31 rfl ?_
    cases hs16
    exact aw_vret at_2_66 rt_2 rfl
  · clear hs11
    exact Or.inr hs12
def fm_2 (y0 : Value) (h : am_H) : Option am_O := fg_2_0 y0 h
theorem rm_2 {X : am_X} {d : Nat} (y0 : Value) (h : am_H) (o : am_O) (i0 : am_isR y0 = true) (hs : fm_2 y0 h = some o) : am_W X (d + 1) 2 0 (am_args 0 [y0]) [] h (fun q => q = o) := by
  rw [am_args_R i0]
  exact rg_2_0 y0 h o rfl i0 hs
def fg_5_0 (x0 : Value) (h : am_H) : Option am_O := (if am_pRf x0 then ((am_pP 1536 x0 (.int 200) h).bind fun h2 => ((am_pP 1537 x0 (.int 0) h2).bind fun h4 => ((am_pP 1538 x0 (.int 0) h4).bind fun h6 => ((am_pP 1539 x0 (.int 0) h6).bind fun h8 => ((am_pP 1540 x0 Value.null h8).bind fun h10 => ((am_pObj 7 h10).bind fun h12 => (if am_pOk 7 (Value.ref h10.length) h12 then am_cV false (fm_3 ((Value.ref h10.length)) h12) (fun h16 => ((am_pP 1541 x0 (Value.ref h10.length) h16).bind fun h18 => ((am_pP 1542 x0 (.int 0) h18).bind fun h20 => ((am_pP 1543 x0 (.int 0) h20).bind fun h22 => ((am_pP 1544 x0 (.int 0) h22).bind fun h24 => ((am_pNew 0 8 h24).bind fun h26 => ((am_pP 1545 x0 (Value.ref h24.length) h26).bind fun h28 => ((am_pP 1546 x0 (.int 0) h28).bind fun h30 => ((am_pP 1547 x0 (.int 0) h30).bind fun h32 => ((am_pP 1548 x0 (.int 0) h32).bind fun h34 => ((am_pNew 0 8 h34).bind fun h36 => ((am_pP 1549 x0 (Value.ref h34.length) h36).bind fun h38 => ((am_pP 1550 x0 (.int 0) h38).bind fun h40 => some (.inl (none, h40))))))))))))))) else none))))))) else none)
theorem rg_5_0 {X : am_X} {d : Nat} {lv : am_LV} (x0 : Value) (h : am_H) (o : am_O) (l0 : lv.lookup 0 = some x0) (i0 : am_isR x0 = true) (hs : fg_5_0 x0 h = some o) : am_W X (d + 1) 5 0 lv [] h (fun q => q = o) := by
  unfold fg_5_0 at hs
  refine aw_vload_n (pc1 := 1) at_5_0 l0 i0 rfl ?_
  obtain ⟨z1, hs1⟩ := am_ift hs
  clear hs
  refine aw_obi at_5_1 rfl z1 (am_hc am_cats_0 rfl) ?_
  refine aw_vload_n (pc1 := 5) at_5_4 l0 i0 rfl ?_
  refine aw_sipush (v := 200) (pc1 := 8) at_5_5 (by decide) rfl ?_
  obtain ⟨h2, e3, hs2⟩ := am_bind hs1
  clear hs1
  refine aw_pP (pc1 := 11) at_5_8 e3 rfl ?_
  refine aw_vload_n (pc1 := 12) at_5_11 l0 i0 rfl ?_
  refine aw_iconst (v := 0) (pc1 := 13) at_5_12 (by decide) rfl ?_
  obtain ⟨h4, e5, hs3⟩ := am_bind hs2
  clear hs2
  refine aw_pP (pc1 := 16) at_5_13 e5 rfl ?_
  refine aw_vload_n (pc1 := 17) at_5_16 l0 i0 rfl ?_
  refine aw_iconst (v := 0) (pc1 := 18) at_5_17 (by decide) rfl ?_
  obtain ⟨h6, e7, hs4⟩ := am_bind hs3
  clear hs3
  refine aw_pP (pc1 := 21) at_5_18 e7 rfl ?_
  refine aw_vload_n (pc1 := 22) at_5_21 l0 i0 rfl ?_
  refine aw_iconst (v := 0) (pc1 := 23) at_5_22 (by decide) rfl ?_
  obtain ⟨h8, e9, hs5⟩ := am_bind hs4
  clear hs4
  refine aw_pP (pc1 := 26) at_5_23 e9 rfl ?_
  refine aw_vload_n (pc1 := 27) at_5_26 l0 i0 rfl ?_
  refine aw_null (pc1 := 28) at_5_27 rfl ?_
  obtain ⟨h10, e11, hs6⟩ := am_bind hs5
  clear hs5
  refine aw_pP (pc1 := 31) at_5_28 e11 rfl ?_
  refine aw_vload_n (pc1 := 32) at_5_31 l0 i0 rfl ?_
  obtain ⟨h12, e13, hs7⟩ := am_bind hs6
  clear hs6
  refine aw_pObj (pc1 := 35) at_5_32 rfl rfl e13 rfl ?_
  refine aw_vdup (pc1 := 36) at_5_35 rfl rfl ?_
  obtain ⟨z14, hs8⟩ := am_ift hs7
  clear hs7
  refine aw_call (F := fm_3 ((Value.ref h10.length)) h12) (t := false) (na := 1) (kd := 2) (as := [(Value.ref h10.length)]) at_5_36 (am_k3p kb_3) mn_3 mk_3 rfl rfl (am_ok_v mi_3 (am_hl rfl (am_ccR rfl am_cats_0) rfl) z14) (am_hc (am_ccR rfl (am_ccR i0 am_cats_0)) rfl) (fun hz9 => by cases hz9) (fun o1 hz9 => rm_3 ((Value.ref h10.length)) h12 o1 rfl hz9) ?_
  rcases am_cV_s hs8 with ⟨h16, f17, hs9⟩ | hs9
  · clear hs8
    refine Or.inl ⟨_, _, f17, ?_⟩
    show am_W X _ 5 39 _ [(Value.ref h10.length), x0] h16 _
    obtain ⟨h18, e19, hs10⟩ := am_bind hs9
    clear hs9
    refine aw_pP (pc1 := 42) at_5_39 e19 rfl ?_
    refine aw_vload_n (pc1 := 43) at_5_42 l0 i0 rfl ?_
    refine aw_iconst (v := 0) (pc1 := 44) at_5_43 (by decide) rfl ?_
    obtain ⟨h20, e21, hs11⟩ := am_bind hs10
    clear hs10
    refine aw_pP (pc1 := 47) at_5_44 e21 rfl ?_
    refine aw_vload_n (pc1 := 48) at_5_47 l0 i0 rfl ?_
    refine aw_iconst (v := 0) (pc1 := 49) at_5_48 (by decide) rfl ?_
    obtain ⟨h22, e23, hs12⟩ := am_bind hs11
    clear hs11
    refine aw_pP (pc1 := 52) at_5_49 e23 rfl ?_
    refine aw_vload_n (pc1 := 53) at_5_52 l0 i0 rfl ?_
    refine aw_iconst (v := 0) (pc1 := 54) at_5_53 (by decide) rfl ?_
    obtain ⟨h24, e25, hs13⟩ := am_bind hs12
    clear hs12
    refine aw_pP (pc1 := 57) at_5_54 e25 rfl ?_
    refine aw_vload_n (pc1 := 58) at_5_57 l0 i0 rfl ?_
    refine aw_bipush (v := 8) (pc1 := 60) at_5_58 (by decide) rfl ?_
    obtain ⟨h26, e27, hs14⟩ := am_bind hs13
    clear hs13
    refine aw_pNew (pc1 := 62) at_5_60 e27 rfl ?_
    obtain ⟨h28, e29, hs15⟩ := am_bind hs14
    clear hs14
    refine aw_pP (pc1 := 65) at_5_62 e29 rfl ?_
    refine aw_vload_n (pc1 := 66) at_5_65 l0 i0 rfl ?_
    refine aw_iconst (v := 0) (pc1 := 67) at_5_66 (by decide) rfl ?_
    obtain ⟨h30, e31, hs16⟩ := am_bind hs15
    clear hs15
    refine aw_pP (pc1 := 70) at_5_67 e31 rfl ?_
    refine aw_vload_n (pc1 := 71) at_5_70 l0 i0 rfl ?_
    refine aw_iconst (v := 0) (pc1 := 72) at_5_71 (by decide) rfl ?_
    obtain ⟨h32, e33, hs17⟩ := am_bind hs16
    clear hs16
    refine aw_pP (pc1 := 75) at_5_72 e33 rfl ?_
    refine aw_vload_n (pc1 := 76) at_5_75 l0 i0 rfl ?_
    refine aw_iconst (v := 0) (pc1 := 77) at_5_76 (by decide) rfl ?_
    obtain ⟨h34, e35, hs18⟩ := am_bind hs17
    clear hs17
    refine aw_pP (pc1 := 80) at_5_77 e35 rfl ?_
    refine aw_vload_n (pc1 := 81) at_5_80 l0 i0 rfl ?_
    refine aw_bipush (v := 8) (pc1 := 83) at_5_81 (by decide) rfl ?_
    obtain ⟨h36, e37, hs19⟩ := am_bind hs18
    clear hs18
    refine aw_pNew (pc1 := 85) at_5_83 e37 rfl ?_
    obtain ⟨h38, e39, hs20⟩ := am_bind hs19
    clear hs19
    refine aw_pP (pc1 := 88) at_5_85 e39 rfl ?_
    refine aw_vload_n (pc1 := 89) at_5_88 l0 i0 rfl ?_
    refine aw_iconst (v := 0) (pc1 := 90) at_5_89 (by decide) rfl ?_
    obtain ⟨h40, e41, hs21⟩ := am_bind hs20
    clear hs20
    refine aw_pP (pc1 := 93) at_5_90 e41 rfl ?_
    cases hs21
    exact aw_vret at_5_93 rt_5 rfl
  · clear hs8
    exact Or.inr hs9
def fm_5 (y0 : Value) (h : am_H) : Option am_O := fg_5_0 y0 h
theorem rm_5 {X : am_X} {d : Nat} (y0 : Value) (h : am_H) (o : am_O) (i0 : am_isR y0 = true) (hs : fm_5 y0 h = some o) : am_W X (d + 1) 5 0 (am_args 0 [y0]) [] h (fun q => q = o) := by
  rw [am_args_R i0]
  exact rg_5_0 y0 h o rfl i0 hs
def fg_4_0 (x0 : Value) (h : am_H) : Option am_O := (if am_pRf x0 then ((am_pNew 0 360 h).bind fun h2 => ((am_pP 512 x0 (Value.ref h.length) h2).bind fun h4 => ((am_pP 513 x0 (.int 0) h4).bind fun h6 => ((am_pObj 6 h6).bind fun h8 => (if am_pOk 6 (Value.ref h6.length) h8 then am_cV false (fm_5 ((Value.ref h6.length)) h8) (fun h12 => ((am_pP 514 x0 (Value.ref h6.length) h12).bind fun h14 => ((am_pObj 6 h14).bind fun h16 => (if am_pOk 6 (Value.ref h14.length) h16 then am_cV false (fm_5 ((Value.ref h14.length)) h16) (fun h20 => ((am_pP 515 x0 (Value.ref h14.length) h20).bind fun h22 => ((am_pP 516 x0 (.long 0) h22).bind fun h24 => ((am_pP 517 x0 (.long 1) h24).bind fun h26 => some (.inl (none, h26)))))) else none)))) else none))))) else none)
theorem rg_4_0 {X : am_X} {d : Nat} {lv : am_LV} (x0 : Value) (h : am_H) (o : am_O) (l0 : lv.lookup 0 = some x0) (i0 : am_isR x0 = true) (hs : fg_4_0 x0 h = some o) : am_W X (d + 2) 4 0 lv [] h (fun q => q = o) := by
  unfold fg_4_0 at hs
  refine aw_vload_n (pc1 := 1) at_4_0 l0 i0 rfl ?_
  obtain ⟨z1, hs1⟩ := am_ift hs
  clear hs
  refine aw_obi at_4_1 rfl z1 (am_hc am_cats_0 rfl) ?_
  refine aw_vload_n (pc1 := 5) at_4_4 l0 i0 rfl ?_
  refine aw_sipush (v := 360) (pc1 := 8) at_4_5 (by decide) rfl ?_
  obtain ⟨h2, e3, hs2⟩ := am_bind hs1
  clear hs1
  refine aw_pNew (pc1 := 10) at_4_8 e3 rfl ?_
  obtain ⟨h4, e5, hs3⟩ := am_bind hs2
  clear hs2
  refine aw_pP (pc1 := 13) at_4_10 e5 rfl ?_
  refine aw_vload_n (pc1 := 14) at_4_13 l0 i0 rfl ?_
  refine aw_iconst (v := 0) (pc1 := 15) at_4_14 (by decide) rfl ?_
  obtain ⟨h6, e7, hs4⟩ := am_bind hs3
  clear hs3
  refine aw_pP (pc1 := 18) at_4_15 e7 rfl ?_
  refine aw_vload_n (pc1 := 19) at_4_18 l0 i0 rfl ?_
  obtain ⟨h8, e9, hs5⟩ := am_bind hs4
  clear hs4
  refine aw_pObj (pc1 := 22) at_4_19 rfl rfl e9 rfl ?_
  refine aw_vdup (pc1 := 23) at_4_22 rfl rfl ?_
  obtain ⟨z10, hs6⟩ := am_ift hs5
  clear hs5
  refine aw_call (F := fm_5 ((Value.ref h6.length)) h8) (t := false) (na := 1) (kd := 2) (as := [(Value.ref h6.length)]) at_4_23 (am_k3p kb_5) mn_5 mk_5 rfl rfl (am_ok_v mi_5 (am_hl rfl (am_ccR rfl am_cats_0) rfl) z10) (am_hc (am_ccR rfl (am_ccR i0 am_cats_0)) rfl) (fun hz9 => by cases hz9) (fun o1 hz9 => rm_5 ((Value.ref h6.length)) h8 o1 rfl hz9) ?_
  rcases am_cV_s hs6 with ⟨h12, f13, hs7⟩ | hs7
  · clear hs6
    refine Or.inl ⟨_, _, f13, ?_⟩
    show am_W X _ 4 26 _ [(Value.ref h6.length), x0] h12 _
    obtain ⟨h14, e15, hs8⟩ := am_bind hs7
    clear hs7
    refine aw_pP (pc1 := 29) at_4_26 e15 rfl ?_
    refine aw_vload_n (pc1 := 30) at_4_29 l0 i0 rfl ?_
    obtain ⟨h16, e17, hs9⟩ := am_bind hs8
    clear hs8
    refine aw_pObj (pc1 := 33) at_4_30 rfl rfl e17 rfl ?_
    refine aw_vdup (pc1 := 34) at_4_33 rfl rfl ?_
    obtain ⟨z18, hs10⟩ := am_ift hs9
    clear hs9
    refine aw_call (F := fm_5 ((Value.ref h14.length)) h16) (t := false) (na := 1) (kd := 2) (as := [(Value.ref h14.length)]) at_4_34 (am_k3p kb_5) mn_5 mk_5 rfl rfl (am_ok_v mi_5 (am_hl rfl (am_ccR rfl am_cats_0) rfl) z18) (am_hc (am_ccR rfl (am_ccR i0 am_cats_0)) rfl) (fun hz9 => by cases hz9) (fun o1 hz9 => rm_5 ((Value.ref h14.length)) h16 o1 rfl hz9) ?_
    rcases am_cV_s hs10 with ⟨h20, f21, hs11⟩ | hs11
    · clear hs10
      refine Or.inl ⟨_, _, f21, ?_⟩
      show am_W X _ 4 37 _ [(Value.ref h14.length), x0] h20 _
      obtain ⟨h22, e23, hs12⟩ := am_bind hs11
      clear hs11
      refine aw_pP (pc1 := 40) at_4_37 e23 rfl ?_
      refine aw_vload_n (pc1 := 41) at_4_40 l0 i0 rfl ?_
      refine aw_lconst (v := 0) (pc1 := 42) at_4_41 (by decide) rfl ?_
      obtain ⟨h24, e25, hs13⟩ := am_bind hs12
      clear hs12
      refine aw_pP (pc1 := 45) at_4_42 e25 rfl ?_
      refine aw_vload_n (pc1 := 46) at_4_45 l0 i0 rfl ?_
      refine aw_lconst (v := 1) (pc1 := 47) at_4_46 (by decide) rfl ?_
      obtain ⟨h26, e27, hs14⟩ := am_bind hs13
      clear hs13
      refine aw_pP (pc1 := 50) at_4_47 e27 rfl ?_
      cases hs14
      exact aw_vret at_4_50 rt_4 rfl
    · clear hs10
      exact Or.inr hs11
  · clear hs6
    exact Or.inr hs7
def fm_4 (y0 : Value) (h : am_H) : Option am_O := fg_4_0 y0 h
theorem rm_4 {X : am_X} {d : Nat} (y0 : Value) (h : am_H) (o : am_O) (i0 : am_isR y0 = true) (hs : fm_4 y0 h = some o) : am_W X (d + 2) 4 0 (am_args 0 [y0]) [] h (fun q => q = o) := by
  rw [am_args_R i0]
  exact rg_4_0 y0 h o rfl i0 hs
def fg_7_0 (x0 : Value) (h : am_H) : Option am_O := (if am_pRf x0 then ((am_pP 2048 x0 (.long 0) h).bind fun h2 => some (.inl (none, h2))) else none)
theorem rg_7_0 {X : am_X} {d : Nat} {lv : am_LV} (x0 : Value) (h : am_H) (o : am_O) (l0 : lv.lookup 0 = some x0) (i0 : am_isR x0 = true) (hs : fg_7_0 x0 h = some o) : am_W X (d) 7 0 lv [] h (fun q => q = o) := by
  unfold fg_7_0 at hs
  refine aw_vload_n (pc1 := 1) at_7_0 l0 i0 rfl ?_
  obtain ⟨z1, hs1⟩ := am_ift hs
  clear hs
  refine aw_obi at_7_1 rfl z1 (am_hc am_cats_0 rfl) ?_
  refine aw_vload_n (pc1 := 5) at_7_4 l0 i0 rfl ?_
  refine aw_lconst (v := 0) (pc1 := 6) at_7_5 (by decide) rfl ?_
  obtain ⟨h2, e3, hs2⟩ := am_bind hs1
  clear hs1
  refine aw_pP (pc1 := 9) at_7_6 e3 rfl ?_
  cases hs2
  exact aw_vret at_7_9 rt_7 rfl
def fm_7 (y0 : Value) (h : am_H) : Option am_O := fg_7_0 y0 h
theorem rm_7 {X : am_X} {d : Nat} (y0 : Value) (h : am_H) (o : am_O) (i0 : am_isR y0 = true) (hs : fm_7 y0 h = some o) : am_W X (d) 7 0 (am_args 0 [y0]) [] h (fun q => q = o) := by
  rw [am_args_R i0]
  exact rg_7_0 y0 h o rfl i0 hs
def fg_6_0 (x0 : Value) (h : am_H) : Option am_O := (if am_pRf x0 then ((am_pP 256 x0 (.int 0) h).bind fun h2 => ((am_pNew 0 16 h2).bind fun h4 => ((am_pP 257 x0 (Value.ref h2.length) h4).bind fun h6 => ((am_pObj 8 h6).bind fun h8 => (if am_pOk 8 (Value.ref h6.length) h8 then am_cV false (fm_7 ((Value.ref h6.length)) h8) (fun h12 => ((am_pP 258 x0 (Value.ref h6.length) h12).bind fun h14 => ((am_pP 259 x0 (.int 0) h14).bind fun h16 => ((am_pNew 0 16 h16).bind fun h18 => ((am_pP 260 x0 (Value.ref h16.length) h18).bind fun h20 => ((am_pNew 1 16 h20).bind fun h22 => ((am_pP 261 x0 (Value.ref h20.length) h22).bind fun h24 => ((am_pNew 0 16 h24).bind fun h26 => ((am_pP 262 x0 (Value.ref h24.length) h26).bind fun h28 => ((am_pNew 0 384 h28).bind fun h30 => ((am_pP 263 x0 (Value.ref h28.length) h30).bind fun h32 => ((am_pNew 0 24 h32).bind fun h34 => ((am_pP 264 x0 (Value.ref h32.length) h34).bind fun h36 => ((am_pNew 0 24 h36).bind fun h38 => ((am_pP 265 x0 (Value.ref h36.length) h38).bind fun h40 => some (.inl (none, h40))))))))))))))))) else none))))) else none)
theorem rg_6_0 {X : am_X} {d : Nat} {lv : am_LV} (x0 : Value) (h : am_H) (o : am_O) (l0 : lv.lookup 0 = some x0) (i0 : am_isR x0 = true) (hs : fg_6_0 x0 h = some o) : am_W X (d + 1) 6 0 lv [] h (fun q => q = o) := by
  unfold fg_6_0 at hs
  refine aw_vload_n (pc1 := 1) at_6_0 l0 i0 rfl ?_
  obtain ⟨z1, hs1⟩ := am_ift hs
  clear hs
  refine aw_obi at_6_1 rfl z1 (am_hc am_cats_0 rfl) ?_
  refine aw_vload_n (pc1 := 5) at_6_4 l0 i0 rfl ?_
  refine aw_iconst (v := 0) (pc1 := 6) at_6_5 (by decide) rfl ?_
  obtain ⟨h2, e3, hs2⟩ := am_bind hs1
  clear hs1
  refine aw_pP (pc1 := 9) at_6_6 e3 rfl ?_
  refine aw_vload_n (pc1 := 10) at_6_9 l0 i0 rfl ?_
  refine aw_bipush (v := 16) (pc1 := 12) at_6_10 (by decide) rfl ?_
  obtain ⟨h4, e5, hs3⟩ := am_bind hs2
  clear hs2
  refine aw_pNew (pc1 := 14) at_6_12 e5 rfl ?_
  obtain ⟨h6, e7, hs4⟩ := am_bind hs3
  clear hs3
  refine aw_pP (pc1 := 17) at_6_14 e7 rfl ?_
  refine aw_vload_n (pc1 := 18) at_6_17 l0 i0 rfl ?_
  obtain ⟨h8, e9, hs5⟩ := am_bind hs4
  clear hs4
  refine aw_pObj (pc1 := 21) at_6_18 rfl rfl e9 rfl ?_
  refine aw_vdup (pc1 := 22) at_6_21 rfl rfl ?_
  obtain ⟨z10, hs6⟩ := am_ift hs5
  clear hs5
  refine aw_call (F := fm_7 ((Value.ref h6.length)) h8) (t := false) (na := 1) (kd := 2) (as := [(Value.ref h6.length)]) at_6_22 (am_k3p kb_7) mn_7 mk_7 rfl rfl (am_ok_v mi_7 (am_hl rfl (am_ccR rfl am_cats_0) rfl) z10) (am_hc (am_ccR rfl (am_ccR i0 am_cats_0)) rfl) (fun hz9 => by cases hz9) (fun o1 hz9 => rm_7 ((Value.ref h6.length)) h8 o1 rfl hz9) ?_
  rcases am_cV_s hs6 with ⟨h12, f13, hs7⟩ | hs7
  · clear hs6
    refine Or.inl ⟨_, _, f13, ?_⟩
    show am_W X _ 6 25 _ [(Value.ref h6.length), x0] h12 _
    obtain ⟨h14, e15, hs8⟩ := am_bind hs7
    clear hs7
    refine aw_pP (pc1 := 28) at_6_25 e15 rfl ?_
    refine aw_vload_n (pc1 := 29) at_6_28 l0 i0 rfl ?_
    refine aw_iconst (v := 0) (pc1 := 30) at_6_29 (by decide) rfl ?_
    obtain ⟨h16, e17, hs9⟩ := am_bind hs8
    clear hs8
    refine aw_pP (pc1 := 33) at_6_30 e17 rfl ?_
    refine aw_vload_n (pc1 := 34) at_6_33 l0 i0 rfl ?_
    refine aw_bipush (v := 16) (pc1 := 36) at_6_34 (by decide) rfl ?_
    obtain ⟨h18, e19, hs10⟩ := am_bind hs9
    clear hs9
    refine aw_pNew (pc1 := 38) at_6_36 e19 rfl ?_
    obtain ⟨h20, e21, hs11⟩ := am_bind hs10
    clear hs10
    refine aw_pP (pc1 := 41) at_6_38 e21 rfl ?_
    refine aw_vload_n (pc1 := 42) at_6_41 l0 i0 rfl ?_
    refine aw_bipush (v := 16) (pc1 := 44) at_6_42 (by decide) rfl ?_
    obtain ⟨h22, e23, hs12⟩ := am_bind hs11
    clear hs11
    refine aw_pNew (pc1 := 46) at_6_44 e23 rfl ?_
    obtain ⟨h24, e25, hs13⟩ := am_bind hs12
    clear hs12
    refine aw_pP (pc1 := 49) at_6_46 e25 rfl ?_
    refine aw_vload_n (pc1 := 50) at_6_49 l0 i0 rfl ?_
    refine aw_bipush (v := 16) (pc1 := 52) at_6_50 (by decide) rfl ?_
    obtain ⟨h26, e27, hs14⟩ := am_bind hs13
    clear hs13
    refine aw_pNew (pc1 := 54) at_6_52 e27 rfl ?_
    obtain ⟨h28, e29, hs15⟩ := am_bind hs14
    clear hs14
    refine aw_pP (pc1 := 57) at_6_54 e29 rfl ?_
    refine aw_vload_n (pc1 := 58) at_6_57 l0 i0 rfl ?_
    refine aw_sipush (v := 384) (pc1 := 61) at_6_58 (by decide) rfl ?_
    obtain ⟨h30, e31, hs16⟩ := am_bind hs15
    clear hs15
    refine aw_pNew (pc1 := 63) at_6_61 e31 rfl ?_
    obtain ⟨h32, e33, hs17⟩ := am_bind hs16
    clear hs16
    refine aw_pP (pc1 := 66) at_6_63 e33 rfl ?_
    refine aw_vload_n (pc1 := 67) at_6_66 l0 i0 rfl ?_
    refine aw_bipush (v := 24) (pc1 := 69) at_6_67 (by decide) rfl ?_
    obtain ⟨h34, e35, hs18⟩ := am_bind hs17
    clear hs17
    refine aw_pNew (pc1 := 71) at_6_69 e35 rfl ?_
    obtain ⟨h36, e37, hs19⟩ := am_bind hs18
    clear hs18
    refine aw_pP (pc1 := 74) at_6_71 e37 rfl ?_
    refine aw_vload_n (pc1 := 75) at_6_74 l0 i0 rfl ?_
    refine aw_bipush (v := 24) (pc1 := 77) at_6_75 (by decide) rfl ?_
    obtain ⟨h38, e39, hs20⟩ := am_bind hs19
    clear hs19
    refine aw_pNew (pc1 := 79) at_6_77 e39 rfl ?_
    obtain ⟨h40, e41, hs21⟩ := am_bind hs20
    clear hs20
    refine aw_pP (pc1 := 82) at_6_79 e41 rfl ?_
    cases hs21
    exact aw_vret at_6_82 rt_6 rfl
  · clear hs6
    exact Or.inr hs7
def fm_6 (y0 : Value) (h : am_H) : Option am_O := fg_6_0 y0 h
theorem rm_6 {X : am_X} {d : Nat} (y0 : Value) (h : am_H) (o : am_O) (i0 : am_isR y0 = true) (hs : fm_6 y0 h = some o) : am_W X (d + 1) 6 0 (am_args 0 [y0]) [] h (fun q => q = o) := by
  rw [am_args_R i0]
  exact rg_6_0 y0 h o rfl i0 hs
def fg_11_23 (s0 : Int32) (h : am_H) : Option am_O := (if am_rfit (some FieldType.boolean) s0 then some (.inl (some (.int s0), h)) else none)
theorem rg_11_23 {X : am_X} {d : Nat} {lv : am_LV} (s0 : Int32) (h : am_H) (o : am_O) (hs : fg_11_23 s0 h = some o) : am_W X (d) 11 23 lv [(.int s0)] h (fun q => q = o) := by
  unfold fg_11_23 at hs
  obtain ⟨z1, hs1⟩ := am_ift hs
  clear hs
  cases hs1
  exact aw_iret at_11_23 (by rw [rt_11]; exact z1) rfl
def fg_11_22 (h : am_H) : Option am_O := (fg_11_23 0 h)
theorem rg_11_22 {X : am_X} {d : Nat} {lv : am_LV} (h : am_H) (o : am_O) (hs : fg_11_22 h = some o) : am_W X (d) 11 22 lv [] h (fun q => q = o) := by
  unfold fg_11_22 at hs
  refine aw_iconst (v := 0) (pc1 := 23) at_11_22 (by decide) rfl ?_
  exact rg_11_23 0 h o   hs
def fg_11_18 (h : am_H) : Option am_O := (fg_11_23 1 h)
theorem rg_11_18 {X : am_X} {d : Nat} {lv : am_LV} (h : am_H) (o : am_O) (hs : fg_11_18 h = some o) : am_W X (d) 11 18 lv [] h (fun q => q = o) := by
  unfold fg_11_18 at hs
  refine aw_iconst (v := 1) (pc1 := 19) at_11_18 (by decide) rfl ?_
  refine aw_goto at_11_19 ?_
  exact rg_11_23 1 h o   hs
def fg_11_0 (x0 : Int32) (h : am_H) : Option am_O := (if x0 = 9 then (fg_11_18 h) else (if x0 < 15 then (fg_11_22 h) else (if 18 < x0 then (fg_11_22 h) else (fg_11_18 h))))
theorem rg_11_0 {X : am_X} {d : Nat} {lv : am_LV} (x0 : Int32) (h : am_H) (o : am_O) (l0 : lv.lookup 0 = some (.int x0)) (hs : fg_11_0 x0 h = some o) : am_W X (d) 11 0 lv [] h (fun q => q = o) := by
  unfold fg_11_0 at hs
  refine aw_iload_n (pc1 := 1) at_11_0 l0 rfl ?_
  refine aw_bipush (v := 9) (pc1 := 3) at_11_1 (by decide) rfl ?_
  by_cases c1 : x0 = 9
  · rw [if_pos c1] at hs
    refine aw_iceq_t at_11_3 c1 ?_
    exact rg_11_18 h o   hs
  · rw [if_neg c1] at hs
    refine aw_iceq_f (pc1 := 6) at_11_3 c1 rfl ?_
    refine aw_iload_n (pc1 := 7) at_11_6 l0 rfl ?_
    refine aw_bipush (v := 15) (pc1 := 9) at_11_7 (by decide) rfl ?_
    by_cases c2 : x0 < 15
    · rw [if_pos c2] at hs
      refine aw_iclt_t at_11_9 c2 ?_
      exact rg_11_22 h o   hs
    · rw [if_neg c2] at hs
      refine aw_iclt_f (pc1 := 12) at_11_9 c2 rfl ?_
      refine aw_iload_n (pc1 := 13) at_11_12 l0 rfl ?_
      refine aw_bipush (v := 18) (pc1 := 15) at_11_13 (by decide) rfl ?_
      by_cases c3 : 18 < x0
      · rw [if_pos c3] at hs
        refine aw_icgt_t at_11_15 c3 ?_
        exact rg_11_22 h o   hs
      · rw [if_neg c3] at hs
        refine aw_icgt_f (pc1 := 18) at_11_15 c3 rfl ?_
        exact rg_11_18 h o   hs
def fm_11 (y0 : Int32) (h : am_H) : Option am_O := fg_11_0 y0 h
theorem rm_11 {X : am_X} {d : Nat} (y0 : Int32) (h : am_H) (o : am_O) (hs : fm_11 y0 h = some o) : am_W X (d) 11 0 (am_args 0 [.int y0]) [] h (fun q => q = o) := by
  rw [am_args_I]
  exact rg_11_0 y0 h o rfl  hs
def fg_10_56 (s0 : Int32) (h : am_H) : Option am_O := (if am_rfit (some FieldType.boolean) s0 then some (.inl (some (.int s0), h)) else none)
theorem rg_10_56 {X : am_X} {d : Nat} {lv : am_LV} (s0 : Int32) (h : am_H) (o : am_O) (hs : fg_10_56 s0 h = some o) : am_W X (d + 1) 10 56 lv [(.int s0)] h (fun q => q = o) := by
  unfold fg_10_56 at hs
  obtain ⟨z1, hs1⟩ := am_ift hs
  clear hs
  cases hs1
  exact aw_iret at_10_56 (by rw [rt_10]; exact z1) rfl
def fg_10_55 (h : am_H) : Option am_O := (fg_10_56 0 h)
theorem rg_10_55 {X : am_X} {d : Nat} {lv : am_LV} (h : am_H) (o : am_O) (hs : fg_10_55 h = some o) : am_W X (d + 1) 10 55 lv [] h (fun q => q = o) := by
  unfold fg_10_55 at hs
  refine aw_iconst (v := 0) (pc1 := 56) at_10_55 (by decide) rfl ?_
  exact rg_10_56 0 h o   hs
def fg_10_51 (h : am_H) : Option am_O := (fg_10_56 1 h)
theorem rg_10_51 {X : am_X} {d : Nat} {lv : am_LV} (h : am_H) (o : am_O) (hs : fg_10_51 h = some o) : am_W X (d + 1) 10 51 lv [] h (fun q => q = o) := by
  unfold fg_10_51 at hs
  refine aw_iconst (v := 1) (pc1 := 52) at_10_51 (by decide) rfl ?_
  refine aw_goto at_10_52 ?_
  exact rg_10_56 1 h o   hs
def fg_10_41 (x1 : Int32) (x2 : Int32) (h : am_H) : Option am_O := (if x2 = 0 then (fg_10_51 h) else (if x1 = 19 then (fg_10_55 h) else (fg_10_51 h)))
theorem rg_10_41 {X : am_X} {d : Nat} {lv : am_LV} (x1 : Int32) (x2 : Int32) (h : am_H) (o : am_O) (l1 : lv.lookup 1 = some (.int x1)) (l2 : lv.lookup 2 = some (.int x2)) (hs : fg_10_41 x1 x2 h = some o) : am_W X (d + 1) 10 41 lv [] h (fun q => q = o) := by
  unfold fg_10_41 at hs
  refine aw_iload_n (pc1 := 42) at_10_41 l2 rfl ?_
  by_cases c1 : x2 = 0
  · rw [if_pos c1] at hs
    refine aw_ifeq_t at_10_42 c1 ?_
    exact rg_10_51 h o   hs
  · rw [if_neg c1] at hs
    refine aw_ifeq_f (pc1 := 45) at_10_42 c1 rfl ?_
    refine aw_iload_n (pc1 := 46) at_10_45 l1 rfl ?_
    refine aw_bipush (v := 19) (pc1 := 48) at_10_46 (by decide) rfl ?_
    by_cases c2 : x1 = 19
    · rw [if_pos c2] at hs
      refine aw_iceq_t at_10_48 c2 ?_
      exact rg_10_55 h o   hs
    · rw [if_neg c2] at hs
      refine aw_iceq_f (pc1 := 51) at_10_48 c2 rfl ?_
      exact rg_10_51 h o   hs
def fg_10_22 (x1 : Int32) (x2 : Int32) (s0 : Int32) (s1 : Int32) (h : am_H) : Option am_O := (if ¬ s0 = s1 then (fg_10_55 h) else (if x2 = 2 then (fg_10_41 x1 x2 h) else (if x1 = 5 then (fg_10_55 h) else (if x1 = 6 then (fg_10_55 h) else (fg_10_41 x1 x2 h)))))
theorem rg_10_22 {X : am_X} {d : Nat} {lv : am_LV} (x1 : Int32) (x2 : Int32) (s0 : Int32) (s1 : Int32) (h : am_H) (o : am_O) (l1 : lv.lookup 1 = some (.int x1)) (l2 : lv.lookup 2 = some (.int x2)) (hs : fg_10_22 x1 x2 s0 s1 h = some o) : am_W X (d + 1) 10 22 lv [(.int s1), (.int s0)] h (fun q => q = o) := by
  unfold fg_10_22 at hs
  by_cases c1 : ¬ s0 = s1
  · rw [if_pos c1] at hs
    refine aw_icne_t at_10_22 c1 ?_
    exact rg_10_55 h o   hs
  · rw [if_neg c1] at hs
    refine aw_icne_f (pc1 := 25) at_10_22 c1 rfl ?_
    refine aw_iload_n (pc1 := 26) at_10_25 l2 rfl ?_
    refine aw_iconst (v := 2) (pc1 := 27) at_10_26 (by decide) rfl ?_
    by_cases c2 : x2 = 2
    · rw [if_pos c2] at hs
      refine aw_iceq_t at_10_27 c2 ?_
      exact rg_10_41 x1 x2 h o l1 l2  hs
    · rw [if_neg c2] at hs
      refine aw_iceq_f (pc1 := 30) at_10_27 c2 rfl ?_
      refine aw_iload_n (pc1 := 31) at_10_30 l1 rfl ?_
      refine aw_iconst (v := 5) (pc1 := 32) at_10_31 (by decide) rfl ?_
      by_cases c3 : x1 = 5
      · rw [if_pos c3] at hs
        refine aw_iceq_t at_10_32 c3 ?_
        exact rg_10_55 h o   hs
      · rw [if_neg c3] at hs
        refine aw_iceq_f (pc1 := 35) at_10_32 c3 rfl ?_
        refine aw_iload_n (pc1 := 36) at_10_35 l1 rfl ?_
        refine aw_bipush (v := 6) (pc1 := 38) at_10_36 (by decide) rfl ?_
        by_cases c4 : x1 = 6
        · rw [if_pos c4] at hs
          refine aw_iceq_t at_10_38 c4 ?_
          exact rg_10_55 h o   hs
        · rw [if_neg c4] at hs
          refine aw_iceq_f (pc1 := 41) at_10_38 c4 rfl ?_
          exact rg_10_41 x1 x2 h o l1 l2  hs
def fg_10_0 (x0 : Int32) (x1 : Int32) (h : am_H) : Option am_O := am_cI false (fm_11 x1 h) (fun v1 h2 => (if ¬ (x0 - x0 / 2 * 2) = 1 then (fg_10_22 x1 (((x0 / 2) * 2)) v1 0 h2) else (fg_10_22 x1 (((x0 / 2) * 2)) v1 1 h2)))
theorem rg_10_0 {X : am_X} {d : Nat} {lv : am_LV} (x0 : Int32) (x1 : Int32) (h : am_H) (o : am_O) (l0 : lv.lookup 0 = some (.int x0)) (l1 : lv.lookup 1 = some (.int x1)) (hs : fg_10_0 x0 x1 h = some o) : am_W X (d + 1) 10 0 lv [] h (fun q => q = o) := by
  unfold fg_10_0 at hs
  refine aw_iload_n (pc1 := 1) at_10_0 l0 rfl ?_
  refine aw_iconst (v := 2) (pc1 := 2) at_10_1 (by decide) rfl ?_
  refine aw_idiv (v := (x0 / 2)) (pc1 := 3) at_10_2 (by decide) rfl rfl ?_
  refine aw_iconst (v := 2) (pc1 := 4) at_10_3 (by decide) rfl ?_
  refine aw_imul (v := ((x0 / 2) * 2)) (pc1 := 5) at_10_4 rfl rfl ?_
  refine aw_istore_n (lv1 := am_put1 _ 2 _) (pc1 := 6) at_10_5 rfl rfl ?_
  refine aw_iload_n (pc1 := 7) at_10_6 (am_lk1 l1 rfl rfl) rfl ?_
  refine aw_call (F := fm_11 x1 h) (t := false) (na := 1) (kd := 0) (as := [(.int x1)]) at_10_7 (am_k3s kb_11) mn_11 mk_11 rfl rfl (am_ok_s mi_11 (am_hl rfl (am_ccI am_cats_0) rfl)) (am_hc am_cats_0 rfl) (fun hz9 => by cases hz9) (fun o1 hz9 => rm_11 x1 h o1  hz9) ?_
  rcases am_cI_s hs with ⟨v1, h2, f3, hs1⟩ | hs1
  · clear hs
    refine Or.inl ⟨_, _, f3, ?_⟩
    show am_W X _ 10 10 _ [(.int v1)] h2 _
    refine aw_iload_n (pc1 := 11) at_10_10 (am_lk1 l0 rfl rfl) rfl ?_
    refine aw_iconst (v := 2) (pc1 := 12) at_10_11 (by decide) rfl ?_
    refine aw_irem (v := (x0 - x0 / 2 * 2)) (pc1 := 13) at_10_12 (by decide) rfl rfl ?_
    refine aw_iconst (v := 1) (pc1 := 14) at_10_13 (by decide) rfl ?_
    by_cases c4 : ¬ (x0 - x0 / 2 * 2) = 1
    · rw [if_pos c4] at hs1
      refine aw_icne_t at_10_14 c4 ?_
      refine aw_iconst (v := 0) (pc1 := 22) at_10_21 (by decide) rfl ?_
      exact rg_10_22 x1 (((x0 / 2) * 2)) v1 0 h2 o (am_lk1 l1 rfl rfl) am_lk0  hs1
    · rw [if_neg c4] at hs1
      refine aw_icne_f (pc1 := 17) at_10_14 c4 rfl ?_
      refine aw_iconst (v := 1) (pc1 := 18) at_10_17 (by decide) rfl ?_
      refine aw_goto at_10_18 ?_
      exact rg_10_22 x1 (((x0 / 2) * 2)) v1 1 h2 o (am_lk1 l1 rfl rfl) am_lk0  hs1
  · clear hs
    exact Or.inr hs1
def fm_10 (y0 : Int32) (y1 : Int32) (h : am_H) : Option am_O := fg_10_0 y0 y1 h
theorem rm_10 {X : am_X} {d : Nat} (y0 : Int32) (y1 : Int32) (h : am_H) (o : am_O) (hs : fm_10 y0 y1 h = some o) : am_W X (d + 1) 10 0 (am_args 0 [.int y0, .int y1]) [] h (fun q => q = o) := by
  rw [am_args_I, am_args_I]
  exact rg_10_0 y0 y1 h o rfl rfl  hs
def fg_13_33 (s0 : Int32) (h : am_H) : Option am_O := (if am_rfit (some FieldType.boolean) s0 then some (.inl (some (.int s0), h)) else none)
theorem rg_13_33 {X : am_X} {d : Nat} {lv : am_LV} (s0 : Int32) (h : am_H) (o : am_O) (hs : fg_13_33 s0 h = some o) : am_W X (d) 13 33 lv [(.int s0)] h (fun q => q = o) := by
  unfold fg_13_33 at hs
  obtain ⟨z1, hs1⟩ := am_ift hs
  clear hs
  cases hs1
  exact aw_iret at_13_33 (by rw [rt_13]; exact z1) rfl
def fg_13_32 (h : am_H) : Option am_O := (fg_13_33 0 h)
theorem rg_13_32 {X : am_X} {d : Nat} {lv : am_LV} (h : am_H) (o : am_O) (hs : fg_13_32 h = some o) : am_W X (d) 13 32 lv [] h (fun q => q = o) := by
  unfold fg_13_32 at hs
  refine aw_iconst (v := 0) (pc1 := 33) at_13_32 (by decide) rfl ?_
  exact rg_13_33 0 h o   hs
def fg_13_28 (h : am_H) : Option am_O := (fg_13_33 1 h)
theorem rg_13_28 {X : am_X} {d : Nat} {lv : am_LV} (h : am_H) (o : am_O) (hs : fg_13_28 h = some o) : am_W X (d) 13 28 lv [] h (fun q => q = o) := by
  unfold fg_13_28 at hs
  refine aw_iconst (v := 1) (pc1 := 29) at_13_28 (by decide) rfl ?_
  refine aw_goto at_13_29 ?_
  exact rg_13_33 1 h o   hs
def fg_13_0 (x0 : Int32) (x1 : Int32) (h : am_H) : Option am_O := (if x0 = 9 then (fg_13_28 h) else (if x0 = 17 then (fg_13_28 h) else (if x0 = 18 then (fg_13_28 h) else (if ¬ x0 = 20 then (fg_13_32 h) else (if ¬ x1 = 0 then (fg_13_32 h) else (fg_13_28 h))))))
theorem rg_13_0 {X : am_X} {d : Nat} {lv : am_LV} (x0 : Int32) (x1 : Int32) (h : am_H) (o : am_O) (l0 : lv.lookup 0 = some (.int x0)) (l1 : lv.lookup 1 = some (.int x1)) (hs : fg_13_0 x0 x1 h = some o) : am_W X (d) 13 0 lv [] h (fun q => q = o) := by
  unfold fg_13_0 at hs
  refine aw_iload_n (pc1 := 1) at_13_0 l0 rfl ?_
  refine aw_bipush (v := 9) (pc1 := 3) at_13_1 (by decide) rfl ?_
  by_cases c1 : x0 = 9
  · rw [if_pos c1] at hs
    refine aw_iceq_t at_13_3 c1 ?_
    exact rg_13_28 h o   hs
  · rw [if_neg c1] at hs
    refine aw_iceq_f (pc1 := 6) at_13_3 c1 rfl ?_
    refine aw_iload_n (pc1 := 7) at_13_6 l0 rfl ?_
    refine aw_bipush (v := 17) (pc1 := 9) at_13_7 (by decide) rfl ?_
    by_cases c2 : x0 = 17
    · rw [if_pos c2] at hs
      refine aw_iceq_t at_13_9 c2 ?_
      exact rg_13_28 h o   hs
    · rw [if_neg c2] at hs
      refine aw_iceq_f (pc1 := 12) at_13_9 c2 rfl ?_
      refine aw_iload_n (pc1 := 13) at_13_12 l0 rfl ?_
      refine aw_bipush (v := 18) (pc1 := 15) at_13_13 (by decide) rfl ?_
      by_cases c3 : x0 = 18
      · rw [if_pos c3] at hs
        refine aw_iceq_t at_13_15 c3 ?_
        exact rg_13_28 h o   hs
      · rw [if_neg c3] at hs
        refine aw_iceq_f (pc1 := 18) at_13_15 c3 rfl ?_
        refine aw_iload_n (pc1 := 19) at_13_18 l0 rfl ?_
        refine aw_bipush (v := 20) (pc1 := 21) at_13_19 (by decide) rfl ?_
        by_cases c4 : ¬ x0 = 20
        · rw [if_pos c4] at hs
          refine aw_icne_t at_13_21 c4 ?_
          exact rg_13_32 h o   hs
        · rw [if_neg c4] at hs
          refine aw_icne_f (pc1 := 24) at_13_21 c4 rfl ?_
          refine aw_iload_n (pc1 := 25) at_13_24 l1 rfl ?_
          by_cases c5 : ¬ x1 = 0
          · rw [if_pos c5] at hs
            refine aw_ifne_t at_13_25 c5 ?_
            exact rg_13_32 h o   hs
          · rw [if_neg c5] at hs
            refine aw_ifne_f (pc1 := 28) at_13_25 c5 rfl ?_
            exact rg_13_28 h o   hs
def fm_13 (y0 : Int32) (y1 : Int32) (h : am_H) : Option am_O := fg_13_0 y0 y1 h
theorem rm_13 {X : am_X} {d : Nat} (y0 : Int32) (y1 : Int32) (h : am_H) (o : am_O) (hs : fm_13 y0 y1 h = some o) : am_W X (d) 13 0 (am_args 0 [.int y0, .int y1]) [] h (fun q => q = o) := by
  rw [am_args_I, am_args_I]
  exact rg_13_0 y0 y1 h o rfl rfl  hs
def fg_12_36 (s0 : Int32) (h : am_H) : Option am_O := some (.inl (some (.int s0), h))
theorem rg_12_36 {X : am_X} {d : Nat} {lv : am_LV} (s0 : Int32) (h : am_H) (o : am_O) (hs : fg_12_36 s0 h = some o) : am_W X (d + 1) 12 36 lv [(.int s0)] h (fun q => q = o) := by
  unfold fg_12_36 at hs
  cases hs
  exact aw_iret at_12_36 (by rw [rt_12]; rfl) rfl
def fg_12_20 (x1 : Int32) (x2 : Int32) (s0 : Int32) (h : am_H) : Option am_O := am_cI false (fm_13 x1 x2 h) (fun v1 h2 => (if v1 = 0 then (fg_12_36 s0 h2) else (fg_12_36 ((s0 + 1)) h2)))
theorem rg_12_20 {X : am_X} {d : Nat} {lv : am_LV} (x1 : Int32) (x2 : Int32) (s0 : Int32) (h : am_H) (o : am_O) (l1 : lv.lookup 1 = some (.int x1)) (l2 : lv.lookup 2 = some (.int x2)) (hs : fg_12_20 x1 x2 s0 h = some o) : am_W X (d + 1) 12 20 lv [(.int s0)] h (fun q => q = o) := by
  unfold fg_12_20 at hs
  refine aw_istore_n (lv1 := am_put1 _ 3 _) (pc1 := 21) at_12_20 rfl rfl ?_
  refine aw_iload_n (pc1 := 22) at_12_21 (am_lk1 l1 rfl rfl) rfl ?_
  refine aw_iload_n (pc1 := 23) at_12_22 (am_lk1 l2 rfl rfl) rfl ?_
  refine aw_call (F := fm_13 x1 x2 h) (t := false) (na := 2) (kd := 0) (as := [(.int x1), (.int x2)]) at_12_23 (am_k3s kb_13) mn_13 mk_13 rfl rfl (am_ok_s mi_13 (am_hl rfl (am_ccI (am_ccI am_cats_0)) rfl)) (am_hc am_cats_0 rfl) (fun hz9 => by cases hz9) (fun o1 hz9 => rm_13 x1 x2 h o1  hz9) ?_
  rcases am_cI_s hs with ⟨v1, h2, f3, hs1⟩ | hs1
  · clear hs
    refine Or.inl ⟨_, _, f3, ?_⟩
    show am_W X _ 12 26 _ [(.int v1)] h2 _
    by_cases c4 : v1 = 0
    · rw [if_pos c4] at hs1
      refine aw_ifeq_t at_12_26 c4 ?_
      refine aw_iload_n (pc1 := 36) at_12_35 am_lk0 rfl ?_
      exact rg_12_36 s0 h2 o   hs1
    · rw [if_neg c4] at hs1
      refine aw_ifeq_f (pc1 := 29) at_12_26 c4 rfl ?_
      refine aw_iload_n (pc1 := 30) at_12_29 am_lk0 rfl ?_
      refine aw_iconst (v := 1) (pc1 := 31) at_12_30 (by decide) rfl ?_
      refine aw_iadd (v := (s0 + 1)) (pc1 := 32) at_12_31 rfl rfl ?_
      refine aw_goto at_12_32 ?_
      exact rg_12_36 ((s0 + 1)) h2 o   hs1
  · clear hs
    exact Or.inr hs1
def fg_12_15 (x0 : Int32) (x1 : Int32) (x2 : Int32) (h : am_H) : Option am_O := (fg_12_20 x1 x2 (((x0 / 2) * 2)) h)
theorem rg_12_15 {X : am_X} {d : Nat} {lv : am_LV} (x0 : Int32) (x1 : Int32) (x2 : Int32) (h : am_H) (o : am_O) (l0 : lv.lookup 0 = some (.int x0)) (l1 : lv.lookup 1 = some (.int x1)) (l2 : lv.lookup 2 = some (.int x2)) (hs : fg_12_15 x0 x1 x2 h = some o) : am_W X (d + 1) 12 15 lv [] h (fun q => q = o) := by
  unfold fg_12_15 at hs
  refine aw_iload_n (pc1 := 16) at_12_15 l0 rfl ?_
  refine aw_iconst (v := 2) (pc1 := 17) at_12_16 (by decide) rfl ?_
  refine aw_idiv (v := (x0 / 2)) (pc1 := 18) at_12_17 (by decide) rfl rfl ?_
  refine aw_iconst (v := 2) (pc1 := 19) at_12_18 (by decide) rfl ?_
  refine aw_imul (v := ((x0 / 2) * 2)) (pc1 := 20) at_12_19 rfl rfl ?_
  exact rg_12_20 x1 x2 (((x0 / 2) * 2)) h o l1 l2  hs
def fg_12_0 (x0 : Int32) (x1 : Int32) (x2 : Int32) (h : am_H) : Option am_O := (if ¬ x1 = 19 then (fg_12_15 x0 x1 x2 h) else (if ¬ x2 = 1 then (fg_12_15 x0 x1 x2 h) else (fg_12_20 x1 x2 2 h)))
theorem rg_12_0 {X : am_X} {d : Nat} {lv : am_LV} (x0 : Int32) (x1 : Int32) (x2 : Int32) (h : am_H) (o : am_O) (l0 : lv.lookup 0 = some (.int x0)) (l1 : lv.lookup 1 = some (.int x1)) (l2 : lv.lookup 2 = some (.int x2)) (hs : fg_12_0 x0 x1 x2 h = some o) : am_W X (d + 1) 12 0 lv [] h (fun q => q = o) := by
  unfold fg_12_0 at hs
  refine aw_iload_n (pc1 := 1) at_12_0 l1 rfl ?_
  refine aw_bipush (v := 19) (pc1 := 3) at_12_1 (by decide) rfl ?_
  by_cases c1 : ¬ x1 = 19
  · rw [if_pos c1] at hs
    refine aw_icne_t at_12_3 c1 ?_
    exact rg_12_15 x0 x1 x2 h o l0 l1 l2  hs
  · rw [if_neg c1] at hs
    refine aw_icne_f (pc1 := 6) at_12_3 c1 rfl ?_
    refine aw_iload_n (pc1 := 7) at_12_6 l2 rfl ?_
    refine aw_iconst (v := 1) (pc1 := 8) at_12_7 (by decide) rfl ?_
    by_cases c2 : ¬ x2 = 1
    · rw [if_pos c2] at hs
      refine aw_icne_t at_12_8 c2 ?_
      exact rg_12_15 x0 x1 x2 h o l0 l1 l2  hs
    · rw [if_neg c2] at hs
      refine aw_icne_f (pc1 := 11) at_12_8 c2 rfl ?_
      refine aw_iconst (v := 2) (pc1 := 12) at_12_11 (by decide) rfl ?_
      refine aw_goto at_12_12 ?_
      exact rg_12_20 x1 x2 2 h o l1 l2  hs
def fm_12 (y0 : Int32) (y1 : Int32) (y2 : Int32) (h : am_H) : Option am_O := fg_12_0 y0 y1 y2 h
theorem rm_12 {X : am_X} {d : Nat} (y0 : Int32) (y1 : Int32) (y2 : Int32) (h : am_H) (o : am_O) (hs : fm_12 y0 y1 y2 h = some o) : am_W X (d + 1) 12 0 (am_args 0 [.int y0, .int y1, .int y2]) [] h (fun q => q = o) := by
  rw [am_args_I, am_args_I, am_args_I]
  exact rg_12_0 y0 y1 y2 h o rfl rfl rfl  hs
def fg_14_31 (s0 : Int32) (h : am_H) : Option am_O := some (.inl (some (.int s0), h))
theorem rg_14_31 {X : am_X} {d : Nat} {lv : am_LV} (s0 : Int32) (h : am_H) (o : am_O) (hs : fg_14_31 s0 h = some o) : am_W X (d) 14 31 lv [(.int s0)] h (fun q => q = o) := by
  unfold fg_14_31 at hs
  cases hs
  exact aw_iret at_14_31 (by rw [rt_14]; rfl) rfl
def fg_14_0 (x0 : Int32) (h : am_H) : Option am_O := (if 7 ≤ x0 then (if 10 ≤ x0 then (if 20 ≤ x0 then (fg_14_31 3 h) else (fg_14_31 2 h)) else (fg_14_31 1 h)) else (fg_14_31 0 h))
theorem rg_14_0 {X : am_X} {d : Nat} {lv : am_LV} (x0 : Int32) (h : am_H) (o : am_O) (l0 : lv.lookup 0 = some (.int x0)) (hs : fg_14_0 x0 h = some o) : am_W X (d) 14 0 lv [] h (fun q => q = o) := by
  unfold fg_14_0 at hs
  refine aw_iload_n (pc1 := 1) at_14_0 l0 rfl ?_
  refine aw_bipush (v := 7) (pc1 := 3) at_14_1 (by decide) rfl ?_
  by_cases c1 : 7 ≤ x0
  · rw [if_pos c1] at hs
    refine aw_icge_t at_14_3 c1 ?_
    refine aw_iload_n (pc1 := 11) at_14_10 l0 rfl ?_
    refine aw_bipush (v := 10) (pc1 := 13) at_14_11 (by decide) rfl ?_
    by_cases c2 : 10 ≤ x0
    · rw [if_pos c2] at hs
      refine aw_icge_t at_14_13 c2 ?_
      refine aw_iload_n (pc1 := 21) at_14_20 l0 rfl ?_
      refine aw_bipush (v := 20) (pc1 := 23) at_14_21 (by decide) rfl ?_
      by_cases c3 : 20 ≤ x0
      · rw [if_pos c3] at hs
        refine aw_icge_t at_14_23 c3 ?_
        refine aw_iconst (v := 3) (pc1 := 31) at_14_30 (by decide) rfl ?_
        exact rg_14_31 3 h o   hs
      · rw [if_neg c3] at hs
        refine aw_icge_f (pc1 := 26) at_14_23 c3 rfl ?_
        refine aw_iconst (v := 2) (pc1 := 27) at_14_26 (by decide) rfl ?_
        refine aw_goto at_14_27 ?_
        exact rg_14_31 2 h o   hs
    · rw [if_neg c2] at hs
      refine aw_icge_f (pc1 := 16) at_14_13 c2 rfl ?_
      refine aw_iconst (v := 1) (pc1 := 17) at_14_16 (by decide) rfl ?_
      refine aw_goto at_14_17 ?_
      exact rg_14_31 1 h o   hs
  · rw [if_neg c1] at hs
    refine aw_icge_f (pc1 := 6) at_14_3 c1 rfl ?_
    refine aw_iconst (v := 0) (pc1 := 7) at_14_6 (by decide) rfl ?_
    refine aw_goto at_14_7 ?_
    exact rg_14_31 0 h o   hs
def fm_14 (y0 : Int32) (h : am_H) : Option am_O := fg_14_0 y0 h
theorem rm_14 {X : am_X} {d : Nat} (y0 : Int32) (h : am_H) (o : am_O) (hs : fm_14 y0 h = some o) : am_W X (d) 14 0 (am_args 0 [.int y0]) [] h (fun q => q = o) := by
  rw [am_args_I]
  exact rg_14_0 y0 h o rfl  hs
def fg_15_35 (s0 : Int64) (h : am_H) : Option am_O := some (.inl (some (.long s0), h))
theorem rg_15_35 {X : am_X} {d : Nat} {lv : am_LV} (s0 : Int64) (h : am_H) (o : am_O) (hs : fg_15_35 s0 h = some o) : am_W X (d) 15 35 lv [(.long s0)] h (fun q => q = o) := by
  unfold fg_15_35 at hs
  cases hs
  exact aw_lret at_15_35 rt_15 rfl
def fg_15_34 (h : am_H) : Option am_O := (fg_15_35 0 h)
theorem rg_15_34 {X : am_X} {d : Nat} {lv : am_LV} (h : am_H) (o : am_O) (hs : fg_15_34 h = some o) : am_W X (d) 15 34 lv [] h (fun q => q = o) := by
  unfold fg_15_34 at hs
  refine aw_lconst (v := 0) (pc1 := 35) at_15_34 (by decide) rfl ?_
  exact rg_15_35 0 h o   hs
def fg_15_0 (x0 : Value) (x1 : Int32) (x2 : Int32) (h : am_H) : Option am_O := (if x2 ≤ 0 then (fg_15_34 h) else (if 13 ≤ x2 then (fg_15_34 h) else (if x1 < 0 then (fg_15_34 h) else (if 6 ≤ x1 then (fg_15_34 h) else ((am_vR (am_pG 1025 x0 h)).bind fun v5 => ((am_pAL v5 ((x1 * 13) + x2) h).bind fun v7 => (fg_15_35 v7 h)))))))
theorem rg_15_0 {X : am_X} {d : Nat} {lv : am_LV} (x0 : Value) (x1 : Int32) (x2 : Int32) (h : am_H) (o : am_O) (l0 : lv.lookup 0 = some x0) (l1 : lv.lookup 1 = some (.int x1)) (l2 : lv.lookup 2 = some (.int x2)) (i0 : am_isR x0 = true) (hs : fg_15_0 x0 x1 x2 h = some o) : am_W X (d) 15 0 lv [] h (fun q => q = o) := by
  unfold fg_15_0 at hs
  refine aw_iload_n (pc1 := 1) at_15_0 l2 rfl ?_
  by_cases c1 : x2 ≤ 0
  · rw [if_pos c1] at hs
    refine aw_ifle_t at_15_1 c1 ?_
    exact rg_15_34 h o   hs
  · rw [if_neg c1] at hs
    refine aw_ifle_f (pc1 := 4) at_15_1 c1 rfl ?_
    refine aw_iload_n (pc1 := 5) at_15_4 l2 rfl ?_
    refine aw_bipush (v := 13) (pc1 := 7) at_15_5 (by decide) rfl ?_
    by_cases c2 : 13 ≤ x2
    · rw [if_pos c2] at hs
      refine aw_icge_t at_15_7 c2 ?_
      exact rg_15_34 h o   hs
    · rw [if_neg c2] at hs
      refine aw_icge_f (pc1 := 10) at_15_7 c2 rfl ?_
      refine aw_iload_n (pc1 := 11) at_15_10 l1 rfl ?_
      by_cases c3 : x1 < 0
      · rw [if_pos c3] at hs
        refine aw_iflt_t at_15_11 c3 ?_
        exact rg_15_34 h o   hs
      · rw [if_neg c3] at hs
        refine aw_iflt_f (pc1 := 14) at_15_11 c3 rfl ?_
        refine aw_iload_n (pc1 := 15) at_15_14 l1 rfl ?_
        refine aw_bipush (v := 6) (pc1 := 17) at_15_15 (by decide) rfl ?_
        by_cases c4 : 6 ≤ x1
        · rw [if_pos c4] at hs
          refine aw_icge_t at_15_17 c4 ?_
          exact rg_15_34 h o   hs
        · rw [if_neg c4] at hs
          refine aw_icge_f (pc1 := 20) at_15_17 c4 rfl ?_
          refine aw_vload_n (pc1 := 21) at_15_20 l0 i0 rfl ?_
          obtain ⟨v5, e6, hs1⟩ := am_bind hs
          clear hs
          refine aw_pG (pc1 := 24) at_15_21 (am_vR_s e6).1 rfl ?_
          refine aw_iload_n (pc1 := 25) at_15_24 l1 rfl ?_
          refine aw_bipush (v := 13) (pc1 := 27) at_15_25 (by decide) rfl ?_
          refine aw_imul (v := (x1 * 13)) (pc1 := 28) at_15_27 rfl rfl ?_
          refine aw_iload_n (pc1 := 29) at_15_28 l2 rfl ?_
          refine aw_iadd (v := ((x1 * 13) + x2)) (pc1 := 30) at_15_29 rfl rfl ?_
          obtain ⟨v7, e8, hs2⟩ := am_bind hs1
          clear hs1
          refine aw_pAL (pc1 := 31) at_15_30 e8 rfl ?_
          refine aw_goto at_15_31 ?_
          exact rg_15_35 v7 h o   hs2
def fm_15 (y0 : Value) (y1 : Int32) (y2 : Int32) (h : am_H) : Option am_O := fg_15_0 y0 y1 y2 h
theorem rm_15 {X : am_X} {d : Nat} (y0 : Value) (y1 : Int32) (y2 : Int32) (h : am_H) (o : am_O) (i0 : am_isR y0 = true) (hs : fm_15 y0 y1 y2 h = some o) : am_W X (d) 15 0 (am_args 0 [y0, .int y1, .int y2]) [] h (fun q => q = o) := by
  rw [am_args_R i0, am_args_I, am_args_I]
  exact rg_15_0 y0 y1 y2 h o rfl rfl rfl i0 hs
def fg_16_6 (N : Nat) : Nat → Value → Int32 → Int32 → Int32 → Int64 → Int32 → am_H → Option am_O
  | 0 => fun _ _ _ _ _ _ _ => none
  | K + 1 => fun x0 x1 x2 x3 x4 x6 h => (if x3 ≤ x6 then some (.inl (some (.long x4), h)) else (if am_pOk 4 x0 h then am_cL true (fm_15 x0 x1 x6 h) (fun v3 h4 => (if am_pOk 4 x0 h4 then am_cL true (fm_15 x0 x2 ((x3 - x6)) h4) (fun v7 h8 => (fg_16_6 N K x0 x1 x2 x3 ((x4 + (v3 * v7))) ((x6 + 1)) h8)) else none)) else none))
theorem rg_16_6 {X : am_X} {d : Nat} {N : Nat} : ∀ (K : Nat) (x0 : Value) (x1 : Int32) (x2 : Int32) (x3 : Int32) (x4 : Int64) (x6 : Int32) (h : am_H) (o : am_O), fg_16_6 N K x0 x1 x2 x3 x4 x6 h = some o → ∀ lv : am_LV, (lv.lookup 0 = some x0) → (lv.lookup 1 = some (.int x1)) → (lv.lookup 2 = some (.int x2)) → (lv.lookup 3 = some (.int x3)) → (lv.lookup 4 = some (.long x4)) → (lv.lookup 6 = some (.int x6)) → (am_isR x0 = true) → am_W X (d + 1) 16 6 lv [] h (fun q => q = o) := by
  intro K
  induction K with
  | zero => intro x0 x1 x2 x3 x4 x6 h o hs; cases hs
  | succ K ih =>
    intro x0 x1 x2 x3 x4 x6 h o hs lv l0 l1 l2 l3 l4 l6 i0
    unfold fg_16_6 at hs
    refine aw_iload (pc1 := 8) at_16_6 l6 rfl ?_
    refine aw_iload_n (pc1 := 9) at_16_8 l3 rfl ?_
    by_cases c1 : x3 ≤ x6
    · rw [if_pos c1] at hs
      refine aw_icge_t at_16_9 c1 ?_
      refine aw_lload (pc1 := 42) at_16_40 l4 rfl ?_
      cases hs
      exact aw_lret at_16_42 rt_16 rfl
    · rw [if_neg c1] at hs
      refine aw_icge_f (pc1 := 12) at_16_9 c1 rfl ?_
      refine aw_lload (pc1 := 14) at_16_12 l4 rfl ?_
      refine aw_vload_n (pc1 := 15) at_16_14 l0 i0 rfl ?_
      refine aw_iload_n (pc1 := 16) at_16_15 l1 rfl ?_
      refine aw_iload (pc1 := 18) at_16_16 l6 rfl ?_
      obtain ⟨z2, hs1⟩ := am_ift hs
      clear hs
      refine aw_call (F := fm_15 x0 x1 x6 h) (t := true) (na := 3) (kd := 1) (as := [x0, (.int x1), (.int x6)]) at_16_18 (am_k3v kb_15) mn_15 mk_15 rfl rfl (am_ok_v mi_15 (am_hl rfl (am_ccR i0 (am_ccI (am_ccI am_cats_0))) rfl) z2) (am_hc (am_ccL am_cats_0) rfl) (fun _ => ⟨rfl, hh_16⟩) (fun o1 hz9 => rm_15 x0 x1 x6 h o1 i0 hz9) ?_
      rcases am_cL_s hs1 with ⟨v3, h4, f5, hs2⟩ | hs2
      · clear hs1
        refine Or.inl ⟨_, _, f5, ?_⟩
        show am_W X _ 16 21 _ [(.long v3), (.long x4)] h4 _
        refine aw_vload_n (pc1 := 22) at_16_21 l0 i0 rfl ?_
        refine aw_iload_n (pc1 := 23) at_16_22 l2 rfl ?_
        refine aw_iload_n (pc1 := 24) at_16_23 l3 rfl ?_
        refine aw_iload (pc1 := 26) at_16_24 l6 rfl ?_
        refine aw_isub (v := (x3 - x6)) (pc1 := 27) at_16_26 rfl rfl ?_
        obtain ⟨z6, hs3⟩ := am_ift hs2
        clear hs2
        refine aw_call (F := fm_15 x0 x2 ((x3 - x6)) h4) (t := true) (na := 3) (kd := 1) (as := [x0, (.int x2), (.int (x3 - x6))]) at_16_27 (am_k3v kb_15) mn_15 mk_15 rfl rfl (am_ok_v mi_15 (am_hl rfl (am_ccR i0 (am_ccI (am_ccI am_cats_0))) rfl) z6) (am_hc (am_ccL (am_ccL am_cats_0)) rfl) (fun _ => ⟨rfl, hh_16⟩) (fun o1 hz9 => rm_15 x0 x2 ((x3 - x6)) h4 o1 i0 hz9) ?_
        rcases am_cL_s hs3 with ⟨v7, h8, f9, hs4⟩ | hs4
        · clear hs3
          refine Or.inl ⟨_, _, f9, ?_⟩
          show am_W X _ 16 30 _ [(.long v7), (.long v3), (.long x4)] h8 _
          refine aw_lmul (v := (v3 * v7)) (pc1 := 31) at_16_30 rfl rfl ?_
          refine aw_ladd (v := (x4 + (v3 * v7))) (pc1 := 32) at_16_31 rfl rfl ?_
          refine aw_lstore (lv1 := am_put2 _ 4 _) (pc1 := 34) at_16_32 rfl rfl ?_
          refine aw_iinc (v := (x6 + 1)) (c := 1) (lv1 := am_put1 _ 6 _) (pc1 := 37) at_16_34 (am_lk2 l6 rfl rfl) (by decide) rfl rfl rfl ?_
          refine aw_goto at_16_37 ?_
          exact ih x0 x1 x2 x3 ((x4 + (v3 * v7))) ((x6 + 1)) h8 o hs4 _ (am_lk1 (am_lk2 l0 rfl rfl) rfl rfl) (am_lk1 (am_lk2 l1 rfl rfl) rfl rfl) (am_lk1 (am_lk2 l2 rfl rfl) rfl rfl) (am_lk1 (am_lk2 l3 rfl rfl) rfl rfl) (am_lk1 am_lk02 rfl rfl) am_lk0 i0
        · clear hs3
          exact Or.inr hs4
      · clear hs1
        exact Or.inr hs2
def fg_16_0 (N : Nat) (x0 : Value) (x1 : Int32) (x2 : Int32) (x3 : Int32) (h : am_H) : Option am_O := (fg_16_6 N N x0 x1 x2 x3 0 1 h)
theorem rg_16_0 {X : am_X} {d : Nat} {N : Nat} {lv : am_LV} (x0 : Value) (x1 : Int32) (x2 : Int32) (x3 : Int32) (h : am_H) (o : am_O) (l0 : lv.lookup 0 = some x0) (l1 : lv.lookup 1 = some (.int x1)) (l2 : lv.lookup 2 = some (.int x2)) (l3 : lv.lookup 3 = some (.int x3)) (i0 : am_isR x0 = true) (hs : fg_16_0 N x0 x1 x2 x3 h = some o) : am_W X (d + 1) 16 0 lv [] h (fun q => q = o) := by
  unfold fg_16_0 at hs
  refine aw_lconst (v := 0) (pc1 := 1) at_16_0 (by decide) rfl ?_
  refine aw_lstore (lv1 := am_put2 _ 4 _) (pc1 := 3) at_16_1 rfl rfl ?_
  refine aw_iconst (v := 1) (pc1 := 4) at_16_3 (by decide) rfl ?_
  refine aw_istore (lv1 := am_put1 _ 6 _) (pc1 := 6) at_16_4 rfl rfl ?_
  exact rg_16_6 N x0 x1 x2 x3 0 1 h o hs _ (am_lk1 (am_lk2 l0 rfl rfl) rfl rfl) (am_lk1 (am_lk2 l1 rfl rfl) rfl rfl) (am_lk1 (am_lk2 l2 rfl rfl) rfl rfl) (am_lk1 (am_lk2 l3 rfl rfl) rfl rfl) (am_lk1 am_lk02 rfl rfl) am_lk0 i0
def fm_16 (N : Nat) (y0 : Value) (y1 : Int32) (y2 : Int32) (y3 : Int32) (h : am_H) : Option am_O := fg_16_0 N y0 y1 y2 y3 h
theorem rm_16 {X : am_X} {d : Nat} {N : Nat} (y0 : Value) (y1 : Int32) (y2 : Int32) (y3 : Int32) (h : am_H) (o : am_O) (i0 : am_isR y0 = true) (hs : fm_16 N y0 y1 y2 y3 h = some o) : am_W X (d + 1) 16 0 (am_args 0 [y0, .int y1, .int y2, .int y3]) [] h (fun q => q = o) := by
  rw [am_args_R i0, am_args_I, am_args_I, am_args_I]
  exact rg_16_0 y0 y1 y2 y3 h o rfl rfl rfl rfl i0 hs
def fg_9_105 (N : Nat) : Nat → Value → Int32 → Int32 → Int32 → Int64 → Int32 → am_H → Option am_O
  | 0 => fun _ _ _ _ _ _ _ => none
  | K + 1 => fun x0 x3 x4 x5 x6 x8 h => (if (x3 - 1) ≤ x8 then some (.inl (some (.long x6), h)) else (if am_pOk 4 x0 h then am_cL true (fm_15 x0 x4 x8 h) (fun v3 h4 => (if am_pOk 4 x0 h4 then am_cL true (fm_16 N x0 x5 x5 (((x3 - 1) - x8)) h4) (fun v7 h8 => (fg_9_105 N K x0 x3 x4 x5 ((x6 + (v3 * v7))) ((x8 + 1)) h8)) else none)) else none))
theorem rg_9_105 {X : am_X} {d : Nat} {N : Nat} : ∀ (K : Nat) (x0 : Value) (x3 : Int32) (x4 : Int32) (x5 : Int32) (x6 : Int64) (x8 : Int32) (h : am_H) (o : am_O), fg_9_105 N K x0 x3 x4 x5 x6 x8 h = some o → ∀ lv : am_LV, (lv.lookup 0 = some x0) → (lv.lookup 3 = some (.int x3)) → (lv.lookup 4 = some (.int x4)) → (lv.lookup 5 = some (.int x5)) → (lv.lookup 6 = some (.long x6)) → (lv.lookup 8 = some (.int x8)) → (am_isR x0 = true) → am_W X (d + 2) 9 105 lv [] h (fun q => q = o) := by
  intro K
  induction K with
  | zero => intro x0 x3 x4 x5 x6 x8 h o hs; cases hs
  | succ K ih =>
    intro x0 x3 x4 x5 x6 x8 h o hs lv l0 l3 l4 l5 l6 l8 i0
    unfold fg_9_105 at hs
    refine aw_iload (pc1 := 107) at_9_105 l8 rfl ?_
    refine aw_iload_n (pc1 := 108) at_9_107 l3 rfl ?_
    refine aw_iconst (v := 1) (pc1 := 109) at_9_108 (by decide) rfl ?_
    refine aw_isub (v := (x3 - 1)) (pc1 := 110) at_9_109 rfl rfl ?_
    by_cases c1 : (x3 - 1) ≤ x8
    · rw [if_pos c1] at hs
      refine aw_icge_t at_9_110 c1 ?_
      refine aw_lload (pc1 := 149) at_9_147 l6 rfl ?_
      cases hs
      exact aw_lret at_9_149 rt_9 rfl
    · rw [if_neg c1] at hs
      refine aw_icge_f (pc1 := 113) at_9_110 c1 rfl ?_
      refine aw_lload (pc1 := 115) at_9_113 l6 rfl ?_
      refine aw_vload_n (pc1 := 116) at_9_115 l0 i0 rfl ?_
      refine aw_iload (pc1 := 118) at_9_116 l4 rfl ?_
      refine aw_iload (pc1 := 120) at_9_118 l8 rfl ?_
      obtain ⟨z2, hs1⟩ := am_ift hs
      clear hs
      refine aw_call (F := fm_15 x0 x4 x8 h) (t := true) (na := 3) (kd := 1) (as := [x0, (.int x4), (.int x8)]) at_9_120 (am_k3v kb_15) mn_15 mk_15 rfl rfl (am_ok_v mi_15 (am_hl rfl (am_ccR i0 (am_ccI (am_ccI am_cats_0))) rfl) z2) (am_hc (am_ccL am_cats_0) rfl) (fun _ => ⟨rfl, hh_9⟩) (fun o1 hz9 => rm_15 x0 x4 x8 h o1 i0 hz9) ?_
      rcases am_cL_s hs1 with ⟨v3, h4, f5, hs2⟩ | hs2
      · clear hs1
        refine Or.inl ⟨_, _, f5, ?_⟩
        show am_W X _ 9 123 _ [(.long v3), (.long x6)] h4 _
        refine aw_vload_n (pc1 := 124) at_9_123 l0 i0 rfl ?_
        refine aw_iload (pc1 := 126) at_9_124 l5 rfl ?_
        refine aw_iload (pc1 := 128) at_9_126 l5 rfl ?_
        refine aw_iload_n (pc1 := 129) at_9_128 l3 rfl ?_
        refine aw_iconst (v := 1) (pc1 := 130) at_9_129 (by decide) rfl ?_
        refine aw_isub (v := (x3 - 1)) (pc1 := 131) at_9_130 rfl rfl ?_
        refine aw_iload (pc1 := 133) at_9_131 l8 rfl ?_
        refine aw_isub (v := ((x3 - 1) - x8)) (pc1 := 134) at_9_133 rfl rfl ?_
        obtain ⟨z6, hs3⟩ := am_ift hs2
        clear hs2
        refine aw_call (F := fm_16 N x0 x5 x5 (((x3 - 1) - x8)) h4) (t := true) (na := 4) (kd := 1) (as := [x0, (.int x5), (.int x5), (.int ((x3 - 1) - x8))]) at_9_134 (am_k3v kb_16) mn_16 mk_16 rfl rfl (am_ok_v mi_16 (am_hl rfl (am_ccR i0 (am_ccI (am_ccI (am_ccI am_cats_0)))) rfl) z6) (am_hc (am_ccL (am_ccL am_cats_0)) rfl) (fun _ => ⟨rfl, hh_9⟩) (fun o1 hz9 => rm_16 x0 x5 x5 (((x3 - 1) - x8)) h4 o1 i0 hz9) ?_
        rcases am_cL_s hs3 with ⟨v7, h8, f9, hs4⟩ | hs4
        · clear hs3
          refine Or.inl ⟨_, _, f9, ?_⟩
          show am_W X _ 9 137 _ [(.long v7), (.long v3), (.long x6)] h8 _
          refine aw_lmul (v := (v3 * v7)) (pc1 := 138) at_9_137 rfl rfl ?_
          refine aw_ladd (v := (x6 + (v3 * v7))) (pc1 := 139) at_9_138 rfl rfl ?_
          refine aw_lstore (lv1 := am_put2 _ 6 _) (pc1 := 141) at_9_139 rfl rfl ?_
          refine aw_iinc (v := (x8 + 1)) (c := 1) (lv1 := am_put1 _ 8 _) (pc1 := 144) at_9_141 (am_lk2 l8 rfl rfl) (by decide) rfl rfl rfl ?_
          refine aw_goto at_9_144 ?_
          exact ih x0 x3 x4 x5 ((x6 + (v3 * v7))) ((x8 + 1)) h8 o hs4 _ (am_lk1 (am_lk2 l0 rfl rfl) rfl rfl) (am_lk1 (am_lk2 l3 rfl rfl) rfl rfl) (am_lk1 (am_lk2 l4 rfl rfl) rfl rfl) (am_lk1 (am_lk2 l5 rfl rfl) rfl rfl) (am_lk1 am_lk02 rfl rfl) am_lk0 i0
        · clear hs3
          exact Or.inr hs4
      · clear hs1
        exact Or.inr hs2
def fg_9_76 (N : Nat) (s0 : Int64) (h : am_H) : Option am_O := some (.inl (some (.long s0), h))
theorem rg_9_76 {X : am_X} {d : Nat} {N : Nat} {lv : am_LV} (s0 : Int64) (h : am_H) (o : am_O) (hs : fg_9_76 N s0 h = some o) : am_W X (d + 2) 9 76 lv [(.long s0)] h (fun q => q = o) := by
  unfold fg_9_76 at hs
  cases hs
  exact aw_lret at_9_76 rt_9 rfl
def fg_9_0 (N : Nat) (x0 : Value) (x1 : Int32) (x2 : Int32) (x3 : Int32) (h : am_H) : Option am_O := am_cI false (fm_10 x1 x2 h) (fun v1 h2 => (if ¬ v1 = 0 then am_cI false (fm_12 x1 x2 0 h2) (fun v5 h6 => am_cI false (fm_12 x1 x2 1 h6) (fun v8 h9 => am_cI false (fm_14 x2 h9) (fun v11 h12 => (if v11 = 0 then (if x3 ≤ 1 then (if ¬ x2 = 0 then (fg_9_76 N 1 h12) else (fg_9_76 N 10 h12)) else (fg_9_76 N 0 h12)) else (if v11 = 1 then (if am_pOk 4 x0 h12 then am_cL true (fm_15 x0 v5 ((x3 - 1)) h12) (fun v19 h20 => some (.inl (some (.long v19), h20))) else none) else (if v11 = 2 then (if am_pOk 4 x0 h12 then am_cL true (fm_16 N x0 v5 v8 ((x3 - 1)) h12) (fun v24 h25 => some (.inl (some (.long v24), h25))) else none) else (fg_9_105 N N x0 x3 v5 v8 0 1 h12))))))) else some (.inl (some (.long 0), h2))))
theorem rg_9_0 {X : am_X} {d : Nat} {N : Nat} {lv : am_LV} (x0 : Value) (x1 : Int32) (x2 : Int32) (x3 : Int32) (h : am_H) (o : am_O) (l0 : lv.lookup 0 = some x0) (l1 : lv.lookup 1 = some (.int x1)) (l2 : lv.lookup 2 = some (.int x2)) (l3 : lv.lookup 3 = some (.int x3)) (i0 : am_isR x0 = true) (hs : fg_9_0 N x0 x1 x2 x3 h = some o) : am_W X (d + 2) 9 0 lv [] h (fun q => q = o) := by
  unfold fg_9_0 at hs
  refine aw_iload_n (pc1 := 1) at_9_0 l1 rfl ?_
  refine aw_iload_n (pc1 := 2) at_9_1 l2 rfl ?_
  refine aw_call (F := fm_10 x1 x2 h) (t := false) (na := 2) (kd := 0) (as := [(.int x1), (.int x2)]) at_9_2 (am_k3s kb_10) mn_10 mk_10 rfl rfl (am_ok_s mi_10 (am_hl rfl (am_ccI (am_ccI am_cats_0)) rfl)) (am_hc am_cats_0 rfl) (fun hz9 => by cases hz9) (fun o1 hz9 => rm_10 x1 x2 h o1  hz9) ?_
  rcases am_cI_s hs with ⟨v1, h2, f3, hs1⟩ | hs1
  · clear hs
    refine Or.inl ⟨_, _, f3, ?_⟩
    show am_W X _ 9 5 _ [(.int v1)] h2 _
    by_cases c4 : ¬ v1 = 0
    · rw [if_pos c4] at hs1
      refine aw_ifne_t at_9_5 c4 ?_
      refine aw_iload_n (pc1 := 11) at_9_10 l1 rfl ?_
      refine aw_iload_n (pc1 := 12) at_9_11 l2 rfl ?_
      refine aw_iconst (v := 0) (pc1 := 13) at_9_12 (by decide) rfl ?_
      refine aw_call (F := fm_12 x1 x2 0 h2) (t := false) (na := 3) (kd := 0) (as := [(.int x1), (.int x2), (.int 0)]) at_9_13 (am_k3s kb_12) mn_12 mk_12 rfl rfl (am_ok_s mi_12 (am_hl rfl (am_ccI (am_ccI (am_ccI am_cats_0))) rfl)) (am_hc am_cats_0 rfl) (fun hz9 => by cases hz9) (fun o1 hz9 => rm_12 x1 x2 0 h2 o1  hz9) ?_
      rcases am_cI_s hs1 with ⟨v5, h6, f7, hs2⟩ | hs2
      · clear hs1
        refine Or.inl ⟨_, _, f7, ?_⟩
        show am_W X _ 9 16 _ [(.int v5)] h6 _
        refine aw_istore (lv1 := am_put1 _ 4 _) (pc1 := 18) at_9_16 rfl rfl ?_
        refine aw_iload_n (pc1 := 19) at_9_18 (am_lk1 l1 rfl rfl) rfl ?_
        refine aw_iload_n (pc1 := 20) at_9_19 (am_lk1 l2 rfl rfl) rfl ?_
        refine aw_iconst (v := 1) (pc1 := 21) at_9_20 (by decide) rfl ?_
        refine aw_call (F := fm_12 x1 x2 1 h6) (t := false) (na := 3) (kd := 0) (as := [(.int x1), (.int x2), (.int 1)]) at_9_21 (am_k3s kb_12) mn_12 mk_12 rfl rfl (am_ok_s mi_12 (am_hl rfl (am_ccI (am_ccI (am_ccI am_cats_0))) rfl)) (am_hc am_cats_0 rfl) (fun hz9 => by cases hz9) (fun o1 hz9 => rm_12 x1 x2 1 h6 o1  hz9) ?_
        rcases am_cI_s hs2 with ⟨v8, h9, f10, hs3⟩ | hs3
        · clear hs2
          refine Or.inl ⟨_, _, f10, ?_⟩
          show am_W X _ 9 24 _ [(.int v8)] h9 _
          refine aw_istore (lv1 := am_put1 _ 5 _) (pc1 := 26) at_9_24 rfl rfl ?_
          refine aw_iload_n (pc1 := 27) at_9_26 (am_lk1 (am_lk1 l2 rfl rfl) rfl rfl) rfl ?_
          refine aw_call (F := fm_14 x2 h9) (t := false) (na := 1) (kd := 0) (as := [(.int x2)]) at_9_27 (am_k3s kb_14) mn_14 mk_14 rfl rfl (am_ok_s mi_14 (am_hl rfl (am_ccI am_cats_0) rfl)) (am_hc am_cats_0 rfl) (fun hz9 => by cases hz9) (fun o1 hz9 => rm_14 x2 h9 o1  hz9) ?_
          rcases am_cI_s hs3 with ⟨v11, h12, f13, hs4⟩ | hs4
          · clear hs3
            refine Or.inl ⟨_, _, f13, ?_⟩
            show am_W X _ 9 30 _ [(.int v11)] h12 _
            by_cases c14 : v11 = 0
            · rw [if_pos c14] at hs4
              refine aw_tsw (t := 56) at_9_30 (by rw [c14]; rfl) ?_
              refine aw_iload_n (pc1 := 57) at_9_56 (am_lk1 (am_lk1 l3 rfl rfl) rfl rfl) rfl ?_
              refine aw_iconst (v := 1) (pc1 := 58) at_9_57 (by decide) rfl ?_
              by_cases c15 : x3 ≤ 1
              · rw [if_pos c15] at hs4
                refine aw_icle_t at_9_58 c15 ?_
                refine aw_iload_n (pc1 := 66) at_9_65 (am_lk1 (am_lk1 l2 rfl rfl) rfl rfl) rfl ?_
                by_cases c16 : ¬ x2 = 0
                · rw [if_pos c16] at hs4
                  refine aw_ifne_t at_9_66 c16 ?_
                  refine aw_lconst (v := 1) (pc1 := 76) at_9_75 (by decide) rfl ?_
                  exact rg_9_76 1 h12 o   hs4
                · rw [if_neg c16] at hs4
                  refine aw_ifne_f (pc1 := 69) at_9_66 c16 rfl ?_
                  refine aw_ldc2 (v := 10) (pc1 := 72) at_9_69 rfl rfl ?_
                  refine aw_goto at_9_72 ?_
                  exact rg_9_76 10 h12 o   hs4
              · rw [if_neg c15] at hs4
                refine aw_icle_f (pc1 := 61) at_9_58 c15 rfl ?_
                refine aw_lconst (v := 0) (pc1 := 62) at_9_61 (by decide) rfl ?_
                refine aw_goto at_9_62 ?_
                exact rg_9_76 0 h12 o   hs4
            · rw [if_neg c14] at hs4
              by_cases c17 : v11 = 1
              · rw [if_pos c17] at hs4
                refine aw_tsw (t := 77) at_9_30 (by rw [c17]; rfl) ?_
                refine aw_vload_n (pc1 := 78) at_9_77 (am_lk1 (am_lk1 l0 rfl rfl) rfl rfl) i0 rfl ?_
                refine aw_iload (pc1 := 80) at_9_78 (am_lk1 am_lk0 rfl rfl) rfl ?_
                refine aw_iload_n (pc1 := 81) at_9_80 (am_lk1 (am_lk1 l3 rfl rfl) rfl rfl) rfl ?_
                refine aw_iconst (v := 1) (pc1 := 82) at_9_81 (by decide) rfl ?_
                refine aw_isub (v := (x3 - 1)) (pc1 := 83) at_9_82 rfl rfl ?_
                obtain ⟨z18, hs5⟩ := am_ift hs4
                clear hs4
                refine aw_call (F := fm_15 x0 v5 ((x3 - 1)) h12) (t := true) (na := 3) (kd := 1) (as := [x0, (.int v5), (.int (x3 - 1))]) at_9_83 (am_k3v kb_15) mn_15 mk_15 rfl rfl (am_ok_v mi_15 (am_hl rfl (am_ccR i0 (am_ccI (am_ccI am_cats_0))) rfl) z18) (am_hc am_cats_0 rfl) (fun _ => ⟨rfl, hh_9⟩) (fun o1 hz9 => rm_15 x0 v5 ((x3 - 1)) h12 o1 i0 hz9) ?_
                rcases am_cL_s hs5 with ⟨v19, h20, f21, hs6⟩ | hs6
                · clear hs5
                  refine Or.inl ⟨_, _, f21, ?_⟩
                  show am_W X _ 9 86 _ [(.long v19)] h20 _
                  cases hs6
                  exact aw_lret at_9_86 rt_9 rfl
                · clear hs5
                  exact Or.inr hs6
              · rw [if_neg c17] at hs4
                by_cases c22 : v11 = 2
                · rw [if_pos c22] at hs4
                  refine aw_tsw (t := 87) at_9_30 (by rw [c22]; rfl) ?_
                  refine aw_vload_n (pc1 := 88) at_9_87 (am_lk1 (am_lk1 l0 rfl rfl) rfl rfl) i0 rfl ?_
                  refine aw_iload (pc1 := 90) at_9_88 (am_lk1 am_lk0 rfl rfl) rfl ?_
                  refine aw_iload (pc1 := 92) at_9_90 am_lk0 rfl ?_
                  refine aw_iload_n (pc1 := 93) at_9_92 (am_lk1 (am_lk1 l3 rfl rfl) rfl rfl) rfl ?_
                  refine aw_iconst (v := 1) (pc1 := 94) at_9_93 (by decide) rfl ?_
                  refine aw_isub (v := (x3 - 1)) (pc1 := 95) at_9_94 rfl rfl ?_
                  obtain ⟨z23, hs7⟩ := am_ift hs4
                  clear hs4
                  refine aw_call (F := fm_16 N x0 v5 v8 ((x3 - 1)) h12) (t := true) (na := 4) (kd := 1) (as := [x0, (.int v5), (.int v8), (.int (x3 - 1))]) at_9_95 (am_k3v kb_16) mn_16 mk_16 rfl rfl (am_ok_v mi_16 (am_hl rfl (am_ccR i0 (am_ccI (am_ccI (am_ccI am_cats_0)))) rfl) z23) (am_hc am_cats_0 rfl) (fun _ => ⟨rfl, hh_9⟩) (fun o1 hz9 => rm_16 x0 v5 v8 ((x3 - 1)) h12 o1 i0 hz9) ?_
                  rcases am_cL_s hs7 with ⟨v24, h25, f26, hs8⟩ | hs8
                  · clear hs7
                    refine Or.inl ⟨_, _, f26, ?_⟩
                    show am_W X _ 9 98 _ [(.long v24)] h25 _
                    cases hs8
                    exact aw_lret at_9_98 rt_9 rfl
                  · clear hs7
                    exact Or.inr hs8
                · rw [if_neg c22] at hs4
                  have tc14 : v11.toInt ≠ 0 := fun e9 => c14 (Int32.toInt_inj.mp e9)
                  have tc17 : v11.toInt ≠ 1 := fun e9 => c17 (Int32.toInt_inj.mp e9)
                  have tc22 : v11.toInt ≠ 2 := fun e9 => c22 (Int32.toInt_inj.mp e9)
                  refine aw_tsw (t := 99) at_9_30 (am_tsw_d (by omega)) ?_
                  refine aw_lconst (v := 0) (pc1 := 100) at_9_99 (by decide) rfl ?_
                  refine aw_lstore (lv1 := am_put2 _ 6 _) (pc1 := 102) at_9_100 rfl rfl ?_
                  refine aw_iconst (v := 1) (pc1 := 103) at_9_102 (by decide) rfl ?_
                  refine aw_istore (lv1 := am_put1 _ 8 _) (pc1 := 105) at_9_103 rfl rfl ?_
                  exact rg_9_105 N x0 x3 v5 v8 0 1 h12 o hs4 _ (am_lk1 (am_lk2 (am_lk1 (am_lk1 l0 rfl rfl) rfl rfl) rfl rfl) rfl rfl) (am_lk1 (am_lk2 (am_lk1 (am_lk1 l3 rfl rfl) rfl rfl) rfl rfl) rfl rfl) (am_lk1 (am_lk2 (am_lk1 am_lk0 rfl rfl) rfl rfl) rfl rfl) (am_lk1 (am_lk2 am_lk0 rfl rfl) rfl rfl) (am_lk1 am_lk02 rfl rfl) am_lk0 i0
          · clear hs3
            exact Or.inr hs4
        · clear hs2
          exact Or.inr hs3
      · clear hs1
        exact Or.inr hs2
    · rw [if_neg c4] at hs1
      refine aw_ifne_f (pc1 := 8) at_9_5 c4 rfl ?_
      refine aw_lconst (v := 0) (pc1 := 9) at_9_8 (by decide) rfl ?_
      cases hs1
      exact aw_lret at_9_9 rt_9 rfl
  · clear hs
    exact Or.inr hs1
def fm_9 (N : Nat) (y0 : Value) (y1 : Int32) (y2 : Int32) (y3 : Int32) (h : am_H) : Option am_O := fg_9_0 N y0 y1 y2 y3 h
theorem rm_9 {X : am_X} {d : Nat} {N : Nat} (y0 : Value) (y1 : Int32) (y2 : Int32) (y3 : Int32) (h : am_H) (o : am_O) (i0 : am_isR y0 = true) (hs : fm_9 N y0 y1 y2 y3 h = some o) : am_W X (d + 2) 9 0 (am_args 0 [y0, .int y1, .int y2, .int y3]) [] h (fun q => q = o) := by
  rw [am_args_R i0, am_args_I, am_args_I, am_args_I]
  exact rg_9_0 y0 y1 y2 y3 h o rfl rfl rfl rfl i0 hs
def fg_8_79 (N : Nat) (rec_71 : Value → Int32 → am_H → Option am_O) : Nat → Value → Int32 → Int32 → am_H → Option am_O
  | 0 => fun _ _ _ _ => none
  | K + 1 => fun x0 x1 x2 h => (if 126 ≤ x2 then (rec_71 x0 ((x1 + 1)) h) else (if am_pOk 4 x0 h then am_cL true (fm_9 N x0 ((x2 / 21)) ((x2 - x2 / 21 * 21)) x1 h) (fun v3 h4 => ((am_vR (am_pG 1024 x0 h4)).bind fun v6 => ((am_pSL v6 ((x2 * 13) + x1) v3 h4).bind fun h8 => ((am_vR (am_pG 1025 x0 h8)).bind fun v10 => ((am_pAL v10 (((x2 / 21) * 13) + x1) h8).bind fun v12 => ((am_pSL v10 (((x2 / 21) * 13) + x1) (v12 + v3) h8).bind fun h14 => (fg_8_79 N rec_71 K x0 x1 ((x2 + 1)) h14))))))) else none))
theorem rg_8_79 {X : am_X} {d : Nat} {N : Nat} {rec_71 : Value → Int32 → am_H → Option am_O} (q_71 : ∀ (x0 : Value) (x1 : Int32) (h : am_H) (o : am_O), rec_71 x0 x1 h = some o → ∀ lv : am_LV, (lv.lookup 0 = some x0) → (lv.lookup 1 = some (.int x1)) → (am_isR x0 = true) → am_W X (d + 3) 8 71 lv [] h (fun q => q = o)) : ∀ (K : Nat) (x0 : Value) (x1 : Int32) (x2 : Int32) (h : am_H) (o : am_O), fg_8_79 N rec_71 K x0 x1 x2 h = some o → ∀ lv : am_LV, (lv.lookup 0 = some x0) → (lv.lookup 1 = some (.int x1)) → (lv.lookup 2 = some (.int x2)) → (am_isR x0 = true) → am_W X (d + 3) 8 79 lv [] h (fun q => q = o) := by
  intro K
  induction K with
  | zero => intro x0 x1 x2 h o hs; cases hs
  | succ K ih =>
    intro x0 x1 x2 h o hs lv l0 l1 l2 i0
    unfold fg_8_79 at hs
    refine aw_iload_n (pc1 := 80) at_8_79 l2 rfl ?_
    refine aw_bipush (v := 126) (pc1 := 82) at_8_80 (by decide) rfl ?_
    by_cases c1 : 126 ≤ x2
    · rw [if_pos c1] at hs
      refine aw_icge_t at_8_82 c1 ?_
      refine aw_iinc (v := (x1 + 1)) (c := 1) (lv1 := am_put1 _ 1 _) (pc1 := 138) at_8_135 l1 (by decide) rfl rfl rfl ?_
      refine aw_goto at_8_138 ?_
      exact q_71 x0 ((x1 + 1)) h o hs _ (am_lk1 l0 rfl (by rw [am_isRc i0]; rfl)) am_lk0 i0
    · rw [if_neg c1] at hs
      refine aw_icge_f (pc1 := 85) at_8_82 c1 rfl ?_
      refine aw_vload_n (pc1 := 86) at_8_85 l0 i0 rfl ?_
      refine aw_iload_n (pc1 := 87) at_8_86 l2 rfl ?_
      refine aw_bipush (v := 21) (pc1 := 89) at_8_87 (by decide) rfl ?_
      refine aw_idiv (v := (x2 / 21)) (pc1 := 90) at_8_89 (by decide) rfl rfl ?_
      refine aw_iload_n (pc1 := 91) at_8_90 l2 rfl ?_
      refine aw_bipush (v := 21) (pc1 := 93) at_8_91 (by decide) rfl ?_
      refine aw_irem (v := (x2 - x2 / 21 * 21)) (pc1 := 94) at_8_93 (by decide) rfl rfl ?_
      refine aw_iload_n (pc1 := 95) at_8_94 l1 rfl ?_
      obtain ⟨z2, hs1⟩ := am_ift hs
      clear hs
      refine aw_call (F := fm_9 N x0 ((x2 / 21)) ((x2 - x2 / 21 * 21)) x1 h) (t := true) (na := 4) (kd := 1) (as := [x0, (.int (x2 / 21)), (.int (x2 - x2 / 21 * 21)), (.int x1)]) at_8_95 (am_k3v kb_9) mn_9 mk_9 rfl rfl (am_ok_v mi_9 (am_hl rfl (am_ccR i0 (am_ccI (am_ccI (am_ccI am_cats_0)))) rfl) z2) (am_hc am_cats_0 rfl) (fun _ => ⟨rfl, hh_8⟩) (fun o1 hz9 => rm_9 x0 ((x2 / 21)) ((x2 - x2 / 21 * 21)) x1 h o1 i0 hz9) ?_
      rcases am_cL_s hs1 with ⟨v3, h4, f5, hs2⟩ | hs2
      · clear hs1
        refine Or.inl ⟨_, _, f5, ?_⟩
        show am_W X _ 8 98 _ [(.long v3)] h4 _
        refine aw_lstore_n (lv1 := am_put2 _ 3 _) (pc1 := 99) at_8_98 rfl rfl ?_
        refine aw_vload_n (pc1 := 100) at_8_99 (am_lk2 l0 rfl rfl) i0 rfl ?_
        obtain ⟨v6, e7, hs3⟩ := am_bind hs2
        clear hs2
        refine aw_pG (pc1 := 103) at_8_100 (am_vR_s e7).1 rfl ?_
        refine aw_iload_n (pc1 := 104) at_8_103 (am_lk2 l2 rfl rfl) rfl ?_
        refine aw_bipush (v := 13) (pc1 := 106) at_8_104 (by decide) rfl ?_
        refine aw_imul (v := (x2 * 13)) (pc1 := 107) at_8_106 rfl rfl ?_
        refine aw_iload_n (pc1 := 108) at_8_107 (am_lk2 l1 rfl rfl) rfl ?_
        refine aw_iadd (v := ((x2 * 13) + x1)) (pc1 := 109) at_8_108 rfl rfl ?_
        refine aw_lload_n (pc1 := 110) at_8_109 am_lk02 rfl ?_
        obtain ⟨h8, e9, hs4⟩ := am_bind hs3
        clear hs3
        refine aw_pSL (pc1 := 111) at_8_110 e9 rfl ?_
        refine aw_vload_n (pc1 := 112) at_8_111 (am_lk2 l0 rfl rfl) i0 rfl ?_
        obtain ⟨v10, e11, hs5⟩ := am_bind hs4
        clear hs4
        refine aw_pG (pc1 := 115) at_8_112 (am_vR_s e11).1 rfl ?_
        refine aw_iload_n (pc1 := 116) at_8_115 (am_lk2 l2 rfl rfl) rfl ?_
        refine aw_bipush (v := 21) (pc1 := 118) at_8_116 (by decide) rfl ?_
        refine aw_idiv (v := (x2 / 21)) (pc1 := 119) at_8_118 (by decide) rfl rfl ?_
        refine aw_bipush (v := 13) (pc1 := 121) at_8_119 (by decide) rfl ?_
        refine aw_imul (v := ((x2 / 21) * 13)) (pc1 := 122) at_8_121 rfl rfl ?_
        refine aw_iload_n (pc1 := 123) at_8_122 (am_lk2 l1 rfl rfl) rfl ?_
        refine aw_iadd (v := (((x2 / 21) * 13) + x1)) (pc1 := 124) at_8_123 rfl rfl ?_
        refine aw_vdup2 (pc1 := 125) at_8_124 (am_vR_s e11).2 rfl ?_
        obtain ⟨v12, e13, hs6⟩ := am_bind hs5
        clear hs5
        refine aw_pAL (pc1 := 126) at_8_125 e13 rfl ?_
        refine aw_lload_n (pc1 := 127) at_8_126 am_lk02 rfl ?_
        refine aw_ladd (v := (v12 + v3)) (pc1 := 128) at_8_127 rfl rfl ?_
        obtain ⟨h14, e15, hs7⟩ := am_bind hs6
        clear hs6
        refine aw_pSL (pc1 := 129) at_8_128 e15 rfl ?_
        refine aw_iinc (v := (x2 + 1)) (c := 1) (lv1 := am_put1 _ 2 _) (pc1 := 132) at_8_129 (am_lk2 l2 rfl rfl) (by decide) rfl rfl rfl ?_
        refine aw_goto at_8_132 ?_
        exact ih x0 x1 ((x2 + 1)) h14 o hs7 _ (am_lk1 (am_lk2 l0 rfl rfl) rfl rfl) (am_lk1 (am_lk2 l1 rfl rfl) rfl rfl) am_lk0 i0
      · clear hs1
        exact Or.inr hs2
def fg_8_71 (N : Nat) : Nat → Value → Int32 → am_H → Option am_O
  | 0 => fun _ _ _ => none
  | K + 1 => fun x0 x1 h => (if 13 ≤ x1 then some (.inl (none, h)) else (fg_8_79 N (fg_8_71 N K) N x0 x1 0 h))
theorem rg_8_71 {X : am_X} {d : Nat} {N : Nat} : ∀ (K : Nat) (x0 : Value) (x1 : Int32) (h : am_H) (o : am_O), fg_8_71 N K x0 x1 h = some o → ∀ lv : am_LV, (lv.lookup 0 = some x0) → (lv.lookup 1 = some (.int x1)) → (am_isR x0 = true) → am_W X (d + 3) 8 71 lv [] h (fun q => q = o) := by
  intro K
  induction K with
  | zero => intro x0 x1 h o hs; cases hs
  | succ K ih =>
    intro x0 x1 h o hs lv l0 l1 i0
    unfold fg_8_71 at hs
    refine aw_iload_n (pc1 := 72) at_8_71 l1 rfl ?_
    refine aw_bipush (v := 13) (pc1 := 74) at_8_72 (by decide) rfl ?_
    by_cases c1 : 13 ≤ x1
    · rw [if_pos c1] at hs
      refine aw_icge_t at_8_74 c1 ?_
      cases hs
      exact aw_vret at_8_141 rt_8 rfl
    · rw [if_neg c1] at hs
      refine aw_icge_f (pc1 := 77) at_8_74 c1 rfl ?_
      refine aw_iconst (v := 0) (pc1 := 78) at_8_77 (by decide) rfl ?_
      refine aw_istore_n (lv1 := am_put1 _ 2 _) (pc1 := 79) at_8_78 rfl rfl ?_
      exact rg_8_79 (fun z0 z1 h o hs => ih z0 z1 h o hs) N x0 x1 0 h o hs _ (am_lk1 l0 rfl rfl) (am_lk1 l1 rfl rfl) am_lk0 i0
def fg_8_0 (N : Nat) (x0 : Value) (h : am_H) : Option am_O := (if am_pRf x0 then ((am_pNew 1 1638 h).bind fun h2 => ((am_pP 1024 x0 (Value.ref h.length) h2).bind fun h4 => ((am_pNew 1 78 h4).bind fun h6 => ((am_pP 1025 x0 (Value.ref h4.length) h6).bind fun h8 => ((am_pObj 7 h8).bind fun h10 => (if am_pOk 7 (Value.ref h8.length) h10 then am_cV false (fm_3 ((Value.ref h8.length)) h10) (fun h14 => ((am_pP 1026 x0 (Value.ref h8.length) h14).bind fun h16 => ((am_pP 1027 x0 Value.null h16).bind fun h18 => ((am_pNew 6 24 h18).bind fun h20 => ((am_pP 1028 x0 (Value.ref h18.length) h20).bind fun h22 => ((am_pNew 0 24 h22).bind fun h24 => ((am_pP 1029 x0 (Value.ref h22.length) h24).bind fun h26 => ((am_pP 1030 x0 (.int 0) h26).bind fun h28 => ((am_pP 1031 x0 Value.null h28).bind fun h30 => ((am_pP 1032 x0 (.int 0) h30).bind fun h32 => (fg_8_71 N N x0 1 h32))))))))))) else none)))))) else none)
theorem rg_8_0 {X : am_X} {d : Nat} {N : Nat} {lv : am_LV} (x0 : Value) (h : am_H) (o : am_O) (l0 : lv.lookup 0 = some x0) (i0 : am_isR x0 = true) (hs : fg_8_0 N x0 h = some o) : am_W X (d + 3) 8 0 lv [] h (fun q => q = o) := by
  unfold fg_8_0 at hs
  refine aw_vload_n (pc1 := 1) at_8_0 l0 i0 rfl ?_
  obtain ⟨z1, hs1⟩ := am_ift hs
  clear hs
  refine aw_obi at_8_1 rfl z1 (am_hc am_cats_0 rfl) ?_
  refine aw_vload_n (pc1 := 5) at_8_4 l0 i0 rfl ?_
  refine aw_sipush (v := 1638) (pc1 := 8) at_8_5 (by decide) rfl ?_
  obtain ⟨h2, e3, hs2⟩ := am_bind hs1
  clear hs1
  refine aw_pNew (pc1 := 10) at_8_8 e3 rfl ?_
  obtain ⟨h4, e5, hs3⟩ := am_bind hs2
  clear hs2
  refine aw_pP (pc1 := 13) at_8_10 e5 rfl ?_
  refine aw_vload_n (pc1 := 14) at_8_13 l0 i0 rfl ?_
  refine aw_bipush (v := 78) (pc1 := 16) at_8_14 (by decide) rfl ?_
  obtain ⟨h6, e7, hs4⟩ := am_bind hs3
  clear hs3
  refine aw_pNew (pc1 := 18) at_8_16 e7 rfl ?_
  obtain ⟨h8, e9, hs5⟩ := am_bind hs4
  clear hs4
  refine aw_pP (pc1 := 21) at_8_18 e9 rfl ?_
  refine aw_vload_n (pc1 := 22) at_8_21 l0 i0 rfl ?_
  obtain ⟨h10, e11, hs6⟩ := am_bind hs5
  clear hs5
  refine aw_pObj (pc1 := 25) at_8_22 rfl rfl e11 rfl ?_
  refine aw_vdup (pc1 := 26) at_8_25 rfl rfl ?_
  obtain ⟨z12, hs7⟩ := am_ift hs6
  clear hs6
  refine aw_call (F := fm_3 ((Value.ref h8.length)) h10) (t := false) (na := 1) (kd := 2) (as := [(Value.ref h8.length)]) at_8_26 (am_k3p kb_3) mn_3 mk_3 rfl rfl (am_ok_v mi_3 (am_hl rfl (am_ccR rfl am_cats_0) rfl) z12) (am_hc (am_ccR rfl (am_ccR i0 am_cats_0)) rfl) (fun hz9 => by cases hz9) (fun o1 hz9 => rm_3 ((Value.ref h8.length)) h10 o1 rfl hz9) ?_
  rcases am_cV_s hs7 with ⟨h14, f15, hs8⟩ | hs8
  · clear hs7
    refine Or.inl ⟨_, _, f15, ?_⟩
    show am_W X _ 8 29 _ [(Value.ref h8.length), x0] h14 _
    obtain ⟨h16, e17, hs9⟩ := am_bind hs8
    clear hs8
    refine aw_pP (pc1 := 32) at_8_29 e17 rfl ?_
    refine aw_vload_n (pc1 := 33) at_8_32 l0 i0 rfl ?_
    refine aw_null (pc1 := 34) at_8_33 rfl ?_
    obtain ⟨h18, e19, hs10⟩ := am_bind hs9
    clear hs9
    refine aw_pP (pc1 := 37) at_8_34 e19 rfl ?_
    refine aw_vload_n (pc1 := 38) at_8_37 l0 i0 rfl ?_
    refine aw_bipush (v := 24) (pc1 := 40) at_8_38 (by decide) rfl ?_
    obtain ⟨h20, e21, hs11⟩ := am_bind hs10
    clear hs10
    refine aw_pNewR (pc1 := 43) at_8_40 rfl e21 rfl ?_
    obtain ⟨h22, e23, hs12⟩ := am_bind hs11
    clear hs11
    refine aw_pP (pc1 := 46) at_8_43 e23 rfl ?_
    refine aw_vload_n (pc1 := 47) at_8_46 l0 i0 rfl ?_
    refine aw_bipush (v := 24) (pc1 := 49) at_8_47 (by decide) rfl ?_
    obtain ⟨h24, e25, hs13⟩ := am_bind hs12
    clear hs12
    refine aw_pNew (pc1 := 51) at_8_49 e25 rfl ?_
    obtain ⟨h26, e27, hs14⟩ := am_bind hs13
    clear hs13
    refine aw_pP (pc1 := 54) at_8_51 e27 rfl ?_
    refine aw_vload_n (pc1 := 55) at_8_54 l0 i0 rfl ?_
    refine aw_iconst (v := 0) (pc1 := 56) at_8_55 (by decide) rfl ?_
    obtain ⟨h28, e29, hs15⟩ := am_bind hs14
    clear hs14
    refine aw_pP (pc1 := 59) at_8_56 e29 rfl ?_
    refine aw_vload_n (pc1 := 60) at_8_59 l0 i0 rfl ?_
    refine aw_null (pc1 := 61) at_8_60 rfl ?_
    obtain ⟨h30, e31, hs16⟩ := am_bind hs15
    clear hs15
    refine aw_pP (pc1 := 64) at_8_61 e31 rfl ?_
    refine aw_vload_n (pc1 := 65) at_8_64 l0 i0 rfl ?_
    refine aw_iconst (v := 0) (pc1 := 66) at_8_65 (by decide) rfl ?_
    obtain ⟨h32, e33, hs17⟩ := am_bind hs16
    clear hs16
    refine aw_pP (pc1 := 69) at_8_66 e33 rfl ?_
    refine aw_iconst (v := 1) (pc1 := 70) at_8_69 (by decide) rfl ?_
    refine aw_istore_n (lv1 := am_put1 _ 1 _) (pc1 := 71) at_8_70 rfl rfl ?_
    exact rg_8_71 N x0 1 h32 o hs17 _ (am_lk1 l0 rfl (by rw [am_isRc i0]; rfl)) am_lk0 i0
  · clear hs7
    exact Or.inr hs8
def fm_8 (N : Nat) (y0 : Value) (h : am_H) : Option am_O := fg_8_0 N y0 h
theorem rm_8 {X : am_X} {d : Nat} {N : Nat} (y0 : Value) (h : am_H) (o : am_O) (i0 : am_isR y0 = true) (hs : fm_8 N y0 h = some o) : am_W X (d + 3) 8 0 (am_args 0 [y0]) [] h (fun q => q = o) := by
  rw [am_args_R i0]
  exact rg_8_0 y0 h o rfl i0 hs
def fg_18_64 (s0 : Value) (s1 : Int32) (h : am_H) : Option am_O := ((am_pNew 0 s1 h).bind fun h1 => ((am_pP 768 s0 (Value.ref h.length) h1).bind fun h3 => some (.inl (none, h3))))
theorem rg_18_64 {X : am_X} {d : Nat} {lv : am_LV} (s0 : Value) (s1 : Int32) (h : am_H) (o : am_O) (j0 : am_isR s0 = true) (hs : fg_18_64 s0 s1 h = some o) : am_W X (d) 18 64 lv [(.int s1), s0] h (fun q => q = o) := by
  unfold fg_18_64 at hs
  obtain ⟨h1, e2, hs1⟩ := am_bind hs
  clear hs
  refine aw_pNew (pc1 := 66) at_18_64 e2 rfl ?_
  obtain ⟨h3, e4, hs2⟩ := am_bind hs1
  clear hs1
  refine aw_pP (pc1 := 69) at_18_66 e4 rfl ?_
  cases hs2
  exact aw_vret at_18_69 rt_18 rfl
def fg_18_0 (x0 : Value) (x1 : Int32) (h : am_H) : Option am_O := (if am_pRf x0 then ((am_pP 769 x0 (.int 0) h).bind fun h2 => ((am_pP 770 x0 (.int 0) h2).bind fun h4 => ((am_pP 771 x0 (.int 0) h4).bind fun h6 => ((am_pP 772 x0 (.int 2) h6).bind fun h8 => ((am_pP 773 x0 (.int 0) h8).bind fun h10 => ((am_pP 774 x0 (.int (-1)) h10).bind fun h12 => ((am_pP 775 x0 (.int (-1)) h12).bind fun h14 => ((am_pP 776 x0 (.int (-1)) h14).bind fun h16 => ((am_pP 777 x0 (.int (-1)) h16).bind fun h18 => ((am_pP 778 x0 (.long 0) h18).bind fun h20 => (if x1 ≤ 0 then (fg_18_64 x0 0 h20) else (fg_18_64 x0 x1 h20)))))))))))) else none)
theorem rg_18_0 {X : am_X} {d : Nat} {lv : am_LV} (x0 : Value) (x1 : Int32) (h : am_H) (o : am_O) (l0 : lv.lookup 0 = some x0) (l1 : lv.lookup 1 = some (.int x1)) (i0 : am_isR x0 = true) (hs : fg_18_0 x0 x1 h = some o) : am_W X (d) 18 0 lv [] h (fun q => q = o) := by
  unfold fg_18_0 at hs
  refine aw_vload_n (pc1 := 1) at_18_0 l0 i0 rfl ?_
  obtain ⟨z1, hs1⟩ := am_ift hs
  clear hs
  refine aw_obi at_18_1 rfl z1 (am_hc am_cats_0 rfl) ?_
  refine aw_vload_n (pc1 := 5) at_18_4 l0 i0 rfl ?_
  refine aw_iconst (v := 0) (pc1 := 6) at_18_5 (by decide) rfl ?_
  obtain ⟨h2, e3, hs2⟩ := am_bind hs1
  clear hs1
  refine aw_pP (pc1 := 9) at_18_6 e3 rfl ?_
  refine aw_vload_n (pc1 := 10) at_18_9 l0 i0 rfl ?_
  refine aw_iconst (v := 0) (pc1 := 11) at_18_10 (by decide) rfl ?_
  obtain ⟨h4, e5, hs3⟩ := am_bind hs2
  clear hs2
  refine aw_pP (pc1 := 14) at_18_11 e5 rfl ?_
  refine aw_vload_n (pc1 := 15) at_18_14 l0 i0 rfl ?_
  refine aw_iconst (v := 0) (pc1 := 16) at_18_15 (by decide) rfl ?_
  obtain ⟨h6, e7, hs4⟩ := am_bind hs3
  clear hs3
  refine aw_pP (pc1 := 19) at_18_16 e7 rfl ?_
  refine aw_vload_n (pc1 := 20) at_18_19 l0 i0 rfl ?_
  refine aw_iconst (v := 2) (pc1 := 21) at_18_20 (by decide) rfl ?_
  obtain ⟨h8, e9, hs5⟩ := am_bind hs4
  clear hs4
  refine aw_pP (pc1 := 24) at_18_21 e9 rfl ?_
  refine aw_vload_n (pc1 := 25) at_18_24 l0 i0 rfl ?_
  refine aw_iconst (v := 0) (pc1 := 26) at_18_25 (by decide) rfl ?_
  obtain ⟨h10, e11, hs6⟩ := am_bind hs5
  clear hs5
  refine aw_pP (pc1 := 29) at_18_26 e11 rfl ?_
  refine aw_vload_n (pc1 := 30) at_18_29 l0 i0 rfl ?_
  refine aw_iconst (v := (-1)) (pc1 := 31) at_18_30 (by decide) rfl ?_
  obtain ⟨h12, e13, hs7⟩ := am_bind hs6
  clear hs6
  refine aw_pP (pc1 := 34) at_18_31 e13 rfl ?_
  refine aw_vload_n (pc1 := 35) at_18_34 l0 i0 rfl ?_
  refine aw_iconst (v := (-1)) (pc1 := 36) at_18_35 (by decide) rfl ?_
  obtain ⟨h14, e15, hs8⟩ := am_bind hs7
  clear hs7
  refine aw_pP (pc1 := 39) at_18_36 e15 rfl ?_
  refine aw_vload_n (pc1 := 40) at_18_39 l0 i0 rfl ?_
  refine aw_iconst (v := (-1)) (pc1 := 41) at_18_40 (by decide) rfl ?_
  obtain ⟨h16, e17, hs9⟩ := am_bind hs8
  clear hs8
  refine aw_pP (pc1 := 44) at_18_41 e17 rfl ?_
  refine aw_vload_n (pc1 := 45) at_18_44 l0 i0 rfl ?_
  refine aw_iconst (v := (-1)) (pc1 := 46) at_18_45 (by decide) rfl ?_
  obtain ⟨h18, e19, hs10⟩ := am_bind hs9
  clear hs9
  refine aw_pP (pc1 := 49) at_18_46 e19 rfl ?_
  refine aw_vload_n (pc1 := 50) at_18_49 l0 i0 rfl ?_
  refine aw_lconst (v := 0) (pc1 := 51) at_18_50 (by decide) rfl ?_
  obtain ⟨h20, e21, hs11⟩ := am_bind hs10
  clear hs10
  refine aw_pP (pc1 := 54) at_18_51 e21 rfl ?_
  refine aw_vload_n (pc1 := 55) at_18_54 l0 i0 rfl ?_
  refine aw_iload_n (pc1 := 56) at_18_55 l1 rfl ?_
  by_cases c22 : x1 ≤ 0
  · rw [if_pos c22] at hs11
    refine aw_ifle_t at_18_56 c22 ?_
    refine aw_iconst (v := 0) (pc1 := 64) at_18_63 (by decide) rfl ?_
    exact rg_18_64 x0 0 h20 o  i0 hs11
  · rw [if_neg c22] at hs11
    refine aw_ifle_f (pc1 := 59) at_18_56 c22 rfl ?_
    refine aw_iload_n (pc1 := 60) at_18_59 l1 rfl ?_
    refine aw_goto at_18_60 ?_
    exact rg_18_64 x0 x1 h20 o  i0 hs11
def fm_18 (y0 : Value) (y1 : Int32) (h : am_H) : Option am_O := fg_18_0 y0 y1 h
theorem rm_18 {X : am_X} {d : Nat} (y0 : Value) (y1 : Int32) (h : am_H) (o : am_O) (i0 : am_isR y0 = true) (hs : fm_18 y0 y1 h = some o) : am_W X (d) 18 0 (am_args 0 [y0, .int y1]) [] h (fun q => q = o) := by
  rw [am_args_R i0, am_args_I]
  exact rg_18_0 y0 y1 h o rfl rfl i0 hs
def fg_17_0 (x0 : Value) (h : am_H) : Option am_O := (if am_pRf x0 then ((am_pObj 3 h).bind fun h2 => (if am_pOk 3 (Value.ref h.length) h2 then am_cV false (fm_18 ((Value.ref h.length)) 120 h2) (fun h6 => ((am_pP 0 x0 (Value.ref h.length) h6).bind fun h8 => ((am_pObj 3 h8).bind fun h10 => (if am_pOk 3 (Value.ref h8.length) h10 then am_cV false (fm_18 ((Value.ref h8.length)) 120 h10) (fun h14 => ((am_pP 1 x0 (Value.ref h8.length) h14).bind fun h16 => ((am_pObj 7 h16).bind fun h18 => (if am_pOk 7 (Value.ref h16.length) h18 then am_cV false (fm_3 ((Value.ref h16.length)) h18) (fun h22 => ((am_pP 2 x0 (Value.ref h16.length) h22).bind fun h24 => ((am_pObj 7 h24).bind fun h26 => (if am_pOk 7 (Value.ref h24.length) h26 then am_cV false (fm_3 ((Value.ref h24.length)) h26) (fun h30 => ((am_pP 3 x0 (Value.ref h24.length) h30).bind fun h32 => ((am_pObj 7 h32).bind fun h34 => (if am_pOk 7 (Value.ref h32.length) h34 then am_cV false (fm_3 ((Value.ref h32.length)) h34) (fun h38 => ((am_pP 4 x0 (Value.ref h32.length) h38).bind fun h40 => ((am_pP 5 x0 Value.null h40).bind fun h42 => ((am_pP 6 x0 Value.null h42).bind fun h44 => ((am_pP 7 x0 (.int 0) h44).bind fun h46 => ((am_pP 8 x0 (.int 1) h46).bind fun h48 => ((am_pP 9 x0 (.int 0) h48).bind fun h50 => ((am_pP 10 x0 Value.null h50).bind fun h52 => ((am_pP 11 x0 (.int 0) h52).bind fun h54 => ((am_pP 12 x0 (.int 0) h54).bind fun h56 => some (.inl (none, h56)))))))))))) else none)))) else none)))) else none)))) else none)))) else none)) else none)
theorem rg_17_0 {X : am_X} {d : Nat} {lv : am_LV} (x0 : Value) (h : am_H) (o : am_O) (l0 : lv.lookup 0 = some x0) (i0 : am_isR x0 = true) (hs : fg_17_0 x0 h = some o) : am_W X (d + 1) 17 0 lv [] h (fun q => q = o) := by
  unfold fg_17_0 at hs
  refine aw_vload_n (pc1 := 1) at_17_0 l0 i0 rfl ?_
  obtain ⟨z1, hs1⟩ := am_ift hs
  clear hs
  refine aw_obi at_17_1 rfl z1 (am_hc am_cats_0 rfl) ?_
  refine aw_vload_n (pc1 := 5) at_17_4 l0 i0 rfl ?_
  obtain ⟨h2, e3, hs2⟩ := am_bind hs1
  clear hs1
  refine aw_pObj (pc1 := 8) at_17_5 rfl rfl e3 rfl ?_
  refine aw_vdup (pc1 := 9) at_17_8 rfl rfl ?_
  refine aw_bipush (v := 120) (pc1 := 11) at_17_9 (by decide) rfl ?_
  obtain ⟨z4, hs3⟩ := am_ift hs2
  clear hs2
  refine aw_call (F := fm_18 ((Value.ref h.length)) 120 h2) (t := false) (na := 2) (kd := 2) (as := [(Value.ref h.length), (.int 120)]) at_17_11 (am_k3p kb_18) mn_18 mk_18 rfl rfl (am_ok_v mi_18 (am_hl rfl (am_ccR rfl (am_ccI am_cats_0)) rfl) z4) (am_hc (am_ccR rfl (am_ccR i0 am_cats_0)) rfl) (fun hz9 => by cases hz9) (fun o1 hz9 => rm_18 ((Value.ref h.length)) 120 h2 o1 rfl hz9) ?_
  rcases am_cV_s hs3 with ⟨h6, f7, hs4⟩ | hs4
  · clear hs3
    refine Or.inl ⟨_, _, f7, ?_⟩
    show am_W X _ 17 14 _ [(Value.ref h.length), x0] h6 _
    obtain ⟨h8, e9, hs5⟩ := am_bind hs4
    clear hs4
    refine aw_pP (pc1 := 17) at_17_14 e9 rfl ?_
    refine aw_vload_n (pc1 := 18) at_17_17 l0 i0 rfl ?_
    obtain ⟨h10, e11, hs6⟩ := am_bind hs5
    clear hs5
    refine aw_pObj (pc1 := 21) at_17_18 rfl rfl e11 rfl ?_
    refine aw_vdup (pc1 := 22) at_17_21 rfl rfl ?_
    refine aw_bipush (v := 120) (pc1 := 24) at_17_22 (by decide) rfl ?_
    obtain ⟨z12, hs7⟩ := am_ift hs6
    clear hs6
    refine aw_call (F := fm_18 ((Value.ref h8.length)) 120 h10) (t := false) (na := 2) (kd := 2) (as := [(Value.ref h8.length), (.int 120)]) at_17_24 (am_k3p kb_18) mn_18 mk_18 rfl rfl (am_ok_v mi_18 (am_hl rfl (am_ccR rfl (am_ccI am_cats_0)) rfl) z12) (am_hc (am_ccR rfl (am_ccR i0 am_cats_0)) rfl) (fun hz9 => by cases hz9) (fun o1 hz9 => rm_18 ((Value.ref h8.length)) 120 h10 o1 rfl hz9) ?_
    rcases am_cV_s hs7 with ⟨h14, f15, hs8⟩ | hs8
    · clear hs7
      refine Or.inl ⟨_, _, f15, ?_⟩
      show am_W X _ 17 27 _ [(Value.ref h8.length), x0] h14 _
      obtain ⟨h16, e17, hs9⟩ := am_bind hs8
      clear hs8
      refine aw_pP (pc1 := 30) at_17_27 e17 rfl ?_
      refine aw_vload_n (pc1 := 31) at_17_30 l0 i0 rfl ?_
      obtain ⟨h18, e19, hs10⟩ := am_bind hs9
      clear hs9
      refine aw_pObj (pc1 := 34) at_17_31 rfl rfl e19 rfl ?_
      refine aw_vdup (pc1 := 35) at_17_34 rfl rfl ?_
      obtain ⟨z20, hs11⟩ := am_ift hs10
      clear hs10
      refine aw_call (F := fm_3 ((Value.ref h16.length)) h18) (t := false) (na := 1) (kd := 2) (as := [(Value.ref h16.length)]) at_17_35 (am_k3p kb_3) mn_3 mk_3 rfl rfl (am_ok_v mi_3 (am_hl rfl (am_ccR rfl am_cats_0) rfl) z20) (am_hc (am_ccR rfl (am_ccR i0 am_cats_0)) rfl) (fun hz9 => by cases hz9) (fun o1 hz9 => rm_3 ((Value.ref h16.length)) h18 o1 rfl hz9) ?_
      rcases am_cV_s hs11 with ⟨h22, f23, hs12⟩ | hs12
      · clear hs11
        refine Or.inl ⟨_, _, f23, ?_⟩
        show am_W X _ 17 38 _ [(Value.ref h16.length), x0] h22 _
        obtain ⟨h24, e25, hs13⟩ := am_bind hs12
        clear hs12
        refine aw_pP (pc1 := 41) at_17_38 e25 rfl ?_
        refine aw_vload_n (pc1 := 42) at_17_41 l0 i0 rfl ?_
        obtain ⟨h26, e27, hs14⟩ := am_bind hs13
        clear hs13
        refine aw_pObj (pc1 := 45) at_17_42 rfl rfl e27 rfl ?_
        refine aw_vdup (pc1 := 46) at_17_45 rfl rfl ?_
        obtain ⟨z28, hs15⟩ := am_ift hs14
        clear hs14
        refine aw_call (F := fm_3 ((Value.ref h24.length)) h26) (t := false) (na := 1) (kd := 2) (as := [(Value.ref h24.length)]) at_17_46 (am_k3p kb_3) mn_3 mk_3 rfl rfl (am_ok_v mi_3 (am_hl rfl (am_ccR rfl am_cats_0) rfl) z28) (am_hc (am_ccR rfl (am_ccR i0 am_cats_0)) rfl) (fun hz9 => by cases hz9) (fun o1 hz9 => rm_3 ((Value.ref h24.length)) h26 o1 rfl hz9) ?_
        rcases am_cV_s hs15 with ⟨h30, f31, hs16⟩ | hs16
        · clear hs15
          refine Or.inl ⟨_, _, f31, ?_⟩
          show am_W X _ 17 49 _ [(Value.ref h24.length), x0] h30 _
          obtain ⟨h32, e33, hs17⟩ := am_bind hs16
          clear hs16
          refine aw_pP (pc1 := 52) at_17_49 e33 rfl ?_
          refine aw_vload_n (pc1 := 53) at_17_52 l0 i0 rfl ?_
          obtain ⟨h34, e35, hs18⟩ := am_bind hs17
          clear hs17
          refine aw_pObj (pc1 := 56) at_17_53 rfl rfl e35 rfl ?_
          refine aw_vdup (pc1 := 57) at_17_56 rfl rfl ?_
          obtain ⟨z36, hs19⟩ := am_ift hs18
          clear hs18
          refine aw_call (F := fm_3 ((Value.ref h32.length)) h34) (t := false) (na := 1) (kd := 2) (as := [(Value.ref h32.length)]) at_17_57 (am_k3p kb_3) mn_3 mk_3 rfl rfl (am_ok_v mi_3 (am_hl rfl (am_ccR rfl am_cats_0) rfl) z36) (am_hc (am_ccR rfl (am_ccR i0 am_cats_0)) rfl) (fun hz9 => by cases hz9) (fun o1 hz9 => rm_3 ((Value.ref h32.length)) h34 o1 rfl hz9) ?_
          rcases am_cV_s hs19 with ⟨h38, f39, hs20⟩ | hs20
          · clear hs19
            refine Or.inl ⟨_, _, f39, ?_⟩
            show am_W X _ 17 60 _ [(Value.ref h32.length), x0] h38 _
            obtain ⟨h40, e41, hs21⟩ := am_bind hs20
            clear hs20
            refine aw_pP (pc1 := 63) at_17_60 e41 rfl ?_
            refine aw_vload_n (pc1 := 64) at_17_63 l0 i0 rfl ?_
            refine aw_null (pc1 := 65) at_17_64 rfl ?_
            obtain ⟨h42, e43, hs22⟩ := am_bind hs21
            clear hs21
            refine aw_pP (pc1 := 68) at_17_65 e43 rfl ?_
            refine aw_vload_n (pc1 := 69) at_17_68 l0 i0 rfl ?_
            refine aw_null (pc1 := 70) at_17_69 rfl ?_
            obtain ⟨h44, e45, hs23⟩ := am_bind hs22
            clear hs22
            refine aw_pP (pc1 := 73) at_17_70 e45 rfl ?_
            refine aw_vload_n (pc1 := 74) at_17_73 l0 i0 rfl ?_
            refine aw_iconst (v := 0) (pc1 := 75) at_17_74 (by decide) rfl ?_
            obtain ⟨h46, e47, hs24⟩ := am_bind hs23
            clear hs23
            refine aw_pP (pc1 := 78) at_17_75 e47 rfl ?_
            refine aw_vload_n (pc1 := 79) at_17_78 l0 i0 rfl ?_
            refine aw_iconst (v := 1) (pc1 := 80) at_17_79 (by decide) rfl ?_
            obtain ⟨h48, e49, hs25⟩ := am_bind hs24
            clear hs24
            refine aw_pP (pc1 := 83) at_17_80 e49 rfl ?_
            refine aw_vload_n (pc1 := 84) at_17_83 l0 i0 rfl ?_
            refine aw_iconst (v := 0) (pc1 := 85) at_17_84 (by decide) rfl ?_
            obtain ⟨h50, e51, hs26⟩ := am_bind hs25
            clear hs25
            refine aw_pP (pc1 := 88) at_17_85 e51 rfl ?_
            refine aw_vload_n (pc1 := 89) at_17_88 l0 i0 rfl ?_
            refine aw_null (pc1 := 90) at_17_89 rfl ?_
            obtain ⟨h52, e53, hs27⟩ := am_bind hs26
            clear hs26
            refine aw_pP (pc1 := 93) at_17_90 e53 rfl ?_
            refine aw_vload_n (pc1 := 94) at_17_93 l0 i0 rfl ?_
            refine aw_iconst (v := 0) (pc1 := 95) at_17_94 (by decide) rfl ?_
            obtain ⟨h54, e55, hs28⟩ := am_bind hs27
            clear hs27
            refine aw_pP (pc1 := 98) at_17_95 e55 rfl ?_
            refine aw_vload_n (pc1 := 99) at_17_98 l0 i0 rfl ?_
            refine aw_iconst (v := 0) (pc1 := 100) at_17_99 (by decide) rfl ?_
            obtain ⟨h56, e57, hs29⟩ := am_bind hs28
            clear hs28
            refine aw_pP (pc1 := 103) at_17_100 e57 rfl ?_
            cases hs29
            exact aw_vret at_17_103 rt_17 rfl
          · clear hs19
            exact Or.inr hs20
        · clear hs15
          exact Or.inr hs16
      · clear hs11
        exact Or.inr hs12
    · clear hs7
      exact Or.inr hs8
  · clear hs3
    exact Or.inr hs4
def fm_17 (y0 : Value) (h : am_H) : Option am_O := fg_17_0 y0 h
theorem rm_17 {X : am_X} {d : Nat} (y0 : Value) (h : am_H) (o : am_O) (i0 : am_isR y0 = true) (hs : fm_17 y0 h = some o) : am_W X (d + 1) 17 0 (am_args 0 [y0]) [] h (fun q => q = o) := by
  rw [am_args_R i0]
  exact rg_17_0 y0 h o rfl i0 hs
def fg_19_0 (x0 : Value) (h : am_H) : Option am_O := (if am_pRf x0 then ((am_pNew 0 60 h).bind fun h2 => ((am_pP 1280 x0 (Value.ref h.length) h2).bind fun h4 => ((am_pNew 0 60 h4).bind fun h6 => ((am_pP 1281 x0 (Value.ref h4.length) h6).bind fun h8 => ((am_pP 1282 x0 (.int 0) h8).bind fun h10 => ((am_pObj 7 h10).bind fun h12 => (if am_pOk 7 (Value.ref h10.length) h12 then am_cV false (fm_3 ((Value.ref h10.length)) h12) (fun h16 => ((am_pP 1283 x0 (Value.ref h10.length) h16).bind fun h18 => ((am_pObj 3 h18).bind fun h20 => (if am_pOk 3 (Value.ref h18.length) h20 then am_cV false (fm_18 ((Value.ref h18.length)) 120 h20) (fun h24 => ((am_pP 1284 x0 (Value.ref h18.length) h24).bind fun h26 => ((am_pP 1285 x0 Value.null h26).bind fun h28 => ((am_pP 1286 x0 (.int 0) h28).bind fun h30 => some (.inl (none, h30)))))) else none)))) else none))))))) else none)
theorem rg_19_0 {X : am_X} {d : Nat} {lv : am_LV} (x0 : Value) (h : am_H) (o : am_O) (l0 : lv.lookup 0 = some x0) (i0 : am_isR x0 = true) (hs : fg_19_0 x0 h = some o) : am_W X (d + 1) 19 0 lv [] h (fun q => q = o) := by
  unfold fg_19_0 at hs
  refine aw_vload_n (pc1 := 1) at_19_0 l0 i0 rfl ?_
  obtain ⟨z1, hs1⟩ := am_ift hs
  clear hs
  refine aw_obi at_19_1 rfl z1 (am_hc am_cats_0 rfl) ?_
  refine aw_vload_n (pc1 := 5) at_19_4 l0 i0 rfl ?_
  refine aw_bipush (v := 60) (pc1 := 7) at_19_5 (by decide) rfl ?_
  obtain ⟨h2, e3, hs2⟩ := am_bind hs1
  clear hs1
  refine aw_pNew (pc1 := 9) at_19_7 e3 rfl ?_
  obtain ⟨h4, e5, hs3⟩ := am_bind hs2
  clear hs2
  refine aw_pP (pc1 := 12) at_19_9 e5 rfl ?_
  refine aw_vload_n (pc1 := 13) at_19_12 l0 i0 rfl ?_
  refine aw_bipush (v := 60) (pc1 := 15) at_19_13 (by decide) rfl ?_
  obtain ⟨h6, e7, hs4⟩ := am_bind hs3
  clear hs3
  refine aw_pNew (pc1 := 17) at_19_15 e7 rfl ?_
  obtain ⟨h8, e9, hs5⟩ := am_bind hs4
  clear hs4
  refine aw_pP (pc1 := 20) at_19_17 e9 rfl ?_
  refine aw_vload_n (pc1 := 21) at_19_20 l0 i0 rfl ?_
  refine aw_iconst (v := 0) (pc1 := 22) at_19_21 (by decide) rfl ?_
  obtain ⟨h10, e11, hs6⟩ := am_bind hs5
  clear hs5
  refine aw_pP (pc1 := 25) at_19_22 e11 rfl ?_
  refine aw_vload_n (pc1 := 26) at_19_25 l0 i0 rfl ?_
  obtain ⟨h12, e13, hs7⟩ := am_bind hs6
  clear hs6
  refine aw_pObj (pc1 := 29) at_19_26 rfl rfl e13 rfl ?_
  refine aw_vdup (pc1 := 30) at_19_29 rfl rfl ?_
  obtain ⟨z14, hs8⟩ := am_ift hs7
  clear hs7
  refine aw_call (F := fm_3 ((Value.ref h10.length)) h12) (t := false) (na := 1) (kd := 2) (as := [(Value.ref h10.length)]) at_19_30 (am_k3p kb_3) mn_3 mk_3 rfl rfl (am_ok_v mi_3 (am_hl rfl (am_ccR rfl am_cats_0) rfl) z14) (am_hc (am_ccR rfl (am_ccR i0 am_cats_0)) rfl) (fun hz9 => by cases hz9) (fun o1 hz9 => rm_3 ((Value.ref h10.length)) h12 o1 rfl hz9) ?_
  rcases am_cV_s hs8 with ⟨h16, f17, hs9⟩ | hs9
  · clear hs8
    refine Or.inl ⟨_, _, f17, ?_⟩
    show am_W X _ 19 33 _ [(Value.ref h10.length), x0] h16 _
    obtain ⟨h18, e19, hs10⟩ := am_bind hs9
    clear hs9
    refine aw_pP (pc1 := 36) at_19_33 e19 rfl ?_
    refine aw_vload_n (pc1 := 37) at_19_36 l0 i0 rfl ?_
    obtain ⟨h20, e21, hs11⟩ := am_bind hs10
    clear hs10
    refine aw_pObj (pc1 := 40) at_19_37 rfl rfl e21 rfl ?_
    refine aw_vdup (pc1 := 41) at_19_40 rfl rfl ?_
    refine aw_bipush (v := 120) (pc1 := 43) at_19_41 (by decide) rfl ?_
    obtain ⟨z22, hs12⟩ := am_ift hs11
    clear hs11
    refine aw_call (F := fm_18 ((Value.ref h18.length)) 120 h20) (t := false) (na := 2) (kd := 2) (as := [(Value.ref h18.length), (.int 120)]) at_19_43 (am_k3p kb_18) mn_18 mk_18 rfl rfl (am_ok_v mi_18 (am_hl rfl (am_ccR rfl (am_ccI am_cats_0)) rfl) z22) (am_hc (am_ccR rfl (am_ccR i0 am_cats_0)) rfl) (fun hz9 => by cases hz9) (fun o1 hz9 => rm_18 ((Value.ref h18.length)) 120 h20 o1 rfl hz9) ?_
    rcases am_cV_s hs12 with ⟨h24, f25, hs13⟩ | hs13
    · clear hs12
      refine Or.inl ⟨_, _, f25, ?_⟩
      show am_W X _ 19 46 _ [(Value.ref h18.length), x0] h24 _
      obtain ⟨h26, e27, hs14⟩ := am_bind hs13
      clear hs13
      refine aw_pP (pc1 := 49) at_19_46 e27 rfl ?_
      refine aw_vload_n (pc1 := 50) at_19_49 l0 i0 rfl ?_
      refine aw_null (pc1 := 51) at_19_50 rfl ?_
      obtain ⟨h28, e29, hs15⟩ := am_bind hs14
      clear hs14
      refine aw_pP (pc1 := 54) at_19_51 e29 rfl ?_
      refine aw_vload_n (pc1 := 55) at_19_54 l0 i0 rfl ?_
      refine aw_iconst (v := 0) (pc1 := 56) at_19_55 (by decide) rfl ?_
      obtain ⟨h30, e31, hs16⟩ := am_bind hs15
      clear hs15
      refine aw_pP (pc1 := 59) at_19_56 e31 rfl ?_
      cases hs16
      exact aw_vret at_19_59 rt_19 rfl
    · clear hs12
      exact Or.inr hs13
  · clear hs8
    exact Or.inr hs9
def fm_19 (y0 : Value) (h : am_H) : Option am_O := fg_19_0 y0 h
theorem rm_19 {X : am_X} {d : Nat} (y0 : Value) (h : am_H) (o : am_O) (i0 : am_isR y0 = true) (hs : fm_19 y0 h = some o) : am_W X (d + 1) 19 0 (am_args 0 [y0]) [] h (fun q => q = o) := by
  rw [am_args_R i0]
  exact rg_19_0 y0 h o rfl i0 hs
def fg_20_94 (N : Nat) : Nat → Value → Int32 → am_H → Option am_O
  | 0 => fun _ _ _ => none
  | K + 1 => fun x0 x1 h => (if 8 ≤ x1 then some (.inl (none, h)) else ((am_vR (am_pG 2561 x0 h)).bind fun v2 => ((am_pObj 3 h).bind fun h4 => (if am_pOk 3 (Value.ref h.length) h4 then am_cV false (fm_18 ((Value.ref h.length)) 120 h4) (fun h8 => ((am_pSA v2 x1 (Value.ref h.length) h8).bind fun h10 => (fg_20_94 N K x0 ((x1 + 1)) h10))) else none))))
theorem rg_20_94 {X : am_X} {d : Nat} {N : Nat} : ∀ (K : Nat) (x0 : Value) (x1 : Int32) (h : am_H) (o : am_O), fg_20_94 N K x0 x1 h = some o → ∀ lv : am_LV, (lv.lookup 0 = some x0) → (lv.lookup 1 = some (.int x1)) → (am_isR x0 = true) → am_W X (d + 1) 20 94 lv [] h (fun q => q = o) := by
  intro K
  induction K with
  | zero => intro x0 x1 h o hs; cases hs
  | succ K ih =>
    intro x0 x1 h o hs lv l0 l1 i0
    unfold fg_20_94 at hs
    refine aw_iload_n (pc1 := 95) at_20_94 l1 rfl ?_
    refine aw_bipush (v := 8) (pc1 := 97) at_20_95 (by decide) rfl ?_
    by_cases c1 : 8 ≤ x1
    · rw [if_pos c1] at hs
      refine aw_icge_t at_20_97 c1 ?_
      cases hs
      exact aw_vret at_20_121 rt_20 rfl
    · rw [if_neg c1] at hs
      refine aw_icge_f (pc1 := 100) at_20_97 c1 rfl ?_
      refine aw_vload_n (pc1 := 101) at_20_100 l0 i0 rfl ?_
      obtain ⟨v2, e3, hs1⟩ := am_bind hs
      clear hs
      refine aw_pG (pc1 := 104) at_20_101 (am_vR_s e3).1 rfl ?_
      refine aw_iload_n (pc1 := 105) at_20_104 l1 rfl ?_
      obtain ⟨h4, e5, hs2⟩ := am_bind hs1
      clear hs1
      refine aw_pObj (pc1 := 108) at_20_105 rfl rfl e5 rfl ?_
      refine aw_vdup (pc1 := 109) at_20_108 rfl rfl ?_
      refine aw_bipush (v := 120) (pc1 := 111) at_20_109 (by decide) rfl ?_
      obtain ⟨z6, hs3⟩ := am_ift hs2
      clear hs2
      refine aw_call (F := fm_18 ((Value.ref h.length)) 120 h4) (t := false) (na := 2) (kd := 2) (as := [(Value.ref h.length), (.int 120)]) at_20_111 (am_k3p kb_18) mn_18 mk_18 rfl rfl (am_ok_v mi_18 (am_hl rfl (am_ccR rfl (am_ccI am_cats_0)) rfl) z6) (am_hc (am_ccR rfl (am_ccI (am_ccR (am_vR_s e3).2 am_cats_0))) rfl) (fun hz9 => by cases hz9) (fun o1 hz9 => rm_18 ((Value.ref h.length)) 120 h4 o1 rfl hz9) ?_
      rcases am_cV_s hs3 with ⟨h8, f9, hs4⟩ | hs4
      · clear hs3
        refine Or.inl ⟨_, _, f9, ?_⟩
        show am_W X _ 20 114 _ [(Value.ref h.length), (.int x1), v2] h8 _
        obtain ⟨h10, e11, hs5⟩ := am_bind hs4
        clear hs4
        refine aw_pSA (pc1 := 115) at_20_114 e11 rfl ?_
        refine aw_iinc (v := (x1 + 1)) (c := 1) (lv1 := am_put1 _ 1 _) (pc1 := 118) at_20_115 l1 (by decide) rfl rfl rfl ?_
        refine aw_goto at_20_118 ?_
        exact ih x0 ((x1 + 1)) h10 o hs5 _ (am_lk1 l0 rfl (by rw [am_isRc i0]; rfl)) am_lk0 i0
      · clear hs3
        exact Or.inr hs4
def fg_20_0 (N : Nat) (x0 : Value) (h : am_H) : Option am_O := (if am_pRf x0 then ((am_pObj 7 h).bind fun h2 => (if am_pOk 7 (Value.ref h.length) h2 then am_cV false (fm_3 ((Value.ref h.length)) h2) (fun h6 => ((am_pP 2560 x0 (Value.ref h.length) h6).bind fun h8 => ((am_pNew 4 8 h8).bind fun h10 => ((am_pP 2561 x0 (Value.ref h8.length) h10).bind fun h12 => ((am_pObj 3 h12).bind fun h14 => (if am_pOk 3 (Value.ref h12.length) h14 then am_cV false (fm_18 ((Value.ref h12.length)) 120 h14) (fun h18 => ((am_pP 2562 x0 (Value.ref h12.length) h18).bind fun h20 => ((am_pP 2563 x0 (.int 0) h20).bind fun h22 => ((am_pP 2564 x0 Value.null h22).bind fun h24 => ((am_pP 2565 x0 Value.null h24).bind fun h26 => ((am_pNew 2 36 h26).bind fun h28 => ((am_pP 2566 x0 (Value.ref h26.length) h28).bind fun h30 => ((am_pNew 0 6 h30).bind fun h32 => ((am_pP 2567 x0 (Value.ref h30.length) h32).bind fun h34 => ((am_pNew 0 36 h34).bind fun h36 => ((am_pP 2568 x0 (Value.ref h34.length) h36).bind fun h38 => ((am_pNew 0 36 h38).bind fun h40 => ((am_pP 2569 x0 (Value.ref h38.length) h40).bind fun h42 => ((am_pNew 0 8 h42).bind fun h44 => ((am_pP 2570 x0 (Value.ref h42.length) h44).bind fun h46 => (fg_20_94 N N x0 0 h46)))))))))))))))) else none)))))) else none)) else none)
theorem rg_20_0 {X : am_X} {d : Nat} {N : Nat} {lv : am_LV} (x0 : Value) (h : am_H) (o : am_O) (l0 : lv.lookup 0 = some x0) (i0 : am_isR x0 = true) (hs : fg_20_0 N x0 h = some o) : am_W X (d + 1) 20 0 lv [] h (fun q => q = o) := by
  unfold fg_20_0 at hs
  refine aw_vload_n (pc1 := 1) at_20_0 l0 i0 rfl ?_
  obtain ⟨z1, hs1⟩ := am_ift hs
  clear hs
  refine aw_obi at_20_1 rfl z1 (am_hc am_cats_0 rfl) ?_
  refine aw_vload_n (pc1 := 5) at_20_4 l0 i0 rfl ?_
  obtain ⟨h2, e3, hs2⟩ := am_bind hs1
  clear hs1
  refine aw_pObj (pc1 := 8) at_20_5 rfl rfl e3 rfl ?_
  refine aw_vdup (pc1 := 9) at_20_8 rfl rfl ?_
  obtain ⟨z4, hs3⟩ := am_ift hs2
  clear hs2
  refine aw_call (F := fm_3 ((Value.ref h.length)) h2) (t := false) (na := 1) (kd := 2) (as := [(Value.ref h.length)]) at_20_9 (am_k3p kb_3) mn_3 mk_3 rfl rfl (am_ok_v mi_3 (am_hl rfl (am_ccR rfl am_cats_0) rfl) z4) (am_hc (am_ccR rfl (am_ccR i0 am_cats_0)) rfl) (fun hz9 => by cases hz9) (fun o1 hz9 => rm_3 ((Value.ref h.length)) h2 o1 rfl hz9) ?_
  rcases am_cV_s hs3 with ⟨h6, f7, hs4⟩ | hs4
  · clear hs3
    refine Or.inl ⟨_, _, f7, ?_⟩
    show am_W X _ 20 12 _ [(Value.ref h.length), x0] h6 _
    obtain ⟨h8, e9, hs5⟩ := am_bind hs4
    clear hs4
    refine aw_pP (pc1 := 15) at_20_12 e9 rfl ?_
    refine aw_vload_n (pc1 := 16) at_20_15 l0 i0 rfl ?_
    refine aw_bipush (v := 8) (pc1 := 18) at_20_16 (by decide) rfl ?_
    obtain ⟨h10, e11, hs6⟩ := am_bind hs5
    clear hs5
    refine aw_pNewR (pc1 := 21) at_20_18 rfl e11 rfl ?_
    obtain ⟨h12, e13, hs7⟩ := am_bind hs6
    clear hs6
    refine aw_pP (pc1 := 24) at_20_21 e13 rfl ?_
    refine aw_vload_n (pc1 := 25) at_20_24 l0 i0 rfl ?_
    obtain ⟨h14, e15, hs8⟩ := am_bind hs7
    clear hs7
    refine aw_pObj (pc1 := 28) at_20_25 rfl rfl e15 rfl ?_
    refine aw_vdup (pc1 := 29) at_20_28 rfl rfl ?_
    refine aw_bipush (v := 120) (pc1 := 31) at_20_29 (by decide) rfl ?_
    obtain ⟨z16, hs9⟩ := am_ift hs8
    clear hs8
    refine aw_call (F := fm_18 ((Value.ref h12.length)) 120 h14) (t := false) (na := 2) (kd := 2) (as := [(Value.ref h12.length), (.int 120)]) at_20_31 (am_k3p kb_18) mn_18 mk_18 rfl rfl (am_ok_v mi_18 (am_hl rfl (am_ccR rfl (am_ccI am_cats_0)) rfl) z16) (am_hc (am_ccR rfl (am_ccR i0 am_cats_0)) rfl) (fun hz9 => by cases hz9) (fun o1 hz9 => rm_18 ((Value.ref h12.length)) 120 h14 o1 rfl hz9) ?_
    rcases am_cV_s hs9 with ⟨h18, f19, hs10⟩ | hs10
    · clear hs9
      refine Or.inl ⟨_, _, f19, ?_⟩
      show am_W X _ 20 34 _ [(Value.ref h12.length), x0] h18 _
      obtain ⟨h20, e21, hs11⟩ := am_bind hs10
      clear hs10
      refine aw_pP (pc1 := 37) at_20_34 e21 rfl ?_
      refine aw_vload_n (pc1 := 38) at_20_37 l0 i0 rfl ?_
      refine aw_iconst (v := 0) (pc1 := 39) at_20_38 (by decide) rfl ?_
      obtain ⟨h22, e23, hs12⟩ := am_bind hs11
      clear hs11
      refine aw_pP (pc1 := 42) at_20_39 e23 rfl ?_
      refine aw_vload_n (pc1 := 43) at_20_42 l0 i0 rfl ?_
      refine aw_null (pc1 := 44) at_20_43 rfl ?_
      obtain ⟨h24, e25, hs13⟩ := am_bind hs12
      clear hs12
      refine aw_pP (pc1 := 47) at_20_44 e25 rfl ?_
      refine aw_vload_n (pc1 := 48) at_20_47 l0 i0 rfl ?_
      refine aw_null (pc1 := 49) at_20_48 rfl ?_
      obtain ⟨h26, e27, hs14⟩ := am_bind hs13
      clear hs13
      refine aw_pP (pc1 := 52) at_20_49 e27 rfl ?_
      refine aw_vload_n (pc1 := 53) at_20_52 l0 i0 rfl ?_
      refine aw_bipush (v := 36) (pc1 := 55) at_20_53 (by decide) rfl ?_
      obtain ⟨h28, e29, hs15⟩ := am_bind hs14
      clear hs14
      refine aw_pNew (pc1 := 57) at_20_55 e29 rfl ?_
      obtain ⟨h30, e31, hs16⟩ := am_bind hs15
      clear hs15
      refine aw_pP (pc1 := 60) at_20_57 e31 rfl ?_
      refine aw_vload_n (pc1 := 61) at_20_60 l0 i0 rfl ?_
      refine aw_bipush (v := 6) (pc1 := 63) at_20_61 (by decide) rfl ?_
      obtain ⟨h32, e33, hs17⟩ := am_bind hs16
      clear hs16
      refine aw_pNew (pc1 := 65) at_20_63 e33 rfl ?_
      obtain ⟨h34, e35, hs18⟩ := am_bind hs17
      clear hs17
      refine aw_pP (pc1 := 68) at_20_65 e35 rfl ?_
      refine aw_vload_n (pc1 := 69) at_20_68 l0 i0 rfl ?_
      refine aw_bipush (v := 36) (pc1 := 71) at_20_69 (by decide) rfl ?_
      obtain ⟨h36, e37, hs19⟩ := am_bind hs18
      clear hs18
      refine aw_pNew (pc1 := 73) at_20_71 e37 rfl ?_
      obtain ⟨h38, e39, hs20⟩ := am_bind hs19
      clear hs19
      refine aw_pP (pc1 := 76) at_20_73 e39 rfl ?_
      refine aw_vload_n (pc1 := 77) at_20_76 l0 i0 rfl ?_
      refine aw_bipush (v := 36) (pc1 := 79) at_20_77 (by decide) rfl ?_
      obtain ⟨h40, e41, hs21⟩ := am_bind hs20
      clear hs20
      refine aw_pNew (pc1 := 81) at_20_79 e41 rfl ?_
      obtain ⟨h42, e43, hs22⟩ := am_bind hs21
      clear hs21
      refine aw_pP (pc1 := 84) at_20_81 e43 rfl ?_
      refine aw_vload_n (pc1 := 85) at_20_84 l0 i0 rfl ?_
      refine aw_bipush (v := 8) (pc1 := 87) at_20_85 (by decide) rfl ?_
      obtain ⟨h44, e45, hs23⟩ := am_bind hs22
      clear hs22
      refine aw_pNew (pc1 := 89) at_20_87 e45 rfl ?_
      obtain ⟨h46, e47, hs24⟩ := am_bind hs23
      clear hs23
      refine aw_pP (pc1 := 92) at_20_89 e47 rfl ?_
      refine aw_iconst (v := 0) (pc1 := 93) at_20_92 (by decide) rfl ?_
      refine aw_istore_n (lv1 := am_put1 _ 1 _) (pc1 := 94) at_20_93 rfl rfl ?_
      exact rg_20_94 N x0 0 h46 o hs24 _ (am_lk1 l0 rfl (by rw [am_isRc i0]; rfl)) am_lk0 i0
    · clear hs9
      exact Or.inr hs10
  · clear hs3
    exact Or.inr hs4
def fm_20 (N : Nat) (y0 : Value) (h : am_H) : Option am_O := fg_20_0 N y0 h
theorem rm_20 {X : am_X} {d : Nat} {N : Nat} (y0 : Value) (h : am_H) (o : am_O) (i0 : am_isR y0 = true) (hs : fm_20 N y0 h = some o) : am_W X (d + 1) 20 0 (am_args 0 [y0]) [] h (fun q => q = o) := by
  rw [am_args_R i0]
  exact rg_20_0 y0 h o rfl i0 hs
def fg_1_0 (N : Nat) (x0 : Value) (h : am_H) : Option am_O := (if am_pRf x0 then ((am_pNew 4 600 h).bind fun h2 => ((am_pP 2816 x0 (Value.ref h.length) h2).bind fun h4 => ((am_pP 2817 x0 (.int 0) h4).bind fun h6 => ((am_pObj 9 h6).bind fun h8 => (if am_pOk 9 (Value.ref h6.length) h8 then am_cV false (fm_2 ((Value.ref h6.length)) h8) (fun h12 => ((am_pP 2818 x0 (Value.ref h6.length) h12).bind fun h14 => ((am_pObj 2 h14).bind fun h16 => (if am_pOk 2 (Value.ref h14.length) h16 then am_cV false (fm_4 ((Value.ref h14.length)) h16) (fun h20 => ((am_pP 2819 x0 (Value.ref h14.length) h20).bind fun h22 => ((am_pNew 0 5 h22).bind fun h24 => ((am_pS 0 (Value.ref h22.length) 0 200 h24).bind fun h26 => ((am_pS 0 (Value.ref h22.length) 1 1 h26).bind fun h28 => ((am_pS 0 (Value.ref h22.length) 2 3 h28).bind fun h30 => ((am_pS 0 (Value.ref h22.length) 3 30 h30).bind fun h32 => ((am_pS 0 (Value.ref h22.length) 4 0 h32).bind fun h34 => ((am_pP 2820 x0 (Value.ref h22.length) h34).bind fun h36 => ((am_pNew 5 4 h36).bind fun h38 => ((am_pObj 1 h38).bind fun h40 => (if am_pOk 1 (Value.ref h38.length) h40 then am_cV false (fm_6 ((Value.ref h38.length)) h40) (fun h44 => ((am_pSA (Value.ref h36.length) 0 (Value.ref h38.length) h44).bind fun h46 => ((am_pObj 1 h46).bind fun h48 => (if am_pOk 1 (Value.ref h46.length) h48 then am_cV false (fm_6 ((Value.ref h46.length)) h48) (fun h52 => ((am_pSA (Value.ref h36.length) 1 (Value.ref h46.length) h52).bind fun h54 => ((am_pObj 1 h54).bind fun h56 => (if am_pOk 1 (Value.ref h54.length) h56 then am_cV false (fm_6 ((Value.ref h54.length)) h56) (fun h60 => ((am_pSA (Value.ref h36.length) 2 (Value.ref h54.length) h60).bind fun h62 => ((am_pObj 1 h62).bind fun h64 => (if am_pOk 1 (Value.ref h62.length) h64 then am_cV false (fm_6 ((Value.ref h62.length)) h64) (fun h68 => ((am_pSA (Value.ref h36.length) 3 (Value.ref h62.length) h68).bind fun h70 => ((am_pP 2821 x0 (Value.ref h36.length) h70).bind fun h72 => ((am_pObj 4 h72).bind fun h74 => (if am_pOk 4 (Value.ref h72.length) h74 then am_cV false (fm_8 N ((Value.ref h72.length)) h74) (fun h78 => ((am_pP 2822 x0 (Value.ref h72.length) h78).bind fun h80 => ((am_pObj 0 h80).bind fun h82 => (if am_pOk 0 (Value.ref h80.length) h82 then am_cV false (fm_17 ((Value.ref h80.length)) h82) (fun h86 => ((am_pP 2823 x0 (Value.ref h80.length) h86).bind fun h88 => ((am_pObj 5 h88).bind fun h90 => (if am_pOk 5 (Value.ref h88.length) h90 then am_cV false (fm_19 ((Value.ref h88.length)) h90) (fun h94 => ((am_pP 2824 x0 (Value.ref h88.length) h94).bind fun h96 => ((am_pObj 10 h96).bind fun h98 => (if am_pOk 10 (Value.ref h96.length) h98 then am_cV false (fm_20 N ((Value.ref h96.length)) h98) (fun h102 => ((am_pP 2825 x0 (Value.ref h96.length) h102).bind fun h104 => ((am_pNew 0 15 h104).bind fun h106 => ((am_pP 2826 x0 (Value.ref h104.length) h106).bind fun h108 => ((am_pNew 0 15 h108).bind fun h110 => ((am_pP 2827 x0 (Value.ref h108.length) h110).bind fun h112 => ((am_pP 2828 x0 (.int 0) h112).bind fun h114 => ((am_pP 2829 x0 (.int 0) h114).bind fun h116 => ((am_pNew 0 15 h116).bind fun h118 => ((am_pP 2830 x0 (Value.ref h116.length) h118).bind fun h120 => ((am_pObj 3 h120).bind fun h122 => (if am_pOk 3 (Value.ref h120.length) h122 then am_cV false (fm_18 ((Value.ref h120.length)) 120 h122) (fun h126 => ((am_pP 2831 x0 (Value.ref h120.length) h126).bind fun h128 => ((am_pObj 3 h128).bind fun h130 => (if am_pOk 3 (Value.ref h128.length) h130 then am_cV false (fm_18 ((Value.ref h128.length)) 120 h130) (fun h134 => ((am_pP 2832 x0 (Value.ref h128.length) h134).bind fun h136 => ((am_pNew 0 600 h136).bind fun h138 => ((am_pP 2833 x0 (Value.ref h136.length) h138).bind fun h140 => ((am_pNew 0 16 h140).bind fun h142 => ((am_pP 2834 x0 (Value.ref h140.length) h142).bind fun h144 => ((am_pObj 8 h144).bind fun h146 => (if am_pOk 8 (Value.ref h144.length) h146 then am_cV false (fm_7 ((Value.ref h144.length)) h146) (fun h150 => ((am_pP 2835 x0 (Value.ref h144.length) h150).bind fun h152 => some (.inl (none, h152)))) else none)))))))) else none)))) else none)))))))))))) else none)))) else none)))) else none)))) else none))))) else none)))) else none)))) else none)))) else none)))))))))))) else none)))) else none))))) else none)
theorem rg_1_0 {X : am_X} {d : Nat} {N : Nat} {lv : am_LV} (x0 : Value) (h : am_H) (o : am_O) (l0 : lv.lookup 0 = some x0) (i0 : am_isR x0 = true) (hs : fg_1_0 N x0 h = some o) : am_W X (d + 4) 1 0 lv [] h (fun q => q = o) := by
  unfold fg_1_0 at hs
  refine aw_vload_n (pc1 := 1) at_1_0 l0 i0 rfl ?_
  obtain ⟨z1, hs1⟩ := am_ift hs
  clear hs
  refine aw_obi at_1_1 rfl z1 (am_hc am_cats_0 rfl) ?_
  refine aw_vload_n (pc1 := 5) at_1_4 l0 i0 rfl ?_
  refine aw_sipush (v := 600) (pc1 := 8) at_1_5 (by decide) rfl ?_
  obtain ⟨h2, e3, hs2⟩ := am_bind hs1
  clear hs1
  refine aw_pNewR (pc1 := 11) at_1_8 rfl e3 rfl ?_
  obtain ⟨h4, e5, hs3⟩ := am_bind hs2
  clear hs2
  refine aw_pP (pc1 := 14) at_1_11 e5 rfl ?_
  refine aw_vload_n (pc1 := 15) at_1_14 l0 i0 rfl ?_
  refine aw_iconst (v := 0) (pc1 := 16) at_1_15 (by decide) rfl ?_
  obtain ⟨h6, e7, hs4⟩ := am_bind hs3
  clear hs3
  refine aw_pP (pc1 := 19) at_1_16 e7 rfl ?_
  refine aw_vload_n (pc1 := 20) at_1_19 l0 i0 rfl ?_
  obtain ⟨h8, e9, hs5⟩ := am_bind hs4
  clear hs4
  refine aw_pObj (pc1 := 23) at_1_20 rfl rfl e9 rfl ?_
  refine aw_vdup (pc1 := 24) at_1_23 rfl rfl ?_
  obtain ⟨z10, hs6⟩ := am_ift hs5
  clear hs5
  refine aw_call (F := fm_2 ((Value.ref h6.length)) h8) (t := false) (na := 1) (kd := 2) (as := [(Value.ref h6.length)]) at_1_24 (am_k3p kb_2) mn_2 mk_2 rfl rfl (am_ok_v mi_2 (am_hl rfl (am_ccR rfl am_cats_0) rfl) z10) (am_hc (am_ccR rfl (am_ccR i0 am_cats_0)) rfl) (fun hz9 => by cases hz9) (fun o1 hz9 => rm_2 ((Value.ref h6.length)) h8 o1 rfl hz9) ?_
  rcases am_cV_s hs6 with ⟨h12, f13, hs7⟩ | hs7
  · clear hs6
    refine Or.inl ⟨_, _, f13, ?_⟩
    show am_W X _ 1 27 _ [(Value.ref h6.length), x0] h12 _
    obtain ⟨h14, e15, hs8⟩ := am_bind hs7
    clear hs7
    refine aw_pP (pc1 := 30) at_1_27 e15 rfl ?_
    refine aw_vload_n (pc1 := 31) at_1_30 l0 i0 rfl ?_
    obtain ⟨h16, e17, hs9⟩ := am_bind hs8
    clear hs8
    refine aw_pObj (pc1 := 34) at_1_31 rfl rfl e17 rfl ?_
    refine aw_vdup (pc1 := 35) at_1_34 rfl rfl ?_
    obtain ⟨z18, hs10⟩ := am_ift hs9
    clear hs9
    refine aw_call (F := fm_4 ((Value.ref h14.length)) h16) (t := false) (na := 1) (kd := 2) (as := [(Value.ref h14.length)]) at_1_35 (am_k3p kb_4) mn_4 mk_4 rfl rfl (am_ok_v mi_4 (am_hl rfl (am_ccR rfl am_cats_0) rfl) z18) (am_hc (am_ccR rfl (am_ccR i0 am_cats_0)) rfl) (fun hz9 => by cases hz9) (fun o1 hz9 => rm_4 ((Value.ref h14.length)) h16 o1 rfl hz9) ?_
    rcases am_cV_s hs10 with ⟨h20, f21, hs11⟩ | hs11
    · clear hs10
      refine Or.inl ⟨_, _, f21, ?_⟩
      show am_W X _ 1 38 _ [(Value.ref h14.length), x0] h20 _
      obtain ⟨h22, e23, hs12⟩ := am_bind hs11
      clear hs11
      refine aw_pP (pc1 := 41) at_1_38 e23 rfl ?_
      refine aw_vload_n (pc1 := 42) at_1_41 l0 i0 rfl ?_
      refine aw_iconst (v := 5) (pc1 := 43) at_1_42 (by decide) rfl ?_
      obtain ⟨h24, e25, hs13⟩ := am_bind hs12
      clear hs12
      refine aw_pNew (pc1 := 45) at_1_43 e25 rfl ?_
      refine aw_vdup (pc1 := 46) at_1_45 rfl rfl ?_
      refine aw_iconst (v := 0) (pc1 := 47) at_1_46 (by decide) rfl ?_
      refine aw_sipush (v := 200) (pc1 := 50) at_1_47 (by decide) rfl ?_
      obtain ⟨h26, e27, hs14⟩ := am_bind hs13
      clear hs13
      refine aw_pS (pc1 := 51) at_1_50 (Or.inl ⟨rfl, rfl⟩) e27 rfl ?_
      refine aw_vdup (pc1 := 52) at_1_51 rfl rfl ?_
      refine aw_iconst (v := 1) (pc1 := 53) at_1_52 (by decide) rfl ?_
      refine aw_iconst (v := 1) (pc1 := 54) at_1_53 (by decide) rfl ?_
      obtain ⟨h28, e29, hs15⟩ := am_bind hs14
      clear hs14
      refine aw_pS (pc1 := 55) at_1_54 (Or.inl ⟨rfl, rfl⟩) e29 rfl ?_
      refine aw_vdup (pc1 := 56) at_1_55 rfl rfl ?_
      refine aw_iconst (v := 2) (pc1 := 57) at_1_56 (by decide) rfl ?_
      refine aw_iconst (v := 3) (pc1 := 58) at_1_57 (by decide) rfl ?_
      obtain ⟨h30, e31, hs16⟩ := am_bind hs15
      clear hs15
      refine aw_pS (pc1 := 59) at_1_58 (Or.inl ⟨rfl, rfl⟩) e31 rfl ?_
      refine aw_vdup (pc1 := 60) at_1_59 rfl rfl ?_
      refine aw_iconst (v := 3) (pc1 := 61) at_1_60 (by decide) rfl ?_
      refine aw_bipush (v := 30) (pc1 := 63) at_1_61 (by decide) rfl ?_
      obtain ⟨h32, e33, hs17⟩ := am_bind hs16
      clear hs16
      refine aw_pS (pc1 := 64) at_1_63 (Or.inl ⟨rfl, rfl⟩) e33 rfl ?_
      refine aw_vdup (pc1 := 65) at_1_64 rfl rfl ?_
      refine aw_iconst (v := 4) (pc1 := 66) at_1_65 (by decide) rfl ?_
      refine aw_iconst (v := 0) (pc1 := 67) at_1_66 (by decide) rfl ?_
      obtain ⟨h34, e35, hs18⟩ := am_bind hs17
      clear hs17
      refine aw_pS (pc1 := 68) at_1_67 (Or.inl ⟨rfl, rfl⟩) e35 rfl ?_
      obtain ⟨h36, e37, hs19⟩ := am_bind hs18
      clear hs18
      refine aw_pP (pc1 := 71) at_1_68 e37 rfl ?_
      refine aw_vload_n (pc1 := 72) at_1_71 l0 i0 rfl ?_
      refine aw_iconst (v := 4) (pc1 := 73) at_1_72 (by decide) rfl ?_
      obtain ⟨h38, e39, hs20⟩ := am_bind hs19
      clear hs19
      refine aw_pNewR (pc1 := 76) at_1_73 rfl e39 rfl ?_
      refine aw_vdup (pc1 := 77) at_1_76 rfl rfl ?_
      refine aw_iconst (v := 0) (pc1 := 78) at_1_77 (by decide) rfl ?_
      obtain ⟨h40, e41, hs21⟩ := am_bind hs20
      clear hs20
      refine aw_pObj (pc1 := 81) at_1_78 rfl rfl e41 rfl ?_
      refine aw_vdup (pc1 := 82) at_1_81 rfl rfl ?_
      obtain ⟨z42, hs22⟩ := am_ift hs21
      clear hs21
      refine aw_call (F := fm_6 ((Value.ref h38.length)) h40) (t := false) (na := 1) (kd := 2) (as := [(Value.ref h38.length)]) at_1_82 (am_k3p kb_6) mn_6 mk_6 rfl rfl (am_ok_v mi_6 (am_hl rfl (am_ccR rfl am_cats_0) rfl) z42) (am_hc (am_ccR rfl (am_ccI (am_ccR rfl (am_ccR rfl (am_ccR i0 am_cats_0))))) rfl) (fun hz9 => by cases hz9) (fun o1 hz9 => rm_6 ((Value.ref h38.length)) h40 o1 rfl hz9) ?_
      rcases am_cV_s hs22 with ⟨h44, f45, hs23⟩ | hs23
      · clear hs22
        refine Or.inl ⟨_, _, f45, ?_⟩
        show am_W X _ 1 85 _ [(Value.ref h38.length), (.int 0), (Value.ref h36.length), (Value.ref h36.length), x0] h44 _
        obtain ⟨h46, e47, hs24⟩ := am_bind hs23
        clear hs23
        refine aw_pSA (pc1 := 86) at_1_85 e47 rfl ?_
        refine aw_vdup (pc1 := 87) at_1_86 rfl rfl ?_
        refine aw_iconst (v := 1) (pc1 := 88) at_1_87 (by decide) rfl ?_
        obtain ⟨h48, e49, hs25⟩ := am_bind hs24
        clear hs24
        refine aw_pObj (pc1 := 91) at_1_88 rfl rfl e49 rfl ?_
        refine aw_vdup (pc1 := 92) at_1_91 rfl rfl ?_
        obtain ⟨z50, hs26⟩ := am_ift hs25
        clear hs25
        refine aw_call (F := fm_6 ((Value.ref h46.length)) h48) (t := false) (na := 1) (kd := 2) (as := [(Value.ref h46.length)]) at_1_92 (am_k3p kb_6) mn_6 mk_6 rfl rfl (am_ok_v mi_6 (am_hl rfl (am_ccR rfl am_cats_0) rfl) z50) (am_hc (am_ccR rfl (am_ccI (am_ccR rfl (am_ccR rfl (am_ccR i0 am_cats_0))))) rfl) (fun hz9 => by cases hz9) (fun o1 hz9 => rm_6 ((Value.ref h46.length)) h48 o1 rfl hz9) ?_
        rcases am_cV_s hs26 with ⟨h52, f53, hs27⟩ | hs27
        · clear hs26
          refine Or.inl ⟨_, _, f53, ?_⟩
          show am_W X _ 1 95 _ [(Value.ref h46.length), (.int 1), (Value.ref h36.length), (Value.ref h36.length), x0] h52 _
          obtain ⟨h54, e55, hs28⟩ := am_bind hs27
          clear hs27
          refine aw_pSA (pc1 := 96) at_1_95 e55 rfl ?_
          refine aw_vdup (pc1 := 97) at_1_96 rfl rfl ?_
          refine aw_iconst (v := 2) (pc1 := 98) at_1_97 (by decide) rfl ?_
          obtain ⟨h56, e57, hs29⟩ := am_bind hs28
          clear hs28
          refine aw_pObj (pc1 := 101) at_1_98 rfl rfl e57 rfl ?_
          refine aw_vdup (pc1 := 102) at_1_101 rfl rfl ?_
          obtain ⟨z58, hs30⟩ := am_ift hs29
          clear hs29
          refine aw_call (F := fm_6 ((Value.ref h54.length)) h56) (t := false) (na := 1) (kd := 2) (as := [(Value.ref h54.length)]) at_1_102 (am_k3p kb_6) mn_6 mk_6 rfl rfl (am_ok_v mi_6 (am_hl rfl (am_ccR rfl am_cats_0) rfl) z58) (am_hc (am_ccR rfl (am_ccI (am_ccR rfl (am_ccR rfl (am_ccR i0 am_cats_0))))) rfl) (fun hz9 => by cases hz9) (fun o1 hz9 => rm_6 ((Value.ref h54.length)) h56 o1 rfl hz9) ?_
          rcases am_cV_s hs30 with ⟨h60, f61, hs31⟩ | hs31
          · clear hs30
            refine Or.inl ⟨_, _, f61, ?_⟩
            show am_W X _ 1 105 _ [(Value.ref h54.length), (.int 2), (Value.ref h36.length), (Value.ref h36.length), x0] h60 _
            obtain ⟨h62, e63, hs32⟩ := am_bind hs31
            clear hs31
            refine aw_pSA (pc1 := 106) at_1_105 e63 rfl ?_
            refine aw_vdup (pc1 := 107) at_1_106 rfl rfl ?_
            refine aw_iconst (v := 3) (pc1 := 108) at_1_107 (by decide) rfl ?_
            obtain ⟨h64, e65, hs33⟩ := am_bind hs32
            clear hs32
            refine aw_pObj (pc1 := 111) at_1_108 rfl rfl e65 rfl ?_
            refine aw_vdup (pc1 := 112) at_1_111 rfl rfl ?_
            obtain ⟨z66, hs34⟩ := am_ift hs33
            clear hs33
            refine aw_call (F := fm_6 ((Value.ref h62.length)) h64) (t := false) (na := 1) (kd := 2) (as := [(Value.ref h62.length)]) at_1_112 (am_k3p kb_6) mn_6 mk_6 rfl rfl (am_ok_v mi_6 (am_hl rfl (am_ccR rfl am_cats_0) rfl) z66) (am_hc (am_ccR rfl (am_ccI (am_ccR rfl (am_ccR rfl (am_ccR i0 am_cats_0))))) rfl) (fun hz9 => by cases hz9) (fun o1 hz9 => rm_6 ((Value.ref h62.length)) h64 o1 rfl hz9) ?_
            rcases am_cV_s hs34 with ⟨h68, f69, hs35⟩ | hs35
            · clear hs34
              refine Or.inl ⟨_, _, f69, ?_⟩
              show am_W X _ 1 115 _ [(Value.ref h62.length), (.int 3), (Value.ref h36.length), (Value.ref h36.length), x0] h68 _
              obtain ⟨h70, e71, hs36⟩ := am_bind hs35
              clear hs35
              refine aw_pSA (pc1 := 116) at_1_115 e71 rfl ?_
              obtain ⟨h72, e73, hs37⟩ := am_bind hs36
              clear hs36
              refine aw_pP (pc1 := 119) at_1_116 e73 rfl ?_
              refine aw_vload_n (pc1 := 120) at_1_119 l0 i0 rfl ?_
              obtain ⟨h74, e75, hs38⟩ := am_bind hs37
              clear hs37
              refine aw_pObj (pc1 := 123) at_1_120 rfl rfl e75 rfl ?_
              refine aw_vdup (pc1 := 124) at_1_123 rfl rfl ?_
              obtain ⟨z76, hs39⟩ := am_ift hs38
              clear hs38
              refine aw_call (F := fm_8 N ((Value.ref h72.length)) h74) (t := false) (na := 1) (kd := 2) (as := [(Value.ref h72.length)]) at_1_124 (am_k3p kb_8) mn_8 mk_8 rfl rfl (am_ok_v mi_8 (am_hl rfl (am_ccR rfl am_cats_0) rfl) z76) (am_hc (am_ccR rfl (am_ccR i0 am_cats_0)) rfl) (fun hz9 => by cases hz9) (fun o1 hz9 => rm_8 ((Value.ref h72.length)) h74 o1 rfl hz9) ?_
              rcases am_cV_s hs39 with ⟨h78, f79, hs40⟩ | hs40
              · clear hs39
                refine Or.inl ⟨_, _, f79, ?_⟩
                show am_W X _ 1 127 _ [(Value.ref h72.length), x0] h78 _
                obtain ⟨h80, e81, hs41⟩ := am_bind hs40
                clear hs40
                refine aw_pP (pc1 := 130) at_1_127 e81 rfl ?_
                refine aw_vload_n (pc1 := 131) at_1_130 l0 i0 rfl ?_
                obtain ⟨h82, e83, hs42⟩ := am_bind hs41
                clear hs41
                refine aw_pObj (pc1 := 134) at_1_131 rfl rfl e83 rfl ?_
                refine aw_vdup (pc1 := 135) at_1_134 rfl rfl ?_
                obtain ⟨z84, hs43⟩ := am_ift hs42
                clear hs42
                refine aw_call (F := fm_17 ((Value.ref h80.length)) h82) (t := false) (na := 1) (kd := 2) (as := [(Value.ref h80.length)]) at_1_135 (am_k3p kb_17) mn_17 mk_17 rfl rfl (am_ok_v mi_17 (am_hl rfl (am_ccR rfl am_cats_0) rfl) z84) (am_hc (am_ccR rfl (am_ccR i0 am_cats_0)) rfl) (fun hz9 => by cases hz9) (fun o1 hz9 => rm_17 ((Value.ref h80.length)) h82 o1 rfl hz9) ?_
                rcases am_cV_s hs43 with ⟨h86, f87, hs44⟩ | hs44
                · clear hs43
                  refine Or.inl ⟨_, _, f87, ?_⟩
                  show am_W X _ 1 138 _ [(Value.ref h80.length), x0] h86 _
                  obtain ⟨h88, e89, hs45⟩ := am_bind hs44
                  clear hs44
                  refine aw_pP (pc1 := 141) at_1_138 e89 rfl ?_
                  refine aw_vload_n (pc1 := 142) at_1_141 l0 i0 rfl ?_
                  obtain ⟨h90, e91, hs46⟩ := am_bind hs45
                  clear hs45
                  refine aw_pObj (pc1 := 145) at_1_142 rfl rfl e91 rfl ?_
                  refine aw_vdup (pc1 := 146) at_1_145 rfl rfl ?_
                  obtain ⟨z92, hs47⟩ := am_ift hs46
                  clear hs46
                  refine aw_call (F := fm_19 ((Value.ref h88.length)) h90) (t := false) (na := 1) (kd := 2) (as := [(Value.ref h88.length)]) at_1_146 (am_k3p kb_19) mn_19 mk_19 rfl rfl (am_ok_v mi_19 (am_hl rfl (am_ccR rfl am_cats_0) rfl) z92) (am_hc (am_ccR rfl (am_ccR i0 am_cats_0)) rfl) (fun hz9 => by cases hz9) (fun o1 hz9 => rm_19 ((Value.ref h88.length)) h90 o1 rfl hz9) ?_
                  rcases am_cV_s hs47 with ⟨h94, f95, hs48⟩ | hs48
                  · clear hs47
                    refine Or.inl ⟨_, _, f95, ?_⟩
                    show am_W X _ 1 149 _ [(Value.ref h88.length), x0] h94 _
                    obtain ⟨h96, e97, hs49⟩ := am_bind hs48
                    clear hs48
                    refine aw_pP (pc1 := 152) at_1_149 e97 rfl ?_
                    refine aw_vload_n (pc1 := 153) at_1_152 l0 i0 rfl ?_
                    obtain ⟨h98, e99, hs50⟩ := am_bind hs49
                    clear hs49
                    refine aw_pObj (pc1 := 156) at_1_153 rfl rfl e99 rfl ?_
                    refine aw_vdup (pc1 := 157) at_1_156 rfl rfl ?_
                    obtain ⟨z100, hs51⟩ := am_ift hs50
                    clear hs50
                    refine aw_call (F := fm_20 N ((Value.ref h96.length)) h98) (t := false) (na := 1) (kd := 2) (as := [(Value.ref h96.length)]) at_1_157 (am_k3p kb_20) mn_20 mk_20 rfl rfl (am_ok_v mi_20 (am_hl rfl (am_ccR rfl am_cats_0) rfl) z100) (am_hc (am_ccR rfl (am_ccR i0 am_cats_0)) rfl) (fun hz9 => by cases hz9) (fun o1 hz9 => rm_20 ((Value.ref h96.length)) h98 o1 rfl hz9) ?_
                    rcases am_cV_s hs51 with ⟨h102, f103, hs52⟩ | hs52
                    · clear hs51
                      refine Or.inl ⟨_, _, f103, ?_⟩
                      show am_W X _ 1 160 _ [(Value.ref h96.length), x0] h102 _
                      obtain ⟨h104, e105, hs53⟩ := am_bind hs52
                      clear hs52
                      refine aw_pP (pc1 := 163) at_1_160 e105 rfl ?_
                      refine aw_vload_n (pc1 := 164) at_1_163 l0 i0 rfl ?_
                      refine aw_bipush (v := 15) (pc1 := 166) at_1_164 (by decide) rfl ?_
                      obtain ⟨h106, e107, hs54⟩ := am_bind hs53
                      clear hs53
                      refine aw_pNew (pc1 := 168) at_1_166 e107 rfl ?_
                      obtain ⟨h108, e109, hs55⟩ := am_bind hs54
                      clear hs54
                      refine aw_pP (pc1 := 171) at_1_168 e109 rfl ?_
                      refine aw_vload_n (pc1 := 172) at_1_171 l0 i0 rfl ?_
                      refine aw_bipush (v := 15) (pc1 := 174) at_1_172 (by decide) rfl ?_
                      obtain ⟨h110, e111, hs56⟩ := am_bind hs55
                      clear hs55
                      refine aw_pNew (pc1 := 176) at_1_174 e111 rfl ?_
                      obtain ⟨h112, e113, hs57⟩ := am_bind hs56
                      clear hs56
                      refine aw_pP (pc1 := 179) at_1_176 e113 rfl ?_
                      refine aw_vload_n (pc1 := 180) at_1_179 l0 i0 rfl ?_
                      refine aw_iconst (v := 0) (pc1 := 181) at_1_180 (by decide) rfl ?_
                      obtain ⟨h114, e115, hs58⟩ := am_bind hs57
                      clear hs57
                      refine aw_pP (pc1 := 184) at_1_181 e115 rfl ?_
                      refine aw_vload_n (pc1 := 185) at_1_184 l0 i0 rfl ?_
                      refine aw_iconst (v := 0) (pc1 := 186) at_1_185 (by decide) rfl ?_
                      obtain ⟨h116, e117, hs59⟩ := am_bind hs58
                      clear hs58
                      refine aw_pP (pc1 := 189) at_1_186 e117 rfl ?_
                      refine aw_vload_n (pc1 := 190) at_1_189 l0 i0 rfl ?_
                      refine aw_bipush (v := 15) (pc1 := 192) at_1_190 (by decide) rfl ?_
                      obtain ⟨h118, e119, hs60⟩ := am_bind hs59
                      clear hs59
                      refine aw_pNew (pc1 := 194) at_1_192 e119 rfl ?_
                      obtain ⟨h120, e121, hs61⟩ := am_bind hs60
                      clear hs60
                      refine aw_pP (pc1 := 197) at_1_194 e121 rfl ?_
                      refine aw_vload_n (pc1 := 198) at_1_197 l0 i0 rfl ?_
                      obtain ⟨h122, e123, hs62⟩ := am_bind hs61
                      clear hs61
                      refine aw_pObj (pc1 := 201) at_1_198 rfl rfl e123 rfl ?_
                      refine aw_vdup (pc1 := 202) at_1_201 rfl rfl ?_
                      refine aw_bipush (v := 120) (pc1 := 204) at_1_202 (by decide) rfl ?_
                      obtain ⟨z124, hs63⟩ := am_ift hs62
                      clear hs62
                      refine aw_call (F := fm_18 ((Value.ref h120.length)) 120 h122) (t := false) (na := 2) (kd := 2) (as := [(Value.ref h120.length), (.int 120)]) at_1_204 (am_k3p kb_18) mn_18 mk_18 rfl rfl (am_ok_v mi_18 (am_hl rfl (am_ccR rfl (am_ccI am_cats_0)) rfl) z124) (am_hc (am_ccR rfl (am_ccR i0 am_cats_0)) rfl) (fun hz9 => by cases hz9) (fun o1 hz9 => rm_18 ((Value.ref h120.length)) 120 h122 o1 rfl hz9) ?_
                      rcases am_cV_s hs63 with ⟨h126, f127, hs64⟩ | hs64
                      · clear hs63
                        refine Or.inl ⟨_, _, f127, ?_⟩
                        show am_W X _ 1 207 _ [(Value.ref h120.length), x0] h126 _
                        obtain ⟨h128, e129, hs65⟩ := am_bind hs64
                        clear hs64
                        refine aw_pP (pc1 := 210) at_1_207 e129 rfl ?_
                        refine aw_vload_n (pc1 := 211) at_1_210 l0 i0 rfl ?_
                        obtain ⟨h130, e131, hs66⟩ := am_bind hs65
                        clear hs65
                        refine aw_pObj (pc1 := 214) at_1_211 rfl rfl e131 rfl ?_
                        refine aw_vdup (pc1 := 215) at_1_214 rfl rfl ?_
                        refine aw_bipush (v := 120) (pc1 := 217) at_1_215 (by decide) rfl ?_
                        obtain ⟨z132, hs67⟩ := am_ift hs66
                        clear hs66
                        refine aw_call (F := fm_18 ((Value.ref h128.length)) 120 h130) (t := false) (na := 2) (kd := 2) (as := [(Value.ref h128.length), (.int 120)]) at_1_217 (am_k3p kb_18) mn_18 mk_18 rfl rfl (am_ok_v mi_18 (am_hl rfl (am_ccR rfl (am_ccI am_cats_0)) rfl) z132) (am_hc (am_ccR rfl (am_ccR i0 am_cats_0)) rfl) (fun hz9 => by cases hz9) (fun o1 hz9 => rm_18 ((Value.ref h128.length)) 120 h130 o1 rfl hz9) ?_
                        rcases am_cV_s hs67 with ⟨h134, f135, hs68⟩ | hs68
                        · clear hs67
                          refine Or.inl ⟨_, _, f135, ?_⟩
                          show am_W X _ 1 220 _ [(Value.ref h128.length), x0] h134 _
                          obtain ⟨h136, e137, hs69⟩ := am_bind hs68
                          clear hs68
                          refine aw_pP (pc1 := 223) at_1_220 e137 rfl ?_
                          refine aw_vload_n (pc1 := 224) at_1_223 l0 i0 rfl ?_
                          refine aw_sipush (v := 600) (pc1 := 227) at_1_224 (by decide) rfl ?_
                          obtain ⟨h138, e139, hs70⟩ := am_bind hs69
                          clear hs69
                          refine aw_pNew (pc1 := 229) at_1_227 e139 rfl ?_
                          obtain ⟨h140, e141, hs71⟩ := am_bind hs70
                          clear hs70
                          refine aw_pP (pc1 := 232) at_1_229 e141 rfl ?_
                          refine aw_vload_n (pc1 := 233) at_1_232 l0 i0 rfl ?_
                          refine aw_bipush (v := 16) (pc1 := 235) at_1_233 (by decide) rfl ?_
                          obtain ⟨h142, e143, hs72⟩ := am_bind hs71
                          clear hs71
                          refine aw_pNew (pc1 := 237) at_1_235 e143 rfl ?_
                          obtain ⟨h144, e145, hs73⟩ := am_bind hs72
                          clear hs72
                          refine aw_pP (pc1 := 240) at_1_237 e145 rfl ?_
                          refine aw_vload_n (pc1 := 241) at_1_240 l0 i0 rfl ?_
                          obtain ⟨h146, e147, hs74⟩ := am_bind hs73
                          clear hs73
                          refine aw_pObj (pc1 := 244) at_1_241 rfl rfl e147 rfl ?_
                          refine aw_vdup (pc1 := 245) at_1_244 rfl rfl ?_
                          obtain ⟨z148, hs75⟩ := am_ift hs74
                          clear hs74
                          refine aw_call (F := fm_7 ((Value.ref h144.length)) h146) (t := false) (na := 1) (kd := 2) (as := [(Value.ref h144.length)]) at_1_245 (am_k3p kb_7) mn_7 mk_7 rfl rfl (am_ok_v mi_7 (am_hl rfl (am_ccR rfl am_cats_0) rfl) z148) (am_hc (am_ccR rfl (am_ccR i0 am_cats_0)) rfl) (fun hz9 => by cases hz9) (fun o1 hz9 => rm_7 ((Value.ref h144.length)) h146 o1 rfl hz9) ?_
                          rcases am_cV_s hs75 with ⟨h150, f151, hs76⟩ | hs76
                          · clear hs75
                            refine Or.inl ⟨_, _, f151, ?_⟩
                            show am_W X _ 1 248 _ [(Value.ref h144.length), x0] h150 _
                            obtain ⟨h152, e153, hs77⟩ := am_bind hs76
                            clear hs76
                            refine aw_pP (pc1 := 251) at_1_248 e153 rfl ?_
                            cases hs77
                            exact aw_vret at_1_251 rt_1 rfl
                          · clear hs75
                            exact Or.inr hs76
                        · clear hs67
                          exact Or.inr hs68
                      · clear hs63
                        exact Or.inr hs64
                    · clear hs51
                      exact Or.inr hs52
                  · clear hs47
                    exact Or.inr hs48
                · clear hs43
                  exact Or.inr hs44
              · clear hs39
                exact Or.inr hs40
            · clear hs34
              exact Or.inr hs35
          · clear hs30
            exact Or.inr hs31
        · clear hs26
          exact Or.inr hs27
      · clear hs22
        exact Or.inr hs23
    · clear hs10
      exact Or.inr hs11
  · clear hs6
    exact Or.inr hs7
def fm_1 (N : Nat) (y0 : Value) (h : am_H) : Option am_O := fg_1_0 N y0 h
theorem rm_1 {X : am_X} {d : Nat} {N : Nat} (y0 : Value) (h : am_H) (o : am_O) (i0 : am_isR y0 = true) (hs : fm_1 N y0 h = some o) : am_W X (d + 4) 1 0 (am_args 0 [y0]) [] h (fun q => q = o) := by
  rw [am_args_R i0]
  exact rg_1_0 y0 h o rfl i0 hs
set_option maxRecDepth 100000 in
def fg_323_0 (x0 : Value) (h : am_H) : Option am_O := (if am_pRf x0 then ((am_pNew 0 600 h).bind fun h2 => ((am_pP 3074 x0 (Value.ref h.length) h2).bind fun h4 => ((am_pNew 0 600 h4).bind fun h6 => ((am_pP 3075 x0 (Value.ref h4.length) h6).bind fun h8 => ((am_pNew 0 600 h8).bind fun h10 => ((am_pP 3076 x0 (Value.ref h8.length) h10).bind fun h12 => ((am_pNew 0 600 h12).bind fun h14 => ((am_pP 3077 x0 (Value.ref h12.length) h14).bind fun h16 => ((am_pNew 0 600 h16).bind fun h18 => ((am_pP 3078 x0 (Value.ref h16.length) h18).bind fun h20 => ((am_pNew 0 600 h20).bind fun h22 => ((am_pP 3079 x0 (Value.ref h20.length) h22).bind fun h24 => ((am_pNew 0 600 h24).bind fun h26 => ((am_pP 3080 x0 (Value.ref h24.length) h26).bind fun h28 => ((am_pNew 0 600 h28).bind fun h30 => ((am_pP 3081 x0 (Value.ref h28.length) h30).bind fun h32 => ((am_pNew 1 600 h32).bind fun h34 => ((am_pP 3082 x0 (Value.ref h32.length) h34).bind fun h36 => ((am_pNew 0 36000 h36).bind fun h38 => ((am_pP 3083 x0 (Value.ref h36.length) h38).bind fun h40 => ((am_pNew 0 36000 h40).bind fun h42 => ((am_pP 3084 x0 (Value.ref h40.length) h42).bind fun h44 => ((am_pNew 0 400 h44).bind fun h46 => ((am_pP 3088 x0 (Value.ref h44.length) h46).bind fun h48 => ((am_pNew 0 400 h48).bind fun h50 => ((am_pP 3089 x0 (Value.ref h48.length) h50).bind fun h52 => ((am_pNew 0 400 h52).bind fun h54 => ((am_pP 3093 x0 (Value.ref h52.length) h54).bind fun h56 => ((am_pNew 0 400 h56).bind fun h58 => ((am_pP 3094 x0 (Value.ref h56.length) h58).bind fun h60 => ((am_pNew 0 400 h60).bind fun h62 => ((am_pP 3096 x0 (Value.ref h60.length) h62).bind fun h64 => ((am_pNew 0 400 h64).bind fun h66 => ((am_pP 3097 x0 (Value.ref h64.length) h66).bind fun h68 => ((am_pNew 0 400 h68).bind fun h70 => ((am_pP 3098 x0 (Value.ref h68.length) h70).bind fun h72 => ((am_pNew 0 400 h72).bind fun h74 => ((am_pP 3099 x0 (Value.ref h72.length) h74).bind fun h76 => ((am_pNew 0 400 h76).bind fun h78 => ((am_pP 3100 x0 (Value.ref h76.length) h78).bind fun h80 => ((am_pNew 0 400 h80).bind fun h82 => ((am_pP 3101 x0 (Value.ref h80.length) h82).bind fun h84 => ((am_pNew 0 400 h84).bind fun h86 => ((am_pP 3102 x0 (Value.ref h84.length) h86).bind fun h88 => ((am_pNew 0 24 h88).bind fun h90 => ((am_pP 3104 x0 (Value.ref h88.length) h90).bind fun h92 => ((am_pNew 0 24 h92).bind fun h94 => ((am_pP 3105 x0 (Value.ref h92.length) h94).bind fun h96 => ((am_pNew 0 24 h96).bind fun h98 => ((am_pP 3106 x0 (Value.ref h96.length) h98).bind fun h100 => ((am_pNew 0 24 h100).bind fun h102 => ((am_pP 3107 x0 (Value.ref h100.length) h102).bind fun h104 => ((am_pNew 0 24 h104).bind fun h106 => ((am_pP 3108 x0 (Value.ref h104.length) h106).bind fun h108 => ((am_pNew 2 24 h108).bind fun h110 => ((am_pP 3109 x0 (Value.ref h108.length) h110).bind fun h112 => ((am_pNew 0 24 h112).bind fun h114 => ((am_pP 3110 x0 (Value.ref h112.length) h114).bind fun h116 => ((am_pNew 0 192 h116).bind fun h118 => ((am_pP 3111 x0 (Value.ref h116.length) h118).bind fun h120 => ((am_pNew 0 8 h120).bind fun h122 => ((am_pP 3113 x0 (Value.ref h120.length) h122).bind fun h124 => ((am_pNew 0 5 h124).bind fun h126 => ((am_pP 3114 x0 (Value.ref h124.length) h126).bind fun h128 => ((am_pNew 2 400 h128).bind fun h130 => ((am_pP 3115 x0 (Value.ref h128.length) h130).bind fun h132 => ((am_pNew 0 400 h132).bind fun h134 => ((am_pP 3116 x0 (Value.ref h132.length) h134).bind fun h136 => ((am_pNew 2 400 h136).bind fun h138 => ((am_pP 3117 x0 (Value.ref h136.length) h138).bind fun h140 => ((am_pNew 0 400 h140).bind fun h142 => ((am_pP 3118 x0 (Value.ref h140.length) h142).bind fun h144 => ((am_pNew 0 130 h144).bind fun h146 => ((am_pP 3119 x0 (Value.ref h144.length) h146).bind fun h148 => ((am_pNew 0 8 h148).bind fun h150 => ((am_pP 3127 x0 (Value.ref h148.length) h150).bind fun h152 => ((am_pNew 0 130 h152).bind fun h154 => ((am_pP 3132 x0 (Value.ref h152.length) h154).bind fun h156 => ((am_pNew 0 130 h156).bind fun h158 => ((am_pP 3133 x0 (Value.ref h156.length) h158).bind fun h160 => ((am_pNew 0 130 h160).bind fun h162 => ((am_pP 3134 x0 (Value.ref h160.length) h162).bind fun h164 => ((am_pNew 0 130 h164).bind fun h166 => ((am_pP 3135 x0 (Value.ref h164.length) h166).bind fun h168 => ((am_pNew 0 400 h168).bind fun h170 => ((am_pP 3136 x0 (Value.ref h168.length) h170).bind fun h172 => ((am_pNew 0 240 h172).bind fun h174 => ((am_pP 3139 x0 (Value.ref h172.length) h174).bind fun h176 => ((am_pNew 0 61 h176).bind fun h178 => ((am_pP 3143 x0 (Value.ref h176.length) h178).bind fun h180 => ((am_pNew 0 64 h180).bind fun h182 => ((am_pP 3146 x0 (Value.ref h180.length) h182).bind fun h184 => ((am_pNew 0 64 h184).bind fun h186 => ((am_pP 3147 x0 (Value.ref h184.length) h186).bind fun h188 => ((am_pNew 2 64 h188).bind fun h190 => ((am_pP 3148 x0 (Value.ref h188.length) h190).bind fun h192 => ((am_pNew 0 800 h192).bind fun h194 => ((am_pP 3151 x0 (Value.ref h192.length) h194).bind fun h196 => ((am_pNew 1 84 h196).bind fun h198 => ((am_pP 3153 x0 (Value.ref h196.length) h198).bind fun h200 => ((am_pNew 1 819 h200).bind fun h202 => ((am_pP 3154 x0 (Value.ref h200.length) h202).bind fun h204 => ((am_pNew 1 6 h204).bind fun h206 => ((am_pP 3155 x0 (Value.ref h204.length) h206).bind fun h208 => ((am_pNew 0 40 h208).bind fun h210 => ((am_pP 3156 x0 (Value.ref h208.length) h210).bind fun h212 => ((am_pNew 0 40 h212).bind fun h214 => ((am_pP 3157 x0 (Value.ref h212.length) h214).bind fun h216 => ((am_pNew 0 40 h216).bind fun h218 => ((am_pP 3158 x0 (Value.ref h216.length) h218).bind fun h220 => ((am_pNew 1 40 h220).bind fun h222 => ((am_pP 3159 x0 (Value.ref h220.length) h222).bind fun h224 => ((am_pNew 1 13 h224).bind fun h226 => ((am_pP 3161 x0 (Value.ref h224.length) h226).bind fun h228 => ((am_pNew 0 13 h228).bind fun h230 => ((am_pP 3162 x0 (Value.ref h228.length) h230).bind fun h232 => ((am_pNew 0 4 h232).bind fun h234 => ((am_pP 3170 x0 (Value.ref h232.length) h234).bind fun h236 => ((am_pNew 0 64 h236).bind fun h238 => ((am_pP 3171 x0 (Value.ref h236.length) h238).bind fun h240 => ((am_pNew 1 4 h240).bind fun h242 => ((am_pP 3172 x0 (Value.ref h240.length) h242).bind fun h244 => ((am_pNew 1 16 h244).bind fun h246 => ((am_pP 3173 x0 (Value.ref h244.length) h246).bind fun h248 => ((am_pNew 1 16 h248).bind fun h250 => ((am_pP 3174 x0 (Value.ref h248.length) h250).bind fun h252 => ((am_pNew 0 16 h252).bind fun h254 => ((am_pP 3175 x0 (Value.ref h252.length) h254).bind fun h256 => ((am_pNew 0 16 h256).bind fun h258 => ((am_pP 3176 x0 (Value.ref h256.length) h258).bind fun h260 => ((am_pNew 1 384 h260).bind fun h262 => ((am_pP 3178 x0 (Value.ref h260.length) h262).bind fun h264 => ((am_pNew 0 24 h264).bind fun h266 => ((am_pP 3179 x0 (Value.ref h264.length) h266).bind fun h268 => ((am_pNew 2 16 h268).bind fun h270 => ((am_pP 3181 x0 (Value.ref h268.length) h270).bind fun h272 => ((am_pNew 0 16 h272).bind fun h274 => ((am_pP 3182 x0 (Value.ref h272.length) h274).bind fun h276 => ((am_pNew 0 16 h276).bind fun h278 => ((am_pP 3183 x0 (Value.ref h276.length) h278).bind fun h280 => ((am_pNew 1 3 h280).bind fun h282 => ((am_pP 3184 x0 (Value.ref h280.length) h282).bind fun h284 => ((am_pNew 2 600 h284).bind fun h286 => ((am_pP 3185 x0 (Value.ref h284.length) h286).bind fun h288 => ((am_pNew 2 600 h288).bind fun h290 => ((am_pP 3186 x0 (Value.ref h288.length) h290).bind fun h292 => ((am_pNew 0 400 h292).bind fun h294 => ((am_pP 3188 x0 (Value.ref h292.length) h294).bind fun h296 => ((am_pNew 0 400 h296).bind fun h298 => ((am_pP 3189 x0 (Value.ref h296.length) h298).bind fun h300 => ((am_pNew 0 1152 h300).bind fun h302 => ((am_pP 3190 x0 (Value.ref h300.length) h302).bind fun h304 => ((am_pNew 0 1152 h304).bind fun h306 => ((am_pP 3191 x0 (Value.ref h304.length) h306).bind fun h308 => ((am_pNew 0 9 h308).bind fun h310 => ((am_pP 3192 x0 (Value.ref h308.length) h310).bind fun h312 => ((am_pNew 0 61 h312).bind fun h314 => ((am_pP 3194 x0 (Value.ref h312.length) h314).bind fun h316 => ((am_pNew 0 15 h316).bind fun h318 => ((am_pP 3195 x0 (Value.ref h316.length) h318).bind fun h320 => ((am_pNew 0 36 h320).bind fun h322 => ((am_pP 3196 x0 (Value.ref h320.length) h322).bind fun h324 => ((am_pNew 0 36 h324).bind fun h326 => ((am_pP 3197 x0 (Value.ref h324.length) h326).bind fun h328 => ((am_pNew 2 36 h328).bind fun h330 => ((am_pP 3198 x0 (Value.ref h328.length) h330).bind fun h332 => ((am_pNew 0 36 h332).bind fun h334 => ((am_pP 3199 x0 (Value.ref h332.length) h334).bind fun h336 => ((am_pNew 0 40 h336).bind fun h338 => ((am_pP 3200 x0 (Value.ref h336.length) h338).bind fun h340 => ((am_pNew 0 60 h340).bind fun h342 => ((am_pP 3201 x0 (Value.ref h340.length) h342).bind fun h344 => ((am_pNew 0 60 h344).bind fun h346 => ((am_pP 3202 x0 (Value.ref h344.length) h346).bind fun h348 => ((am_pNew 0 6 h348).bind fun h350 => ((am_pP 3204 x0 (Value.ref h348.length) h350).bind fun h352 => ((am_pNew 0 6 h352).bind fun h354 => ((am_pP 3205 x0 (Value.ref h352.length) h354).bind fun h356 => ((am_pNew 0 6 h356).bind fun h358 => ((am_pP 3206 x0 (Value.ref h356.length) h358).bind fun h360 => ((am_pNew 0 6 h360).bind fun h362 => ((am_pP 3207 x0 (Value.ref h360.length) h362).bind fun h364 => ((am_pNew 2 40 h364).bind fun h366 => ((am_pP 3208 x0 (Value.ref h364.length) h366).bind fun h368 => ((am_pNew 0 8 h368).bind fun h370 => ((am_pP 3209 x0 (Value.ref h368.length) h370).bind fun h372 => ((am_vR (am_pG 3114 x0 h372)).bind fun v374 => ((am_pS 0 v374 0 200 h372).bind fun h376 => ((am_vR (am_pG 3114 x0 h376)).bind fun v378 => ((am_pS 0 v378 1 1 h376).bind fun h380 => ((am_vR (am_pG 3114 x0 h380)).bind fun v382 => ((am_pS 0 v382 2 3 h380).bind fun h384 => ((am_vR (am_pG 3114 x0 h384)).bind fun v386 => ((am_pS 0 v386 3 30 h384).bind fun h388 => some (.inl (none, h388)))))))))))))))))))))))))))))))))))))))))))))))))))))))))))))))))))))))))))))))))))))))))))))))))))))))))))))))))))))))))))))))))))))))))))))))))))))))))))))))))))))))))))))))))))))))))))))))))))) else none)
set_option maxRecDepth 100000 in
theorem rg_323_0 {X : am_X} {d : Nat} {lv : am_LV} (x0 : Value) (h : am_H) (o : am_O) (l0 : lv.lookup 0 = some x0) (i0 : am_isR x0 = true) (hs : fg_323_0 x0 h = some o) : am_W X (d) 323 0 lv [] h (fun q => q = o) := by
  unfold fg_323_0 at hs
  refine aw_vload_n (pc1 := 1) at_323_0 l0 i0 rfl ?_
  obtain ⟨z1, hs1⟩ := am_ift hs
  clear hs
  refine aw_obi at_323_1 rfl z1 (am_hc am_cats_0 rfl) ?_
  refine aw_vload_n (pc1 := 5) at_323_4 l0 i0 rfl ?_
  refine aw_sipush (v := 600) (pc1 := 8) at_323_5 (by decide) rfl ?_
  obtain ⟨h2, e3, hs2⟩ := am_bind hs1
  clear hs1
  refine aw_pNew (pc1 := 10) at_323_8 e3 rfl ?_
  obtain ⟨h4, e5, hs3⟩ := am_bind hs2
  clear hs2
  refine aw_pP (pc1 := 13) at_323_10 e5 rfl ?_
  refine aw_vload_n (pc1 := 14) at_323_13 l0 i0 rfl ?_
  refine aw_sipush (v := 600) (pc1 := 17) at_323_14 (by decide) rfl ?_
  obtain ⟨h6, e7, hs4⟩ := am_bind hs3
  clear hs3
  refine aw_pNew (pc1 := 19) at_323_17 e7 rfl ?_
  obtain ⟨h8, e9, hs5⟩ := am_bind hs4
  clear hs4
  refine aw_pP (pc1 := 22) at_323_19 e9 rfl ?_
  refine aw_vload_n (pc1 := 23) at_323_22 l0 i0 rfl ?_
  refine aw_sipush (v := 600) (pc1 := 26) at_323_23 (by decide) rfl ?_
  obtain ⟨h10, e11, hs6⟩ := am_bind hs5
  clear hs5
  refine aw_pNew (pc1 := 28) at_323_26 e11 rfl ?_
  obtain ⟨h12, e13, hs7⟩ := am_bind hs6
  clear hs6
  refine aw_pP (pc1 := 31) at_323_28 e13 rfl ?_
  refine aw_vload_n (pc1 := 32) at_323_31 l0 i0 rfl ?_
  refine aw_sipush (v := 600) (pc1 := 35) at_323_32 (by decide) rfl ?_
  obtain ⟨h14, e15, hs8⟩ := am_bind hs7
  clear hs7
  refine aw_pNew (pc1 := 37) at_323_35 e15 rfl ?_
  obtain ⟨h16, e17, hs9⟩ := am_bind hs8
  clear hs8
  refine aw_pP (pc1 := 40) at_323_37 e17 rfl ?_
  refine aw_vload_n (pc1 := 41) at_323_40 l0 i0 rfl ?_
  refine aw_sipush (v := 600) (pc1 := 44) at_323_41 (by decide) rfl ?_
  obtain ⟨h18, e19, hs10⟩ := am_bind hs9
  clear hs9
  refine aw_pNew (pc1 := 46) at_323_44 e19 rfl ?_
  obtain ⟨h20, e21, hs11⟩ := am_bind hs10
  clear hs10
  refine aw_pP (pc1 := 49) at_323_46 e21 rfl ?_
  refine aw_vload_n (pc1 := 50) at_323_49 l0 i0 rfl ?_
  refine aw_sipush (v := 600) (pc1 := 53) at_323_50 (by decide) rfl ?_
  obtain ⟨h22, e23, hs12⟩ := am_bind hs11
  clear hs11
  refine aw_pNew (pc1 := 55) at_323_53 e23 rfl ?_
  obtain ⟨h24, e25, hs13⟩ := am_bind hs12
  clear hs12
  refine aw_pP (pc1 := 58) at_323_55 e25 rfl ?_
  refine aw_vload_n (pc1 := 59) at_323_58 l0 i0 rfl ?_
  refine aw_sipush (v := 600) (pc1 := 62) at_323_59 (by decide) rfl ?_
  obtain ⟨h26, e27, hs14⟩ := am_bind hs13
  clear hs13
  refine aw_pNew (pc1 := 64) at_323_62 e27 rfl ?_
  obtain ⟨h28, e29, hs15⟩ := am_bind hs14
  clear hs14
  refine aw_pP (pc1 := 67) at_323_64 e29 rfl ?_
  refine aw_vload_n (pc1 := 68) at_323_67 l0 i0 rfl ?_
  refine aw_sipush (v := 600) (pc1 := 71) at_323_68 (by decide) rfl ?_
  obtain ⟨h30, e31, hs16⟩ := am_bind hs15
  clear hs15
  refine aw_pNew (pc1 := 73) at_323_71 e31 rfl ?_
  obtain ⟨h32, e33, hs17⟩ := am_bind hs16
  clear hs16
  refine aw_pP (pc1 := 76) at_323_73 e33 rfl ?_
  refine aw_vload_n (pc1 := 77) at_323_76 l0 i0 rfl ?_
  refine aw_sipush (v := 600) (pc1 := 80) at_323_77 (by decide) rfl ?_
  obtain ⟨h34, e35, hs18⟩ := am_bind hs17
  clear hs17
  refine aw_pNew (pc1 := 82) at_323_80 e35 rfl ?_
  obtain ⟨h36, e37, hs19⟩ := am_bind hs18
  clear hs18
  refine aw_pP (pc1 := 85) at_323_82 e37 rfl ?_
  refine aw_vload_n (pc1 := 86) at_323_85 l0 i0 rfl ?_
  refine aw_ldc (v := 36000) (pc1 := 88) at_323_86 rfl rfl rfl ?_
  obtain ⟨h38, e39, hs20⟩ := am_bind hs19
  clear hs19
  refine aw_pNew (pc1 := 90) at_323_88 e39 rfl ?_
  obtain ⟨h40, e41, hs21⟩ := am_bind hs20
  clear hs20
  refine aw_pP (pc1 := 93) at_323_90 e41 rfl ?_
  refine aw_vload_n (pc1 := 94) at_323_93 l0 i0 rfl ?_
  refine aw_ldc (v := 36000) (pc1 := 96) at_323_94 rfl rfl rfl ?_
  obtain ⟨h42, e43, hs22⟩ := am_bind hs21
  clear hs21
  refine aw_pNew (pc1 := 98) at_323_96 e43 rfl ?_
  obtain ⟨h44, e45, hs23⟩ := am_bind hs22
  clear hs22
  refine aw_pP (pc1 := 101) at_323_98 e45 rfl ?_
  refine aw_vload_n (pc1 := 102) at_323_101 l0 i0 rfl ?_
  refine aw_sipush (v := 400) (pc1 := 105) at_323_102 (by decide) rfl ?_
  obtain ⟨h46, e47, hs24⟩ := am_bind hs23
  clear hs23
  refine aw_pNew (pc1 := 107) at_323_105 e47 rfl ?_
  obtain ⟨h48, e49, hs25⟩ := am_bind hs24
  clear hs24
  refine aw_pP (pc1 := 110) at_323_107 e49 rfl ?_
  refine aw_vload_n (pc1 := 111) at_323_110 l0 i0 rfl ?_
  refine aw_sipush (v := 400) (pc1 := 114) at_323_111 (by decide) rfl ?_
  obtain ⟨h50, e51, hs26⟩ := am_bind hs25
  clear hs25
  refine aw_pNew (pc1 := 116) at_323_114 e51 rfl ?_
  obtain ⟨h52, e53, hs27⟩ := am_bind hs26
  clear hs26
  refine aw_pP (pc1 := 119) at_323_116 e53 rfl ?_
  refine aw_vload_n (pc1 := 120) at_323_119 l0 i0 rfl ?_
  refine aw_sipush (v := 400) (pc1 := 123) at_323_120 (by decide) rfl ?_
  obtain ⟨h54, e55, hs28⟩ := am_bind hs27
  clear hs27
  refine aw_pNew (pc1 := 125) at_323_123 e55 rfl ?_
  obtain ⟨h56, e57, hs29⟩ := am_bind hs28
  clear hs28
  refine aw_pP (pc1 := 128) at_323_125 e57 rfl ?_
  refine aw_vload_n (pc1 := 129) at_323_128 l0 i0 rfl ?_
  refine aw_sipush (v := 400) (pc1 := 132) at_323_129 (by decide) rfl ?_
  obtain ⟨h58, e59, hs30⟩ := am_bind hs29
  clear hs29
  refine aw_pNew (pc1 := 134) at_323_132 e59 rfl ?_
  obtain ⟨h60, e61, hs31⟩ := am_bind hs30
  clear hs30
  refine aw_pP (pc1 := 137) at_323_134 e61 rfl ?_
  refine aw_vload_n (pc1 := 138) at_323_137 l0 i0 rfl ?_
  refine aw_sipush (v := 400) (pc1 := 141) at_323_138 (by decide) rfl ?_
  obtain ⟨h62, e63, hs32⟩ := am_bind hs31
  clear hs31
  refine aw_pNew (pc1 := 143) at_323_141 e63 rfl ?_
  obtain ⟨h64, e65, hs33⟩ := am_bind hs32
  clear hs32
  refine aw_pP (pc1 := 146) at_323_143 e65 rfl ?_
  refine aw_vload_n (pc1 := 147) at_323_146 l0 i0 rfl ?_
  refine aw_sipush (v := 400) (pc1 := 150) at_323_147 (by decide) rfl ?_
  obtain ⟨h66, e67, hs34⟩ := am_bind hs33
  clear hs33
  refine aw_pNew (pc1 := 152) at_323_150 e67 rfl ?_
  obtain ⟨h68, e69, hs35⟩ := am_bind hs34
  clear hs34
  refine aw_pP (pc1 := 155) at_323_152 e69 rfl ?_
  refine aw_vload_n (pc1 := 156) at_323_155 l0 i0 rfl ?_
  refine aw_sipush (v := 400) (pc1 := 159) at_323_156 (by decide) rfl ?_
  obtain ⟨h70, e71, hs36⟩ := am_bind hs35
  clear hs35
  refine aw_pNew (pc1 := 161) at_323_159 e71 rfl ?_
  obtain ⟨h72, e73, hs37⟩ := am_bind hs36
  clear hs36
  refine aw_pP (pc1 := 164) at_323_161 e73 rfl ?_
  refine aw_vload_n (pc1 := 165) at_323_164 l0 i0 rfl ?_
  refine aw_sipush (v := 400) (pc1 := 168) at_323_165 (by decide) rfl ?_
  obtain ⟨h74, e75, hs38⟩ := am_bind hs37
  clear hs37
  refine aw_pNew (pc1 := 170) at_323_168 e75 rfl ?_
  obtain ⟨h76, e77, hs39⟩ := am_bind hs38
  clear hs38
  refine aw_pP (pc1 := 173) at_323_170 e77 rfl ?_
  refine aw_vload_n (pc1 := 174) at_323_173 l0 i0 rfl ?_
  refine aw_sipush (v := 400) (pc1 := 177) at_323_174 (by decide) rfl ?_
  obtain ⟨h78, e79, hs40⟩ := am_bind hs39
  clear hs39
  refine aw_pNew (pc1 := 179) at_323_177 e79 rfl ?_
  obtain ⟨h80, e81, hs41⟩ := am_bind hs40
  clear hs40
  refine aw_pP (pc1 := 182) at_323_179 e81 rfl ?_
  refine aw_vload_n (pc1 := 183) at_323_182 l0 i0 rfl ?_
  refine aw_sipush (v := 400) (pc1 := 186) at_323_183 (by decide) rfl ?_
  obtain ⟨h82, e83, hs42⟩ := am_bind hs41
  clear hs41
  refine aw_pNew (pc1 := 188) at_323_186 e83 rfl ?_
  obtain ⟨h84, e85, hs43⟩ := am_bind hs42
  clear hs42
  refine aw_pP (pc1 := 191) at_323_188 e85 rfl ?_
  refine aw_vload_n (pc1 := 192) at_323_191 l0 i0 rfl ?_
  refine aw_sipush (v := 400) (pc1 := 195) at_323_192 (by decide) rfl ?_
  obtain ⟨h86, e87, hs44⟩ := am_bind hs43
  clear hs43
  refine aw_pNew (pc1 := 197) at_323_195 e87 rfl ?_
  obtain ⟨h88, e89, hs45⟩ := am_bind hs44
  clear hs44
  refine aw_pP (pc1 := 200) at_323_197 e89 rfl ?_
  refine aw_vload_n (pc1 := 201) at_323_200 l0 i0 rfl ?_
  refine aw_bipush (v := 24) (pc1 := 203) at_323_201 (by decide) rfl ?_
  obtain ⟨h90, e91, hs46⟩ := am_bind hs45
  clear hs45
  refine aw_pNew (pc1 := 205) at_323_203 e91 rfl ?_
  obtain ⟨h92, e93, hs47⟩ := am_bind hs46
  clear hs46
  refine aw_pP (pc1 := 208) at_323_205 e93 rfl ?_
  refine aw_vload_n (pc1 := 209) at_323_208 l0 i0 rfl ?_
  refine aw_bipush (v := 24) (pc1 := 211) at_323_209 (by decide) rfl ?_
  obtain ⟨h94, e95, hs48⟩ := am_bind hs47
  clear hs47
  refine aw_pNew (pc1 := 213) at_323_211 e95 rfl ?_
  obtain ⟨h96, e97, hs49⟩ := am_bind hs48
  clear hs48
  refine aw_pP (pc1 := 216) at_323_213 e97 rfl ?_
  refine aw_vload_n (pc1 := 217) at_323_216 l0 i0 rfl ?_
  refine aw_bipush (v := 24) (pc1 := 219) at_323_217 (by decide) rfl ?_
  obtain ⟨h98, e99, hs50⟩ := am_bind hs49
  clear hs49
  refine aw_pNew (pc1 := 221) at_323_219 e99 rfl ?_
  obtain ⟨h100, e101, hs51⟩ := am_bind hs50
  clear hs50
  refine aw_pP (pc1 := 224) at_323_221 e101 rfl ?_
  refine aw_vload_n (pc1 := 225) at_323_224 l0 i0 rfl ?_
  refine aw_bipush (v := 24) (pc1 := 227) at_323_225 (by decide) rfl ?_
  obtain ⟨h102, e103, hs52⟩ := am_bind hs51
  clear hs51
  refine aw_pNew (pc1 := 229) at_323_227 e103 rfl ?_
  obtain ⟨h104, e105, hs53⟩ := am_bind hs52
  clear hs52
  refine aw_pP (pc1 := 232) at_323_229 e105 rfl ?_
  refine aw_vload_n (pc1 := 233) at_323_232 l0 i0 rfl ?_
  refine aw_bipush (v := 24) (pc1 := 235) at_323_233 (by decide) rfl ?_
  obtain ⟨h106, e107, hs54⟩ := am_bind hs53
  clear hs53
  refine aw_pNew (pc1 := 237) at_323_235 e107 rfl ?_
  obtain ⟨h108, e109, hs55⟩ := am_bind hs54
  clear hs54
  refine aw_pP (pc1 := 240) at_323_237 e109 rfl ?_
  refine aw_vload_n (pc1 := 241) at_323_240 l0 i0 rfl ?_
  refine aw_bipush (v := 24) (pc1 := 243) at_323_241 (by decide) rfl ?_
  obtain ⟨h110, e111, hs56⟩ := am_bind hs55
  clear hs55
  refine aw_pNew (pc1 := 245) at_323_243 e111 rfl ?_
  obtain ⟨h112, e113, hs57⟩ := am_bind hs56
  clear hs56
  refine aw_pP (pc1 := 248) at_323_245 e113 rfl ?_
  refine aw_vload_n (pc1 := 249) at_323_248 l0 i0 rfl ?_
  refine aw_bipush (v := 24) (pc1 := 251) at_323_249 (by decide) rfl ?_
  obtain ⟨h114, e115, hs58⟩ := am_bind hs57
  clear hs57
  refine aw_pNew (pc1 := 253) at_323_251 e115 rfl ?_
  obtain ⟨h116, e117, hs59⟩ := am_bind hs58
  clear hs58
  refine aw_pP (pc1 := 256) at_323_253 e117 rfl ?_
  refine aw_vload_n (pc1 := 257) at_323_256 l0 i0 rfl ?_
  refine aw_sipush (v := 192) (pc1 := 260) at_323_257 (by decide) rfl ?_
  obtain ⟨h118, e119, hs60⟩ := am_bind hs59
  clear hs59
  refine aw_pNew (pc1 := 262) at_323_260 e119 rfl ?_
  obtain ⟨h120, e121, hs61⟩ := am_bind hs60
  clear hs60
  refine aw_pP (pc1 := 265) at_323_262 e121 rfl ?_
  refine aw_vload_n (pc1 := 266) at_323_265 l0 i0 rfl ?_
  refine aw_bipush (v := 8) (pc1 := 268) at_323_266 (by decide) rfl ?_
  obtain ⟨h122, e123, hs62⟩ := am_bind hs61
  clear hs61
  refine aw_pNew (pc1 := 270) at_323_268 e123 rfl ?_
  obtain ⟨h124, e125, hs63⟩ := am_bind hs62
  clear hs62
  refine aw_pP (pc1 := 273) at_323_270 e125 rfl ?_
  refine aw_vload_n (pc1 := 274) at_323_273 l0 i0 rfl ?_
  refine aw_iconst (v := 5) (pc1 := 275) at_323_274 (by decide) rfl ?_
  obtain ⟨h126, e127, hs64⟩ := am_bind hs63
  clear hs63
  refine aw_pNew (pc1 := 277) at_323_275 e127 rfl ?_
  obtain ⟨h128, e129, hs65⟩ := am_bind hs64
  clear hs64
  refine aw_pP (pc1 := 280) at_323_277 e129 rfl ?_
  refine aw_vload_n (pc1 := 281) at_323_280 l0 i0 rfl ?_
  refine aw_sipush (v := 400) (pc1 := 284) at_323_281 (by decide) rfl ?_
  obtain ⟨h130, e131, hs66⟩ := am_bind hs65
  clear hs65
  refine aw_pNew (pc1 := 286) at_323_284 e131 rfl ?_
  obtain ⟨h132, e133, hs67⟩ := am_bind hs66
  clear hs66
  refine aw_pP (pc1 := 289) at_323_286 e133 rfl ?_
  refine aw_vload_n (pc1 := 290) at_323_289 l0 i0 rfl ?_
  refine aw_sipush (v := 400) (pc1 := 293) at_323_290 (by decide) rfl ?_
  obtain ⟨h134, e135, hs68⟩ := am_bind hs67
  clear hs67
  refine aw_pNew (pc1 := 295) at_323_293 e135 rfl ?_
  obtain ⟨h136, e137, hs69⟩ := am_bind hs68
  clear hs68
  refine aw_pP (pc1 := 298) at_323_295 e137 rfl ?_
  refine aw_vload_n (pc1 := 299) at_323_298 l0 i0 rfl ?_
  refine aw_sipush (v := 400) (pc1 := 302) at_323_299 (by decide) rfl ?_
  obtain ⟨h138, e139, hs70⟩ := am_bind hs69
  clear hs69
  refine aw_pNew (pc1 := 304) at_323_302 e139 rfl ?_
  obtain ⟨h140, e141, hs71⟩ := am_bind hs70
  clear hs70
  refine aw_pP (pc1 := 307) at_323_304 e141 rfl ?_
  refine aw_vload_n (pc1 := 308) at_323_307 l0 i0 rfl ?_
  refine aw_sipush (v := 400) (pc1 := 311) at_323_308 (by decide) rfl ?_
  obtain ⟨h142, e143, hs72⟩ := am_bind hs71
  clear hs71
  refine aw_pNew (pc1 := 313) at_323_311 e143 rfl ?_
  obtain ⟨h144, e145, hs73⟩ := am_bind hs72
  clear hs72
  refine aw_pP (pc1 := 316) at_323_313 e145 rfl ?_
  refine aw_vload_n (pc1 := 317) at_323_316 l0 i0 rfl ?_
  refine aw_sipush (v := 130) (pc1 := 320) at_323_317 (by decide) rfl ?_
  obtain ⟨h146, e147, hs74⟩ := am_bind hs73
  clear hs73
  refine aw_pNew (pc1 := 322) at_323_320 e147 rfl ?_
  obtain ⟨h148, e149, hs75⟩ := am_bind hs74
  clear hs74
  refine aw_pP (pc1 := 325) at_323_322 e149 rfl ?_
  refine aw_vload_n (pc1 := 326) at_323_325 l0 i0 rfl ?_
  refine aw_bipush (v := 8) (pc1 := 328) at_323_326 (by decide) rfl ?_
  obtain ⟨h150, e151, hs76⟩ := am_bind hs75
  clear hs75
  refine aw_pNew (pc1 := 330) at_323_328 e151 rfl ?_
  obtain ⟨h152, e153, hs77⟩ := am_bind hs76
  clear hs76
  refine aw_pP (pc1 := 333) at_323_330 e153 rfl ?_
  refine aw_vload_n (pc1 := 334) at_323_333 l0 i0 rfl ?_
  refine aw_sipush (v := 130) (pc1 := 337) at_323_334 (by decide) rfl ?_
  obtain ⟨h154, e155, hs78⟩ := am_bind hs77
  clear hs77
  refine aw_pNew (pc1 := 339) at_323_337 e155 rfl ?_
  obtain ⟨h156, e157, hs79⟩ := am_bind hs78
  clear hs78
  refine aw_pP (pc1 := 342) at_323_339 e157 rfl ?_
  refine aw_vload_n (pc1 := 343) at_323_342 l0 i0 rfl ?_
  refine aw_sipush (v := 130) (pc1 := 346) at_323_343 (by decide) rfl ?_
  obtain ⟨h158, e159, hs80⟩ := am_bind hs79
  clear hs79
  refine aw_pNew (pc1 := 348) at_323_346 e159 rfl ?_
  obtain ⟨h160, e161, hs81⟩ := am_bind hs80
  clear hs80
  refine aw_pP (pc1 := 351) at_323_348 e161 rfl ?_
  refine aw_vload_n (pc1 := 352) at_323_351 l0 i0 rfl ?_
  refine aw_sipush (v := 130) (pc1 := 355) at_323_352 (by decide) rfl ?_
  obtain ⟨h162, e163, hs82⟩ := am_bind hs81
  clear hs81
  refine aw_pNew (pc1 := 357) at_323_355 e163 rfl ?_
  obtain ⟨h164, e165, hs83⟩ := am_bind hs82
  clear hs82
  refine aw_pP (pc1 := 360) at_323_357 e165 rfl ?_
  refine aw_vload_n (pc1 := 361) at_323_360 l0 i0 rfl ?_
  refine aw_sipush (v := 130) (pc1 := 364) at_323_361 (by decide) rfl ?_
  obtain ⟨h166, e167, hs84⟩ := am_bind hs83
  clear hs83
  refine aw_pNew (pc1 := 366) at_323_364 e167 rfl ?_
  obtain ⟨h168, e169, hs85⟩ := am_bind hs84
  clear hs84
  refine aw_pP (pc1 := 369) at_323_366 e169 rfl ?_
  refine aw_vload_n (pc1 := 370) at_323_369 l0 i0 rfl ?_
  refine aw_sipush (v := 400) (pc1 := 373) at_323_370 (by decide) rfl ?_
  obtain ⟨h170, e171, hs86⟩ := am_bind hs85
  clear hs85
  refine aw_pNew (pc1 := 375) at_323_373 e171 rfl ?_
  obtain ⟨h172, e173, hs87⟩ := am_bind hs86
  clear hs86
  refine aw_pP (pc1 := 378) at_323_375 e173 rfl ?_
  refine aw_vload_n (pc1 := 379) at_323_378 l0 i0 rfl ?_
  refine aw_sipush (v := 240) (pc1 := 382) at_323_379 (by decide) rfl ?_
  obtain ⟨h174, e175, hs88⟩ := am_bind hs87
  clear hs87
  refine aw_pNew (pc1 := 384) at_323_382 e175 rfl ?_
  obtain ⟨h176, e177, hs89⟩ := am_bind hs88
  clear hs88
  refine aw_pP (pc1 := 387) at_323_384 e177 rfl ?_
  refine aw_vload_n (pc1 := 388) at_323_387 l0 i0 rfl ?_
  refine aw_bipush (v := 61) (pc1 := 390) at_323_388 (by decide) rfl ?_
  obtain ⟨h178, e179, hs90⟩ := am_bind hs89
  clear hs89
  refine aw_pNew (pc1 := 392) at_323_390 e179 rfl ?_
  obtain ⟨h180, e181, hs91⟩ := am_bind hs90
  clear hs90
  refine aw_pP (pc1 := 395) at_323_392 e181 rfl ?_
  refine aw_vload_n (pc1 := 396) at_323_395 l0 i0 rfl ?_
  refine aw_bipush (v := 64) (pc1 := 398) at_323_396 (by decide) rfl ?_
  obtain ⟨h182, e183, hs92⟩ := am_bind hs91
  clear hs91
  refine aw_pNew (pc1 := 400) at_323_398 e183 rfl ?_
  obtain ⟨h184, e185, hs93⟩ := am_bind hs92
  clear hs92
  refine aw_pP (pc1 := 403) at_323_400 e185 rfl ?_
  refine aw_vload_n (pc1 := 404) at_323_403 l0 i0 rfl ?_
  refine aw_bipush (v := 64) (pc1 := 406) at_323_404 (by decide) rfl ?_
  obtain ⟨h186, e187, hs94⟩ := am_bind hs93
  clear hs93
  refine aw_pNew (pc1 := 408) at_323_406 e187 rfl ?_
  obtain ⟨h188, e189, hs95⟩ := am_bind hs94
  clear hs94
  refine aw_pP (pc1 := 411) at_323_408 e189 rfl ?_
  refine aw_vload_n (pc1 := 412) at_323_411 l0 i0 rfl ?_
  refine aw_bipush (v := 64) (pc1 := 414) at_323_412 (by decide) rfl ?_
  obtain ⟨h190, e191, hs96⟩ := am_bind hs95
  clear hs95
  refine aw_pNew (pc1 := 416) at_323_414 e191 rfl ?_
  obtain ⟨h192, e193, hs97⟩ := am_bind hs96
  clear hs96
  refine aw_pP (pc1 := 419) at_323_416 e193 rfl ?_
  refine aw_vload_n (pc1 := 420) at_323_419 l0 i0 rfl ?_
  refine aw_sipush (v := 800) (pc1 := 423) at_323_420 (by decide) rfl ?_
  obtain ⟨h194, e195, hs98⟩ := am_bind hs97
  clear hs97
  refine aw_pNew (pc1 := 425) at_323_423 e195 rfl ?_
  obtain ⟨h196, e197, hs99⟩ := am_bind hs98
  clear hs98
  refine aw_pP (pc1 := 428) at_323_425 e197 rfl ?_
  refine aw_vload_n (pc1 := 429) at_323_428 l0 i0 rfl ?_
  refine aw_bipush (v := 84) (pc1 := 431) at_323_429 (by decide) rfl ?_
  obtain ⟨h198, e199, hs100⟩ := am_bind hs99
  clear hs99
  refine aw_pNew (pc1 := 433) at_323_431 e199 rfl ?_
  obtain ⟨h200, e201, hs101⟩ := am_bind hs100
  clear hs100
  refine aw_pP (pc1 := 436) at_323_433 e201 rfl ?_
  refine aw_vload_n (pc1 := 437) at_323_436 l0 i0 rfl ?_
  refine aw_sipush (v := 819) (pc1 := 440) at_323_437 (by decide) rfl ?_
  obtain ⟨h202, e203, hs102⟩ := am_bind hs101
  clear hs101
  refine aw_pNew (pc1 := 442) at_323_440 e203 rfl ?_
  obtain ⟨h204, e205, hs103⟩ := am_bind hs102
  clear hs102
  refine aw_pP (pc1 := 445) at_323_442 e205 rfl ?_
  refine aw_vload_n (pc1 := 446) at_323_445 l0 i0 rfl ?_
  refine aw_bipush (v := 6) (pc1 := 448) at_323_446 (by decide) rfl ?_
  obtain ⟨h206, e207, hs104⟩ := am_bind hs103
  clear hs103
  refine aw_pNew (pc1 := 450) at_323_448 e207 rfl ?_
  obtain ⟨h208, e209, hs105⟩ := am_bind hs104
  clear hs104
  refine aw_pP (pc1 := 453) at_323_450 e209 rfl ?_
  refine aw_vload_n (pc1 := 454) at_323_453 l0 i0 rfl ?_
  refine aw_bipush (v := 40) (pc1 := 456) at_323_454 (by decide) rfl ?_
  obtain ⟨h210, e211, hs106⟩ := am_bind hs105
  clear hs105
  refine aw_pNew (pc1 := 458) at_323_456 e211 rfl ?_
  obtain ⟨h212, e213, hs107⟩ := am_bind hs106
  clear hs106
  refine aw_pP (pc1 := 461) at_323_458 e213 rfl ?_
  refine aw_vload_n (pc1 := 462) at_323_461 l0 i0 rfl ?_
  refine aw_bipush (v := 40) (pc1 := 464) at_323_462 (by decide) rfl ?_
  obtain ⟨h214, e215, hs108⟩ := am_bind hs107
  clear hs107
  refine aw_pNew (pc1 := 466) at_323_464 e215 rfl ?_
  obtain ⟨h216, e217, hs109⟩ := am_bind hs108
  clear hs108
  refine aw_pP (pc1 := 469) at_323_466 e217 rfl ?_
  refine aw_vload_n (pc1 := 470) at_323_469 l0 i0 rfl ?_
  refine aw_bipush (v := 40) (pc1 := 472) at_323_470 (by decide) rfl ?_
  obtain ⟨h218, e219, hs110⟩ := am_bind hs109
  clear hs109
  refine aw_pNew (pc1 := 474) at_323_472 e219 rfl ?_
  obtain ⟨h220, e221, hs111⟩ := am_bind hs110
  clear hs110
  refine aw_pP (pc1 := 477) at_323_474 e221 rfl ?_
  refine aw_vload_n (pc1 := 478) at_323_477 l0 i0 rfl ?_
  refine aw_bipush (v := 40) (pc1 := 480) at_323_478 (by decide) rfl ?_
  obtain ⟨h222, e223, hs112⟩ := am_bind hs111
  clear hs111
  refine aw_pNew (pc1 := 482) at_323_480 e223 rfl ?_
  obtain ⟨h224, e225, hs113⟩ := am_bind hs112
  clear hs112
  refine aw_pP (pc1 := 485) at_323_482 e225 rfl ?_
  refine aw_vload_n (pc1 := 486) at_323_485 l0 i0 rfl ?_
  refine aw_bipush (v := 13) (pc1 := 488) at_323_486 (by decide) rfl ?_
  obtain ⟨h226, e227, hs114⟩ := am_bind hs113
  clear hs113
  refine aw_pNew (pc1 := 490) at_323_488 e227 rfl ?_
  obtain ⟨h228, e229, hs115⟩ := am_bind hs114
  clear hs114
  refine aw_pP (pc1 := 493) at_323_490 e229 rfl ?_
  refine aw_vload_n (pc1 := 494) at_323_493 l0 i0 rfl ?_
  refine aw_bipush (v := 13) (pc1 := 496) at_323_494 (by decide) rfl ?_
  obtain ⟨h230, e231, hs116⟩ := am_bind hs115
  clear hs115
  refine aw_pNew (pc1 := 498) at_323_496 e231 rfl ?_
  obtain ⟨h232, e233, hs117⟩ := am_bind hs116
  clear hs116
  refine aw_pP (pc1 := 501) at_323_498 e233 rfl ?_
  refine aw_vload_n (pc1 := 502) at_323_501 l0 i0 rfl ?_
  refine aw_iconst (v := 4) (pc1 := 503) at_323_502 (by decide) rfl ?_
  obtain ⟨h234, e235, hs118⟩ := am_bind hs117
  clear hs117
  refine aw_pNew (pc1 := 505) at_323_503 e235 rfl ?_
  obtain ⟨h236, e237, hs119⟩ := am_bind hs118
  clear hs118
  refine aw_pP (pc1 := 508) at_323_505 e237 rfl ?_
  refine aw_vload_n (pc1 := 509) at_323_508 l0 i0 rfl ?_
  refine aw_bipush (v := 64) (pc1 := 511) at_323_509 (by decide) rfl ?_
  obtain ⟨h238, e239, hs120⟩ := am_bind hs119
  clear hs119
  refine aw_pNew (pc1 := 513) at_323_511 e239 rfl ?_
  obtain ⟨h240, e241, hs121⟩ := am_bind hs120
  clear hs120
  refine aw_pP (pc1 := 516) at_323_513 e241 rfl ?_
  refine aw_vload_n (pc1 := 517) at_323_516 l0 i0 rfl ?_
  refine aw_iconst (v := 4) (pc1 := 518) at_323_517 (by decide) rfl ?_
  obtain ⟨h242, e243, hs122⟩ := am_bind hs121
  clear hs121
  refine aw_pNew (pc1 := 520) at_323_518 e243 rfl ?_
  obtain ⟨h244, e245, hs123⟩ := am_bind hs122
  clear hs122
  refine aw_pP (pc1 := 523) at_323_520 e245 rfl ?_
  refine aw_vload_n (pc1 := 524) at_323_523 l0 i0 rfl ?_
  refine aw_bipush (v := 16) (pc1 := 526) at_323_524 (by decide) rfl ?_
  obtain ⟨h246, e247, hs124⟩ := am_bind hs123
  clear hs123
  refine aw_pNew (pc1 := 528) at_323_526 e247 rfl ?_
  obtain ⟨h248, e249, hs125⟩ := am_bind hs124
  clear hs124
  refine aw_pP (pc1 := 531) at_323_528 e249 rfl ?_
  refine aw_vload_n (pc1 := 532) at_323_531 l0 i0 rfl ?_
  refine aw_bipush (v := 16) (pc1 := 534) at_323_532 (by decide) rfl ?_
  obtain ⟨h250, e251, hs126⟩ := am_bind hs125
  clear hs125
  refine aw_pNew (pc1 := 536) at_323_534 e251 rfl ?_
  obtain ⟨h252, e253, hs127⟩ := am_bind hs126
  clear hs126
  refine aw_pP (pc1 := 539) at_323_536 e253 rfl ?_
  refine aw_vload_n (pc1 := 540) at_323_539 l0 i0 rfl ?_
  refine aw_bipush (v := 16) (pc1 := 542) at_323_540 (by decide) rfl ?_
  obtain ⟨h254, e255, hs128⟩ := am_bind hs127
  clear hs127
  refine aw_pNew (pc1 := 544) at_323_542 e255 rfl ?_
  obtain ⟨h256, e257, hs129⟩ := am_bind hs128
  clear hs128
  refine aw_pP (pc1 := 547) at_323_544 e257 rfl ?_
  refine aw_vload_n (pc1 := 548) at_323_547 l0 i0 rfl ?_
  refine aw_bipush (v := 16) (pc1 := 550) at_323_548 (by decide) rfl ?_
  obtain ⟨h258, e259, hs130⟩ := am_bind hs129
  clear hs129
  refine aw_pNew (pc1 := 552) at_323_550 e259 rfl ?_
  obtain ⟨h260, e261, hs131⟩ := am_bind hs130
  clear hs130
  refine aw_pP (pc1 := 555) at_323_552 e261 rfl ?_
  refine aw_vload_n (pc1 := 556) at_323_555 l0 i0 rfl ?_
  refine aw_sipush (v := 384) (pc1 := 559) at_323_556 (by decide) rfl ?_
  obtain ⟨h262, e263, hs132⟩ := am_bind hs131
  clear hs131
  refine aw_pNew (pc1 := 561) at_323_559 e263 rfl ?_
  obtain ⟨h264, e265, hs133⟩ := am_bind hs132
  clear hs132
  refine aw_pP (pc1 := 564) at_323_561 e265 rfl ?_
  refine aw_vload_n (pc1 := 565) at_323_564 l0 i0 rfl ?_
  refine aw_bipush (v := 24) (pc1 := 567) at_323_565 (by decide) rfl ?_
  obtain ⟨h266, e267, hs134⟩ := am_bind hs133
  clear hs133
  refine aw_pNew (pc1 := 569) at_323_567 e267 rfl ?_
  obtain ⟨h268, e269, hs135⟩ := am_bind hs134
  clear hs134
  refine aw_pP (pc1 := 572) at_323_569 e269 rfl ?_
  refine aw_vload_n (pc1 := 573) at_323_572 l0 i0 rfl ?_
  refine aw_bipush (v := 16) (pc1 := 575) at_323_573 (by decide) rfl ?_
  obtain ⟨h270, e271, hs136⟩ := am_bind hs135
  clear hs135
  refine aw_pNew (pc1 := 577) at_323_575 e271 rfl ?_
  obtain ⟨h272, e273, hs137⟩ := am_bind hs136
  clear hs136
  refine aw_pP (pc1 := 580) at_323_577 e273 rfl ?_
  refine aw_vload_n (pc1 := 581) at_323_580 l0 i0 rfl ?_
  refine aw_bipush (v := 16) (pc1 := 583) at_323_581 (by decide) rfl ?_
  obtain ⟨h274, e275, hs138⟩ := am_bind hs137
  clear hs137
  refine aw_pNew (pc1 := 585) at_323_583 e275 rfl ?_
  obtain ⟨h276, e277, hs139⟩ := am_bind hs138
  clear hs138
  refine aw_pP (pc1 := 588) at_323_585 e277 rfl ?_
  refine aw_vload_n (pc1 := 589) at_323_588 l0 i0 rfl ?_
  refine aw_bipush (v := 16) (pc1 := 591) at_323_589 (by decide) rfl ?_
  obtain ⟨h278, e279, hs140⟩ := am_bind hs139
  clear hs139
  refine aw_pNew (pc1 := 593) at_323_591 e279 rfl ?_
  obtain ⟨h280, e281, hs141⟩ := am_bind hs140
  clear hs140
  refine aw_pP (pc1 := 596) at_323_593 e281 rfl ?_
  refine aw_vload_n (pc1 := 597) at_323_596 l0 i0 rfl ?_
  refine aw_iconst (v := 3) (pc1 := 598) at_323_597 (by decide) rfl ?_
  obtain ⟨h282, e283, hs142⟩ := am_bind hs141
  clear hs141
  refine aw_pNew (pc1 := 600) at_323_598 e283 rfl ?_
  obtain ⟨h284, e285, hs143⟩ := am_bind hs142
  clear hs142
  refine aw_pP (pc1 := 603) at_323_600 e285 rfl ?_
  refine aw_vload_n (pc1 := 604) at_323_603 l0 i0 rfl ?_
  refine aw_sipush (v := 600) (pc1 := 607) at_323_604 (by decide) rfl ?_
  obtain ⟨h286, e287, hs144⟩ := am_bind hs143
  clear hs143
  refine aw_pNew (pc1 := 609) at_323_607 e287 rfl ?_
  obtain ⟨h288, e289, hs145⟩ := am_bind hs144
  clear hs144
  refine aw_pP (pc1 := 612) at_323_609 e289 rfl ?_
  refine aw_vload_n (pc1 := 613) at_323_612 l0 i0 rfl ?_
  refine aw_sipush (v := 600) (pc1 := 616) at_323_613 (by decide) rfl ?_
  obtain ⟨h290, e291, hs146⟩ := am_bind hs145
  clear hs145
  refine aw_pNew (pc1 := 618) at_323_616 e291 rfl ?_
  obtain ⟨h292, e293, hs147⟩ := am_bind hs146
  clear hs146
  refine aw_pP (pc1 := 621) at_323_618 e293 rfl ?_
  refine aw_vload_n (pc1 := 622) at_323_621 l0 i0 rfl ?_
  refine aw_sipush (v := 400) (pc1 := 625) at_323_622 (by decide) rfl ?_
  obtain ⟨h294, e295, hs148⟩ := am_bind hs147
  clear hs147
  refine aw_pNew (pc1 := 627) at_323_625 e295 rfl ?_
  obtain ⟨h296, e297, hs149⟩ := am_bind hs148
  clear hs148
  refine aw_pP (pc1 := 630) at_323_627 e297 rfl ?_
  refine aw_vload_n (pc1 := 631) at_323_630 l0 i0 rfl ?_
  refine aw_sipush (v := 400) (pc1 := 634) at_323_631 (by decide) rfl ?_
  obtain ⟨h298, e299, hs150⟩ := am_bind hs149
  clear hs149
  refine aw_pNew (pc1 := 636) at_323_634 e299 rfl ?_
  obtain ⟨h300, e301, hs151⟩ := am_bind hs150
  clear hs150
  refine aw_pP (pc1 := 639) at_323_636 e301 rfl ?_
  refine aw_vload_n (pc1 := 640) at_323_639 l0 i0 rfl ?_
  refine aw_sipush (v := 1152) (pc1 := 643) at_323_640 (by decide) rfl ?_
  obtain ⟨h302, e303, hs152⟩ := am_bind hs151
  clear hs151
  refine aw_pNew (pc1 := 645) at_323_643 e303 rfl ?_
  obtain ⟨h304, e305, hs153⟩ := am_bind hs152
  clear hs152
  refine aw_pP (pc1 := 648) at_323_645 e305 rfl ?_
  refine aw_vload_n (pc1 := 649) at_323_648 l0 i0 rfl ?_
  refine aw_sipush (v := 1152) (pc1 := 652) at_323_649 (by decide) rfl ?_
  obtain ⟨h306, e307, hs154⟩ := am_bind hs153
  clear hs153
  refine aw_pNew (pc1 := 654) at_323_652 e307 rfl ?_
  obtain ⟨h308, e309, hs155⟩ := am_bind hs154
  clear hs154
  refine aw_pP (pc1 := 657) at_323_654 e309 rfl ?_
  refine aw_vload_n (pc1 := 658) at_323_657 l0 i0 rfl ?_
  refine aw_bipush (v := 9) (pc1 := 660) at_323_658 (by decide) rfl ?_
  obtain ⟨h310, e311, hs156⟩ := am_bind hs155
  clear hs155
  refine aw_pNew (pc1 := 662) at_323_660 e311 rfl ?_
  obtain ⟨h312, e313, hs157⟩ := am_bind hs156
  clear hs156
  refine aw_pP (pc1 := 665) at_323_662 e313 rfl ?_
  refine aw_vload_n (pc1 := 666) at_323_665 l0 i0 rfl ?_
  refine aw_bipush (v := 61) (pc1 := 668) at_323_666 (by decide) rfl ?_
  obtain ⟨h314, e315, hs158⟩ := am_bind hs157
  clear hs157
  refine aw_pNew (pc1 := 670) at_323_668 e315 rfl ?_
  obtain ⟨h316, e317, hs159⟩ := am_bind hs158
  clear hs158
  refine aw_pP (pc1 := 673) at_323_670 e317 rfl ?_
  refine aw_vload_n (pc1 := 674) at_323_673 l0 i0 rfl ?_
  refine aw_bipush (v := 15) (pc1 := 676) at_323_674 (by decide) rfl ?_
  obtain ⟨h318, e319, hs160⟩ := am_bind hs159
  clear hs159
  refine aw_pNew (pc1 := 678) at_323_676 e319 rfl ?_
  obtain ⟨h320, e321, hs161⟩ := am_bind hs160
  clear hs160
  refine aw_pP (pc1 := 681) at_323_678 e321 rfl ?_
  refine aw_vload_n (pc1 := 682) at_323_681 l0 i0 rfl ?_
  refine aw_bipush (v := 36) (pc1 := 684) at_323_682 (by decide) rfl ?_
  obtain ⟨h322, e323, hs162⟩ := am_bind hs161
  clear hs161
  refine aw_pNew (pc1 := 686) at_323_684 e323 rfl ?_
  obtain ⟨h324, e325, hs163⟩ := am_bind hs162
  clear hs162
  refine aw_pP (pc1 := 689) at_323_686 e325 rfl ?_
  refine aw_vload_n (pc1 := 690) at_323_689 l0 i0 rfl ?_
  refine aw_bipush (v := 36) (pc1 := 692) at_323_690 (by decide) rfl ?_
  obtain ⟨h326, e327, hs164⟩ := am_bind hs163
  clear hs163
  refine aw_pNew (pc1 := 694) at_323_692 e327 rfl ?_
  obtain ⟨h328, e329, hs165⟩ := am_bind hs164
  clear hs164
  refine aw_pP (pc1 := 697) at_323_694 e329 rfl ?_
  refine aw_vload_n (pc1 := 698) at_323_697 l0 i0 rfl ?_
  refine aw_bipush (v := 36) (pc1 := 700) at_323_698 (by decide) rfl ?_
  obtain ⟨h330, e331, hs166⟩ := am_bind hs165
  clear hs165
  refine aw_pNew (pc1 := 702) at_323_700 e331 rfl ?_
  obtain ⟨h332, e333, hs167⟩ := am_bind hs166
  clear hs166
  refine aw_pP (pc1 := 705) at_323_702 e333 rfl ?_
  refine aw_vload_n (pc1 := 706) at_323_705 l0 i0 rfl ?_
  refine aw_bipush (v := 36) (pc1 := 708) at_323_706 (by decide) rfl ?_
  obtain ⟨h334, e335, hs168⟩ := am_bind hs167
  clear hs167
  refine aw_pNew (pc1 := 710) at_323_708 e335 rfl ?_
  obtain ⟨h336, e337, hs169⟩ := am_bind hs168
  clear hs168
  refine aw_pP (pc1 := 713) at_323_710 e337 rfl ?_
  refine aw_vload_n (pc1 := 714) at_323_713 l0 i0 rfl ?_
  refine aw_bipush (v := 40) (pc1 := 716) at_323_714 (by decide) rfl ?_
  obtain ⟨h338, e339, hs170⟩ := am_bind hs169
  clear hs169
  refine aw_pNew (pc1 := 718) at_323_716 e339 rfl ?_
  obtain ⟨h340, e341, hs171⟩ := am_bind hs170
  clear hs170
  refine aw_pP (pc1 := 721) at_323_718 e341 rfl ?_
  refine aw_vload_n (pc1 := 722) at_323_721 l0 i0 rfl ?_
  refine aw_bipush (v := 60) (pc1 := 724) at_323_722 (by decide) rfl ?_
  obtain ⟨h342, e343, hs172⟩ := am_bind hs171
  clear hs171
  refine aw_pNew (pc1 := 726) at_323_724 e343 rfl ?_
  obtain ⟨h344, e345, hs173⟩ := am_bind hs172
  clear hs172
  refine aw_pP (pc1 := 729) at_323_726 e345 rfl ?_
  refine aw_vload_n (pc1 := 730) at_323_729 l0 i0 rfl ?_
  refine aw_bipush (v := 60) (pc1 := 732) at_323_730 (by decide) rfl ?_
  obtain ⟨h346, e347, hs174⟩ := am_bind hs173
  clear hs173
  refine aw_pNew (pc1 := 734) at_323_732 e347 rfl ?_
  obtain ⟨h348, e349, hs175⟩ := am_bind hs174
  clear hs174
  refine aw_pP (pc1 := 737) at_323_734 e349 rfl ?_
  refine aw_vload_n (pc1 := 738) at_323_737 l0 i0 rfl ?_
  refine aw_bipush (v := 6) (pc1 := 740) at_323_738 (by decide) rfl ?_
  obtain ⟨h350, e351, hs176⟩ := am_bind hs175
  clear hs175
  refine aw_pNew (pc1 := 742) at_323_740 e351 rfl ?_
  obtain ⟨h352, e353, hs177⟩ := am_bind hs176
  clear hs176
  refine aw_pP (pc1 := 745) at_323_742 e353 rfl ?_
  refine aw_vload_n (pc1 := 746) at_323_745 l0 i0 rfl ?_
  refine aw_bipush (v := 6) (pc1 := 748) at_323_746 (by decide) rfl ?_
  obtain ⟨h354, e355, hs178⟩ := am_bind hs177
  clear hs177
  refine aw_pNew (pc1 := 750) at_323_748 e355 rfl ?_
  obtain ⟨h356, e357, hs179⟩ := am_bind hs178
  clear hs178
  refine aw_pP (pc1 := 753) at_323_750 e357 rfl ?_
  refine aw_vload_n (pc1 := 754) at_323_753 l0 i0 rfl ?_
  refine aw_bipush (v := 6) (pc1 := 756) at_323_754 (by decide) rfl ?_
  obtain ⟨h358, e359, hs180⟩ := am_bind hs179
  clear hs179
  refine aw_pNew (pc1 := 758) at_323_756 e359 rfl ?_
  obtain ⟨h360, e361, hs181⟩ := am_bind hs180
  clear hs180
  refine aw_pP (pc1 := 761) at_323_758 e361 rfl ?_
  refine aw_vload_n (pc1 := 762) at_323_761 l0 i0 rfl ?_
  refine aw_bipush (v := 6) (pc1 := 764) at_323_762 (by decide) rfl ?_
  obtain ⟨h362, e363, hs182⟩ := am_bind hs181
  clear hs181
  refine aw_pNew (pc1 := 766) at_323_764 e363 rfl ?_
  obtain ⟨h364, e365, hs183⟩ := am_bind hs182
  clear hs182
  refine aw_pP (pc1 := 769) at_323_766 e365 rfl ?_
  refine aw_vload_n (pc1 := 770) at_323_769 l0 i0 rfl ?_
  refine aw_bipush (v := 40) (pc1 := 772) at_323_770 (by decide) rfl ?_
  obtain ⟨h366, e367, hs184⟩ := am_bind hs183
  clear hs183
  refine aw_pNew (pc1 := 774) at_323_772 e367 rfl ?_
  obtain ⟨h368, e369, hs185⟩ := am_bind hs184
  clear hs184
  refine aw_pP (pc1 := 777) at_323_774 e369 rfl ?_
  refine aw_vload_n (pc1 := 778) at_323_777 l0 i0 rfl ?_
  refine aw_bipush (v := 8) (pc1 := 780) at_323_778 (by decide) rfl ?_
  obtain ⟨h370, e371, hs186⟩ := am_bind hs185
  clear hs185
  refine aw_pNew (pc1 := 782) at_323_780 e371 rfl ?_
  obtain ⟨h372, e373, hs187⟩ := am_bind hs186
  clear hs186
  refine aw_pP (pc1 := 785) at_323_782 e373 rfl ?_
  refine aw_vload_n (pc1 := 786) at_323_785 l0 i0 rfl ?_
  obtain ⟨v374, e375, hs188⟩ := am_bind hs187
  clear hs187
  refine aw_pG (pc1 := 789) at_323_786 (am_vR_s e375).1 rfl ?_
  refine aw_iconst (v := 0) (pc1 := 790) at_323_789 (by decide) rfl ?_
  refine aw_sipush (v := 200) (pc1 := 793) at_323_790 (by decide) rfl ?_
  obtain ⟨h376, e377, hs189⟩ := am_bind hs188
  clear hs188
  refine aw_pS (pc1 := 794) at_323_793 (Or.inl ⟨rfl, rfl⟩) e377 rfl ?_
  refine aw_vload_n (pc1 := 795) at_323_794 l0 i0 rfl ?_
  obtain ⟨v378, e379, hs190⟩ := am_bind hs189
  clear hs189
  refine aw_pG (pc1 := 798) at_323_795 (am_vR_s e379).1 rfl ?_
  refine aw_iconst (v := 1) (pc1 := 799) at_323_798 (by decide) rfl ?_
  refine aw_iconst (v := 1) (pc1 := 800) at_323_799 (by decide) rfl ?_
  obtain ⟨h380, e381, hs191⟩ := am_bind hs190
  clear hs190
  refine aw_pS (pc1 := 801) at_323_800 (Or.inl ⟨rfl, rfl⟩) e381 rfl ?_
  refine aw_vload_n (pc1 := 802) at_323_801 l0 i0 rfl ?_
  obtain ⟨v382, e383, hs192⟩ := am_bind hs191
  clear hs191
  refine aw_pG (pc1 := 805) at_323_802 (am_vR_s e383).1 rfl ?_
  refine aw_iconst (v := 2) (pc1 := 806) at_323_805 (by decide) rfl ?_
  refine aw_iconst (v := 3) (pc1 := 807) at_323_806 (by decide) rfl ?_
  obtain ⟨h384, e385, hs193⟩ := am_bind hs192
  clear hs192
  refine aw_pS (pc1 := 808) at_323_807 (Or.inl ⟨rfl, rfl⟩) e385 rfl ?_
  refine aw_vload_n (pc1 := 809) at_323_808 l0 i0 rfl ?_
  obtain ⟨v386, e387, hs194⟩ := am_bind hs193
  clear hs193
  refine aw_pG (pc1 := 812) at_323_809 (am_vR_s e387).1 rfl ?_
  refine aw_iconst (v := 3) (pc1 := 813) at_323_812 (by decide) rfl ?_
  refine aw_bipush (v := 30) (pc1 := 815) at_323_813 (by decide) rfl ?_
  obtain ⟨h388, e389, hs195⟩ := am_bind hs194
  clear hs194
  refine aw_pS (pc1 := 816) at_323_815 (Or.inl ⟨rfl, rfl⟩) e389 rfl ?_
  cases hs195
  exact aw_vret at_323_816 rt_323 rfl
def fm_323 (y0 : Value) (h : am_H) : Option am_O := fg_323_0 y0 h
theorem rm_323 {X : am_X} {d : Nat} (y0 : Value) (h : am_H) (o : am_O) (i0 : am_isR y0 = true) (hs : fm_323 y0 h = some o) : am_W X (d) 323 0 (am_args 0 [y0]) [] h (fun q => q = o) := by
  rw [am_args_R i0]
  exact rg_323_0 y0 h o rfl i0 hs
def fg_22_46 (N : Nat) : Nat → Value → Int64 → Int32 → Int32 → am_H → Option am_O
  | 0 => fun _ _ _ _ _ => none
  | K + 1 => fun x0 x1 x3 x4 h => (if x3 ≤ x4 then ((am_vI (am_pG 2305 x0 h)).bind fun v2 => some (.inl (some (.int v2), h))) else ((am_vR (am_pG 2304 x0 h)).bind fun v4 => ((am_vI (am_pG 2305 x0 h)).bind fun v6 => ((am_pS 3 v4 v6 ((Int32.toUInt32 (Int64.toInt32 (((Int64.toUInt64 x1 >>> (Int64.toUInt64 (Int32.toInt64 (8 * x4)) &&& Int64.toUInt64 63)).toInt64) &&& 255)) % 65536).toInt32) h).bind fun h8 => ((am_vI (am_pG 2305 x0 h8)).bind fun v10 => ((am_pP 2305 x0 (.int (v10 + 1)) h8).bind fun h12 => (fg_22_46 N K x0 x1 x3 ((x4 + 1)) h12)))))))
theorem rg_22_46 {X : am_X} {d : Nat} {N : Nat} : ∀ (K : Nat) (x0 : Value) (x1 : Int64) (x3 : Int32) (x4 : Int32) (h : am_H) (o : am_O), fg_22_46 N K x0 x1 x3 x4 h = some o → ∀ lv : am_LV, (lv.lookup 0 = some x0) → (lv.lookup 1 = some (.long x1)) → (lv.lookup 3 = some (.int x3)) → (lv.lookup 4 = some (.int x4)) → (am_isR x0 = true) → am_W X (d) 22 46 lv [] h (fun q => q = o) := by
  intro K
  induction K with
  | zero => intro x0 x1 x3 x4 h o hs; cases hs
  | succ K ih =>
    intro x0 x1 x3 x4 h o hs lv l0 l1 l3 l4 i0
    unfold fg_22_46 at hs
    refine aw_iload (pc1 := 48) at_22_46 l4 rfl ?_
    refine aw_iload_n (pc1 := 49) at_22_48 l3 rfl ?_
    by_cases c1 : x3 ≤ x4
    · rw [if_pos c1] at hs
      refine aw_icge_t at_22_49 c1 ?_
      refine aw_vload_n (pc1 := 91) at_22_90 l0 i0 rfl ?_
      obtain ⟨v2, e3, hs1⟩ := am_bind hs
      clear hs
      refine aw_pG (pc1 := 94) at_22_91 (am_vI_s e3) rfl ?_
      cases hs1
      exact aw_iret at_22_94 (by rw [rt_22]; rfl) rfl
    · rw [if_neg c1] at hs
      refine aw_icge_f (pc1 := 52) at_22_49 c1 rfl ?_
      refine aw_vload_n (pc1 := 53) at_22_52 l0 i0 rfl ?_
      obtain ⟨v4, e5, hs2⟩ := am_bind hs
      clear hs
      refine aw_pG (pc1 := 56) at_22_53 (am_vR_s e5).1 rfl ?_
      refine aw_vload_n (pc1 := 57) at_22_56 l0 i0 rfl ?_
      obtain ⟨v6, e7, hs3⟩ := am_bind hs2
      clear hs2
      refine aw_pG (pc1 := 60) at_22_57 (am_vI_s e7) rfl ?_
      refine aw_lload_n (pc1 := 61) at_22_60 l1 rfl ?_
      refine aw_bipush (v := 8) (pc1 := 63) at_22_61 (by decide) rfl ?_
      refine aw_iload (pc1 := 65) at_22_63 l4 rfl ?_
      refine aw_imul (v := (8 * x4)) (pc1 := 66) at_22_65 rfl rfl ?_
      refine aw_lushr (v := ((Int64.toUInt64 x1 >>> (Int64.toUInt64 (Int32.toInt64 (8 * x4)) &&& Int64.toUInt64 63)).toInt64)) (pc1 := 67) at_22_66 rfl rfl ?_
      refine aw_ldc2 (v := 255) (pc1 := 70) at_22_67 rfl rfl ?_
      refine aw_land (v := (((Int64.toUInt64 x1 >>> (Int64.toUInt64 (Int32.toInt64 (8 * x4)) &&& Int64.toUInt64 63)).toInt64) &&& 255)) (pc1 := 71) at_22_70 rfl rfl ?_
      refine aw_l2i (v := (Int64.toInt32 (((Int64.toUInt64 x1 >>> (Int64.toUInt64 (Int32.toInt64 (8 * x4)) &&& Int64.toUInt64 63)).toInt64) &&& 255))) (pc1 := 72) at_22_71 rfl rfl ?_
      refine aw_i2c (v := ((Int32.toUInt32 (Int64.toInt32 (((Int64.toUInt64 x1 >>> (Int64.toUInt64 (Int32.toInt64 (8 * x4)) &&& Int64.toUInt64 63)).toInt64) &&& 255)) % 65536).toInt32)) (pc1 := 73) at_22_72 rfl rfl ?_
      obtain ⟨h8, e9, hs4⟩ := am_bind hs3
      clear hs3
      refine aw_pS (pc1 := 74) at_22_73 (Or.inr (Or.inr ⟨rfl, rfl⟩)) e9 rfl ?_
      refine aw_vload_n (pc1 := 75) at_22_74 l0 i0 rfl ?_
      refine aw_vdup (pc1 := 76) at_22_75 i0 rfl ?_
      obtain ⟨v10, e11, hs5⟩ := am_bind hs4
      clear hs4
      refine aw_pG (pc1 := 79) at_22_76 (am_vI_s e11) rfl ?_
      refine aw_iconst (v := 1) (pc1 := 80) at_22_79 (by decide) rfl ?_
      refine aw_iadd (v := (v10 + 1)) (pc1 := 81) at_22_80 rfl rfl ?_
      obtain ⟨h12, e13, hs6⟩ := am_bind hs5
      clear hs5
      refine aw_pP (pc1 := 84) at_22_81 e13 rfl ?_
      refine aw_iinc (v := (x4 + 1)) (c := 1) (lv1 := am_put1 _ 4 _) (pc1 := 87) at_22_84 l4 (by decide) rfl rfl rfl ?_
      refine aw_goto at_22_87 ?_
      exact ih x0 x1 x3 ((x4 + 1)) h12 o hs6 _ (am_lk1 l0 rfl rfl) (am_lk1 l1 rfl rfl) (am_lk1 l3 rfl rfl) am_lk0 i0
def fg_22_29 (N : Nat) (x0 : Value) (x1 : Int64) (x3 : Int32) (h : am_H) : Option am_O := ((am_vI (am_pG 2305 x0 h)).bind fun v1 => (if (v1 + x3) ≤ 240 then (fg_22_46 N N x0 x1 x3 0 h) else some (.inl (some (.int (-1)), h))))
theorem rg_22_29 {X : am_X} {d : Nat} {N : Nat} {lv : am_LV} (x0 : Value) (x1 : Int64) (x3 : Int32) (h : am_H) (o : am_O) (l0 : lv.lookup 0 = some x0) (l1 : lv.lookup 1 = some (.long x1)) (l3 : lv.lookup 3 = some (.int x3)) (i0 : am_isR x0 = true) (hs : fg_22_29 N x0 x1 x3 h = some o) : am_W X (d) 22 29 lv [] h (fun q => q = o) := by
  unfold fg_22_29 at hs
  refine aw_vload_n (pc1 := 30) at_22_29 l0 i0 rfl ?_
  obtain ⟨v1, e2, hs1⟩ := am_bind hs
  clear hs
  refine aw_pG (pc1 := 33) at_22_30 (am_vI_s e2) rfl ?_
  refine aw_iload_n (pc1 := 34) at_22_33 l3 rfl ?_
  refine aw_iadd (v := (v1 + x3)) (pc1 := 35) at_22_34 rfl rfl ?_
  refine aw_sipush (v := 240) (pc1 := 38) at_22_35 (by decide) rfl ?_
  by_cases c3 : (v1 + x3) ≤ 240
  · rw [if_pos c3] at hs1
    refine aw_icle_t at_22_38 c3 ?_
    refine aw_iconst (v := 0) (pc1 := 44) at_22_43 (by decide) rfl ?_
    refine aw_istore (lv1 := am_put1 _ 4 _) (pc1 := 46) at_22_44 rfl rfl ?_
    exact rg_22_46 N x0 x1 x3 0 h o hs1 _ (am_lk1 l0 rfl rfl) (am_lk1 l1 rfl rfl) (am_lk1 l3 rfl rfl) am_lk0 i0
  · rw [if_neg c3] at hs1
    refine aw_icle_f (pc1 := 41) at_22_38 c3 rfl ?_
    refine aw_iconst (v := (-1)) (pc1 := 42) at_22_41 (by decide) rfl ?_
    cases hs1
    exact aw_iret at_22_42 (by rw [rt_22]; rfl) rfl
def fg_22_2 (N : Nat) : Nat → Value → Int64 → Int32 → am_H → Option am_O
  | 0 => fun _ _ _ _ => none
  | K + 1 => fun x0 x1 x3 h => (if 8 ≤ x3 then (fg_22_29 N x0 x1 x3 h) else (if (lg_cmp (((Int64.toUInt64 x1 >>> (Int64.toUInt64 (Int32.toInt64 (8 * x3)) &&& Int64.toUInt64 63)).toInt64) &&& 255) 0) = 0 then (fg_22_29 N x0 x1 x3 h) else (fg_22_2 N K x0 x1 ((x3 + 1)) h)))
theorem rg_22_2 {X : am_X} {d : Nat} {N : Nat} : ∀ (K : Nat) (x0 : Value) (x1 : Int64) (x3 : Int32) (h : am_H) (o : am_O), fg_22_2 N K x0 x1 x3 h = some o → ∀ lv : am_LV, (lv.lookup 0 = some x0) → (lv.lookup 1 = some (.long x1)) → (lv.lookup 3 = some (.int x3)) → (am_isR x0 = true) → am_W X (d) 22 2 lv [] h (fun q => q = o) := by
  intro K
  induction K with
  | zero => intro x0 x1 x3 h o hs; cases hs
  | succ K ih =>
    intro x0 x1 x3 h o hs lv l0 l1 l3 i0
    unfold fg_22_2 at hs
    refine aw_iload_n (pc1 := 3) at_22_2 l3 rfl ?_
    refine aw_bipush (v := 8) (pc1 := 5) at_22_3 (by decide) rfl ?_
    by_cases c1 : 8 ≤ x3
    · rw [if_pos c1] at hs
      refine aw_icge_t at_22_5 c1 ?_
      exact rg_22_29 x0 x1 x3 h o l0 l1 l3 i0 hs
    · rw [if_neg c1] at hs
      refine aw_icge_f (pc1 := 8) at_22_5 c1 rfl ?_
      refine aw_lload_n (pc1 := 9) at_22_8 l1 rfl ?_
      refine aw_bipush (v := 8) (pc1 := 11) at_22_9 (by decide) rfl ?_
      refine aw_iload_n (pc1 := 12) at_22_11 l3 rfl ?_
      refine aw_imul (v := (8 * x3)) (pc1 := 13) at_22_12 rfl rfl ?_
      refine aw_lushr (v := ((Int64.toUInt64 x1 >>> (Int64.toUInt64 (Int32.toInt64 (8 * x3)) &&& Int64.toUInt64 63)).toInt64)) (pc1 := 14) at_22_13 rfl rfl ?_
      refine aw_ldc2 (v := 255) (pc1 := 17) at_22_14 rfl rfl ?_
      refine aw_land (v := (((Int64.toUInt64 x1 >>> (Int64.toUInt64 (Int32.toInt64 (8 * x3)) &&& Int64.toUInt64 63)).toInt64) &&& 255)) (pc1 := 18) at_22_17 rfl rfl ?_
      refine aw_lconst (v := 0) (pc1 := 19) at_22_18 (by decide) rfl ?_
      refine aw_lcmp (v := (lg_cmp (((Int64.toUInt64 x1 >>> (Int64.toUInt64 (Int32.toInt64 (8 * x3)) &&& Int64.toUInt64 63)).toInt64) &&& 255) 0)) (pc1 := 20) at_22_19 rfl rfl ?_
      by_cases c2 : (lg_cmp (((Int64.toUInt64 x1 >>> (Int64.toUInt64 (Int32.toInt64 (8 * x3)) &&& Int64.toUInt64 63)).toInt64) &&& 255) 0) = 0
      · rw [if_pos c2] at hs
        refine aw_ifeq_t at_22_20 c2 ?_
        exact rg_22_29 x0 x1 x3 h o l0 l1 l3 i0 hs
      · rw [if_neg c2] at hs
        refine aw_ifeq_f (pc1 := 23) at_22_20 c2 rfl ?_
        refine aw_iinc (v := (x3 + 1)) (c := 1) (lv1 := am_put1 _ 3 _) (pc1 := 26) at_22_23 l3 (by decide) rfl rfl rfl ?_
        refine aw_goto at_22_26 ?_
        exact ih x0 x1 ((x3 + 1)) h o hs _ (am_lk1 l0 rfl rfl) (am_lk1 l1 rfl rfl) am_lk0 i0
def fg_22_0 (N : Nat) (x0 : Value) (x1 : Int64) (h : am_H) : Option am_O := (fg_22_2 N N x0 x1 0 h)
theorem rg_22_0 {X : am_X} {d : Nat} {N : Nat} {lv : am_LV} (x0 : Value) (x1 : Int64) (h : am_H) (o : am_O) (l0 : lv.lookup 0 = some x0) (l1 : lv.lookup 1 = some (.long x1)) (i0 : am_isR x0 = true) (hs : fg_22_0 N x0 x1 h = some o) : am_W X (d) 22 0 lv [] h (fun q => q = o) := by
  unfold fg_22_0 at hs
  refine aw_iconst (v := 0) (pc1 := 1) at_22_0 (by decide) rfl ?_
  refine aw_istore_n (lv1 := am_put1 _ 3 _) (pc1 := 2) at_22_1 rfl rfl ?_
  exact rg_22_2 N x0 x1 0 h o hs _ (am_lk1 l0 rfl rfl) (am_lk1 l1 rfl rfl) am_lk0 i0
def fm_22 (N : Nat) (y0 : Value) (y1 : Int64) (h : am_H) : Option am_O := fg_22_0 N y0 y1 h
theorem rm_22 {X : am_X} {d : Nat} {N : Nat} (y0 : Value) (y1 : Int64) (h : am_H) (o : am_O) (i0 : am_isR y0 = true) (hs : fm_22 N y0 y1 h = some o) : am_W X (d) 22 0 (am_args 0 [y0, .long y1]) [] h (fun q => q = o) := by
  rw [am_args_R i0, am_args_L]
  exact rg_22_0 y0 y1 h o rfl rfl i0 hs
def fg_21_0 (N : Nat) (x0 : Value) (x1 : Int64) (h : am_H) : Option am_O := ((am_vR (am_pG 2818 x0 h)).bind fun v1 => (if am_pOk 9 v1 h then am_cI true (fm_22 N v1 x1 h) (fun v4 h5 => some (.inl (some (.int v4), h5))) else none))
theorem rg_21_0 {X : am_X} {d : Nat} {N : Nat} {lv : am_LV} (x0 : Value) (x1 : Int64) (h : am_H) (o : am_O) (l0 : lv.lookup 0 = some x0) (l1 : lv.lookup 1 = some (.long x1)) (i0 : am_isR x0 = true) (hs : fg_21_0 N x0 x1 h = some o) : am_W X (d + 1) 21 0 lv [] h (fun q => q = o) := by
  unfold fg_21_0 at hs
  refine aw_vload_n (pc1 := 1) at_21_0 l0 i0 rfl ?_
  obtain ⟨v1, e2, hs1⟩ := am_bind hs
  clear hs
  refine aw_pG (pc1 := 4) at_21_1 (am_vR_s e2).1 rfl ?_
  refine aw_lload_n (pc1 := 5) at_21_4 l1 rfl ?_
  obtain ⟨z3, hs2⟩ := am_ift hs1
  clear hs1
  refine aw_call (F := fm_22 N v1 x1 h) (t := true) (na := 2) (kd := 1) (as := [v1, (.long x1)]) at_21_5 (am_k3v kb_22) mn_22 mk_22 rfl rfl (am_ok_v mi_22 (am_hl rfl (am_ccR (am_vR_s e2).2 (am_ccL am_cats_0)) rfl) z3) (am_hc am_cats_0 rfl) (fun _ => ⟨rfl, hh_21⟩) (fun o1 hz9 => rm_22 v1 x1 h o1 (am_vR_s e2).2 hz9) ?_
  rcases am_cI_s hs2 with ⟨v4, h5, f6, hs3⟩ | hs3
  · clear hs2
    refine Or.inl ⟨_, _, f6, ?_⟩
    show am_W X _ 21 8 _ [(.int v4)] h5 _
    cases hs3
    exact aw_iret at_21_8 (by rw [rt_21]; rfl) rfl
  · clear hs2
    exact Or.inr hs3
def fm_21 (N : Nat) (y0 : Value) (y1 : Int64) (h : am_H) : Option am_O := fg_21_0 N y0 y1 h
theorem rm_21 {X : am_X} {d : Nat} {N : Nat} (y0 : Value) (y1 : Int64) (h : am_H) (o : am_O) (i0 : am_isR y0 = true) (hs : fm_21 N y0 y1 h = some o) : am_W X (d + 1) 21 0 (am_args 0 [y0, .long y1]) [] h (fun q => q = o) := by
  rw [am_args_R i0, am_args_L]
  exact rg_21_0 y0 y1 h o rfl rfl i0 hs
def fg_325_51 (N : Nat) : Nat → Value → Int64 → Int32 → Int32 → am_H → Option am_O
  | 0 => fun _ _ _ _ _ => none
  | K + 1 => fun x0 x1 x3 x4 h => (if x3 ≤ x4 then ((am_vI (am_pG 3140 x0 h)).bind fun v2 => ((am_pP 3140 x0 (.int (v2 + x3)) h).bind fun h4 => ((am_vI (am_pG 3140 x0 h4)).bind fun v6 => some (.inl (some (.int v6), h4))))) else ((am_vR (am_pG 3139 x0 h)).bind fun v8 => ((am_vI (am_pG 3140 x0 h)).bind fun v10 => ((am_pS 0 v8 (v10 + x4) (Int64.toInt32 ((x1 >>> (Int32.toInt64 (8 * x4) &&& 63)) &&& 255)) h).bind fun h12 => (fg_325_51 N K x0 x1 x3 ((x4 + 1)) h12)))))
theorem rg_325_51 {X : am_X} {d : Nat} {N : Nat} : ∀ (K : Nat) (x0 : Value) (x1 : Int64) (x3 : Int32) (x4 : Int32) (h : am_H) (o : am_O), fg_325_51 N K x0 x1 x3 x4 h = some o → ∀ lv : am_LV, (lv.lookup 0 = some x0) → (lv.lookup 1 = some (.long x1)) → (lv.lookup 3 = some (.int x3)) → (lv.lookup 4 = some (.int x4)) → (am_isR x0 = true) → am_W X (d) 325 51 lv [] h (fun q => q = o) := by
  intro K
  induction K with
  | zero => intro x0 x1 x3 x4 h o hs; cases hs
  | succ K ih =>
    intro x0 x1 x3 x4 h o hs lv l0 l1 l3 l4 i0
    unfold fg_325_51 at hs
    refine aw_iload (pc1 := 53) at_325_51 l4 rfl ?_
    refine aw_iload_n (pc1 := 54) at_325_53 l3 rfl ?_
    by_cases c1 : x3 ≤ x4
    · rw [if_pos c1] at hs
      refine aw_icge_t at_325_54 c1 ?_
      refine aw_vload_n (pc1 := 88) at_325_87 l0 i0 rfl ?_
      refine aw_vdup (pc1 := 89) at_325_88 i0 rfl ?_
      obtain ⟨v2, e3, hs1⟩ := am_bind hs
      clear hs
      refine aw_pG (pc1 := 92) at_325_89 (am_vI_s e3) rfl ?_
      refine aw_iload_n (pc1 := 93) at_325_92 l3 rfl ?_
      refine aw_iadd (v := (v2 + x3)) (pc1 := 94) at_325_93 rfl rfl ?_
      obtain ⟨h4, e5, hs2⟩ := am_bind hs1
      clear hs1
      refine aw_pP (pc1 := 97) at_325_94 e5 rfl ?_
      refine aw_vload_n (pc1 := 98) at_325_97 l0 i0 rfl ?_
      obtain ⟨v6, e7, hs3⟩ := am_bind hs2
      clear hs2
      refine aw_pG (pc1 := 101) at_325_98 (am_vI_s e7) rfl ?_
      cases hs3
      exact aw_iret at_325_101 (by rw [rt_325]; rfl) rfl
    · rw [if_neg c1] at hs
      refine aw_icge_f (pc1 := 57) at_325_54 c1 rfl ?_
      refine aw_vload_n (pc1 := 58) at_325_57 l0 i0 rfl ?_
      obtain ⟨v8, e9, hs4⟩ := am_bind hs
      clear hs
      refine aw_pG (pc1 := 61) at_325_58 (am_vR_s e9).1 rfl ?_
      refine aw_vload_n (pc1 := 62) at_325_61 l0 i0 rfl ?_
      obtain ⟨v10, e11, hs5⟩ := am_bind hs4
      clear hs4
      refine aw_pG (pc1 := 65) at_325_62 (am_vI_s e11) rfl ?_
      refine aw_iload (pc1 := 67) at_325_65 l4 rfl ?_
      refine aw_iadd (v := (v10 + x4)) (pc1 := 68) at_325_67 rfl rfl ?_
      refine aw_lload_n (pc1 := 69) at_325_68 l1 rfl ?_
      refine aw_bipush (v := 8) (pc1 := 71) at_325_69 (by decide) rfl ?_
      refine aw_iload (pc1 := 73) at_325_71 l4 rfl ?_
      refine aw_imul (v := (8 * x4)) (pc1 := 74) at_325_73 rfl rfl ?_
      refine aw_lshr (v := (x1 >>> (Int32.toInt64 (8 * x4) &&& 63))) (pc1 := 75) at_325_74 rfl rfl ?_
      refine aw_ldc2 (v := 255) (pc1 := 78) at_325_75 rfl rfl ?_
      refine aw_land (v := ((x1 >>> (Int32.toInt64 (8 * x4) &&& 63)) &&& 255)) (pc1 := 79) at_325_78 rfl rfl ?_
      refine aw_l2i (v := (Int64.toInt32 ((x1 >>> (Int32.toInt64 (8 * x4) &&& 63)) &&& 255))) (pc1 := 80) at_325_79 rfl rfl ?_
      obtain ⟨h12, e13, hs6⟩ := am_bind hs5
      clear hs5
      refine aw_pS (pc1 := 81) at_325_80 (Or.inl ⟨rfl, rfl⟩) e13 rfl ?_
      refine aw_iinc (v := (x4 + 1)) (c := 1) (lv1 := am_put1 _ 4 _) (pc1 := 84) at_325_81 l4 (by decide) rfl rfl rfl ?_
      refine aw_goto at_325_84 ?_
      exact ih x0 x1 x3 ((x4 + 1)) h12 o hs6 _ (am_lk1 l0 rfl rfl) (am_lk1 l1 rfl rfl) (am_lk1 l3 rfl rfl) am_lk0 i0
def fg_325_34 (N : Nat) (x0 : Value) (x1 : Int64) (x3 : Int32) (h : am_H) : Option am_O := ((am_vI (am_pG 3140 x0 h)).bind fun v1 => (if (v1 + x3) ≤ 240 then (fg_325_51 N N x0 x1 x3 0 h) else some (.inl (some (.int (-1)), h))))
theorem rg_325_34 {X : am_X} {d : Nat} {N : Nat} {lv : am_LV} (x0 : Value) (x1 : Int64) (x3 : Int32) (h : am_H) (o : am_O) (l0 : lv.lookup 0 = some x0) (l1 : lv.lookup 1 = some (.long x1)) (l3 : lv.lookup 3 = some (.int x3)) (i0 : am_isR x0 = true) (hs : fg_325_34 N x0 x1 x3 h = some o) : am_W X (d) 325 34 lv [] h (fun q => q = o) := by
  unfold fg_325_34 at hs
  refine aw_vload_n (pc1 := 35) at_325_34 l0 i0 rfl ?_
  obtain ⟨v1, e2, hs1⟩ := am_bind hs
  clear hs
  refine aw_pG (pc1 := 38) at_325_35 (am_vI_s e2) rfl ?_
  refine aw_iload_n (pc1 := 39) at_325_38 l3 rfl ?_
  refine aw_iadd (v := (v1 + x3)) (pc1 := 40) at_325_39 rfl rfl ?_
  refine aw_sipush (v := 240) (pc1 := 43) at_325_40 (by decide) rfl ?_
  by_cases c3 : (v1 + x3) ≤ 240
  · rw [if_pos c3] at hs1
    refine aw_icle_t at_325_43 c3 ?_
    refine aw_iconst (v := 0) (pc1 := 49) at_325_48 (by decide) rfl ?_
    refine aw_istore (lv1 := am_put1 _ 4 _) (pc1 := 51) at_325_49 rfl rfl ?_
    exact rg_325_51 N x0 x1 x3 0 h o hs1 _ (am_lk1 l0 rfl rfl) (am_lk1 l1 rfl rfl) (am_lk1 l3 rfl rfl) am_lk0 i0
  · rw [if_neg c3] at hs1
    refine aw_icle_f (pc1 := 46) at_325_43 c3 rfl ?_
    refine aw_iconst (v := (-1)) (pc1 := 47) at_325_46 (by decide) rfl ?_
    cases hs1
    exact aw_iret at_325_47 (by rw [rt_325]; rfl) rfl
def fg_325_7 (N : Nat) : Nat → Value → Int64 → Int32 → am_H → Option am_O
  | 0 => fun _ _ _ _ => none
  | K + 1 => fun x0 x1 x3 h => (if 8 ≤ x3 then (fg_325_34 N x0 x1 x3 h) else (if (lg_cmp ((x1 >>> (Int32.toInt64 (8 * x3) &&& 63)) &&& 255) 0) = 0 then (fg_325_34 N x0 x1 x3 h) else (fg_325_7 N K x0 x1 ((x3 + 1)) h)))
theorem rg_325_7 {X : am_X} {d : Nat} {N : Nat} : ∀ (K : Nat) (x0 : Value) (x1 : Int64) (x3 : Int32) (h : am_H) (o : am_O), fg_325_7 N K x0 x1 x3 h = some o → ∀ lv : am_LV, (lv.lookup 0 = some x0) → (lv.lookup 1 = some (.long x1)) → (lv.lookup 3 = some (.int x3)) → (am_isR x0 = true) → am_W X (d) 325 7 lv [] h (fun q => q = o) := by
  intro K
  induction K with
  | zero => intro x0 x1 x3 h o hs; cases hs
  | succ K ih =>
    intro x0 x1 x3 h o hs lv l0 l1 l3 i0
    unfold fg_325_7 at hs
    refine aw_iload_n (pc1 := 8) at_325_7 l3 rfl ?_
    refine aw_bipush (v := 8) (pc1 := 10) at_325_8 (by decide) rfl ?_
    by_cases c1 : 8 ≤ x3
    · rw [if_pos c1] at hs
      refine aw_icge_t at_325_10 c1 ?_
      exact rg_325_34 x0 x1 x3 h o l0 l1 l3 i0 hs
    · rw [if_neg c1] at hs
      refine aw_icge_f (pc1 := 13) at_325_10 c1 rfl ?_
      refine aw_lload_n (pc1 := 14) at_325_13 l1 rfl ?_
      refine aw_bipush (v := 8) (pc1 := 16) at_325_14 (by decide) rfl ?_
      refine aw_iload_n (pc1 := 17) at_325_16 l3 rfl ?_
      refine aw_imul (v := (8 * x3)) (pc1 := 18) at_325_17 rfl rfl ?_
      refine aw_lshr (v := (x1 >>> (Int32.toInt64 (8 * x3) &&& 63))) (pc1 := 19) at_325_18 rfl rfl ?_
      refine aw_ldc2 (v := 255) (pc1 := 22) at_325_19 rfl rfl ?_
      refine aw_land (v := ((x1 >>> (Int32.toInt64 (8 * x3) &&& 63)) &&& 255)) (pc1 := 23) at_325_22 rfl rfl ?_
      refine aw_lconst (v := 0) (pc1 := 24) at_325_23 (by decide) rfl ?_
      refine aw_lcmp (v := (lg_cmp ((x1 >>> (Int32.toInt64 (8 * x3) &&& 63)) &&& 255) 0)) (pc1 := 25) at_325_24 rfl rfl ?_
      by_cases c2 : (lg_cmp ((x1 >>> (Int32.toInt64 (8 * x3) &&& 63)) &&& 255) 0) = 0
      · rw [if_pos c2] at hs
        refine aw_ifeq_t at_325_25 c2 ?_
        exact rg_325_34 x0 x1 x3 h o l0 l1 l3 i0 hs
      · rw [if_neg c2] at hs
        refine aw_ifeq_f (pc1 := 28) at_325_25 c2 rfl ?_
        refine aw_iinc (v := (x3 + 1)) (c := 1) (lv1 := am_put1 _ 3 _) (pc1 := 31) at_325_28 l3 (by decide) rfl rfl rfl ?_
        refine aw_goto at_325_31 ?_
        exact ih x0 x1 ((x3 + 1)) h o hs _ (am_lk1 l0 rfl rfl) (am_lk1 l1 rfl rfl) am_lk0 i0
def fg_325_0 (N : Nat) (x0 : Value) (x1 : Int64) (h : am_H) : Option am_O := ((am_pP 3072 x0 (.int 0) h).bind fun h1 => (fg_325_7 N N x0 x1 0 h1))
theorem rg_325_0 {X : am_X} {d : Nat} {N : Nat} {lv : am_LV} (x0 : Value) (x1 : Int64) (h : am_H) (o : am_O) (l0 : lv.lookup 0 = some x0) (l1 : lv.lookup 1 = some (.long x1)) (i0 : am_isR x0 = true) (hs : fg_325_0 N x0 x1 h = some o) : am_W X (d) 325 0 lv [] h (fun q => q = o) := by
  unfold fg_325_0 at hs
  refine aw_vload_n (pc1 := 1) at_325_0 l0 i0 rfl ?_
  refine aw_iconst (v := 0) (pc1 := 2) at_325_1 (by decide) rfl ?_
  obtain ⟨h1, e2, hs1⟩ := am_bind hs
  clear hs
  refine aw_pP (pc1 := 5) at_325_2 e2 rfl ?_
  refine aw_iconst (v := 0) (pc1 := 6) at_325_5 (by decide) rfl ?_
  refine aw_istore_n (lv1 := am_put1 _ 3 _) (pc1 := 7) at_325_6 rfl rfl ?_
  exact rg_325_7 N x0 x1 0 h1 o hs1 _ (am_lk1 l0 rfl rfl) (am_lk1 l1 rfl rfl) am_lk0 i0
def fm_325 (N : Nat) (y0 : Value) (y1 : Int64) (h : am_H) : Option am_O := fg_325_0 N y0 y1 h
theorem rm_325 {X : am_X} {d : Nat} {N : Nat} (y0 : Value) (y1 : Int64) (h : am_H) (o : am_O) (i0 : am_isR y0 = true) (hs : fm_325 N y0 y1 h = some o) : am_W X (d) 325 0 (am_args 0 [y0, .long y1]) [] h (fun q => q = o) := by
  rw [am_args_R i0, am_args_L]
  exact rg_325_0 y0 y1 h o rfl rfl i0 hs
def fg_32_0 (x0 : Value) (x1 : Int32) (h : am_H) : Option am_O := ((am_vI (am_pG 2817 x0 h)).bind fun v1 => (if (v1 + x1) ≤ 600 then some (.inl (none, h)) else some (.inr (1, h ++ [am_dummy]))))
theorem rg_32_0 {X : am_X} {d : Nat} {lv : am_LV} (x0 : Value) (x1 : Int32) (h : am_H) (o : am_O) (l0 : lv.lookup 0 = some x0) (l1 : lv.lookup 1 = some (.int x1)) (i0 : am_isR x0 = true) (hs : fg_32_0 x0 x1 h = some o) : am_W X (d) 32 0 lv [] h (fun q => q = o) := by
  unfold fg_32_0 at hs
  refine aw_vload_n (pc1 := 1) at_32_0 l0 i0 rfl ?_
  obtain ⟨v1, e2, hs1⟩ := am_bind hs
  clear hs
  refine aw_pG (pc1 := 4) at_32_1 (am_vI_s e2) rfl ?_
  refine aw_iload_n (pc1 := 5) at_32_4 l1 rfl ?_
  refine aw_iadd (v := (v1 + x1)) (pc1 := 6) at_32_5 rfl rfl ?_
  refine aw_sipush (v := 600) (pc1 := 9) at_32_6 (by decide) rfl ?_
  by_cases c3 : (v1 + x1) ≤ 600
  · rw [if_pos c3] at hs1
    refine aw_icle_t at_32_9 c3 ?_
    cases hs1
    exact aw_vret at_32_23 rt_32 rfl
  · rw [if_neg c3] at hs1
    refine aw_icle_f (pc1 := 12) at_32_9 c3 rfl ?_
    cases hs1
    exact aw_throw at_32_12 rfl th_32_12 (am_hc am_cats_0 rfl) rfl
def fm_32 (y0 : Value) (y1 : Int32) (h : am_H) : Option am_O := fg_32_0 y0 y1 h
theorem rm_32 {X : am_X} {d : Nat} (y0 : Value) (y1 : Int32) (h : am_H) (o : am_O) (i0 : am_isR y0 = true) (hs : fm_32 y0 y1 h = some o) : am_W X (d) 32 0 (am_args 0 [y0, .int y1]) [] h (fun q => q = o) := by
  rw [am_args_R i0, am_args_I]
  exact rg_32_0 y0 y1 h o rfl rfl i0 hs
def fg_34_26 (s0 : Value) (s1 : Int32) (h : am_H) : Option am_O := ((am_pP 772 s0 (.int s1) h).bind fun h1 => some (.inl (none, h1)))
theorem rg_34_26 {X : am_X} {d : Nat} {lv : am_LV} (s0 : Value) (s1 : Int32) (h : am_H) (o : am_O) (j0 : am_isR s0 = true) (hs : fg_34_26 s0 s1 h = some o) : am_W X (d) 34 26 lv [(.int s1), s0] h (fun q => q = o) := by
  unfold fg_34_26 at hs
  obtain ⟨h1, e2, hs1⟩ := am_bind hs
  clear hs
  refine aw_pP (pc1 := 29) at_34_26 e2 rfl ?_
  cases hs1
  exact aw_vret at_34_29 rt_34 rfl
def fg_34_0 (x0 : Value) (x1 : Int32) (x2 : Int32) (h : am_H) : Option am_O := ((am_pP 769 x0 (.int x1) h).bind fun h1 => ((am_pP 770 x0 (.int x2) h1).bind fun h3 => ((am_pP 771 x0 (.int 0) h3).bind fun h5 => (if ¬ x1 = 2 then (fg_34_26 x0 2 h5) else (fg_34_26 x0 5 h5)))))
theorem rg_34_0 {X : am_X} {d : Nat} {lv : am_LV} (x0 : Value) (x1 : Int32) (x2 : Int32) (h : am_H) (o : am_O) (l0 : lv.lookup 0 = some x0) (l1 : lv.lookup 1 = some (.int x1)) (l2 : lv.lookup 2 = some (.int x2)) (i0 : am_isR x0 = true) (hs : fg_34_0 x0 x1 x2 h = some o) : am_W X (d) 34 0 lv [] h (fun q => q = o) := by
  unfold fg_34_0 at hs
  refine aw_vload_n (pc1 := 1) at_34_0 l0 i0 rfl ?_
  refine aw_iload_n (pc1 := 2) at_34_1 l1 rfl ?_
  obtain ⟨h1, e2, hs1⟩ := am_bind hs
  clear hs
  refine aw_pP (pc1 := 5) at_34_2 e2 rfl ?_
  refine aw_vload_n (pc1 := 6) at_34_5 l0 i0 rfl ?_
  refine aw_iload_n (pc1 := 7) at_34_6 l2 rfl ?_
  obtain ⟨h3, e4, hs2⟩ := am_bind hs1
  clear hs1
  refine aw_pP (pc1 := 10) at_34_7 e4 rfl ?_
  refine aw_vload_n (pc1 := 11) at_34_10 l0 i0 rfl ?_
  refine aw_iconst (v := 0) (pc1 := 12) at_34_11 (by decide) rfl ?_
  obtain ⟨h5, e6, hs3⟩ := am_bind hs2
  clear hs2
  refine aw_pP (pc1 := 15) at_34_12 e6 rfl ?_
  refine aw_vload_n (pc1 := 16) at_34_15 l0 i0 rfl ?_
  refine aw_iload_n (pc1 := 17) at_34_16 l1 rfl ?_
  refine aw_iconst (v := 2) (pc1 := 18) at_34_17 (by decide) rfl ?_
  by_cases c7 : ¬ x1 = 2
  · rw [if_pos c7] at hs3
    refine aw_icne_t at_34_18 c7 ?_
    refine aw_iconst (v := 2) (pc1 := 26) at_34_25 (by decide) rfl ?_
    exact rg_34_26 x0 2 h5 o  i0 hs3
  · rw [if_neg c7] at hs3
    refine aw_icne_f (pc1 := 21) at_34_18 c7 rfl ?_
    refine aw_iconst (v := 5) (pc1 := 22) at_34_21 (by decide) rfl ?_
    refine aw_goto at_34_22 ?_
    exact rg_34_26 x0 5 h5 o  i0 hs3
def fm_34 (y0 : Value) (y1 : Int32) (y2 : Int32) (h : am_H) : Option am_O := fg_34_0 y0 y1 y2 h
theorem rm_34 {X : am_X} {d : Nat} (y0 : Value) (y1 : Int32) (y2 : Int32) (h : am_H) (o : am_O) (i0 : am_isR y0 = true) (hs : fm_34 y0 y1 y2 h = some o) : am_W X (d) 34 0 (am_args 0 [y0, .int y1, .int y2]) [] h (fun q => q = o) := by
  rw [am_args_R i0, am_args_I, am_args_I]
  exact rg_34_0 y0 y1 y2 h o rfl rfl rfl i0 hs
def fg_36_24 (s0 : Int32) (h : am_H) : Option am_O := (if am_rfit (some FieldType.char) s0 then some (.inl (some (.int s0), h)) else none)
theorem rg_36_24 {X : am_X} {d : Nat} {lv : am_LV} (s0 : Int32) (h : am_H) (o : am_O) (hs : fg_36_24 s0 h = some o) : am_W X (d) 36 24 lv [(.int s0)] h (fun q => q = o) := by
  unfold fg_36_24 at hs
  obtain ⟨z1, hs1⟩ := am_ift hs
  clear hs
  cases hs1
  exact aw_iret at_36_24 (by rw [rt_36]; exact z1) rfl
def fg_36_0 (x0 : Value) (h : am_H) : Option am_O := ((am_vI (am_pG 2306 x0 h)).bind fun v1 => ((am_vI (am_pG 2305 x0 h)).bind fun v3 => (if v3 ≤ v1 then (fg_36_24 0 h) else ((am_vR (am_pG 2304 x0 h)).bind fun v6 => ((am_vI (am_pG 2306 x0 h)).bind fun v8 => ((am_pA 3 v6 v8 h).bind fun v10 => (fg_36_24 v10 h)))))))
theorem rg_36_0 {X : am_X} {d : Nat} {lv : am_LV} (x0 : Value) (h : am_H) (o : am_O) (l0 : lv.lookup 0 = some x0) (i0 : am_isR x0 = true) (hs : fg_36_0 x0 h = some o) : am_W X (d) 36 0 lv [] h (fun q => q = o) := by
  unfold fg_36_0 at hs
  refine aw_vload_n (pc1 := 1) at_36_0 l0 i0 rfl ?_
  obtain ⟨v1, e2, hs1⟩ := am_bind hs
  clear hs
  refine aw_pG (pc1 := 4) at_36_1 (am_vI_s e2) rfl ?_
  refine aw_vload_n (pc1 := 5) at_36_4 l0 i0 rfl ?_
  obtain ⟨v3, e4, hs2⟩ := am_bind hs1
  clear hs1
  refine aw_pG (pc1 := 8) at_36_5 (am_vI_s e4) rfl ?_
  by_cases c5 : v3 ≤ v1
  · rw [if_pos c5] at hs2
    refine aw_icge_t at_36_8 c5 ?_
    refine aw_iconst (v := 0) (pc1 := 24) at_36_23 (by decide) rfl ?_
    exact rg_36_24 0 h o   hs2
  · rw [if_neg c5] at hs2
    refine aw_icge_f (pc1 := 11) at_36_8 c5 rfl ?_
    refine aw_vload_n (pc1 := 12) at_36_11 l0 i0 rfl ?_
    obtain ⟨v6, e7, hs3⟩ := am_bind hs2
    clear hs2
    refine aw_pG (pc1 := 15) at_36_12 (am_vR_s e7).1 rfl ?_
    refine aw_vload_n (pc1 := 16) at_36_15 l0 i0 rfl ?_
    obtain ⟨v8, e9, hs4⟩ := am_bind hs3
    clear hs3
    refine aw_pG (pc1 := 19) at_36_16 (am_vI_s e9) rfl ?_
    obtain ⟨v10, e11, hs5⟩ := am_bind hs4
    clear hs4
    refine aw_pA (pc1 := 20) at_36_19 (Or.inr (Or.inr ⟨rfl, rfl⟩)) e11 rfl ?_
    refine aw_goto at_36_20 ?_
    exact rg_36_24 v10 h o   hs5
def fm_36 (y0 : Value) (h : am_H) : Option am_O := fg_36_0 y0 h
theorem rm_36 {X : am_X} {d : Nat} (y0 : Value) (h : am_H) (o : am_O) (i0 : am_isR y0 = true) (hs : fm_36 y0 h = some o) : am_W X (d) 36 0 (am_args 0 [y0]) [] h (fun q => q = o) := by
  rw [am_args_R i0]
  exact rg_36_0 y0 h o rfl i0 hs
def fg_39_15 (h : am_H) : Option am_O := some (.inl (none, h))
theorem rg_39_15 {X : am_X} {d : Nat} {lv : am_LV} (h : am_H) (o : am_O) (hs : fg_39_15 h = some o) : am_W X (d) 39 15 lv [] h (fun q => q = o) := by
  unfold fg_39_15 at hs
  cases hs
  exact aw_vret at_39_15 rt_39 rfl
def fg_39_0 (x0 : Value) (h : am_H) : Option am_O := ((am_vI (am_pG 2307 x0 h)).bind fun v1 => (if 0 ≤ v1 then (fg_39_15 h) else ((am_vI (am_pG 2306 x0 h)).bind fun v4 => ((am_pP 2307 x0 (.int v4) h).bind fun h6 => (fg_39_15 h6)))))
theorem rg_39_0 {X : am_X} {d : Nat} {lv : am_LV} (x0 : Value) (h : am_H) (o : am_O) (l0 : lv.lookup 0 = some x0) (i0 : am_isR x0 = true) (hs : fg_39_0 x0 h = some o) : am_W X (d) 39 0 lv [] h (fun q => q = o) := by
  unfold fg_39_0 at hs
  refine aw_vload_n (pc1 := 1) at_39_0 l0 i0 rfl ?_
  obtain ⟨v1, e2, hs1⟩ := am_bind hs
  clear hs
  refine aw_pG (pc1 := 4) at_39_1 (am_vI_s e2) rfl ?_
  by_cases c3 : 0 ≤ v1
  · rw [if_pos c3] at hs1
    refine aw_ifge_t at_39_4 c3 ?_
    exact rg_39_15 h o   hs1
  · rw [if_neg c3] at hs1
    refine aw_ifge_f (pc1 := 7) at_39_4 c3 rfl ?_
    refine aw_vload_n (pc1 := 8) at_39_7 l0 i0 rfl ?_
    refine aw_vload_n (pc1 := 9) at_39_8 l0 i0 rfl ?_
    obtain ⟨v4, e5, hs2⟩ := am_bind hs1
    clear hs1
    refine aw_pG (pc1 := 12) at_39_9 (am_vI_s e5) rfl ?_
    obtain ⟨h6, e7, hs3⟩ := am_bind hs2
    clear hs2
    refine aw_pP (pc1 := 15) at_39_12 e7 rfl ?_
    exact rg_39_15 h6 o   hs3
def fm_39 (y0 : Value) (h : am_H) : Option am_O := fg_39_0 y0 h
theorem rm_39 {X : am_X} {d : Nat} (y0 : Value) (h : am_H) (o : am_O) (i0 : am_isR y0 = true) (hs : fm_39 y0 h = some o) : am_W X (d) 39 0 (am_args 0 [y0]) [] h (fun q => q = o) := by
  rw [am_args_R i0]
  exact rg_39_0 y0 h o rfl i0 hs
def fg_41_29 (N : Nat) : Nat → Value → Int32 → Int32 → Int32 → Int32 → am_H → Option am_O
  | 0 => fun _ _ _ _ _ _ => none
  | K + 1 => fun x0 x1 x2 x3 x4 h => ((am_vI (am_pG 772 x0 h)).bind fun v1 => (if v1 ≤ x4 then ((am_vR (am_pG 768 x0 h)).bind fun v4 => ((am_pS 0 v4 x3 x1 h).bind fun h6 => ((am_vR (am_pG 768 x0 h6)).bind fun v8 => ((am_pS 0 v8 (x3 + 1) x2 h6).bind fun h10 => ((am_vI (am_pG 771 x0 h10)).bind fun v12 => ((am_pP 771 x0 (.int (v12 + 1)) h10).bind fun h14 => some (.inl (some (.int 1), h14)))))))) else ((am_vR (am_pG 768 x0 h)).bind fun v16 => ((am_pS 0 v16 (x3 + x4) 0 h).bind fun h18 => (fg_41_29 N K x0 x1 x2 x3 ((x4 + 1)) h18)))))
theorem rg_41_29 {X : am_X} {d : Nat} {N : Nat} : ∀ (K : Nat) (x0 : Value) (x1 : Int32) (x2 : Int32) (x3 : Int32) (x4 : Int32) (h : am_H) (o : am_O), fg_41_29 N K x0 x1 x2 x3 x4 h = some o → ∀ lv : am_LV, (lv.lookup 0 = some x0) → (lv.lookup 1 = some (.int x1)) → (lv.lookup 2 = some (.int x2)) → (lv.lookup 3 = some (.int x3)) → (lv.lookup 4 = some (.int x4)) → (am_isR x0 = true) → am_W X (d) 41 29 lv [] h (fun q => q = o) := by
  intro K
  induction K with
  | zero => intro x0 x1 x2 x3 x4 h o hs; cases hs
  | succ K ih =>
    intro x0 x1 x2 x3 x4 h o hs lv l0 l1 l2 l3 l4 i0
    unfold fg_41_29 at hs
    refine aw_iload (pc1 := 31) at_41_29 l4 rfl ?_
    refine aw_vload_n (pc1 := 32) at_41_31 l0 i0 rfl ?_
    obtain ⟨v1, e2, hs1⟩ := am_bind hs
    clear hs
    refine aw_pG (pc1 := 35) at_41_32 (am_vI_s e2) rfl ?_
    by_cases c3 : v1 ≤ x4
    · rw [if_pos c3] at hs1
      refine aw_icge_t at_41_35 c3 ?_
      refine aw_vload_n (pc1 := 55) at_41_54 l0 i0 rfl ?_
      obtain ⟨v4, e5, hs2⟩ := am_bind hs1
      clear hs1
      refine aw_pG (pc1 := 58) at_41_55 (am_vR_s e5).1 rfl ?_
      refine aw_iload_n (pc1 := 59) at_41_58 l3 rfl ?_
      refine aw_iload_n (pc1 := 60) at_41_59 l1 rfl ?_
      obtain ⟨h6, e7, hs3⟩ := am_bind hs2
      clear hs2
      refine aw_pS (pc1 := 61) at_41_60 (Or.inl ⟨rfl, rfl⟩) e7 rfl ?_
      refine aw_vload_n (pc1 := 62) at_41_61 l0 i0 rfl ?_
      obtain ⟨v8, e9, hs4⟩ := am_bind hs3
      clear hs3
      refine aw_pG (pc1 := 65) at_41_62 (am_vR_s e9).1 rfl ?_
      refine aw_iload_n (pc1 := 66) at_41_65 l3 rfl ?_
      refine aw_iconst (v := 1) (pc1 := 67) at_41_66 (by decide) rfl ?_
      refine aw_iadd (v := (x3 + 1)) (pc1 := 68) at_41_67 rfl rfl ?_
      refine aw_iload_n (pc1 := 69) at_41_68 l2 rfl ?_
      obtain ⟨h10, e11, hs5⟩ := am_bind hs4
      clear hs4
      refine aw_pS (pc1 := 70) at_41_69 (Or.inl ⟨rfl, rfl⟩) e11 rfl ?_
      refine aw_vload_n (pc1 := 71) at_41_70 l0 i0 rfl ?_
      refine aw_vdup (pc1 := 72) at_41_71 i0 rfl ?_
      obtain ⟨v12, e13, hs6⟩ := am_bind hs5
      clear hs5
      refine aw_pG (pc1 := 75) at_41_72 (am_vI_s e13) rfl ?_
      refine aw_iconst (v := 1) (pc1 := 76) at_41_75 (by decide) rfl ?_
      refine aw_iadd (v := (v12 + 1)) (pc1 := 77) at_41_76 rfl rfl ?_
      obtain ⟨h14, e15, hs7⟩ := am_bind hs6
      clear hs6
      refine aw_pP (pc1 := 80) at_41_77 e15 rfl ?_
      refine aw_iconst (v := 1) (pc1 := 81) at_41_80 (by decide) rfl ?_
      cases hs7
      exact aw_iret at_41_81 (by rw [rt_41]; decide) rfl
    · rw [if_neg c3] at hs1
      refine aw_icge_f (pc1 := 38) at_41_35 c3 rfl ?_
      refine aw_vload_n (pc1 := 39) at_41_38 l0 i0 rfl ?_
      obtain ⟨v16, e17, hs8⟩ := am_bind hs1
      clear hs1
      refine aw_pG (pc1 := 42) at_41_39 (am_vR_s e17).1 rfl ?_
      refine aw_iload_n (pc1 := 43) at_41_42 l3 rfl ?_
      refine aw_iload (pc1 := 45) at_41_43 l4 rfl ?_
      refine aw_iadd (v := (x3 + x4)) (pc1 := 46) at_41_45 rfl rfl ?_
      refine aw_iconst (v := 0) (pc1 := 47) at_41_46 (by decide) rfl ?_
      obtain ⟨h18, e19, hs9⟩ := am_bind hs8
      clear hs8
      refine aw_pS (pc1 := 48) at_41_47 (Or.inl ⟨rfl, rfl⟩) e19 rfl ?_
      refine aw_iinc (v := (x4 + 1)) (c := 1) (lv1 := am_put1 _ 4 _) (pc1 := 51) at_41_48 l4 (by decide) rfl rfl rfl ?_
      refine aw_goto at_41_51 ?_
      exact ih x0 x1 x2 x3 ((x4 + 1)) h18 o hs9 _ (am_lk1 l0 rfl rfl) (am_lk1 l1 rfl rfl) (am_lk1 l2 rfl rfl) (am_lk1 l3 rfl rfl) am_lk0 i0
def fg_41_0 (N : Nat) (x0 : Value) (x1 : Int32) (x2 : Int32) (h : am_H) : Option am_O := ((am_vI (am_pG 771 x0 h)).bind fun v1 => ((am_vI (am_pG 772 x0 h)).bind fun v3 => ((am_vI (am_pG 772 x0 h)).bind fun v5 => ((am_vR (am_pG 768 x0 h)).bind fun v7 => ((am_pLen v7 h).bind fun v9 => (if ((v1 * v3) + v5) ≤ v9 then (fg_41_29 N N x0 x1 x2 ((v1 * v3)) 2 h) else some (.inl (some (.int 0), h))))))))
theorem rg_41_0 {X : am_X} {d : Nat} {N : Nat} {lv : am_LV} (x0 : Value) (x1 : Int32) (x2 : Int32) (h : am_H) (o : am_O) (l0 : lv.lookup 0 = some x0) (l1 : lv.lookup 1 = some (.int x1)) (l2 : lv.lookup 2 = some (.int x2)) (i0 : am_isR x0 = true) (hs : fg_41_0 N x0 x1 x2 h = some o) : am_W X (d) 41 0 lv [] h (fun q => q = o) := by
  unfold fg_41_0 at hs
  refine aw_vload_n (pc1 := 1) at_41_0 l0 i0 rfl ?_
  obtain ⟨v1, e2, hs1⟩ := am_bind hs
  clear hs
  refine aw_pG (pc1 := 4) at_41_1 (am_vI_s e2) rfl ?_
  refine aw_vload_n (pc1 := 5) at_41_4 l0 i0 rfl ?_
  obtain ⟨v3, e4, hs2⟩ := am_bind hs1
  clear hs1
  refine aw_pG (pc1 := 8) at_41_5 (am_vI_s e4) rfl ?_
  refine aw_imul (v := (v1 * v3)) (pc1 := 9) at_41_8 rfl rfl ?_
  refine aw_istore_n (lv1 := am_put1 _ 3 _) (pc1 := 10) at_41_9 rfl rfl ?_
  refine aw_iload_n (pc1 := 11) at_41_10 am_lk0 rfl ?_
  refine aw_vload_n (pc1 := 12) at_41_11 (am_lk1 l0 rfl rfl) i0 rfl ?_
  obtain ⟨v5, e6, hs3⟩ := am_bind hs2
  clear hs2
  refine aw_pG (pc1 := 15) at_41_12 (am_vI_s e6) rfl ?_
  refine aw_iadd (v := ((v1 * v3) + v5)) (pc1 := 16) at_41_15 rfl rfl ?_
  refine aw_vload_n (pc1 := 17) at_41_16 (am_lk1 l0 rfl rfl) i0 rfl ?_
  obtain ⟨v7, e8, hs4⟩ := am_bind hs3
  clear hs3
  refine aw_pG (pc1 := 20) at_41_17 (am_vR_s e8).1 rfl ?_
  obtain ⟨v9, e10, hs5⟩ := am_bind hs4
  clear hs4
  refine aw_pLen (pc1 := 21) at_41_20 e10 rfl ?_
  by_cases c11 : ((v1 * v3) + v5) ≤ v9
  · rw [if_pos c11] at hs5
    refine aw_icle_t at_41_21 c11 ?_
    refine aw_iconst (v := 2) (pc1 := 27) at_41_26 (by decide) rfl ?_
    refine aw_istore (lv1 := am_put1 _ 4 _) (pc1 := 29) at_41_27 rfl rfl ?_
    exact rg_41_29 N x0 x1 x2 ((v1 * v3)) 2 h o hs5 _ (am_lk1 (am_lk1 l0 rfl rfl) rfl rfl) (am_lk1 (am_lk1 l1 rfl rfl) rfl rfl) (am_lk1 (am_lk1 l2 rfl rfl) rfl rfl) (am_lk1 am_lk0 rfl rfl) am_lk0 i0
  · rw [if_neg c11] at hs5
    refine aw_icle_f (pc1 := 24) at_41_21 c11 rfl ?_
    refine aw_iconst (v := 0) (pc1 := 25) at_41_24 (by decide) rfl ?_
    cases hs5
    exact aw_iret at_41_25 (by rw [rt_41]; decide) rfl
def fm_41 (N : Nat) (y0 : Value) (y1 : Int32) (y2 : Int32) (h : am_H) : Option am_O := fg_41_0 N y0 y1 y2 h
theorem rm_41 {X : am_X} {d : Nat} {N : Nat} (y0 : Value) (y1 : Int32) (y2 : Int32) (h : am_H) (o : am_O) (i0 : am_isR y0 = true) (hs : fm_41 N y0 y1 y2 h = some o) : am_W X (d) 41 0 (am_args 0 [y0, .int y1, .int y2]) [] h (fun q => q = o) := by
  rw [am_args_R i0, am_args_I, am_args_I]
  exact rg_41_0 y0 y1 y2 h o rfl rfl rfl i0 hs
def fg_42_27 (x0 : Value) (h : am_H) : Option am_O := (if am_pOk 9 x0 h then am_cV true (fm_39 x0 h) (fun h3 => some (.inl (some (.int 0), h3))) else none)
theorem rg_42_27 {X : am_X} {d : Nat} {lv : am_LV} (x0 : Value) (h : am_H) (o : am_O) (l0 : lv.lookup 0 = some x0) (i0 : am_isR x0 = true) (hs : fg_42_27 x0 h = some o) : am_W X (d + 1) 42 27 lv [] h (fun q => q = o) := by
  unfold fg_42_27 at hs
  refine aw_vload_n (pc1 := 28) at_42_27 l0 i0 rfl ?_
  obtain ⟨z1, hs1⟩ := am_ift hs
  clear hs
  refine aw_call (F := fm_39 x0 h) (t := true) (na := 1) (kd := 1) (as := [x0]) at_42_28 (am_k3v kb_39) mn_39 mk_39 rfl rfl (am_ok_v mi_39 (am_hl rfl (am_ccR i0 am_cats_0) rfl) z1) (am_hc am_cats_0 rfl) (fun _ => ⟨rfl, hh_42⟩) (fun o1 hz9 => rm_39 x0 h o1 i0 hz9) ?_
  rcases am_cV_s hs1 with ⟨h3, f4, hs2⟩ | hs2
  · clear hs1
    refine Or.inl ⟨_, _, f4, ?_⟩
    show am_W X _ 42 31 _ [] h3 _
    refine aw_iconst (v := 0) (pc1 := 32) at_42_31 (by decide) rfl ?_
    cases hs2
    exact aw_iret at_42_32 (by rw [rt_42]; decide) rfl
  · clear hs1
    exact Or.inr hs2
def fg_42_0 (x0 : Value) (x1 : Int32) (h : am_H) : Option am_O := ((am_vI (am_pG 2307 x0 h)).bind fun v1 => (if 0 ≤ v1 then (fg_42_27 x0 h) else (if am_pOk 9 x0 h then am_cI true (fm_36 x0 h) (fun v5 h6 => (if ¬ v5 = x1 then (fg_42_27 x0 h6) else ((am_vI (am_pG 2306 x0 h6)).bind fun v9 => ((am_pP 2306 x0 (.int (v9 + 1)) h6).bind fun h11 => some (.inl (some (.int 1), h11)))))) else none)))
theorem rg_42_0 {X : am_X} {d : Nat} {lv : am_LV} (x0 : Value) (x1 : Int32) (h : am_H) (o : am_O) (l0 : lv.lookup 0 = some x0) (l1 : lv.lookup 1 = some (.int x1)) (i0 : am_isR x0 = true) (hs : fg_42_0 x0 x1 h = some o) : am_W X (d + 1) 42 0 lv [] h (fun q => q = o) := by
  unfold fg_42_0 at hs
  refine aw_vload_n (pc1 := 1) at_42_0 l0 i0 rfl ?_
  obtain ⟨v1, e2, hs1⟩ := am_bind hs
  clear hs
  refine aw_pG (pc1 := 4) at_42_1 (am_vI_s e2) rfl ?_
  by_cases c3 : 0 ≤ v1
  · rw [if_pos c3] at hs1
    refine aw_ifge_t at_42_4 c3 ?_
    exact rg_42_27 x0 h o l0 i0 hs1
  · rw [if_neg c3] at hs1
    refine aw_ifge_f (pc1 := 7) at_42_4 c3 rfl ?_
    refine aw_vload_n (pc1 := 8) at_42_7 l0 i0 rfl ?_
    obtain ⟨z4, hs2⟩ := am_ift hs1
    clear hs1
    refine aw_call (F := fm_36 x0 h) (t := true) (na := 1) (kd := 1) (as := [x0]) at_42_8 (am_k3v kb_36) mn_36 mk_36 rfl rfl (am_ok_v mi_36 (am_hl rfl (am_ccR i0 am_cats_0) rfl) z4) (am_hc am_cats_0 rfl) (fun _ => ⟨rfl, hh_42⟩) (fun o1 hz9 => rm_36 x0 h o1 i0 hz9) ?_
    rcases am_cI_s hs2 with ⟨v5, h6, f7, hs3⟩ | hs3
    · clear hs2
      refine Or.inl ⟨_, _, f7, ?_⟩
      show am_W X _ 42 11 _ [(.int v5)] h6 _
      refine aw_iload_n (pc1 := 12) at_42_11 l1 rfl ?_
      by_cases c8 : ¬ v5 = x1
      · rw [if_pos c8] at hs3
        refine aw_icne_t at_42_12 c8 ?_
        exact rg_42_27 x0 h6 o l0 i0 hs3
      · rw [if_neg c8] at hs3
        refine aw_icne_f (pc1 := 15) at_42_12 c8 rfl ?_
        refine aw_vload_n (pc1 := 16) at_42_15 l0 i0 rfl ?_
        refine aw_vdup (pc1 := 17) at_42_16 i0 rfl ?_
        obtain ⟨v9, e10, hs4⟩ := am_bind hs3
        clear hs3
        refine aw_pG (pc1 := 20) at_42_17 (am_vI_s e10) rfl ?_
        refine aw_iconst (v := 1) (pc1 := 21) at_42_20 (by decide) rfl ?_
        refine aw_iadd (v := (v9 + 1)) (pc1 := 22) at_42_21 rfl rfl ?_
        obtain ⟨h11, e12, hs5⟩ := am_bind hs4
        clear hs4
        refine aw_pP (pc1 := 25) at_42_22 e12 rfl ?_
        refine aw_iconst (v := 1) (pc1 := 26) at_42_25 (by decide) rfl ?_
        cases hs5
        exact aw_iret at_42_26 (by rw [rt_42]; decide) rfl
    · clear hs2
      exact Or.inr hs3
def fm_42 (y0 : Value) (y1 : Int32) (h : am_H) : Option am_O := fg_42_0 y0 y1 h
theorem rm_42 {X : am_X} {d : Nat} (y0 : Value) (y1 : Int32) (h : am_H) (o : am_O) (i0 : am_isR y0 = true) (hs : fm_42 y0 y1 h = some o) : am_W X (d + 1) 42 0 (am_args 0 [y0, .int y1]) [] h (fun q => q = o) := by
  rw [am_args_R i0, am_args_I]
  exact rg_42_0 y0 y1 h o rfl rfl i0 hs
def fg_45_17 (s0 : Int32) (h : am_H) : Option am_O := (if am_rfit (some FieldType.boolean) s0 then some (.inl (some (.int s0), h)) else none)
theorem rg_45_17 {X : am_X} {d : Nat} {lv : am_LV} (s0 : Int32) (h : am_H) (o : am_O) (hs : fg_45_17 s0 h = some o) : am_W X (d) 45 17 lv [(.int s0)] h (fun q => q = o) := by
  unfold fg_45_17 at hs
  obtain ⟨z1, hs1⟩ := am_ift hs
  clear hs
  cases hs1
  exact aw_iret at_45_17 (by rw [rt_45]; exact z1) rfl
def fg_45_16 (h : am_H) : Option am_O := (fg_45_17 0 h)
theorem rg_45_16 {X : am_X} {d : Nat} {lv : am_LV} (h : am_H) (o : am_O) (hs : fg_45_16 h = some o) : am_W X (d) 45 16 lv [] h (fun q => q = o) := by
  unfold fg_45_16 at hs
  refine aw_iconst (v := 0) (pc1 := 17) at_45_16 (by decide) rfl ?_
  exact rg_45_17 0 h o   hs
def fg_45_0 (x0 : Int32) (h : am_H) : Option am_O := (if x0 < 48 then (fg_45_16 h) else (if 57 < x0 then (fg_45_16 h) else (fg_45_17 1 h)))
theorem rg_45_0 {X : am_X} {d : Nat} {lv : am_LV} (x0 : Int32) (h : am_H) (o : am_O) (l0 : lv.lookup 0 = some (.int x0)) (hs : fg_45_0 x0 h = some o) : am_W X (d) 45 0 lv [] h (fun q => q = o) := by
  unfold fg_45_0 at hs
  refine aw_iload_n (pc1 := 1) at_45_0 l0 rfl ?_
  refine aw_bipush (v := 48) (pc1 := 3) at_45_1 (by decide) rfl ?_
  by_cases c1 : x0 < 48
  · rw [if_pos c1] at hs
    refine aw_iclt_t at_45_3 c1 ?_
    exact rg_45_16 h o   hs
  · rw [if_neg c1] at hs
    refine aw_iclt_f (pc1 := 6) at_45_3 c1 rfl ?_
    refine aw_iload_n (pc1 := 7) at_45_6 l0 rfl ?_
    refine aw_bipush (v := 57) (pc1 := 9) at_45_7 (by decide) rfl ?_
    by_cases c2 : 57 < x0
    · rw [if_pos c2] at hs
      refine aw_icgt_t at_45_9 c2 ?_
      exact rg_45_16 h o   hs
    · rw [if_neg c2] at hs
      refine aw_icgt_f (pc1 := 12) at_45_9 c2 rfl ?_
      refine aw_iconst (v := 1) (pc1 := 13) at_45_12 (by decide) rfl ?_
      refine aw_goto at_45_13 ?_
      exact rg_45_17 1 h o   hs
def fm_45 (y0 : Int32) (h : am_H) : Option am_O := fg_45_0 y0 h
theorem rm_45 {X : am_X} {d : Nat} (y0 : Int32) (h : am_H) (o : am_O) (hs : fm_45 y0 h = some o) : am_W X (d) 45 0 (am_args 0 [.int y0]) [] h (fun q => q = o) := by
  rw [am_args_I]
  exact rg_45_0 y0 h o rfl  hs
def fg_44_76 (N : Nat) (x1 : Int32) (h : am_H) : Option am_O := some (.inl (some (.int x1), h))
theorem rg_44_76 {X : am_X} {d : Nat} {N : Nat} {lv : am_LV} (x1 : Int32) (h : am_H) (o : am_O) (l1 : lv.lookup 1 = some (.int x1)) (hs : fg_44_76 N x1 h = some o) : am_W X (d + 1) 44 76 lv [] h (fun q => q = o) := by
  unfold fg_44_76 at hs
  refine aw_iload_n (pc1 := 77) at_44_76 l1 rfl ?_
  cases hs
  exact aw_iret at_44_77 (by rw [rt_44]; rfl) rfl
def fg_44_25 (N : Nat) : Nat → Value → Int32 → Int32 → am_H → Option am_O
  | 0 => fun _ _ _ _ => none
  | K + 1 => fun x0 x1 x2 h => (if 2 ≤ x2 then (fg_44_76 N x1 h) else ((am_vI (am_pG 2307 x0 h)).bind fun v2 => (if 0 ≤ v2 then (fg_44_76 N x1 h) else (if am_pOk 9 x0 h then am_cI true (fm_36 x0 h) (fun v6 h7 => am_cI false (fm_45 v6 h7) (fun v9 h10 => (if v9 = 0 then (fg_44_76 N x1 h10) else (if am_pOk 9 x0 h10 then am_cI true (fm_36 x0 h10) (fun v14 h15 => ((am_vI (am_pG 2306 x0 h15)).bind fun v17 => ((am_pP 2306 x0 (.int (v17 + 1)) h15).bind fun h19 => (fg_44_25 N K x0 ((((10 * x1) + v14) - 48)) ((x2 + 1)) h19)))) else none)))) else none))))
theorem rg_44_25 {X : am_X} {d : Nat} {N : Nat} : ∀ (K : Nat) (x0 : Value) (x1 : Int32) (x2 : Int32) (h : am_H) (o : am_O), fg_44_25 N K x0 x1 x2 h = some o → ∀ lv : am_LV, (lv.lookup 0 = some x0) → (lv.lookup 1 = some (.int x1)) → (lv.lookup 2 = some (.int x2)) → (am_isR x0 = true) → am_W X (d + 1) 44 25 lv [] h (fun q => q = o) := by
  intro K
  induction K with
  | zero => intro x0 x1 x2 h o hs; cases hs
  | succ K ih =>
    intro x0 x1 x2 h o hs lv l0 l1 l2 i0
    unfold fg_44_25 at hs
    refine aw_iload_n (pc1 := 26) at_44_25 l2 rfl ?_
    refine aw_iconst (v := 2) (pc1 := 27) at_44_26 (by decide) rfl ?_
    by_cases c1 : 2 ≤ x2
    · rw [if_pos c1] at hs
      refine aw_icge_t at_44_27 c1 ?_
      exact rg_44_76 x1 h o l1  hs
    · rw [if_neg c1] at hs
      refine aw_icge_f (pc1 := 30) at_44_27 c1 rfl ?_
      refine aw_vload_n (pc1 := 31) at_44_30 l0 i0 rfl ?_
      obtain ⟨v2, e3, hs1⟩ := am_bind hs
      clear hs
      refine aw_pG (pc1 := 34) at_44_31 (am_vI_s e3) rfl ?_
      by_cases c4 : 0 ≤ v2
      · rw [if_pos c4] at hs1
        refine aw_ifge_t at_44_34 c4 ?_
        exact rg_44_76 x1 h o l1  hs1
      · rw [if_neg c4] at hs1
        refine aw_ifge_f (pc1 := 37) at_44_34 c4 rfl ?_
        refine aw_vload_n (pc1 := 38) at_44_37 l0 i0 rfl ?_
        obtain ⟨z5, hs2⟩ := am_ift hs1
        clear hs1
        refine aw_call (F := fm_36 x0 h) (t := true) (na := 1) (kd := 1) (as := [x0]) at_44_38 (am_k3v kb_36) mn_36 mk_36 rfl rfl (am_ok_v mi_36 (am_hl rfl (am_ccR i0 am_cats_0) rfl) z5) (am_hc am_cats_0 rfl) (fun _ => ⟨rfl, hh_44⟩) (fun o1 hz9 => rm_36 x0 h o1 i0 hz9) ?_
        rcases am_cI_s hs2 with ⟨v6, h7, f8, hs3⟩ | hs3
        · clear hs2
          refine Or.inl ⟨_, _, f8, ?_⟩
          show am_W X _ 44 41 _ [(.int v6)] h7 _
          refine aw_call (F := fm_45 v6 h7) (t := false) (na := 1) (kd := 0) (as := [(.int v6)]) at_44_41 (am_k3s kb_45) mn_45 mk_45 rfl rfl (am_ok_s mi_45 (am_hl rfl (am_ccI am_cats_0) rfl)) (am_hc am_cats_0 rfl) (fun hz9 => by cases hz9) (fun o1 hz9 => rm_45 v6 h7 o1  hz9) ?_
          rcases am_cI_s hs3 with ⟨v9, h10, f11, hs4⟩ | hs4
          · clear hs3
            refine Or.inl ⟨_, _, f11, ?_⟩
            show am_W X _ 44 44 _ [(.int v9)] h10 _
            by_cases c12 : v9 = 0
            · rw [if_pos c12] at hs4
              refine aw_ifeq_t at_44_44 c12 ?_
              exact rg_44_76 x1 h10 o l1  hs4
            · rw [if_neg c12] at hs4
              refine aw_ifeq_f (pc1 := 47) at_44_44 c12 rfl ?_
              refine aw_bipush (v := 10) (pc1 := 49) at_44_47 (by decide) rfl ?_
              refine aw_iload_n (pc1 := 50) at_44_49 l1 rfl ?_
              refine aw_imul (v := (10 * x1)) (pc1 := 51) at_44_50 rfl rfl ?_
              refine aw_vload_n (pc1 := 52) at_44_51 l0 i0 rfl ?_
              obtain ⟨z13, hs5⟩ := am_ift hs4
              clear hs4
              refine aw_call (F := fm_36 x0 h10) (t := true) (na := 1) (kd := 1) (as := [x0]) at_44_52 (am_k3v kb_36) mn_36 mk_36 rfl rfl (am_ok_v mi_36 (am_hl rfl (am_ccR i0 am_cats_0) rfl) z13) (am_hc (am_ccI am_cats_0) rfl) (fun _ => ⟨rfl, hh_44⟩) (fun o1 hz9 => rm_36 x0 h10 o1 i0 hz9) ?_
              rcases am_cI_s hs5 with ⟨v14, h15, f16, hs6⟩ | hs6
              · clear hs5
                refine Or.inl ⟨_, _, f16, ?_⟩
                show am_W X _ 44 55 _ [(.int v14), (.int (10 * x1))] h15 _
                refine aw_iadd (v := ((10 * x1) + v14)) (pc1 := 56) at_44_55 rfl rfl ?_
                refine aw_bipush (v := 48) (pc1 := 58) at_44_56 (by decide) rfl ?_
                refine aw_isub (v := (((10 * x1) + v14) - 48)) (pc1 := 59) at_44_58 rfl rfl ?_
                refine aw_istore_n (lv1 := am_put1 _ 1 _) (pc1 := 60) at_44_59 rfl rfl ?_
                refine aw_vload_n (pc1 := 61) at_44_60 (am_lk1 l0 rfl (by rw [am_isRc i0]; rfl)) i0 rfl ?_
                refine aw_vdup (pc1 := 62) at_44_61 i0 rfl ?_
                obtain ⟨v17, e18, hs7⟩ := am_bind hs6
                clear hs6
                refine aw_pG (pc1 := 65) at_44_62 (am_vI_s e18) rfl ?_
                refine aw_iconst (v := 1) (pc1 := 66) at_44_65 (by decide) rfl ?_
                refine aw_iadd (v := (v17 + 1)) (pc1 := 67) at_44_66 rfl rfl ?_
                obtain ⟨h19, e20, hs8⟩ := am_bind hs7
                clear hs7
                refine aw_pP (pc1 := 70) at_44_67 e20 rfl ?_
                refine aw_iinc (v := (x2 + 1)) (c := 1) (lv1 := am_put1 _ 2 _) (pc1 := 73) at_44_70 (am_lk1 l2 rfl rfl) (by decide) rfl rfl rfl ?_
                refine aw_goto at_44_73 ?_
                exact ih x0 ((((10 * x1) + v14) - 48)) ((x2 + 1)) h19 o hs8 _ (am_lk1 (am_lk1 l0 rfl (by rw [am_isRc i0]; rfl)) rfl rfl) (am_lk1 am_lk0 rfl rfl) am_lk0 i0
              · clear hs5
                exact Or.inr hs6
          · clear hs3
            exact Or.inr hs4
        · clear hs2
          exact Or.inr hs3
def fg_44_23 (N : Nat) (x0 : Value) (x1 : Int32) (h : am_H) : Option am_O := (fg_44_25 N N x0 x1 0 h)
theorem rg_44_23 {X : am_X} {d : Nat} {N : Nat} {lv : am_LV} (x0 : Value) (x1 : Int32) (h : am_H) (o : am_O) (l0 : lv.lookup 0 = some x0) (l1 : lv.lookup 1 = some (.int x1)) (i0 : am_isR x0 = true) (hs : fg_44_23 N x0 x1 h = some o) : am_W X (d + 1) 44 23 lv [] h (fun q => q = o) := by
  unfold fg_44_23 at hs
  refine aw_iconst (v := 0) (pc1 := 24) at_44_23 (by decide) rfl ?_
  refine aw_istore_n (lv1 := am_put1 _ 2 _) (pc1 := 25) at_44_24 rfl rfl ?_
  exact rg_44_25 N x0 x1 0 h o hs _ (am_lk1 l0 rfl rfl) (am_lk1 l1 rfl rfl) am_lk0 i0
def fg_44_19 (N : Nat) (x0 : Value) (x1 : Int32) (h : am_H) : Option am_O := (if am_pOk 9 x0 h then am_cV true (fm_39 x0 h) (fun h3 => (fg_44_23 N x0 x1 h3)) else none)
theorem rg_44_19 {X : am_X} {d : Nat} {N : Nat} {lv : am_LV} (x0 : Value) (x1 : Int32) (h : am_H) (o : am_O) (l0 : lv.lookup 0 = some x0) (l1 : lv.lookup 1 = some (.int x1)) (i0 : am_isR x0 = true) (hs : fg_44_19 N x0 x1 h = some o) : am_W X (d + 1) 44 19 lv [] h (fun q => q = o) := by
  unfold fg_44_19 at hs
  refine aw_vload_n (pc1 := 20) at_44_19 l0 i0 rfl ?_
  obtain ⟨z1, hs1⟩ := am_ift hs
  clear hs
  refine aw_call (F := fm_39 x0 h) (t := true) (na := 1) (kd := 1) (as := [x0]) at_44_20 (am_k3v kb_39) mn_39 mk_39 rfl rfl (am_ok_v mi_39 (am_hl rfl (am_ccR i0 am_cats_0) rfl) z1) (am_hc am_cats_0 rfl) (fun _ => ⟨rfl, hh_44⟩) (fun o1 hz9 => rm_39 x0 h o1 i0 hz9) ?_
  rcases am_cV_s hs1 with ⟨h3, f4, hs2⟩ | hs2
  · clear hs1
    refine Or.inl ⟨_, _, f4, ?_⟩
    show am_W X _ 44 23 _ [] h3 _
    exact rg_44_23 x0 x1 h3 o l0 l1 i0 hs2
  · clear hs1
    exact Or.inr hs2
def fg_44_0 (N : Nat) (x0 : Value) (h : am_H) : Option am_O := ((am_vI (am_pG 2307 x0 h)).bind fun v1 => (if 0 ≤ v1 then (fg_44_19 N x0 0 h) else (if am_pOk 9 x0 h then am_cI true (fm_36 x0 h) (fun v5 h6 => am_cI false (fm_45 v5 h6) (fun v8 h9 => (if ¬ v8 = 0 then (fg_44_23 N x0 0 h9) else (fg_44_19 N x0 0 h9)))) else none)))
theorem rg_44_0 {X : am_X} {d : Nat} {N : Nat} {lv : am_LV} (x0 : Value) (h : am_H) (o : am_O) (l0 : lv.lookup 0 = some x0) (i0 : am_isR x0 = true) (hs : fg_44_0 N x0 h = some o) : am_W X (d + 1) 44 0 lv [] h (fun q => q = o) := by
  unfold fg_44_0 at hs
  refine aw_iconst (v := 0) (pc1 := 1) at_44_0 (by decide) rfl ?_
  refine aw_istore_n (lv1 := am_put1 _ 1 _) (pc1 := 2) at_44_1 rfl rfl ?_
  refine aw_vload_n (pc1 := 3) at_44_2 (am_lk1 l0 rfl (by rw [am_isRc i0]; rfl)) i0 rfl ?_
  obtain ⟨v1, e2, hs1⟩ := am_bind hs
  clear hs
  refine aw_pG (pc1 := 6) at_44_3 (am_vI_s e2) rfl ?_
  by_cases c3 : 0 ≤ v1
  · rw [if_pos c3] at hs1
    refine aw_ifge_t at_44_6 c3 ?_
    exact rg_44_19 x0 0 h o (am_lk1 l0 rfl (by rw [am_isRc i0]; rfl)) am_lk0 i0 hs1
  · rw [if_neg c3] at hs1
    refine aw_ifge_f (pc1 := 9) at_44_6 c3 rfl ?_
    refine aw_vload_n (pc1 := 10) at_44_9 (am_lk1 l0 rfl (by rw [am_isRc i0]; rfl)) i0 rfl ?_
    obtain ⟨z4, hs2⟩ := am_ift hs1
    clear hs1
    refine aw_call (F := fm_36 x0 h) (t := true) (na := 1) (kd := 1) (as := [x0]) at_44_10 (am_k3v kb_36) mn_36 mk_36 rfl rfl (am_ok_v mi_36 (am_hl rfl (am_ccR i0 am_cats_0) rfl) z4) (am_hc am_cats_0 rfl) (fun _ => ⟨rfl, hh_44⟩) (fun o1 hz9 => rm_36 x0 h o1 i0 hz9) ?_
    rcases am_cI_s hs2 with ⟨v5, h6, f7, hs3⟩ | hs3
    · clear hs2
      refine Or.inl ⟨_, _, f7, ?_⟩
      show am_W X _ 44 13 _ [(.int v5)] h6 _
      refine aw_call (F := fm_45 v5 h6) (t := false) (na := 1) (kd := 0) (as := [(.int v5)]) at_44_13 (am_k3s kb_45) mn_45 mk_45 rfl rfl (am_ok_s mi_45 (am_hl rfl (am_ccI am_cats_0) rfl)) (am_hc am_cats_0 rfl) (fun hz9 => by cases hz9) (fun o1 hz9 => rm_45 v5 h6 o1  hz9) ?_
      rcases am_cI_s hs3 with ⟨v8, h9, f10, hs4⟩ | hs4
      · clear hs3
        refine Or.inl ⟨_, _, f10, ?_⟩
        show am_W X _ 44 16 _ [(.int v8)] h9 _
        by_cases c11 : ¬ v8 = 0
        · rw [if_pos c11] at hs4
          refine aw_ifne_t at_44_16 c11 ?_
          exact rg_44_23 x0 0 h9 o (am_lk1 l0 rfl (by rw [am_isRc i0]; rfl)) am_lk0 i0 hs4
        · rw [if_neg c11] at hs4
          refine aw_ifne_f (pc1 := 19) at_44_16 c11 rfl ?_
          exact rg_44_19 x0 0 h9 o (am_lk1 l0 rfl (by rw [am_isRc i0]; rfl)) am_lk0 i0 hs4
      · clear hs3
        exact Or.inr hs4
    · clear hs2
      exact Or.inr hs3
def fm_44 (N : Nat) (y0 : Value) (h : am_H) : Option am_O := fg_44_0 N y0 h
theorem rm_44 {X : am_X} {d : Nat} {N : Nat} (y0 : Value) (h : am_H) (o : am_O) (i0 : am_isR y0 = true) (hs : fm_44 N y0 h = some o) : am_W X (d + 1) 44 0 (am_args 0 [y0]) [] h (fun q => q = o) := by
  rw [am_args_R i0]
  exact rg_44_0 y0 h o rfl i0 hs
def fg_43_44 (N : Nat) (s0 : Int32) (h : am_H) : Option am_O := some (.inl (some (.int s0), h))
theorem rg_43_44 {X : am_X} {d : Nat} {N : Nat} {lv : am_LV} (s0 : Int32) (h : am_H) (o : am_O) (hs : fg_43_44 N s0 h = some o) : am_W X (d + 2) 43 44 lv [(.int s0)] h (fun q => q = o) := by
  unfold fg_43_44 at hs
  cases hs
  exact aw_iret at_43_44 (by rw [rt_43]; rfl) rfl
def fg_43_29 (N : Nat) (x0 : Value) (x1 : Int32) (h : am_H) : Option am_O := (if am_pOk 9 x0 h then am_cI true (fm_44 N x0 h) (fun v2 h3 => (if x1 = 0 then (fg_43_44 N v2 h3) else (fg_43_44 N ((-v2)) h3))) else none)
theorem rg_43_29 {X : am_X} {d : Nat} {N : Nat} {lv : am_LV} (x0 : Value) (x1 : Int32) (h : am_H) (o : am_O) (l0 : lv.lookup 0 = some x0) (l1 : lv.lookup 1 = some (.int x1)) (i0 : am_isR x0 = true) (hs : fg_43_29 N x0 x1 h = some o) : am_W X (d + 2) 43 29 lv [] h (fun q => q = o) := by
  unfold fg_43_29 at hs
  refine aw_vload_n (pc1 := 30) at_43_29 l0 i0 rfl ?_
  obtain ⟨z1, hs1⟩ := am_ift hs
  clear hs
  refine aw_call (F := fm_44 N x0 h) (t := true) (na := 1) (kd := 1) (as := [x0]) at_43_30 (am_k3v kb_44) mn_44 mk_44 rfl rfl (am_ok_v mi_44 (am_hl rfl (am_ccR i0 am_cats_0) rfl) z1) (am_hc am_cats_0 rfl) (fun _ => ⟨rfl, hh_43⟩) (fun o1 hz9 => rm_44 x0 h o1 i0 hz9) ?_
  rcases am_cI_s hs1 with ⟨v2, h3, f4, hs2⟩ | hs2
  · clear hs1
    refine Or.inl ⟨_, _, f4, ?_⟩
    show am_W X _ 43 33 _ [(.int v2)] h3 _
    refine aw_istore_n (lv1 := am_put1 _ 2 _) (pc1 := 34) at_43_33 rfl rfl ?_
    refine aw_iload_n (pc1 := 35) at_43_34 (am_lk1 l1 rfl rfl) rfl ?_
    by_cases c5 : x1 = 0
    · rw [if_pos c5] at hs2
      refine aw_ifeq_t at_43_35 c5 ?_
      refine aw_iload_n (pc1 := 44) at_43_43 am_lk0 rfl ?_
      exact rg_43_44 v2 h3 o   hs2
    · rw [if_neg c5] at hs2
      refine aw_ifeq_f (pc1 := 38) at_43_35 c5 rfl ?_
      refine aw_iload_n (pc1 := 39) at_43_38 am_lk0 rfl ?_
      refine aw_ineg (v := (-v2)) (pc1 := 40) at_43_39 rfl rfl ?_
      refine aw_goto at_43_40 ?_
      exact rg_43_44 ((-v2)) h3 o   hs2
  · clear hs1
    exact Or.inr hs2
def fg_43_14 (N : Nat) (x0 : Value) (s0 : Int32) (h : am_H) : Option am_O := (if s0 = 0 then (fg_43_29 N x0 s0 h) else ((am_vI (am_pG 2306 x0 h)).bind fun v2 => ((am_pP 2306 x0 (.int (v2 + 1)) h).bind fun h4 => (fg_43_29 N x0 s0 h4))))
theorem rg_43_14 {X : am_X} {d : Nat} {N : Nat} {lv : am_LV} (x0 : Value) (s0 : Int32) (h : am_H) (o : am_O) (l0 : lv.lookup 0 = some x0) (i0 : am_isR x0 = true) (hs : fg_43_14 N x0 s0 h = some o) : am_W X (d + 2) 43 14 lv [(.int s0)] h (fun q => q = o) := by
  unfold fg_43_14 at hs
  refine aw_istore_n (lv1 := am_put1 _ 1 _) (pc1 := 15) at_43_14 rfl rfl ?_
  refine aw_iload_n (pc1 := 16) at_43_15 am_lk0 rfl ?_
  by_cases c1 : s0 = 0
  · rw [if_pos c1] at hs
    refine aw_ifeq_t at_43_16 c1 ?_
    exact rg_43_29 x0 s0 h o (am_lk1 l0 rfl (by rw [am_isRc i0]; rfl)) am_lk0 i0 hs
  · rw [if_neg c1] at hs
    refine aw_ifeq_f (pc1 := 19) at_43_16 c1 rfl ?_
    refine aw_vload_n (pc1 := 20) at_43_19 (am_lk1 l0 rfl (by rw [am_isRc i0]; rfl)) i0 rfl ?_
    refine aw_vdup (pc1 := 21) at_43_20 i0 rfl ?_
    obtain ⟨v2, e3, hs1⟩ := am_bind hs
    clear hs
    refine aw_pG (pc1 := 24) at_43_21 (am_vI_s e3) rfl ?_
    refine aw_iconst (v := 1) (pc1 := 25) at_43_24 (by decide) rfl ?_
    refine aw_iadd (v := (v2 + 1)) (pc1 := 26) at_43_25 rfl rfl ?_
    obtain ⟨h4, e5, hs2⟩ := am_bind hs1
    clear hs1
    refine aw_pP (pc1 := 29) at_43_26 e5 rfl ?_
    exact rg_43_29 x0 s0 h4 o (am_lk1 l0 rfl (by rw [am_isRc i0]; rfl)) am_lk0 i0 hs2
def fg_43_0 (N : Nat) (x0 : Value) (h : am_H) : Option am_O := (if am_pOk 9 x0 h then am_cI true (fm_36 x0 h) (fun v2 h3 => (if ¬ v2 = 45 then (fg_43_14 N x0 0 h3) else (fg_43_14 N x0 1 h3))) else none)
theorem rg_43_0 {X : am_X} {d : Nat} {N : Nat} {lv : am_LV} (x0 : Value) (h : am_H) (o : am_O) (l0 : lv.lookup 0 = some x0) (i0 : am_isR x0 = true) (hs : fg_43_0 N x0 h = some o) : am_W X (d + 2) 43 0 lv [] h (fun q => q = o) := by
  unfold fg_43_0 at hs
  refine aw_vload_n (pc1 := 1) at_43_0 l0 i0 rfl ?_
  obtain ⟨z1, hs1⟩ := am_ift hs
  clear hs
  refine aw_call (F := fm_36 x0 h) (t := true) (na := 1) (kd := 1) (as := [x0]) at_43_1 (am_k3v kb_36) mn_36 mk_36 rfl rfl (am_ok_v mi_36 (am_hl rfl (am_ccR i0 am_cats_0) rfl) z1) (am_hc am_cats_0 rfl) (fun _ => ⟨rfl, hh_43⟩) (fun o1 hz9 => rm_36 x0 h o1 i0 hz9) ?_
  rcases am_cI_s hs1 with ⟨v2, h3, f4, hs2⟩ | hs2
  · clear hs1
    refine Or.inl ⟨_, _, f4, ?_⟩
    show am_W X _ 43 4 _ [(.int v2)] h3 _
    refine aw_bipush (v := 45) (pc1 := 6) at_43_4 (by decide) rfl ?_
    by_cases c5 : ¬ v2 = 45
    · rw [if_pos c5] at hs2
      refine aw_icne_t at_43_6 c5 ?_
      refine aw_iconst (v := 0) (pc1 := 14) at_43_13 (by decide) rfl ?_
      exact rg_43_14 x0 0 h3 o l0 i0 hs2
    · rw [if_neg c5] at hs2
      refine aw_icne_f (pc1 := 9) at_43_6 c5 rfl ?_
      refine aw_iconst (v := 1) (pc1 := 10) at_43_9 (by decide) rfl ?_
      refine aw_goto at_43_10 ?_
      exact rg_43_14 x0 1 h3 o l0 i0 hs2
  · clear hs1
    exact Or.inr hs2
def fm_43 (N : Nat) (y0 : Value) (h : am_H) : Option am_O := fg_43_0 N y0 h
theorem rm_43 {X : am_X} {d : Nat} {N : Nat} (y0 : Value) (h : am_H) (o : am_O) (i0 : am_isR y0 = true) (hs : fm_43 N y0 h = some o) : am_W X (d + 2) 43 0 (am_args 0 [y0]) [] h (fun q => q = o) := by
  rw [am_args_R i0]
  exact rg_43_0 y0 h o rfl i0 hs
def fg_35_132 (N : Nat) (rc_35 : Value → Int32 → Int32 → Int32 → am_H → Option am_O) (rc_40 : Value → Int32 → Int32 → Int32 → am_H → Option am_O) (h : am_H) : Option am_O := some (.inl (none, h))
theorem rg_35_132 {X : am_X} {d : Nat} {N : Nat} {rc_35 : Value → Int32 → Int32 → Int32 → am_H → Option am_O} {rc_40 : Value → Int32 → Int32 → Int32 → am_H → Option am_O} (qc_35 : ∀ (y0 : Value) (y1 : Int32) (y2 : Int32) (y3 : Int32) (h : am_H) (o : am_O), (am_isR y0 = true) → rc_35 y0 y1 y2 y3 h = some o → am_W X (d + 3) 35 0 (am_args 0 [y0, .int y1, .int y2, .int y3]) [] h (fun q => q = o)) (qc_40 : ∀ (y0 : Value) (y1 : Int32) (y2 : Int32) (y3 : Int32) (h : am_H) (o : am_O), (am_isR y0 = true) → rc_40 y0 y1 y2 y3 h = some o → am_W X (d + 3) 40 0 (am_args 0 [y0, .int y1, .int y2, .int y3]) [] h (fun q => q = o)) {lv : am_LV} (h : am_H) (o : am_O) (hs : fg_35_132 N rc_35 rc_40 h = some o) : am_W X (d + 4) 35 132 lv [] h (fun q => q = o) := by
  unfold fg_35_132 at hs
  cases hs
  exact aw_vret at_35_132 rt_35 rfl
def fg_35_90 (N : Nat) (rc_35 : Value → Int32 → Int32 → Int32 → am_H → Option am_O) (rc_40 : Value → Int32 → Int32 → Int32 → am_H → Option am_O) (x0 : Value) (x5 : Int32) (h : am_H) : Option am_O := (if x5 ≤ 0 then ((am_vR (am_pG 2308 x0 h)).bind fun v2 => (if am_pOk 9 x0 h then am_cI true (fm_43 N x0 h) (fun v5 h6 => (if am_pOk 3 v2 h6 then am_cI true (fm_41 N v2 0 v5 h6) (fun v9 h10 => (fg_35_132 N rc_35 rc_40 h10)) else none)) else none)) else ((am_vI (am_pG 2306 x0 h)).bind fun v12 => ((am_pP 2306 x0 (.int (v12 + 1)) h).bind fun h14 => ((am_vR (am_pG 2308 x0 h14)).bind fun v16 => (if am_pOk 3 v16 h14 then am_cI true (fm_41 N v16 x5 0 h14) (fun v19 h20 => (fg_35_132 N rc_35 rc_40 h20)) else none)))))
theorem rg_35_90 {X : am_X} {d : Nat} {N : Nat} {rc_35 : Value → Int32 → Int32 → Int32 → am_H → Option am_O} {rc_40 : Value → Int32 → Int32 → Int32 → am_H → Option am_O} (qc_35 : ∀ (y0 : Value) (y1 : Int32) (y2 : Int32) (y3 : Int32) (h : am_H) (o : am_O), (am_isR y0 = true) → rc_35 y0 y1 y2 y3 h = some o → am_W X (d + 3) 35 0 (am_args 0 [y0, .int y1, .int y2, .int y3]) [] h (fun q => q = o)) (qc_40 : ∀ (y0 : Value) (y1 : Int32) (y2 : Int32) (y3 : Int32) (h : am_H) (o : am_O), (am_isR y0 = true) → rc_40 y0 y1 y2 y3 h = some o → am_W X (d + 3) 40 0 (am_args 0 [y0, .int y1, .int y2, .int y3]) [] h (fun q => q = o)) {lv : am_LV} (x0 : Value) (x5 : Int32) (h : am_H) (o : am_O) (l0 : lv.lookup 0 = some x0) (l5 : lv.lookup 5 = some (.int x5)) (i0 : am_isR x0 = true) (hs : fg_35_90 N rc_35 rc_40 x0 x5 h = some o) : am_W X (d + 4) 35 90 lv [] h (fun q => q = o) := by
  unfold fg_35_90 at hs
  refine aw_iload (pc1 := 92) at_35_90 l5 rfl ?_
  by_cases c1 : x5 ≤ 0
  · rw [if_pos c1] at hs
    refine aw_ifle_t at_35_92 c1 ?_
    refine aw_vload_n (pc1 := 120) at_35_119 l0 i0 rfl ?_
    obtain ⟨v2, e3, hs1⟩ := am_bind hs
    clear hs
    refine aw_pG (pc1 := 123) at_35_120 (am_vR_s e3).1 rfl ?_
    refine aw_iconst (v := 0) (pc1 := 124) at_35_123 (by decide) rfl ?_
    refine aw_vload_n (pc1 := 125) at_35_124 l0 i0 rfl ?_
    obtain ⟨z4, hs2⟩ := am_ift hs1
    clear hs1
    refine aw_call (F := fm_43 N x0 h) (t := true) (na := 1) (kd := 1) (as := [x0]) at_35_125 (am_k3v kb_43) mn_43 mk_43 rfl rfl (am_ok_v mi_43 (am_hl rfl (am_ccR i0 am_cats_0) rfl) z4) (am_hc (am_ccI (am_ccR (am_vR_s e3).2 am_cats_0)) rfl) (fun _ => ⟨rfl, hh_35⟩) (fun o1 hz9 => rm_43 x0 h o1 i0 hz9) ?_
    rcases am_cI_s hs2 with ⟨v5, h6, f7, hs3⟩ | hs3
    · clear hs2
      refine Or.inl ⟨_, _, f7, ?_⟩
      show am_W X _ 35 128 _ [(.int v5), (.int 0), v2] h6 _
      obtain ⟨z8, hs4⟩ := am_ift hs3
      clear hs3
      refine aw_call (F := fm_41 N v2 0 v5 h6) (t := true) (na := 3) (kd := 1) (as := [v2, (.int 0), (.int v5)]) at_35_128 (am_k3v kb_41) mn_41 mk_41 rfl rfl (am_ok_v mi_41 (am_hl rfl (am_ccR (am_vR_s e3).2 (am_ccI (am_ccI am_cats_0))) rfl) z8) (am_hc am_cats_0 rfl) (fun _ => ⟨rfl, hh_35⟩) (fun o1 hz9 => rm_41 v2 0 v5 h6 o1 (am_vR_s e3).2 hz9) ?_
      rcases am_cI_s hs4 with ⟨v9, h10, f11, hs5⟩ | hs5
      · clear hs4
        refine Or.inl ⟨_, _, f11, ?_⟩
        show am_W X _ 35 131 _ [(.int v9)] h10 _
        refine aw_popi (pc1 := 132) at_35_131 rfl ?_
        exact rg_35_132 qc_35 qc_40 h10 o   hs5
      · clear hs4
        exact Or.inr hs5
    · clear hs2
      exact Or.inr hs3
  · rw [if_neg c1] at hs
    refine aw_ifle_f (pc1 := 95) at_35_92 c1 rfl ?_
    refine aw_vload_n (pc1 := 96) at_35_95 l0 i0 rfl ?_
    refine aw_vdup (pc1 := 97) at_35_96 i0 rfl ?_
    obtain ⟨v12, e13, hs6⟩ := am_bind hs
    clear hs
    refine aw_pG (pc1 := 100) at_35_97 (am_vI_s e13) rfl ?_
    refine aw_iconst (v := 1) (pc1 := 101) at_35_100 (by decide) rfl ?_
    refine aw_iadd (v := (v12 + 1)) (pc1 := 102) at_35_101 rfl rfl ?_
    obtain ⟨h14, e15, hs7⟩ := am_bind hs6
    clear hs6
    refine aw_pP (pc1 := 105) at_35_102 e15 rfl ?_
    refine aw_vload_n (pc1 := 106) at_35_105 l0 i0 rfl ?_
    obtain ⟨v16, e17, hs8⟩ := am_bind hs7
    clear hs7
    refine aw_pG (pc1 := 109) at_35_106 (am_vR_s e17).1 rfl ?_
    refine aw_iload (pc1 := 111) at_35_109 l5 rfl ?_
    refine aw_iconst (v := 0) (pc1 := 112) at_35_111 (by decide) rfl ?_
    obtain ⟨z18, hs9⟩ := am_ift hs8
    clear hs8
    refine aw_call (F := fm_41 N v16 x5 0 h14) (t := true) (na := 3) (kd := 1) (as := [v16, (.int x5), (.int 0)]) at_35_112 (am_k3v kb_41) mn_41 mk_41 rfl rfl (am_ok_v mi_41 (am_hl rfl (am_ccR (am_vR_s e17).2 (am_ccI (am_ccI am_cats_0))) rfl) z18) (am_hc am_cats_0 rfl) (fun _ => ⟨rfl, hh_35⟩) (fun o1 hz9 => rm_41 v16 x5 0 h14 o1 (am_vR_s e17).2 hz9) ?_
    rcases am_cI_s hs9 with ⟨v19, h20, f21, hs10⟩ | hs10
    · clear hs9
      refine Or.inl ⟨_, _, f21, ?_⟩
      show am_W X _ 35 115 _ [(.int v19)] h20 _
      refine aw_popi (pc1 := 116) at_35_115 rfl ?_
      refine aw_goto at_35_116 ?_
      exact rg_35_132 qc_35 qc_40 h20 o   hs10
    · clear hs9
      exact Or.inr hs10
def fg_35_83 (N : Nat) (rc_35 : Value → Int32 → Int32 → Int32 → am_H → Option am_O) (rc_40 : Value → Int32 → Int32 → Int32 → am_H → Option am_O) (x0 : Value) (h : am_H) : Option am_O := (if am_pOk 9 x0 h then am_cV true (fm_39 x0 h) (fun h3 => (fg_35_132 N rc_35 rc_40 h3)) else none)
theorem rg_35_83 {X : am_X} {d : Nat} {N : Nat} {rc_35 : Value → Int32 → Int32 → Int32 → am_H → Option am_O} {rc_40 : Value → Int32 → Int32 → Int32 → am_H → Option am_O} (qc_35 : ∀ (y0 : Value) (y1 : Int32) (y2 : Int32) (y3 : Int32) (h : am_H) (o : am_O), (am_isR y0 = true) → rc_35 y0 y1 y2 y3 h = some o → am_W X (d + 3) 35 0 (am_args 0 [y0, .int y1, .int y2, .int y3]) [] h (fun q => q = o)) (qc_40 : ∀ (y0 : Value) (y1 : Int32) (y2 : Int32) (y3 : Int32) (h : am_H) (o : am_O), (am_isR y0 = true) → rc_40 y0 y1 y2 y3 h = some o → am_W X (d + 3) 40 0 (am_args 0 [y0, .int y1, .int y2, .int y3]) [] h (fun q => q = o)) {lv : am_LV} (x0 : Value) (h : am_H) (o : am_O) (l0 : lv.lookup 0 = some x0) (i0 : am_isR x0 = true) (hs : fg_35_83 N rc_35 rc_40 x0 h = some o) : am_W X (d + 4) 35 83 lv [] h (fun q => q = o) := by
  unfold fg_35_83 at hs
  refine aw_vload_n (pc1 := 84) at_35_83 l0 i0 rfl ?_
  obtain ⟨z1, hs1⟩ := am_ift hs
  clear hs
  refine aw_call (F := fm_39 x0 h) (t := true) (na := 1) (kd := 1) (as := [x0]) at_35_84 (am_k3v kb_39) mn_39 mk_39 rfl rfl (am_ok_v mi_39 (am_hl rfl (am_ccR i0 am_cats_0) rfl) z1) (am_hc am_cats_0 rfl) (fun _ => ⟨rfl, hh_35⟩) (fun o1 hz9 => rm_39 x0 h o1 i0 hz9) ?_
  rcases am_cV_s hs1 with ⟨h3, f4, hs2⟩ | hs2
  · clear hs1
    refine Or.inl ⟨_, _, f4, ?_⟩
    show am_W X _ 35 87 _ [] h3 _
    refine aw_goto at_35_87 ?_
    exact rg_35_132 qc_35 qc_40 h3 o   hs2
  · clear hs1
    exact Or.inr hs2
def fg_35_35 (N : Nat) (rc_35 : Value → Int32 → Int32 → Int32 → am_H → Option am_O) (rc_40 : Value → Int32 → Int32 → Int32 → am_H → Option am_O) (x0 : Value) (h : am_H) : Option am_O := (if am_pOk 9 x0 h then am_cV true (fm_39 x0 h) (fun h3 => (fg_35_132 N rc_35 rc_40 h3)) else none)
theorem rg_35_35 {X : am_X} {d : Nat} {N : Nat} {rc_35 : Value → Int32 → Int32 → Int32 → am_H → Option am_O} {rc_40 : Value → Int32 → Int32 → Int32 → am_H → Option am_O} (qc_35 : ∀ (y0 : Value) (y1 : Int32) (y2 : Int32) (y3 : Int32) (h : am_H) (o : am_O), (am_isR y0 = true) → rc_35 y0 y1 y2 y3 h = some o → am_W X (d + 3) 35 0 (am_args 0 [y0, .int y1, .int y2, .int y3]) [] h (fun q => q = o)) (qc_40 : ∀ (y0 : Value) (y1 : Int32) (y2 : Int32) (y3 : Int32) (h : am_H) (o : am_O), (am_isR y0 = true) → rc_40 y0 y1 y2 y3 h = some o → am_W X (d + 3) 40 0 (am_args 0 [y0, .int y1, .int y2, .int y3]) [] h (fun q => q = o)) {lv : am_LV} (x0 : Value) (h : am_H) (o : am_O) (l0 : lv.lookup 0 = some x0) (i0 : am_isR x0 = true) (hs : fg_35_35 N rc_35 rc_40 x0 h = some o) : am_W X (d + 4) 35 35 lv [] h (fun q => q = o) := by
  unfold fg_35_35 at hs
  refine aw_vload_n (pc1 := 36) at_35_35 l0 i0 rfl ?_
  obtain ⟨z1, hs1⟩ := am_ift hs
  clear hs
  refine aw_call (F := fm_39 x0 h) (t := true) (na := 1) (kd := 1) (as := [x0]) at_35_36 (am_k3v kb_39) mn_39 mk_39 rfl rfl (am_ok_v mi_39 (am_hl rfl (am_ccR i0 am_cats_0) rfl) z1) (am_hc am_cats_0 rfl) (fun _ => ⟨rfl, hh_35⟩) (fun o1 hz9 => rm_39 x0 h o1 i0 hz9) ?_
  rcases am_cV_s hs1 with ⟨h3, f4, hs2⟩ | hs2
  · clear hs1
    refine Or.inl ⟨_, _, f4, ?_⟩
    show am_W X _ 35 39 _ [] h3 _
    refine aw_goto at_35_39 ?_
    exact rg_35_132 qc_35 qc_40 h3 o   hs2
  · clear hs1
    exact Or.inr hs2
def fg_35_0 (N : Nat) (rc_35 : Value → Int32 → Int32 → Int32 → am_H → Option am_O) (rc_40 : Value → Int32 → Int32 → Int32 → am_H → Option am_O) (x0 : Value) (x1 : Int32) (x2 : Int32) (x3 : Int32) (h : am_H) : Option am_O := (if am_pOk 9 x0 h then am_cI true (fm_36 x0 h) (fun v2 h3 => ((am_vR (am_pG 2308 x0 h3)).bind fun v5 => ((am_vI (am_pG 771 v5 h3)).bind fun v7 => (if 60 ≤ v7 then (fg_35_35 N rc_35 rc_40 x0 h3) else (if x2 ≤ 12 then (if ¬ v2 = 40 then (if ¬ x1 = 0 then (fg_35_83 N rc_35 rc_40 x0 h3) else (if ((am_ixF v2 (am_txt 3) 0) + 1) < 5 then (fg_35_90 N rc_35 rc_40 x0 (((am_ixF v2 (am_txt 3) 0) + 1)) h3) else (if ¬ x3 = 0 then (fg_35_90 N rc_35 rc_40 x0 (((am_ixF v2 (am_txt 3) 0) + 1)) h3) else (fg_35_83 N rc_35 rc_40 x0 h3)))) else ((am_vI (am_pG 2306 x0 h3)).bind fun v15 => ((am_pP 2306 x0 (.int (v15 + 1)) h3).bind fun h17 => (if am_pOk 9 x0 h17 then am_cV true (rc_40 x0 x1 x2 x3 h17) (fun h21 => (fg_35_132 N rc_35 rc_40 h21)) else none)))) else (fg_35_35 N rc_35 rc_40 x0 h3)))))) else none)
theorem rg_35_0 {X : am_X} {d : Nat} {N : Nat} {rc_35 : Value → Int32 → Int32 → Int32 → am_H → Option am_O} {rc_40 : Value → Int32 → Int32 → Int32 → am_H → Option am_O} (qc_35 : ∀ (y0 : Value) (y1 : Int32) (y2 : Int32) (y3 : Int32) (h : am_H) (o : am_O), (am_isR y0 = true) → rc_35 y0 y1 y2 y3 h = some o → am_W X (d + 3) 35 0 (am_args 0 [y0, .int y1, .int y2, .int y3]) [] h (fun q => q = o)) (qc_40 : ∀ (y0 : Value) (y1 : Int32) (y2 : Int32) (y3 : Int32) (h : am_H) (o : am_O), (am_isR y0 = true) → rc_40 y0 y1 y2 y3 h = some o → am_W X (d + 3) 40 0 (am_args 0 [y0, .int y1, .int y2, .int y3]) [] h (fun q => q = o)) {lv : am_LV} (x0 : Value) (x1 : Int32) (x2 : Int32) (x3 : Int32) (h : am_H) (o : am_O) (l0 : lv.lookup 0 = some x0) (l1 : lv.lookup 1 = some (.int x1)) (l2 : lv.lookup 2 = some (.int x2)) (l3 : lv.lookup 3 = some (.int x3)) (i0 : am_isR x0 = true) (hs : fg_35_0 N rc_35 rc_40 x0 x1 x2 x3 h = some o) : am_W X (d + 4) 35 0 lv [] h (fun q => q = o) := by
  unfold fg_35_0 at hs
  refine aw_vload_n (pc1 := 1) at_35_0 l0 i0 rfl ?_
  obtain ⟨z1, hs1⟩ := am_ift hs
  clear hs
  refine aw_call (F := fm_36 x0 h) (t := true) (na := 1) (kd := 1) (as := [x0]) at_35_1 (am_k3v kb_36) mn_36 mk_36 rfl rfl (am_ok_v mi_36 (am_hl rfl (am_ccR i0 am_cats_0) rfl) z1) (am_hc am_cats_0 rfl) (fun _ => ⟨rfl, hh_35⟩) (fun o1 hz9 => rm_36 x0 h o1 i0 hz9) ?_
  rcases am_cI_s hs1 with ⟨v2, h3, f4, hs2⟩ | hs2
  · clear hs1
    refine Or.inl ⟨_, _, f4, ?_⟩
    show am_W X _ 35 4 _ [(.int v2)] h3 _
    refine aw_istore (lv1 := am_put1 _ 4 _) (pc1 := 6) at_35_4 rfl rfl ?_
    refine am_W.ldt at_35_6 rfl ?_
    show am_W _ _ _ 8 _ [(Value.float 3)] _ _
    refine aw_iload (pc1 := 10) at_35_8 am_lk0 rfl ?_
    refine am_W.idx at_35_10 rfl rfl (am_hc am_cats_0 rfl) ?_
    show am_W _ _ _ 13 _ [(.int (am_ixF v2 (am_txt 3) 0))] _ _
    refine aw_iconst (v := 1) (pc1 := 14) at_35_13 (by decide) rfl ?_
    refine aw_iadd (v := ((am_ixF v2 (am_txt 3) 0) + 1)) (pc1 := 15) at_35_14 rfl rfl ?_
    refine aw_istore (lv1 := am_put1 _ 5 _) (pc1 := 17) at_35_15 rfl rfl ?_
    refine aw_vload_n (pc1 := 18) at_35_17 (am_lk1 (am_lk1 l0 rfl rfl) rfl rfl) i0 rfl ?_
    obtain ⟨v5, e6, hs3⟩ := am_bind hs2
    clear hs2
    refine aw_pG (pc1 := 21) at_35_18 (am_vR_s e6).1 rfl ?_
    obtain ⟨v7, e8, hs4⟩ := am_bind hs3
    clear hs3
    refine aw_pG (pc1 := 24) at_35_21 (am_vI_s e8) rfl ?_
    refine aw_bipush (v := 60) (pc1 := 26) at_35_24 (by decide) rfl ?_
    by_cases c9 : 60 ≤ v7
    · rw [if_pos c9] at hs4
      refine aw_icge_t at_35_26 c9 ?_
      exact rg_35_35 qc_35 qc_40 x0 h3 o (am_lk1 (am_lk1 l0 rfl rfl) rfl rfl) i0 hs4
    · rw [if_neg c9] at hs4
      refine aw_icge_f (pc1 := 29) at_35_26 c9 rfl ?_
      refine aw_iload_n (pc1 := 30) at_35_29 (am_lk1 (am_lk1 l2 rfl rfl) rfl rfl) rfl ?_
      refine aw_bipush (v := 12) (pc1 := 32) at_35_30 (by decide) rfl ?_
      by_cases c10 : x2 ≤ 12
      · rw [if_pos c10] at hs4
        refine aw_icle_t at_35_32 c10 ?_
        refine aw_iload (pc1 := 44) at_35_42 (am_lk1 am_lk0 rfl rfl) rfl ?_
        refine aw_bipush (v := 40) (pc1 := 46) at_35_44 (by decide) rfl ?_
        by_cases c11 : ¬ v2 = 40
        · rw [if_pos c11] at hs4
          refine aw_icne_t at_35_46 c11 ?_
          refine aw_iload_n (pc1 := 70) at_35_69 (am_lk1 (am_lk1 l1 rfl rfl) rfl rfl) rfl ?_
          by_cases c12 : ¬ x1 = 0
          · rw [if_pos c12] at hs4
            refine aw_ifne_t at_35_70 c12 ?_
            exact rg_35_83 qc_35 qc_40 x0 h3 o (am_lk1 (am_lk1 l0 rfl rfl) rfl rfl) i0 hs4
          · rw [if_neg c12] at hs4
            refine aw_ifne_f (pc1 := 73) at_35_70 c12 rfl ?_
            refine aw_iload (pc1 := 75) at_35_73 am_lk0 rfl ?_
            refine aw_iconst (v := 5) (pc1 := 76) at_35_75 (by decide) rfl ?_
            by_cases c13 : ((am_ixF v2 (am_txt 3) 0) + 1) < 5
            · rw [if_pos c13] at hs4
              refine aw_iclt_t at_35_76 c13 ?_
              exact rg_35_90 qc_35 qc_40 x0 (((am_ixF v2 (am_txt 3) 0) + 1)) h3 o (am_lk1 (am_lk1 l0 rfl rfl) rfl rfl) am_lk0 i0 hs4
            · rw [if_neg c13] at hs4
              refine aw_iclt_f (pc1 := 79) at_35_76 c13 rfl ?_
              refine aw_iload_n (pc1 := 80) at_35_79 (am_lk1 (am_lk1 l3 rfl rfl) rfl rfl) rfl ?_
              by_cases c14 : ¬ x3 = 0
              · rw [if_pos c14] at hs4
                refine aw_ifne_t at_35_80 c14 ?_
                exact rg_35_90 qc_35 qc_40 x0 (((am_ixF v2 (am_txt 3) 0) + 1)) h3 o (am_lk1 (am_lk1 l0 rfl rfl) rfl rfl) am_lk0 i0 hs4
              · rw [if_neg c14] at hs4
                refine aw_ifne_f (pc1 := 83) at_35_80 c14 rfl ?_
                exact rg_35_83 qc_35 qc_40 x0 h3 o (am_lk1 (am_lk1 l0 rfl rfl) rfl rfl) i0 hs4
        · rw [if_neg c11] at hs4
          refine aw_icne_f (pc1 := 49) at_35_46 c11 rfl ?_
          refine aw_vload_n (pc1 := 50) at_35_49 (am_lk1 (am_lk1 l0 rfl rfl) rfl rfl) i0 rfl ?_
          refine aw_vdup (pc1 := 51) at_35_50 i0 rfl ?_
          obtain ⟨v15, e16, hs5⟩ := am_bind hs4
          clear hs4
          refine aw_pG (pc1 := 54) at_35_51 (am_vI_s e16) rfl ?_
          refine aw_iconst (v := 1) (pc1 := 55) at_35_54 (by decide) rfl ?_
          refine aw_iadd (v := (v15 + 1)) (pc1 := 56) at_35_55 rfl rfl ?_
          obtain ⟨h17, e18, hs6⟩ := am_bind hs5
          clear hs5
          refine aw_pP (pc1 := 59) at_35_56 e18 rfl ?_
          refine aw_vload_n (pc1 := 60) at_35_59 (am_lk1 (am_lk1 l0 rfl rfl) rfl rfl) i0 rfl ?_
          refine aw_iload_n (pc1 := 61) at_35_60 (am_lk1 (am_lk1 l1 rfl rfl) rfl rfl) rfl ?_
          refine aw_iload_n (pc1 := 62) at_35_61 (am_lk1 (am_lk1 l2 rfl rfl) rfl rfl) rfl ?_
          refine aw_iload_n (pc1 := 63) at_35_62 (am_lk1 (am_lk1 l3 rfl rfl) rfl rfl) rfl ?_
          obtain ⟨z19, hs7⟩ := am_ift hs6
          clear hs6
          refine aw_call (F := rc_40 x0 x1 x2 x3 h17) (t := true) (na := 4) (kd := 1) (as := [x0, (.int x1), (.int x2), (.int x3)]) at_35_63 (am_k3v kb_40) mn_40 mk_40 rfl rfl (am_ok_v mi_40 (am_hl rfl (am_ccR i0 (am_ccI (am_ccI (am_ccI am_cats_0)))) rfl) z19) (am_hc am_cats_0 rfl) (fun _ => ⟨rfl, hh_35⟩) (fun o1 hz9 => qc_40 x0 x1 x2 x3 h17 o1 i0 hz9) ?_
          rcases am_cV_s hs7 with ⟨h21, f22, hs8⟩ | hs8
          · clear hs7
            refine Or.inl ⟨_, _, f22, ?_⟩
            show am_W X _ 35 66 _ [] h21 _
            refine aw_goto at_35_66 ?_
            exact rg_35_132 qc_35 qc_40 h21 o   hs8
          · clear hs7
            exact Or.inr hs8
      · rw [if_neg c10] at hs4
        refine aw_icle_f (pc1 := 35) at_35_32 c10 rfl ?_
        exact rg_35_35 qc_35 qc_40 x0 h3 o (am_lk1 (am_lk1 l0 rfl rfl) rfl rfl) i0 hs4
  · clear hs1
    exact Or.inr hs2
def fo_35 (N : Nat) (rc_35 : Value → Int32 → Int32 → Int32 → am_H → Option am_O) (rc_40 : Value → Int32 → Int32 → Int32 → am_H → Option am_O) (y0 : Value) (y1 : Int32) (y2 : Int32) (y3 : Int32) (h : am_H) : Option am_O := fg_35_0 N rc_35 rc_40 y0 y1 y2 y3 h
theorem ro_35 {X : am_X} {d : Nat} {N : Nat} {rc_35 : Value → Int32 → Int32 → Int32 → am_H → Option am_O} {rc_40 : Value → Int32 → Int32 → Int32 → am_H → Option am_O} (qc_35 : ∀ (y0 : Value) (y1 : Int32) (y2 : Int32) (y3 : Int32) (h : am_H) (o : am_O), (am_isR y0 = true) → rc_35 y0 y1 y2 y3 h = some o → am_W X (d + 3) 35 0 (am_args 0 [y0, .int y1, .int y2, .int y3]) [] h (fun q => q = o)) (qc_40 : ∀ (y0 : Value) (y1 : Int32) (y2 : Int32) (y3 : Int32) (h : am_H) (o : am_O), (am_isR y0 = true) → rc_40 y0 y1 y2 y3 h = some o → am_W X (d + 3) 40 0 (am_args 0 [y0, .int y1, .int y2, .int y3]) [] h (fun q => q = o)) (y0 : Value) (y1 : Int32) (y2 : Int32) (y3 : Int32) (h : am_H) (o : am_O) (i0 : am_isR y0 = true) (hs : fo_35 N rc_35 rc_40 y0 y1 y2 y3 h = some o) : am_W X (d + 4) 35 0 (am_args 0 [y0, .int y1, .int y2, .int y3]) [] h (fun q => q = o) := by
  rw [am_args_R i0, am_args_I, am_args_I, am_args_I]
  exact rg_35_0 qc_35 qc_40 y0 y1 y2 y3 h o rfl rfl rfl rfl i0 hs
def fg_40_133 (N : Nat) (rc_35 : Value → Int32 → Int32 → Int32 → am_H → Option am_O) (rc_40 : Value → Int32 → Int32 → Int32 → am_H → Option am_O) (x0 : Value) (h : am_H) : Option am_O := (if am_pOk 9 x0 h then am_cI true (fm_42 x0 41 h) (fun v2 h3 => some (.inl (none, h3))) else none)
theorem rg_40_133 {X : am_X} {d : Nat} {N : Nat} {rc_35 : Value → Int32 → Int32 → Int32 → am_H → Option am_O} {rc_40 : Value → Int32 → Int32 → Int32 → am_H → Option am_O} (qc_35 : ∀ (y0 : Value) (y1 : Int32) (y2 : Int32) (y3 : Int32) (h : am_H) (o : am_O), (am_isR y0 = true) → rc_35 y0 y1 y2 y3 h = some o → am_W X (d + 3) 35 0 (am_args 0 [y0, .int y1, .int y2, .int y3]) [] h (fun q => q = o)) (qc_40 : ∀ (y0 : Value) (y1 : Int32) (y2 : Int32) (y3 : Int32) (h : am_H) (o : am_O), (am_isR y0 = true) → rc_40 y0 y1 y2 y3 h = some o → am_W X (d + 3) 40 0 (am_args 0 [y0, .int y1, .int y2, .int y3]) [] h (fun q => q = o)) {lv : am_LV} (x0 : Value) (h : am_H) (o : am_O) (l0 : lv.lookup 0 = some x0) (i0 : am_isR x0 = true) (hs : fg_40_133 N rc_35 rc_40 x0 h = some o) : am_W X (d + 4) 40 133 lv [] h (fun q => q = o) := by
  unfold fg_40_133 at hs
  refine aw_vload_n (pc1 := 134) at_40_133 l0 i0 rfl ?_
  refine aw_bipush (v := 41) (pc1 := 136) at_40_134 (by decide) rfl ?_
  obtain ⟨z1, hs1⟩ := am_ift hs
  clear hs
  refine aw_call (F := fm_42 x0 41 h) (t := true) (na := 2) (kd := 1) (as := [x0, (.int 41)]) at_40_136 (am_k3v kb_42) mn_42 mk_42 rfl rfl (am_ok_v mi_42 (am_hl rfl (am_ccR i0 (am_ccI am_cats_0)) rfl) z1) (am_hc am_cats_0 rfl) (fun _ => ⟨rfl, hh_40⟩) (fun o1 hz9 => rm_42 x0 41 h o1 i0 hz9) ?_
  rcases am_cI_s hs1 with ⟨v2, h3, f4, hs2⟩ | hs2
  · clear hs1
    refine Or.inl ⟨_, _, f4, ?_⟩
    show am_W X _ 40 139 _ [(.int v2)] h3 _
    refine aw_popi (pc1 := 140) at_40_139 rfl ?_
    cases hs2
    exact aw_vret at_40_140 rt_40 rfl
  · clear hs1
    exact Or.inr hs2
def fg_40_124 (N : Nat) (rc_35 : Value → Int32 → Int32 → Int32 → am_H → Option am_O) (rc_40 : Value → Int32 → Int32 → Int32 → am_H → Option am_O) (rec_72 : Value → Int32 → Int32 → Int32 → Int32 → am_H → Option am_O) (x0 : Value) (x2 : Int32) (x3 : Int32) (x5 : Int32) (x6 : Int32) (s0 : Value) (s1 : Int32) (s2 : Int32) (s3 : Int32) (h : am_H) : Option am_O := (if am_pOk 9 s0 h then am_cV true (rc_35 s0 s1 s2 s3 h) (fun h3 => (rec_72 x0 x2 x3 x5 ((x6 + 1)) h3)) else none)
theorem rg_40_124 {X : am_X} {d : Nat} {N : Nat} {rc_35 : Value → Int32 → Int32 → Int32 → am_H → Option am_O} {rc_40 : Value → Int32 → Int32 → Int32 → am_H → Option am_O} {rec_72 : Value → Int32 → Int32 → Int32 → Int32 → am_H → Option am_O} (q_72 : ∀ (x0 : Value) (x2 : Int32) (x3 : Int32) (x5 : Int32) (x6 : Int32) (h : am_H) (o : am_O), rec_72 x0 x2 x3 x5 x6 h = some o → ∀ lv : am_LV, (lv.lookup 0 = some x0) → (lv.lookup 2 = some (.int x2)) → (lv.lookup 3 = some (.int x3)) → (lv.lookup 5 = some (.int x5)) → (lv.lookup 6 = some (.int x6)) → (am_isR x0 = true) → am_W X (d + 4) 40 72 lv [] h (fun q => q = o)) (qc_35 : ∀ (y0 : Value) (y1 : Int32) (y2 : Int32) (y3 : Int32) (h : am_H) (o : am_O), (am_isR y0 = true) → rc_35 y0 y1 y2 y3 h = some o → am_W X (d + 3) 35 0 (am_args 0 [y0, .int y1, .int y2, .int y3]) [] h (fun q => q = o)) (qc_40 : ∀ (y0 : Value) (y1 : Int32) (y2 : Int32) (y3 : Int32) (h : am_H) (o : am_O), (am_isR y0 = true) → rc_40 y0 y1 y2 y3 h = some o → am_W X (d + 3) 40 0 (am_args 0 [y0, .int y1, .int y2, .int y3]) [] h (fun q => q = o)) {lv : am_LV} (x0 : Value) (x2 : Int32) (x3 : Int32) (x5 : Int32) (x6 : Int32) (s0 : Value) (s1 : Int32) (s2 : Int32) (s3 : Int32) (h : am_H) (o : am_O) (l0 : lv.lookup 0 = some x0) (l2 : lv.lookup 2 = some (.int x2)) (l3 : lv.lookup 3 = some (.int x3)) (l5 : lv.lookup 5 = some (.int x5)) (l6 : lv.lookup 6 = some (.int x6)) (i0 : am_isR x0 = true) (j0 : am_isR s0 = true) (hs : fg_40_124 N rc_35 rc_40 rec_72 x0 x2 x3 x5 x6 s0 s1 s2 s3 h = some o) : am_W X (d + 4) 40 124 lv [(.int s3), (.int s2), (.int s1), s0] h (fun q => q = o) := by
  unfold fg_40_124 at hs
  obtain ⟨z1, hs1⟩ := am_ift hs
  clear hs
  refine aw_call (F := rc_35 s0 s1 s2 s3 h) (t := true) (na := 4) (kd := 1) (as := [s0, (.int s1), (.int s2), (.int s3)]) at_40_124 (am_k3v kb_35) mn_35 mk_35 rfl rfl (am_ok_v mi_35 (am_hl rfl (am_ccR j0 (am_ccI (am_ccI (am_ccI am_cats_0)))) rfl) z1) (am_hc am_cats_0 rfl) (fun _ => ⟨rfl, hh_40⟩) (fun o1 hz9 => qc_35 s0 s1 s2 s3 h o1 j0 hz9) ?_
  rcases am_cV_s hs1 with ⟨h3, f4, hs2⟩ | hs2
  · clear hs1
    refine Or.inl ⟨_, _, f4, ?_⟩
    show am_W X _ 40 127 _ [] h3 _
    refine aw_iinc (v := (x6 + 1)) (c := 1) (lv1 := am_put1 _ 6 _) (pc1 := 130) at_40_127 l6 (by decide) rfl rfl rfl ?_
    refine aw_goto at_40_130 ?_
    exact q_72 x0 x2 x3 x5 ((x6 + 1)) h3 o hs2 _ (am_lk1 l0 rfl rfl) (am_lk1 l2 rfl rfl) (am_lk1 l3 rfl rfl) (am_lk1 l5 rfl rfl) am_lk0 i0
  · clear hs1
    exact Or.inr hs2
def fg_40_123 (N : Nat) (rc_35 : Value → Int32 → Int32 → Int32 → am_H → Option am_O) (rc_40 : Value → Int32 → Int32 → Int32 → am_H → Option am_O) (rec_72 : Value → Int32 → Int32 → Int32 → Int32 → am_H → Option am_O) (x0 : Value) (x2 : Int32) (x3 : Int32) (x5 : Int32) (x6 : Int32) (s0 : Value) (s1 : Int32) (s2 : Int32) (h : am_H) : Option am_O := (fg_40_124 N rc_35 rc_40 rec_72 x0 x2 x3 x5 x6 s0 s1 s2 0 h)
theorem rg_40_123 {X : am_X} {d : Nat} {N : Nat} {rc_35 : Value → Int32 → Int32 → Int32 → am_H → Option am_O} {rc_40 : Value → Int32 → Int32 → Int32 → am_H → Option am_O} {rec_72 : Value → Int32 → Int32 → Int32 → Int32 → am_H → Option am_O} (q_72 : ∀ (x0 : Value) (x2 : Int32) (x3 : Int32) (x5 : Int32) (x6 : Int32) (h : am_H) (o : am_O), rec_72 x0 x2 x3 x5 x6 h = some o → ∀ lv : am_LV, (lv.lookup 0 = some x0) → (lv.lookup 2 = some (.int x2)) → (lv.lookup 3 = some (.int x3)) → (lv.lookup 5 = some (.int x5)) → (lv.lookup 6 = some (.int x6)) → (am_isR x0 = true) → am_W X (d + 4) 40 72 lv [] h (fun q => q = o)) (qc_35 : ∀ (y0 : Value) (y1 : Int32) (y2 : Int32) (y3 : Int32) (h : am_H) (o : am_O), (am_isR y0 = true) → rc_35 y0 y1 y2 y3 h = some o → am_W X (d + 3) 35 0 (am_args 0 [y0, .int y1, .int y2, .int y3]) [] h (fun q => q = o)) (qc_40 : ∀ (y0 : Value) (y1 : Int32) (y2 : Int32) (y3 : Int32) (h : am_H) (o : am_O), (am_isR y0 = true) → rc_40 y0 y1 y2 y3 h = some o → am_W X (d + 3) 40 0 (am_args 0 [y0, .int y1, .int y2, .int y3]) [] h (fun q => q = o)) {lv : am_LV} (x0 : Value) (x2 : Int32) (x3 : Int32) (x5 : Int32) (x6 : Int32) (s0 : Value) (s1 : Int32) (s2 : Int32) (h : am_H) (o : am_O) (l0 : lv.lookup 0 = some x0) (l2 : lv.lookup 2 = some (.int x2)) (l3 : lv.lookup 3 = some (.int x3)) (l5 : lv.lookup 5 = some (.int x5)) (l6 : lv.lookup 6 = some (.int x6)) (i0 : am_isR x0 = true) (j0 : am_isR s0 = true) (hs : fg_40_123 N rc_35 rc_40 rec_72 x0 x2 x3 x5 x6 s0 s1 s2 h = some o) : am_W X (d + 4) 40 123 lv [(.int s2), (.int s1), s0] h (fun q => q = o) := by
  unfold fg_40_123 at hs
  refine aw_iconst (v := 0) (pc1 := 124) at_40_123 (by decide) rfl ?_
  exact rg_40_124 q_72 qc_35 qc_40 x0 x2 x3 x5 x6 s0 s1 s2 0 h o l0 l2 l3 l5 l6 i0 j0 hs
def fg_40_119 (N : Nat) (rc_35 : Value → Int32 → Int32 → Int32 → am_H → Option am_O) (rc_40 : Value → Int32 → Int32 → Int32 → am_H → Option am_O) (rec_72 : Value → Int32 → Int32 → Int32 → Int32 → am_H → Option am_O) (x0 : Value) (x2 : Int32) (x3 : Int32) (x5 : Int32) (x6 : Int32) (s0 : Value) (s1 : Int32) (s2 : Int32) (h : am_H) : Option am_O := (fg_40_124 N rc_35 rc_40 rec_72 x0 x2 x3 x5 x6 s0 s1 s2 1 h)
theorem rg_40_119 {X : am_X} {d : Nat} {N : Nat} {rc_35 : Value → Int32 → Int32 → Int32 → am_H → Option am_O} {rc_40 : Value → Int32 → Int32 → Int32 → am_H → Option am_O} {rec_72 : Value → Int32 → Int32 → Int32 → Int32 → am_H → Option am_O} (q_72 : ∀ (x0 : Value) (x2 : Int32) (x3 : Int32) (x5 : Int32) (x6 : Int32) (h : am_H) (o : am_O), rec_72 x0 x2 x3 x5 x6 h = some o → ∀ lv : am_LV, (lv.lookup 0 = some x0) → (lv.lookup 2 = some (.int x2)) → (lv.lookup 3 = some (.int x3)) → (lv.lookup 5 = some (.int x5)) → (lv.lookup 6 = some (.int x6)) → (am_isR x0 = true) → am_W X (d + 4) 40 72 lv [] h (fun q => q = o)) (qc_35 : ∀ (y0 : Value) (y1 : Int32) (y2 : Int32) (y3 : Int32) (h : am_H) (o : am_O), (am_isR y0 = true) → rc_35 y0 y1 y2 y3 h = some o → am_W X (d + 3) 35 0 (am_args 0 [y0, .int y1, .int y2, .int y3]) [] h (fun q => q = o)) (qc_40 : ∀ (y0 : Value) (y1 : Int32) (y2 : Int32) (y3 : Int32) (h : am_H) (o : am_O), (am_isR y0 = true) → rc_40 y0 y1 y2 y3 h = some o → am_W X (d + 3) 40 0 (am_args 0 [y0, .int y1, .int y2, .int y3]) [] h (fun q => q = o)) {lv : am_LV} (x0 : Value) (x2 : Int32) (x3 : Int32) (x5 : Int32) (x6 : Int32) (s0 : Value) (s1 : Int32) (s2 : Int32) (h : am_H) (o : am_O) (l0 : lv.lookup 0 = some x0) (l2 : lv.lookup 2 = some (.int x2)) (l3 : lv.lookup 3 = some (.int x3)) (l5 : lv.lookup 5 = some (.int x5)) (l6 : lv.lookup 6 = some (.int x6)) (i0 : am_isR x0 = true) (j0 : am_isR s0 = true) (hs : fg_40_119 N rc_35 rc_40 rec_72 x0 x2 x3 x5 x6 s0 s1 s2 h = some o) : am_W X (d + 4) 40 119 lv [(.int s2), (.int s1), s0] h (fun q => q = o) := by
  unfold fg_40_119 at hs
  refine aw_iconst (v := 1) (pc1 := 120) at_40_119 (by decide) rfl ?_
  refine aw_goto at_40_120 ?_
  exact rg_40_124 q_72 qc_35 qc_40 x0 x2 x3 x5 x6 s0 s1 s2 1 h o l0 l2 l3 l5 l6 i0 j0 hs
def fg_40_72 (N : Nat) (rc_35 : Value → Int32 → Int32 → Int32 → am_H → Option am_O) (rc_40 : Value → Int32 → Int32 → Int32 → am_H → Option am_O) : Nat → Value → Int32 → Int32 → Int32 → Int32 → am_H → Option am_O
  | 0 => fun _ _ _ _ _ _ => none
  | K + 1 => fun x0 x2 x3 x5 x6 h => am_cI false (fm_14 x5 h) (fun v1 h2 => (if v1 ≤ x6 then (fg_40_133 N rc_35 rc_40 x0 h2) else (if am_pOk 9 x0 h2 then am_cI true (fm_42 x0 32 h2) (fun v6 h7 => (if v6 = 0 then (fg_40_133 N rc_35 rc_40 x0 h7) else am_cI false (fm_13 x5 x6 h7) (fun v10 h11 => (if ¬ x3 = 0 then (fg_40_119 N rc_35 rc_40 (fg_40_72 N rc_35 rc_40 K) x0 x2 x3 x5 x6 x0 v10 ((x2 + 1)) h11) else (if ¬ x5 = 19 then (fg_40_123 N rc_35 rc_40 (fg_40_72 N rc_35 rc_40 K) x0 x2 x3 x5 x6 x0 v10 ((x2 + 1)) h11) else (if ¬ x6 = 1 then (fg_40_123 N rc_35 rc_40 (fg_40_72 N rc_35 rc_40 K) x0 x2 x3 x5 x6 x0 v10 ((x2 + 1)) h11) else (fg_40_119 N rc_35 rc_40 (fg_40_72 N rc_35 rc_40 K) x0 x2 x3 x5 x6 x0 v10 ((x2 + 1)) h11))))))) else none)))
theorem rg_40_72 {X : am_X} {d : Nat} {N : Nat} {rc_35 : Value → Int32 → Int32 → Int32 → am_H → Option am_O} {rc_40 : Value → Int32 → Int32 → Int32 → am_H → Option am_O} (qc_35 : ∀ (y0 : Value) (y1 : Int32) (y2 : Int32) (y3 : Int32) (h : am_H) (o : am_O), (am_isR y0 = true) → rc_35 y0 y1 y2 y3 h = some o → am_W X (d + 3) 35 0 (am_args 0 [y0, .int y1, .int y2, .int y3]) [] h (fun q => q = o)) (qc_40 : ∀ (y0 : Value) (y1 : Int32) (y2 : Int32) (y3 : Int32) (h : am_H) (o : am_O), (am_isR y0 = true) → rc_40 y0 y1 y2 y3 h = some o → am_W X (d + 3) 40 0 (am_args 0 [y0, .int y1, .int y2, .int y3]) [] h (fun q => q = o)) : ∀ (K : Nat) (x0 : Value) (x2 : Int32) (x3 : Int32) (x5 : Int32) (x6 : Int32) (h : am_H) (o : am_O), fg_40_72 N rc_35 rc_40 K x0 x2 x3 x5 x6 h = some o → ∀ lv : am_LV, (lv.lookup 0 = some x0) → (lv.lookup 2 = some (.int x2)) → (lv.lookup 3 = some (.int x3)) → (lv.lookup 5 = some (.int x5)) → (lv.lookup 6 = some (.int x6)) → (am_isR x0 = true) → am_W X (d + 4) 40 72 lv [] h (fun q => q = o) := by
  intro K
  induction K with
  | zero => intro x0 x2 x3 x5 x6 h o hs; cases hs
  | succ K ih =>
    intro x0 x2 x3 x5 x6 h o hs lv l0 l2 l3 l5 l6 i0
    unfold fg_40_72 at hs
    refine aw_iload (pc1 := 74) at_40_72 l6 rfl ?_
    refine aw_iload (pc1 := 76) at_40_74 l5 rfl ?_
    refine aw_call (F := fm_14 x5 h) (t := false) (na := 1) (kd := 0) (as := [(.int x5)]) at_40_76 (am_k3s kb_14) mn_14 mk_14 rfl rfl (am_ok_s mi_14 (am_hl rfl (am_ccI am_cats_0) rfl)) (am_hc (am_ccI am_cats_0) rfl) (fun hz9 => by cases hz9) (fun o1 hz9 => rm_14 x5 h o1  hz9) ?_
    rcases am_cI_s hs with ⟨v1, h2, f3, hs1⟩ | hs1
    · clear hs
      refine Or.inl ⟨_, _, f3, ?_⟩
      show am_W X _ 40 79 _ [(.int v1), (.int x6)] h2 _
      by_cases c4 : v1 ≤ x6
      · rw [if_pos c4] at hs1
        refine aw_icge_t at_40_79 c4 ?_
        exact rg_40_133 qc_35 qc_40 x0 h2 o l0 i0 hs1
      · rw [if_neg c4] at hs1
        refine aw_icge_f (pc1 := 82) at_40_79 c4 rfl ?_
        refine aw_vload_n (pc1 := 83) at_40_82 l0 i0 rfl ?_
        refine aw_bipush (v := 32) (pc1 := 85) at_40_83 (by decide) rfl ?_
        obtain ⟨z5, hs2⟩ := am_ift hs1
        clear hs1
        refine aw_call (F := fm_42 x0 32 h2) (t := true) (na := 2) (kd := 1) (as := [x0, (.int 32)]) at_40_85 (am_k3v kb_42) mn_42 mk_42 rfl rfl (am_ok_v mi_42 (am_hl rfl (am_ccR i0 (am_ccI am_cats_0)) rfl) z5) (am_hc am_cats_0 rfl) (fun _ => ⟨rfl, hh_40⟩) (fun o1 hz9 => rm_42 x0 32 h2 o1 i0 hz9) ?_
        rcases am_cI_s hs2 with ⟨v6, h7, f8, hs3⟩ | hs3
        · clear hs2
          refine Or.inl ⟨_, _, f8, ?_⟩
          show am_W X _ 40 88 _ [(.int v6)] h7 _
          by_cases c9 : v6 = 0
          · rw [if_pos c9] at hs3
            refine aw_ifeq_t at_40_88 c9 ?_
            exact rg_40_133 qc_35 qc_40 x0 h7 o l0 i0 hs3
          · rw [if_neg c9] at hs3
            refine aw_ifeq_f (pc1 := 91) at_40_88 c9 rfl ?_
            refine aw_vload_n (pc1 := 92) at_40_91 l0 i0 rfl ?_
            refine aw_iload (pc1 := 94) at_40_92 l5 rfl ?_
            refine aw_iload (pc1 := 96) at_40_94 l6 rfl ?_
            refine aw_call (F := fm_13 x5 x6 h7) (t := false) (na := 2) (kd := 0) (as := [(.int x5), (.int x6)]) at_40_96 (am_k3s kb_13) mn_13 mk_13 rfl rfl (am_ok_s mi_13 (am_hl rfl (am_ccI (am_ccI am_cats_0)) rfl)) (am_hc (am_ccR i0 am_cats_0) rfl) (fun hz9 => by cases hz9) (fun o1 hz9 => rm_13 x5 x6 h7 o1  hz9) ?_
            rcases am_cI_s hs3 with ⟨v10, h11, f12, hs4⟩ | hs4
            · clear hs3
              refine Or.inl ⟨_, _, f12, ?_⟩
              show am_W X _ 40 99 _ [(.int v10), x0] h11 _
              refine aw_iload_n (pc1 := 100) at_40_99 l2 rfl ?_
              refine aw_iconst (v := 1) (pc1 := 101) at_40_100 (by decide) rfl ?_
              refine aw_iadd (v := (x2 + 1)) (pc1 := 102) at_40_101 rfl rfl ?_
              refine aw_iload_n (pc1 := 103) at_40_102 l3 rfl ?_
              by_cases c13 : ¬ x3 = 0
              · rw [if_pos c13] at hs4
                refine aw_ifne_t at_40_103 c13 ?_
                exact rg_40_119 (fun z0 z1 z2 z3 z4 h o hs4 => ih z0 z1 z2 z3 z4 h o hs4) qc_35 qc_40 x0 x2 x3 x5 x6 x0 v10 ((x2 + 1)) h11 o l0 l2 l3 l5 l6 i0 i0 hs4
              · rw [if_neg c13] at hs4
                refine aw_ifne_f (pc1 := 106) at_40_103 c13 rfl ?_
                refine aw_iload (pc1 := 108) at_40_106 l5 rfl ?_
                refine aw_bipush (v := 19) (pc1 := 110) at_40_108 (by decide) rfl ?_
                by_cases c14 : ¬ x5 = 19
                · rw [if_pos c14] at hs4
                  refine aw_icne_t at_40_110 c14 ?_
                  exact rg_40_123 (fun z0 z1 z2 z3 z4 h o hs4 => ih z0 z1 z2 z3 z4 h o hs4) qc_35 qc_40 x0 x2 x3 x5 x6 x0 v10 ((x2 + 1)) h11 o l0 l2 l3 l5 l6 i0 i0 hs4
                · rw [if_neg c14] at hs4
                  refine aw_icne_f (pc1 := 113) at_40_110 c14 rfl ?_
                  refine aw_iload (pc1 := 115) at_40_113 l6 rfl ?_
                  refine aw_iconst (v := 1) (pc1 := 116) at_40_115 (by decide) rfl ?_
                  by_cases c15 : ¬ x6 = 1
                  · rw [if_pos c15] at hs4
                    refine aw_icne_t at_40_116 c15 ?_
                    exact rg_40_123 (fun z0 z1 z2 z3 z4 h o hs4 => ih z0 z1 z2 z3 z4 h o hs4) qc_35 qc_40 x0 x2 x3 x5 x6 x0 v10 ((x2 + 1)) h11 o l0 l2 l3 l5 l6 i0 i0 hs4
                  · rw [if_neg c15] at hs4
                    refine aw_icne_f (pc1 := 119) at_40_116 c15 rfl ?_
                    exact rg_40_119 (fun z0 z1 z2 z3 z4 h o hs4 => ih z0 z1 z2 z3 z4 h o hs4) qc_35 qc_40 x0 x2 x3 x5 x6 x0 v10 ((x2 + 1)) h11 o l0 l2 l3 l5 l6 i0 i0 hs4
            · clear hs3
              exact Or.inr hs4
        · clear hs2
          exact Or.inr hs3
    · clear hs
      exact Or.inr hs1
def fg_40_48 (N : Nat) (rc_35 : Value → Int32 → Int32 → Int32 → am_H → Option am_O) (rc_40 : Value → Int32 → Int32 → Int32 → am_H → Option am_O) (x0 : Value) (x2 : Int32) (x3 : Int32) (x5 : Int32) (h : am_H) : Option am_O := ((am_vI (am_pG 2306 x0 h)).bind fun v1 => ((am_pP 2306 x0 (.int (v1 + 1)) h).bind fun h3 => ((am_vR (am_pG 2308 x0 h3)).bind fun v5 => (if am_pOk 3 v5 h3 then am_cI true (fm_41 N v5 x5 0 h3) (fun v8 h9 => (fg_40_72 N rc_35 rc_40 N x0 x2 x3 x5 0 h9)) else none))))
theorem rg_40_48 {X : am_X} {d : Nat} {N : Nat} {rc_35 : Value → Int32 → Int32 → Int32 → am_H → Option am_O} {rc_40 : Value → Int32 → Int32 → Int32 → am_H → Option am_O} (qc_35 : ∀ (y0 : Value) (y1 : Int32) (y2 : Int32) (y3 : Int32) (h : am_H) (o : am_O), (am_isR y0 = true) → rc_35 y0 y1 y2 y3 h = some o → am_W X (d + 3) 35 0 (am_args 0 [y0, .int y1, .int y2, .int y3]) [] h (fun q => q = o)) (qc_40 : ∀ (y0 : Value) (y1 : Int32) (y2 : Int32) (y3 : Int32) (h : am_H) (o : am_O), (am_isR y0 = true) → rc_40 y0 y1 y2 y3 h = some o → am_W X (d + 3) 40 0 (am_args 0 [y0, .int y1, .int y2, .int y3]) [] h (fun q => q = o)) {lv : am_LV} (x0 : Value) (x2 : Int32) (x3 : Int32) (x5 : Int32) (h : am_H) (o : am_O) (l0 : lv.lookup 0 = some x0) (l2 : lv.lookup 2 = some (.int x2)) (l3 : lv.lookup 3 = some (.int x3)) (l5 : lv.lookup 5 = some (.int x5)) (i0 : am_isR x0 = true) (hs : fg_40_48 N rc_35 rc_40 x0 x2 x3 x5 h = some o) : am_W X (d + 4) 40 48 lv [] h (fun q => q = o) := by
  unfold fg_40_48 at hs
  refine aw_vload_n (pc1 := 49) at_40_48 l0 i0 rfl ?_
  refine aw_vdup (pc1 := 50) at_40_49 i0 rfl ?_
  obtain ⟨v1, e2, hs1⟩ := am_bind hs
  clear hs
  refine aw_pG (pc1 := 53) at_40_50 (am_vI_s e2) rfl ?_
  refine aw_iconst (v := 1) (pc1 := 54) at_40_53 (by decide) rfl ?_
  refine aw_iadd (v := (v1 + 1)) (pc1 := 55) at_40_54 rfl rfl ?_
  obtain ⟨h3, e4, hs2⟩ := am_bind hs1
  clear hs1
  refine aw_pP (pc1 := 58) at_40_55 e4 rfl ?_
  refine aw_vload_n (pc1 := 59) at_40_58 l0 i0 rfl ?_
  obtain ⟨v5, e6, hs3⟩ := am_bind hs2
  clear hs2
  refine aw_pG (pc1 := 62) at_40_59 (am_vR_s e6).1 rfl ?_
  refine aw_iload (pc1 := 64) at_40_62 l5 rfl ?_
  refine aw_iconst (v := 0) (pc1 := 65) at_40_64 (by decide) rfl ?_
  obtain ⟨z7, hs4⟩ := am_ift hs3
  clear hs3
  refine aw_call (F := fm_41 N v5 x5 0 h3) (t := true) (na := 3) (kd := 1) (as := [v5, (.int x5), (.int 0)]) at_40_65 (am_k3v kb_41) mn_41 mk_41 rfl rfl (am_ok_v mi_41 (am_hl rfl (am_ccR (am_vR_s e6).2 (am_ccI (am_ccI am_cats_0))) rfl) z7) (am_hc am_cats_0 rfl) (fun _ => ⟨rfl, hh_40⟩) (fun o1 hz9 => rm_41 v5 x5 0 h3 o1 (am_vR_s e6).2 hz9) ?_
  rcases am_cI_s hs4 with ⟨v8, h9, f10, hs5⟩ | hs5
  · clear hs4
    refine Or.inl ⟨_, _, f10, ?_⟩
    show am_W X _ 40 68 _ [(.int v8)] h9 _
    refine aw_popi (pc1 := 69) at_40_68 rfl ?_
    refine aw_iconst (v := 0) (pc1 := 70) at_40_69 (by decide) rfl ?_
    refine aw_istore (lv1 := am_put1 _ 6 _) (pc1 := 72) at_40_70 rfl rfl ?_
    exact rg_40_72 qc_35 qc_40 N x0 x2 x3 x5 0 h9 o hs5 _ (am_lk1 l0 rfl rfl) (am_lk1 l2 rfl rfl) (am_lk1 l3 rfl rfl) (am_lk1 l5 rfl rfl) am_lk0 i0
  · clear hs4
    exact Or.inr hs5
def fg_40_43 (N : Nat) (rc_35 : Value → Int32 → Int32 → Int32 → am_H → Option am_O) (rc_40 : Value → Int32 → Int32 → Int32 → am_H → Option am_O) (x0 : Value) (h : am_H) : Option am_O := (if am_pOk 9 x0 h then am_cV true (fm_39 x0 h) (fun h3 => some (.inl (none, h3))) else none)
theorem rg_40_43 {X : am_X} {d : Nat} {N : Nat} {rc_35 : Value → Int32 → Int32 → Int32 → am_H → Option am_O} {rc_40 : Value → Int32 → Int32 → Int32 → am_H → Option am_O} (qc_35 : ∀ (y0 : Value) (y1 : Int32) (y2 : Int32) (y3 : Int32) (h : am_H) (o : am_O), (am_isR y0 = true) → rc_35 y0 y1 y2 y3 h = some o → am_W X (d + 3) 35 0 (am_args 0 [y0, .int y1, .int y2, .int y3]) [] h (fun q => q = o)) (qc_40 : ∀ (y0 : Value) (y1 : Int32) (y2 : Int32) (y3 : Int32) (h : am_H) (o : am_O), (am_isR y0 = true) → rc_40 y0 y1 y2 y3 h = some o → am_W X (d + 3) 40 0 (am_args 0 [y0, .int y1, .int y2, .int y3]) [] h (fun q => q = o)) {lv : am_LV} (x0 : Value) (h : am_H) (o : am_O) (l0 : lv.lookup 0 = some x0) (i0 : am_isR x0 = true) (hs : fg_40_43 N rc_35 rc_40 x0 h = some o) : am_W X (d + 4) 40 43 lv [] h (fun q => q = o) := by
  unfold fg_40_43 at hs
  refine aw_vload_n (pc1 := 44) at_40_43 l0 i0 rfl ?_
  obtain ⟨z1, hs1⟩ := am_ift hs
  clear hs
  refine aw_call (F := fm_39 x0 h) (t := true) (na := 1) (kd := 1) (as := [x0]) at_40_44 (am_k3v kb_39) mn_39 mk_39 rfl rfl (am_ok_v mi_39 (am_hl rfl (am_ccR i0 am_cats_0) rfl) z1) (am_hc am_cats_0 rfl) (fun _ => ⟨rfl, hh_40⟩) (fun o1 hz9 => rm_39 x0 h o1 i0 hz9) ?_
  rcases am_cV_s hs1 with ⟨h3, f4, hs2⟩ | hs2
  · clear hs1
    refine Or.inl ⟨_, _, f4, ?_⟩
    show am_W X _ 40 47 _ [] h3 _
    cases hs2
    exact aw_vret at_40_47 rt_40 rfl
  · clear hs1
    exact Or.inr hs2
def fg_40_0 (N : Nat) (rc_35 : Value → Int32 → Int32 → Int32 → am_H → Option am_O) (rc_40 : Value → Int32 → Int32 → Int32 → am_H → Option am_O) (x0 : Value) (x1 : Int32) (x2 : Int32) (x3 : Int32) (h : am_H) : Option am_O := (if am_pOk 9 x0 h then am_cI true (fm_36 x0 h) (fun v2 h3 => (if (am_ixF v2 (am_txt 4) 0) < 0 then (fg_40_43 N rc_35 rc_40 x0 h3) else am_cI false (fm_11 (((am_ixF v2 (am_txt 4) 0) + 7)) h3) (fun v6 h7 => (if ¬ v6 = x1 then (fg_40_43 N rc_35 rc_40 x0 h7) else (if ¬ ((am_ixF v2 (am_txt 4) 0) + 7) = 19 then (fg_40_48 N rc_35 rc_40 x0 x2 x3 (((am_ixF v2 (am_txt 4) 0) + 7)) h7) else (if x3 = 0 then (fg_40_48 N rc_35 rc_40 x0 x2 x3 (((am_ixF v2 (am_txt 4) 0) + 7)) h7) else (fg_40_43 N rc_35 rc_40 x0 h7))))))) else none)
theorem rg_40_0 {X : am_X} {d : Nat} {N : Nat} {rc_35 : Value → Int32 → Int32 → Int32 → am_H → Option am_O} {rc_40 : Value → Int32 → Int32 → Int32 → am_H → Option am_O} (qc_35 : ∀ (y0 : Value) (y1 : Int32) (y2 : Int32) (y3 : Int32) (h : am_H) (o : am_O), (am_isR y0 = true) → rc_35 y0 y1 y2 y3 h = some o → am_W X (d + 3) 35 0 (am_args 0 [y0, .int y1, .int y2, .int y3]) [] h (fun q => q = o)) (qc_40 : ∀ (y0 : Value) (y1 : Int32) (y2 : Int32) (y3 : Int32) (h : am_H) (o : am_O), (am_isR y0 = true) → rc_40 y0 y1 y2 y3 h = some o → am_W X (d + 3) 40 0 (am_args 0 [y0, .int y1, .int y2, .int y3]) [] h (fun q => q = o)) {lv : am_LV} (x0 : Value) (x1 : Int32) (x2 : Int32) (x3 : Int32) (h : am_H) (o : am_O) (l0 : lv.lookup 0 = some x0) (l1 : lv.lookup 1 = some (.int x1)) (l2 : lv.lookup 2 = some (.int x2)) (l3 : lv.lookup 3 = some (.int x3)) (i0 : am_isR x0 = true) (hs : fg_40_0 N rc_35 rc_40 x0 x1 x2 x3 h = some o) : am_W X (d + 4) 40 0 lv [] h (fun q => q = o) := by
  unfold fg_40_0 at hs
  refine am_W.ldt at_40_0 rfl ?_
  show am_W _ _ _ 2 _ [(Value.float 4)] _ _
  refine aw_vload_n (pc1 := 3) at_40_2 l0 i0 rfl ?_
  obtain ⟨z1, hs1⟩ := am_ift hs
  clear hs
  refine aw_call (F := fm_36 x0 h) (t := true) (na := 1) (kd := 1) (as := [x0]) at_40_3 (am_k3v kb_36) mn_36 mk_36 rfl rfl (am_ok_v mi_36 (am_hl rfl (am_ccR i0 am_cats_0) rfl) z1) (am_hc (am_ccR rfl am_cats_0) rfl) (fun _ => ⟨rfl, hh_40⟩) (fun o1 hz9 => rm_36 x0 h o1 i0 hz9) ?_
  rcases am_cI_s hs1 with ⟨v2, h3, f4, hs2⟩ | hs2
  · clear hs1
    refine Or.inl ⟨_, _, f4, ?_⟩
    show am_W X _ 40 6 _ [(.int v2), (Value.float 4)] h3 _
    refine am_W.idx at_40_6 rfl rfl (am_hc am_cats_0 rfl) ?_
    show am_W _ _ _ 9 _ [(.int (am_ixF v2 (am_txt 4) 0))] _ _
    refine aw_istore (lv1 := am_put1 _ 4 _) (pc1 := 11) at_40_9 rfl rfl ?_
    refine aw_iload (pc1 := 13) at_40_11 am_lk0 rfl ?_
    refine aw_bipush (v := 7) (pc1 := 15) at_40_13 (by decide) rfl ?_
    refine aw_iadd (v := ((am_ixF v2 (am_txt 4) 0) + 7)) (pc1 := 16) at_40_15 rfl rfl ?_
    refine aw_istore (lv1 := am_put1 _ 5 _) (pc1 := 18) at_40_16 rfl rfl ?_
    refine aw_iload (pc1 := 20) at_40_18 (am_lk1 am_lk0 rfl rfl) rfl ?_
    by_cases c5 : (am_ixF v2 (am_txt 4) 0) < 0
    · rw [if_pos c5] at hs2
      refine aw_iflt_t at_40_20 c5 ?_
      exact rg_40_43 qc_35 qc_40 x0 h3 o (am_lk1 (am_lk1 l0 rfl rfl) rfl rfl) i0 hs2
    · rw [if_neg c5] at hs2
      refine aw_iflt_f (pc1 := 23) at_40_20 c5 rfl ?_
      refine aw_iload (pc1 := 25) at_40_23 am_lk0 rfl ?_
      refine aw_call (F := fm_11 (((am_ixF v2 (am_txt 4) 0) + 7)) h3) (t := false) (na := 1) (kd := 0) (as := [(.int ((am_ixF v2 (am_txt 4) 0) + 7))]) at_40_25 (am_k3s kb_11) mn_11 mk_11 rfl rfl (am_ok_s mi_11 (am_hl rfl (am_ccI am_cats_0) rfl)) (am_hc am_cats_0 rfl) (fun hz9 => by cases hz9) (fun o1 hz9 => rm_11 (((am_ixF v2 (am_txt 4) 0) + 7)) h3 o1  hz9) ?_
      rcases am_cI_s hs2 with ⟨v6, h7, f8, hs3⟩ | hs3
      · clear hs2
        refine Or.inl ⟨_, _, f8, ?_⟩
        show am_W X _ 40 28 _ [(.int v6)] h7 _
        refine aw_iload_n (pc1 := 29) at_40_28 (am_lk1 (am_lk1 l1 rfl rfl) rfl rfl) rfl ?_
        by_cases c9 : ¬ v6 = x1
        · rw [if_pos c9] at hs3
          refine aw_icne_t at_40_29 c9 ?_
          exact rg_40_43 qc_35 qc_40 x0 h7 o (am_lk1 (am_lk1 l0 rfl rfl) rfl rfl) i0 hs3
        · rw [if_neg c9] at hs3
          refine aw_icne_f (pc1 := 32) at_40_29 c9 rfl ?_
          refine aw_iload (pc1 := 34) at_40_32 am_lk0 rfl ?_
          refine aw_bipush (v := 19) (pc1 := 36) at_40_34 (by decide) rfl ?_
          by_cases c10 : ¬ ((am_ixF v2 (am_txt 4) 0) + 7) = 19
          · rw [if_pos c10] at hs3
            refine aw_icne_t at_40_36 c10 ?_
            exact rg_40_48 qc_35 qc_40 x0 x2 x3 (((am_ixF v2 (am_txt 4) 0) + 7)) h7 o (am_lk1 (am_lk1 l0 rfl rfl) rfl rfl) (am_lk1 (am_lk1 l2 rfl rfl) rfl rfl) (am_lk1 (am_lk1 l3 rfl rfl) rfl rfl) am_lk0 i0 hs3
          · rw [if_neg c10] at hs3
            refine aw_icne_f (pc1 := 39) at_40_36 c10 rfl ?_
            refine aw_iload_n (pc1 := 40) at_40_39 (am_lk1 (am_lk1 l3 rfl rfl) rfl rfl) rfl ?_
            by_cases c11 : x3 = 0
            · rw [if_pos c11] at hs3
              refine aw_ifeq_t at_40_40 c11 ?_
              exact rg_40_48 qc_35 qc_40 x0 x2 x3 (((am_ixF v2 (am_txt 4) 0) + 7)) h7 o (am_lk1 (am_lk1 l0 rfl rfl) rfl rfl) (am_lk1 (am_lk1 l2 rfl rfl) rfl rfl) (am_lk1 (am_lk1 l3 rfl rfl) rfl rfl) am_lk0 i0 hs3
            · rw [if_neg c11] at hs3
              refine aw_ifeq_f (pc1 := 43) at_40_40 c11 rfl ?_
              exact rg_40_43 qc_35 qc_40 x0 h7 o (am_lk1 (am_lk1 l0 rfl rfl) rfl rfl) i0 hs3
      · clear hs2
        exact Or.inr hs3
  · clear hs1
    exact Or.inr hs2
def fo_40 (N : Nat) (rc_35 : Value → Int32 → Int32 → Int32 → am_H → Option am_O) (rc_40 : Value → Int32 → Int32 → Int32 → am_H → Option am_O) (y0 : Value) (y1 : Int32) (y2 : Int32) (y3 : Int32) (h : am_H) : Option am_O := fg_40_0 N rc_35 rc_40 y0 y1 y2 y3 h
theorem ro_40 {X : am_X} {d : Nat} {N : Nat} {rc_35 : Value → Int32 → Int32 → Int32 → am_H → Option am_O} {rc_40 : Value → Int32 → Int32 → Int32 → am_H → Option am_O} (qc_35 : ∀ (y0 : Value) (y1 : Int32) (y2 : Int32) (y3 : Int32) (h : am_H) (o : am_O), (am_isR y0 = true) → rc_35 y0 y1 y2 y3 h = some o → am_W X (d + 3) 35 0 (am_args 0 [y0, .int y1, .int y2, .int y3]) [] h (fun q => q = o)) (qc_40 : ∀ (y0 : Value) (y1 : Int32) (y2 : Int32) (y3 : Int32) (h : am_H) (o : am_O), (am_isR y0 = true) → rc_40 y0 y1 y2 y3 h = some o → am_W X (d + 3) 40 0 (am_args 0 [y0, .int y1, .int y2, .int y3]) [] h (fun q => q = o)) (y0 : Value) (y1 : Int32) (y2 : Int32) (y3 : Int32) (h : am_H) (o : am_O) (i0 : am_isR y0 = true) (hs : fo_40 N rc_35 rc_40 y0 y1 y2 y3 h = some o) : am_W X (d + 4) 40 0 (am_args 0 [y0, .int y1, .int y2, .int y3]) [] h (fun q => q = o) := by
  rw [am_args_R i0, am_args_I, am_args_I, am_args_I]
  exact rg_40_0 qc_35 qc_40 y0 y1 y2 y3 h o rfl rfl rfl rfl i0 hs
def gr_35 (N : Nat) : Nat → Nat → List Value → am_H → Option am_O
  | 0 => fun _ _ _ => none
  | K + 1 => fun w as h => match w, as with
    | 35, [y0, .int y1, .int y2, .int y3] => fo_35 N (fun y0 y1 y2 y3 h => gr_35 N K 35 [y0, .int y1, .int y2, .int y3] h) (fun y0 y1 y2 y3 h => gr_35 N K 40 [y0, .int y1, .int y2, .int y3] h) y0 y1 y2 y3 h
    | 40, [y0, .int y1, .int y2, .int y3] => fo_40 N (fun y0 y1 y2 y3 h => gr_35 N K 35 [y0, .int y1, .int y2, .int y3] h) (fun y0 y1 y2 y3 h => gr_35 N K 40 [y0, .int y1, .int y2, .int y3] h) y0 y1 y2 y3 h
    | _, _ => none
theorem gs_35 {X : am_X} {d N : Nat} : ∀ K : Nat, (∀ (y0 : Value) (y1 : Int32) (y2 : Int32) (y3 : Int32) (h : am_H) (o : am_O), (am_isR y0 = true) → gr_35 N K 35 [y0, .int y1, .int y2, .int y3] h = some o → am_W X (d + 4 * K) 35 0 (am_args 0 [y0, .int y1, .int y2, .int y3]) [] h (fun q => q = o)) ∧ (∀ (y0 : Value) (y1 : Int32) (y2 : Int32) (y3 : Int32) (h : am_H) (o : am_O), (am_isR y0 = true) → gr_35 N K 40 [y0, .int y1, .int y2, .int y3] h = some o → am_W X (d + 4 * K) 40 0 (am_args 0 [y0, .int y1, .int y2, .int y3]) [] h (fun q => q = o)) := by
  intro K
  induction K with
  | zero => exact ⟨fun _ _ _ _ h o _ hs => (by cases hs), fun _ _ _ _ h o _ hs => (by cases hs)⟩
  | succ K ih =>
    obtain ⟨q35, q40⟩ := ih
    have up : d + 4 * K ≤ d + 4 * K + 3 := Nat.le_add_right _ _
    have eD : d + 4 * (K + 1) = d + 4 * K + 4 := by rw [Nat.mul_succ, Nat.add_assoc]
    rw [eD]
    refine ⟨?_, ?_⟩
    · intro y0 y1 y2 y3 h o i0 hs
      exact ro_35 (fun w0 w1 w2 w3 h o k0 hs => (q35 w0 w1 w2 w3 h o k0 hs).up up) (fun w0 w1 w2 w3 h o k0 hs => (q40 w0 w1 w2 w3 h o k0 hs).up up) y0 y1 y2 y3 h o i0 hs
    · intro y0 y1 y2 y3 h o i0 hs
      exact ro_40 (fun w0 w1 w2 w3 h o k0 hs => (q35 w0 w1 w2 w3 h o k0 hs).up up) (fun w0 w1 w2 w3 h o k0 hs => (q40 w0 w1 w2 w3 h o k0 hs).up up) y0 y1 y2 y3 h o i0 hs
def fm_35 (N : Nat) (y0 : Value) (y1 : Int32) (y2 : Int32) (y3 : Int32) (h : am_H) : Option am_O := gr_35 N 40 35 [y0, .int y1, .int y2, .int y3] h
theorem rm_35 {X : am_X} {d : Nat} {N : Nat} (y0 : Value) (y1 : Int32) (y2 : Int32) (y3 : Int32) (h : am_H) (o : am_O) (i0 : am_isR y0 = true) (hs : fm_35 N y0 y1 y2 y3 h = some o) : am_W X (d + 160) 35 0 (am_args 0 [y0, .int y1, .int y2, .int y3]) [] h (fun q => q = o) := (gs_35 (X := X) (d := d) (N := N) 40).1 y0 y1 y2 y3 h o i0 hs
def fm_40 (N : Nat) (y0 : Value) (y1 : Int32) (y2 : Int32) (y3 : Int32) (h : am_H) : Option am_O := gr_35 N 40 40 [y0, .int y1, .int y2, .int y3] h
theorem rm_40 {X : am_X} {d : Nat} {N : Nat} (y0 : Value) (y1 : Int32) (y2 : Int32) (y3 : Int32) (h : am_H) (o : am_O) (i0 : am_isR y0 = true) (hs : fm_40 N y0 y1 y2 y3 h = some o) : am_W X (d + 160) 40 0 (am_args 0 [y0, .int y1, .int y2, .int y3]) [] h (fun q => q = o) := (gs_35 (X := X) (d := d) (N := N) 40).2 y0 y1 y2 y3 h o i0 hs
def fg_47_25 (x0 : Value) (h : am_H) : Option am_O := (if am_pOk 9 x0 h then am_cV true (fm_39 x0 h) (fun h3 => some (.inl (some (.int 0), h3))) else none)
theorem rg_47_25 {X : am_X} {d : Nat} {lv : am_LV} (x0 : Value) (h : am_H) (o : am_O) (l0 : lv.lookup 0 = some x0) (i0 : am_isR x0 = true) (hs : fg_47_25 x0 h = some o) : am_W X (d + 1) 47 25 lv [] h (fun q => q = o) := by
  unfold fg_47_25 at hs
  refine aw_vload_n (pc1 := 26) at_47_25 l0 i0 rfl ?_
  obtain ⟨z1, hs1⟩ := am_ift hs
  clear hs
  refine aw_call (F := fm_39 x0 h) (t := true) (na := 1) (kd := 1) (as := [x0]) at_47_26 (am_k3v kb_39) mn_39 mk_39 rfl rfl (am_ok_v mi_39 (am_hl rfl (am_ccR i0 am_cats_0) rfl) z1) (am_hc am_cats_0 rfl) (fun _ => ⟨rfl, hh_47⟩) (fun o1 hz9 => rm_39 x0 h o1 i0 hz9) ?_
  rcases am_cV_s hs1 with ⟨h3, f4, hs2⟩ | hs2
  · clear hs1
    refine Or.inl ⟨_, _, f4, ?_⟩
    show am_W X _ 47 29 _ [] h3 _
    refine aw_iconst (v := 0) (pc1 := 30) at_47_29 (by decide) rfl ?_
    cases hs2
    exact aw_iret at_47_30 (by rw [rt_47]; rfl) rfl
  · clear hs1
    exact Or.inr hs2
def fg_47_0 (x0 : Value) (x1 : Int32) (x2 : Int32) (h : am_H) : Option am_O := (if am_pOk 9 x0 h then am_cI true (fm_36 x0 h) (fun v2 h3 => ((am_vI (am_pG 2307 x0 h3)).bind fun v5 => (if 0 ≤ v5 then (fg_47_25 x0 h3) else (if (v2 - 48) < x1 then (fg_47_25 x0 h3) else (if (v2 - 48) ≤ x2 then ((am_vI (am_pG 2306 x0 h3)).bind fun v10 => ((am_pP 2306 x0 (.int (v10 + 1)) h3).bind fun h12 => some (.inl (some (.int (v2 - 48)), h12)))) else (fg_47_25 x0 h3)))))) else none)
theorem rg_47_0 {X : am_X} {d : Nat} {lv : am_LV} (x0 : Value) (x1 : Int32) (x2 : Int32) (h : am_H) (o : am_O) (l0 : lv.lookup 0 = some x0) (l1 : lv.lookup 1 = some (.int x1)) (l2 : lv.lookup 2 = some (.int x2)) (i0 : am_isR x0 = true) (hs : fg_47_0 x0 x1 x2 h = some o) : am_W X (d + 1) 47 0 lv [] h (fun q => q = o) := by
  unfold fg_47_0 at hs
  refine aw_vload_n (pc1 := 1) at_47_0 l0 i0 rfl ?_
  obtain ⟨z1, hs1⟩ := am_ift hs
  clear hs
  refine aw_call (F := fm_36 x0 h) (t := true) (na := 1) (kd := 1) (as := [x0]) at_47_1 (am_k3v kb_36) mn_36 mk_36 rfl rfl (am_ok_v mi_36 (am_hl rfl (am_ccR i0 am_cats_0) rfl) z1) (am_hc am_cats_0 rfl) (fun _ => ⟨rfl, hh_47⟩) (fun o1 hz9 => rm_36 x0 h o1 i0 hz9) ?_
  rcases am_cI_s hs1 with ⟨v2, h3, f4, hs2⟩ | hs2
  · clear hs1
    refine Or.inl ⟨_, _, f4, ?_⟩
    show am_W X _ 47 4 _ [(.int v2)] h3 _
    refine aw_bipush (v := 48) (pc1 := 6) at_47_4 (by decide) rfl ?_
    refine aw_isub (v := (v2 - 48)) (pc1 := 7) at_47_6 rfl rfl ?_
    refine aw_istore_n (lv1 := am_put1 _ 3 _) (pc1 := 8) at_47_7 rfl rfl ?_
    refine aw_vload_n (pc1 := 9) at_47_8 (am_lk1 l0 rfl rfl) i0 rfl ?_
    obtain ⟨v5, e6, hs3⟩ := am_bind hs2
    clear hs2
    refine aw_pG (pc1 := 12) at_47_9 (am_vI_s e6) rfl ?_
    by_cases c7 : 0 ≤ v5
    · rw [if_pos c7] at hs3
      refine aw_ifge_t at_47_12 c7 ?_
      exact rg_47_25 x0 h3 o (am_lk1 l0 rfl rfl) i0 hs3
    · rw [if_neg c7] at hs3
      refine aw_ifge_f (pc1 := 15) at_47_12 c7 rfl ?_
      refine aw_iload_n (pc1 := 16) at_47_15 am_lk0 rfl ?_
      refine aw_iload_n (pc1 := 17) at_47_16 (am_lk1 l1 rfl rfl) rfl ?_
      by_cases c8 : (v2 - 48) < x1
      · rw [if_pos c8] at hs3
        refine aw_iclt_t at_47_17 c8 ?_
        exact rg_47_25 x0 h3 o (am_lk1 l0 rfl rfl) i0 hs3
      · rw [if_neg c8] at hs3
        refine aw_iclt_f (pc1 := 20) at_47_17 c8 rfl ?_
        refine aw_iload_n (pc1 := 21) at_47_20 am_lk0 rfl ?_
        refine aw_iload_n (pc1 := 22) at_47_21 (am_lk1 l2 rfl rfl) rfl ?_
        by_cases c9 : (v2 - 48) ≤ x2
        · rw [if_pos c9] at hs3
          refine aw_icle_t at_47_22 c9 ?_
          refine aw_vload_n (pc1 := 32) at_47_31 (am_lk1 l0 rfl rfl) i0 rfl ?_
          refine aw_vdup (pc1 := 33) at_47_32 i0 rfl ?_
          obtain ⟨v10, e11, hs4⟩ := am_bind hs3
          clear hs3
          refine aw_pG (pc1 := 36) at_47_33 (am_vI_s e11) rfl ?_
          refine aw_iconst (v := 1) (pc1 := 37) at_47_36 (by decide) rfl ?_
          refine aw_iadd (v := (v10 + 1)) (pc1 := 38) at_47_37 rfl rfl ?_
          obtain ⟨h12, e13, hs5⟩ := am_bind hs4
          clear hs4
          refine aw_pP (pc1 := 41) at_47_38 e13 rfl ?_
          refine aw_iload_n (pc1 := 42) at_47_41 am_lk0 rfl ?_
          cases hs5
          exact aw_iret at_47_42 (by rw [rt_47]; rfl) rfl
        · rw [if_neg c9] at hs3
          refine aw_icle_f (pc1 := 25) at_47_22 c9 rfl ?_
          exact rg_47_25 x0 h3 o (am_lk1 l0 rfl rfl) i0 hs3
  · clear hs1
    exact Or.inr hs2
def fm_47 (y0 : Value) (y1 : Int32) (y2 : Int32) (h : am_H) : Option am_O := fg_47_0 y0 y1 y2 h
theorem rm_47 {X : am_X} {d : Nat} (y0 : Value) (y1 : Int32) (y2 : Int32) (h : am_H) (o : am_O) (i0 : am_isR y0 = true) (hs : fm_47 y0 y1 y2 h = some o) : am_W X (d + 1) 47 0 (am_args 0 [y0, .int y1, .int y2]) [] h (fun q => q = o) := by
  rw [am_args_R i0, am_args_I, am_args_I]
  exact rg_47_0 y0 y1 y2 h o rfl rfl rfl i0 hs
def fg_46_105 (N : Nat) (h : am_H) : Option am_O := some (.inl (none, h))
theorem rg_46_105 {X : am_X} {d : Nat} {N : Nat} {lv : am_LV} (h : am_H) (o : am_O) (hs : fg_46_105 N h = some o) : am_W X (d + 2) 46 105 lv [] h (fun q => q = o) := by
  unfold fg_46_105 at hs
  cases hs
  exact aw_vret at_46_105 rt_46 rfl
def fg_46_71 (N : Nat) (rec_26 : Value → Int32 → Int32 → am_H → Option am_O) (x0 : Value) (x1 : Int32) (x2 : Int32) (h : am_H) : Option am_O := (if am_pOk 9 x0 h then am_cI true (fm_47 x0 0 ((x1 - 1)) h) (fun v2 h3 => ((am_vR (am_pG 2308 x0 h3)).bind fun v5 => (if am_pOk 9 x0 h3 then am_cI true (fm_47 x0 ((v2 + 1)) ((x1 - 1)) h3) (fun v8 h9 => (if am_pOk 3 v5 h9 then am_cI true (fm_41 N v5 v2 v8 h9) (fun v12 h13 => (rec_26 x0 x1 ((x2 + 1)) h13)) else none)) else none))) else none)
theorem rg_46_71 {X : am_X} {d : Nat} {N : Nat} {rec_26 : Value → Int32 → Int32 → am_H → Option am_O} (q_26 : ∀ (x0 : Value) (x1 : Int32) (x2 : Int32) (h : am_H) (o : am_O), rec_26 x0 x1 x2 h = some o → ∀ lv : am_LV, (lv.lookup 0 = some x0) → (lv.lookup 1 = some (.int x1)) → (lv.lookup 2 = some (.int x2)) → (am_isR x0 = true) → am_W X (d + 2) 46 26 lv [] h (fun q => q = o)) {lv : am_LV} (x0 : Value) (x1 : Int32) (x2 : Int32) (h : am_H) (o : am_O) (l0 : lv.lookup 0 = some x0) (l1 : lv.lookup 1 = some (.int x1)) (l2 : lv.lookup 2 = some (.int x2)) (i0 : am_isR x0 = true) (hs : fg_46_71 N rec_26 x0 x1 x2 h = some o) : am_W X (d + 2) 46 71 lv [] h (fun q => q = o) := by
  unfold fg_46_71 at hs
  refine aw_vload_n (pc1 := 72) at_46_71 l0 i0 rfl ?_
  refine aw_iconst (v := 0) (pc1 := 73) at_46_72 (by decide) rfl ?_
  refine aw_iload_n (pc1 := 74) at_46_73 l1 rfl ?_
  refine aw_iconst (v := 1) (pc1 := 75) at_46_74 (by decide) rfl ?_
  refine aw_isub (v := (x1 - 1)) (pc1 := 76) at_46_75 rfl rfl ?_
  obtain ⟨z1, hs1⟩ := am_ift hs
  clear hs
  refine aw_call (F := fm_47 x0 0 ((x1 - 1)) h) (t := true) (na := 3) (kd := 1) (as := [x0, (.int 0), (.int (x1 - 1))]) at_46_76 (am_k3v kb_47) mn_47 mk_47 rfl rfl (am_ok_v mi_47 (am_hl rfl (am_ccR i0 (am_ccI (am_ccI am_cats_0))) rfl) z1) (am_hc am_cats_0 rfl) (fun _ => ⟨rfl, hh_46⟩) (fun o1 hz9 => rm_47 x0 0 ((x1 - 1)) h o1 i0 hz9) ?_
  rcases am_cI_s hs1 with ⟨v2, h3, f4, hs2⟩ | hs2
  · clear hs1
    refine Or.inl ⟨_, _, f4, ?_⟩
    show am_W X _ 46 79 _ [(.int v2)] h3 _
    refine aw_istore_n (lv1 := am_put1 _ 3 _) (pc1 := 80) at_46_79 rfl rfl ?_
    refine aw_vload_n (pc1 := 81) at_46_80 (am_lk1 l0 rfl rfl) i0 rfl ?_
    obtain ⟨v5, e6, hs3⟩ := am_bind hs2
    clear hs2
    refine aw_pG (pc1 := 84) at_46_81 (am_vR_s e6).1 rfl ?_
    refine aw_iload_n (pc1 := 85) at_46_84 am_lk0 rfl ?_
    refine aw_vload_n (pc1 := 86) at_46_85 (am_lk1 l0 rfl rfl) i0 rfl ?_
    refine aw_iload_n (pc1 := 87) at_46_86 am_lk0 rfl ?_
    refine aw_iconst (v := 1) (pc1 := 88) at_46_87 (by decide) rfl ?_
    refine aw_iadd (v := (v2 + 1)) (pc1 := 89) at_46_88 rfl rfl ?_
    refine aw_iload_n (pc1 := 90) at_46_89 (am_lk1 l1 rfl rfl) rfl ?_
    refine aw_iconst (v := 1) (pc1 := 91) at_46_90 (by decide) rfl ?_
    refine aw_isub (v := (x1 - 1)) (pc1 := 92) at_46_91 rfl rfl ?_
    obtain ⟨z7, hs4⟩ := am_ift hs3
    clear hs3
    refine aw_call (F := fm_47 x0 ((v2 + 1)) ((x1 - 1)) h3) (t := true) (na := 3) (kd := 1) (as := [x0, (.int (v2 + 1)), (.int (x1 - 1))]) at_46_92 (am_k3v kb_47) mn_47 mk_47 rfl rfl (am_ok_v mi_47 (am_hl rfl (am_ccR i0 (am_ccI (am_ccI am_cats_0))) rfl) z7) (am_hc (am_ccI (am_ccR (am_vR_s e6).2 am_cats_0)) rfl) (fun _ => ⟨rfl, hh_46⟩) (fun o1 hz9 => rm_47 x0 ((v2 + 1)) ((x1 - 1)) h3 o1 i0 hz9) ?_
    rcases am_cI_s hs4 with ⟨v8, h9, f10, hs5⟩ | hs5
    · clear hs4
      refine Or.inl ⟨_, _, f10, ?_⟩
      show am_W X _ 46 95 _ [(.int v8), (.int v2), v5] h9 _
      obtain ⟨z11, hs6⟩ := am_ift hs5
      clear hs5
      refine aw_call (F := fm_41 N v5 v2 v8 h9) (t := true) (na := 3) (kd := 1) (as := [v5, (.int v2), (.int v8)]) at_46_95 (am_k3v kb_41) mn_41 mk_41 rfl rfl (am_ok_v mi_41 (am_hl rfl (am_ccR (am_vR_s e6).2 (am_ccI (am_ccI am_cats_0))) rfl) z11) (am_hc am_cats_0 rfl) (fun _ => ⟨rfl, hh_46⟩) (fun o1 hz9 => rm_41 v5 v2 v8 h9 o1 (am_vR_s e6).2 hz9) ?_
      rcases am_cI_s hs6 with ⟨v12, h13, f14, hs7⟩ | hs7
      · clear hs6
        refine Or.inl ⟨_, _, f14, ?_⟩
        show am_W X _ 46 98 _ [(.int v12)] h13 _
        refine aw_popi (pc1 := 99) at_46_98 rfl ?_
        refine aw_iinc (v := (x2 + 1)) (c := 1) (lv1 := am_put1 _ 2 _) (pc1 := 102) at_46_99 (am_lk1 l2 rfl rfl) (by decide) rfl rfl rfl ?_
        refine aw_goto at_46_102 ?_
        exact q_26 x0 x1 ((x2 + 1)) h13 o hs7 _ (am_lk1 (am_lk1 l0 rfl rfl) rfl rfl) (am_lk1 (am_lk1 l1 rfl rfl) rfl rfl) am_lk0 i0
      · clear hs6
        exact Or.inr hs7
    · clear hs4
      exact Or.inr hs5
  · clear hs1
    exact Or.inr hs2
def fg_46_61 (N : Nat) (rec_26 : Value → Int32 → Int32 → am_H → Option am_O) (x0 : Value) (x1 : Int32) (x2 : Int32) (h : am_H) : Option am_O := (if ¬ x2 = 40 then (fg_46_71 N rec_26 x0 x1 x2 h) else (if am_pOk 9 x0 h then am_cV true (fm_39 x0 h) (fun h4 => (fg_46_71 N rec_26 x0 x1 x2 h4)) else none))
theorem rg_46_61 {X : am_X} {d : Nat} {N : Nat} {rec_26 : Value → Int32 → Int32 → am_H → Option am_O} (q_26 : ∀ (x0 : Value) (x1 : Int32) (x2 : Int32) (h : am_H) (o : am_O), rec_26 x0 x1 x2 h = some o → ∀ lv : am_LV, (lv.lookup 0 = some x0) → (lv.lookup 1 = some (.int x1)) → (lv.lookup 2 = some (.int x2)) → (am_isR x0 = true) → am_W X (d + 2) 46 26 lv [] h (fun q => q = o)) {lv : am_LV} (x0 : Value) (x1 : Int32) (x2 : Int32) (h : am_H) (o : am_O) (l0 : lv.lookup 0 = some x0) (l1 : lv.lookup 1 = some (.int x1)) (l2 : lv.lookup 2 = some (.int x2)) (i0 : am_isR x0 = true) (hs : fg_46_61 N rec_26 x0 x1 x2 h = some o) : am_W X (d + 2) 46 61 lv [] h (fun q => q = o) := by
  unfold fg_46_61 at hs
  refine aw_iload_n (pc1 := 62) at_46_61 l2 rfl ?_
  refine aw_bipush (v := 40) (pc1 := 64) at_46_62 (by decide) rfl ?_
  by_cases c1 : ¬ x2 = 40
  · rw [if_pos c1] at hs
    refine aw_icne_t at_46_64 c1 ?_
    exact rg_46_71 q_26 x0 x1 x2 h o l0 l1 l2 i0 hs
  · rw [if_neg c1] at hs
    refine aw_icne_f (pc1 := 67) at_46_64 c1 rfl ?_
    refine aw_vload_n (pc1 := 68) at_46_67 l0 i0 rfl ?_
    obtain ⟨z2, hs1⟩ := am_ift hs
    clear hs
    refine aw_call (F := fm_39 x0 h) (t := true) (na := 1) (kd := 1) (as := [x0]) at_46_68 (am_k3v kb_39) mn_39 mk_39 rfl rfl (am_ok_v mi_39 (am_hl rfl (am_ccR i0 am_cats_0) rfl) z2) (am_hc am_cats_0 rfl) (fun _ => ⟨rfl, hh_46⟩) (fun o1 hz9 => rm_39 x0 h o1 i0 hz9) ?_
    rcases am_cV_s hs1 with ⟨h4, f5, hs2⟩ | hs2
    · clear hs1
      refine Or.inl ⟨_, _, f5, ?_⟩
      show am_W X _ 46 71 _ [] h4 _
      exact rg_46_71 q_26 x0 x1 x2 h4 o l0 l1 l2 i0 hs2
    · clear hs1
      exact Or.inr hs2
def fg_46_26 (N : Nat) : Nat → Value → Int32 → Int32 → am_H → Option am_O
  | 0 => fun _ _ _ _ => none
  | K + 1 => fun x0 x1 x2 h => (if 40 < x2 then (fg_46_105 N h) else ((am_vI (am_pG 2307 x0 h)).bind fun v2 => (if 0 ≤ v2 then (fg_46_105 N h) else ((am_vI (am_pG 2306 x0 h)).bind fun v5 => ((am_vI (am_pG 2305 x0 h)).bind fun v7 => (if v7 ≤ v5 then (fg_46_105 N h) else (if x2 ≤ 0 then (fg_46_61 N (fg_46_26 N K) x0 x1 x2 h) else (if am_pOk 9 x0 h then am_cI true (fm_42 x0 44 h) (fun v12 h13 => (fg_46_61 N (fg_46_26 N K) x0 x1 x2 h13)) else none))))))))
theorem rg_46_26 {X : am_X} {d : Nat} {N : Nat} : ∀ (K : Nat) (x0 : Value) (x1 : Int32) (x2 : Int32) (h : am_H) (o : am_O), fg_46_26 N K x0 x1 x2 h = some o → ∀ lv : am_LV, (lv.lookup 0 = some x0) → (lv.lookup 1 = some (.int x1)) → (lv.lookup 2 = some (.int x2)) → (am_isR x0 = true) → am_W X (d + 2) 46 26 lv [] h (fun q => q = o) := by
  intro K
  induction K with
  | zero => intro x0 x1 x2 h o hs; cases hs
  | succ K ih =>
    intro x0 x1 x2 h o hs lv l0 l1 l2 i0
    unfold fg_46_26 at hs
    refine aw_iload_n (pc1 := 27) at_46_26 l2 rfl ?_
    refine aw_bipush (v := 40) (pc1 := 29) at_46_27 (by decide) rfl ?_
    by_cases c1 : 40 < x2
    · rw [if_pos c1] at hs
      refine aw_icgt_t at_46_29 c1 ?_
      exact rg_46_105 h o   hs
    · rw [if_neg c1] at hs
      refine aw_icgt_f (pc1 := 32) at_46_29 c1 rfl ?_
      refine aw_vload_n (pc1 := 33) at_46_32 l0 i0 rfl ?_
      obtain ⟨v2, e3, hs1⟩ := am_bind hs
      clear hs
      refine aw_pG (pc1 := 36) at_46_33 (am_vI_s e3) rfl ?_
      by_cases c4 : 0 ≤ v2
      · rw [if_pos c4] at hs1
        refine aw_ifge_t at_46_36 c4 ?_
        exact rg_46_105 h o   hs1
      · rw [if_neg c4] at hs1
        refine aw_ifge_f (pc1 := 39) at_46_36 c4 rfl ?_
        refine aw_vload_n (pc1 := 40) at_46_39 l0 i0 rfl ?_
        obtain ⟨v5, e6, hs2⟩ := am_bind hs1
        clear hs1
        refine aw_pG (pc1 := 43) at_46_40 (am_vI_s e6) rfl ?_
        refine aw_vload_n (pc1 := 44) at_46_43 l0 i0 rfl ?_
        obtain ⟨v7, e8, hs3⟩ := am_bind hs2
        clear hs2
        refine aw_pG (pc1 := 47) at_46_44 (am_vI_s e8) rfl ?_
        by_cases c9 : v7 ≤ v5
        · rw [if_pos c9] at hs3
          refine aw_icge_t at_46_47 c9 ?_
          exact rg_46_105 h o   hs3
        · rw [if_neg c9] at hs3
          refine aw_icge_f (pc1 := 50) at_46_47 c9 rfl ?_
          refine aw_iload_n (pc1 := 51) at_46_50 l2 rfl ?_
          by_cases c10 : x2 ≤ 0
          · rw [if_pos c10] at hs3
            refine aw_ifle_t at_46_51 c10 ?_
            exact rg_46_61 (fun z0 z1 z2 h o hs3 => ih z0 z1 z2 h o hs3) x0 x1 x2 h o l0 l1 l2 i0 hs3
          · rw [if_neg c10] at hs3
            refine aw_ifle_f (pc1 := 54) at_46_51 c10 rfl ?_
            refine aw_vload_n (pc1 := 55) at_46_54 l0 i0 rfl ?_
            refine aw_bipush (v := 44) (pc1 := 57) at_46_55 (by decide) rfl ?_
            obtain ⟨z11, hs4⟩ := am_ift hs3
            clear hs3
            refine aw_call (F := fm_42 x0 44 h) (t := true) (na := 2) (kd := 1) (as := [x0, (.int 44)]) at_46_57 (am_k3v kb_42) mn_42 mk_42 rfl rfl (am_ok_v mi_42 (am_hl rfl (am_ccR i0 (am_ccI am_cats_0)) rfl) z11) (am_hc am_cats_0 rfl) (fun _ => ⟨rfl, hh_46⟩) (fun o1 hz9 => rm_42 x0 44 h o1 i0 hz9) ?_
            rcases am_cI_s hs4 with ⟨v12, h13, f14, hs5⟩ | hs5
            · clear hs4
              refine Or.inl ⟨_, _, f14, ?_⟩
              show am_W X _ 46 60 _ [(.int v12)] h13 _
              refine aw_popi (pc1 := 61) at_46_60 rfl ?_
              exact rg_46_61 (fun z0 z1 z2 h o hs5 => ih z0 z1 z2 h o hs5) x0 x1 x2 h13 o l0 l1 l2 i0 hs5
            · clear hs4
              exact Or.inr hs5
def fg_46_0 (N : Nat) (x0 : Value) (h : am_H) : Option am_O := (if am_pOk 9 x0 h then am_cI true (fm_47 x0 2 8 h) (fun v2 h3 => ((am_vR (am_pG 2308 x0 h3)).bind fun v5 => (if am_pOk 3 v5 h3 then am_cV true (fm_34 v5 3 v2 h3) (fun h9 => (if am_pOk 9 x0 h9 then am_cI true (fm_42 x0 58 h9) (fun v12 h13 => (fg_46_26 N N x0 v2 0 h13)) else none)) else none))) else none)
theorem rg_46_0 {X : am_X} {d : Nat} {N : Nat} {lv : am_LV} (x0 : Value) (h : am_H) (o : am_O) (l0 : lv.lookup 0 = some x0) (i0 : am_isR x0 = true) (hs : fg_46_0 N x0 h = some o) : am_W X (d + 2) 46 0 lv [] h (fun q => q = o) := by
  unfold fg_46_0 at hs
  refine aw_vload_n (pc1 := 1) at_46_0 l0 i0 rfl ?_
  refine aw_iconst (v := 2) (pc1 := 2) at_46_1 (by decide) rfl ?_
  refine aw_bipush (v := 8) (pc1 := 4) at_46_2 (by decide) rfl ?_
  obtain ⟨z1, hs1⟩ := am_ift hs
  clear hs
  refine aw_call (F := fm_47 x0 2 8 h) (t := true) (na := 3) (kd := 1) (as := [x0, (.int 2), (.int 8)]) at_46_4 (am_k3v kb_47) mn_47 mk_47 rfl rfl (am_ok_v mi_47 (am_hl rfl (am_ccR i0 (am_ccI (am_ccI am_cats_0))) rfl) z1) (am_hc am_cats_0 rfl) (fun _ => ⟨rfl, hh_46⟩) (fun o1 hz9 => rm_47 x0 2 8 h o1 i0 hz9) ?_
  rcases am_cI_s hs1 with ⟨v2, h3, f4, hs2⟩ | hs2
  · clear hs1
    refine Or.inl ⟨_, _, f4, ?_⟩
    show am_W X _ 46 7 _ [(.int v2)] h3 _
    refine aw_istore_n (lv1 := am_put1 _ 1 _) (pc1 := 8) at_46_7 rfl rfl ?_
    refine aw_vload_n (pc1 := 9) at_46_8 (am_lk1 l0 rfl (by rw [am_isRc i0]; rfl)) i0 rfl ?_
    obtain ⟨v5, e6, hs3⟩ := am_bind hs2
    clear hs2
    refine aw_pG (pc1 := 12) at_46_9 (am_vR_s e6).1 rfl ?_
    refine aw_iconst (v := 3) (pc1 := 13) at_46_12 (by decide) rfl ?_
    refine aw_iload_n (pc1 := 14) at_46_13 am_lk0 rfl ?_
    obtain ⟨z7, hs4⟩ := am_ift hs3
    clear hs3
    refine aw_call (F := fm_34 v5 3 v2 h3) (t := true) (na := 3) (kd := 1) (as := [v5, (.int 3), (.int v2)]) at_46_14 (am_k3v kb_34) mn_34 mk_34 rfl rfl (am_ok_v mi_34 (am_hl rfl (am_ccR (am_vR_s e6).2 (am_ccI (am_ccI am_cats_0))) rfl) z7) (am_hc am_cats_0 rfl) (fun _ => ⟨rfl, hh_46⟩) (fun o1 hz9 => rm_34 v5 3 v2 h3 o1 (am_vR_s e6).2 hz9) ?_
    rcases am_cV_s hs4 with ⟨h9, f10, hs5⟩ | hs5
    · clear hs4
      refine Or.inl ⟨_, _, f10, ?_⟩
      show am_W X _ 46 17 _ [] h9 _
      refine aw_vload_n (pc1 := 18) at_46_17 (am_lk1 l0 rfl (by rw [am_isRc i0]; rfl)) i0 rfl ?_
      refine aw_bipush (v := 58) (pc1 := 20) at_46_18 (by decide) rfl ?_
      obtain ⟨z11, hs6⟩ := am_ift hs5
      clear hs5
      refine aw_call (F := fm_42 x0 58 h9) (t := true) (na := 2) (kd := 1) (as := [x0, (.int 58)]) at_46_20 (am_k3v kb_42) mn_42 mk_42 rfl rfl (am_ok_v mi_42 (am_hl rfl (am_ccR i0 (am_ccI am_cats_0)) rfl) z11) (am_hc am_cats_0 rfl) (fun _ => ⟨rfl, hh_46⟩) (fun o1 hz9 => rm_42 x0 58 h9 o1 i0 hz9) ?_
      rcases am_cI_s hs6 with ⟨v12, h13, f14, hs7⟩ | hs7
      · clear hs6
        refine Or.inl ⟨_, _, f14, ?_⟩
        show am_W X _ 46 23 _ [(.int v12)] h13 _
        refine aw_popi (pc1 := 24) at_46_23 rfl ?_
        refine aw_iconst (v := 0) (pc1 := 25) at_46_24 (by decide) rfl ?_
        refine aw_istore_n (lv1 := am_put1 _ 2 _) (pc1 := 26) at_46_25 rfl rfl ?_
        exact rg_46_26 N x0 v2 0 h13 o hs7 _ (am_lk1 (am_lk1 l0 rfl (by rw [am_isRc i0]; rfl)) rfl rfl) (am_lk1 am_lk0 rfl rfl) am_lk0 i0
      · clear hs6
        exact Or.inr hs7
    · clear hs4
      exact Or.inr hs5
  · clear hs1
    exact Or.inr hs2
def fm_46 (N : Nat) (y0 : Value) (h : am_H) : Option am_O := fg_46_0 N y0 h
theorem rm_46 {X : am_X} {d : Nat} {N : Nat} (y0 : Value) (h : am_H) (o : am_O) (i0 : am_isR y0 = true) (hs : fm_46 N y0 h = some o) : am_W X (d + 2) 46 0 (am_args 0 [y0]) [] h (fun q => q = o) := by
  rw [am_args_R i0]
  exact rg_46_0 y0 h o rfl i0 hs
def fg_49_164 (N : Nat) (h : am_H) : Option am_O := some (.inl (none, h))
theorem rg_49_164 {X : am_X} {d : Nat} {N : Nat} {lv : am_LV} (h : am_H) (o : am_O) (hs : fg_49_164 N h = some o) : am_W X (d + 3) 49 164 lv [] h (fun q => q = o) := by
  unfold fg_49_164 at hs
  cases hs
  exact aw_vret at_49_164 rt_49 rfl
def fg_49_149 (N : Nat) (x0 : Value) (s0 : Value) (s1 : Int32) (h : am_H) : Option am_O := (if am_pOk 9 x0 h then am_cI true (fm_44 N x0 h) (fun v2 h3 => (if am_pOk 3 s0 h3 then am_cI true (fm_41 N s0 s1 v2 h3) (fun v6 h7 => (fg_49_164 N h7)) else none)) else none)
theorem rg_49_149 {X : am_X} {d : Nat} {N : Nat} {lv : am_LV} (x0 : Value) (s0 : Value) (s1 : Int32) (h : am_H) (o : am_O) (l0 : lv.lookup 0 = some x0) (i0 : am_isR x0 = true) (j0 : am_isR s0 = true) (hs : fg_49_149 N x0 s0 s1 h = some o) : am_W X (d + 3) 49 149 lv [(.int s1), s0] h (fun q => q = o) := by
  unfold fg_49_149 at hs
  refine aw_vload_n (pc1 := 150) at_49_149 l0 i0 rfl ?_
  obtain ⟨z1, hs1⟩ := am_ift hs
  clear hs
  refine aw_call (F := fm_44 N x0 h) (t := true) (na := 1) (kd := 1) (as := [x0]) at_49_150 (am_k3v kb_44) mn_44 mk_44 rfl rfl (am_ok_v mi_44 (am_hl rfl (am_ccR i0 am_cats_0) rfl) z1) (am_hc (am_ccI (am_ccR j0 am_cats_0)) rfl) (fun _ => ⟨rfl, hh_49⟩) (fun o1 hz9 => rm_44 x0 h o1 i0 hz9) ?_
  rcases am_cI_s hs1 with ⟨v2, h3, f4, hs2⟩ | hs2
  · clear hs1
    refine Or.inl ⟨_, _, f4, ?_⟩
    show am_W X _ 49 153 _ [(.int v2), (.int s1), s0] h3 _
    obtain ⟨z5, hs3⟩ := am_ift hs2
    clear hs2
    refine aw_call (F := fm_41 N s0 s1 v2 h3) (t := true) (na := 3) (kd := 1) (as := [s0, (.int s1), (.int v2)]) at_49_153 (am_k3v kb_41) mn_41 mk_41 rfl rfl (am_ok_v mi_41 (am_hl rfl (am_ccR j0 (am_ccI (am_ccI am_cats_0))) rfl) z5) (am_hc am_cats_0 rfl) (fun _ => ⟨rfl, hh_49⟩) (fun o1 hz9 => rm_41 s0 s1 v2 h3 o1 j0 hz9) ?_
    rcases am_cI_s hs3 with ⟨v6, h7, f8, hs4⟩ | hs4
    · clear hs3
      refine Or.inl ⟨_, _, f8, ?_⟩
      show am_W X _ 49 156 _ [(.int v6)] h7 _
      refine aw_popi (pc1 := 157) at_49_156 rfl ?_
      refine aw_goto at_49_157 ?_
      exact rg_49_164 h7 o   hs4
    · clear hs3
      exact Or.inr hs4
  · clear hs1
    exact Or.inr hs2
def fg_49_122 (N : Nat) (x0 : Value) (x1 : Int32) (h : am_H) : Option am_O := ((am_vI (am_pG 2306 x0 h)).bind fun v1 => ((am_pP 2306 x0 (.int (v1 + 1)) h).bind fun h3 => ((am_vR (am_pG 2308 x0 h3)).bind fun v5 => (if ¬ x1 = 106 then (fg_49_149 N x0 v5 18 h3) else (fg_49_149 N x0 v5 17 h3)))))
theorem rg_49_122 {X : am_X} {d : Nat} {N : Nat} {lv : am_LV} (x0 : Value) (x1 : Int32) (h : am_H) (o : am_O) (l0 : lv.lookup 0 = some x0) (l1 : lv.lookup 1 = some (.int x1)) (i0 : am_isR x0 = true) (hs : fg_49_122 N x0 x1 h = some o) : am_W X (d + 3) 49 122 lv [] h (fun q => q = o) := by
  unfold fg_49_122 at hs
  refine aw_vload_n (pc1 := 123) at_49_122 l0 i0 rfl ?_
  refine aw_vdup (pc1 := 124) at_49_123 i0 rfl ?_
  obtain ⟨v1, e2, hs1⟩ := am_bind hs
  clear hs
  refine aw_pG (pc1 := 127) at_49_124 (am_vI_s e2) rfl ?_
  refine aw_iconst (v := 1) (pc1 := 128) at_49_127 (by decide) rfl ?_
  refine aw_iadd (v := (v1 + 1)) (pc1 := 129) at_49_128 rfl rfl ?_
  obtain ⟨h3, e4, hs2⟩ := am_bind hs1
  clear hs1
  refine aw_pP (pc1 := 132) at_49_129 e4 rfl ?_
  refine aw_vload_n (pc1 := 133) at_49_132 l0 i0 rfl ?_
  obtain ⟨v5, e6, hs3⟩ := am_bind hs2
  clear hs2
  refine aw_pG (pc1 := 136) at_49_133 (am_vR_s e6).1 rfl ?_
  refine aw_iload_n (pc1 := 137) at_49_136 l1 rfl ?_
  refine aw_bipush (v := 106) (pc1 := 139) at_49_137 (by decide) rfl ?_
  by_cases c7 : ¬ x1 = 106
  · rw [if_pos c7] at hs3
    refine aw_icne_t at_49_139 c7 ?_
    refine aw_bipush (v := 18) (pc1 := 149) at_49_147 (by decide) rfl ?_
    exact rg_49_149 x0 v5 18 h3 o l0 i0 (am_vR_s e6).2 hs3
  · rw [if_neg c7] at hs3
    refine aw_icne_f (pc1 := 142) at_49_139 c7 rfl ?_
    refine aw_bipush (v := 17) (pc1 := 144) at_49_142 (by decide) rfl ?_
    refine aw_goto at_49_144 ?_
    exact rg_49_149 x0 v5 17 h3 o l0 i0 (am_vR_s e6).2 hs3
def fg_49_65 (N : Nat) (x0 : Value) (h : am_H) : Option am_O := ((am_vR (am_pG 2308 x0 h)).bind fun v1 => (if am_pOk 9 x0 h then am_cI true (fm_43 N x0 h) (fun v4 h5 => (if am_pOk 3 v1 h5 then am_cI true (fm_41 N v1 0 v4 h5) (fun v8 h9 => (fg_49_164 N h9)) else none)) else none))
theorem rg_49_65 {X : am_X} {d : Nat} {N : Nat} {lv : am_LV} (x0 : Value) (h : am_H) (o : am_O) (l0 : lv.lookup 0 = some x0) (i0 : am_isR x0 = true) (hs : fg_49_65 N x0 h = some o) : am_W X (d + 3) 49 65 lv [] h (fun q => q = o) := by
  unfold fg_49_65 at hs
  refine aw_vload_n (pc1 := 66) at_49_65 l0 i0 rfl ?_
  obtain ⟨v1, e2, hs1⟩ := am_bind hs
  clear hs
  refine aw_pG (pc1 := 69) at_49_66 (am_vR_s e2).1 rfl ?_
  refine aw_iconst (v := 0) (pc1 := 70) at_49_69 (by decide) rfl ?_
  refine aw_vload_n (pc1 := 71) at_49_70 l0 i0 rfl ?_
  obtain ⟨z3, hs2⟩ := am_ift hs1
  clear hs1
  refine aw_call (F := fm_43 N x0 h) (t := true) (na := 1) (kd := 1) (as := [x0]) at_49_71 (am_k3v kb_43) mn_43 mk_43 rfl rfl (am_ok_v mi_43 (am_hl rfl (am_ccR i0 am_cats_0) rfl) z3) (am_hc (am_ccI (am_ccR (am_vR_s e2).2 am_cats_0)) rfl) (fun _ => ⟨rfl, hh_49⟩) (fun o1 hz9 => rm_43 x0 h o1 i0 hz9) ?_
  rcases am_cI_s hs2 with ⟨v4, h5, f6, hs3⟩ | hs3
  · clear hs2
    refine Or.inl ⟨_, _, f6, ?_⟩
    show am_W X _ 49 74 _ [(.int v4), (.int 0), v1] h5 _
    obtain ⟨z7, hs4⟩ := am_ift hs3
    clear hs3
    refine aw_call (F := fm_41 N v1 0 v4 h5) (t := true) (na := 3) (kd := 1) (as := [v1, (.int 0), (.int v4)]) at_49_74 (am_k3v kb_41) mn_41 mk_41 rfl rfl (am_ok_v mi_41 (am_hl rfl (am_ccR (am_vR_s e2).2 (am_ccI (am_ccI am_cats_0))) rfl) z7) (am_hc am_cats_0 rfl) (fun _ => ⟨rfl, hh_49⟩) (fun o1 hz9 => rm_41 v1 0 v4 h5 o1 (am_vR_s e2).2 hz9) ?_
    rcases am_cI_s hs4 with ⟨v8, h9, f10, hs5⟩ | hs5
    · clear hs4
      refine Or.inl ⟨_, _, f10, ?_⟩
      show am_W X _ 49 77 _ [(.int v8)] h9 _
      refine aw_popi (pc1 := 78) at_49_77 rfl ?_
      refine aw_goto at_49_78 ?_
      exact rg_49_164 h9 o   hs5
    · clear hs4
      exact Or.inr hs5
  · clear hs2
    exact Or.inr hs3
def fg_49_46 (N : Nat) (x0 : Value) (x1 : Int32) (s0 : Int32) (h : am_H) : Option am_O := (if ¬ s0 = 0 then (fg_49_65 N x0 h) else am_cI false (fm_45 x1 h) (fun v2 h3 => (if v2 = 0 then (if (am_ixF x1 (am_txt 5) 0) < 0 then (if x1 = 106 then (fg_49_122 N x0 x1 h3) else (if ¬ x1 = 98 then (if am_pOk 9 x0 h3 then am_cV true (fm_39 x0 h3) (fun h11 => (fg_49_164 N h11)) else none) else (fg_49_122 N x0 x1 h3))) else ((am_vI (am_pG 2306 x0 h3)).bind fun v13 => ((am_pP 2306 x0 (.int (v13 + 1)) h3).bind fun h15 => ((am_vR (am_pG 2308 x0 h15)).bind fun v17 => (if am_pOk 3 v17 h15 then am_cI true (fm_41 N v17 (((am_ixF x1 (am_txt 5) 0) + 1)) 0 h15) (fun v20 h21 => (fg_49_164 N h21)) else none))))) else (fg_49_65 N x0 h3))))
theorem rg_49_46 {X : am_X} {d : Nat} {N : Nat} {lv : am_LV} (x0 : Value) (x1 : Int32) (s0 : Int32) (h : am_H) (o : am_O) (l0 : lv.lookup 0 = some x0) (l1 : lv.lookup 1 = some (.int x1)) (i0 : am_isR x0 = true) (hs : fg_49_46 N x0 x1 s0 h = some o) : am_W X (d + 3) 49 46 lv [(.int s0)] h (fun q => q = o) := by
  unfold fg_49_46 at hs
  refine aw_istore_n (lv1 := am_put1 _ 2 _) (pc1 := 47) at_49_46 rfl rfl ?_
  refine am_W.ldt at_49_47 rfl ?_
  show am_W _ _ _ 49 _ [(Value.float 5)] _ _
  refine aw_iload_n (pc1 := 50) at_49_49 (am_lk1 l1 rfl rfl) rfl ?_
  refine am_W.idx at_49_50 rfl rfl (am_hc am_cats_0 rfl) ?_
  show am_W _ _ _ 53 _ [(.int (am_ixF x1 (am_txt 5) 0))] _ _
  refine aw_istore_n (lv1 := am_put1 _ 3 _) (pc1 := 54) at_49_53 rfl rfl ?_
  refine aw_iload_n (pc1 := 55) at_49_54 (am_lk1 am_lk0 rfl rfl) rfl ?_
  by_cases c1 : ¬ s0 = 0
  · rw [if_pos c1] at hs
    refine aw_ifne_t at_49_55 c1 ?_
    exact rg_49_65 x0 h o (am_lk1 (am_lk1 l0 rfl rfl) rfl rfl) i0 hs
  · rw [if_neg c1] at hs
    refine aw_ifne_f (pc1 := 58) at_49_55 c1 rfl ?_
    refine aw_iload_n (pc1 := 59) at_49_58 (am_lk1 (am_lk1 l1 rfl rfl) rfl rfl) rfl ?_
    refine aw_call (F := fm_45 x1 h) (t := false) (na := 1) (kd := 0) (as := [(.int x1)]) at_49_59 (am_k3s kb_45) mn_45 mk_45 rfl rfl (am_ok_s mi_45 (am_hl rfl (am_ccI am_cats_0) rfl)) (am_hc am_cats_0 rfl) (fun hz9 => by cases hz9) (fun o1 hz9 => rm_45 x1 h o1  hz9) ?_
    rcases am_cI_s hs with ⟨v2, h3, f4, hs1⟩ | hs1
    · clear hs
      refine Or.inl ⟨_, _, f4, ?_⟩
      show am_W X _ 49 62 _ [(.int v2)] h3 _
      by_cases c5 : v2 = 0
      · rw [if_pos c5] at hs1
        refine aw_ifeq_t at_49_62 c5 ?_
        refine aw_iload_n (pc1 := 82) at_49_81 am_lk0 rfl ?_
        by_cases c6 : (am_ixF x1 (am_txt 5) 0) < 0
        · rw [if_pos c6] at hs1
          refine aw_iflt_t at_49_82 c6 ?_
          refine aw_iload_n (pc1 := 111) at_49_110 (am_lk1 (am_lk1 l1 rfl rfl) rfl rfl) rfl ?_
          refine aw_bipush (v := 106) (pc1 := 113) at_49_111 (by decide) rfl ?_
          by_cases c7 : x1 = 106
          · rw [if_pos c7] at hs1
            refine aw_iceq_t at_49_113 c7 ?_
            exact rg_49_122 x0 x1 h3 o (am_lk1 (am_lk1 l0 rfl rfl) rfl rfl) (am_lk1 (am_lk1 l1 rfl rfl) rfl rfl) i0 hs1
          · rw [if_neg c7] at hs1
            refine aw_iceq_f (pc1 := 116) at_49_113 c7 rfl ?_
            refine aw_iload_n (pc1 := 117) at_49_116 (am_lk1 (am_lk1 l1 rfl rfl) rfl rfl) rfl ?_
            refine aw_bipush (v := 98) (pc1 := 119) at_49_117 (by decide) rfl ?_
            by_cases c8 : ¬ x1 = 98
            · rw [if_pos c8] at hs1
              refine aw_icne_t at_49_119 c8 ?_
              refine aw_vload_n (pc1 := 161) at_49_160 (am_lk1 (am_lk1 l0 rfl rfl) rfl rfl) i0 rfl ?_
              obtain ⟨z9, hs2⟩ := am_ift hs1
              clear hs1
              refine aw_call (F := fm_39 x0 h3) (t := true) (na := 1) (kd := 1) (as := [x0]) at_49_161 (am_k3v kb_39) mn_39 mk_39 rfl rfl (am_ok_v mi_39 (am_hl rfl (am_ccR i0 am_cats_0) rfl) z9) (am_hc am_cats_0 rfl) (fun _ => ⟨rfl, hh_49⟩) (fun o1 hz9 => rm_39 x0 h3 o1 i0 hz9) ?_
              rcases am_cV_s hs2 with ⟨h11, f12, hs3⟩ | hs3
              · clear hs2
                refine Or.inl ⟨_, _, f12, ?_⟩
                show am_W X _ 49 164 _ [] h11 _
                exact rg_49_164 h11 o   hs3
              · clear hs2
                exact Or.inr hs3
            · rw [if_neg c8] at hs1
              refine aw_icne_f (pc1 := 122) at_49_119 c8 rfl ?_
              exact rg_49_122 x0 x1 h3 o (am_lk1 (am_lk1 l0 rfl rfl) rfl rfl) (am_lk1 (am_lk1 l1 rfl rfl) rfl rfl) i0 hs1
        · rw [if_neg c6] at hs1
          refine aw_iflt_f (pc1 := 85) at_49_82 c6 rfl ?_
          refine aw_vload_n (pc1 := 86) at_49_85 (am_lk1 (am_lk1 l0 rfl rfl) rfl rfl) i0 rfl ?_
          refine aw_vdup (pc1 := 87) at_49_86 i0 rfl ?_
          obtain ⟨v13, e14, hs4⟩ := am_bind hs1
          clear hs1
          refine aw_pG (pc1 := 90) at_49_87 (am_vI_s e14) rfl ?_
          refine aw_iconst (v := 1) (pc1 := 91) at_49_90 (by decide) rfl ?_
          refine aw_iadd (v := (v13 + 1)) (pc1 := 92) at_49_91 rfl rfl ?_
          obtain ⟨h15, e16, hs5⟩ := am_bind hs4
          clear hs4
          refine aw_pP (pc1 := 95) at_49_92 e16 rfl ?_
          refine aw_vload_n (pc1 := 96) at_49_95 (am_lk1 (am_lk1 l0 rfl rfl) rfl rfl) i0 rfl ?_
          obtain ⟨v17, e18, hs6⟩ := am_bind hs5
          clear hs5
          refine aw_pG (pc1 := 99) at_49_96 (am_vR_s e18).1 rfl ?_
          refine aw_iload_n (pc1 := 100) at_49_99 am_lk0 rfl ?_
          refine aw_iconst (v := 1) (pc1 := 101) at_49_100 (by decide) rfl ?_
          refine aw_iadd (v := ((am_ixF x1 (am_txt 5) 0) + 1)) (pc1 := 102) at_49_101 rfl rfl ?_
          refine aw_iconst (v := 0) (pc1 := 103) at_49_102 (by decide) rfl ?_
          obtain ⟨z19, hs7⟩ := am_ift hs6
          clear hs6
          refine aw_call (F := fm_41 N v17 (((am_ixF x1 (am_txt 5) 0) + 1)) 0 h15) (t := true) (na := 3) (kd := 1) (as := [v17, (.int ((am_ixF x1 (am_txt 5) 0) + 1)), (.int 0)]) at_49_103 (am_k3v kb_41) mn_41 mk_41 rfl rfl (am_ok_v mi_41 (am_hl rfl (am_ccR (am_vR_s e18).2 (am_ccI (am_ccI am_cats_0))) rfl) z19) (am_hc am_cats_0 rfl) (fun _ => ⟨rfl, hh_49⟩) (fun o1 hz9 => rm_41 v17 (((am_ixF x1 (am_txt 5) 0) + 1)) 0 h15 o1 (am_vR_s e18).2 hz9) ?_
          rcases am_cI_s hs7 with ⟨v20, h21, f22, hs8⟩ | hs8
          · clear hs7
            refine Or.inl ⟨_, _, f22, ?_⟩
            show am_W X _ 49 106 _ [(.int v20)] h21 _
            refine aw_popi (pc1 := 107) at_49_106 rfl ?_
            refine aw_goto at_49_107 ?_
            exact rg_49_164 h21 o   hs8
          · clear hs7
            exact Or.inr hs8
      · rw [if_neg c5] at hs1
        refine aw_ifeq_f (pc1 := 65) at_49_62 c5 rfl ?_
        exact rg_49_65 x0 h3 o (am_lk1 (am_lk1 l0 rfl rfl) rfl rfl) i0 hs1
    · clear hs
      exact Or.inr hs1
def fg_49_45 (N : Nat) (x0 : Value) (x1 : Int32) (h : am_H) : Option am_O := (fg_49_46 N x0 x1 0 h)
theorem rg_49_45 {X : am_X} {d : Nat} {N : Nat} {lv : am_LV} (x0 : Value) (x1 : Int32) (h : am_H) (o : am_O) (l0 : lv.lookup 0 = some x0) (l1 : lv.lookup 1 = some (.int x1)) (i0 : am_isR x0 = true) (hs : fg_49_45 N x0 x1 h = some o) : am_W X (d + 3) 49 45 lv [] h (fun q => q = o) := by
  unfold fg_49_45 at hs
  refine aw_iconst (v := 0) (pc1 := 46) at_49_45 (by decide) rfl ?_
  exact rg_49_46 x0 x1 0 h o l0 l1 i0 hs
def fg_49_0 (N : Nat) (x0 : Value) (h : am_H) : Option am_O := (if am_pOk 9 x0 h then am_cI true (fm_36 x0 h) (fun v2 h3 => (if ¬ v2 = 45 then (fg_49_45 N x0 v2 h3) else ((am_vI (am_pG 2306 x0 h3)).bind fun v6 => ((am_vI (am_pG 2305 x0 h3)).bind fun v8 => (if v8 ≤ (v6 + 1) then (fg_49_45 N x0 v2 h3) else ((am_vR (am_pG 2304 x0 h3)).bind fun v11 => ((am_vI (am_pG 2306 x0 h3)).bind fun v13 => ((am_pA 3 v11 (v13 + 1) h3).bind fun v15 => am_cI false (fm_45 v15 h3) (fun v17 h18 => (if v17 = 0 then (fg_49_45 N x0 v2 h18) else (fg_49_46 N x0 v2 1 h18))))))))))) else none)
theorem rg_49_0 {X : am_X} {d : Nat} {N : Nat} {lv : am_LV} (x0 : Value) (h : am_H) (o : am_O) (l0 : lv.lookup 0 = some x0) (i0 : am_isR x0 = true) (hs : fg_49_0 N x0 h = some o) : am_W X (d + 3) 49 0 lv [] h (fun q => q = o) := by
  unfold fg_49_0 at hs
  refine aw_vload_n (pc1 := 1) at_49_0 l0 i0 rfl ?_
  obtain ⟨z1, hs1⟩ := am_ift hs
  clear hs
  refine aw_call (F := fm_36 x0 h) (t := true) (na := 1) (kd := 1) (as := [x0]) at_49_1 (am_k3v kb_36) mn_36 mk_36 rfl rfl (am_ok_v mi_36 (am_hl rfl (am_ccR i0 am_cats_0) rfl) z1) (am_hc am_cats_0 rfl) (fun _ => ⟨rfl, hh_49⟩) (fun o1 hz9 => rm_36 x0 h o1 i0 hz9) ?_
  rcases am_cI_s hs1 with ⟨v2, h3, f4, hs2⟩ | hs2
  · clear hs1
    refine Or.inl ⟨_, _, f4, ?_⟩
    show am_W X _ 49 4 _ [(.int v2)] h3 _
    refine aw_istore_n (lv1 := am_put1 _ 1 _) (pc1 := 5) at_49_4 rfl rfl ?_
    refine aw_iload_n (pc1 := 6) at_49_5 am_lk0 rfl ?_
    refine aw_bipush (v := 45) (pc1 := 8) at_49_6 (by decide) rfl ?_
    by_cases c5 : ¬ v2 = 45
    · rw [if_pos c5] at hs2
      refine aw_icne_t at_49_8 c5 ?_
      exact rg_49_45 x0 v2 h3 o (am_lk1 l0 rfl (by rw [am_isRc i0]; rfl)) am_lk0 i0 hs2
    · rw [if_neg c5] at hs2
      refine aw_icne_f (pc1 := 11) at_49_8 c5 rfl ?_
      refine aw_vload_n (pc1 := 12) at_49_11 (am_lk1 l0 rfl (by rw [am_isRc i0]; rfl)) i0 rfl ?_
      obtain ⟨v6, e7, hs3⟩ := am_bind hs2
      clear hs2
      refine aw_pG (pc1 := 15) at_49_12 (am_vI_s e7) rfl ?_
      refine aw_iconst (v := 1) (pc1 := 16) at_49_15 (by decide) rfl ?_
      refine aw_iadd (v := (v6 + 1)) (pc1 := 17) at_49_16 rfl rfl ?_
      refine aw_vload_n (pc1 := 18) at_49_17 (am_lk1 l0 rfl (by rw [am_isRc i0]; rfl)) i0 rfl ?_
      obtain ⟨v8, e9, hs4⟩ := am_bind hs3
      clear hs3
      refine aw_pG (pc1 := 21) at_49_18 (am_vI_s e9) rfl ?_
      by_cases c10 : v8 ≤ (v6 + 1)
      · rw [if_pos c10] at hs4
        refine aw_icge_t at_49_21 c10 ?_
        exact rg_49_45 x0 v2 h3 o (am_lk1 l0 rfl (by rw [am_isRc i0]; rfl)) am_lk0 i0 hs4
      · rw [if_neg c10] at hs4
        refine aw_icge_f (pc1 := 24) at_49_21 c10 rfl ?_
        refine aw_vload_n (pc1 := 25) at_49_24 (am_lk1 l0 rfl (by rw [am_isRc i0]; rfl)) i0 rfl ?_
        obtain ⟨v11, e12, hs5⟩ := am_bind hs4
        clear hs4
        refine aw_pG (pc1 := 28) at_49_25 (am_vR_s e12).1 rfl ?_
        refine aw_vload_n (pc1 := 29) at_49_28 (am_lk1 l0 rfl (by rw [am_isRc i0]; rfl)) i0 rfl ?_
        obtain ⟨v13, e14, hs6⟩ := am_bind hs5
        clear hs5
        refine aw_pG (pc1 := 32) at_49_29 (am_vI_s e14) rfl ?_
        refine aw_iconst (v := 1) (pc1 := 33) at_49_32 (by decide) rfl ?_
        refine aw_iadd (v := (v13 + 1)) (pc1 := 34) at_49_33 rfl rfl ?_
        obtain ⟨v15, e16, hs7⟩ := am_bind hs6
        clear hs6
        refine aw_pA (pc1 := 35) at_49_34 (Or.inr (Or.inr ⟨rfl, rfl⟩)) e16 rfl ?_
        refine aw_call (F := fm_45 v15 h3) (t := false) (na := 1) (kd := 0) (as := [(.int v15)]) at_49_35 (am_k3s kb_45) mn_45 mk_45 rfl rfl (am_ok_s mi_45 (am_hl rfl (am_ccI am_cats_0) rfl)) (am_hc am_cats_0 rfl) (fun hz9 => by cases hz9) (fun o1 hz9 => rm_45 v15 h3 o1  hz9) ?_
        rcases am_cI_s hs7 with ⟨v17, h18, f19, hs8⟩ | hs8
        · clear hs7
          refine Or.inl ⟨_, _, f19, ?_⟩
          show am_W X _ 49 38 _ [(.int v17)] h18 _
          by_cases c20 : v17 = 0
          · rw [if_pos c20] at hs8
            refine aw_ifeq_t at_49_38 c20 ?_
            exact rg_49_45 x0 v2 h18 o (am_lk1 l0 rfl (by rw [am_isRc i0]; rfl)) am_lk0 i0 hs8
          · rw [if_neg c20] at hs8
            refine aw_ifeq_f (pc1 := 41) at_49_38 c20 rfl ?_
            refine aw_iconst (v := 1) (pc1 := 42) at_49_41 (by decide) rfl ?_
            refine aw_goto at_49_42 ?_
            exact rg_49_46 x0 v2 1 h18 o (am_lk1 l0 rfl (by rw [am_isRc i0]; rfl)) am_lk0 i0 hs8
        · clear hs7
          exact Or.inr hs8
  · clear hs1
    exact Or.inr hs2
def fm_49 (N : Nat) (y0 : Value) (h : am_H) : Option am_O := fg_49_0 N y0 h
theorem rm_49 {X : am_X} {d : Nat} {N : Nat} (y0 : Value) (h : am_H) (o : am_O) (i0 : am_isR y0 = true) (hs : fm_49 N y0 h = some o) : am_W X (d + 3) 49 0 (am_args 0 [y0]) [] h (fun q => q = o) := by
  rw [am_args_R i0]
  exact rg_49_0 y0 h o rfl i0 hs
def fg_51_38 (h : am_H) : Option am_O := some (.inl (none, h))
theorem rg_51_38 {X : am_X} {d : Nat} {lv : am_LV} (h : am_H) (o : am_O) (hs : fg_51_38 h = some o) : am_W X (d) 51 38 lv [] h (fun q => q = o) := by
  unfold fg_51_38 at hs
  cases hs
  exact aw_vret at_51_38 rt_51 rfl
def fg_51_0 (x0 : Value) (x1 : Int32) (x2 : Int32) (x3 : Int32) (h : am_H) : Option am_O := (if x1 < 0 then (fg_51_38 h) else ((am_vI (am_pG 771 x0 h)).bind fun v2 => (if v2 ≤ x1 then (fg_51_38 h) else (if x2 < 0 then (fg_51_38 h) else ((am_vI (am_pG 772 x0 h)).bind fun v6 => (if v6 ≤ x2 then (fg_51_38 h) else ((am_vR (am_pG 768 x0 h)).bind fun v9 => ((am_vI (am_pG 772 x0 h)).bind fun v11 => ((am_pS 0 v9 ((x1 * v11) + x2) x3 h).bind fun h13 => (fg_51_38 h13))))))))))
theorem rg_51_0 {X : am_X} {d : Nat} {lv : am_LV} (x0 : Value) (x1 : Int32) (x2 : Int32) (x3 : Int32) (h : am_H) (o : am_O) (l0 : lv.lookup 0 = some x0) (l1 : lv.lookup 1 = some (.int x1)) (l2 : lv.lookup 2 = some (.int x2)) (l3 : lv.lookup 3 = some (.int x3)) (i0 : am_isR x0 = true) (hs : fg_51_0 x0 x1 x2 x3 h = some o) : am_W X (d) 51 0 lv [] h (fun q => q = o) := by
  unfold fg_51_0 at hs
  refine aw_iload_n (pc1 := 1) at_51_0 l1 rfl ?_
  by_cases c1 : x1 < 0
  · rw [if_pos c1] at hs
    refine aw_iflt_t at_51_1 c1 ?_
    exact rg_51_38 h o   hs
  · rw [if_neg c1] at hs
    refine aw_iflt_f (pc1 := 4) at_51_1 c1 rfl ?_
    refine aw_iload_n (pc1 := 5) at_51_4 l1 rfl ?_
    refine aw_vload_n (pc1 := 6) at_51_5 l0 i0 rfl ?_
    obtain ⟨v2, e3, hs1⟩ := am_bind hs
    clear hs
    refine aw_pG (pc1 := 9) at_51_6 (am_vI_s e3) rfl ?_
    by_cases c4 : v2 ≤ x1
    · rw [if_pos c4] at hs1
      refine aw_icge_t at_51_9 c4 ?_
      exact rg_51_38 h o   hs1
    · rw [if_neg c4] at hs1
      refine aw_icge_f (pc1 := 12) at_51_9 c4 rfl ?_
      refine aw_iload_n (pc1 := 13) at_51_12 l2 rfl ?_
      by_cases c5 : x2 < 0
      · rw [if_pos c5] at hs1
        refine aw_iflt_t at_51_13 c5 ?_
        exact rg_51_38 h o   hs1
      · rw [if_neg c5] at hs1
        refine aw_iflt_f (pc1 := 16) at_51_13 c5 rfl ?_
        refine aw_iload_n (pc1 := 17) at_51_16 l2 rfl ?_
        refine aw_vload_n (pc1 := 18) at_51_17 l0 i0 rfl ?_
        obtain ⟨v6, e7, hs2⟩ := am_bind hs1
        clear hs1
        refine aw_pG (pc1 := 21) at_51_18 (am_vI_s e7) rfl ?_
        by_cases c8 : v6 ≤ x2
        · rw [if_pos c8] at hs2
          refine aw_icge_t at_51_21 c8 ?_
          exact rg_51_38 h o   hs2
        · rw [if_neg c8] at hs2
          refine aw_icge_f (pc1 := 24) at_51_21 c8 rfl ?_
          refine aw_vload_n (pc1 := 25) at_51_24 l0 i0 rfl ?_
          obtain ⟨v9, e10, hs3⟩ := am_bind hs2
          clear hs2
          refine aw_pG (pc1 := 28) at_51_25 (am_vR_s e10).1 rfl ?_
          refine aw_iload_n (pc1 := 29) at_51_28 l1 rfl ?_
          refine aw_vload_n (pc1 := 30) at_51_29 l0 i0 rfl ?_
          obtain ⟨v11, e12, hs4⟩ := am_bind hs3
          clear hs3
          refine aw_pG (pc1 := 33) at_51_30 (am_vI_s e12) rfl ?_
          refine aw_imul (v := (x1 * v11)) (pc1 := 34) at_51_33 rfl rfl ?_
          refine aw_iload_n (pc1 := 35) at_51_34 l2 rfl ?_
          refine aw_iadd (v := ((x1 * v11) + x2)) (pc1 := 36) at_51_35 rfl rfl ?_
          refine aw_iload_n (pc1 := 37) at_51_36 l3 rfl ?_
          obtain ⟨h13, e14, hs5⟩ := am_bind hs4
          clear hs4
          refine aw_pS (pc1 := 38) at_51_37 (Or.inl ⟨rfl, rfl⟩) e14 rfl ?_
          exact rg_51_38 h13 o   hs5
def fm_51 (y0 : Value) (y1 : Int32) (y2 : Int32) (y3 : Int32) (h : am_H) : Option am_O := fg_51_0 y0 y1 y2 y3 h
theorem rm_51 {X : am_X} {d : Nat} (y0 : Value) (y1 : Int32) (y2 : Int32) (y3 : Int32) (h : am_H) (o : am_O) (i0 : am_isR y0 = true) (hs : fm_51 y0 y1 y2 y3 h = some o) : am_W X (d) 51 0 (am_args 0 [y0, .int y1, .int y2, .int y3]) [] h (fun q => q = o) := by
  rw [am_args_R i0, am_args_I, am_args_I, am_args_I]
  exact rg_51_0 y0 y1 y2 y3 h o rfl rfl rfl rfl i0 hs
def fg_50_22 (N : Nat) : Nat → Value → Int32 → Int32 → am_H → Option am_O
  | 0 => fun _ _ _ _ => none
  | K + 1 => fun x0 x1 x2 h => (if 4 ≤ x2 then some (.inl (none, h)) else ((am_vR (am_pG 2309 x0 h)).bind fun v2 => ((am_vI (am_pG 2306 x0 h)).bind fun v4 => ((am_pS 0 v2 ((4 * x1) + x2) v4 h).bind fun h6 => ((am_vR (am_pG 2308 x0 h6)).bind fun v8 => (if am_pOk 9 x0 h6 then am_cI true (fm_47 x0 0 9 h6) (fun v11 h12 => (if am_pOk 3 v8 h12 then am_cV true (fm_51 v8 x1 ((1 + x2)) v11 h12) (fun h16 => (fg_50_22 N K x0 x1 ((x2 + 1)) h16)) else none)) else none))))))
theorem rg_50_22 {X : am_X} {d : Nat} {N : Nat} : ∀ (K : Nat) (x0 : Value) (x1 : Int32) (x2 : Int32) (h : am_H) (o : am_O), fg_50_22 N K x0 x1 x2 h = some o → ∀ lv : am_LV, (lv.lookup 0 = some x0) → (lv.lookup 1 = some (.int x1)) → (lv.lookup 2 = some (.int x2)) → (am_isR x0 = true) → am_W X (d + 3) 50 22 lv [] h (fun q => q = o) := by
  intro K
  induction K with
  | zero => intro x0 x1 x2 h o hs; cases hs
  | succ K ih =>
    intro x0 x1 x2 h o hs lv l0 l1 l2 i0
    unfold fg_50_22 at hs
    refine aw_iload_n (pc1 := 23) at_50_22 l2 rfl ?_
    refine aw_iconst (v := 4) (pc1 := 24) at_50_23 (by decide) rfl ?_
    by_cases c1 : 4 ≤ x2
    · rw [if_pos c1] at hs
      refine aw_icge_t at_50_24 c1 ?_
      cases hs
      exact aw_vret at_50_65 rt_50 rfl
    · rw [if_neg c1] at hs
      refine aw_icge_f (pc1 := 27) at_50_24 c1 rfl ?_
      refine aw_vload_n (pc1 := 28) at_50_27 l0 i0 rfl ?_
      obtain ⟨v2, e3, hs1⟩ := am_bind hs
      clear hs
      refine aw_pG (pc1 := 31) at_50_28 (am_vR_s e3).1 rfl ?_
      refine aw_iconst (v := 4) (pc1 := 32) at_50_31 (by decide) rfl ?_
      refine aw_iload_n (pc1 := 33) at_50_32 l1 rfl ?_
      refine aw_imul (v := (4 * x1)) (pc1 := 34) at_50_33 rfl rfl ?_
      refine aw_iload_n (pc1 := 35) at_50_34 l2 rfl ?_
      refine aw_iadd (v := ((4 * x1) + x2)) (pc1 := 36) at_50_35 rfl rfl ?_
      refine aw_vload_n (pc1 := 37) at_50_36 l0 i0 rfl ?_
      obtain ⟨v4, e5, hs2⟩ := am_bind hs1
      clear hs1
      refine aw_pG (pc1 := 40) at_50_37 (am_vI_s e5) rfl ?_
      obtain ⟨h6, e7, hs3⟩ := am_bind hs2
      clear hs2
      refine aw_pS (pc1 := 41) at_50_40 (Or.inl ⟨rfl, rfl⟩) e7 rfl ?_
      refine aw_vload_n (pc1 := 42) at_50_41 l0 i0 rfl ?_
      obtain ⟨v8, e9, hs4⟩ := am_bind hs3
      clear hs3
      refine aw_pG (pc1 := 45) at_50_42 (am_vR_s e9).1 rfl ?_
      refine aw_iload_n (pc1 := 46) at_50_45 l1 rfl ?_
      refine aw_iconst (v := 1) (pc1 := 47) at_50_46 (by decide) rfl ?_
      refine aw_iload_n (pc1 := 48) at_50_47 l2 rfl ?_
      refine aw_iadd (v := (1 + x2)) (pc1 := 49) at_50_48 rfl rfl ?_
      refine aw_vload_n (pc1 := 50) at_50_49 l0 i0 rfl ?_
      refine aw_iconst (v := 0) (pc1 := 51) at_50_50 (by decide) rfl ?_
      refine aw_bipush (v := 9) (pc1 := 53) at_50_51 (by decide) rfl ?_
      obtain ⟨z10, hs5⟩ := am_ift hs4
      clear hs4
      refine aw_call (F := fm_47 x0 0 9 h6) (t := true) (na := 3) (kd := 1) (as := [x0, (.int 0), (.int 9)]) at_50_53 (am_k3v kb_47) mn_47 mk_47 rfl rfl (am_ok_v mi_47 (am_hl rfl (am_ccR i0 (am_ccI (am_ccI am_cats_0))) rfl) z10) (am_hc (am_ccI (am_ccI (am_ccR (am_vR_s e9).2 am_cats_0))) rfl) (fun _ => ⟨rfl, hh_50⟩) (fun o1 hz9 => rm_47 x0 0 9 h6 o1 i0 hz9) ?_
      rcases am_cI_s hs5 with ⟨v11, h12, f13, hs6⟩ | hs6
      · clear hs5
        refine Or.inl ⟨_, _, f13, ?_⟩
        show am_W X _ 50 56 _ [(.int v11), (.int (1 + x2)), (.int x1), v8] h12 _
        obtain ⟨z14, hs7⟩ := am_ift hs6
        clear hs6
        refine aw_call (F := fm_51 v8 x1 ((1 + x2)) v11 h12) (t := true) (na := 4) (kd := 1) (as := [v8, (.int x1), (.int (1 + x2)), (.int v11)]) at_50_56 (am_k3v kb_51) mn_51 mk_51 rfl rfl (am_ok_v mi_51 (am_hl rfl (am_ccR (am_vR_s e9).2 (am_ccI (am_ccI (am_ccI am_cats_0)))) rfl) z14) (am_hc am_cats_0 rfl) (fun _ => ⟨rfl, hh_50⟩) (fun o1 hz9 => rm_51 v8 x1 ((1 + x2)) v11 h12 o1 (am_vR_s e9).2 hz9) ?_
        rcases am_cV_s hs7 with ⟨h16, f17, hs8⟩ | hs8
        · clear hs7
          refine Or.inl ⟨_, _, f17, ?_⟩
          show am_W X _ 50 59 _ [] h16 _
          refine aw_iinc (v := (x2 + 1)) (c := 1) (lv1 := am_put1 _ 2 _) (pc1 := 62) at_50_59 l2 (by decide) rfl rfl rfl ?_
          refine aw_goto at_50_62 ?_
          exact ih x0 x1 ((x2 + 1)) h16 o hs8 _ (am_lk1 l0 rfl rfl) (am_lk1 l1 rfl rfl) am_lk0 i0
        · clear hs7
          exact Or.inr hs8
      · clear hs5
        exact Or.inr hs6
def fg_50_0 (N : Nat) (x0 : Value) (x1 : Int32) (h : am_H) : Option am_O := ((am_vR (am_pG 2308 x0 h)).bind fun v1 => (if am_pOk 9 x0 h then am_cI true (fm_43 N x0 h) (fun v4 h5 => (if am_pOk 3 v1 h5 then am_cI true (fm_41 N v1 v4 0 h5) (fun v8 h9 => (if am_pOk 9 x0 h9 then am_cI true (fm_42 x0 58 h9) (fun v12 h13 => (fg_50_22 N N x0 x1 0 h13)) else none)) else none)) else none))
theorem rg_50_0 {X : am_X} {d : Nat} {N : Nat} {lv : am_LV} (x0 : Value) (x1 : Int32) (h : am_H) (o : am_O) (l0 : lv.lookup 0 = some x0) (l1 : lv.lookup 1 = some (.int x1)) (i0 : am_isR x0 = true) (hs : fg_50_0 N x0 x1 h = some o) : am_W X (d + 3) 50 0 lv [] h (fun q => q = o) := by
  unfold fg_50_0 at hs
  refine aw_vload_n (pc1 := 1) at_50_0 l0 i0 rfl ?_
  obtain ⟨v1, e2, hs1⟩ := am_bind hs
  clear hs
  refine aw_pG (pc1 := 4) at_50_1 (am_vR_s e2).1 rfl ?_
  refine aw_vload_n (pc1 := 5) at_50_4 l0 i0 rfl ?_
  obtain ⟨z3, hs2⟩ := am_ift hs1
  clear hs1
  refine aw_call (F := fm_43 N x0 h) (t := true) (na := 1) (kd := 1) (as := [x0]) at_50_5 (am_k3v kb_43) mn_43 mk_43 rfl rfl (am_ok_v mi_43 (am_hl rfl (am_ccR i0 am_cats_0) rfl) z3) (am_hc (am_ccR (am_vR_s e2).2 am_cats_0) rfl) (fun _ => ⟨rfl, hh_50⟩) (fun o1 hz9 => rm_43 x0 h o1 i0 hz9) ?_
  rcases am_cI_s hs2 with ⟨v4, h5, f6, hs3⟩ | hs3
  · clear hs2
    refine Or.inl ⟨_, _, f6, ?_⟩
    show am_W X _ 50 8 _ [(.int v4), v1] h5 _
    refine aw_iconst (v := 0) (pc1 := 9) at_50_8 (by decide) rfl ?_
    obtain ⟨z7, hs4⟩ := am_ift hs3
    clear hs3
    refine aw_call (F := fm_41 N v1 v4 0 h5) (t := true) (na := 3) (kd := 1) (as := [v1, (.int v4), (.int 0)]) at_50_9 (am_k3v kb_41) mn_41 mk_41 rfl rfl (am_ok_v mi_41 (am_hl rfl (am_ccR (am_vR_s e2).2 (am_ccI (am_ccI am_cats_0))) rfl) z7) (am_hc am_cats_0 rfl) (fun _ => ⟨rfl, hh_50⟩) (fun o1 hz9 => rm_41 v1 v4 0 h5 o1 (am_vR_s e2).2 hz9) ?_
    rcases am_cI_s hs4 with ⟨v8, h9, f10, hs5⟩ | hs5
    · clear hs4
      refine Or.inl ⟨_, _, f10, ?_⟩
      show am_W X _ 50 12 _ [(.int v8)] h9 _
      refine aw_popi (pc1 := 13) at_50_12 rfl ?_
      refine aw_vload_n (pc1 := 14) at_50_13 l0 i0 rfl ?_
      refine aw_bipush (v := 58) (pc1 := 16) at_50_14 (by decide) rfl ?_
      obtain ⟨z11, hs6⟩ := am_ift hs5
      clear hs5
      refine aw_call (F := fm_42 x0 58 h9) (t := true) (na := 2) (kd := 1) (as := [x0, (.int 58)]) at_50_16 (am_k3v kb_42) mn_42 mk_42 rfl rfl (am_ok_v mi_42 (am_hl rfl (am_ccR i0 (am_ccI am_cats_0)) rfl) z11) (am_hc am_cats_0 rfl) (fun _ => ⟨rfl, hh_50⟩) (fun o1 hz9 => rm_42 x0 58 h9 o1 i0 hz9) ?_
      rcases am_cI_s hs6 with ⟨v12, h13, f14, hs7⟩ | hs7
      · clear hs6
        refine Or.inl ⟨_, _, f14, ?_⟩
        show am_W X _ 50 19 _ [(.int v12)] h13 _
        refine aw_popi (pc1 := 20) at_50_19 rfl ?_
        refine aw_iconst (v := 0) (pc1 := 21) at_50_20 (by decide) rfl ?_
        refine aw_istore_n (lv1 := am_put1 _ 2 _) (pc1 := 22) at_50_21 rfl rfl ?_
        exact rg_50_22 N x0 x1 0 h13 o hs7 _ (am_lk1 l0 rfl rfl) (am_lk1 l1 rfl rfl) am_lk0 i0
      · clear hs6
        exact Or.inr hs7
    · clear hs4
      exact Or.inr hs5
  · clear hs2
    exact Or.inr hs3
def fm_50 (N : Nat) (y0 : Value) (y1 : Int32) (h : am_H) : Option am_O := fg_50_0 N y0 y1 h
theorem rm_50 {X : am_X} {d : Nat} {N : Nat} (y0 : Value) (y1 : Int32) (h : am_H) (o : am_O) (i0 : am_isR y0 = true) (hs : fm_50 N y0 y1 h = some o) : am_W X (d + 3) 50 0 (am_args 0 [y0, .int y1]) [] h (fun q => q = o) := by
  rw [am_args_R i0, am_args_I]
  exact rg_50_0 y0 y1 h o rfl rfl i0 hs
def fg_48_111 (N : Nat) (h : am_H) : Option am_O := some (.inl (none, h))
theorem rg_48_111 {X : am_X} {d : Nat} {N : Nat} {lv : am_LV} (h : am_H) (o : am_O) (hs : fg_48_111 N h = some o) : am_W X (d + 4) 48 111 lv [] h (fun q => q = o) := by
  unfold fg_48_111 at hs
  cases hs
  exact aw_vret at_48_111 rt_48 rfl
def fg_48_105 (N : Nat) (rec_15 : Value → Int32 → Int32 → Int32 → am_H → Option am_O) (x0 : Value) (x1 : Int32) (x2 : Int32) (x3 : Int32) (h : am_H) : Option am_O := (rec_15 x0 x1 x2 ((x3 + 1)) h)
theorem rg_48_105 {X : am_X} {d : Nat} {N : Nat} {rec_15 : Value → Int32 → Int32 → Int32 → am_H → Option am_O} (q_15 : ∀ (x0 : Value) (x1 : Int32) (x2 : Int32) (x3 : Int32) (h : am_H) (o : am_O), rec_15 x0 x1 x2 x3 h = some o → ∀ lv : am_LV, (lv.lookup 0 = some x0) → (lv.lookup 1 = some (.int x1)) → (lv.lookup 2 = some (.int x2)) → (lv.lookup 3 = some (.int x3)) → (am_isR x0 = true) → am_W X (d + 4) 48 15 lv [] h (fun q => q = o)) {lv : am_LV} (x0 : Value) (x1 : Int32) (x2 : Int32) (x3 : Int32) (h : am_H) (o : am_O) (l0 : lv.lookup 0 = some x0) (l1 : lv.lookup 1 = some (.int x1)) (l2 : lv.lookup 2 = some (.int x2)) (l3 : lv.lookup 3 = some (.int x3)) (i0 : am_isR x0 = true) (hs : fg_48_105 N rec_15 x0 x1 x2 x3 h = some o) : am_W X (d + 4) 48 105 lv [] h (fun q => q = o) := by
  unfold fg_48_105 at hs
  refine aw_iinc (v := (x3 + 1)) (c := 1) (lv1 := am_put1 _ 3 _) (pc1 := 108) at_48_105 l3 (by decide) rfl rfl rfl ?_
  refine aw_goto at_48_108 ?_
  exact q_15 x0 x1 x2 ((x3 + 1)) h o hs _ (am_lk1 l0 rfl rfl) (am_lk1 l1 rfl rfl) (am_lk1 l2 rfl rfl) am_lk0 i0
def fg_48_66 (N : Nat) (rec_15 : Value → Int32 → Int32 → Int32 → am_H → Option am_O) (x0 : Value) (x1 : Int32) (x2 : Int32) (x3 : Int32) (h : am_H) : Option am_O := (if ¬ x3 = x2 then (if ¬ x1 = 1 then (if am_pOk 9 x0 h then am_cV true (fm_50 N x0 x3 h) (fun h5 => (fg_48_105 N rec_15 x0 x1 x2 x3 h5)) else none) else ((am_vR (am_pG 2309 x0 h)).bind fun v7 => ((am_vI (am_pG 2306 x0 h)).bind fun v9 => ((am_pS 0 v7 x3 v9 h).bind fun h11 => (if am_pOk 9 x0 h11 then am_cV true (fm_49 N x0 h11) (fun h15 => (fg_48_105 N rec_15 x0 x1 x2 x3 h15)) else none))))) else (if am_pOk 9 x0 h then am_cV true (fm_39 x0 h) (fun h19 => (fg_48_105 N rec_15 x0 x1 x2 x3 h19)) else none))
theorem rg_48_66 {X : am_X} {d : Nat} {N : Nat} {rec_15 : Value → Int32 → Int32 → Int32 → am_H → Option am_O} (q_15 : ∀ (x0 : Value) (x1 : Int32) (x2 : Int32) (x3 : Int32) (h : am_H) (o : am_O), rec_15 x0 x1 x2 x3 h = some o → ∀ lv : am_LV, (lv.lookup 0 = some x0) → (lv.lookup 1 = some (.int x1)) → (lv.lookup 2 = some (.int x2)) → (lv.lookup 3 = some (.int x3)) → (am_isR x0 = true) → am_W X (d + 4) 48 15 lv [] h (fun q => q = o)) {lv : am_LV} (x0 : Value) (x1 : Int32) (x2 : Int32) (x3 : Int32) (h : am_H) (o : am_O) (l0 : lv.lookup 0 = some x0) (l1 : lv.lookup 1 = some (.int x1)) (l2 : lv.lookup 2 = some (.int x2)) (l3 : lv.lookup 3 = some (.int x3)) (i0 : am_isR x0 = true) (hs : fg_48_66 N rec_15 x0 x1 x2 x3 h = some o) : am_W X (d + 4) 48 66 lv [] h (fun q => q = o) := by
  unfold fg_48_66 at hs
  refine aw_iload_n (pc1 := 67) at_48_66 l3 rfl ?_
  refine aw_iload_n (pc1 := 68) at_48_67 l2 rfl ?_
  by_cases c1 : ¬ x3 = x2
  · rw [if_pos c1] at hs
    refine aw_icne_t at_48_68 c1 ?_
    refine aw_iload_n (pc1 := 79) at_48_78 l1 rfl ?_
    refine aw_iconst (v := 1) (pc1 := 80) at_48_79 (by decide) rfl ?_
    by_cases c2 : ¬ x1 = 1
    · rw [if_pos c2] at hs
      refine aw_icne_t at_48_80 c2 ?_
      refine aw_vload_n (pc1 := 101) at_48_100 l0 i0 rfl ?_
      refine aw_iload_n (pc1 := 102) at_48_101 l3 rfl ?_
      obtain ⟨z3, hs1⟩ := am_ift hs
      clear hs
      refine aw_call (F := fm_50 N x0 x3 h) (t := true) (na := 2) (kd := 1) (as := [x0, (.int x3)]) at_48_102 (am_k3v kb_50) mn_50 mk_50 rfl rfl (am_ok_v mi_50 (am_hl rfl (am_ccR i0 (am_ccI am_cats_0)) rfl) z3) (am_hc am_cats_0 rfl) (fun _ => ⟨rfl, hh_48⟩) (fun o1 hz9 => rm_50 x0 x3 h o1 i0 hz9) ?_
      rcases am_cV_s hs1 with ⟨h5, f6, hs2⟩ | hs2
      · clear hs1
        refine Or.inl ⟨_, _, f6, ?_⟩
        show am_W X _ 48 105 _ [] h5 _
        exact rg_48_105 q_15 x0 x1 x2 x3 h5 o l0 l1 l2 l3 i0 hs2
      · clear hs1
        exact Or.inr hs2
    · rw [if_neg c2] at hs
      refine aw_icne_f (pc1 := 83) at_48_80 c2 rfl ?_
      refine aw_vload_n (pc1 := 84) at_48_83 l0 i0 rfl ?_
      obtain ⟨v7, e8, hs3⟩ := am_bind hs
      clear hs
      refine aw_pG (pc1 := 87) at_48_84 (am_vR_s e8).1 rfl ?_
      refine aw_iload_n (pc1 := 88) at_48_87 l3 rfl ?_
      refine aw_vload_n (pc1 := 89) at_48_88 l0 i0 rfl ?_
      obtain ⟨v9, e10, hs4⟩ := am_bind hs3
      clear hs3
      refine aw_pG (pc1 := 92) at_48_89 (am_vI_s e10) rfl ?_
      obtain ⟨h11, e12, hs5⟩ := am_bind hs4
      clear hs4
      refine aw_pS (pc1 := 93) at_48_92 (Or.inl ⟨rfl, rfl⟩) e12 rfl ?_
      refine aw_vload_n (pc1 := 94) at_48_93 l0 i0 rfl ?_
      obtain ⟨z13, hs6⟩ := am_ift hs5
      clear hs5
      refine aw_call (F := fm_49 N x0 h11) (t := true) (na := 1) (kd := 1) (as := [x0]) at_48_94 (am_k3v kb_49) mn_49 mk_49 rfl rfl (am_ok_v mi_49 (am_hl rfl (am_ccR i0 am_cats_0) rfl) z13) (am_hc am_cats_0 rfl) (fun _ => ⟨rfl, hh_48⟩) (fun o1 hz9 => rm_49 x0 h11 o1 i0 hz9) ?_
      rcases am_cV_s hs6 with ⟨h15, f16, hs7⟩ | hs7
      · clear hs6
        refine Or.inl ⟨_, _, f16, ?_⟩
        show am_W X _ 48 97 _ [] h15 _
        refine aw_goto at_48_97 ?_
        exact rg_48_105 q_15 x0 x1 x2 x3 h15 o l0 l1 l2 l3 i0 hs7
      · clear hs6
        exact Or.inr hs7
  · rw [if_neg c1] at hs
    refine aw_icne_f (pc1 := 71) at_48_68 c1 rfl ?_
    refine aw_vload_n (pc1 := 72) at_48_71 l0 i0 rfl ?_
    obtain ⟨z17, hs8⟩ := am_ift hs
    clear hs
    refine aw_call (F := fm_39 x0 h) (t := true) (na := 1) (kd := 1) (as := [x0]) at_48_72 (am_k3v kb_39) mn_39 mk_39 rfl rfl (am_ok_v mi_39 (am_hl rfl (am_ccR i0 am_cats_0) rfl) z17) (am_hc am_cats_0 rfl) (fun _ => ⟨rfl, hh_48⟩) (fun o1 hz9 => rm_39 x0 h o1 i0 hz9) ?_
    rcases am_cV_s hs8 with ⟨h19, f20, hs9⟩ | hs9
    · clear hs8
      refine Or.inl ⟨_, _, f20, ?_⟩
      show am_W X _ 48 75 _ [] h19 _
      refine aw_goto at_48_75 ?_
      exact rg_48_105 q_15 x0 x1 x2 x3 h19 o l0 l1 l2 l3 i0 hs9
    · clear hs8
      exact Or.inr hs9
def fg_48_59 (N : Nat) (rec_15 : Value → Int32 → Int32 → Int32 → am_H → Option am_O) (x0 : Value) (x1 : Int32) (x2 : Int32) (x3 : Int32) (s0 : Value) (s1 : Int32) (h : am_H) : Option am_O := (if am_pOk 9 s0 h then am_cI true (fm_42 s0 s1 h) (fun v2 h3 => (if ¬ v2 = 0 then (fg_48_66 N rec_15 x0 x1 x2 x3 h3) else some (.inl (none, h3)))) else none)
theorem rg_48_59 {X : am_X} {d : Nat} {N : Nat} {rec_15 : Value → Int32 → Int32 → Int32 → am_H → Option am_O} (q_15 : ∀ (x0 : Value) (x1 : Int32) (x2 : Int32) (x3 : Int32) (h : am_H) (o : am_O), rec_15 x0 x1 x2 x3 h = some o → ∀ lv : am_LV, (lv.lookup 0 = some x0) → (lv.lookup 1 = some (.int x1)) → (lv.lookup 2 = some (.int x2)) → (lv.lookup 3 = some (.int x3)) → (am_isR x0 = true) → am_W X (d + 4) 48 15 lv [] h (fun q => q = o)) {lv : am_LV} (x0 : Value) (x1 : Int32) (x2 : Int32) (x3 : Int32) (s0 : Value) (s1 : Int32) (h : am_H) (o : am_O) (l0 : lv.lookup 0 = some x0) (l1 : lv.lookup 1 = some (.int x1)) (l2 : lv.lookup 2 = some (.int x2)) (l3 : lv.lookup 3 = some (.int x3)) (i0 : am_isR x0 = true) (j0 : am_isR s0 = true) (hs : fg_48_59 N rec_15 x0 x1 x2 x3 s0 s1 h = some o) : am_W X (d + 4) 48 59 lv [(.int s1), s0] h (fun q => q = o) := by
  unfold fg_48_59 at hs
  obtain ⟨z1, hs1⟩ := am_ift hs
  clear hs
  refine aw_call (F := fm_42 s0 s1 h) (t := true) (na := 2) (kd := 1) (as := [s0, (.int s1)]) at_48_59 (am_k3v kb_42) mn_42 mk_42 rfl rfl (am_ok_v mi_42 (am_hl rfl (am_ccR j0 (am_ccI am_cats_0)) rfl) z1) (am_hc am_cats_0 rfl) (fun _ => ⟨rfl, hh_48⟩) (fun o1 hz9 => rm_42 s0 s1 h o1 j0 hz9) ?_
  rcases am_cI_s hs1 with ⟨v2, h3, f4, hs2⟩ | hs2
  · clear hs1
    refine Or.inl ⟨_, _, f4, ?_⟩
    show am_W X _ 48 62 _ [(.int v2)] h3 _
    by_cases c5 : ¬ v2 = 0
    · rw [if_pos c5] at hs2
      refine aw_ifne_t at_48_62 c5 ?_
      exact rg_48_66 q_15 x0 x1 x2 x3 h3 o l0 l1 l2 l3 i0 hs2
    · rw [if_neg c5] at hs2
      refine aw_ifne_f (pc1 := 65) at_48_62 c5 rfl ?_
      cases hs2
      exact aw_vret at_48_65 rt_48 rfl
  · clear hs1
    exact Or.inr hs2
def fg_48_42 (N : Nat) (rec_15 : Value → Int32 → Int32 → Int32 → am_H → Option am_O) (x0 : Value) (x1 : Int32) (x2 : Int32) (x3 : Int32) (h : am_H) : Option am_O := (if x3 ≤ 0 then (fg_48_66 N rec_15 x0 x1 x2 x3 h) else (if ¬ x1 = 1 then (fg_48_59 N rec_15 x0 x1 x2 x3 x0 59 h) else (fg_48_59 N rec_15 x0 x1 x2 x3 x0 32 h)))
theorem rg_48_42 {X : am_X} {d : Nat} {N : Nat} {rec_15 : Value → Int32 → Int32 → Int32 → am_H → Option am_O} (q_15 : ∀ (x0 : Value) (x1 : Int32) (x2 : Int32) (x3 : Int32) (h : am_H) (o : am_O), rec_15 x0 x1 x2 x3 h = some o → ∀ lv : am_LV, (lv.lookup 0 = some x0) → (lv.lookup 1 = some (.int x1)) → (lv.lookup 2 = some (.int x2)) → (lv.lookup 3 = some (.int x3)) → (am_isR x0 = true) → am_W X (d + 4) 48 15 lv [] h (fun q => q = o)) {lv : am_LV} (x0 : Value) (x1 : Int32) (x2 : Int32) (x3 : Int32) (h : am_H) (o : am_O) (l0 : lv.lookup 0 = some x0) (l1 : lv.lookup 1 = some (.int x1)) (l2 : lv.lookup 2 = some (.int x2)) (l3 : lv.lookup 3 = some (.int x3)) (i0 : am_isR x0 = true) (hs : fg_48_42 N rec_15 x0 x1 x2 x3 h = some o) : am_W X (d + 4) 48 42 lv [] h (fun q => q = o) := by
  unfold fg_48_42 at hs
  refine aw_iload_n (pc1 := 43) at_48_42 l3 rfl ?_
  by_cases c1 : x3 ≤ 0
  · rw [if_pos c1] at hs
    refine aw_ifle_t at_48_43 c1 ?_
    exact rg_48_66 q_15 x0 x1 x2 x3 h o l0 l1 l2 l3 i0 hs
  · rw [if_neg c1] at hs
    refine aw_ifle_f (pc1 := 46) at_48_43 c1 rfl ?_
    refine aw_vload_n (pc1 := 47) at_48_46 l0 i0 rfl ?_
    refine aw_iload_n (pc1 := 48) at_48_47 l1 rfl ?_
    refine aw_iconst (v := 1) (pc1 := 49) at_48_48 (by decide) rfl ?_
    by_cases c2 : ¬ x1 = 1
    · rw [if_pos c2] at hs
      refine aw_icne_t at_48_49 c2 ?_
      refine aw_bipush (v := 59) (pc1 := 59) at_48_57 (by decide) rfl ?_
      exact rg_48_59 q_15 x0 x1 x2 x3 x0 59 h o l0 l1 l2 l3 i0 i0 hs
    · rw [if_neg c2] at hs
      refine aw_icne_f (pc1 := 52) at_48_49 c2 rfl ?_
      refine aw_bipush (v := 32) (pc1 := 54) at_48_52 (by decide) rfl ?_
      refine aw_goto at_48_54 ?_
      exact rg_48_59 q_15 x0 x1 x2 x3 x0 32 h o l0 l1 l2 l3 i0 i0 hs
def fg_48_15 (N : Nat) : Nat → Value → Int32 → Int32 → Int32 → am_H → Option am_O
  | 0 => fun _ _ _ _ _ => none
  | K + 1 => fun x0 x1 x2 x3 h => (if x2 < x3 then (fg_48_111 N h) else ((am_vI (am_pG 2307 x0 h)).bind fun v2 => (if 0 ≤ v2 then (fg_48_111 N h) else (if x3 = 0 then (fg_48_42 N (fg_48_15 N K) x0 x1 x2 x3 h) else ((am_vI (am_pG 2306 x0 h)).bind fun v6 => ((am_vI (am_pG 2305 x0 h)).bind fun v8 => (if v8 ≤ v6 then (fg_48_111 N h) else (fg_48_42 N (fg_48_15 N K) x0 x1 x2 x3 h))))))))
theorem rg_48_15 {X : am_X} {d : Nat} {N : Nat} : ∀ (K : Nat) (x0 : Value) (x1 : Int32) (x2 : Int32) (x3 : Int32) (h : am_H) (o : am_O), fg_48_15 N K x0 x1 x2 x3 h = some o → ∀ lv : am_LV, (lv.lookup 0 = some x0) → (lv.lookup 1 = some (.int x1)) → (lv.lookup 2 = some (.int x2)) → (lv.lookup 3 = some (.int x3)) → (am_isR x0 = true) → am_W X (d + 4) 48 15 lv [] h (fun q => q = o) := by
  intro K
  induction K with
  | zero => intro x0 x1 x2 x3 h o hs; cases hs
  | succ K ih =>
    intro x0 x1 x2 x3 h o hs lv l0 l1 l2 l3 i0
    unfold fg_48_15 at hs
    refine aw_iload_n (pc1 := 16) at_48_15 l3 rfl ?_
    refine aw_iload_n (pc1 := 17) at_48_16 l2 rfl ?_
    by_cases c1 : x2 < x3
    · rw [if_pos c1] at hs
      refine aw_icgt_t at_48_17 c1 ?_
      exact rg_48_111 h o   hs
    · rw [if_neg c1] at hs
      refine aw_icgt_f (pc1 := 20) at_48_17 c1 rfl ?_
      refine aw_vload_n (pc1 := 21) at_48_20 l0 i0 rfl ?_
      obtain ⟨v2, e3, hs1⟩ := am_bind hs
      clear hs
      refine aw_pG (pc1 := 24) at_48_21 (am_vI_s e3) rfl ?_
      by_cases c4 : 0 ≤ v2
      · rw [if_pos c4] at hs1
        refine aw_ifge_t at_48_24 c4 ?_
        exact rg_48_111 h o   hs1
      · rw [if_neg c4] at hs1
        refine aw_ifge_f (pc1 := 27) at_48_24 c4 rfl ?_
        refine aw_iload_n (pc1 := 28) at_48_27 l3 rfl ?_
        by_cases c5 : x3 = 0
        · rw [if_pos c5] at hs1
          refine aw_ifeq_t at_48_28 c5 ?_
          exact rg_48_42 (fun z0 z1 z2 z3 h o hs1 => ih z0 z1 z2 z3 h o hs1) x0 x1 x2 x3 h o l0 l1 l2 l3 i0 hs1
        · rw [if_neg c5] at hs1
          refine aw_ifeq_f (pc1 := 31) at_48_28 c5 rfl ?_
          refine aw_vload_n (pc1 := 32) at_48_31 l0 i0 rfl ?_
          obtain ⟨v6, e7, hs2⟩ := am_bind hs1
          clear hs1
          refine aw_pG (pc1 := 35) at_48_32 (am_vI_s e7) rfl ?_
          refine aw_vload_n (pc1 := 36) at_48_35 l0 i0 rfl ?_
          obtain ⟨v8, e9, hs3⟩ := am_bind hs2
          clear hs2
          refine aw_pG (pc1 := 39) at_48_36 (am_vI_s e9) rfl ?_
          by_cases c10 : v8 ≤ v6
          · rw [if_pos c10] at hs3
            refine aw_icge_t at_48_39 c10 ?_
            exact rg_48_111 h o   hs3
          · rw [if_neg c10] at hs3
            refine aw_icge_f (pc1 := 42) at_48_39 c10 rfl ?_
            exact rg_48_42 (fun z0 z1 z2 z3 h o hs3 => ih z0 z1 z2 z3 h o hs3) x0 x1 x2 x3 h o l0 l1 l2 l3 i0 hs3
def fg_48_12 (N : Nat) (x0 : Value) (x1 : Int32) (s0 : Int32) (h : am_H) : Option am_O := (fg_48_15 N N x0 x1 s0 0 h)
theorem rg_48_12 {X : am_X} {d : Nat} {N : Nat} {lv : am_LV} (x0 : Value) (x1 : Int32) (s0 : Int32) (h : am_H) (o : am_O) (l0 : lv.lookup 0 = some x0) (l1 : lv.lookup 1 = some (.int x1)) (i0 : am_isR x0 = true) (hs : fg_48_12 N x0 x1 s0 h = some o) : am_W X (d + 4) 48 12 lv [(.int s0)] h (fun q => q = o) := by
  unfold fg_48_12 at hs
  refine aw_istore_n (lv1 := am_put1 _ 2 _) (pc1 := 13) at_48_12 rfl rfl ?_
  refine aw_iconst (v := 0) (pc1 := 14) at_48_13 (by decide) rfl ?_
  refine aw_istore_n (lv1 := am_put1 _ 3 _) (pc1 := 15) at_48_14 rfl rfl ?_
  exact rg_48_15 N x0 x1 s0 0 h o hs _ (am_lk1 (am_lk1 l0 rfl rfl) rfl rfl) (am_lk1 (am_lk1 l1 rfl rfl) rfl rfl) (am_lk1 am_lk0 rfl rfl) am_lk0 i0
def fg_48_0 (N : Nat) (x0 : Value) (x1 : Int32) (h : am_H) : Option am_O := (if ¬ x1 = 1 then (fg_48_12 N x0 x1 6 h) else (fg_48_12 N x0 x1 60 h))
theorem rg_48_0 {X : am_X} {d : Nat} {N : Nat} {lv : am_LV} (x0 : Value) (x1 : Int32) (h : am_H) (o : am_O) (l0 : lv.lookup 0 = some x0) (l1 : lv.lookup 1 = some (.int x1)) (i0 : am_isR x0 = true) (hs : fg_48_0 N x0 x1 h = some o) : am_W X (d + 4) 48 0 lv [] h (fun q => q = o) := by
  unfold fg_48_0 at hs
  refine aw_iload_n (pc1 := 1) at_48_0 l1 rfl ?_
  refine aw_iconst (v := 1) (pc1 := 2) at_48_1 (by decide) rfl ?_
  by_cases c1 : ¬ x1 = 1
  · rw [if_pos c1] at hs
    refine aw_icne_t at_48_2 c1 ?_
    refine aw_bipush (v := 6) (pc1 := 12) at_48_10 (by decide) rfl ?_
    exact rg_48_12 x0 x1 6 h o l0 l1 i0 hs
  · rw [if_neg c1] at hs
    refine aw_icne_f (pc1 := 5) at_48_2 c1 rfl ?_
    refine aw_bipush (v := 60) (pc1 := 7) at_48_5 (by decide) rfl ?_
    refine aw_goto at_48_7 ?_
    exact rg_48_12 x0 x1 60 h o l0 l1 i0 hs
def fm_48 (N : Nat) (y0 : Value) (y1 : Int32) (h : am_H) : Option am_O := fg_48_0 N y0 y1 h
theorem rm_48 {X : am_X} {d : Nat} {N : Nat} (y0 : Value) (y1 : Int32) (h : am_H) (o : am_O) (i0 : am_isR y0 = true) (hs : fm_48 N y0 y1 h = some o) : am_W X (d + 4) 48 0 (am_args 0 [y0, .int y1]) [] h (fun q => q = o) := by
  rw [am_args_R i0, am_args_I]
  exact rg_48_0 y0 y1 h o rfl rfl i0 hs
def fg_53_5 (N : Nat) : Nat → Value → Int32 → Int32 → Int32 → am_H → Option am_O
  | 0 => fun _ _ _ _ _ => none
  | K + 1 => fun x0 x1 x2 x3 h => (if x3 ≤ x2 then some (.inl (none, h)) else ((am_pS 0 x0 x2 x1 h).bind fun h2 => (fg_53_5 N K x0 x1 ((x2 + 1)) x3 h2)))
theorem rg_53_5 {X : am_X} {d : Nat} {N : Nat} : ∀ (K : Nat) (x0 : Value) (x1 : Int32) (x2 : Int32) (x3 : Int32) (h : am_H) (o : am_O), fg_53_5 N K x0 x1 x2 x3 h = some o → ∀ lv : am_LV, (lv.lookup 0 = some x0) → (lv.lookup 1 = some (.int x1)) → (lv.lookup 2 = some (.int x2)) → (lv.lookup 3 = some (.int x3)) → (am_isR x0 = true) → am_W X (d) 53 5 lv [] h (fun q => q = o) := by
  intro K
  induction K with
  | zero => intro x0 x1 x2 x3 h o hs; cases hs
  | succ K ih =>
    intro x0 x1 x2 x3 h o hs lv l0 l1 l2 l3 i0
    unfold fg_53_5 at hs
    refine aw_iload_n (pc1 := 6) at_53_5 l2 rfl ?_
    refine aw_iload_n (pc1 := 7) at_53_6 l3 rfl ?_
    by_cases c1 : x3 ≤ x2
    · rw [if_pos c1] at hs
      refine aw_icge_t at_53_7 c1 ?_
      cases hs
      exact aw_vret at_53_20 rt_53 rfl
    · rw [if_neg c1] at hs
      refine aw_icge_f (pc1 := 10) at_53_7 c1 rfl ?_
      refine aw_vload_n (pc1 := 11) at_53_10 l0 i0 rfl ?_
      refine aw_iload_n (pc1 := 12) at_53_11 l2 rfl ?_
      refine aw_iload_n (pc1 := 13) at_53_12 l1 rfl ?_
      obtain ⟨h2, e3, hs1⟩ := am_bind hs
      clear hs
      refine aw_pS (pc1 := 14) at_53_13 (Or.inl ⟨rfl, rfl⟩) e3 rfl ?_
      refine aw_iinc (v := (x2 + 1)) (c := 1) (lv1 := am_put1 _ 2 _) (pc1 := 17) at_53_14 l2 (by decide) rfl rfl rfl ?_
      refine aw_goto at_53_17 ?_
      exact ih x0 x1 ((x2 + 1)) x3 h2 o hs1 _ (am_lk1 l0 rfl rfl) (am_lk1 l1 rfl rfl) am_lk0 (am_lk1 l3 rfl rfl) i0
def fg_53_0 (N : Nat) (x0 : Value) (x1 : Int32) (h : am_H) : Option am_O := ((am_pLen x0 h).bind fun v1 => (fg_53_5 N N x0 x1 0 v1 h))
theorem rg_53_0 {X : am_X} {d : Nat} {N : Nat} {lv : am_LV} (x0 : Value) (x1 : Int32) (h : am_H) (o : am_O) (l0 : lv.lookup 0 = some x0) (l1 : lv.lookup 1 = some (.int x1)) (i0 : am_isR x0 = true) (hs : fg_53_0 N x0 x1 h = some o) : am_W X (d) 53 0 lv [] h (fun q => q = o) := by
  unfold fg_53_0 at hs
  refine aw_iconst (v := 0) (pc1 := 1) at_53_0 (by decide) rfl ?_
  refine aw_istore_n (lv1 := am_put1 _ 2 _) (pc1 := 2) at_53_1 rfl rfl ?_
  refine aw_vload_n (pc1 := 3) at_53_2 (am_lk1 l0 rfl rfl) i0 rfl ?_
  obtain ⟨v1, e2, hs1⟩ := am_bind hs
  clear hs
  refine aw_pLen (pc1 := 4) at_53_3 e2 rfl ?_
  refine aw_istore_n (lv1 := am_put1 _ 3 _) (pc1 := 5) at_53_4 rfl rfl ?_
  exact rg_53_5 N x0 x1 0 v1 h o hs1 _ (am_lk1 (am_lk1 l0 rfl rfl) rfl rfl) (am_lk1 (am_lk1 l1 rfl rfl) rfl rfl) (am_lk1 am_lk0 rfl rfl) am_lk0 i0
def fm_53 (N : Nat) (y0 : Value) (y1 : Int32) (h : am_H) : Option am_O := fg_53_0 N y0 y1 h
theorem rm_53 {X : am_X} {d : Nat} {N : Nat} (y0 : Value) (y1 : Int32) (h : am_H) (o : am_O) (i0 : am_isR y0 = true) (hs : fm_53 N y0 y1 h = some o) : am_W X (d) 53 0 (am_args 0 [y0, .int y1]) [] h (fun q => q = o) := by
  rw [am_args_R i0, am_args_I]
  exact rg_53_0 y0 y1 h o rfl rfl i0 hs
def fg_54_41 (s0 : Int32) (h : am_H) : Option am_O := some (.inl (some (.int s0), h))
theorem rg_54_41 {X : am_X} {d : Nat} {lv : am_LV} (s0 : Int32) (h : am_H) (o : am_O) (hs : fg_54_41 s0 h = some o) : am_W X (d) 54 41 lv [(.int s0)] h (fun q => q = o) := by
  unfold fg_54_41 at hs
  cases hs
  exact aw_iret at_54_41 (by rw [rt_54]; rfl) rfl
def fg_54_40 (h : am_H) : Option am_O := (fg_54_41 0 h)
theorem rg_54_40 {X : am_X} {d : Nat} {lv : am_LV} (h : am_H) (o : am_O) (hs : fg_54_40 h = some o) : am_W X (d) 54 40 lv [] h (fun q => q = o) := by
  unfold fg_54_40 at hs
  refine aw_iconst (v := 0) (pc1 := 41) at_54_40 (by decide) rfl ?_
  exact rg_54_41 0 h o   hs
def fg_54_0 (x0 : Value) (x1 : Int32) (x2 : Int32) (h : am_H) : Option am_O := (if x1 < 0 then (fg_54_40 h) else ((am_vI (am_pG 771 x0 h)).bind fun v2 => (if v2 ≤ x1 then (fg_54_40 h) else (if x2 < 0 then (fg_54_40 h) else ((am_vI (am_pG 772 x0 h)).bind fun v6 => (if v6 ≤ x2 then (fg_54_40 h) else ((am_vR (am_pG 768 x0 h)).bind fun v9 => ((am_vI (am_pG 772 x0 h)).bind fun v11 => ((am_pA 0 v9 ((x1 * v11) + x2) h).bind fun v13 => (fg_54_41 v13 h))))))))))
theorem rg_54_0 {X : am_X} {d : Nat} {lv : am_LV} (x0 : Value) (x1 : Int32) (x2 : Int32) (h : am_H) (o : am_O) (l0 : lv.lookup 0 = some x0) (l1 : lv.lookup 1 = some (.int x1)) (l2 : lv.lookup 2 = some (.int x2)) (i0 : am_isR x0 = true) (hs : fg_54_0 x0 x1 x2 h = some o) : am_W X (d) 54 0 lv [] h (fun q => q = o) := by
  unfold fg_54_0 at hs
  refine aw_iload_n (pc1 := 1) at_54_0 l1 rfl ?_
  by_cases c1 : x1 < 0
  · rw [if_pos c1] at hs
    refine aw_iflt_t at_54_1 c1 ?_
    exact rg_54_40 h o   hs
  · rw [if_neg c1] at hs
    refine aw_iflt_f (pc1 := 4) at_54_1 c1 rfl ?_
    refine aw_iload_n (pc1 := 5) at_54_4 l1 rfl ?_
    refine aw_vload_n (pc1 := 6) at_54_5 l0 i0 rfl ?_
    obtain ⟨v2, e3, hs1⟩ := am_bind hs
    clear hs
    refine aw_pG (pc1 := 9) at_54_6 (am_vI_s e3) rfl ?_
    by_cases c4 : v2 ≤ x1
    · rw [if_pos c4] at hs1
      refine aw_icge_t at_54_9 c4 ?_
      exact rg_54_40 h o   hs1
    · rw [if_neg c4] at hs1
      refine aw_icge_f (pc1 := 12) at_54_9 c4 rfl ?_
      refine aw_iload_n (pc1 := 13) at_54_12 l2 rfl ?_
      by_cases c5 : x2 < 0
      · rw [if_pos c5] at hs1
        refine aw_iflt_t at_54_13 c5 ?_
        exact rg_54_40 h o   hs1
      · rw [if_neg c5] at hs1
        refine aw_iflt_f (pc1 := 16) at_54_13 c5 rfl ?_
        refine aw_iload_n (pc1 := 17) at_54_16 l2 rfl ?_
        refine aw_vload_n (pc1 := 18) at_54_17 l0 i0 rfl ?_
        obtain ⟨v6, e7, hs2⟩ := am_bind hs1
        clear hs1
        refine aw_pG (pc1 := 21) at_54_18 (am_vI_s e7) rfl ?_
        by_cases c8 : v6 ≤ x2
        · rw [if_pos c8] at hs2
          refine aw_icge_t at_54_21 c8 ?_
          exact rg_54_40 h o   hs2
        · rw [if_neg c8] at hs2
          refine aw_icge_f (pc1 := 24) at_54_21 c8 rfl ?_
          refine aw_vload_n (pc1 := 25) at_54_24 l0 i0 rfl ?_
          obtain ⟨v9, e10, hs3⟩ := am_bind hs2
          clear hs2
          refine aw_pG (pc1 := 28) at_54_25 (am_vR_s e10).1 rfl ?_
          refine aw_iload_n (pc1 := 29) at_54_28 l1 rfl ?_
          refine aw_vload_n (pc1 := 30) at_54_29 l0 i0 rfl ?_
          obtain ⟨v11, e12, hs4⟩ := am_bind hs3
          clear hs3
          refine aw_pG (pc1 := 33) at_54_30 (am_vI_s e12) rfl ?_
          refine aw_imul (v := (x1 * v11)) (pc1 := 34) at_54_33 rfl rfl ?_
          refine aw_iload_n (pc1 := 35) at_54_34 l2 rfl ?_
          refine aw_iadd (v := ((x1 * v11) + x2)) (pc1 := 36) at_54_35 rfl rfl ?_
          obtain ⟨v13, e14, hs5⟩ := am_bind hs4
          clear hs4
          refine aw_pA (pc1 := 37) at_54_36 (Or.inl ⟨rfl, rfl⟩) e14 rfl ?_
          refine aw_goto at_54_37 ?_
          exact rg_54_41 v13 h o   hs5
def fm_54 (y0 : Value) (y1 : Int32) (y2 : Int32) (h : am_H) : Option am_O := fg_54_0 y0 y1 y2 h
theorem rm_54 {X : am_X} {d : Nat} (y0 : Value) (y1 : Int32) (y2 : Int32) (h : am_H) (o : am_O) (i0 : am_isR y0 = true) (hs : fm_54 y0 y1 y2 h = some o) : am_W X (d) 54 0 (am_args 0 [y0, .int y1, .int y2]) [] h (fun q => q = o) := by
  rw [am_args_R i0, am_args_I, am_args_I]
  exact rg_54_0 y0 y1 y2 h o rfl rfl rfl i0 hs
def fg_55_42 (s0 : Int32) (h : am_H) : Option am_O := some (.inl (some (.int s0), h))
theorem rg_55_42 {X : am_X} {d : Nat} {lv : am_LV} (s0 : Int32) (h : am_H) (o : am_O) (hs : fg_55_42 s0 h = some o) : am_W X (d) 55 42 lv [(.int s0)] h (fun q => q = o) := by
  unfold fg_55_42 at hs
  cases hs
  exact aw_iret at_55_42 (by rw [rt_55]; rfl) rfl
def fg_55_37 (h : am_H) : Option am_O := (fg_55_42 ((-1)) h)
theorem rg_55_37 {X : am_X} {d : Nat} {lv : am_LV} (h : am_H) (o : am_O) (hs : fg_55_37 h = some o) : am_W X (d) 55 37 lv [] h (fun q => q = o) := by
  unfold fg_55_37 at hs
  refine aw_iconst (v := (-1)) (pc1 := 38) at_55_37 (by decide) rfl ?_
  refine aw_goto at_55_38 ?_
  exact rg_55_42 ((-1)) h o   hs
def fg_55_25 (x0 : Int32) (h : am_H) : Option am_O := (if x0 = 16 then (fg_55_37 h) else (if ¬ x0 = 18 then (fg_55_42 0 h) else (fg_55_37 h)))
theorem rg_55_25 {X : am_X} {d : Nat} {lv : am_LV} (x0 : Int32) (h : am_H) (o : am_O) (l0 : lv.lookup 0 = some (.int x0)) (hs : fg_55_25 x0 h = some o) : am_W X (d) 55 25 lv [] h (fun q => q = o) := by
  unfold fg_55_25 at hs
  refine aw_iload_n (pc1 := 26) at_55_25 l0 rfl ?_
  refine aw_bipush (v := 16) (pc1 := 28) at_55_26 (by decide) rfl ?_
  by_cases c1 : x0 = 16
  · rw [if_pos c1] at hs
    refine aw_iceq_t at_55_28 c1 ?_
    exact rg_55_37 h o   hs
  · rw [if_neg c1] at hs
    refine aw_iceq_f (pc1 := 31) at_55_28 c1 rfl ?_
    refine aw_iload_n (pc1 := 32) at_55_31 l0 rfl ?_
    refine aw_bipush (v := 18) (pc1 := 34) at_55_32 (by decide) rfl ?_
    by_cases c2 : ¬ x0 = 18
    · rw [if_pos c2] at hs
      refine aw_icne_t at_55_34 c2 ?_
      refine aw_iconst (v := 0) (pc1 := 42) at_55_41 (by decide) rfl ?_
      exact rg_55_42 0 h o   hs
    · rw [if_neg c2] at hs
      refine aw_icne_f (pc1 := 37) at_55_34 c2 rfl ?_
      exact rg_55_37 h o   hs
def fg_55_11 (h : am_H) : Option am_O := some (.inl (some (.int 1), h))
theorem rg_55_11 {X : am_X} {d : Nat} {lv : am_LV} (h : am_H) (o : am_O) (hs : fg_55_11 h = some o) : am_W X (d) 55 11 lv [] h (fun q => q = o) := by
  unfold fg_55_11 at hs
  refine aw_iconst (v := 1) (pc1 := 12) at_55_11 (by decide) rfl ?_
  cases hs
  exact aw_iret at_55_12 (by rw [rt_55]; rfl) rfl
def fg_55_0 (x0 : Int32) (h : am_H) : Option am_O := (if x0 ≤ 4 then (fg_55_11 h) else (if ¬ x0 = 14 then (if x0 < 7 then (fg_55_25 x0 h) else (if x0 ≤ 13 then (fg_55_37 h) else (fg_55_25 x0 h))) else (fg_55_11 h)))
theorem rg_55_0 {X : am_X} {d : Nat} {lv : am_LV} (x0 : Int32) (h : am_H) (o : am_O) (l0 : lv.lookup 0 = some (.int x0)) (hs : fg_55_0 x0 h = some o) : am_W X (d) 55 0 lv [] h (fun q => q = o) := by
  unfold fg_55_0 at hs
  refine aw_iload_n (pc1 := 1) at_55_0 l0 rfl ?_
  refine aw_iconst (v := 4) (pc1 := 2) at_55_1 (by decide) rfl ?_
  by_cases c1 : x0 ≤ 4
  · rw [if_pos c1] at hs
    refine aw_icle_t at_55_2 c1 ?_
    exact rg_55_11 h o   hs
  · rw [if_neg c1] at hs
    refine aw_icle_f (pc1 := 5) at_55_2 c1 rfl ?_
    refine aw_iload_n (pc1 := 6) at_55_5 l0 rfl ?_
    refine aw_bipush (v := 14) (pc1 := 8) at_55_6 (by decide) rfl ?_
    by_cases c2 : ¬ x0 = 14
    · rw [if_pos c2] at hs
      refine aw_icne_t at_55_8 c2 ?_
      refine aw_iload_n (pc1 := 14) at_55_13 l0 rfl ?_
      refine aw_bipush (v := 7) (pc1 := 16) at_55_14 (by decide) rfl ?_
      by_cases c3 : x0 < 7
      · rw [if_pos c3] at hs
        refine aw_iclt_t at_55_16 c3 ?_
        exact rg_55_25 x0 h o l0  hs
      · rw [if_neg c3] at hs
        refine aw_iclt_f (pc1 := 19) at_55_16 c3 rfl ?_
        refine aw_iload_n (pc1 := 20) at_55_19 l0 rfl ?_
        refine aw_bipush (v := 13) (pc1 := 22) at_55_20 (by decide) rfl ?_
        by_cases c4 : x0 ≤ 13
        · rw [if_pos c4] at hs
          refine aw_icle_t at_55_22 c4 ?_
          exact rg_55_37 h o   hs
        · rw [if_neg c4] at hs
          refine aw_icle_f (pc1 := 25) at_55_22 c4 rfl ?_
          exact rg_55_25 x0 h o l0  hs
    · rw [if_neg c2] at hs
      refine aw_icne_f (pc1 := 11) at_55_8 c2 rfl ?_
      exact rg_55_11 h o   hs
def fm_55 (y0 : Int32) (h : am_H) : Option am_O := fg_55_0 y0 h
theorem rm_55 {X : am_X} {d : Nat} (y0 : Int32) (h : am_H) (o : am_O) (hs : fm_55 y0 h = some o) : am_W X (d) 55 0 (am_args 0 [.int y0]) [] h (fun q => q = o) := by
  rw [am_args_I]
  exact rg_55_0 y0 h o rfl  hs
def fg_56_36 (s0 : Int32) (h : am_H) : Option am_O := some (.inl (some (.int s0), h))
theorem rg_56_36 {X : am_X} {d : Nat} {lv : am_LV} (s0 : Int32) (h : am_H) (o : am_O) (hs : fg_56_36 s0 h = some o) : am_W X (d) 56 36 lv [(.int s0)] h (fun q => q = o) := by
  unfold fg_56_36 at hs
  cases hs
  exact aw_iret at_56_36 (by rw [rt_56]; rfl) rfl
def fg_56_31 (h : am_H) : Option am_O := (fg_56_36 2 h)
theorem rg_56_31 {X : am_X} {d : Nat} {lv : am_LV} (h : am_H) (o : am_O) (hs : fg_56_31 h = some o) : am_W X (d) 56 31 lv [] h (fun q => q = o) := by
  unfold fg_56_31 at hs
  refine aw_iconst (v := 2) (pc1 := 32) at_56_31 (by decide) rfl ?_
  refine aw_goto at_56_32 ?_
  exact rg_56_36 2 h o   hs
def fg_56_25 (x0 : Int32) (h : am_H) : Option am_O := (if ¬ x0 = 15 then (fg_56_36 1 h) else (fg_56_31 h))
theorem rg_56_25 {X : am_X} {d : Nat} {lv : am_LV} (x0 : Int32) (h : am_H) (o : am_O) (l0 : lv.lookup 0 = some (.int x0)) (hs : fg_56_25 x0 h = some o) : am_W X (d) 56 25 lv [] h (fun q => q = o) := by
  unfold fg_56_25 at hs
  refine aw_iload_n (pc1 := 26) at_56_25 l0 rfl ?_
  refine aw_bipush (v := 15) (pc1 := 28) at_56_26 (by decide) rfl ?_
  by_cases c1 : ¬ x0 = 15
  · rw [if_pos c1] at hs
    refine aw_icne_t at_56_28 c1 ?_
    refine aw_iconst (v := 1) (pc1 := 36) at_56_35 (by decide) rfl ?_
    exact rg_56_36 1 h o   hs
  · rw [if_neg c1] at hs
    refine aw_icne_f (pc1 := 31) at_56_28 c1 rfl ?_
    exact rg_56_31 h o   hs
def fg_56_11 (h : am_H) : Option am_O := some (.inl (some (.int 0), h))
theorem rg_56_11 {X : am_X} {d : Nat} {lv : am_LV} (h : am_H) (o : am_O) (hs : fg_56_11 h = some o) : am_W X (d) 56 11 lv [] h (fun q => q = o) := by
  unfold fg_56_11 at hs
  refine aw_iconst (v := 0) (pc1 := 12) at_56_11 (by decide) rfl ?_
  cases hs
  exact aw_iret at_56_12 (by rw [rt_56]; rfl) rfl
def fg_56_0 (x0 : Int32) (h : am_H) : Option am_O := (if x0 ≤ 4 then (fg_56_11 h) else (if ¬ x0 = 17 then (if x0 < 7 then (fg_56_25 x0 h) else (if x0 ≤ 13 then (fg_56_31 h) else (fg_56_25 x0 h))) else (fg_56_11 h)))
theorem rg_56_0 {X : am_X} {d : Nat} {lv : am_LV} (x0 : Int32) (h : am_H) (o : am_O) (l0 : lv.lookup 0 = some (.int x0)) (hs : fg_56_0 x0 h = some o) : am_W X (d) 56 0 lv [] h (fun q => q = o) := by
  unfold fg_56_0 at hs
  refine aw_iload_n (pc1 := 1) at_56_0 l0 rfl ?_
  refine aw_iconst (v := 4) (pc1 := 2) at_56_1 (by decide) rfl ?_
  by_cases c1 : x0 ≤ 4
  · rw [if_pos c1] at hs
    refine aw_icle_t at_56_2 c1 ?_
    exact rg_56_11 h o   hs
  · rw [if_neg c1] at hs
    refine aw_icle_f (pc1 := 5) at_56_2 c1 rfl ?_
    refine aw_iload_n (pc1 := 6) at_56_5 l0 rfl ?_
    refine aw_bipush (v := 17) (pc1 := 8) at_56_6 (by decide) rfl ?_
    by_cases c2 : ¬ x0 = 17
    · rw [if_pos c2] at hs
      refine aw_icne_t at_56_8 c2 ?_
      refine aw_iload_n (pc1 := 14) at_56_13 l0 rfl ?_
      refine aw_bipush (v := 7) (pc1 := 16) at_56_14 (by decide) rfl ?_
      by_cases c3 : x0 < 7
      · rw [if_pos c3] at hs
        refine aw_iclt_t at_56_16 c3 ?_
        exact rg_56_25 x0 h o l0  hs
      · rw [if_neg c3] at hs
        refine aw_iclt_f (pc1 := 19) at_56_16 c3 rfl ?_
        refine aw_iload_n (pc1 := 20) at_56_19 l0 rfl ?_
        refine aw_bipush (v := 13) (pc1 := 22) at_56_20 (by decide) rfl ?_
        by_cases c4 : x0 ≤ 13
        · rw [if_pos c4] at hs
          refine aw_icle_t at_56_22 c4 ?_
          exact rg_56_31 h o   hs
        · rw [if_neg c4] at hs
          refine aw_icle_f (pc1 := 25) at_56_22 c4 rfl ?_
          exact rg_56_25 x0 h o l0  hs
    · rw [if_neg c2] at hs
      refine aw_icne_f (pc1 := 11) at_56_8 c2 rfl ?_
      exact rg_56_11 h o   hs
def fm_56 (y0 : Int32) (h : am_H) : Option am_O := fg_56_0 y0 h
theorem rm_56 {X : am_X} {d : Nat} (y0 : Int32) (h : am_H) (o : am_O) (hs : fm_56 y0 h = some o) : am_W X (d) 56 0 (am_args 0 [.int y0]) [] h (fun q => q = o) := by
  rw [am_args_I]
  exact rg_56_0 y0 h o rfl  hs
def fg_57_46 (x0 : Value) (x1 : Int32) (x2 : Int32) (h : am_H) : Option am_O := ((am_vR (am_pG 1798 x0 h)).bind fun v1 => ((am_pS 0 v1 x1 x2 h).bind fun h3 => some (.inl (some (.int 1), h3))))
theorem rg_57_46 {X : am_X} {d : Nat} {lv : am_LV} (x0 : Value) (x1 : Int32) (x2 : Int32) (h : am_H) (o : am_O) (l0 : lv.lookup 0 = some x0) (l1 : lv.lookup 1 = some (.int x1)) (l2 : lv.lookup 2 = some (.int x2)) (i0 : am_isR x0 = true) (hs : fg_57_46 x0 x1 x2 h = some o) : am_W X (d) 57 46 lv [] h (fun q => q = o) := by
  unfold fg_57_46 at hs
  refine aw_vload_n (pc1 := 47) at_57_46 l0 i0 rfl ?_
  obtain ⟨v1, e2, hs1⟩ := am_bind hs
  clear hs
  refine aw_pG (pc1 := 50) at_57_47 (am_vR_s e2).1 rfl ?_
  refine aw_iload_n (pc1 := 51) at_57_50 l1 rfl ?_
  refine aw_iload_n (pc1 := 52) at_57_51 l2 rfl ?_
  obtain ⟨h3, e4, hs2⟩ := am_bind hs1
  clear hs1
  refine aw_pS (pc1 := 53) at_57_52 (Or.inl ⟨rfl, rfl⟩) e4 rfl ?_
  refine aw_iconst (v := 1) (pc1 := 54) at_57_53 (by decide) rfl ?_
  cases hs2
  exact aw_iret at_57_54 (by rw [rt_57]; decide) rfl
def fg_57_44 (h : am_H) : Option am_O := some (.inl (some (.int 0), h))
theorem rg_57_44 {X : am_X} {d : Nat} {lv : am_LV} (h : am_H) (o : am_O) (hs : fg_57_44 h = some o) : am_W X (d) 57 44 lv [] h (fun q => q = o) := by
  unfold fg_57_44 at hs
  refine aw_iconst (v := 0) (pc1 := 45) at_57_44 (by decide) rfl ?_
  cases hs
  exact aw_iret at_57_45 (by rw [rt_57]; decide) rfl
def fg_57_25 (x0 : Value) (x1 : Int32) (x2 : Int32) (h : am_H) : Option am_O := ((am_vR (am_pG 1798 x0 h)).bind fun v1 => ((am_pA 0 v1 x1 h).bind fun v3 => (if v3 < 0 then (fg_57_46 x0 x1 x2 h) else ((am_vR (am_pG 1798 x0 h)).bind fun v6 => ((am_pA 0 v6 x1 h).bind fun v8 => (if v8 = x2 then (fg_57_46 x0 x1 x2 h) else (fg_57_44 h)))))))
theorem rg_57_25 {X : am_X} {d : Nat} {lv : am_LV} (x0 : Value) (x1 : Int32) (x2 : Int32) (h : am_H) (o : am_O) (l0 : lv.lookup 0 = some x0) (l1 : lv.lookup 1 = some (.int x1)) (l2 : lv.lookup 2 = some (.int x2)) (i0 : am_isR x0 = true) (hs : fg_57_25 x0 x1 x2 h = some o) : am_W X (d) 57 25 lv [] h (fun q => q = o) := by
  unfold fg_57_25 at hs
  refine aw_vload_n (pc1 := 26) at_57_25 l0 i0 rfl ?_
  obtain ⟨v1, e2, hs1⟩ := am_bind hs
  clear hs
  refine aw_pG (pc1 := 29) at_57_26 (am_vR_s e2).1 rfl ?_
  refine aw_iload_n (pc1 := 30) at_57_29 l1 rfl ?_
  obtain ⟨v3, e4, hs2⟩ := am_bind hs1
  clear hs1
  refine aw_pA (pc1 := 31) at_57_30 (Or.inl ⟨rfl, rfl⟩) e4 rfl ?_
  by_cases c5 : v3 < 0
  · rw [if_pos c5] at hs2
    refine aw_iflt_t at_57_31 c5 ?_
    exact rg_57_46 x0 x1 x2 h o l0 l1 l2 i0 hs2
  · rw [if_neg c5] at hs2
    refine aw_iflt_f (pc1 := 34) at_57_31 c5 rfl ?_
    refine aw_vload_n (pc1 := 35) at_57_34 l0 i0 rfl ?_
    obtain ⟨v6, e7, hs3⟩ := am_bind hs2
    clear hs2
    refine aw_pG (pc1 := 38) at_57_35 (am_vR_s e7).1 rfl ?_
    refine aw_iload_n (pc1 := 39) at_57_38 l1 rfl ?_
    obtain ⟨v8, e9, hs4⟩ := am_bind hs3
    clear hs3
    refine aw_pA (pc1 := 40) at_57_39 (Or.inl ⟨rfl, rfl⟩) e9 rfl ?_
    refine aw_iload_n (pc1 := 41) at_57_40 l2 rfl ?_
    by_cases c10 : v8 = x2
    · rw [if_pos c10] at hs4
      refine aw_iceq_t at_57_41 c10 ?_
      exact rg_57_46 x0 x1 x2 h o l0 l1 l2 i0 hs4
    · rw [if_neg c10] at hs4
      refine aw_iceq_f (pc1 := 44) at_57_41 c10 rfl ?_
      exact rg_57_44 h o   hs4
def fg_57_0 (x0 : Value) (x1 : Int32) (x2 : Int32) (h : am_H) : Option am_O := (if x1 < 0 then (fg_57_44 h) else ((am_vI (am_pG 1799 x0 h)).bind fun v2 => (if v2 < x1 then (fg_57_44 h) else ((am_vI (am_pG 1799 x0 h)).bind fun v5 => (if ¬ x1 = v5 then (fg_57_25 x0 x1 x2 h) else (if ¬ x2 = 1 then (fg_57_44 h) else (fg_57_25 x0 x1 x2 h)))))))
theorem rg_57_0 {X : am_X} {d : Nat} {lv : am_LV} (x0 : Value) (x1 : Int32) (x2 : Int32) (h : am_H) (o : am_O) (l0 : lv.lookup 0 = some x0) (l1 : lv.lookup 1 = some (.int x1)) (l2 : lv.lookup 2 = some (.int x2)) (i0 : am_isR x0 = true) (hs : fg_57_0 x0 x1 x2 h = some o) : am_W X (d) 57 0 lv [] h (fun q => q = o) := by
  unfold fg_57_0 at hs
  refine aw_iload_n (pc1 := 1) at_57_0 l1 rfl ?_
  by_cases c1 : x1 < 0
  · rw [if_pos c1] at hs
    refine aw_iflt_t at_57_1 c1 ?_
    exact rg_57_44 h o   hs
  · rw [if_neg c1] at hs
    refine aw_iflt_f (pc1 := 4) at_57_1 c1 rfl ?_
    refine aw_iload_n (pc1 := 5) at_57_4 l1 rfl ?_
    refine aw_vload_n (pc1 := 6) at_57_5 l0 i0 rfl ?_
    obtain ⟨v2, e3, hs1⟩ := am_bind hs
    clear hs
    refine aw_pG (pc1 := 9) at_57_6 (am_vI_s e3) rfl ?_
    by_cases c4 : v2 < x1
    · rw [if_pos c4] at hs1
      refine aw_icgt_t at_57_9 c4 ?_
      exact rg_57_44 h o   hs1
    · rw [if_neg c4] at hs1
      refine aw_icgt_f (pc1 := 12) at_57_9 c4 rfl ?_
      refine aw_iload_n (pc1 := 13) at_57_12 l1 rfl ?_
      refine aw_vload_n (pc1 := 14) at_57_13 l0 i0 rfl ?_
      obtain ⟨v5, e6, hs2⟩ := am_bind hs1
      clear hs1
      refine aw_pG (pc1 := 17) at_57_14 (am_vI_s e6) rfl ?_
      by_cases c7 : ¬ x1 = v5
      · rw [if_pos c7] at hs2
        refine aw_icne_t at_57_17 c7 ?_
        exact rg_57_25 x0 x1 x2 h o l0 l1 l2 i0 hs2
      · rw [if_neg c7] at hs2
        refine aw_icne_f (pc1 := 20) at_57_17 c7 rfl ?_
        refine aw_iload_n (pc1 := 21) at_57_20 l2 rfl ?_
        refine aw_iconst (v := 1) (pc1 := 22) at_57_21 (by decide) rfl ?_
        by_cases c8 : ¬ x2 = 1
        · rw [if_pos c8] at hs2
          refine aw_icne_t at_57_22 c8 ?_
          exact rg_57_44 h o   hs2
        · rw [if_neg c8] at hs2
          refine aw_icne_f (pc1 := 25) at_57_22 c8 rfl ?_
          exact rg_57_25 x0 x1 x2 h o l0 l1 l2 i0 hs2
def fm_57 (y0 : Value) (y1 : Int32) (y2 : Int32) (h : am_H) : Option am_O := fg_57_0 y0 y1 y2 h
theorem rm_57 {X : am_X} {d : Nat} (y0 : Value) (y1 : Int32) (y2 : Int32) (h : am_H) (o : am_O) (i0 : am_isR y0 = true) (hs : fm_57 y0 y1 y2 h = some o) : am_W X (d) 57 0 (am_args 0 [y0, .int y1, .int y2]) [] h (fun q => q = o) := by
  rw [am_args_R i0, am_args_I, am_args_I]
  exact rg_57_0 y0 y1 y2 h o rfl rfl rfl i0 hs
def fg_52_137 (N : Nat) (rec_44 : Value → Value → Int32 → am_H → Option am_O) (x0 : Value) (x1 : Value) (x2 : Int32) (h : am_H) : Option am_O := (rec_44 x0 x1 ((x2 + 1)) h)
theorem rg_52_137 {X : am_X} {d : Nat} {N : Nat} {rec_44 : Value → Value → Int32 → am_H → Option am_O} (q_44 : ∀ (x0 : Value) (x1 : Value) (x2 : Int32) (h : am_H) (o : am_O), rec_44 x0 x1 x2 h = some o → ∀ lv : am_LV, (lv.lookup 0 = some x0) → (lv.lookup 1 = some x1) → (lv.lookup 2 = some (.int x2)) → (am_isR x0 = true) → (am_isR x1 = true) → am_W X (d + 1) 52 44 lv [] h (fun q => q = o)) {lv : am_LV} (x0 : Value) (x1 : Value) (x2 : Int32) (h : am_H) (o : am_O) (l0 : lv.lookup 0 = some x0) (l1 : lv.lookup 1 = some x1) (l2 : lv.lookup 2 = some (.int x2)) (i0 : am_isR x0 = true) (i1 : am_isR x1 = true) (hs : fg_52_137 N rec_44 x0 x1 x2 h = some o) : am_W X (d + 1) 52 137 lv [] h (fun q => q = o) := by
  unfold fg_52_137 at hs
  refine aw_iinc (v := (x2 + 1)) (c := 1) (lv1 := am_put1 _ 2 _) (pc1 := 140) at_52_137 l2 (by decide) rfl rfl rfl ?_
  refine aw_goto at_52_140 ?_
  exact q_44 x0 x1 ((x2 + 1)) h o hs _ (am_lk1 l0 rfl rfl) (am_lk1 l1 rfl (by rw [am_isRc i1]; rfl)) am_lk0 i0 i1
def fg_52_135 (N : Nat) (x2 : Int32) (h : am_H) : Option am_O := some (.inl (some (.int x2), h))
theorem rg_52_135 {X : am_X} {d : Nat} {N : Nat} {lv : am_LV} (x2 : Int32) (h : am_H) (o : am_O) (l2 : lv.lookup 2 = some (.int x2)) (hs : fg_52_135 N x2 h = some o) : am_W X (d + 1) 52 135 lv [] h (fun q => q = o) := by
  unfold fg_52_135 at hs
  refine aw_iload_n (pc1 := 136) at_52_135 l2 rfl ?_
  cases hs
  exact aw_iret at_52_136 (by rw [rt_52]; rfl) rfl
def fg_52_110 (N : Nat) (rec_44 : Value → Value → Int32 → am_H → Option am_O) (x0 : Value) (x1 : Value) (x2 : Int32) (x3 : Int32) (x4 : Int32) (h : am_H) : Option am_O := (if x3 < 17 then (fg_52_137 N rec_44 x0 x1 x2 h) else (if am_pOk 3 x1 h then am_cI true (fm_54 x1 x2 1 h) (fun v3 h4 => (if am_pOk 7 x0 h4 then am_cI true (fm_57 x0 (((x2 + 1) + v3)) x4 h4) (fun v7 h8 => (if ¬ v7 = 0 then (fg_52_137 N rec_44 x0 x1 x2 h8) else (fg_52_135 N x2 h8))) else none)) else none))
theorem rg_52_110 {X : am_X} {d : Nat} {N : Nat} {rec_44 : Value → Value → Int32 → am_H → Option am_O} (q_44 : ∀ (x0 : Value) (x1 : Value) (x2 : Int32) (h : am_H) (o : am_O), rec_44 x0 x1 x2 h = some o → ∀ lv : am_LV, (lv.lookup 0 = some x0) → (lv.lookup 1 = some x1) → (lv.lookup 2 = some (.int x2)) → (am_isR x0 = true) → (am_isR x1 = true) → am_W X (d + 1) 52 44 lv [] h (fun q => q = o)) {lv : am_LV} (x0 : Value) (x1 : Value) (x2 : Int32) (x3 : Int32) (x4 : Int32) (h : am_H) (o : am_O) (l0 : lv.lookup 0 = some x0) (l1 : lv.lookup 1 = some x1) (l2 : lv.lookup 2 = some (.int x2)) (l3 : lv.lookup 3 = some (.int x3)) (l4 : lv.lookup 4 = some (.int x4)) (i0 : am_isR x0 = true) (i1 : am_isR x1 = true) (hs : fg_52_110 N rec_44 x0 x1 x2 x3 x4 h = some o) : am_W X (d + 1) 52 110 lv [] h (fun q => q = o) := by
  unfold fg_52_110 at hs
  refine aw_iload_n (pc1 := 111) at_52_110 l3 rfl ?_
  refine aw_bipush (v := 17) (pc1 := 113) at_52_111 (by decide) rfl ?_
  by_cases c1 : x3 < 17
  · rw [if_pos c1] at hs
    refine aw_iclt_t at_52_113 c1 ?_
    exact rg_52_137 q_44 x0 x1 x2 h o l0 l1 l2 i0 i1 hs
  · rw [if_neg c1] at hs
    refine aw_iclt_f (pc1 := 116) at_52_113 c1 rfl ?_
    refine aw_vload_n (pc1 := 117) at_52_116 l0 i0 rfl ?_
    refine aw_iload_n (pc1 := 118) at_52_117 l2 rfl ?_
    refine aw_iconst (v := 1) (pc1 := 119) at_52_118 (by decide) rfl ?_
    refine aw_iadd (v := (x2 + 1)) (pc1 := 120) at_52_119 rfl rfl ?_
    refine aw_vload_n (pc1 := 121) at_52_120 l1 i1 rfl ?_
    refine aw_iload_n (pc1 := 122) at_52_121 l2 rfl ?_
    refine aw_iconst (v := 1) (pc1 := 123) at_52_122 (by decide) rfl ?_
    obtain ⟨z2, hs1⟩ := am_ift hs
    clear hs
    refine aw_call (F := fm_54 x1 x2 1 h) (t := true) (na := 3) (kd := 1) (as := [x1, (.int x2), (.int 1)]) at_52_123 (am_k3v kb_54) mn_54 mk_54 rfl rfl (am_ok_v mi_54 (am_hl rfl (am_ccR i1 (am_ccI (am_ccI am_cats_0))) rfl) z2) (am_hc (am_ccI (am_ccR i0 am_cats_0)) rfl) (fun _ => ⟨rfl, hh_52⟩) (fun o1 hz9 => rm_54 x1 x2 1 h o1 i1 hz9) ?_
    rcases am_cI_s hs1 with ⟨v3, h4, f5, hs2⟩ | hs2
    · clear hs1
      refine Or.inl ⟨_, _, f5, ?_⟩
      show am_W X _ 52 126 _ [(.int v3), (.int (x2 + 1)), x0] h4 _
      refine aw_iadd (v := ((x2 + 1) + v3)) (pc1 := 127) at_52_126 rfl rfl ?_
      refine aw_iload (pc1 := 129) at_52_127 l4 rfl ?_
      obtain ⟨z6, hs3⟩ := am_ift hs2
      clear hs2
      refine aw_call (F := fm_57 x0 (((x2 + 1) + v3)) x4 h4) (t := true) (na := 3) (kd := 1) (as := [x0, (.int ((x2 + 1) + v3)), (.int x4)]) at_52_129 (am_k3v kb_57) mn_57 mk_57 rfl rfl (am_ok_v mi_57 (am_hl rfl (am_ccR i0 (am_ccI (am_ccI am_cats_0))) rfl) z6) (am_hc am_cats_0 rfl) (fun _ => ⟨rfl, hh_52⟩) (fun o1 hz9 => rm_57 x0 (((x2 + 1) + v3)) x4 h4 o1 i0 hz9) ?_
      rcases am_cI_s hs3 with ⟨v7, h8, f9, hs4⟩ | hs4
      · clear hs3
        refine Or.inl ⟨_, _, f9, ?_⟩
        show am_W X _ 52 132 _ [(.int v7)] h8 _
        by_cases c10 : ¬ v7 = 0
        · rw [if_pos c10] at hs4
          refine aw_ifne_t at_52_132 c10 ?_
          exact rg_52_137 q_44 x0 x1 x2 h8 o l0 l1 l2 i0 i1 hs4
        · rw [if_neg c10] at hs4
          refine aw_ifne_f (pc1 := 135) at_52_132 c10 rfl ?_
          exact rg_52_135 x2 h8 o l2  hs4
      · clear hs3
        exact Or.inr hs4
    · clear hs1
      exact Or.inr hs2
def fg_52_44 (N : Nat) : Nat → Value → Value → Int32 → am_H → Option am_O
  | 0 => fun _ _ _ _ => none
  | K + 1 => fun x0 x1 x2 h => ((am_vI (am_pG 1799 x0 h)).bind fun v1 => (if v1 ≤ x2 then some (.inl (some (.int (-1)), h)) else (if am_pOk 3 x1 h then am_cI true (fm_54 x1 x2 0 h) (fun v5 h6 => ((am_vR (am_pG 1798 x0 h6)).bind fun v8 => ((am_pA 0 v8 x2 h6).bind fun v10 => am_cI false (fm_55 v5 h6) (fun v12 h13 => ((am_vR (am_pG 1798 x0 h13)).bind fun v15 => ((am_pA 0 v15 x2 h13).bind fun v17 => am_cI false (fm_56 v5 h13) (fun v19 h20 => (if v17 < v19 then (fg_52_135 N x2 h20) else (if 8 < (v10 + v12) then (fg_52_135 N x2 h20) else (if v5 = 17 then (fg_52_110 N (fg_52_44 N K) x0 x1 x2 v5 ((v10 + v12)) h20) else (if am_pOk 7 x0 h20 then am_cI true (fm_57 x0 ((x2 + 1)) ((v10 + v12)) h20) (fun v26 h27 => (if v26 = 0 then (fg_52_135 N x2 h27) else (fg_52_110 N (fg_52_44 N K) x0 x1 x2 v5 ((v10 + v12)) h27))) else none))))))))))) else none)))
theorem rg_52_44 {X : am_X} {d : Nat} {N : Nat} : ∀ (K : Nat) (x0 : Value) (x1 : Value) (x2 : Int32) (h : am_H) (o : am_O), fg_52_44 N K x0 x1 x2 h = some o → ∀ lv : am_LV, (lv.lookup 0 = some x0) → (lv.lookup 1 = some x1) → (lv.lookup 2 = some (.int x2)) → (am_isR x0 = true) → (am_isR x1 = true) → am_W X (d + 1) 52 44 lv [] h (fun q => q = o) := by
  intro K
  induction K with
  | zero => intro x0 x1 x2 h o hs; cases hs
  | succ K ih =>
    intro x0 x1 x2 h o hs lv l0 l1 l2 i0 i1
    unfold fg_52_44 at hs
    refine aw_iload_n (pc1 := 45) at_52_44 l2 rfl ?_
    refine aw_vload_n (pc1 := 46) at_52_45 l0 i0 rfl ?_
    obtain ⟨v1, e2, hs1⟩ := am_bind hs
    clear hs
    refine aw_pG (pc1 := 49) at_52_46 (am_vI_s e2) rfl ?_
    by_cases c3 : v1 ≤ x2
    · rw [if_pos c3] at hs1
      refine aw_icge_t at_52_49 c3 ?_
      refine aw_iconst (v := (-1)) (pc1 := 144) at_52_143 (by decide) rfl ?_
      cases hs1
      exact aw_iret at_52_144 (by rw [rt_52]; rfl) rfl
    · rw [if_neg c3] at hs1
      refine aw_icge_f (pc1 := 52) at_52_49 c3 rfl ?_
      refine aw_vload_n (pc1 := 53) at_52_52 l1 i1 rfl ?_
      refine aw_iload_n (pc1 := 54) at_52_53 l2 rfl ?_
      refine aw_iconst (v := 0) (pc1 := 55) at_52_54 (by decide) rfl ?_
      obtain ⟨z4, hs2⟩ := am_ift hs1
      clear hs1
      refine aw_call (F := fm_54 x1 x2 0 h) (t := true) (na := 3) (kd := 1) (as := [x1, (.int x2), (.int 0)]) at_52_55 (am_k3v kb_54) mn_54 mk_54 rfl rfl (am_ok_v mi_54 (am_hl rfl (am_ccR i1 (am_ccI (am_ccI am_cats_0))) rfl) z4) (am_hc am_cats_0 rfl) (fun _ => ⟨rfl, hh_52⟩) (fun o1 hz9 => rm_54 x1 x2 0 h o1 i1 hz9) ?_
      rcases am_cI_s hs2 with ⟨v5, h6, f7, hs3⟩ | hs3
      · clear hs2
        refine Or.inl ⟨_, _, f7, ?_⟩
        show am_W X _ 52 58 _ [(.int v5)] h6 _
        refine aw_istore_n (lv1 := am_put1 _ 3 _) (pc1 := 59) at_52_58 rfl rfl ?_
        refine aw_vload_n (pc1 := 60) at_52_59 (am_lk1 l0 rfl rfl) i0 rfl ?_
        obtain ⟨v8, e9, hs4⟩ := am_bind hs3
        clear hs3
        refine aw_pG (pc1 := 63) at_52_60 (am_vR_s e9).1 rfl ?_
        refine aw_iload_n (pc1 := 64) at_52_63 (am_lk1 l2 rfl rfl) rfl ?_
        obtain ⟨v10, e11, hs5⟩ := am_bind hs4
        clear hs4
        refine aw_pA (pc1 := 65) at_52_64 (Or.inl ⟨rfl, rfl⟩) e11 rfl ?_
        refine aw_iload_n (pc1 := 66) at_52_65 am_lk0 rfl ?_
        refine aw_call (F := fm_55 v5 h6) (t := false) (na := 1) (kd := 0) (as := [(.int v5)]) at_52_66 (am_k3s kb_55) mn_55 mk_55 rfl rfl (am_ok_s mi_55 (am_hl rfl (am_ccI am_cats_0) rfl)) (am_hc (am_ccI am_cats_0) rfl) (fun hz9 => by cases hz9) (fun o1 hz9 => rm_55 v5 h6 o1  hz9) ?_
        rcases am_cI_s hs5 with ⟨v12, h13, f14, hs6⟩ | hs6
        · clear hs5
          refine Or.inl ⟨_, _, f14, ?_⟩
          show am_W X _ 52 69 _ [(.int v12), (.int v10)] h13 _
          refine aw_iadd (v := (v10 + v12)) (pc1 := 70) at_52_69 rfl rfl ?_
          refine aw_istore (lv1 := am_put1 _ 4 _) (pc1 := 72) at_52_70 rfl rfl ?_
          refine aw_vload_n (pc1 := 73) at_52_72 (am_lk1 (am_lk1 l0 rfl rfl) rfl rfl) i0 rfl ?_
          obtain ⟨v15, e16, hs7⟩ := am_bind hs6
          clear hs6
          refine aw_pG (pc1 := 76) at_52_73 (am_vR_s e16).1 rfl ?_
          refine aw_iload_n (pc1 := 77) at_52_76 (am_lk1 (am_lk1 l2 rfl rfl) rfl rfl) rfl ?_
          obtain ⟨v17, e18, hs8⟩ := am_bind hs7
          clear hs7
          refine aw_pA (pc1 := 78) at_52_77 (Or.inl ⟨rfl, rfl⟩) e18 rfl ?_
          refine aw_iload_n (pc1 := 79) at_52_78 (am_lk1 am_lk0 rfl rfl) rfl ?_
          refine aw_call (F := fm_56 v5 h13) (t := false) (na := 1) (kd := 0) (as := [(.int v5)]) at_52_79 (am_k3s kb_56) mn_56 mk_56 rfl rfl (am_ok_s mi_56 (am_hl rfl (am_ccI am_cats_0) rfl)) (am_hc (am_ccI am_cats_0) rfl) (fun hz9 => by cases hz9) (fun o1 hz9 => rm_56 v5 h13 o1  hz9) ?_
          rcases am_cI_s hs8 with ⟨v19, h20, f21, hs9⟩ | hs9
          · clear hs8
            refine Or.inl ⟨_, _, f21, ?_⟩
            show am_W X _ 52 82 _ [(.int v19), (.int v17)] h20 _
            by_cases c22 : v17 < v19
            · rw [if_pos c22] at hs9
              refine aw_iclt_t at_52_82 c22 ?_
              exact rg_52_135 x2 h20 o (am_lk1 (am_lk1 l2 rfl rfl) rfl rfl)  hs9
            · rw [if_neg c22] at hs9
              refine aw_iclt_f (pc1 := 85) at_52_82 c22 rfl ?_
              refine aw_iload (pc1 := 87) at_52_85 am_lk0 rfl ?_
              refine aw_bipush (v := 8) (pc1 := 89) at_52_87 (by decide) rfl ?_
              by_cases c23 : 8 < (v10 + v12)
              · rw [if_pos c23] at hs9
                refine aw_icgt_t at_52_89 c23 ?_
                exact rg_52_135 x2 h20 o (am_lk1 (am_lk1 l2 rfl rfl) rfl rfl)  hs9
              · rw [if_neg c23] at hs9
                refine aw_icgt_f (pc1 := 92) at_52_89 c23 rfl ?_
                refine aw_iload_n (pc1 := 93) at_52_92 (am_lk1 am_lk0 rfl rfl) rfl ?_
                refine aw_bipush (v := 17) (pc1 := 95) at_52_93 (by decide) rfl ?_
                by_cases c24 : v5 = 17
                · rw [if_pos c24] at hs9
                  refine aw_iceq_t at_52_95 c24 ?_
                  exact rg_52_110 (fun z0 z1 z2 h o hs9 => ih z0 z1 z2 h o hs9) x0 x1 x2 v5 ((v10 + v12)) h20 o (am_lk1 (am_lk1 l0 rfl rfl) rfl rfl) (am_lk1 (am_lk1 l1 rfl rfl) rfl rfl) (am_lk1 (am_lk1 l2 rfl rfl) rfl rfl) (am_lk1 am_lk0 rfl rfl) am_lk0 i0 i1 hs9
                · rw [if_neg c24] at hs9
                  refine aw_iceq_f (pc1 := 98) at_52_95 c24 rfl ?_
                  refine aw_vload_n (pc1 := 99) at_52_98 (am_lk1 (am_lk1 l0 rfl rfl) rfl rfl) i0 rfl ?_
                  refine aw_iload_n (pc1 := 100) at_52_99 (am_lk1 (am_lk1 l2 rfl rfl) rfl rfl) rfl ?_
                  refine aw_iconst (v := 1) (pc1 := 101) at_52_100 (by decide) rfl ?_
                  refine aw_iadd (v := (x2 + 1)) (pc1 := 102) at_52_101 rfl rfl ?_
                  refine aw_iload (pc1 := 104) at_52_102 am_lk0 rfl ?_
                  obtain ⟨z25, hs10⟩ := am_ift hs9
                  clear hs9
                  refine aw_call (F := fm_57 x0 ((x2 + 1)) ((v10 + v12)) h20) (t := true) (na := 3) (kd := 1) (as := [x0, (.int (x2 + 1)), (.int (v10 + v12))]) at_52_104 (am_k3v kb_57) mn_57 mk_57 rfl rfl (am_ok_v mi_57 (am_hl rfl (am_ccR i0 (am_ccI (am_ccI am_cats_0))) rfl) z25) (am_hc am_cats_0 rfl) (fun _ => ⟨rfl, hh_52⟩) (fun o1 hz9 => rm_57 x0 ((x2 + 1)) ((v10 + v12)) h20 o1 i0 hz9) ?_
                  rcases am_cI_s hs10 with ⟨v26, h27, f28, hs11⟩ | hs11
                  · clear hs10
                    refine Or.inl ⟨_, _, f28, ?_⟩
                    show am_W X _ 52 107 _ [(.int v26)] h27 _
                    by_cases c29 : v26 = 0
                    · rw [if_pos c29] at hs11
                      refine aw_ifeq_t at_52_107 c29 ?_
                      exact rg_52_135 x2 h27 o (am_lk1 (am_lk1 l2 rfl rfl) rfl rfl)  hs11
                    · rw [if_neg c29] at hs11
                      refine aw_ifeq_f (pc1 := 110) at_52_107 c29 rfl ?_
                      exact rg_52_110 (fun z0 z1 z2 h o hs11 => ih z0 z1 z2 h o hs11) x0 x1 x2 v5 ((v10 + v12)) h27 o (am_lk1 (am_lk1 l0 rfl rfl) rfl rfl) (am_lk1 (am_lk1 l1 rfl rfl) rfl rfl) (am_lk1 (am_lk1 l2 rfl rfl) rfl rfl) (am_lk1 am_lk0 rfl rfl) am_lk0 i0 i1 hs11
                  · clear hs10
                    exact Or.inr hs11
          · clear hs8
            exact Or.inr hs9
        · clear hs5
          exact Or.inr hs6
      · clear hs2
        exact Or.inr hs3
def fg_52_25 (N : Nat) (h : am_H) : Option am_O := some (.inl (some (.int 0), h))
theorem rg_52_25 {X : am_X} {d : Nat} {N : Nat} {lv : am_LV} (h : am_H) (o : am_O) (hs : fg_52_25 N h = some o) : am_W X (d + 1) 52 25 lv [] h (fun q => q = o) := by
  unfold fg_52_25 at hs
  refine aw_iconst (v := 0) (pc1 := 26) at_52_25 (by decide) rfl ?_
  cases hs
  exact aw_iret at_52_26 (by rw [rt_52]; rfl) rfl
def fg_52_0 (N : Nat) (x0 : Value) (x1 : Value) (h : am_H) : Option am_O := ((am_vI (am_pG 771 x1 h)).bind fun v1 => ((am_pP 1799 x0 (.int v1) h).bind fun h3 => ((am_vI (am_pG 1799 x0 h3)).bind fun v5 => (if v5 < 1 then (fg_52_25 N h3) else ((am_vI (am_pG 1799 x0 h3)).bind fun v8 => (if v8 ≤ 60 then ((am_vR (am_pG 1798 x0 h3)).bind fun v11 => am_cV false (fm_53 N v11 ((-1)) h3) (fun h14 => ((am_vR (am_pG 1798 x0 h14)).bind fun v16 => ((am_pS 0 v16 0 0 h14).bind fun h18 => (fg_52_44 N N x0 x1 0 h18))))) else (fg_52_25 N h3)))))))
theorem rg_52_0 {X : am_X} {d : Nat} {N : Nat} {lv : am_LV} (x0 : Value) (x1 : Value) (h : am_H) (o : am_O) (l0 : lv.lookup 0 = some x0) (l1 : lv.lookup 1 = some x1) (i0 : am_isR x0 = true) (i1 : am_isR x1 = true) (hs : fg_52_0 N x0 x1 h = some o) : am_W X (d + 1) 52 0 lv [] h (fun q => q = o) := by
  unfold fg_52_0 at hs
  refine aw_vload_n (pc1 := 1) at_52_0 l0 i0 rfl ?_
  refine aw_vload_n (pc1 := 2) at_52_1 l1 i1 rfl ?_
  obtain ⟨v1, e2, hs1⟩ := am_bind hs
  clear hs
  refine aw_pG (pc1 := 5) at_52_2 (am_vI_s e2) rfl ?_
  obtain ⟨h3, e4, hs2⟩ := am_bind hs1
  clear hs1
  refine aw_pP (pc1 := 8) at_52_5 e4 rfl ?_
  refine aw_vload_n (pc1 := 9) at_52_8 l0 i0 rfl ?_
  obtain ⟨v5, e6, hs3⟩ := am_bind hs2
  clear hs2
  refine aw_pG (pc1 := 12) at_52_9 (am_vI_s e6) rfl ?_
  refine aw_iconst (v := 1) (pc1 := 13) at_52_12 (by decide) rfl ?_
  by_cases c7 : v5 < 1
  · rw [if_pos c7] at hs3
    refine aw_iclt_t at_52_13 c7 ?_
    exact rg_52_25 h3 o   hs3
  · rw [if_neg c7] at hs3
    refine aw_iclt_f (pc1 := 16) at_52_13 c7 rfl ?_
    refine aw_vload_n (pc1 := 17) at_52_16 l0 i0 rfl ?_
    obtain ⟨v8, e9, hs4⟩ := am_bind hs3
    clear hs3
    refine aw_pG (pc1 := 20) at_52_17 (am_vI_s e9) rfl ?_
    refine aw_bipush (v := 60) (pc1 := 22) at_52_20 (by decide) rfl ?_
    by_cases c10 : v8 ≤ 60
    · rw [if_pos c10] at hs4
      refine aw_icle_t at_52_22 c10 ?_
      refine aw_vload_n (pc1 := 28) at_52_27 l0 i0 rfl ?_
      obtain ⟨v11, e12, hs5⟩ := am_bind hs4
      clear hs4
      refine aw_pG (pc1 := 31) at_52_28 (am_vR_s e12).1 rfl ?_
      refine aw_iconst (v := (-1)) (pc1 := 32) at_52_31 (by decide) rfl ?_
      refine aw_call (F := fm_53 N v11 ((-1)) h3) (t := false) (na := 2) (kd := 0) (as := [v11, (.int (-1))]) at_52_32 (am_k3s kb_53) mn_53 mk_53 rfl rfl (am_ok_s mi_53 (am_hl rfl (am_ccR (am_vR_s e12).2 (am_ccI am_cats_0)) rfl)) (am_hc am_cats_0 rfl) (fun hz9 => by cases hz9) (fun o1 hz9 => rm_53 v11 ((-1)) h3 o1 (am_vR_s e12).2 hz9) ?_
      rcases am_cV_s hs5 with ⟨h14, f15, hs6⟩ | hs6
      · clear hs5
        refine Or.inl ⟨_, _, f15, ?_⟩
        show am_W X _ 52 35 _ [] h14 _
        refine aw_vload_n (pc1 := 36) at_52_35 l0 i0 rfl ?_
        obtain ⟨v16, e17, hs7⟩ := am_bind hs6
        clear hs6
        refine aw_pG (pc1 := 39) at_52_36 (am_vR_s e17).1 rfl ?_
        refine aw_iconst (v := 0) (pc1 := 40) at_52_39 (by decide) rfl ?_
        refine aw_iconst (v := 0) (pc1 := 41) at_52_40 (by decide) rfl ?_
        obtain ⟨h18, e19, hs8⟩ := am_bind hs7
        clear hs7
        refine aw_pS (pc1 := 42) at_52_41 (Or.inl ⟨rfl, rfl⟩) e19 rfl ?_
        refine aw_iconst (v := 0) (pc1 := 43) at_52_42 (by decide) rfl ?_
        refine aw_istore_n (lv1 := am_put1 _ 2 _) (pc1 := 44) at_52_43 rfl rfl ?_
        exact rg_52_44 N x0 x1 0 h18 o hs8 _ (am_lk1 l0 rfl rfl) (am_lk1 l1 rfl (by rw [am_isRc i1]; rfl)) am_lk0 i0 i1
      · clear hs5
        exact Or.inr hs6
    · rw [if_neg c10] at hs4
      refine aw_icle_f (pc1 := 25) at_52_22 c10 rfl ?_
      exact rg_52_25 h3 o   hs4
def fm_52 (N : Nat) (y0 : Value) (y1 : Value) (h : am_H) : Option am_O := fg_52_0 N y0 y1 h
theorem rm_52 {X : am_X} {d : Nat} {N : Nat} (y0 : Value) (y1 : Value) (h : am_H) (o : am_O) (i0 : am_isR y0 = true) (i1 : am_isR y1 = true) (hs : fm_52 N y0 y1 h = some o) : am_W X (d + 1) 52 0 (am_args 0 [y0, y1]) [] h (fun q => q = o) := by
  rw [am_args_R i0, am_args_R i1]
  exact rg_52_0 y0 y1 h o rfl rfl i0 i1 hs
def fg_58_2 (N : Nat) : Nat → Value → Int32 → am_H → Option am_O
  | 0 => fun _ _ _ => none
  | K + 1 => fun x0 x1 h => ((am_vR (am_pG 2308 x0 h)).bind fun v1 => ((am_vI (am_pG 771 v1 h)).bind fun v3 => (if (4 * v3) ≤ x1 then some (.inl (some (.int (-1)), h)) else ((am_vR (am_pG 2308 x0 h)).bind fun v6 => (if am_pOk 3 v6 h then am_cI true (fm_54 v6 ((x1 / 4)) ((1 + (x1 - x1 / 4 * 4))) h) (fun v9 h10 => ((am_vR (am_pG 2308 x0 h10)).bind fun v12 => ((am_vI (am_pG 771 v12 h10)).bind fun v14 => (if v9 < v14 then (fg_58_2 N K x0 ((x1 + 1)) h10) else ((am_vR (am_pG 2309 x0 h10)).bind fun v17 => ((am_pA 0 v17 x1 h10).bind fun v19 => some (.inl (some (.int v19), h10)))))))) else none)))))
theorem rg_58_2 {X : am_X} {d : Nat} {N : Nat} : ∀ (K : Nat) (x0 : Value) (x1 : Int32) (h : am_H) (o : am_O), fg_58_2 N K x0 x1 h = some o → ∀ lv : am_LV, (lv.lookup 0 = some x0) → (lv.lookup 1 = some (.int x1)) → (am_isR x0 = true) → am_W X (d + 1) 58 2 lv [] h (fun q => q = o) := by
  intro K
  induction K with
  | zero => intro x0 x1 h o hs; cases hs
  | succ K ih =>
    intro x0 x1 h o hs lv l0 l1 i0
    unfold fg_58_2 at hs
    refine aw_iload_n (pc1 := 3) at_58_2 l1 rfl ?_
    refine aw_iconst (v := 4) (pc1 := 4) at_58_3 (by decide) rfl ?_
    refine aw_vload_n (pc1 := 5) at_58_4 l0 i0 rfl ?_
    obtain ⟨v1, e2, hs1⟩ := am_bind hs
    clear hs
    refine aw_pG (pc1 := 8) at_58_5 (am_vR_s e2).1 rfl ?_
    obtain ⟨v3, e4, hs2⟩ := am_bind hs1
    clear hs1
    refine aw_pG (pc1 := 11) at_58_8 (am_vI_s e4) rfl ?_
    refine aw_imul (v := (4 * v3)) (pc1 := 12) at_58_11 rfl rfl ?_
    by_cases c5 : (4 * v3) ≤ x1
    · rw [if_pos c5] at hs2
      refine aw_icge_t at_58_12 c5 ?_
      refine aw_iconst (v := (-1)) (pc1 := 54) at_58_53 (by decide) rfl ?_
      cases hs2
      exact aw_iret at_58_54 (by rw [rt_58]; rfl) rfl
    · rw [if_neg c5] at hs2
      refine aw_icge_f (pc1 := 15) at_58_12 c5 rfl ?_
      refine aw_vload_n (pc1 := 16) at_58_15 l0 i0 rfl ?_
      obtain ⟨v6, e7, hs3⟩ := am_bind hs2
      clear hs2
      refine aw_pG (pc1 := 19) at_58_16 (am_vR_s e7).1 rfl ?_
      refine aw_iload_n (pc1 := 20) at_58_19 l1 rfl ?_
      refine aw_iconst (v := 4) (pc1 := 21) at_58_20 (by decide) rfl ?_
      refine aw_idiv (v := (x1 / 4)) (pc1 := 22) at_58_21 (by decide) rfl rfl ?_
      refine aw_iconst (v := 1) (pc1 := 23) at_58_22 (by decide) rfl ?_
      refine aw_iload_n (pc1 := 24) at_58_23 l1 rfl ?_
      refine aw_iconst (v := 4) (pc1 := 25) at_58_24 (by decide) rfl ?_
      refine aw_irem (v := (x1 - x1 / 4 * 4)) (pc1 := 26) at_58_25 (by decide) rfl rfl ?_
      refine aw_iadd (v := (1 + (x1 - x1 / 4 * 4))) (pc1 := 27) at_58_26 rfl rfl ?_
      obtain ⟨z8, hs4⟩ := am_ift hs3
      clear hs3
      refine aw_call (F := fm_54 v6 ((x1 / 4)) ((1 + (x1 - x1 / 4 * 4))) h) (t := true) (na := 3) (kd := 1) (as := [v6, (.int (x1 / 4)), (.int (1 + (x1 - x1 / 4 * 4)))]) at_58_27 (am_k3v kb_54) mn_54 mk_54 rfl rfl (am_ok_v mi_54 (am_hl rfl (am_ccR (am_vR_s e7).2 (am_ccI (am_ccI am_cats_0))) rfl) z8) (am_hc am_cats_0 rfl) (fun _ => ⟨rfl, hh_58⟩) (fun o1 hz9 => rm_54 v6 ((x1 / 4)) ((1 + (x1 - x1 / 4 * 4))) h o1 (am_vR_s e7).2 hz9) ?_
      rcases am_cI_s hs4 with ⟨v9, h10, f11, hs5⟩ | hs5
      · clear hs4
        refine Or.inl ⟨_, _, f11, ?_⟩
        show am_W X _ 58 30 _ [(.int v9)] h10 _
        refine aw_vload_n (pc1 := 31) at_58_30 l0 i0 rfl ?_
        obtain ⟨v12, e13, hs6⟩ := am_bind hs5
        clear hs5
        refine aw_pG (pc1 := 34) at_58_31 (am_vR_s e13).1 rfl ?_
        obtain ⟨v14, e15, hs7⟩ := am_bind hs6
        clear hs6
        refine aw_pG (pc1 := 37) at_58_34 (am_vI_s e15) rfl ?_
        by_cases c16 : v9 < v14
        · rw [if_pos c16] at hs7
          refine aw_iclt_t at_58_37 c16 ?_
          refine aw_iinc (v := (x1 + 1)) (c := 1) (lv1 := am_put1 _ 1 _) (pc1 := 50) at_58_47 l1 (by decide) rfl rfl rfl ?_
          refine aw_goto at_58_50 ?_
          exact ih x0 ((x1 + 1)) h10 o hs7 _ (am_lk1 l0 rfl (by rw [am_isRc i0]; rfl)) am_lk0 i0
        · rw [if_neg c16] at hs7
          refine aw_iclt_f (pc1 := 40) at_58_37 c16 rfl ?_
          refine aw_vload_n (pc1 := 41) at_58_40 l0 i0 rfl ?_
          obtain ⟨v17, e18, hs8⟩ := am_bind hs7
          clear hs7
          refine aw_pG (pc1 := 44) at_58_41 (am_vR_s e18).1 rfl ?_
          refine aw_iload_n (pc1 := 45) at_58_44 l1 rfl ?_
          obtain ⟨v19, e20, hs9⟩ := am_bind hs8
          clear hs8
          refine aw_pA (pc1 := 46) at_58_45 (Or.inl ⟨rfl, rfl⟩) e20 rfl ?_
          cases hs9
          exact aw_iret at_58_46 (by rw [rt_58]; rfl) rfl
      · clear hs4
        exact Or.inr hs5
def fg_58_0 (N : Nat) (x0 : Value) (h : am_H) : Option am_O := (fg_58_2 N N x0 0 h)
theorem rg_58_0 {X : am_X} {d : Nat} {N : Nat} {lv : am_LV} (x0 : Value) (h : am_H) (o : am_O) (l0 : lv.lookup 0 = some x0) (i0 : am_isR x0 = true) (hs : fg_58_0 N x0 h = some o) : am_W X (d + 1) 58 0 lv [] h (fun q => q = o) := by
  unfold fg_58_0 at hs
  refine aw_iconst (v := 0) (pc1 := 1) at_58_0 (by decide) rfl ?_
  refine aw_istore_n (lv1 := am_put1 _ 1 _) (pc1 := 2) at_58_1 rfl rfl ?_
  exact rg_58_2 N x0 0 h o hs _ (am_lk1 l0 rfl (by rw [am_isRc i0]; rfl)) am_lk0 i0
def fm_58 (N : Nat) (y0 : Value) (h : am_H) : Option am_O := fg_58_0 N y0 h
theorem rm_58 {X : am_X} {d : Nat} {N : Nat} (y0 : Value) (h : am_H) (o : am_O) (i0 : am_isR y0 = true) (hs : fm_58 N y0 h = some o) : am_W X (d + 1) 58 0 (am_args 0 [y0]) [] h (fun q => q = o) := by
  rw [am_args_R i0]
  exact rg_58_0 y0 h o rfl i0 hs
def fg_33_139 (N : Nat) (x0 : Value) (h : am_H) : Option am_O := ((am_pP 2305 x0 (.int 0) h).bind fun h1 => ((am_vI (am_pG 2307 x0 h1)).bind fun v3 => some (.inl (some (.int v3), h1))))
theorem rg_33_139 {X : am_X} {d : Nat} {N : Nat} {lv : am_LV} (x0 : Value) (h : am_H) (o : am_O) (l0 : lv.lookup 0 = some x0) (i0 : am_isR x0 = true) (hs : fg_33_139 N x0 h = some o) : am_W X (d + 161) 33 139 lv [] h (fun q => q = o) := by
  unfold fg_33_139 at hs
  refine aw_vload_n (pc1 := 140) at_33_139 l0 i0 rfl ?_
  refine aw_iconst (v := 0) (pc1 := 141) at_33_140 (by decide) rfl ?_
  obtain ⟨h1, e2, hs1⟩ := am_bind hs
  clear hs
  refine aw_pP (pc1 := 144) at_33_141 e2 rfl ?_
  refine aw_vload_n (pc1 := 145) at_33_144 l0 i0 rfl ?_
  obtain ⟨v3, e4, hs2⟩ := am_bind hs1
  clear hs1
  refine aw_pG (pc1 := 148) at_33_145 (am_vI_s e4) rfl ?_
  cases hs2
  exact aw_iret at_33_148 (by rw [rt_33]; rfl) rfl
def fg_33_119 (N : Nat) (x0 : Value) (x1 : Int32) (h : am_H) : Option am_O := ((am_vI (am_pG 2307 x0 h)).bind fun v1 => (if 0 ≤ v1 then (fg_33_139 N x0 h) else (if ¬ x1 = 2 then (fg_33_139 N x0 h) else (if am_pOk 9 x0 h then am_cI true (fm_58 N x0 h) (fun v6 h7 => ((am_pP 2307 x0 (.int v6) h7).bind fun h9 => (fg_33_139 N x0 h9))) else none))))
theorem rg_33_119 {X : am_X} {d : Nat} {N : Nat} {lv : am_LV} (x0 : Value) (x1 : Int32) (h : am_H) (o : am_O) (l0 : lv.lookup 0 = some x0) (l1 : lv.lookup 1 = some (.int x1)) (i0 : am_isR x0 = true) (hs : fg_33_119 N x0 x1 h = some o) : am_W X (d + 161) 33 119 lv [] h (fun q => q = o) := by
  unfold fg_33_119 at hs
  refine aw_vload_n (pc1 := 120) at_33_119 l0 i0 rfl ?_
  obtain ⟨v1, e2, hs1⟩ := am_bind hs
  clear hs
  refine aw_pG (pc1 := 123) at_33_120 (am_vI_s e2) rfl ?_
  by_cases c3 : 0 ≤ v1
  · rw [if_pos c3] at hs1
    refine aw_ifge_t at_33_123 c3 ?_
    exact rg_33_139 x0 h o l0 i0 hs1
  · rw [if_neg c3] at hs1
    refine aw_ifge_f (pc1 := 126) at_33_123 c3 rfl ?_
    refine aw_iload_n (pc1 := 127) at_33_126 l1 rfl ?_
    refine aw_iconst (v := 2) (pc1 := 128) at_33_127 (by decide) rfl ?_
    by_cases c4 : ¬ x1 = 2
    · rw [if_pos c4] at hs1
      refine aw_icne_t at_33_128 c4 ?_
      exact rg_33_139 x0 h o l0 i0 hs1
    · rw [if_neg c4] at hs1
      refine aw_icne_f (pc1 := 131) at_33_128 c4 rfl ?_
      refine aw_vload_n (pc1 := 132) at_33_131 l0 i0 rfl ?_
      refine aw_vload_n (pc1 := 133) at_33_132 l0 i0 rfl ?_
      obtain ⟨z5, hs2⟩ := am_ift hs1
      clear hs1
      refine aw_call (F := fm_58 N x0 h) (t := true) (na := 1) (kd := 1) (as := [x0]) at_33_133 (am_k3v kb_58) mn_58 mk_58 rfl rfl (am_ok_v mi_58 (am_hl rfl (am_ccR i0 am_cats_0) rfl) z5) (am_hc (am_ccR i0 am_cats_0) rfl) (fun _ => ⟨rfl, hh_33⟩) (fun o1 hz9 => rm_58 x0 h o1 i0 hz9) ?_
      rcases am_cI_s hs2 with ⟨v6, h7, f8, hs3⟩ | hs3
      · clear hs2
        refine Or.inl ⟨_, _, f8, ?_⟩
        show am_W X _ 33 136 _ [(.int v6), x0] h7 _
        obtain ⟨h9, e10, hs4⟩ := am_bind hs3
        clear hs3
        refine aw_pP (pc1 := 139) at_33_136 e10 rfl ?_
        exact rg_33_139 x0 h9 o l0 i0 hs4
      · clear hs2
        exact Or.inr hs3
def fg_33_116 (N : Nat) (x0 : Value) (x1 : Int32) (s0 : Value) (s1 : Int32) (h : am_H) : Option am_O := ((am_pP 2307 s0 (.int s1) h).bind fun h1 => (fg_33_119 N x0 x1 h1))
theorem rg_33_116 {X : am_X} {d : Nat} {N : Nat} {lv : am_LV} (x0 : Value) (x1 : Int32) (s0 : Value) (s1 : Int32) (h : am_H) (o : am_O) (l0 : lv.lookup 0 = some x0) (l1 : lv.lookup 1 = some (.int x1)) (i0 : am_isR x0 = true) (j0 : am_isR s0 = true) (hs : fg_33_116 N x0 x1 s0 s1 h = some o) : am_W X (d + 161) 33 116 lv [(.int s1), s0] h (fun q => q = o) := by
  unfold fg_33_116 at hs
  obtain ⟨h1, e2, hs1⟩ := am_bind hs
  clear hs
  refine aw_pP (pc1 := 119) at_33_116 e2 rfl ?_
  exact rg_33_119 x0 x1 h1 o l0 l1 i0 hs1
def fg_33_77 (N : Nat) (x0 : Value) (x1 : Int32) (h : am_H) : Option am_O := ((am_vI (am_pG 2307 x0 h)).bind fun v1 => (if 0 ≤ v1 then (fg_33_119 N x0 x1 h) else (if ¬ x1 = 1 then (fg_33_119 N x0 x1 h) else ((am_vR (am_pG 2310 x0 h)).bind fun v5 => ((am_vR (am_pG 2308 x0 h)).bind fun v7 => (if am_pOk 7 v5 h then am_cI true (fm_52 N v5 v7 h) (fun v10 h11 => (if 0 ≤ v10 then ((am_vR (am_pG 2309 x0 h11)).bind fun v14 => ((am_pA 0 v14 v10 h11).bind fun v16 => (fg_33_116 N x0 x1 x0 v16 h11))) else (fg_33_116 N x0 x1 x0 ((-1)) h11))) else none))))))
theorem rg_33_77 {X : am_X} {d : Nat} {N : Nat} {lv : am_LV} (x0 : Value) (x1 : Int32) (h : am_H) (o : am_O) (l0 : lv.lookup 0 = some x0) (l1 : lv.lookup 1 = some (.int x1)) (i0 : am_isR x0 = true) (hs : fg_33_77 N x0 x1 h = some o) : am_W X (d + 161) 33 77 lv [] h (fun q => q = o) := by
  unfold fg_33_77 at hs
  refine aw_vload_n (pc1 := 78) at_33_77 l0 i0 rfl ?_
  obtain ⟨v1, e2, hs1⟩ := am_bind hs
  clear hs
  refine aw_pG (pc1 := 81) at_33_78 (am_vI_s e2) rfl ?_
  by_cases c3 : 0 ≤ v1
  · rw [if_pos c3] at hs1
    refine aw_ifge_t at_33_81 c3 ?_
    exact rg_33_119 x0 x1 h o l0 l1 i0 hs1
  · rw [if_neg c3] at hs1
    refine aw_ifge_f (pc1 := 84) at_33_81 c3 rfl ?_
    refine aw_iload_n (pc1 := 85) at_33_84 l1 rfl ?_
    refine aw_iconst (v := 1) (pc1 := 86) at_33_85 (by decide) rfl ?_
    by_cases c4 : ¬ x1 = 1
    · rw [if_pos c4] at hs1
      refine aw_icne_t at_33_86 c4 ?_
      exact rg_33_119 x0 x1 h o l0 l1 i0 hs1
    · rw [if_neg c4] at hs1
      refine aw_icne_f (pc1 := 89) at_33_86 c4 rfl ?_
      refine aw_vload_n (pc1 := 90) at_33_89 l0 i0 rfl ?_
      obtain ⟨v5, e6, hs2⟩ := am_bind hs1
      clear hs1
      refine aw_pG (pc1 := 93) at_33_90 (am_vR_s e6).1 rfl ?_
      refine aw_vload_n (pc1 := 94) at_33_93 l0 i0 rfl ?_
      obtain ⟨v7, e8, hs3⟩ := am_bind hs2
      clear hs2
      refine aw_pG (pc1 := 97) at_33_94 (am_vR_s e8).1 rfl ?_
      obtain ⟨z9, hs4⟩ := am_ift hs3
      clear hs3
      refine aw_call (F := fm_52 N v5 v7 h) (t := true) (na := 2) (kd := 1) (as := [v5, v7]) at_33_97 (am_k3v kb_52) mn_52 mk_52 rfl rfl (am_ok_v mi_52 (am_hl rfl (am_ccR (am_vR_s e6).2 (am_ccR (am_vR_s e8).2 am_cats_0)) rfl) z9) (am_hc am_cats_0 rfl) (fun _ => ⟨rfl, hh_33⟩) (fun o1 hz9 => rm_52 v5 v7 h o1 (am_vR_s e6).2 (am_vR_s e8).2 hz9) ?_
      rcases am_cI_s hs4 with ⟨v10, h11, f12, hs5⟩ | hs5
      · clear hs4
        refine Or.inl ⟨_, _, f12, ?_⟩
        show am_W X _ 33 100 _ [(.int v10)] h11 _
        refine aw_istore_n (lv1 := am_put1 _ 3 _) (pc1 := 101) at_33_100 rfl rfl ?_
        refine aw_vload_n (pc1 := 102) at_33_101 (am_lk1 l0 rfl rfl) i0 rfl ?_
        refine aw_iload_n (pc1 := 103) at_33_102 am_lk0 rfl ?_
        by_cases c13 : 0 ≤ v10
        · rw [if_pos c13] at hs5
          refine aw_ifge_t at_33_103 c13 ?_
          refine aw_vload_n (pc1 := 111) at_33_110 (am_lk1 l0 rfl rfl) i0 rfl ?_
          obtain ⟨v14, e15, hs6⟩ := am_bind hs5
          clear hs5
          refine aw_pG (pc1 := 114) at_33_111 (am_vR_s e15).1 rfl ?_
          refine aw_iload_n (pc1 := 115) at_33_114 am_lk0 rfl ?_
          obtain ⟨v16, e17, hs7⟩ := am_bind hs6
          clear hs6
          refine aw_pA (pc1 := 116) at_33_115 (Or.inl ⟨rfl, rfl⟩) e17 rfl ?_
          exact rg_33_116 x0 x1 x0 v16 h11 o (am_lk1 l0 rfl rfl) (am_lk1 l1 rfl rfl) i0 i0 hs7
        · rw [if_neg c13] at hs5
          refine aw_ifge_f (pc1 := 106) at_33_103 c13 rfl ?_
          refine aw_iconst (v := (-1)) (pc1 := 107) at_33_106 (by decide) rfl ?_
          refine aw_goto at_33_107 ?_
          exact rg_33_116 x0 x1 x0 ((-1)) h11 o (am_lk1 l0 rfl rfl) (am_lk1 l1 rfl rfl) i0 i0 hs5
      · clear hs4
        exact Or.inr hs5
def fg_33_55 (N : Nat) (x0 : Value) (x1 : Int32) (h : am_H) : Option am_O := ((am_vI (am_pG 2307 x0 h)).bind fun v1 => (if 0 ≤ v1 then (fg_33_77 N x0 x1 h) else ((am_vI (am_pG 2306 x0 h)).bind fun v4 => ((am_vI (am_pG 2305 x0 h)).bind fun v6 => (if v6 ≤ v4 then (fg_33_77 N x0 x1 h) else (if am_pOk 9 x0 h then am_cV true (fm_39 x0 h) (fun h11 => (fg_33_77 N x0 x1 h11)) else none))))))
theorem rg_33_55 {X : am_X} {d : Nat} {N : Nat} {lv : am_LV} (x0 : Value) (x1 : Int32) (h : am_H) (o : am_O) (l0 : lv.lookup 0 = some x0) (l1 : lv.lookup 1 = some (.int x1)) (i0 : am_isR x0 = true) (hs : fg_33_55 N x0 x1 h = some o) : am_W X (d + 161) 33 55 lv [] h (fun q => q = o) := by
  unfold fg_33_55 at hs
  refine aw_vload_n (pc1 := 56) at_33_55 l0 i0 rfl ?_
  obtain ⟨v1, e2, hs1⟩ := am_bind hs
  clear hs
  refine aw_pG (pc1 := 59) at_33_56 (am_vI_s e2) rfl ?_
  by_cases c3 : 0 ≤ v1
  · rw [if_pos c3] at hs1
    refine aw_ifge_t at_33_59 c3 ?_
    exact rg_33_77 x0 x1 h o l0 l1 i0 hs1
  · rw [if_neg c3] at hs1
    refine aw_ifge_f (pc1 := 62) at_33_59 c3 rfl ?_
    refine aw_vload_n (pc1 := 63) at_33_62 l0 i0 rfl ?_
    obtain ⟨v4, e5, hs2⟩ := am_bind hs1
    clear hs1
    refine aw_pG (pc1 := 66) at_33_63 (am_vI_s e5) rfl ?_
    refine aw_vload_n (pc1 := 67) at_33_66 l0 i0 rfl ?_
    obtain ⟨v6, e7, hs3⟩ := am_bind hs2
    clear hs2
    refine aw_pG (pc1 := 70) at_33_67 (am_vI_s e7) rfl ?_
    by_cases c8 : v6 ≤ v4
    · rw [if_pos c8] at hs3
      refine aw_icge_t at_33_70 c8 ?_
      exact rg_33_77 x0 x1 h o l0 l1 i0 hs3
    · rw [if_neg c8] at hs3
      refine aw_icge_f (pc1 := 73) at_33_70 c8 rfl ?_
      refine aw_vload_n (pc1 := 74) at_33_73 l0 i0 rfl ?_
      obtain ⟨z9, hs4⟩ := am_ift hs3
      clear hs3
      refine aw_call (F := fm_39 x0 h) (t := true) (na := 1) (kd := 1) (as := [x0]) at_33_74 (am_k3v kb_39) mn_39 mk_39 rfl rfl (am_ok_v mi_39 (am_hl rfl (am_ccR i0 am_cats_0) rfl) z9) (am_hc am_cats_0 rfl) (fun _ => ⟨rfl, hh_33⟩) (fun o1 hz9 => rm_39 x0 h o1 i0 hz9) ?_
      rcases am_cV_s hs4 with ⟨h11, f12, hs5⟩ | hs5
      · clear hs4
        refine Or.inl ⟨_, _, f12, ?_⟩
        show am_W X _ 33 77 _ [] h11 _
        exact rg_33_77 x0 x1 h11 o l0 l1 i0 hs5
      · clear hs4
        exact Or.inr hs5
def fg_33_0 (N : Nat) (x0 : Value) (x1 : Int32) (x2 : Value) (h : am_H) : Option am_O := ((am_pP 2308 x0 x2 h).bind fun h1 => ((am_vR (am_pG 2308 x0 h1)).bind fun v3 => (if am_pOk 3 v3 h1 then am_cV true (fm_34 v3 x1 0 h1) (fun h7 => ((am_pP 2306 x0 (.int 0) h7).bind fun h9 => ((am_pP 2307 x0 (.int (-1)) h9).bind fun h11 => (if ¬ x1 = 0 then (if ¬ x1 = 3 then (if am_pOk 9 x0 h11 then am_cV true (fm_48 N x0 x1 h11) (fun h17 => (fg_33_55 N x0 x1 h17)) else none) else (if am_pOk 9 x0 h11 then am_cV true (fm_46 N x0 h11) (fun h21 => (fg_33_55 N x0 x1 h21)) else none)) else (if am_pOk 9 x0 h11 then am_cV true (fm_35 N x0 0 1 0 h11) (fun h25 => (fg_33_55 N x0 x1 h25)) else none))))) else none)))
theorem rg_33_0 {X : am_X} {d : Nat} {N : Nat} {lv : am_LV} (x0 : Value) (x1 : Int32) (x2 : Value) (h : am_H) (o : am_O) (l0 : lv.lookup 0 = some x0) (l1 : lv.lookup 1 = some (.int x1)) (l2 : lv.lookup 2 = some x2) (i0 : am_isR x0 = true) (i2 : am_isR x2 = true) (hs : fg_33_0 N x0 x1 x2 h = some o) : am_W X (d + 161) 33 0 lv [] h (fun q => q = o) := by
  unfold fg_33_0 at hs
  refine aw_vload_n (pc1 := 1) at_33_0 l0 i0 rfl ?_
  refine aw_vload_n (pc1 := 2) at_33_1 l2 i2 rfl ?_
  obtain ⟨h1, e2, hs1⟩ := am_bind hs
  clear hs
  refine aw_pP (pc1 := 5) at_33_2 e2 rfl ?_
  refine aw_vload_n (pc1 := 6) at_33_5 l0 i0 rfl ?_
  obtain ⟨v3, e4, hs2⟩ := am_bind hs1
  clear hs1
  refine aw_pG (pc1 := 9) at_33_6 (am_vR_s e4).1 rfl ?_
  refine aw_iload_n (pc1 := 10) at_33_9 l1 rfl ?_
  refine aw_iconst (v := 0) (pc1 := 11) at_33_10 (by decide) rfl ?_
  obtain ⟨z5, hs3⟩ := am_ift hs2
  clear hs2
  refine aw_call (F := fm_34 v3 x1 0 h1) (t := true) (na := 3) (kd := 1) (as := [v3, (.int x1), (.int 0)]) at_33_11 (am_k3v kb_34) mn_34 mk_34 rfl rfl (am_ok_v mi_34 (am_hl rfl (am_ccR (am_vR_s e4).2 (am_ccI (am_ccI am_cats_0))) rfl) z5) (am_hc am_cats_0 rfl) (fun _ => ⟨rfl, hh_33⟩) (fun o1 hz9 => rm_34 v3 x1 0 h1 o1 (am_vR_s e4).2 hz9) ?_
  rcases am_cV_s hs3 with ⟨h7, f8, hs4⟩ | hs4
  · clear hs3
    refine Or.inl ⟨_, _, f8, ?_⟩
    show am_W X _ 33 14 _ [] h7 _
    refine aw_vload_n (pc1 := 15) at_33_14 l0 i0 rfl ?_
    refine aw_iconst (v := 0) (pc1 := 16) at_33_15 (by decide) rfl ?_
    obtain ⟨h9, e10, hs5⟩ := am_bind hs4
    clear hs4
    refine aw_pP (pc1 := 19) at_33_16 e10 rfl ?_
    refine aw_vload_n (pc1 := 20) at_33_19 l0 i0 rfl ?_
    refine aw_iconst (v := (-1)) (pc1 := 21) at_33_20 (by decide) rfl ?_
    obtain ⟨h11, e12, hs6⟩ := am_bind hs5
    clear hs5
    refine aw_pP (pc1 := 24) at_33_21 e12 rfl ?_
    refine aw_iload_n (pc1 := 25) at_33_24 l1 rfl ?_
    by_cases c13 : ¬ x1 = 0
    · rw [if_pos c13] at hs6
      refine aw_ifne_t at_33_25 c13 ?_
      refine aw_iload_n (pc1 := 39) at_33_38 l1 rfl ?_
      refine aw_iconst (v := 3) (pc1 := 40) at_33_39 (by decide) rfl ?_
      by_cases c14 : ¬ x1 = 3
      · rw [if_pos c14] at hs6
        refine aw_icne_t at_33_40 c14 ?_
        refine aw_vload_n (pc1 := 51) at_33_50 l0 i0 rfl ?_
        refine aw_iload_n (pc1 := 52) at_33_51 l1 rfl ?_
        obtain ⟨z15, hs7⟩ := am_ift hs6
        clear hs6
        refine aw_call (F := fm_48 N x0 x1 h11) (t := true) (na := 2) (kd := 1) (as := [x0, (.int x1)]) at_33_52 (am_k3v kb_48) mn_48 mk_48 rfl rfl (am_ok_v mi_48 (am_hl rfl (am_ccR i0 (am_ccI am_cats_0)) rfl) z15) (am_hc am_cats_0 rfl) (fun _ => ⟨rfl, hh_33⟩) (fun o1 hz9 => rm_48 x0 x1 h11 o1 i0 hz9) ?_
        rcases am_cV_s hs7 with ⟨h17, f18, hs8⟩ | hs8
        · clear hs7
          refine Or.inl ⟨_, _, f18, ?_⟩
          show am_W X _ 33 55 _ [] h17 _
          exact rg_33_55 x0 x1 h17 o l0 l1 i0 hs8
        · clear hs7
          exact Or.inr hs8
      · rw [if_neg c14] at hs6
        refine aw_icne_f (pc1 := 43) at_33_40 c14 rfl ?_
        refine aw_vload_n (pc1 := 44) at_33_43 l0 i0 rfl ?_
        obtain ⟨z19, hs9⟩ := am_ift hs6
        clear hs6
        refine aw_call (F := fm_46 N x0 h11) (t := true) (na := 1) (kd := 1) (as := [x0]) at_33_44 (am_k3v kb_46) mn_46 mk_46 rfl rfl (am_ok_v mi_46 (am_hl rfl (am_ccR i0 am_cats_0) rfl) z19) (am_hc am_cats_0 rfl) (fun _ => ⟨rfl, hh_33⟩) (fun o1 hz9 => rm_46 x0 h11 o1 i0 hz9) ?_
        rcases am_cV_s hs9 with ⟨h21, f22, hs10⟩ | hs10
        · clear hs9
          refine Or.inl ⟨_, _, f22, ?_⟩
          show am_W X _ 33 47 _ [] h21 _
          refine aw_goto at_33_47 ?_
          exact rg_33_55 x0 x1 h21 o l0 l1 i0 hs10
        · clear hs9
          exact Or.inr hs10
    · rw [if_neg c13] at hs6
      refine aw_ifne_f (pc1 := 28) at_33_25 c13 rfl ?_
      refine aw_vload_n (pc1 := 29) at_33_28 l0 i0 rfl ?_
      refine aw_iconst (v := 0) (pc1 := 30) at_33_29 (by decide) rfl ?_
      refine aw_iconst (v := 1) (pc1 := 31) at_33_30 (by decide) rfl ?_
      refine aw_iconst (v := 0) (pc1 := 32) at_33_31 (by decide) rfl ?_
      obtain ⟨z23, hs11⟩ := am_ift hs6
      clear hs6
      refine aw_call (F := fm_35 N x0 0 1 0 h11) (t := true) (na := 4) (kd := 1) (as := [x0, (.int 0), (.int 1), (.int 0)]) at_33_32 (am_k3v kb_35) mn_35 mk_35 rfl rfl (am_ok_v mi_35 (am_hl rfl (am_ccR i0 (am_ccI (am_ccI (am_ccI am_cats_0)))) rfl) z23) (am_hc am_cats_0 rfl) (fun _ => ⟨rfl, hh_33⟩) (fun o1 hz9 => rm_35 x0 0 1 0 h11 o1 i0 hz9) ?_
      rcases am_cV_s hs11 with ⟨h25, f26, hs12⟩ | hs12
      · clear hs11
        refine Or.inl ⟨_, _, f26, ?_⟩
        show am_W X _ 33 35 _ [] h25 _
        refine aw_goto at_33_35 ?_
        exact rg_33_55 x0 x1 h25 o l0 l1 i0 hs12
      · clear hs11
        exact Or.inr hs12
  · clear hs3
    exact Or.inr hs4
def fm_33 (N : Nat) (y0 : Value) (y1 : Int32) (y2 : Value) (h : am_H) : Option am_O := fg_33_0 N y0 y1 y2 h
theorem rm_33 {X : am_X} {d : Nat} {N : Nat} (y0 : Value) (y1 : Int32) (y2 : Value) (h : am_H) (o : am_O) (i0 : am_isR y0 = true) (i2 : am_isR y2 = true) (hs : fm_33 N y0 y1 y2 h = some o) : am_W X (d + 161) 33 0 (am_args 0 [y0, .int y1, y2]) [] h (fun q => q = o) := by
  rw [am_args_R i0, am_args_I, am_args_R i2]
  exact rg_33_0 y0 y1 y2 h o rfl rfl rfl i0 i2 hs
def fg_60_59 (h : am_H) : Option am_O := some (.inl (none, h))
theorem rg_60_59 {X : am_X} {d : Nat} {lv : am_LV} (h : am_H) (o : am_O) (hs : fg_60_59 h = some o) : am_W X (d + 1) 60 59 lv [] h (fun q => q = o) := by
  unfold fg_60_59 at hs
  cases hs
  exact aw_vret at_60_59 rt_60 rfl
def fg_60_0 (x0 : Value) (x1 : Value) (h : am_H) : Option am_O := ((am_vI (am_pG 769 x1 h)).bind fun v1 => ((am_vI (am_pG 770 x1 h)).bind fun v3 => (if am_pOk 3 x0 h then am_cV true (fm_34 x0 v1 v3 h) (fun h7 => ((am_vI (am_pG 771 x1 h7)).bind fun v9 => ((am_vI (am_pG 772 x0 h7)).bind fun v11 => ((am_vR (am_pG 768 x0 h7)).bind fun v13 => ((am_pLen v13 h7).bind fun v15 => (if v15 < (v9 * v11) then (fg_60_59 h7) else ((am_vI (am_pG 771 x1 h7)).bind fun v18 => ((am_pP 771 x0 (.int v18) h7).bind fun h20 => ((am_vR (am_pG 768 x1 h20)).bind fun v22 => ((am_vR (am_pG 768 x0 h20)).bind fun v24 => ((am_vI (am_pG 771 x0 h20)).bind fun v26 => ((am_vI (am_pG 772 x0 h20)).bind fun v28 => ((am_pCpy v22 0 v24 0 (v26 * v28) h20).bind fun h30 => (fg_60_59 h30)))))))))))))) else none)))
theorem rg_60_0 {X : am_X} {d : Nat} {lv : am_LV} (x0 : Value) (x1 : Value) (h : am_H) (o : am_O) (l0 : lv.lookup 0 = some x0) (l1 : lv.lookup 1 = some x1) (i0 : am_isR x0 = true) (i1 : am_isR x1 = true) (hs : fg_60_0 x0 x1 h = some o) : am_W X (d + 1) 60 0 lv [] h (fun q => q = o) := by
  unfold fg_60_0 at hs
  refine aw_vload_n (pc1 := 1) at_60_0 l0 i0 rfl ?_
  refine aw_vload_n (pc1 := 2) at_60_1 l1 i1 rfl ?_
  obtain ⟨v1, e2, hs1⟩ := am_bind hs
  clear hs
  refine aw_pG (pc1 := 5) at_60_2 (am_vI_s e2) rfl ?_
  refine aw_vload_n (pc1 := 6) at_60_5 l1 i1 rfl ?_
  obtain ⟨v3, e4, hs2⟩ := am_bind hs1
  clear hs1
  refine aw_pG (pc1 := 9) at_60_6 (am_vI_s e4) rfl ?_
  obtain ⟨z5, hs3⟩ := am_ift hs2
  clear hs2
  refine aw_call (F := fm_34 x0 v1 v3 h) (t := true) (na := 3) (kd := 1) (as := [x0, (.int v1), (.int v3)]) at_60_9 (am_k3v kb_34) mn_34 mk_34 rfl rfl (am_ok_v mi_34 (am_hl rfl (am_ccR i0 (am_ccI (am_ccI am_cats_0))) rfl) z5) (am_hc am_cats_0 rfl) (fun _ => ⟨rfl, hh_60⟩) (fun o1 hz9 => rm_34 x0 v1 v3 h o1 i0 hz9) ?_
  rcases am_cV_s hs3 with ⟨h7, f8, hs4⟩ | hs4
  · clear hs3
    refine Or.inl ⟨_, _, f8, ?_⟩
    show am_W X _ 60 12 _ [] h7 _
    refine aw_vload_n (pc1 := 13) at_60_12 l1 i1 rfl ?_
    obtain ⟨v9, e10, hs5⟩ := am_bind hs4
    clear hs4
    refine aw_pG (pc1 := 16) at_60_13 (am_vI_s e10) rfl ?_
    refine aw_vload_n (pc1 := 17) at_60_16 l0 i0 rfl ?_
    obtain ⟨v11, e12, hs6⟩ := am_bind hs5
    clear hs5
    refine aw_pG (pc1 := 20) at_60_17 (am_vI_s e12) rfl ?_
    refine aw_imul (v := (v9 * v11)) (pc1 := 21) at_60_20 rfl rfl ?_
    refine aw_vload_n (pc1 := 22) at_60_21 l0 i0 rfl ?_
    obtain ⟨v13, e14, hs7⟩ := am_bind hs6
    clear hs6
    refine aw_pG (pc1 := 25) at_60_22 (am_vR_s e14).1 rfl ?_
    obtain ⟨v15, e16, hs8⟩ := am_bind hs7
    clear hs7
    refine aw_pLen (pc1 := 26) at_60_25 e16 rfl ?_
    by_cases c17 : v15 < (v9 * v11)
    · rw [if_pos c17] at hs8
      refine aw_icgt_t at_60_26 c17 ?_
      exact rg_60_59 h7 o   hs8
    · rw [if_neg c17] at hs8
      refine aw_icgt_f (pc1 := 29) at_60_26 c17 rfl ?_
      refine aw_vload_n (pc1 := 30) at_60_29 l0 i0 rfl ?_
      refine aw_vload_n (pc1 := 31) at_60_30 l1 i1 rfl ?_
      obtain ⟨v18, e19, hs9⟩ := am_bind hs8
      clear hs8
      refine aw_pG (pc1 := 34) at_60_31 (am_vI_s e19) rfl ?_
      obtain ⟨h20, e21, hs10⟩ := am_bind hs9
      clear hs9
      refine aw_pP (pc1 := 37) at_60_34 e21 rfl ?_
      refine aw_vload_n (pc1 := 38) at_60_37 l1 i1 rfl ?_
      obtain ⟨v22, e23, hs11⟩ := am_bind hs10
      clear hs10
      refine aw_pG (pc1 := 41) at_60_38 (am_vR_s e23).1 rfl ?_
      refine aw_iconst (v := 0) (pc1 := 42) at_60_41 (by decide) rfl ?_
      refine aw_vload_n (pc1 := 43) at_60_42 l0 i0 rfl ?_
      obtain ⟨v24, e25, hs12⟩ := am_bind hs11
      clear hs11
      refine aw_pG (pc1 := 46) at_60_43 (am_vR_s e25).1 rfl ?_
      refine aw_iconst (v := 0) (pc1 := 47) at_60_46 (by decide) rfl ?_
      refine aw_vload_n (pc1 := 48) at_60_47 l0 i0 rfl ?_
      obtain ⟨v26, e27, hs13⟩ := am_bind hs12
      clear hs12
      refine aw_pG (pc1 := 51) at_60_48 (am_vI_s e27) rfl ?_
      refine aw_vload_n (pc1 := 52) at_60_51 l0 i0 rfl ?_
      obtain ⟨v28, e29, hs14⟩ := am_bind hs13
      clear hs13
      refine aw_pG (pc1 := 55) at_60_52 (am_vI_s e29) rfl ?_
      refine aw_imul (v := (v26 * v28)) (pc1 := 56) at_60_55 rfl rfl ?_
      obtain ⟨h30, e31, hs15⟩ := am_bind hs14
      clear hs14
      refine aw_pCpy at_60_56 rfl e31 (am_hc am_cats_0 rfl) ?_
      exact rg_60_59 h30 o   hs15
  · clear hs3
    exact Or.inr hs4
def fm_60 (y0 : Value) (y1 : Value) (h : am_H) : Option am_O := fg_60_0 y0 y1 h
theorem rm_60 {X : am_X} {d : Nat} (y0 : Value) (y1 : Value) (h : am_H) (o : am_O) (i0 : am_isR y0 = true) (i1 : am_isR y1 = true) (hs : fm_60 y0 y1 h = some o) : am_W X (d + 1) 60 0 (am_args 0 [y0, y1]) [] h (fun q => q = o) := by
  rw [am_args_R i0, am_args_R i1]
  exact rg_60_0 y0 y1 h o rfl rfl i0 i1 hs
def fg_59_99 (x10 : Int32) (h : am_H) : Option am_O := some (.inl (some (.int x10), h))
theorem rg_59_99 {X : am_X} {d : Nat} {lv : am_LV} (x10 : Int32) (h : am_H) (o : am_O) (l10 : lv.lookup 10 = some (.int x10)) (hs : fg_59_99 x10 h = some o) : am_W X (d + 2) 59 99 lv [] h (fun q => q = o) := by
  unfold fg_59_99 at hs
  refine aw_iload (pc1 := 101) at_59_99 l10 rfl ?_
  cases hs
  exact aw_iret at_59_101 (by rw [rt_59]; rfl) rfl
def fg_59_0 (x0 : Value) (x1 : Value) (x2 : Int32) (x3 : Int32) (x4 : Int32) (x5 : Int32) (x6 : Int32) (x7 : Int64) (h : am_H) : Option am_O := ((am_pObj 3 h).bind fun h1 => ((am_vI (am_pG 771 x1 h1)).bind fun v3 => ((am_vI (am_pG 772 x1 h1)).bind fun v5 => (if am_pOk 3 (Value.ref h.length) h1 then am_cV false (fm_18 ((Value.ref h.length)) ((v3 * v5)) h1) (fun h9 => (if am_pOk 3 (Value.ref h.length) h9 then am_cV true (fm_60 ((Value.ref h.length)) x1 h9) (fun h13 => ((am_pP 773 (Value.ref h.length) (.int x2) h13).bind fun h15 => ((am_pP 774 (Value.ref h.length) (.int x3) h15).bind fun h17 => ((am_pP 775 (Value.ref h.length) (.int x4) h17).bind fun h19 => ((am_pP 776 (Value.ref h.length) (.int x5) h19).bind fun h21 => ((am_pP 777 (Value.ref h.length) (.int x6) h21).bind fun h23 => ((am_pP 778 (Value.ref h.length) (.long x7) h23).bind fun h25 => ((am_vI (am_pG 2817 x0 h25)).bind fun v27 => ((am_vR (am_pG 2816 x0 h25)).bind fun v29 => ((am_pLen v29 h25).bind fun v31 => (if v31 ≤ v27 then (fg_59_99 v27 h25) else ((am_vR (am_pG 2816 x0 h25)).bind fun v34 => ((am_pSA v34 v27 (Value.ref h.length) h25).bind fun h36 => ((am_vI (am_pG 2817 x0 h36)).bind fun v38 => ((am_pP 2817 x0 (.int (v38 + 1)) h36).bind fun h40 => (fg_59_99 v27 h40)))))))))))))))) else none)) else none))))
theorem rg_59_0 {X : am_X} {d : Nat} {lv : am_LV} (x0 : Value) (x1 : Value) (x2 : Int32) (x3 : Int32) (x4 : Int32) (x5 : Int32) (x6 : Int32) (x7 : Int64) (h : am_H) (o : am_O) (l0 : lv.lookup 0 = some x0) (l1 : lv.lookup 1 = some x1) (l2 : lv.lookup 2 = some (.int x2)) (l3 : lv.lookup 3 = some (.int x3)) (l4 : lv.lookup 4 = some (.int x4)) (l5 : lv.lookup 5 = some (.int x5)) (l6 : lv.lookup 6 = some (.int x6)) (l7 : lv.lookup 7 = some (.long x7)) (i0 : am_isR x0 = true) (i1 : am_isR x1 = true) (hs : fg_59_0 x0 x1 x2 x3 x4 x5 x6 x7 h = some o) : am_W X (d + 2) 59 0 lv [] h (fun q => q = o) := by
  unfold fg_59_0 at hs
  obtain ⟨h1, e2, hs1⟩ := am_bind hs
  clear hs
  refine aw_pObj (pc1 := 3) at_59_0 rfl rfl e2 rfl ?_
  refine aw_vdup (pc1 := 4) at_59_3 rfl rfl ?_
  refine aw_vload_n (pc1 := 5) at_59_4 l1 i1 rfl ?_
  obtain ⟨v3, e4, hs2⟩ := am_bind hs1
  clear hs1
  refine aw_pG (pc1 := 8) at_59_5 (am_vI_s e4) rfl ?_
  refine aw_vload_n (pc1 := 9) at_59_8 l1 i1 rfl ?_
  obtain ⟨v5, e6, hs3⟩ := am_bind hs2
  clear hs2
  refine aw_pG (pc1 := 12) at_59_9 (am_vI_s e6) rfl ?_
  refine aw_imul (v := (v3 * v5)) (pc1 := 13) at_59_12 rfl rfl ?_
  obtain ⟨z7, hs4⟩ := am_ift hs3
  clear hs3
  refine aw_call (F := fm_18 ((Value.ref h.length)) ((v3 * v5)) h1) (t := false) (na := 2) (kd := 2) (as := [(Value.ref h.length), (.int (v3 * v5))]) at_59_13 (am_k3p kb_18) mn_18 mk_18 rfl rfl (am_ok_v mi_18 (am_hl rfl (am_ccR rfl (am_ccI am_cats_0)) rfl) z7) (am_hc (am_ccR rfl am_cats_0) rfl) (fun hz9 => by cases hz9) (fun o1 hz9 => rm_18 ((Value.ref h.length)) ((v3 * v5)) h1 o1 rfl hz9) ?_
  rcases am_cV_s hs4 with ⟨h9, f10, hs5⟩ | hs5
  · clear hs4
    refine Or.inl ⟨_, _, f10, ?_⟩
    show am_W X _ 59 16 _ [(Value.ref h.length)] h9 _
    refine aw_vstore (lv1 := am_put1 _ 9 _) (pc1 := 18) at_59_16 rfl rfl rfl ?_
    refine aw_vload (pc1 := 20) at_59_18 am_lk0 rfl rfl ?_
    refine aw_vload_n (pc1 := 21) at_59_20 (am_lk1 l1 rfl rfl) i1 rfl ?_
    obtain ⟨z11, hs6⟩ := am_ift hs5
    clear hs5
    refine aw_call (F := fm_60 ((Value.ref h.length)) x1 h9) (t := true) (na := 2) (kd := 1) (as := [(Value.ref h.length), x1]) at_59_21 (am_k3v kb_60) mn_60 mk_60 rfl rfl (am_ok_v mi_60 (am_hl rfl (am_ccR rfl (am_ccR i1 am_cats_0)) rfl) z11) (am_hc am_cats_0 rfl) (fun _ => ⟨rfl, hh_59⟩) (fun o1 hz9 => rm_60 ((Value.ref h.length)) x1 h9 o1 rfl i1 hz9) ?_
    rcases am_cV_s hs6 with ⟨h13, f14, hs7⟩ | hs7
    · clear hs6
      refine Or.inl ⟨_, _, f14, ?_⟩
      show am_W X _ 59 24 _ [] h13 _
      refine aw_vload (pc1 := 26) at_59_24 am_lk0 rfl rfl ?_
      refine aw_iload_n (pc1 := 27) at_59_26 (am_lk1 l2 rfl rfl) rfl ?_
      obtain ⟨h15, e16, hs8⟩ := am_bind hs7
      clear hs7
      refine aw_pP (pc1 := 30) at_59_27 e16 rfl ?_
      refine aw_vload (pc1 := 32) at_59_30 am_lk0 rfl rfl ?_
      refine aw_iload_n (pc1 := 33) at_59_32 (am_lk1 l3 rfl rfl) rfl ?_
      obtain ⟨h17, e18, hs9⟩ := am_bind hs8
      clear hs8
      refine aw_pP (pc1 := 36) at_59_33 e18 rfl ?_
      refine aw_vload (pc1 := 38) at_59_36 am_lk0 rfl rfl ?_
      refine aw_iload (pc1 := 40) at_59_38 (am_lk1 l4 rfl rfl) rfl ?_
      obtain ⟨h19, e20, hs10⟩ := am_bind hs9
      clear hs9
      refine aw_pP (pc1 := 43) at_59_40 e20 rfl ?_
      refine aw_vload (pc1 := 45) at_59_43 am_lk0 rfl rfl ?_
      refine aw_iload (pc1 := 47) at_59_45 (am_lk1 l5 rfl rfl) rfl ?_
      obtain ⟨h21, e22, hs11⟩ := am_bind hs10
      clear hs10
      refine aw_pP (pc1 := 50) at_59_47 e22 rfl ?_
      refine aw_vload (pc1 := 52) at_59_50 am_lk0 rfl rfl ?_
      refine aw_iload (pc1 := 54) at_59_52 (am_lk1 l6 rfl rfl) rfl ?_
      obtain ⟨h23, e24, hs12⟩ := am_bind hs11
      clear hs11
      refine aw_pP (pc1 := 57) at_59_54 e24 rfl ?_
      refine aw_vload (pc1 := 59) at_59_57 am_lk0 rfl rfl ?_
      refine aw_lload (pc1 := 61) at_59_59 (am_lk1 l7 rfl rfl) rfl ?_
      obtain ⟨h25, e26, hs13⟩ := am_bind hs12
      clear hs12
      refine aw_pP (pc1 := 64) at_59_61 e26 rfl ?_
      refine aw_vload_n (pc1 := 65) at_59_64 (am_lk1 l0 rfl rfl) i0 rfl ?_
      obtain ⟨v27, e28, hs14⟩ := am_bind hs13
      clear hs13
      refine aw_pG (pc1 := 68) at_59_65 (am_vI_s e28) rfl ?_
      refine aw_istore (lv1 := am_put1 _ 10 _) (pc1 := 70) at_59_68 rfl rfl ?_
      refine aw_iload (pc1 := 72) at_59_70 am_lk0 rfl ?_
      refine aw_vload_n (pc1 := 73) at_59_72 (am_lk1 (am_lk1 l0 rfl rfl) rfl rfl) i0 rfl ?_
      obtain ⟨v29, e30, hs15⟩ := am_bind hs14
      clear hs14
      refine aw_pG (pc1 := 76) at_59_73 (am_vR_s e30).1 rfl ?_
      obtain ⟨v31, e32, hs16⟩ := am_bind hs15
      clear hs15
      refine aw_pLen (pc1 := 77) at_59_76 e32 rfl ?_
      by_cases c33 : v31 ≤ v27
      · rw [if_pos c33] at hs16
        refine aw_icge_t at_59_77 c33 ?_
        exact rg_59_99 v27 h25 o am_lk0  hs16
      · rw [if_neg c33] at hs16
        refine aw_icge_f (pc1 := 80) at_59_77 c33 rfl ?_
        refine aw_vload_n (pc1 := 81) at_59_80 (am_lk1 (am_lk1 l0 rfl rfl) rfl rfl) i0 rfl ?_
        obtain ⟨v34, e35, hs17⟩ := am_bind hs16
        clear hs16
        refine aw_pG (pc1 := 84) at_59_81 (am_vR_s e35).1 rfl ?_
        refine aw_iload (pc1 := 86) at_59_84 am_lk0 rfl ?_
        refine aw_vload (pc1 := 88) at_59_86 (am_lk1 am_lk0 rfl (by rw [am_isRc rfl]; rfl)) rfl rfl ?_
        obtain ⟨h36, e37, hs18⟩ := am_bind hs17
        clear hs17
        refine aw_pSA (pc1 := 89) at_59_88 e37 rfl ?_
        refine aw_vload_n (pc1 := 90) at_59_89 (am_lk1 (am_lk1 l0 rfl rfl) rfl rfl) i0 rfl ?_
        refine aw_vdup (pc1 := 91) at_59_90 i0 rfl ?_
        obtain ⟨v38, e39, hs19⟩ := am_bind hs18
        clear hs18
        refine aw_pG (pc1 := 94) at_59_91 (am_vI_s e39) rfl ?_
        refine aw_iconst (v := 1) (pc1 := 95) at_59_94 (by decide) rfl ?_
        refine aw_iadd (v := (v38 + 1)) (pc1 := 96) at_59_95 rfl rfl ?_
        obtain ⟨h40, e41, hs20⟩ := am_bind hs19
        clear hs19
        refine aw_pP (pc1 := 99) at_59_96 e41 rfl ?_
        exact rg_59_99 v27 h40 o am_lk0  hs20
    · clear hs6
      exact Or.inr hs7
  · clear hs4
    exact Or.inr hs5
def fm_59 (y0 : Value) (y1 : Value) (y2 : Int32) (y3 : Int32) (y4 : Int32) (y5 : Int32) (y6 : Int32) (y7 : Int64) (h : am_H) : Option am_O := fg_59_0 y0 y1 y2 y3 y4 y5 y6 y7 h
theorem rm_59 {X : am_X} {d : Nat} (y0 : Value) (y1 : Value) (y2 : Int32) (y3 : Int32) (y4 : Int32) (y5 : Int32) (y6 : Int32) (y7 : Int64) (h : am_H) (o : am_O) (i0 : am_isR y0 = true) (i1 : am_isR y1 = true) (hs : fm_59 y0 y1 y2 y3 y4 y5 y6 y7 h = some o) : am_W X (d + 2) 59 0 (am_args 0 [y0, y1, .int y2, .int y3, .int y4, .int y5, .int y6, .long y7]) [] h (fun q => q = o) := by
  rw [am_args_R i0, am_args_R i1, am_args_I, am_args_I, am_args_I, am_args_I, am_args_I, am_args_L]
  exact rg_59_0 y0 y1 y2 y3 y4 y5 y6 y7 h o rfl rfl rfl rfl rfl rfl rfl rfl i0 i1 hs
def fg_31_61 (N : Nat) (s0 : Int32) (h : am_H) : Option am_O := some (.inl (some (.int s0), h))
theorem rg_31_61 {X : am_X} {d : Nat} {N : Nat} {lv : am_LV} (s0 : Int32) (h : am_H) (o : am_O) (hs : fg_31_61 N s0 h = some o) : am_W X (d + 162) 31 61 lv [(.int s0)] h (fun q => q = o) := by
  unfold fg_31_61 at hs
  cases hs
  exact aw_iret at_31_61 (by rw [rt_31]; rfl) rfl
def fg_31_9 (N : Nat) (h : am_H) : Option am_O := some (.inr (0, h ++ [am_dummy]))
theorem rg_31_9 {X : am_X} {d : Nat} {N : Nat} {lv : am_LV} (h : am_H) (o : am_O) (hs : fg_31_9 N h = some o) : am_W X (d + 162) 31 9 lv [] h (fun q => q = o) := by
  unfold fg_31_9 at hs
  cases hs
  exact aw_throw at_31_9 rfl th_31_9 (am_hc am_cats_0 rfl) rfl
def fg_31_0 (N : Nat) (x0 : Value) (x1 : Int32) (h : am_H) : Option am_O := (if x1 < 0 then (fg_31_9 N h) else (if x1 ≤ 3 then (if am_pOk 11 x0 h then am_cV true (fm_32 x0 1 h) (fun h5 => ((am_vR (am_pG 2818 x0 h5)).bind fun v7 => ((am_vR (am_pG 2831 x0 h5)).bind fun v9 => (if am_pOk 9 v7 h5 then am_cI true (fm_33 N v7 x1 v9 h5) (fun v12 h13 => (if v12 < 0 then ((am_vR (am_pG 2831 x0 h13)).bind fun v16 => (if am_pOk 11 x0 h13 then am_cI true (fm_59 x0 v16 0 ((-1)) ((-1)) ((-1)) ((-1)) 0 h13) (fun v19 h20 => (fg_31_61 N v19 h20)) else none)) else (fg_31_61 N (((-1) - v12)) h13))) else none)))) else none) else (fg_31_9 N h)))
theorem rg_31_0 {X : am_X} {d : Nat} {N : Nat} {lv : am_LV} (x0 : Value) (x1 : Int32) (h : am_H) (o : am_O) (l0 : lv.lookup 0 = some x0) (l1 : lv.lookup 1 = some (.int x1)) (i0 : am_isR x0 = true) (hs : fg_31_0 N x0 x1 h = some o) : am_W X (d + 162) 31 0 lv [] h (fun q => q = o) := by
  unfold fg_31_0 at hs
  refine aw_iload_n (pc1 := 1) at_31_0 l1 rfl ?_
  by_cases c1 : x1 < 0
  · rw [if_pos c1] at hs
    refine aw_iflt_t at_31_1 c1 ?_
    exact rg_31_9 h o   hs
  · rw [if_neg c1] at hs
    refine aw_iflt_f (pc1 := 4) at_31_1 c1 rfl ?_
    refine aw_iload_n (pc1 := 5) at_31_4 l1 rfl ?_
    refine aw_iconst (v := 3) (pc1 := 6) at_31_5 (by decide) rfl ?_
    by_cases c2 : x1 ≤ 3
    · rw [if_pos c2] at hs
      refine aw_icle_t at_31_6 c2 ?_
      refine aw_vload_n (pc1 := 20) at_31_19 l0 i0 rfl ?_
      refine aw_iconst (v := 1) (pc1 := 21) at_31_20 (by decide) rfl ?_
      obtain ⟨z3, hs1⟩ := am_ift hs
      clear hs
      refine aw_call (F := fm_32 x0 1 h) (t := true) (na := 2) (kd := 1) (as := [x0, (.int 1)]) at_31_21 (am_k3v kb_32) mn_32 mk_32 rfl rfl (am_ok_v mi_32 (am_hl rfl (am_ccR i0 (am_ccI am_cats_0)) rfl) z3) (am_hc am_cats_0 rfl) (fun _ => ⟨rfl, hh_31⟩) (fun o1 hz9 => rm_32 x0 1 h o1 i0 hz9) ?_
      rcases am_cV_s hs1 with ⟨h5, f6, hs2⟩ | hs2
      · clear hs1
        refine Or.inl ⟨_, _, f6, ?_⟩
        show am_W X _ 31 24 _ [] h5 _
        refine aw_vload_n (pc1 := 25) at_31_24 l0 i0 rfl ?_
        obtain ⟨v7, e8, hs3⟩ := am_bind hs2
        clear hs2
        refine aw_pG (pc1 := 28) at_31_25 (am_vR_s e8).1 rfl ?_
        refine aw_iload_n (pc1 := 29) at_31_28 l1 rfl ?_
        refine aw_vload_n (pc1 := 30) at_31_29 l0 i0 rfl ?_
        obtain ⟨v9, e10, hs4⟩ := am_bind hs3
        clear hs3
        refine aw_pG (pc1 := 33) at_31_30 (am_vR_s e10).1 rfl ?_
        obtain ⟨z11, hs5⟩ := am_ift hs4
        clear hs4
        refine aw_call (F := fm_33 N v7 x1 v9 h5) (t := true) (na := 3) (kd := 1) (as := [v7, (.int x1), v9]) at_31_33 (am_k3v kb_33) mn_33 mk_33 rfl rfl (am_ok_v mi_33 (am_hl rfl (am_ccR (am_vR_s e8).2 (am_ccI (am_ccR (am_vR_s e10).2 am_cats_0))) rfl) z11) (am_hc am_cats_0 rfl) (fun _ => ⟨rfl, hh_31⟩) (fun o1 hz9 => rm_33 v7 x1 v9 h5 o1 (am_vR_s e8).2 (am_vR_s e10).2 hz9) ?_
        rcases am_cI_s hs5 with ⟨v12, h13, f14, hs6⟩ | hs6
        · clear hs5
          refine Or.inl ⟨_, _, f14, ?_⟩
          show am_W X _ 31 36 _ [(.int v12)] h13 _
          refine aw_istore_n (lv1 := am_put1 _ 2 _) (pc1 := 37) at_31_36 rfl rfl ?_
          refine aw_iload_n (pc1 := 38) at_31_37 am_lk0 rfl ?_
          by_cases c15 : v12 < 0
          · rw [if_pos c15] at hs6
            refine aw_iflt_t at_31_38 c15 ?_
            refine aw_vload_n (pc1 := 48) at_31_47 (am_lk1 l0 rfl rfl) i0 rfl ?_
            refine aw_vload_n (pc1 := 49) at_31_48 (am_lk1 l0 rfl rfl) i0 rfl ?_
            obtain ⟨v16, e17, hs7⟩ := am_bind hs6
            clear hs6
            refine aw_pG (pc1 := 52) at_31_49 (am_vR_s e17).1 rfl ?_
            refine aw_iconst (v := 0) (pc1 := 53) at_31_52 (by decide) rfl ?_
            refine aw_iconst (v := (-1)) (pc1 := 54) at_31_53 (by decide) rfl ?_
            refine aw_iconst (v := (-1)) (pc1 := 55) at_31_54 (by decide) rfl ?_
            refine aw_iconst (v := (-1)) (pc1 := 56) at_31_55 (by decide) rfl ?_
            refine aw_iconst (v := (-1)) (pc1 := 57) at_31_56 (by decide) rfl ?_
            refine aw_lconst (v := 0) (pc1 := 58) at_31_57 (by decide) rfl ?_
            obtain ⟨z18, hs8⟩ := am_ift hs7
            clear hs7
            refine aw_call (F := fm_59 x0 v16 0 ((-1)) ((-1)) ((-1)) ((-1)) 0 h13) (t := true) (na := 8) (kd := 1) (as := [x0, v16, (.int 0), (.int (-1)), (.int (-1)), (.int (-1)), (.int (-1)), (.long 0)]) at_31_58 (am_k3v kb_59) mn_59 mk_59 rfl rfl (am_ok_v mi_59 (am_hl rfl (am_ccR i0 (am_ccR (am_vR_s e17).2 (am_ccI (am_ccI (am_ccI (am_ccI (am_ccI (am_ccL am_cats_0)))))))) rfl) z18) (am_hc am_cats_0 rfl) (fun _ => ⟨rfl, hh_31⟩) (fun o1 hz9 => rm_59 x0 v16 0 ((-1)) ((-1)) ((-1)) ((-1)) 0 h13 o1 i0 (am_vR_s e17).2 hz9) ?_
            rcases am_cI_s hs8 with ⟨v19, h20, f21, hs9⟩ | hs9
            · clear hs8
              refine Or.inl ⟨_, _, f21, ?_⟩
              show am_W X _ 31 61 _ [(.int v19)] h20 _
              exact rg_31_61 v19 h20 o   hs9
            · clear hs8
              exact Or.inr hs9
          · rw [if_neg c15] at hs6
            refine aw_iflt_f (pc1 := 41) at_31_38 c15 rfl ?_
            refine aw_iconst (v := (-1)) (pc1 := 42) at_31_41 (by decide) rfl ?_
            refine aw_iload_n (pc1 := 43) at_31_42 am_lk0 rfl ?_
            refine aw_isub (v := ((-1) - v12)) (pc1 := 44) at_31_43 rfl rfl ?_
            refine aw_goto at_31_44 ?_
            exact rg_31_61 (((-1) - v12)) h13 o   hs6
        · clear hs5
          exact Or.inr hs6
      · clear hs1
        exact Or.inr hs2
    · rw [if_neg c2] at hs
      refine aw_icle_f (pc1 := 9) at_31_6 c2 rfl ?_
      exact rg_31_9 h o   hs
def fm_31 (N : Nat) (y0 : Value) (y1 : Int32) (h : am_H) : Option am_O := fg_31_0 N y0 y1 h
theorem rm_31 {X : am_X} {d : Nat} {N : Nat} (y0 : Value) (y1 : Int32) (h : am_H) (o : am_O) (i0 : am_isR y0 = true) (hs : fm_31 N y0 y1 h = some o) : am_W X (d + 162) 31 0 (am_args 0 [y0, .int y1]) [] h (fun q => q = o) := by
  rw [am_args_R i0, am_args_I]
  exact rg_31_0 y0 y1 h o rfl rfl i0 hs
def fg_30_16 (N : Nat) (h : am_H) : Option am_O := some (.inl (some (.int 2), h))
theorem rg_30_16 {X : am_X} {d : Nat} {N : Nat} {lv : am_LV} (h : am_H) (o : am_O) (hs : fg_30_16 N h = some o) : am_W X (d + 163) 30 16 lv [] h (fun q => q = o) := by
  unfold fg_30_16 at hs
  refine aw_iconst (v := 2) (pc1 := 17) at_30_16 (by decide) rfl ?_
  cases hs
  exact aw_iret at_30_17 (by rw [rt_30]; rfl) rfl
def fg_30_13 (N : Nat) (h : am_H) : Option am_O := some (.inl (some (.int 1), h))
theorem rg_30_13 {X : am_X} {d : Nat} {N : Nat} {lv : am_LV} (h : am_H) (o : am_O) (hs : fg_30_13 N h = some o) : am_W X (d + 163) 30 13 lv [] h (fun q => q = o) := by
  unfold fg_30_13 at hs
  refine aw_iconst (v := 1) (pc1 := 14) at_30_13 (by decide) rfl ?_
  cases hs
  exact aw_iret at_30_14 (by rw [rt_30]; rfl) rfl
def fg_30_0 (N : Nat) (x0 : Value) (x1 : Int32) (x2 : Value) (h : am_H) : Option am_O := (if am_pOk 11 x0 h then (match fm_31 N x0 x1 h with | some (.inl (some (.int v2), h3)) => ((am_pSL x2 0 (Int32.toInt64 v2) h3).bind fun h5 => some (.inl (some (.int 0), h5))) | some (.inr (0, h7)) => (fg_30_13 N h7) | some (.inr (1, h9)) => (fg_30_16 N h9) | _ => none) else none)
theorem rg_30_0 {X : am_X} {d : Nat} {N : Nat} {lv : am_LV} (x0 : Value) (x1 : Int32) (x2 : Value) (h : am_H) (o : am_O) (l0 : lv.lookup 0 = some x0) (l1 : lv.lookup 1 = some (.int x1)) (l2 : lv.lookup 2 = some x2) (i0 : am_isR x0 = true) (i2 : am_isR x2 = true) (hs : fg_30_0 N x0 x1 x2 h = some o) : am_W X (d + 163) 30 0 lv [] h (fun q => q = o) := by
  unfold fg_30_0 at hs
  refine aw_vload_n (pc1 := 1) at_30_0 l2 i2 rfl ?_
  refine aw_iconst (v := 0) (pc1 := 2) at_30_1 (by decide) rfl ?_
  refine aw_vload_n (pc1 := 3) at_30_2 l0 i0 rfl ?_
  refine aw_iload_n (pc1 := 4) at_30_3 l1 rfl ?_
  obtain ⟨z1, hs1⟩ := am_ift hs
  clear hs
  refine aw_callH (F := fm_31 N x0 x1 h) (na := 2) (kd := 1) (as := [x0, (.int x1)]) at_30_4 (am_k3v kb_31) mn_31 mk_31 rfl rfl (am_ok_v mi_31 (am_hl rfl (am_ccR i0 (am_ccI am_cats_0)) rfl) z1) (am_hc (am_ccI (am_ccR i2 am_cats_0)) rfl) (fun o1 hz9 => rm_31 x0 x1 h o1 i0 hz9) ?_
  split at hs1
  · rename_i v2 h3 f4
    refine Or.inl ⟨_, _, f4, ?_⟩
    show am_W X _ 30 7 _ [(.int v2), (.int 0), x2] h3 _
    refine aw_i2l (v := (Int32.toInt64 v2)) (pc1 := 8) at_30_7 rfl rfl ?_
    obtain ⟨h5, e6, hs2⟩ := am_bind hs1
    clear hs1
    refine aw_pSL (pc1 := 9) at_30_8 e6 rfl ?_
    refine aw_goto at_30_9 ?_
    refine aw_iconst (v := 0) (pc1 := 19) at_30_18 (by decide) rfl ?_
    cases hs2
    exact aw_iret at_30_19 (by rw [rt_30]; rfl) rfl
  · rename_i h7 f8
    refine Or.inr ⟨_, _, 13, 3, f8, rfl, hn_30, hd_30_4_0, ?_⟩
    exact rg_30_13 h7 o   hs1
  · rename_i h9 f10
    refine Or.inr ⟨_, _, 16, 3, f10, rfl, hn_30, hd_30_4_1, ?_⟩
    exact rg_30_16 h9 o   hs1
  · cases hs1
def fm_30 (N : Nat) (y0 : Value) (y1 : Int32) (y2 : Value) (h : am_H) : Option am_O := fg_30_0 N y0 y1 y2 h
theorem rm_30 {X : am_X} {d : Nat} {N : Nat} (y0 : Value) (y1 : Int32) (y2 : Value) (h : am_H) (o : am_O) (i0 : am_isR y0 = true) (i2 : am_isR y2 = true) (hs : fm_30 N y0 y1 y2 h = some o) : am_W X (d + 163) 30 0 (am_args 0 [y0, .int y1, y2]) [] h (fun q => q = o) := by
  rw [am_args_R i0, am_args_I, am_args_R i2]
  exact rg_30_0 y0 y1 y2 h o rfl rfl rfl i0 i2 hs
def fg_327_18 (s0 : Int32) (h : am_H) : Option am_O := (if am_rfit (some FieldType.boolean) s0 then some (.inl (some (.int s0), h)) else none)
theorem rg_327_18 {X : am_X} {d : Nat} {lv : am_LV} (s0 : Int32) (h : am_H) (o : am_O) (hs : fg_327_18 s0 h = some o) : am_W X (d) 327 18 lv [(.int s0)] h (fun q => q = o) := by
  unfold fg_327_18 at hs
  obtain ⟨z1, hs1⟩ := am_ift hs
  clear hs
  cases hs1
  exact aw_iret at_327_18 (by rw [rt_327]; exact z1) rfl
def fg_327_17 (h : am_H) : Option am_O := (fg_327_18 0 h)
theorem rg_327_17 {X : am_X} {d : Nat} {lv : am_LV} (h : am_H) (o : am_O) (hs : fg_327_17 h = some o) : am_W X (d) 327 17 lv [] h (fun q => q = o) := by
  unfold fg_327_17 at hs
  refine aw_iconst (v := 0) (pc1 := 18) at_327_17 (by decide) rfl ?_
  exact rg_327_18 0 h o   hs
def fg_327_0 (x0 : Int64) (x2 : Int64) (x4 : Int64) (h : am_H) : Option am_O := (if (lg_cmp x0 x2) < 0 then (fg_327_17 h) else (if 0 < (lg_cmp x0 x4) then (fg_327_17 h) else (fg_327_18 1 h)))
theorem rg_327_0 {X : am_X} {d : Nat} {lv : am_LV} (x0 : Int64) (x2 : Int64) (x4 : Int64) (h : am_H) (o : am_O) (l0 : lv.lookup 0 = some (.long x0)) (l2 : lv.lookup 2 = some (.long x2)) (l4 : lv.lookup 4 = some (.long x4)) (hs : fg_327_0 x0 x2 x4 h = some o) : am_W X (d) 327 0 lv [] h (fun q => q = o) := by
  unfold fg_327_0 at hs
  refine aw_lload_n (pc1 := 1) at_327_0 l0 rfl ?_
  refine aw_lload_n (pc1 := 2) at_327_1 l2 rfl ?_
  refine aw_lcmp (v := (lg_cmp x0 x2)) (pc1 := 3) at_327_2 rfl rfl ?_
  by_cases c1 : (lg_cmp x0 x2) < 0
  · rw [if_pos c1] at hs
    refine aw_iflt_t at_327_3 c1 ?_
    exact rg_327_17 h o   hs
  · rw [if_neg c1] at hs
    refine aw_iflt_f (pc1 := 6) at_327_3 c1 rfl ?_
    refine aw_lload_n (pc1 := 7) at_327_6 l0 rfl ?_
    refine aw_lload (pc1 := 9) at_327_7 l4 rfl ?_
    refine aw_lcmp (v := (lg_cmp x0 x4)) (pc1 := 10) at_327_9 rfl rfl ?_
    by_cases c2 : 0 < (lg_cmp x0 x4)
    · rw [if_pos c2] at hs
      refine aw_ifgt_t at_327_10 c2 ?_
      exact rg_327_17 h o   hs
    · rw [if_neg c2] at hs
      refine aw_ifgt_f (pc1 := 13) at_327_10 c2 rfl ?_
      refine aw_iconst (v := 1) (pc1 := 14) at_327_13 (by decide) rfl ?_
      refine aw_goto at_327_14 ?_
      exact rg_327_18 1 h o   hs
def fm_327 (y0 : Int64) (y1 : Int64) (y2 : Int64) (h : am_H) : Option am_O := fg_327_0 y0 y1 y2 h
theorem rm_327 {X : am_X} {d : Nat} (y0 : Int64) (y1 : Int64) (y2 : Int64) (h : am_H) (o : am_O) (hs : fm_327 y0 y1 y2 h = some o) : am_W X (d) 327 0 (am_args 0 [.long y0, .long y1, .long y2]) [] h (fun q => q = o) := by
  rw [am_args_L, am_args_L, am_args_L]
  exact rg_327_0 y0 y1 y2 h o rfl rfl rfl  hs
def fg_330_33 (s0 : Int32) (h : am_H) : Option am_O := (if am_rfit (some FieldType.boolean) s0 then some (.inl (some (.int s0), h)) else none)
theorem rg_330_33 {X : am_X} {d : Nat} {lv : am_LV} (s0 : Int32) (h : am_H) (o : am_O) (hs : fg_330_33 s0 h = some o) : am_W X (d) 330 33 lv [(.int s0)] h (fun q => q = o) := by
  unfold fg_330_33 at hs
  obtain ⟨z1, hs1⟩ := am_ift hs
  clear hs
  cases hs1
  exact aw_iret at_330_33 (by rw [rt_330]; exact z1) rfl
def fg_330_32 (h : am_H) : Option am_O := (fg_330_33 0 h)
theorem rg_330_32 {X : am_X} {d : Nat} {lv : am_LV} (h : am_H) (o : am_O) (hs : fg_330_32 h = some o) : am_W X (d) 330 32 lv [] h (fun q => q = o) := by
  unfold fg_330_32 at hs
  refine aw_iconst (v := 0) (pc1 := 33) at_330_32 (by decide) rfl ?_
  exact rg_330_33 0 h o   hs
def fg_330_28 (h : am_H) : Option am_O := (fg_330_33 1 h)
theorem rg_330_28 {X : am_X} {d : Nat} {lv : am_LV} (h : am_H) (o : am_O) (hs : fg_330_28 h = some o) : am_W X (d) 330 28 lv [] h (fun q => q = o) := by
  unfold fg_330_28 at hs
  refine aw_iconst (v := 1) (pc1 := 29) at_330_28 (by decide) rfl ?_
  refine aw_goto at_330_29 ?_
  exact rg_330_33 1 h o   hs
def fg_330_0 (x0 : Int32) (x1 : Int32) (h : am_H) : Option am_O := (if x0 = 9 then (fg_330_28 h) else (if x0 = 17 then (fg_330_28 h) else (if x0 = 18 then (fg_330_28 h) else (if ¬ x0 = 20 then (fg_330_32 h) else (if ¬ x1 = 0 then (fg_330_32 h) else (fg_330_28 h))))))
theorem rg_330_0 {X : am_X} {d : Nat} {lv : am_LV} (x0 : Int32) (x1 : Int32) (h : am_H) (o : am_O) (l0 : lv.lookup 0 = some (.int x0)) (l1 : lv.lookup 1 = some (.int x1)) (hs : fg_330_0 x0 x1 h = some o) : am_W X (d) 330 0 lv [] h (fun q => q = o) := by
  unfold fg_330_0 at hs
  refine aw_iload_n (pc1 := 1) at_330_0 l0 rfl ?_
  refine aw_bipush (v := 9) (pc1 := 3) at_330_1 (by decide) rfl ?_
  by_cases c1 : x0 = 9
  · rw [if_pos c1] at hs
    refine aw_iceq_t at_330_3 c1 ?_
    exact rg_330_28 h o   hs
  · rw [if_neg c1] at hs
    refine aw_iceq_f (pc1 := 6) at_330_3 c1 rfl ?_
    refine aw_iload_n (pc1 := 7) at_330_6 l0 rfl ?_
    refine aw_bipush (v := 17) (pc1 := 9) at_330_7 (by decide) rfl ?_
    by_cases c2 : x0 = 17
    · rw [if_pos c2] at hs
      refine aw_iceq_t at_330_9 c2 ?_
      exact rg_330_28 h o   hs
    · rw [if_neg c2] at hs
      refine aw_iceq_f (pc1 := 12) at_330_9 c2 rfl ?_
      refine aw_iload_n (pc1 := 13) at_330_12 l0 rfl ?_
      refine aw_bipush (v := 18) (pc1 := 15) at_330_13 (by decide) rfl ?_
      by_cases c3 : x0 = 18
      · rw [if_pos c3] at hs
        refine aw_iceq_t at_330_15 c3 ?_
        exact rg_330_28 h o   hs
      · rw [if_neg c3] at hs
        refine aw_iceq_f (pc1 := 18) at_330_15 c3 rfl ?_
        refine aw_iload_n (pc1 := 19) at_330_18 l0 rfl ?_
        refine aw_bipush (v := 20) (pc1 := 21) at_330_19 (by decide) rfl ?_
        by_cases c4 : ¬ x0 = 20
        · rw [if_pos c4] at hs
          refine aw_icne_t at_330_21 c4 ?_
          exact rg_330_32 h o   hs
        · rw [if_neg c4] at hs
          refine aw_icne_f (pc1 := 24) at_330_21 c4 rfl ?_
          refine aw_iload_n (pc1 := 25) at_330_24 l1 rfl ?_
          by_cases c5 : ¬ x1 = 0
          · rw [if_pos c5] at hs
            refine aw_ifne_t at_330_25 c5 ?_
            exact rg_330_32 h o   hs
          · rw [if_neg c5] at hs
            refine aw_ifne_f (pc1 := 28) at_330_25 c5 rfl ?_
            exact rg_330_28 h o   hs
def fm_330 (y0 : Int32) (y1 : Int32) (h : am_H) : Option am_O := fg_330_0 y0 y1 h
theorem rm_330 {X : am_X} {d : Nat} (y0 : Int32) (y1 : Int32) (h : am_H) (o : am_O) (hs : fm_330 y0 y1 h = some o) : am_W X (d) 330 0 (am_args 0 [.int y0, .int y1]) [] h (fun q => q = o) := by
  rw [am_args_I, am_args_I]
  exact rg_330_0 y0 y1 h o rfl rfl  hs
def fg_331_16 (s0 : Value) (s1 : Int32) (h : am_H) : Option am_O := ((am_pP 3142 s0 (.int s1) h).bind fun h1 => some (.inl (some (.int 0), h1)))
theorem rg_331_16 {X : am_X} {d : Nat} {lv : am_LV} (s0 : Value) (s1 : Int32) (h : am_H) (o : am_O) (j0 : am_isR s0 = true) (hs : fg_331_16 s0 s1 h = some o) : am_W X (d) 331 16 lv [(.int s1), s0] h (fun q => q = o) := by
  unfold fg_331_16 at hs
  obtain ⟨h1, e2, hs1⟩ := am_bind hs
  clear hs
  refine aw_pP (pc1 := 19) at_331_16 e2 rfl ?_
  refine aw_iconst (v := 0) (pc1 := 20) at_331_19 (by decide) rfl ?_
  cases hs1
  exact aw_iret at_331_20 (by rw [rt_331]; decide) rfl
def fg_331_0 (x0 : Value) (x1 : Int32) (h : am_H) : Option am_O := ((am_vI (am_pG 3142 x0 h)).bind fun v1 => (if 0 ≤ v1 then ((am_vI (am_pG 3142 x0 h)).bind fun v4 => (fg_331_16 x0 v4 h)) else (fg_331_16 x0 x1 h)))
theorem rg_331_0 {X : am_X} {d : Nat} {lv : am_LV} (x0 : Value) (x1 : Int32) (h : am_H) (o : am_O) (l0 : lv.lookup 0 = some x0) (l1 : lv.lookup 1 = some (.int x1)) (i0 : am_isR x0 = true) (hs : fg_331_0 x0 x1 h = some o) : am_W X (d) 331 0 lv [] h (fun q => q = o) := by
  unfold fg_331_0 at hs
  refine aw_vload_n (pc1 := 1) at_331_0 l0 i0 rfl ?_
  refine aw_vload_n (pc1 := 2) at_331_1 l0 i0 rfl ?_
  obtain ⟨v1, e2, hs1⟩ := am_bind hs
  clear hs
  refine aw_pG (pc1 := 5) at_331_2 (am_vI_s e2) rfl ?_
  by_cases c3 : 0 ≤ v1
  · rw [if_pos c3] at hs1
    refine aw_ifge_t at_331_5 c3 ?_
    refine aw_vload_n (pc1 := 13) at_331_12 l0 i0 rfl ?_
    obtain ⟨v4, e5, hs2⟩ := am_bind hs1
    clear hs1
    refine aw_pG (pc1 := 16) at_331_13 (am_vI_s e5) rfl ?_
    exact rg_331_16 x0 v4 h o  i0 hs2
  · rw [if_neg c3] at hs1
    refine aw_ifge_f (pc1 := 8) at_331_5 c3 rfl ?_
    refine aw_iload_n (pc1 := 9) at_331_8 l1 rfl ?_
    refine aw_goto at_331_9 ?_
    exact rg_331_16 x0 x1 h o  i0 hs1
def fm_331 (y0 : Value) (y1 : Int32) (h : am_H) : Option am_O := fg_331_0 y0 y1 h
theorem rm_331 {X : am_X} {d : Nat} (y0 : Value) (y1 : Int32) (h : am_H) (o : am_O) (i0 : am_isR y0 = true) (hs : fm_331 y0 y1 h = some o) : am_W X (d) 331 0 (am_args 0 [y0, .int y1]) [] h (fun q => q = o) := by
  rw [am_args_R i0, am_args_I]
  exact rg_331_0 y0 y1 h o rfl rfl i0 hs
def fg_332_18 (s0 : Int32) (h : am_H) : Option am_O := some (.inl (some (.int s0), h))
theorem rg_332_18 {X : am_X} {d : Nat} {lv : am_LV} (s0 : Int32) (h : am_H) (o : am_O) (hs : fg_332_18 s0 h = some o) : am_W X (d) 332 18 lv [(.int s0)] h (fun q => q = o) := by
  unfold fg_332_18 at hs
  cases hs
  exact aw_iret at_332_18 (by rw [rt_332]; rfl) rfl
def fg_332_0 (x0 : Value) (x1 : Int32) (h : am_H) : Option am_O := ((am_vI (am_pG 3140 x0 h)).bind fun v1 => (if v1 ≤ x1 then (fg_332_18 ((-1)) h) else ((am_vR (am_pG 3139 x0 h)).bind fun v4 => ((am_pA 0 v4 x1 h).bind fun v6 => (fg_332_18 v6 h)))))
theorem rg_332_0 {X : am_X} {d : Nat} {lv : am_LV} (x0 : Value) (x1 : Int32) (h : am_H) (o : am_O) (l0 : lv.lookup 0 = some x0) (l1 : lv.lookup 1 = some (.int x1)) (i0 : am_isR x0 = true) (hs : fg_332_0 x0 x1 h = some o) : am_W X (d) 332 0 lv [] h (fun q => q = o) := by
  unfold fg_332_0 at hs
  refine aw_iload_n (pc1 := 1) at_332_0 l1 rfl ?_
  refine aw_vload_n (pc1 := 2) at_332_1 l0 i0 rfl ?_
  obtain ⟨v1, e2, hs1⟩ := am_bind hs
  clear hs
  refine aw_pG (pc1 := 5) at_332_2 (am_vI_s e2) rfl ?_
  by_cases c3 : v1 ≤ x1
  · rw [if_pos c3] at hs1
    refine aw_icge_t at_332_5 c3 ?_
    refine aw_iconst (v := (-1)) (pc1 := 18) at_332_17 (by decide) rfl ?_
    exact rg_332_18 ((-1)) h o   hs1
  · rw [if_neg c3] at hs1
    refine aw_icge_f (pc1 := 8) at_332_5 c3 rfl ?_
    refine aw_vload_n (pc1 := 9) at_332_8 l0 i0 rfl ?_
    obtain ⟨v4, e5, hs2⟩ := am_bind hs1
    clear hs1
    refine aw_pG (pc1 := 12) at_332_9 (am_vR_s e5).1 rfl ?_
    refine aw_iload_n (pc1 := 13) at_332_12 l1 rfl ?_
    obtain ⟨v6, e7, hs3⟩ := am_bind hs2
    clear hs2
    refine aw_pA (pc1 := 14) at_332_13 (Or.inl ⟨rfl, rfl⟩) e7 rfl ?_
    refine aw_goto at_332_14 ?_
    exact rg_332_18 v6 h o   hs3
def fm_332 (y0 : Value) (y1 : Int32) (h : am_H) : Option am_O := fg_332_0 y0 y1 h
theorem rm_332 {X : am_X} {d : Nat} (y0 : Value) (y1 : Int32) (h : am_H) (o : am_O) (i0 : am_isR y0 = true) (hs : fm_332 y0 y1 h = some o) : am_W X (d) 332 0 (am_args 0 [y0, .int y1]) [] h (fun q => q = o) := by
  rw [am_args_R i0, am_args_I]
  exact rg_332_0 y0 y1 h o rfl rfl i0 hs
def fg_333_0 (x0 : Int32) (h : am_H) : Option am_O := (if x0 = 33 then some (.inl (some (.int 9), h)) else (if x0 = 35 then some (.inl (some (.int 8), h)) else (if x0 = 37 then some (.inl (some (.int 14), h)) else (if x0 = 38 then some (.inl (some (.int 17), h)) else (if x0 = 42 then some (.inl (some (.int 12), h)) else (if x0 = 43 then some (.inl (some (.int 10), h)) else (if x0 = 45 then some (.inl (some (.int 11), h)) else (if x0 = 47 then some (.inl (some (.int 13), h)) else (if x0 = 60 then some (.inl (some (.int 15), h)) else (if x0 = 61 then some (.inl (some (.int 16), h)) else (if x0 = 63 then some (.inl (some (.int 20), h)) else (if x0 = 64 then some (.inl (some (.int 19), h)) else (if x0 = 124 then some (.inl (some (.int 18), h)) else (if x0 = 126 then some (.inl (some (.int 7), h)) else some (.inl (some (.int (-1)), h))))))))))))))))
theorem rg_333_0 {X : am_X} {d : Nat} {lv : am_LV} (x0 : Int32) (h : am_H) (o : am_O) (l0 : lv.lookup 0 = some (.int x0)) (hs : fg_333_0 x0 h = some o) : am_W X (d) 333 0 lv [] h (fun q => q = o) := by
  unfold fg_333_0 at hs
  refine aw_iload_n (pc1 := 1) at_333_0 l0 rfl ?_
  by_cases c1 : x0 = 33
  · rw [if_pos c1] at hs
    refine aw_lsw (t := 130) at_333_1 (by rw [c1]; rfl) ?_
    refine aw_bipush (v := 9) (pc1 := 132) at_333_130 (by decide) rfl ?_
    cases hs
    exact aw_iret at_333_132 (by rw [rt_333]; rfl) rfl
  · rw [if_neg c1] at hs
    by_cases c2 : x0 = 35
    · rw [if_pos c2] at hs
      refine aw_lsw (t := 127) at_333_1 (by rw [c2]; rfl) ?_
      refine aw_bipush (v := 8) (pc1 := 129) at_333_127 (by decide) rfl ?_
      cases hs
      exact aw_iret at_333_129 (by rw [rt_333]; rfl) rfl
    · rw [if_neg c2] at hs
      by_cases c3 : x0 = 37
      · rw [if_pos c3] at hs
        refine aw_lsw (t := 145) at_333_1 (by rw [c3]; rfl) ?_
        refine aw_bipush (v := 14) (pc1 := 147) at_333_145 (by decide) rfl ?_
        cases hs
        exact aw_iret at_333_147 (by rw [rt_333]; rfl) rfl
      · rw [if_neg c3] at hs
        by_cases c4 : x0 = 38
        · rw [if_pos c4] at hs
          refine aw_lsw (t := 154) at_333_1 (by rw [c4]; rfl) ?_
          refine aw_bipush (v := 17) (pc1 := 156) at_333_154 (by decide) rfl ?_
          cases hs
          exact aw_iret at_333_156 (by rw [rt_333]; rfl) rfl
        · rw [if_neg c4] at hs
          by_cases c5 : x0 = 42
          · rw [if_pos c5] at hs
            refine aw_lsw (t := 139) at_333_1 (by rw [c5]; rfl) ?_
            refine aw_bipush (v := 12) (pc1 := 141) at_333_139 (by decide) rfl ?_
            cases hs
            exact aw_iret at_333_141 (by rw [rt_333]; rfl) rfl
          · rw [if_neg c5] at hs
            by_cases c6 : x0 = 43
            · rw [if_pos c6] at hs
              refine aw_lsw (t := 133) at_333_1 (by rw [c6]; rfl) ?_
              refine aw_bipush (v := 10) (pc1 := 135) at_333_133 (by decide) rfl ?_
              cases hs
              exact aw_iret at_333_135 (by rw [rt_333]; rfl) rfl
            · rw [if_neg c6] at hs
              by_cases c7 : x0 = 45
              · rw [if_pos c7] at hs
                refine aw_lsw (t := 136) at_333_1 (by rw [c7]; rfl) ?_
                refine aw_bipush (v := 11) (pc1 := 138) at_333_136 (by decide) rfl ?_
                cases hs
                exact aw_iret at_333_138 (by rw [rt_333]; rfl) rfl
              · rw [if_neg c7] at hs
                by_cases c8 : x0 = 47
                · rw [if_pos c8] at hs
                  refine aw_lsw (t := 142) at_333_1 (by rw [c8]; rfl) ?_
                  refine aw_bipush (v := 13) (pc1 := 144) at_333_142 (by decide) rfl ?_
                  cases hs
                  exact aw_iret at_333_144 (by rw [rt_333]; rfl) rfl
                · rw [if_neg c8] at hs
                  by_cases c9 : x0 = 60
                  · rw [if_pos c9] at hs
                    refine aw_lsw (t := 148) at_333_1 (by rw [c9]; rfl) ?_
                    refine aw_bipush (v := 15) (pc1 := 150) at_333_148 (by decide) rfl ?_
                    cases hs
                    exact aw_iret at_333_150 (by rw [rt_333]; rfl) rfl
                  · rw [if_neg c9] at hs
                    by_cases c10 : x0 = 61
                    · rw [if_pos c10] at hs
                      refine aw_lsw (t := 151) at_333_1 (by rw [c10]; rfl) ?_
                      refine aw_bipush (v := 16) (pc1 := 153) at_333_151 (by decide) rfl ?_
                      cases hs
                      exact aw_iret at_333_153 (by rw [rt_333]; rfl) rfl
                    · rw [if_neg c10] at hs
                      by_cases c11 : x0 = 63
                      · rw [if_pos c11] at hs
                        refine aw_lsw (t := 163) at_333_1 (by rw [c11]; rfl) ?_
                        refine aw_bipush (v := 20) (pc1 := 165) at_333_163 (by decide) rfl ?_
                        cases hs
                        exact aw_iret at_333_165 (by rw [rt_333]; rfl) rfl
                      · rw [if_neg c11] at hs
                        by_cases c12 : x0 = 64
                        · rw [if_pos c12] at hs
                          refine aw_lsw (t := 160) at_333_1 (by rw [c12]; rfl) ?_
                          refine aw_bipush (v := 19) (pc1 := 162) at_333_160 (by decide) rfl ?_
                          cases hs
                          exact aw_iret at_333_162 (by rw [rt_333]; rfl) rfl
                        · rw [if_neg c12] at hs
                          by_cases c13 : x0 = 124
                          · rw [if_pos c13] at hs
                            refine aw_lsw (t := 157) at_333_1 (by rw [c13]; rfl) ?_
                            refine aw_bipush (v := 18) (pc1 := 159) at_333_157 (by decide) rfl ?_
                            cases hs
                            exact aw_iret at_333_159 (by rw [rt_333]; rfl) rfl
                          · rw [if_neg c13] at hs
                            by_cases c14 : x0 = 126
                            · rw [if_pos c14] at hs
                              refine aw_lsw (t := 124) at_333_1 (by rw [c14]; rfl) ?_
                              refine aw_bipush (v := 7) (pc1 := 126) at_333_124 (by decide) rfl ?_
                              cases hs
                              exact aw_iret at_333_126 (by rw [rt_333]; rfl) rfl
                            · rw [if_neg c14] at hs
                              refine aw_lswD (l := [(33, 129), (35, 126), (37, 144), (38, 153), (42, 138), (43, 132), (45, 135), (47, 141), (60, 147), (61, 150), (63, 162), (64, 159), (124, 156), (126, 123)]) (off := 165) (t := 166) at_333_1 rfl (by rw [lv_osw (k := 33) c1 (by decide), lv_osw (k := 35) c2 (by decide), lv_osw (k := 37) c3 (by decide), lv_osw (k := 38) c4 (by decide), lv_osw (k := 42) c5 (by decide), lv_osw (k := 43) c6 (by decide), lv_osw (k := 45) c7 (by decide), lv_osw (k := 47) c8 (by decide), lv_osw (k := 60) c9 (by decide), lv_osw (k := 61) c10 (by decide), lv_osw (k := 63) c11 (by decide), lv_osw (k := 64) c12 (by decide), lv_osw (k := 124) c13 (by decide), lv_osw (k := 126) c14 (by decide)]; rfl) rfl ?_
                              refine aw_iconst (v := (-1)) (pc1 := 167) at_333_166 (by decide) rfl ?_
                              cases hs
                              exact aw_iret at_333_167 (by rw [rt_333]; rfl) rfl
def fm_333 (y0 : Int32) (h : am_H) : Option am_O := fg_333_0 y0 h
theorem rm_333 {X : am_X} {d : Nat} (y0 : Int32) (h : am_H) (o : am_O) (hs : fm_333 y0 h = some o) : am_W X (d) 333 0 (am_args 0 [.int y0]) [] h (fun q => q = o) := by
  rw [am_args_I]
  exact rg_333_0 y0 h o rfl  hs
