/-! ===== methods as functions ===== -/
def fg_230_26 (N : Nat) (rec_4 : Value → Int32 → Int32 → am_H → Option am_O) (x0 : Value) (x2 : Int32) (s0 : Int32) (h : am_H) : Option am_O := (rec_4 x0 s0 ((x2 + 1)) h)
theorem rg_230_26 {X : am_X} {d : Nat} {N : Nat} {rec_4 : Value → Int32 → Int32 → am_H → Option am_O} (q_4 : ∀ (x0 : Value) (x1 : Int32) (x2 : Int32) (h : am_H) (o : am_O), rec_4 x0 x1 x2 h = some o → ∀ lv : am_LV, (lv.lookup 0 = some x0) → (lv.lookup 1 = some (.int x1)) → (lv.lookup 2 = some (.int x2)) → (am_isR x0 = true) → am_W X (d + 1) 230 4 lv [] h (fun q => q = o)) {lv : am_LV} (x0 : Value) (x2 : Int32) (s0 : Int32) (h : am_H) (o : am_O) (l0 : lv.lookup 0 = some x0) (l2 : lv.lookup 2 = some (.int x2)) (i0 : am_isR x0 = true) (hs : fg_230_26 N rec_4 x0 x2 s0 h = some o) : am_W X (d + 1) 230 26 lv [(.int s0)] h (fun q => q = o) := by
  unfold fg_230_26 at hs
  refine aw_istore_n (lv1 := am_put1 _ 1 _) (pc1 := 27) at_230_26 rfl rfl ?_
  refine aw_iinc (v := (x2 + 1)) (c := 1) (lv1 := am_put1 _ 2 _) (pc1 := 30) at_230_27 (am_lk1 l2 rfl rfl) (by decide) rfl rfl rfl ?_
  refine aw_goto at_230_30 ?_
  exact q_4 x0 s0 ((x2 + 1)) h o hs _ (am_lk1 (am_lk1 l0 rfl (by rw [am_isRc i0]; rfl)) rfl rfl) (am_lk1 am_lk0 rfl rfl) am_lk0 i0
def fg_230_4 (N : Nat) : Nat → Value → Int32 → Int32 → am_H → Option am_O
  | 0 => fun _ _ _ _ => none
  | K + 1 => fun x0 x1 x2 h => ((am_vI (am_pG 256 x0 h)).bind fun v1 => (if v1 ≤ x2 then some (.inl (some (.int x1), h)) else (if am_pOk 1 x0 h then am_cI true (fm_221 x0 x2 x1 h) (fun v5 h6 => (if v5 = 0 then (fg_230_26 N (fg_230_4 N K) x0 x2 x1 h6) else (fg_230_26 N (fg_230_4 N K) x0 x2 x2 h6))) else none)))
theorem rg_230_4 {X : am_X} {d : Nat} {N : Nat} : ∀ (K : Nat) (x0 : Value) (x1 : Int32) (x2 : Int32) (h : am_H) (o : am_O), fg_230_4 N K x0 x1 x2 h = some o → ∀ lv : am_LV, (lv.lookup 0 = some x0) → (lv.lookup 1 = some (.int x1)) → (lv.lookup 2 = some (.int x2)) → (am_isR x0 = true) → am_W X (d + 1) 230 4 lv [] h (fun q => q = o) := by
  intro K
  induction K with
  | zero => intro x0 x1 x2 h o hs; cases hs
  | succ K ih =>
    intro x0 x1 x2 h o hs lv l0 l1 l2 i0
    unfold fg_230_4 at hs
    refine aw_iload_n (pc1 := 5) at_230_4 l2 rfl ?_
    refine aw_vload_n (pc1 := 6) at_230_5 l0 i0 rfl ?_
    obtain ⟨v1, e2, hs1⟩ := am_bind hs
    clear hs
    refine aw_pG (pc1 := 9) at_230_6 (am_vI_s e2) rfl ?_
    by_cases c3 : v1 ≤ x2
    · rw [if_pos c3] at hs1
      refine aw_icge_t at_230_9 c3 ?_
      refine aw_iload_n (pc1 := 34) at_230_33 l1 rfl ?_
      cases hs1
      exact aw_iret at_230_34 (by rw [rt_230]; rfl) rfl
    · rw [if_neg c3] at hs1
      refine aw_icge_f (pc1 := 12) at_230_9 c3 rfl ?_
      refine aw_vload_n (pc1 := 13) at_230_12 l0 i0 rfl ?_
      refine aw_iload_n (pc1 := 14) at_230_13 l2 rfl ?_
      refine aw_iload_n (pc1 := 15) at_230_14 l1 rfl ?_
      obtain ⟨z4, hs2⟩ := am_ift hs1
      clear hs1
      refine aw_call (F := fm_221 x0 x2 x1 h) (t := true) (na := 3) (kd := 1) (as := [x0, (.int x2), (.int x1)]) at_230_15 (am_k3v kb_221) mn_221 mk_221 rfl rfl (am_ok_v mi_221 (am_hl rfl (am_ccR i0 (am_ccI (am_ccI am_cats_0))) rfl) z4) (am_hc am_cats_0 rfl) (fun _ => ⟨rfl, hh_230⟩) (fun o1 hz9 => rm_221 x0 x2 x1 h o1 i0 hz9) ?_
      rcases am_cI_s hs2 with ⟨v5, h6, f7, hs3⟩ | hs3
      · clear hs2
        refine Or.inl ⟨_, _, f7, ?_⟩
        show am_W X _ 230 18 _ [(.int v5)] h6 _
        by_cases c8 : v5 = 0
        · rw [if_pos c8] at hs3
          refine aw_ifeq_t at_230_18 c8 ?_
          refine aw_iload_n (pc1 := 26) at_230_25 l1 rfl ?_
          exact rg_230_26 (fun z0 z1 z2 h o hs3 => ih z0 z1 z2 h o hs3) x0 x2 x1 h6 o l0 l2 i0 hs3
        · rw [if_neg c8] at hs3
          refine aw_ifeq_f (pc1 := 21) at_230_18 c8 rfl ?_
          refine aw_iload_n (pc1 := 22) at_230_21 l2 rfl ?_
          refine aw_goto at_230_22 ?_
          exact rg_230_26 (fun z0 z1 z2 h o hs3 => ih z0 z1 z2 h o hs3) x0 x2 x2 h6 o l0 l2 i0 hs3
      · clear hs2
        exact Or.inr hs3
def fg_230_0 (N : Nat) (x0 : Value) (h : am_H) : Option am_O := (fg_230_4 N N x0 0 1 h)
theorem rg_230_0 {X : am_X} {d : Nat} {N : Nat} {lv : am_LV} (x0 : Value) (h : am_H) (o : am_O) (l0 : lv.lookup 0 = some x0) (i0 : am_isR x0 = true) (hs : fg_230_0 N x0 h = some o) : am_W X (d + 1) 230 0 lv [] h (fun q => q = o) := by
  unfold fg_230_0 at hs
  refine aw_iconst (v := 0) (pc1 := 1) at_230_0 (by decide) rfl ?_
  refine aw_istore_n (lv1 := am_put1 _ 1 _) (pc1 := 2) at_230_1 rfl rfl ?_
  refine aw_iconst (v := 1) (pc1 := 3) at_230_2 (by decide) rfl ?_
  refine aw_istore_n (lv1 := am_put1 _ 2 _) (pc1 := 4) at_230_3 rfl rfl ?_
  exact rg_230_4 N x0 0 1 h o hs _ (am_lk1 (am_lk1 l0 rfl (by rw [am_isRc i0]; rfl)) rfl rfl) (am_lk1 am_lk0 rfl rfl) am_lk0 i0
def fm_230 (N : Nat) (y0 : Value) (h : am_H) : Option am_O := fg_230_0 N y0 h
theorem rm_230 {X : am_X} {d : Nat} {N : Nat} (y0 : Value) (h : am_H) (o : am_O) (i0 : am_isR y0 = true) (hs : fm_230 N y0 h = some o) : am_W X (d + 1) 230 0 (am_args 0 [y0]) [] h (fun q => q = o) := by
  rw [am_args_R i0]
  exact rg_230_0 y0 h o rfl i0 hs
def fg_216_77 (N : Nat) : Nat → Value → Int32 → Value → Int32 → Int32 → am_H → Option am_O
  | 0 => fun _ _ _ _ _ _ => none
  | K + 1 => fun x0 x2 x3 x4 x5 h => (if x2 ≤ x5 then ((am_vR (am_pG 2816 x0 h)).bind fun v2 => ((am_vR (am_pG 2819 x0 h)).bind fun v4 => (if am_pOk 1 x3 h then am_cV true (fm_218 N x3 v2 v4 h) (fun h8 => ((am_vR (am_pG 257 x3 h8)).bind fun v10 => (if am_pOk 1 x3 h8 then am_cI true (fm_230 N x3 h8) (fun v13 h14 => ((am_pA 0 v10 v13 h14).bind fun v16 => some (.inl (some (.int v16), h14)))) else none))) else none))) else (if am_pOk 11 x0 h then am_cV true (fm_217 N x0 x3 x4 h) (fun h20 => (fg_216_77 N K x0 x2 x3 x4 ((x5 + 1)) h20)) else none))
theorem rg_216_77 {X : am_X} {d : Nat} {N : Nat} : ∀ (K : Nat) (x0 : Value) (x2 : Int32) (x3 : Value) (x4 : Int32) (x5 : Int32) (h : am_H) (o : am_O), fg_216_77 N K x0 x2 x3 x4 x5 h = some o → ∀ lv : am_LV, (lv.lookup 0 = some x0) → (lv.lookup 2 = some (.int x2)) → (lv.lookup 3 = some x3) → (lv.lookup 4 = some (.int x4)) → (lv.lookup 5 = some (.int x5)) → (am_isR x0 = true) → (am_isR x3 = true) → am_W X (d + 125) 216 77 lv [] h (fun q => q = o) := by
  intro K
  induction K with
  | zero => intro x0 x2 x3 x4 x5 h o hs; cases hs
  | succ K ih =>
    intro x0 x2 x3 x4 x5 h o hs lv l0 l2 l3 l4 l5 i0 i3
    unfold fg_216_77 at hs
    refine aw_iload (pc1 := 79) at_216_77 l5 rfl ?_
    refine aw_iload_n (pc1 := 80) at_216_79 l2 rfl ?_
    by_cases c1 : x2 ≤ x5
    · rw [if_pos c1] at hs
      refine aw_icge_t at_216_80 c1 ?_
      refine aw_vload_n (pc1 := 97) at_216_96 l3 i3 rfl ?_
      refine aw_vload_n (pc1 := 98) at_216_97 l0 i0 rfl ?_
      obtain ⟨v2, e3, hs1⟩ := am_bind hs
      clear hs
      refine aw_pG (pc1 := 101) at_216_98 (am_vR_s e3).1 rfl ?_
      refine aw_vload_n (pc1 := 102) at_216_101 l0 i0 rfl ?_
      obtain ⟨v4, e5, hs2⟩ := am_bind hs1
      clear hs1
      refine aw_pG (pc1 := 105) at_216_102 (am_vR_s e5).1 rfl ?_
      obtain ⟨z6, hs3⟩ := am_ift hs2
      clear hs2
      refine aw_call (F := fm_218 N x3 v2 v4 h) (t := true) (na := 3) (kd := 1) (as := [x3, v2, v4]) at_216_105 (am_k3v kb_218) mn_218 mk_218 rfl rfl (am_ok_v mi_218 (am_hl rfl (am_ccR i3 (am_ccR (am_vR_s e3).2 (am_ccR (am_vR_s e5).2 am_cats_0))) rfl) z6) (am_hc am_cats_0 rfl) (fun _ => ⟨rfl, hh_216⟩) (fun o1 hz9 => rm_218 x3 v2 v4 h o1 i3 (am_vR_s e3).2 (am_vR_s e5).2 hz9) ?_
      rcases am_cV_s hs3 with ⟨h8, f9, hs4⟩ | hs4
      · clear hs3
        refine Or.inl ⟨_, _, f9, ?_⟩
        show am_W X _ 216 108 _ [] h8 _
        refine aw_vload_n (pc1 := 109) at_216_108 l3 i3 rfl ?_
        obtain ⟨v10, e11, hs5⟩ := am_bind hs4
        clear hs4
        refine aw_pG (pc1 := 112) at_216_109 (am_vR_s e11).1 rfl ?_
        refine aw_vload_n (pc1 := 113) at_216_112 l3 i3 rfl ?_
        obtain ⟨z12, hs6⟩ := am_ift hs5
        clear hs5
        refine aw_call (F := fm_230 N x3 h8) (t := true) (na := 1) (kd := 1) (as := [x3]) at_216_113 (am_k3v kb_230) mn_230 mk_230 rfl rfl (am_ok_v mi_230 (am_hl rfl (am_ccR i3 am_cats_0) rfl) z12) (am_hc (am_ccR (am_vR_s e11).2 am_cats_0) rfl) (fun _ => ⟨rfl, hh_216⟩) (fun o1 hz9 => rm_230 x3 h8 o1 i3 hz9) ?_
        rcases am_cI_s hs6 with ⟨v13, h14, f15, hs7⟩ | hs7
        · clear hs6
          refine Or.inl ⟨_, _, f15, ?_⟩
          show am_W X _ 216 116 _ [(.int v13), v10] h14 _
          obtain ⟨v16, e17, hs8⟩ := am_bind hs7
          clear hs7
          refine aw_pA (pc1 := 117) at_216_116 (Or.inl ⟨rfl, rfl⟩) e17 rfl ?_
          cases hs8
          exact aw_iret at_216_117 (by rw [rt_216]; rfl) rfl
        · clear hs6
          exact Or.inr hs7
      · clear hs3
        exact Or.inr hs4
    · rw [if_neg c1] at hs
      refine aw_icge_f (pc1 := 83) at_216_80 c1 rfl ?_
      refine aw_vload_n (pc1 := 84) at_216_83 l0 i0 rfl ?_
      refine aw_vload_n (pc1 := 85) at_216_84 l3 i3 rfl ?_
      refine aw_iload (pc1 := 87) at_216_85 l4 rfl ?_
      obtain ⟨z18, hs9⟩ := am_ift hs
      clear hs
      refine aw_call (F := fm_217 N x0 x3 x4 h) (t := true) (na := 3) (kd := 1) (as := [x0, x3, (.int x4)]) at_216_87 (am_k3v kb_217) mn_217 mk_217 rfl rfl (am_ok_v mi_217 (am_hl rfl (am_ccR i0 (am_ccR i3 (am_ccI am_cats_0))) rfl) z18) (am_hc am_cats_0 rfl) (fun _ => ⟨rfl, hh_216⟩) (fun o1 hz9 => rm_217 x0 x3 x4 h o1 i0 i3 hz9) ?_
      rcases am_cV_s hs9 with ⟨h20, f21, hs10⟩ | hs10
      · clear hs9
        refine Or.inl ⟨_, _, f21, ?_⟩
        show am_W X _ 216 90 _ [] h20 _
        refine aw_iinc (v := (x5 + 1)) (c := 1) (lv1 := am_put1 _ 5 _) (pc1 := 93) at_216_90 l5 (by decide) rfl rfl rfl ?_
        refine aw_goto at_216_93 ?_
        exact ih x0 x2 x3 x4 ((x5 + 1)) h20 o hs10 _ (am_lk1 l0 rfl rfl) (am_lk1 l2 rfl rfl) (am_lk1 l3 rfl rfl) (am_lk1 l4 rfl rfl) am_lk0 i0 i3
      · clear hs9
        exact Or.inr hs10
def fg_216_17 (N : Nat) (h : am_H) : Option am_O := some (.inr (0, h ++ [am_dummy]))
theorem rg_216_17 {X : am_X} {d : Nat} {N : Nat} {lv : am_LV} (h : am_H) (o : am_O) (hs : fg_216_17 N h = some o) : am_W X (d + 125) 216 17 lv [] h (fun q => q = o) := by
  unfold fg_216_17 at hs
  cases hs
  exact aw_throw at_216_17 rfl th_216_17 (am_hc am_cats_0 rfl) rfl
def fg_216_0 (N : Nat) (x0 : Value) (x1 : Int32) (x2 : Int32) (h : am_H) : Option am_O := (if am_pOk 11 x0 h then am_cR true (fm_201 x0 x1 h) (fun v2 h3 => (if x2 < 1 then (fg_216_17 N h3) else (if x2 ≤ 20 then ((am_vI (am_pG 256 v2 h3)).bind fun v7 => (if ¬ v7 = 0 then ((am_vR (am_pG 2820 x0 h3)).bind fun v10 => ((am_pA 0 v10 1 h3).bind fun v12 => ((am_vI (am_pG 256 v2 h3)).bind fun v14 => am_cI false (fm_38 v12 v14 h3) (fun v16 h17 => ((am_vI (am_pG 256 v2 h17)).bind fun v19 => (if am_pOk 11 x0 h17 then am_cV true (fm_32 x0 (((v19 - v16) * x2)) h17) (fun h23 => (fg_216_77 N N x0 x2 v2 v16 0 h23)) else none)))))) else some (.inr (1, h3 ++ [am_dummy])))) else (fg_216_17 N h3)))) else none)
theorem rg_216_0 {X : am_X} {d : Nat} {N : Nat} {lv : am_LV} (x0 : Value) (x1 : Int32) (x2 : Int32) (h : am_H) (o : am_O) (l0 : lv.lookup 0 = some x0) (l1 : lv.lookup 1 = some (.int x1)) (l2 : lv.lookup 2 = some (.int x2)) (i0 : am_isR x0 = true) (hs : fg_216_0 N x0 x1 x2 h = some o) : am_W X (d + 125) 216 0 lv [] h (fun q => q = o) := by
  unfold fg_216_0 at hs
  refine aw_vload_n (pc1 := 1) at_216_0 l0 i0 rfl ?_
  refine aw_iload_n (pc1 := 2) at_216_1 l1 rfl ?_
  obtain ⟨z1, hs1⟩ := am_ift hs
  clear hs
  refine aw_call (F := fm_201 x0 x1 h) (t := true) (na := 2) (kd := 1) (as := [x0, (.int x1)]) at_216_2 (am_k3v kb_201) mn_201 mk_201 rfl rfl (am_ok_v mi_201 (am_hl rfl (am_ccR i0 (am_ccI am_cats_0)) rfl) z1) (am_hc am_cats_0 rfl) (fun _ => ⟨rfl, hh_216⟩) (fun o1 hz9 => rm_201 x0 x1 h o1 i0 hz9) ?_
  rcases am_cR_s hs1 with ⟨v2, h3, f4, iv2, hs2⟩ | hs2
  · clear hs1
    refine Or.inl ⟨_, _, f4, ?_⟩
    show am_W X _ 216 5 _ [v2] h3 _
    refine aw_vstore_n (lv1 := am_put1 _ 3 _) (pc1 := 6) at_216_5 iv2 rfl rfl ?_
    refine aw_iload_n (pc1 := 7) at_216_6 (am_lk1 l2 rfl rfl) rfl ?_
    refine aw_iconst (v := 1) (pc1 := 8) at_216_7 (by decide) rfl ?_
    by_cases c5 : x2 < 1
    · rw [if_pos c5] at hs2
      refine aw_iclt_t at_216_8 c5 ?_
      exact rg_216_17 h3 o   hs2
    · rw [if_neg c5] at hs2
      refine aw_iclt_f (pc1 := 11) at_216_8 c5 rfl ?_
      refine aw_iload_n (pc1 := 12) at_216_11 (am_lk1 l2 rfl rfl) rfl ?_
      refine aw_bipush (v := 20) (pc1 := 14) at_216_12 (by decide) rfl ?_
      by_cases c6 : x2 ≤ 20
      · rw [if_pos c6] at hs2
        refine aw_icle_t at_216_14 c6 ?_
        refine aw_vload_n (pc1 := 29) at_216_28 am_lk0 iv2 rfl ?_
        obtain ⟨v7, e8, hs3⟩ := am_bind hs2
        clear hs2
        refine aw_pG (pc1 := 32) at_216_29 (am_vI_s e8) rfl ?_
        by_cases c9 : ¬ v7 = 0
        · rw [if_pos c9] at hs3
          refine aw_ifne_t at_216_32 c9 ?_
          refine aw_vload_n (pc1 := 47) at_216_46 (am_lk1 l0 rfl rfl) i0 rfl ?_
          obtain ⟨v10, e11, hs4⟩ := am_bind hs3
          clear hs3
          refine aw_pG (pc1 := 50) at_216_47 (am_vR_s e11).1 rfl ?_
          refine aw_iconst (v := 1) (pc1 := 51) at_216_50 (by decide) rfl ?_
          obtain ⟨v12, e13, hs5⟩ := am_bind hs4
          clear hs4
          refine aw_pA (pc1 := 52) at_216_51 (Or.inl ⟨rfl, rfl⟩) e13 rfl ?_
          refine aw_vload_n (pc1 := 53) at_216_52 am_lk0 iv2 rfl ?_
          obtain ⟨v14, e15, hs6⟩ := am_bind hs5
          clear hs5
          refine aw_pG (pc1 := 56) at_216_53 (am_vI_s e15) rfl ?_
          refine aw_call (F := fm_38 v12 v14 h3) (t := false) (na := 2) (kd := 0) (as := [(.int v12), (.int v14)]) at_216_56 (am_k3s kb_38) mn_38 mk_38 rfl rfl (am_ok_s mi_38 (am_hl rfl (am_ccI (am_ccI am_cats_0)) rfl)) (am_hc am_cats_0 rfl) (fun hz9 => by cases hz9) (fun o1 hz9 => rm_38 v12 v14 h3 o1  hz9) ?_
          rcases am_cI_s hs6 with ⟨v16, h17, f18, hs7⟩ | hs7
          · clear hs6
            refine Or.inl ⟨_, _, f18, ?_⟩
            show am_W X _ 216 59 _ [(.int v16)] h17 _
            refine aw_istore (lv1 := am_put1 _ 4 _) (pc1 := 61) at_216_59 rfl rfl ?_
            refine aw_vload_n (pc1 := 62) at_216_61 (am_lk1 (am_lk1 l0 rfl rfl) rfl rfl) i0 rfl ?_
            refine aw_vload_n (pc1 := 63) at_216_62 (am_lk1 am_lk0 rfl (by rw [am_isRc iv2]; rfl)) iv2 rfl ?_
            obtain ⟨v19, e20, hs8⟩ := am_bind hs7
            clear hs7
            refine aw_pG (pc1 := 66) at_216_63 (am_vI_s e20) rfl ?_
            refine aw_iload (pc1 := 68) at_216_66 am_lk0 rfl ?_
            refine aw_isub (v := (v19 - v16)) (pc1 := 69) at_216_68 rfl rfl ?_
            refine aw_iload_n (pc1 := 70) at_216_69 (am_lk1 (am_lk1 l2 rfl rfl) rfl rfl) rfl ?_
            refine aw_imul (v := ((v19 - v16) * x2)) (pc1 := 71) at_216_70 rfl rfl ?_
            obtain ⟨z21, hs9⟩ := am_ift hs8
            clear hs8
            refine aw_call (F := fm_32 x0 (((v19 - v16) * x2)) h17) (t := true) (na := 2) (kd := 1) (as := [x0, (.int ((v19 - v16) * x2))]) at_216_71 (am_k3v kb_32) mn_32 mk_32 rfl rfl (am_ok_v mi_32 (am_hl rfl (am_ccR i0 (am_ccI am_cats_0)) rfl) z21) (am_hc am_cats_0 rfl) (fun _ => ⟨rfl, hh_216⟩) (fun o1 hz9 => rm_32 x0 (((v19 - v16) * x2)) h17 o1 i0 hz9) ?_
            rcases am_cV_s hs9 with ⟨h23, f24, hs10⟩ | hs10
            · clear hs9
              refine Or.inl ⟨_, _, f24, ?_⟩
              show am_W X _ 216 74 _ [] h23 _
              refine aw_iconst (v := 0) (pc1 := 75) at_216_74 (by decide) rfl ?_
              refine aw_istore (lv1 := am_put1 _ 5 _) (pc1 := 77) at_216_75 rfl rfl ?_
              exact rg_216_77 N x0 x2 v2 v16 0 h23 o hs10 _ (am_lk1 (am_lk1 (am_lk1 l0 rfl rfl) rfl rfl) rfl rfl) (am_lk1 (am_lk1 (am_lk1 l2 rfl rfl) rfl rfl) rfl rfl) (am_lk1 (am_lk1 am_lk0 rfl (by rw [am_isRc iv2]; rfl)) rfl rfl) (am_lk1 am_lk0 rfl rfl) am_lk0 i0 iv2
            · clear hs9
              exact Or.inr hs10
          · clear hs6
            exact Or.inr hs7
        · rw [if_neg c9] at hs3
          refine aw_ifne_f (pc1 := 35) at_216_32 c9 rfl ?_
          cases hs3
          exact aw_throw at_216_35 rfl th_216_35 (am_hc am_cats_0 rfl) rfl
      · rw [if_neg c6] at hs2
        refine aw_icle_f (pc1 := 17) at_216_14 c6 rfl ?_
        exact rg_216_17 h3 o   hs2
  · clear hs1
    exact Or.inr hs2
def fm_216 (N : Nat) (y0 : Value) (y1 : Int32) (y2 : Int32) (h : am_H) : Option am_O := fg_216_0 N y0 y1 y2 h
theorem rm_216 {X : am_X} {d : Nat} {N : Nat} (y0 : Value) (y1 : Int32) (y2 : Int32) (h : am_H) (o : am_O) (i0 : am_isR y0 = true) (hs : fm_216 N y0 y1 y2 h = some o) : am_W X (d + 125) 216 0 (am_args 0 [y0, .int y1, .int y2]) [] h (fun q => q = o) := by
  rw [am_args_R i0, am_args_I, am_args_I]
  exact rg_216_0 y0 y1 y2 h o rfl rfl rfl i0 hs
def fg_215_23 (N : Nat) (h : am_H) : Option am_O := some (.inl (some (.int 3), h))
theorem rg_215_23 {X : am_X} {d : Nat} {N : Nat} {lv : am_LV} (h : am_H) (o : am_O) (hs : fg_215_23 N h = some o) : am_W X (d + 126) 215 23 lv [] h (fun q => q = o) := by
  unfold fg_215_23 at hs
  refine aw_iconst (v := 3) (pc1 := 24) at_215_23 (by decide) rfl ?_
  cases hs
  exact aw_iret at_215_24 (by rw [rt_215]; rfl) rfl
def fg_215_19 (N : Nat) (h : am_H) : Option am_O := some (.inl (some (.int 2), h))
theorem rg_215_19 {X : am_X} {d : Nat} {N : Nat} {lv : am_LV} (h : am_H) (o : am_O) (hs : fg_215_19 N h = some o) : am_W X (d + 126) 215 19 lv [] h (fun q => q = o) := by
  unfold fg_215_19 at hs
  refine aw_iconst (v := 2) (pc1 := 20) at_215_19 (by decide) rfl ?_
  cases hs
  exact aw_iret at_215_20 (by rw [rt_215]; rfl) rfl
def fg_215_15 (N : Nat) (h : am_H) : Option am_O := some (.inl (some (.int 1), h))
theorem rg_215_15 {X : am_X} {d : Nat} {N : Nat} {lv : am_LV} (h : am_H) (o : am_O) (hs : fg_215_15 N h = some o) : am_W X (d + 126) 215 15 lv [] h (fun q => q = o) := by
  unfold fg_215_15 at hs
  refine aw_iconst (v := 1) (pc1 := 16) at_215_15 (by decide) rfl ?_
  cases hs
  exact aw_iret at_215_16 (by rw [rt_215]; rfl) rfl
def fg_215_0 (N : Nat) (x0 : Value) (x1 : Int32) (x2 : Int32) (x3 : Value) (h : am_H) : Option am_O := (if am_pOk 11 x0 h then (match fm_216 N x0 x1 x2 h with | some (.inl (some (.int v2), h3)) => ((am_pSL x3 0 (Int32.toInt64 v2) h3).bind fun h5 => some (.inl (some (.int 0), h5))) | some (.inr (0, h7)) => (fg_215_19 N h7) | some (.inr (1, h9)) => (fg_215_23 N h9) | some (.inr (2, h11)) => (fg_215_15 N h11) | _ => none) else none)
theorem rg_215_0 {X : am_X} {d : Nat} {N : Nat} {lv : am_LV} (x0 : Value) (x1 : Int32) (x2 : Int32) (x3 : Value) (h : am_H) (o : am_O) (l0 : lv.lookup 0 = some x0) (l1 : lv.lookup 1 = some (.int x1)) (l2 : lv.lookup 2 = some (.int x2)) (l3 : lv.lookup 3 = some x3) (i0 : am_isR x0 = true) (i3 : am_isR x3 = true) (hs : fg_215_0 N x0 x1 x2 x3 h = some o) : am_W X (d + 126) 215 0 lv [] h (fun q => q = o) := by
  unfold fg_215_0 at hs
  refine aw_vload_n (pc1 := 1) at_215_0 l3 i3 rfl ?_
  refine aw_iconst (v := 0) (pc1 := 2) at_215_1 (by decide) rfl ?_
  refine aw_vload_n (pc1 := 3) at_215_2 l0 i0 rfl ?_
  refine aw_iload_n (pc1 := 4) at_215_3 l1 rfl ?_
  refine aw_iload_n (pc1 := 5) at_215_4 l2 rfl ?_
  obtain ⟨z1, hs1⟩ := am_ift hs
  clear hs
  refine aw_callH (F := fm_216 N x0 x1 x2 h) (na := 3) (kd := 1) (as := [x0, (.int x1), (.int x2)]) at_215_5 (am_k3v kb_216) mn_216 mk_216 rfl rfl (am_ok_v mi_216 (am_hl rfl (am_ccR i0 (am_ccI (am_ccI am_cats_0))) rfl) z1) (am_hc (am_ccI (am_ccR i3 am_cats_0)) rfl) (fun o1 hz9 => rm_216 x0 x1 x2 h o1 i0 hz9) ?_
  split at hs1
  · rename_i v2 h3 f4
    refine Or.inl ⟨_, _, f4, ?_⟩
    show am_W X _ 215 8 _ [(.int v2), (.int 0), x3] h3 _
    refine aw_i2l (v := (Int32.toInt64 v2)) (pc1 := 9) at_215_8 rfl rfl ?_
    obtain ⟨h5, e6, hs2⟩ := am_bind hs1
    clear hs1
    refine aw_pSL (pc1 := 10) at_215_9 e6 rfl ?_
    refine aw_goto at_215_10 ?_
    refine aw_iconst (v := 0) (pc1 := 26) at_215_25 (by decide) rfl ?_
    cases hs2
    exact aw_iret at_215_26 (by rw [rt_215]; rfl) rfl
  · rename_i h7 f8
    refine Or.inr ⟨_, _, 19, 4, f8, rfl, hn_215, hd_215_5_0, ?_⟩
    exact rg_215_19 h7 o   hs1
  · rename_i h9 f10
    refine Or.inr ⟨_, _, 23, 4, f10, rfl, hn_215, hd_215_5_1, ?_⟩
    exact rg_215_23 h9 o   hs1
  · rename_i h11 f12
    refine Or.inr ⟨_, _, 15, 4, f12, rfl, hn_215, hd_215_5_2, ?_⟩
    exact rg_215_15 h11 o   hs1
  · cases hs1
def fm_215 (N : Nat) (y0 : Value) (y1 : Int32) (y2 : Int32) (y3 : Value) (h : am_H) : Option am_O := fg_215_0 N y0 y1 y2 y3 h
theorem rm_215 {X : am_X} {d : Nat} {N : Nat} (y0 : Value) (y1 : Int32) (y2 : Int32) (y3 : Value) (h : am_H) (o : am_O) (i0 : am_isR y0 = true) (i3 : am_isR y3 = true) (hs : fm_215 N y0 y1 y2 y3 h = some o) : am_W X (d + 126) 215 0 (am_args 0 [y0, .int y1, .int y2, y3]) [] h (fun q => q = o) := by
  rw [am_args_R i0, am_args_I, am_args_I, am_args_R i3]
  exact rg_215_0 y0 y1 y2 y3 h o rfl rfl rfl rfl i0 i3 hs
def fg_503_30 (s0 : Int32) (h : am_H) : Option am_O := some (.inl (some (.int s0), h))
theorem rg_503_30 {X : am_X} {d : Nat} {lv : am_LV} (s0 : Int32) (h : am_H) (o : am_O) (hs : fg_503_30 s0 h = some o) : am_W X (d) 503 30 lv [(.int s0)] h (fun q => q = o) := by
  unfold fg_503_30 at hs
  cases hs
  exact aw_iret at_503_30 (by rw [rt_503]; rfl) rfl
def fg_503_0 (x0 : Value) (x1 : Int32) (h : am_H) : Option am_O := ((am_vR (am_pG 3114 x0 h)).bind fun v1 => ((am_pA 0 v1 1 h).bind fun v3 => ((am_vR (am_pG 3170 x0 h)).bind fun v5 => ((am_pA 0 v5 x1 h).bind fun v7 => (if v7 ≤ v3 then ((am_vR (am_pG 3170 x0 h)).bind fun v10 => ((am_pA 0 v10 x1 h).bind fun v12 => (fg_503_30 v12 h))) else ((am_vR (am_pG 3114 x0 h)).bind fun v14 => ((am_pA 0 v14 1 h).bind fun v16 => (fg_503_30 v16 h))))))))
theorem rg_503_0 {X : am_X} {d : Nat} {lv : am_LV} (x0 : Value) (x1 : Int32) (h : am_H) (o : am_O) (l0 : lv.lookup 0 = some x0) (l1 : lv.lookup 1 = some (.int x1)) (i0 : am_isR x0 = true) (hs : fg_503_0 x0 x1 h = some o) : am_W X (d) 503 0 lv [] h (fun q => q = o) := by
  unfold fg_503_0 at hs
  refine aw_vload_n (pc1 := 1) at_503_0 l0 i0 rfl ?_
  obtain ⟨v1, e2, hs1⟩ := am_bind hs
  clear hs
  refine aw_pG (pc1 := 4) at_503_1 (am_vR_s e2).1 rfl ?_
  refine aw_iconst (v := 1) (pc1 := 5) at_503_4 (by decide) rfl ?_
  obtain ⟨v3, e4, hs2⟩ := am_bind hs1
  clear hs1
  refine aw_pA (pc1 := 6) at_503_5 (Or.inl ⟨rfl, rfl⟩) e4 rfl ?_
  refine aw_vload_n (pc1 := 7) at_503_6 l0 i0 rfl ?_
  obtain ⟨v5, e6, hs3⟩ := am_bind hs2
  clear hs2
  refine aw_pG (pc1 := 10) at_503_7 (am_vR_s e6).1 rfl ?_
  refine aw_iload_n (pc1 := 11) at_503_10 l1 rfl ?_
  obtain ⟨v7, e8, hs4⟩ := am_bind hs3
  clear hs3
  refine aw_pA (pc1 := 12) at_503_11 (Or.inl ⟨rfl, rfl⟩) e8 rfl ?_
  by_cases c9 : v7 ≤ v3
  · rw [if_pos c9] at hs4
    refine aw_icge_t at_503_12 c9 ?_
    refine aw_vload_n (pc1 := 25) at_503_24 l0 i0 rfl ?_
    obtain ⟨v10, e11, hs5⟩ := am_bind hs4
    clear hs4
    refine aw_pG (pc1 := 28) at_503_25 (am_vR_s e11).1 rfl ?_
    refine aw_iload_n (pc1 := 29) at_503_28 l1 rfl ?_
    obtain ⟨v12, e13, hs6⟩ := am_bind hs5
    clear hs5
    refine aw_pA (pc1 := 30) at_503_29 (Or.inl ⟨rfl, rfl⟩) e13 rfl ?_
    exact rg_503_30 v12 h o   hs6
  · rw [if_neg c9] at hs4
    refine aw_icge_f (pc1 := 15) at_503_12 c9 rfl ?_
    refine aw_vload_n (pc1 := 16) at_503_15 l0 i0 rfl ?_
    obtain ⟨v14, e15, hs7⟩ := am_bind hs4
    clear hs4
    refine aw_pG (pc1 := 19) at_503_16 (am_vR_s e15).1 rfl ?_
    refine aw_iconst (v := 1) (pc1 := 20) at_503_19 (by decide) rfl ?_
    obtain ⟨v16, e17, hs8⟩ := am_bind hs7
    clear hs7
    refine aw_pA (pc1 := 21) at_503_20 (Or.inl ⟨rfl, rfl⟩) e17 rfl ?_
    refine aw_goto at_503_21 ?_
    exact rg_503_30 v16 h o   hs8
def fm_503 (y0 : Value) (y1 : Int32) (h : am_H) : Option am_O := fg_503_0 y0 y1 h
theorem rm_503 {X : am_X} {d : Nat} (y0 : Value) (y1 : Int32) (h : am_H) (o : am_O) (i0 : am_isR y0 = true) (hs : fm_503 y0 y1 h = some o) : am_W X (d) 503 0 (am_args 0 [y0, .int y1]) [] h (fun q => q = o) := by
  rw [am_args_R i0, am_args_I]
  exact rg_503_0 y0 y1 h o rfl rfl i0 hs
def fg_505_12 (N : Nat) : Nat → Value → Int32 → Int32 → am_H → Option am_O
  | 0 => fun _ _ _ _ => none
  | K + 1 => fun x0 x1 x2 h => ((am_vI (am_pG 3177 x0 h)).bind fun v1 => (if v1 ≤ x2 then some (.inl (none, h)) else ((am_vR (am_pG 3176 x0 h)).bind fun v4 => ((am_vR (am_pG 3171 x0 h)).bind fun v6 => ((am_pA 0 v6 ((16 * x1) + x2) h).bind fun v8 => ((am_pS 0 v4 x2 v8 h).bind fun h10 => ((am_vR (am_pG 3176 x0 h10)).bind fun v12 => ((am_pA 0 v12 x2 h10).bind fun v14 => (if am_pOk 12 x0 h10 then am_cV true (fm_359 N x0 v14 h10) (fun h18 => (if am_pOk 12 x0 h18 then am_cV true (fm_428 N x0 0 h18) (fun h22 => ((am_vR (am_pG 3173 x0 h22)).bind fun v24 => ((am_vL (am_pG 3163 x0 h22)).bind fun v26 => ((am_pSL v24 x2 v26 h22).bind fun h28 => ((am_vR (am_pG 3174 x0 h28)).bind fun v30 => ((am_vL (am_pG 3164 x0 h28)).bind fun v32 => ((am_pSL v30 x2 v32 h28).bind fun h34 => ((am_vR (am_pG 3175 x0 h34)).bind fun v36 => ((am_vI (am_pG 3086 x0 h34)).bind fun v38 => ((am_pS 0 v36 x2 v38 h34).bind fun h40 => (fg_505_12 N K x0 x1 ((x2 + 1)) h40))))))))))) else none)) else none)))))))))
theorem rg_505_12 {X : am_X} {d : Nat} {N : Nat} : ∀ (K : Nat) (x0 : Value) (x1 : Int32) (x2 : Int32) (h : am_H) (o : am_O), fg_505_12 N K x0 x1 x2 h = some o → ∀ lv : am_LV, (lv.lookup 0 = some x0) → (lv.lookup 1 = some (.int x1)) → (lv.lookup 2 = some (.int x2)) → (am_isR x0 = true) → am_W X (d + 8) 505 12 lv [] h (fun q => q = o) := by
  intro K
  induction K with
  | zero => intro x0 x1 x2 h o hs; cases hs
  | succ K ih =>
    intro x0 x1 x2 h o hs lv l0 l1 l2 i0
    unfold fg_505_12 at hs
    refine aw_iload_n (pc1 := 13) at_505_12 l2 rfl ?_
    refine aw_vload_n (pc1 := 14) at_505_13 l0 i0 rfl ?_
    obtain ⟨v1, e2, hs1⟩ := am_bind hs
    clear hs
    refine aw_pG (pc1 := 17) at_505_14 (am_vI_s e2) rfl ?_
    by_cases c3 : v1 ≤ x2
    · rw [if_pos c3] at hs1
      refine aw_icge_t at_505_17 c3 ?_
      cases hs1
      exact aw_vret at_505_88 rt_505 rfl
    · rw [if_neg c3] at hs1
      refine aw_icge_f (pc1 := 20) at_505_17 c3 rfl ?_
      refine aw_vload_n (pc1 := 21) at_505_20 l0 i0 rfl ?_
      obtain ⟨v4, e5, hs2⟩ := am_bind hs1
      clear hs1
      refine aw_pG (pc1 := 24) at_505_21 (am_vR_s e5).1 rfl ?_
      refine aw_iload_n (pc1 := 25) at_505_24 l2 rfl ?_
      refine aw_vload_n (pc1 := 26) at_505_25 l0 i0 rfl ?_
      obtain ⟨v6, e7, hs3⟩ := am_bind hs2
      clear hs2
      refine aw_pG (pc1 := 29) at_505_26 (am_vR_s e7).1 rfl ?_
      refine aw_bipush (v := 16) (pc1 := 31) at_505_29 (by decide) rfl ?_
      refine aw_iload_n (pc1 := 32) at_505_31 l1 rfl ?_
      refine aw_imul (v := (16 * x1)) (pc1 := 33) at_505_32 rfl rfl ?_
      refine aw_iload_n (pc1 := 34) at_505_33 l2 rfl ?_
      refine aw_iadd (v := ((16 * x1) + x2)) (pc1 := 35) at_505_34 rfl rfl ?_
      obtain ⟨v8, e9, hs4⟩ := am_bind hs3
      clear hs3
      refine aw_pA (pc1 := 36) at_505_35 (Or.inl ⟨rfl, rfl⟩) e9 rfl ?_
      obtain ⟨h10, e11, hs5⟩ := am_bind hs4
      clear hs4
      refine aw_pS (pc1 := 37) at_505_36 (Or.inl ⟨rfl, rfl⟩) e11 rfl ?_
      refine aw_vload_n (pc1 := 38) at_505_37 l0 i0 rfl ?_
      refine aw_vload_n (pc1 := 39) at_505_38 l0 i0 rfl ?_
      obtain ⟨v12, e13, hs6⟩ := am_bind hs5
      clear hs5
      refine aw_pG (pc1 := 42) at_505_39 (am_vR_s e13).1 rfl ?_
      refine aw_iload_n (pc1 := 43) at_505_42 l2 rfl ?_
      obtain ⟨v14, e15, hs7⟩ := am_bind hs6
      clear hs6
      refine aw_pA (pc1 := 44) at_505_43 (Or.inl ⟨rfl, rfl⟩) e15 rfl ?_
      obtain ⟨z16, hs8⟩ := am_ift hs7
      clear hs7
      refine aw_call (F := fm_359 N x0 v14 h10) (t := true) (na := 2) (kd := 1) (as := [x0, (.int v14)]) at_505_44 (am_k3v kb_359) mn_359 mk_359 rfl rfl (am_ok_v mi_359 (am_hl rfl (am_ccR i0 (am_ccI am_cats_0)) rfl) z16) (am_hc am_cats_0 rfl) (fun _ => ⟨rfl, hh_505⟩) (fun o1 hz9 => rm_359 x0 v14 h10 o1 i0 hz9) ?_
      rcases am_cV_s hs8 with ⟨h18, f19, hs9⟩ | hs9
      · clear hs8
        refine Or.inl ⟨_, _, f19, ?_⟩
        show am_W X _ 505 47 _ [] h18 _
        refine aw_vload_n (pc1 := 48) at_505_47 l0 i0 rfl ?_
        refine aw_iconst (v := 0) (pc1 := 49) at_505_48 (by decide) rfl ?_
        obtain ⟨z20, hs10⟩ := am_ift hs9
        clear hs9
        refine aw_call (F := fm_428 N x0 0 h18) (t := true) (na := 2) (kd := 1) (as := [x0, (.int 0)]) at_505_49 (am_k3v kb_428) mn_428 mk_428 rfl rfl (am_ok_v mi_428 (am_hl rfl (am_ccR i0 (am_ccI am_cats_0)) rfl) z20) (am_hc am_cats_0 rfl) (fun _ => ⟨rfl, hh_505⟩) (fun o1 hz9 => rm_428 x0 0 h18 o1 i0 hz9) ?_
        rcases am_cV_s hs10 with ⟨h22, f23, hs11⟩ | hs11
        · clear hs10
          refine Or.inl ⟨_, _, f23, ?_⟩
          show am_W X _ 505 52 _ [] h22 _
          refine aw_vload_n (pc1 := 53) at_505_52 l0 i0 rfl ?_
          obtain ⟨v24, e25, hs12⟩ := am_bind hs11
          clear hs11
          refine aw_pG (pc1 := 56) at_505_53 (am_vR_s e25).1 rfl ?_
          refine aw_iload_n (pc1 := 57) at_505_56 l2 rfl ?_
          refine aw_vload_n (pc1 := 58) at_505_57 l0 i0 rfl ?_
          obtain ⟨v26, e27, hs13⟩ := am_bind hs12
          clear hs12
          refine aw_pG (pc1 := 61) at_505_58 (am_vL_s e27) rfl ?_
          obtain ⟨h28, e29, hs14⟩ := am_bind hs13
          clear hs13
          refine aw_pSL (pc1 := 62) at_505_61 e29 rfl ?_
          refine aw_vload_n (pc1 := 63) at_505_62 l0 i0 rfl ?_
          obtain ⟨v30, e31, hs15⟩ := am_bind hs14
          clear hs14
          refine aw_pG (pc1 := 66) at_505_63 (am_vR_s e31).1 rfl ?_
          refine aw_iload_n (pc1 := 67) at_505_66 l2 rfl ?_
          refine aw_vload_n (pc1 := 68) at_505_67 l0 i0 rfl ?_
          obtain ⟨v32, e33, hs16⟩ := am_bind hs15
          clear hs15
          refine aw_pG (pc1 := 71) at_505_68 (am_vL_s e33) rfl ?_
          obtain ⟨h34, e35, hs17⟩ := am_bind hs16
          clear hs16
          refine aw_pSL (pc1 := 72) at_505_71 e35 rfl ?_
          refine aw_vload_n (pc1 := 73) at_505_72 l0 i0 rfl ?_
          obtain ⟨v36, e37, hs18⟩ := am_bind hs17
          clear hs17
          refine aw_pG (pc1 := 76) at_505_73 (am_vR_s e37).1 rfl ?_
          refine aw_iload_n (pc1 := 77) at_505_76 l2 rfl ?_
          refine aw_vload_n (pc1 := 78) at_505_77 l0 i0 rfl ?_
          obtain ⟨v38, e39, hs19⟩ := am_bind hs18
          clear hs18
          refine aw_pG (pc1 := 81) at_505_78 (am_vI_s e39) rfl ?_
          obtain ⟨h40, e41, hs20⟩ := am_bind hs19
          clear hs19
          refine aw_pS (pc1 := 82) at_505_81 (Or.inl ⟨rfl, rfl⟩) e41 rfl ?_
          refine aw_iinc (v := (x2 + 1)) (c := 1) (lv1 := am_put1 _ 2 _) (pc1 := 85) at_505_82 l2 (by decide) rfl rfl rfl ?_
          refine aw_goto at_505_85 ?_
          exact ih x0 x1 ((x2 + 1)) h40 o hs20 _ (am_lk1 l0 rfl rfl) (am_lk1 l1 rfl rfl) am_lk0 i0
        · clear hs10
          exact Or.inr hs11
      · clear hs8
        exact Or.inr hs9
def fg_505_0 (N : Nat) (x0 : Value) (x1 : Int32) (h : am_H) : Option am_O := ((am_vR (am_pG 3170 x0 h)).bind fun v1 => ((am_pA 0 v1 x1 h).bind fun v3 => ((am_pP 3177 x0 (.int v3) h).bind fun h5 => (fg_505_12 N N x0 x1 0 h5))))
theorem rg_505_0 {X : am_X} {d : Nat} {N : Nat} {lv : am_LV} (x0 : Value) (x1 : Int32) (h : am_H) (o : am_O) (l0 : lv.lookup 0 = some x0) (l1 : lv.lookup 1 = some (.int x1)) (i0 : am_isR x0 = true) (hs : fg_505_0 N x0 x1 h = some o) : am_W X (d + 8) 505 0 lv [] h (fun q => q = o) := by
  unfold fg_505_0 at hs
  refine aw_vload_n (pc1 := 1) at_505_0 l0 i0 rfl ?_
  refine aw_vload_n (pc1 := 2) at_505_1 l0 i0 rfl ?_
  obtain ⟨v1, e2, hs1⟩ := am_bind hs
  clear hs
  refine aw_pG (pc1 := 5) at_505_2 (am_vR_s e2).1 rfl ?_
  refine aw_iload_n (pc1 := 6) at_505_5 l1 rfl ?_
  obtain ⟨v3, e4, hs2⟩ := am_bind hs1
  clear hs1
  refine aw_pA (pc1 := 7) at_505_6 (Or.inl ⟨rfl, rfl⟩) e4 rfl ?_
  obtain ⟨h5, e6, hs3⟩ := am_bind hs2
  clear hs2
  refine aw_pP (pc1 := 10) at_505_7 e6 rfl ?_
  refine aw_iconst (v := 0) (pc1 := 11) at_505_10 (by decide) rfl ?_
  refine aw_istore_n (lv1 := am_put1 _ 2 _) (pc1 := 12) at_505_11 rfl rfl ?_
  exact rg_505_12 N x0 x1 0 h5 o hs3 _ (am_lk1 l0 rfl rfl) (am_lk1 l1 rfl rfl) am_lk0 i0
def fm_505 (N : Nat) (y0 : Value) (y1 : Int32) (h : am_H) : Option am_O := fg_505_0 N y0 y1 h
theorem rm_505 {X : am_X} {d : Nat} {N : Nat} (y0 : Value) (y1 : Int32) (h : am_H) (o : am_O) (i0 : am_isR y0 = true) (hs : fm_505 N y0 y1 h = some o) : am_W X (d + 8) 505 0 (am_args 0 [y0, .int y1]) [] h (fun q => q = o) := by
  rw [am_args_R i0, am_args_I]
  exact rg_505_0 y0 y1 h o rfl rfl i0 hs
def fg_506_95 (N : Nat) (rec_7 : Value → Int32 → am_H → Option am_O) (x0 : Value) (x1 : Int32) (h : am_H) : Option am_O := (rec_7 x0 ((x1 + 1)) h)
theorem rg_506_95 {X : am_X} {d : Nat} {N : Nat} {rec_7 : Value → Int32 → am_H → Option am_O} (q_7 : ∀ (x0 : Value) (x1 : Int32) (h : am_H) (o : am_O), rec_7 x0 x1 h = some o → ∀ lv : am_LV, (lv.lookup 0 = some x0) → (lv.lookup 1 = some (.int x1)) → (am_isR x0 = true) → am_W X (d + 7) 506 7 lv [] h (fun q => q = o)) {lv : am_LV} (x0 : Value) (x1 : Int32) (h : am_H) (o : am_O) (l0 : lv.lookup 0 = some x0) (l1 : lv.lookup 1 = some (.int x1)) (i0 : am_isR x0 = true) (hs : fg_506_95 N rec_7 x0 x1 h = some o) : am_W X (d + 7) 506 95 lv [] h (fun q => q = o) := by
  unfold fg_506_95 at hs
  refine aw_iinc (v := (x1 + 1)) (c := 1) (lv1 := am_put1 _ 1 _) (pc1 := 98) at_506_95 l1 (by decide) rfl rfl rfl ?_
  refine aw_goto at_506_98 ?_
  exact q_7 x0 ((x1 + 1)) h o hs _ (am_lk1 l0 rfl (by rw [am_isRc i0]; rfl)) am_lk0 i0
def fg_506_42 (N : Nat) (rec_7 : Value → Int32 → am_H → Option am_O) : Nat → Value → Int32 → Int32 → am_H → Option am_O
  | 0 => fun _ _ _ _ => none
  | K + 1 => fun x0 x1 x2 h => ((am_vI (am_pG 3177 x0 h)).bind fun v1 => (if v1 ≤ x2 then ((am_vI (am_pG 3180 x0 h)).bind fun v4 => ((am_pP 3180 x0 (.int (v4 + 1)) h).bind fun h6 => (fg_506_95 N rec_7 x0 x1 h6))) else ((am_vR (am_pG 3176 x0 h)).bind fun v8 => ((am_pA 0 v8 x2 h).bind fun v10 => (if am_pOk 12 x0 h then am_cV true (fm_359 N x0 v10 h) (fun h14 => ((am_vR (am_pG 3178 x0 h14)).bind fun v16 => ((am_vI (am_pG 3180 x0 h14)).bind fun v18 => (if am_pOk 12 x0 h14 then am_cL true (fm_425 N x0 x1 h14) (fun v21 h22 => ((am_pSL v16 ((24 * x2) + v18) v21 h22).bind fun h24 => (fg_506_42 N rec_7 K x0 x1 ((x2 + 1)) h24))) else none)))) else none)))))
theorem rg_506_42 {X : am_X} {d : Nat} {N : Nat} {rec_7 : Value → Int32 → am_H → Option am_O} (q_7 : ∀ (x0 : Value) (x1 : Int32) (h : am_H) (o : am_O), rec_7 x0 x1 h = some o → ∀ lv : am_LV, (lv.lookup 0 = some x0) → (lv.lookup 1 = some (.int x1)) → (am_isR x0 = true) → am_W X (d + 7) 506 7 lv [] h (fun q => q = o)) : ∀ (K : Nat) (x0 : Value) (x1 : Int32) (x2 : Int32) (h : am_H) (o : am_O), fg_506_42 N rec_7 K x0 x1 x2 h = some o → ∀ lv : am_LV, (lv.lookup 0 = some x0) → (lv.lookup 1 = some (.int x1)) → (lv.lookup 2 = some (.int x2)) → (am_isR x0 = true) → am_W X (d + 7) 506 42 lv [] h (fun q => q = o) := by
  intro K
  induction K with
  | zero => intro x0 x1 x2 h o hs; cases hs
  | succ K ih =>
    intro x0 x1 x2 h o hs lv l0 l1 l2 i0
    unfold fg_506_42 at hs
    refine aw_iload_n (pc1 := 43) at_506_42 l2 rfl ?_
    refine aw_vload_n (pc1 := 44) at_506_43 l0 i0 rfl ?_
    obtain ⟨v1, e2, hs1⟩ := am_bind hs
    clear hs
    refine aw_pG (pc1 := 47) at_506_44 (am_vI_s e2) rfl ?_
    by_cases c3 : v1 ≤ x2
    · rw [if_pos c3] at hs1
      refine aw_icge_t at_506_47 c3 ?_
      refine aw_vload_n (pc1 := 86) at_506_85 l0 i0 rfl ?_
      refine aw_vdup (pc1 := 87) at_506_86 i0 rfl ?_
      obtain ⟨v4, e5, hs2⟩ := am_bind hs1
      clear hs1
      refine aw_pG (pc1 := 90) at_506_87 (am_vI_s e5) rfl ?_
      refine aw_iconst (v := 1) (pc1 := 91) at_506_90 (by decide) rfl ?_
      refine aw_iadd (v := (v4 + 1)) (pc1 := 92) at_506_91 rfl rfl ?_
      obtain ⟨h6, e7, hs3⟩ := am_bind hs2
      clear hs2
      refine aw_pP (pc1 := 95) at_506_92 e7 rfl ?_
      exact rg_506_95 q_7 x0 x1 h6 o l0 l1 i0 hs3
    · rw [if_neg c3] at hs1
      refine aw_icge_f (pc1 := 50) at_506_47 c3 rfl ?_
      refine aw_vload_n (pc1 := 51) at_506_50 l0 i0 rfl ?_
      refine aw_vload_n (pc1 := 52) at_506_51 l0 i0 rfl ?_
      obtain ⟨v8, e9, hs4⟩ := am_bind hs1
      clear hs1
      refine aw_pG (pc1 := 55) at_506_52 (am_vR_s e9).1 rfl ?_
      refine aw_iload_n (pc1 := 56) at_506_55 l2 rfl ?_
      obtain ⟨v10, e11, hs5⟩ := am_bind hs4
      clear hs4
      refine aw_pA (pc1 := 57) at_506_56 (Or.inl ⟨rfl, rfl⟩) e11 rfl ?_
      obtain ⟨z12, hs6⟩ := am_ift hs5
      clear hs5
      refine aw_call (F := fm_359 N x0 v10 h) (t := true) (na := 2) (kd := 1) (as := [x0, (.int v10)]) at_506_57 (am_k3v kb_359) mn_359 mk_359 rfl rfl (am_ok_v mi_359 (am_hl rfl (am_ccR i0 (am_ccI am_cats_0)) rfl) z12) (am_hc am_cats_0 rfl) (fun _ => ⟨rfl, hh_506⟩) (fun o1 hz9 => rm_359 x0 v10 h o1 i0 hz9) ?_
      rcases am_cV_s hs6 with ⟨h14, f15, hs7⟩ | hs7
      · clear hs6
        refine Or.inl ⟨_, _, f15, ?_⟩
        show am_W X _ 506 60 _ [] h14 _
        refine aw_vload_n (pc1 := 61) at_506_60 l0 i0 rfl ?_
        obtain ⟨v16, e17, hs8⟩ := am_bind hs7
        clear hs7
        refine aw_pG (pc1 := 64) at_506_61 (am_vR_s e17).1 rfl ?_
        refine aw_bipush (v := 24) (pc1 := 66) at_506_64 (by decide) rfl ?_
        refine aw_iload_n (pc1 := 67) at_506_66 l2 rfl ?_
        refine aw_imul (v := (24 * x2)) (pc1 := 68) at_506_67 rfl rfl ?_
        refine aw_vload_n (pc1 := 69) at_506_68 l0 i0 rfl ?_
        obtain ⟨v18, e19, hs9⟩ := am_bind hs8
        clear hs8
        refine aw_pG (pc1 := 72) at_506_69 (am_vI_s e19) rfl ?_
        refine aw_iadd (v := ((24 * x2) + v18)) (pc1 := 73) at_506_72 rfl rfl ?_
        refine aw_vload_n (pc1 := 74) at_506_73 l0 i0 rfl ?_
        refine aw_iload_n (pc1 := 75) at_506_74 l1 rfl ?_
        obtain ⟨z20, hs10⟩ := am_ift hs9
        clear hs9
        refine aw_call (F := fm_425 N x0 x1 h14) (t := true) (na := 2) (kd := 1) (as := [x0, (.int x1)]) at_506_75 (am_k3v kb_425) mn_425 mk_425 rfl rfl (am_ok_v mi_425 (am_hl rfl (am_ccR i0 (am_ccI am_cats_0)) rfl) z20) (am_hc (am_ccI (am_ccR (am_vR_s e17).2 am_cats_0)) rfl) (fun _ => ⟨rfl, hh_506⟩) (fun o1 hz9 => rm_425 x0 x1 h14 o1 i0 hz9) ?_
        rcases am_cL_s hs10 with ⟨v21, h22, f23, hs11⟩ | hs11
        · clear hs10
          refine Or.inl ⟨_, _, f23, ?_⟩
          show am_W X _ 506 78 _ [(.long v21), (.int ((24 * x2) + v18)), v16] h22 _
          obtain ⟨h24, e25, hs12⟩ := am_bind hs11
          clear hs11
          refine aw_pSL (pc1 := 79) at_506_78 e25 rfl ?_
          refine aw_iinc (v := (x2 + 1)) (c := 1) (lv1 := am_put1 _ 2 _) (pc1 := 82) at_506_79 l2 (by decide) rfl rfl rfl ?_
          refine aw_goto at_506_82 ?_
          exact ih x0 x1 ((x2 + 1)) h24 o hs12 _ (am_lk1 l0 rfl rfl) (am_lk1 l1 rfl rfl) am_lk0 i0
        · clear hs10
          exact Or.inr hs11
      · clear hs6
        exact Or.inr hs7
def fg_506_7 (N : Nat) : Nat → Value → Int32 → am_H → Option am_O
  | 0 => fun _ _ _ => none
  | K + 1 => fun x0 x1 h => ((am_vI (am_pG 3103 x0 h)).bind fun v1 => (if v1 ≤ x1 then some (.inl (none, h)) else ((am_vR (am_pG 3109 x0 h)).bind fun v4 => ((am_pA 2 v4 x1 h).bind fun v6 => (if v6 = 0 then ((am_vR (am_pG 3179 x0 h)).bind fun v9 => ((am_vI (am_pG 3180 x0 h)).bind fun v11 => ((am_vI (am_pG 3180 x0 h)).bind fun v13 => ((am_pS 0 v9 v11 v13 h).bind fun h15 => (fg_506_42 N (fg_506_7 N K) N x0 x1 0 h15))))) else (fg_506_95 N (fg_506_7 N K) x0 x1 h))))))
theorem rg_506_7 {X : am_X} {d : Nat} {N : Nat} : ∀ (K : Nat) (x0 : Value) (x1 : Int32) (h : am_H) (o : am_O), fg_506_7 N K x0 x1 h = some o → ∀ lv : am_LV, (lv.lookup 0 = some x0) → (lv.lookup 1 = some (.int x1)) → (am_isR x0 = true) → am_W X (d + 7) 506 7 lv [] h (fun q => q = o) := by
  intro K
  induction K with
  | zero => intro x0 x1 h o hs; cases hs
  | succ K ih =>
    intro x0 x1 h o hs lv l0 l1 i0
    unfold fg_506_7 at hs
    refine aw_iload_n (pc1 := 8) at_506_7 l1 rfl ?_
    refine aw_vload_n (pc1 := 9) at_506_8 l0 i0 rfl ?_
    obtain ⟨v1, e2, hs1⟩ := am_bind hs
    clear hs
    refine aw_pG (pc1 := 12) at_506_9 (am_vI_s e2) rfl ?_
    by_cases c3 : v1 ≤ x1
    · rw [if_pos c3] at hs1
      refine aw_icge_t at_506_12 c3 ?_
      cases hs1
      exact aw_vret at_506_101 rt_506 rfl
    · rw [if_neg c3] at hs1
      refine aw_icge_f (pc1 := 15) at_506_12 c3 rfl ?_
      refine aw_vload_n (pc1 := 16) at_506_15 l0 i0 rfl ?_
      obtain ⟨v4, e5, hs2⟩ := am_bind hs1
      clear hs1
      refine aw_pG (pc1 := 19) at_506_16 (am_vR_s e5).1 rfl ?_
      refine aw_iload_n (pc1 := 20) at_506_19 l1 rfl ?_
      obtain ⟨v6, e7, hs3⟩ := am_bind hs2
      clear hs2
      refine aw_pA (pc1 := 21) at_506_20 (Or.inr (Or.inl ⟨rfl, rfl⟩)) e7 rfl ?_
      by_cases c8 : v6 = 0
      · rw [if_pos c8] at hs3
        refine aw_ifeq_t at_506_21 c8 ?_
        refine aw_vload_n (pc1 := 28) at_506_27 l0 i0 rfl ?_
        obtain ⟨v9, e10, hs4⟩ := am_bind hs3
        clear hs3
        refine aw_pG (pc1 := 31) at_506_28 (am_vR_s e10).1 rfl ?_
        refine aw_vload_n (pc1 := 32) at_506_31 l0 i0 rfl ?_
        obtain ⟨v11, e12, hs5⟩ := am_bind hs4
        clear hs4
        refine aw_pG (pc1 := 35) at_506_32 (am_vI_s e12) rfl ?_
        refine aw_vload_n (pc1 := 36) at_506_35 l0 i0 rfl ?_
        obtain ⟨v13, e14, hs6⟩ := am_bind hs5
        clear hs5
        refine aw_pG (pc1 := 39) at_506_36 (am_vI_s e14) rfl ?_
        obtain ⟨h15, e16, hs7⟩ := am_bind hs6
        clear hs6
        refine aw_pS (pc1 := 40) at_506_39 (Or.inl ⟨rfl, rfl⟩) e16 rfl ?_
        refine aw_iconst (v := 0) (pc1 := 41) at_506_40 (by decide) rfl ?_
        refine aw_istore_n (lv1 := am_put1 _ 2 _) (pc1 := 42) at_506_41 rfl rfl ?_
        exact rg_506_42 (fun z0 z1 h o hs7 => ih z0 z1 h o hs7) N x0 x1 0 h15 o hs7 _ (am_lk1 l0 rfl rfl) (am_lk1 l1 rfl rfl) am_lk0 i0
      · rw [if_neg c8] at hs3
        refine aw_ifeq_f (pc1 := 24) at_506_21 c8 rfl ?_
        refine aw_goto at_506_24 ?_
        exact rg_506_95 (fun z0 z1 h o hs3 => ih z0 z1 h o hs3) x0 x1 h o l0 l1 i0 hs3
def fg_506_0 (N : Nat) (x0 : Value) (h : am_H) : Option am_O := ((am_pP 3180 x0 (.int 0) h).bind fun h1 => (fg_506_7 N N x0 0 h1))
theorem rg_506_0 {X : am_X} {d : Nat} {N : Nat} {lv : am_LV} (x0 : Value) (h : am_H) (o : am_O) (l0 : lv.lookup 0 = some x0) (i0 : am_isR x0 = true) (hs : fg_506_0 N x0 h = some o) : am_W X (d + 7) 506 0 lv [] h (fun q => q = o) := by
  unfold fg_506_0 at hs
  refine aw_vload_n (pc1 := 1) at_506_0 l0 i0 rfl ?_
  refine aw_iconst (v := 0) (pc1 := 2) at_506_1 (by decide) rfl ?_
  obtain ⟨h1, e2, hs1⟩ := am_bind hs
  clear hs
  refine aw_pP (pc1 := 5) at_506_2 e2 rfl ?_
  refine aw_iconst (v := 0) (pc1 := 6) at_506_5 (by decide) rfl ?_
  refine aw_istore_n (lv1 := am_put1 _ 1 _) (pc1 := 7) at_506_6 rfl rfl ?_
  exact rg_506_7 N x0 0 h1 o hs1 _ (am_lk1 l0 rfl (by rw [am_isRc i0]; rfl)) am_lk0 i0
def fm_506 (N : Nat) (y0 : Value) (h : am_H) : Option am_O := fg_506_0 N y0 h
theorem rm_506 {X : am_X} {d : Nat} {N : Nat} (y0 : Value) (h : am_H) (o : am_O) (i0 : am_isR y0 = true) (hs : fm_506 N y0 h = some o) : am_W X (d + 7) 506 0 (am_args 0 [y0]) [] h (fun q => q = o) := by
  rw [am_args_R i0]
  exact rg_506_0 y0 h o rfl i0 hs
def fg_509_0 (x0 : Value) (x1 : Int32) (x2 : Int32) (h : am_H) : Option am_O := ((am_vR (am_pG 3173 x0 h)).bind fun v1 => ((am_pAL v1 x1 h).bind fun v3 => ((am_vR (am_pG 3174 x0 h)).bind fun v5 => ((am_pAL v5 x2 h).bind fun v7 => ((am_vR (am_pG 3173 x0 h)).bind fun v9 => ((am_pAL v9 x2 h).bind fun v11 => ((am_vR (am_pG 3174 x0 h)).bind fun v13 => ((am_pAL v13 x1 h).bind fun v15 => some (.inl (some (.long ((v3 * v7) - (v11 * v15))), h))))))))))
theorem rg_509_0 {X : am_X} {d : Nat} {lv : am_LV} (x0 : Value) (x1 : Int32) (x2 : Int32) (h : am_H) (o : am_O) (l0 : lv.lookup 0 = some x0) (l1 : lv.lookup 1 = some (.int x1)) (l2 : lv.lookup 2 = some (.int x2)) (i0 : am_isR x0 = true) (hs : fg_509_0 x0 x1 x2 h = some o) : am_W X (d) 509 0 lv [] h (fun q => q = o) := by
  unfold fg_509_0 at hs
  refine aw_vload_n (pc1 := 1) at_509_0 l0 i0 rfl ?_
  obtain ⟨v1, e2, hs1⟩ := am_bind hs
  clear hs
  refine aw_pG (pc1 := 4) at_509_1 (am_vR_s e2).1 rfl ?_
  refine aw_iload_n (pc1 := 5) at_509_4 l1 rfl ?_
  obtain ⟨v3, e4, hs2⟩ := am_bind hs1
  clear hs1
  refine aw_pAL (pc1 := 6) at_509_5 e4 rfl ?_
  refine aw_vload_n (pc1 := 7) at_509_6 l0 i0 rfl ?_
  obtain ⟨v5, e6, hs3⟩ := am_bind hs2
  clear hs2
  refine aw_pG (pc1 := 10) at_509_7 (am_vR_s e6).1 rfl ?_
  refine aw_iload_n (pc1 := 11) at_509_10 l2 rfl ?_
  obtain ⟨v7, e8, hs4⟩ := am_bind hs3
  clear hs3
  refine aw_pAL (pc1 := 12) at_509_11 e8 rfl ?_
  refine aw_lmul (v := (v3 * v7)) (pc1 := 13) at_509_12 rfl rfl ?_
  refine aw_vload_n (pc1 := 14) at_509_13 l0 i0 rfl ?_
  obtain ⟨v9, e10, hs5⟩ := am_bind hs4
  clear hs4
  refine aw_pG (pc1 := 17) at_509_14 (am_vR_s e10).1 rfl ?_
  refine aw_iload_n (pc1 := 18) at_509_17 l2 rfl ?_
  obtain ⟨v11, e12, hs6⟩ := am_bind hs5
  clear hs5
  refine aw_pAL (pc1 := 19) at_509_18 e12 rfl ?_
  refine aw_vload_n (pc1 := 20) at_509_19 l0 i0 rfl ?_
  obtain ⟨v13, e14, hs7⟩ := am_bind hs6
  clear hs6
  refine aw_pG (pc1 := 23) at_509_20 (am_vR_s e14).1 rfl ?_
  refine aw_iload_n (pc1 := 24) at_509_23 l1 rfl ?_
  obtain ⟨v15, e16, hs8⟩ := am_bind hs7
  clear hs7
  refine aw_pAL (pc1 := 25) at_509_24 e16 rfl ?_
  refine aw_lmul (v := (v11 * v15)) (pc1 := 26) at_509_25 rfl rfl ?_
  refine aw_lsub (v := ((v3 * v7) - (v11 * v15))) (pc1 := 27) at_509_26 rfl rfl ?_
  cases hs8
  exact aw_lret at_509_27 rt_509 rfl
def fm_509 (y0 : Value) (y1 : Int32) (y2 : Int32) (h : am_H) : Option am_O := fg_509_0 y0 y1 y2 h
theorem rm_509 {X : am_X} {d : Nat} (y0 : Value) (y1 : Int32) (y2 : Int32) (h : am_H) (o : am_O) (i0 : am_isR y0 = true) (hs : fm_509 y0 y1 y2 h = some o) : am_W X (d) 509 0 (am_args 0 [y0, .int y1, .int y2]) [] h (fun q => q = o) := by
  rw [am_args_R i0, am_args_I, am_args_I]
  exact rg_509_0 y0 y1 y2 h o rfl rfl rfl i0 hs
def fg_508_109 (s0 : Int32) (h : am_H) : Option am_O := (if am_rfit (some FieldType.boolean) s0 then some (.inl (some (.int s0), h)) else none)
theorem rg_508_109 {X : am_X} {d : Nat} {lv : am_LV} (s0 : Int32) (h : am_H) (o : am_O) (hs : fg_508_109 s0 h = some o) : am_W X (d + 1) 508 109 lv [(.int s0)] h (fun q => q = o) := by
  unfold fg_508_109 at hs
  obtain ⟨z1, hs1⟩ := am_ift hs
  clear hs
  cases hs1
  exact aw_iret at_508_109 (by rw [rt_508]; exact z1) rfl
def fg_508_60 (s0 : Int32) (h : am_H) : Option am_O := (if am_rfit (some FieldType.boolean) s0 then some (.inl (some (.int s0), h)) else none)
theorem rg_508_60 {X : am_X} {d : Nat} {lv : am_LV} (s0 : Int32) (h : am_H) (o : am_O) (hs : fg_508_60 s0 h = some o) : am_W X (d + 1) 508 60 lv [(.int s0)] h (fun q => q = o) := by
  unfold fg_508_60 at hs
  obtain ⟨z1, hs1⟩ := am_ift hs
  clear hs
  cases hs1
  exact aw_iret at_508_60 (by rw [rt_508]; exact z1) rfl
def fg_508_24 (s0 : Int32) (h : am_H) : Option am_O := (if am_rfit (some FieldType.boolean) s0 then some (.inl (some (.int s0), h)) else none)
theorem rg_508_24 {X : am_X} {d : Nat} {lv : am_LV} (s0 : Int32) (h : am_H) (o : am_O) (hs : fg_508_24 s0 h = some o) : am_W X (d + 1) 508 24 lv [(.int s0)] h (fun q => q = o) := by
  unfold fg_508_24 at hs
  obtain ⟨z1, hs1⟩ := am_ift hs
  clear hs
  cases hs1
  exact aw_iret at_508_24 (by rw [rt_508]; exact z1) rfl
def fg_508_0 (x0 : Value) (x1 : Int32) (x2 : Int32) (h : am_H) : Option am_O := (if am_pOk 12 x0 h then am_cL true (fm_509 x0 x1 x2 h) (fun v2 h3 => (if (lg_cmp v2 0) = 0 then ((am_vR (am_pG 3175 x0 h3)).bind fun v6 => ((am_pA 0 v6 x1 h3).bind fun v8 => ((am_vR (am_pG 3175 x0 h3)).bind fun v10 => ((am_pA 0 v10 x2 h3).bind fun v12 => (if v8 = v12 then ((am_vR (am_pG 3176 x0 h3)).bind fun v15 => ((am_pA 0 v15 x1 h3).bind fun v17 => ((am_vR (am_pG 3176 x0 h3)).bind fun v19 => ((am_pA 0 v19 x2 h3).bind fun v21 => (if v17 = v21 then (if x2 ≤ x1 then (fg_508_109 0 h3) else (fg_508_109 1 h3)) else ((am_vR (am_pG 3176 x0 h3)).bind fun v25 => ((am_pA 0 v25 x1 h3).bind fun v27 => ((am_vR (am_pG 3176 x0 h3)).bind fun v29 => ((am_pA 0 v29 x2 h3).bind fun v31 => (if v31 ≤ v27 then (fg_508_109 0 h3) else (fg_508_109 1 h3))))))))))) else ((am_vR (am_pG 3175 x0 h3)).bind fun v34 => ((am_pA 0 v34 x1 h3).bind fun v36 => ((am_vR (am_pG 3175 x0 h3)).bind fun v38 => ((am_pA 0 v38 x2 h3).bind fun v40 => (if v40 ≤ v36 then (fg_508_60 0 h3) else (fg_508_60 1 h3))))))))))) else (if 0 ≤ (lg_cmp v2 0) then (fg_508_24 0 h3) else (fg_508_24 1 h3)))) else none)
theorem rg_508_0 {X : am_X} {d : Nat} {lv : am_LV} (x0 : Value) (x1 : Int32) (x2 : Int32) (h : am_H) (o : am_O) (l0 : lv.lookup 0 = some x0) (l1 : lv.lookup 1 = some (.int x1)) (l2 : lv.lookup 2 = some (.int x2)) (i0 : am_isR x0 = true) (hs : fg_508_0 x0 x1 x2 h = some o) : am_W X (d + 1) 508 0 lv [] h (fun q => q = o) := by
  unfold fg_508_0 at hs
  refine aw_vload_n (pc1 := 1) at_508_0 l0 i0 rfl ?_
  refine aw_iload_n (pc1 := 2) at_508_1 l1 rfl ?_
  refine aw_iload_n (pc1 := 3) at_508_2 l2 rfl ?_
  obtain ⟨z1, hs1⟩ := am_ift hs
  clear hs
  refine aw_call (F := fm_509 x0 x1 x2 h) (t := true) (na := 3) (kd := 1) (as := [x0, (.int x1), (.int x2)]) at_508_3 (am_k3v kb_509) mn_509 mk_509 rfl rfl (am_ok_v mi_509 (am_hl rfl (am_ccR i0 (am_ccI (am_ccI am_cats_0))) rfl) z1) (am_hc am_cats_0 rfl) (fun _ => ⟨rfl, hh_508⟩) (fun o1 hz9 => rm_509 x0 x1 x2 h o1 i0 hz9) ?_
  rcases am_cL_s hs1 with ⟨v2, h3, f4, hs2⟩ | hs2
  · clear hs1
    refine Or.inl ⟨_, _, f4, ?_⟩
    show am_W X _ 508 6 _ [(.long v2)] h3 _
    refine aw_lstore_n (lv1 := am_put2 _ 3 _) (pc1 := 7) at_508_6 rfl rfl ?_
    refine aw_lload_n (pc1 := 8) at_508_7 am_lk02 rfl ?_
    refine aw_lconst (v := 0) (pc1 := 9) at_508_8 (by decide) rfl ?_
    refine aw_lcmp (v := (lg_cmp v2 0)) (pc1 := 10) at_508_9 rfl rfl ?_
    by_cases c5 : (lg_cmp v2 0) = 0
    · rw [if_pos c5] at hs2
      refine aw_ifeq_t at_508_10 c5 ?_
      refine aw_vload_n (pc1 := 26) at_508_25 (am_lk2 l0 rfl rfl) i0 rfl ?_
      obtain ⟨v6, e7, hs3⟩ := am_bind hs2
      clear hs2
      refine aw_pG (pc1 := 29) at_508_26 (am_vR_s e7).1 rfl ?_
      refine aw_iload_n (pc1 := 30) at_508_29 (am_lk2 l1 rfl rfl) rfl ?_
      obtain ⟨v8, e9, hs4⟩ := am_bind hs3
      clear hs3
      refine aw_pA (pc1 := 31) at_508_30 (Or.inl ⟨rfl, rfl⟩) e9 rfl ?_
      refine aw_vload_n (pc1 := 32) at_508_31 (am_lk2 l0 rfl rfl) i0 rfl ?_
      obtain ⟨v10, e11, hs5⟩ := am_bind hs4
      clear hs4
      refine aw_pG (pc1 := 35) at_508_32 (am_vR_s e11).1 rfl ?_
      refine aw_iload_n (pc1 := 36) at_508_35 (am_lk2 l2 rfl rfl) rfl ?_
      obtain ⟨v12, e13, hs6⟩ := am_bind hs5
      clear hs5
      refine aw_pA (pc1 := 37) at_508_36 (Or.inl ⟨rfl, rfl⟩) e13 rfl ?_
      by_cases c14 : v8 = v12
      · rw [if_pos c14] at hs6
        refine aw_iceq_t at_508_37 c14 ?_
        refine aw_vload_n (pc1 := 62) at_508_61 (am_lk2 l0 rfl rfl) i0 rfl ?_
        obtain ⟨v15, e16, hs7⟩ := am_bind hs6
        clear hs6
        refine aw_pG (pc1 := 65) at_508_62 (am_vR_s e16).1 rfl ?_
        refine aw_iload_n (pc1 := 66) at_508_65 (am_lk2 l1 rfl rfl) rfl ?_
        obtain ⟨v17, e18, hs8⟩ := am_bind hs7
        clear hs7
        refine aw_pA (pc1 := 67) at_508_66 (Or.inl ⟨rfl, rfl⟩) e18 rfl ?_
        refine aw_vload_n (pc1 := 68) at_508_67 (am_lk2 l0 rfl rfl) i0 rfl ?_
        obtain ⟨v19, e20, hs9⟩ := am_bind hs8
        clear hs8
        refine aw_pG (pc1 := 71) at_508_68 (am_vR_s e20).1 rfl ?_
        refine aw_iload_n (pc1 := 72) at_508_71 (am_lk2 l2 rfl rfl) rfl ?_
        obtain ⟨v21, e22, hs10⟩ := am_bind hs9
        clear hs9
        refine aw_pA (pc1 := 73) at_508_72 (Or.inl ⟨rfl, rfl⟩) e22 rfl ?_
        by_cases c23 : v17 = v21
        · rw [if_pos c23] at hs10
          refine aw_iceq_t at_508_73 c23 ?_
          refine aw_iload_n (pc1 := 100) at_508_99 (am_lk2 l1 rfl rfl) rfl ?_
          refine aw_iload_n (pc1 := 101) at_508_100 (am_lk2 l2 rfl rfl) rfl ?_
          by_cases c24 : x2 ≤ x1
          · rw [if_pos c24] at hs10
            refine aw_icge_t at_508_101 c24 ?_
            refine aw_iconst (v := 0) (pc1 := 109) at_508_108 (by decide) rfl ?_
            exact rg_508_109 0 h3 o   hs10
          · rw [if_neg c24] at hs10
            refine aw_icge_f (pc1 := 104) at_508_101 c24 rfl ?_
            refine aw_iconst (v := 1) (pc1 := 105) at_508_104 (by decide) rfl ?_
            refine aw_goto at_508_105 ?_
            exact rg_508_109 1 h3 o   hs10
        · rw [if_neg c23] at hs10
          refine aw_iceq_f (pc1 := 76) at_508_73 c23 rfl ?_
          refine aw_vload_n (pc1 := 77) at_508_76 (am_lk2 l0 rfl rfl) i0 rfl ?_
          obtain ⟨v25, e26, hs11⟩ := am_bind hs10
          clear hs10
          refine aw_pG (pc1 := 80) at_508_77 (am_vR_s e26).1 rfl ?_
          refine aw_iload_n (pc1 := 81) at_508_80 (am_lk2 l1 rfl rfl) rfl ?_
          obtain ⟨v27, e28, hs12⟩ := am_bind hs11
          clear hs11
          refine aw_pA (pc1 := 82) at_508_81 (Or.inl ⟨rfl, rfl⟩) e28 rfl ?_
          refine aw_vload_n (pc1 := 83) at_508_82 (am_lk2 l0 rfl rfl) i0 rfl ?_
          obtain ⟨v29, e30, hs13⟩ := am_bind hs12
          clear hs12
          refine aw_pG (pc1 := 86) at_508_83 (am_vR_s e30).1 rfl ?_
          refine aw_iload_n (pc1 := 87) at_508_86 (am_lk2 l2 rfl rfl) rfl ?_
          obtain ⟨v31, e32, hs14⟩ := am_bind hs13
          clear hs13
          refine aw_pA (pc1 := 88) at_508_87 (Or.inl ⟨rfl, rfl⟩) e32 rfl ?_
          by_cases c33 : v31 ≤ v27
          · rw [if_pos c33] at hs14
            refine aw_icge_t at_508_88 c33 ?_
            refine aw_iconst (v := 0) (pc1 := 96) at_508_95 (by decide) rfl ?_
            refine aw_goto at_508_96 ?_
            exact rg_508_109 0 h3 o   hs14
          · rw [if_neg c33] at hs14
            refine aw_icge_f (pc1 := 91) at_508_88 c33 rfl ?_
            refine aw_iconst (v := 1) (pc1 := 92) at_508_91 (by decide) rfl ?_
            refine aw_goto at_508_92 ?_
            exact rg_508_109 1 h3 o   hs14
      · rw [if_neg c14] at hs6
        refine aw_iceq_f (pc1 := 40) at_508_37 c14 rfl ?_
        refine aw_vload_n (pc1 := 41) at_508_40 (am_lk2 l0 rfl rfl) i0 rfl ?_
        obtain ⟨v34, e35, hs15⟩ := am_bind hs6
        clear hs6
        refine aw_pG (pc1 := 44) at_508_41 (am_vR_s e35).1 rfl ?_
        refine aw_iload_n (pc1 := 45) at_508_44 (am_lk2 l1 rfl rfl) rfl ?_
        obtain ⟨v36, e37, hs16⟩ := am_bind hs15
        clear hs15
        refine aw_pA (pc1 := 46) at_508_45 (Or.inl ⟨rfl, rfl⟩) e37 rfl ?_
        refine aw_vload_n (pc1 := 47) at_508_46 (am_lk2 l0 rfl rfl) i0 rfl ?_
        obtain ⟨v38, e39, hs17⟩ := am_bind hs16
        clear hs16
        refine aw_pG (pc1 := 50) at_508_47 (am_vR_s e39).1 rfl ?_
        refine aw_iload_n (pc1 := 51) at_508_50 (am_lk2 l2 rfl rfl) rfl ?_
        obtain ⟨v40, e41, hs18⟩ := am_bind hs17
        clear hs17
        refine aw_pA (pc1 := 52) at_508_51 (Or.inl ⟨rfl, rfl⟩) e41 rfl ?_
        by_cases c42 : v40 ≤ v36
        · rw [if_pos c42] at hs18
          refine aw_icge_t at_508_52 c42 ?_
          refine aw_iconst (v := 0) (pc1 := 60) at_508_59 (by decide) rfl ?_
          exact rg_508_60 0 h3 o   hs18
        · rw [if_neg c42] at hs18
          refine aw_icge_f (pc1 := 55) at_508_52 c42 rfl ?_
          refine aw_iconst (v := 1) (pc1 := 56) at_508_55 (by decide) rfl ?_
          refine aw_goto at_508_56 ?_
          exact rg_508_60 1 h3 o   hs18
    · rw [if_neg c5] at hs2
      refine aw_ifeq_f (pc1 := 13) at_508_10 c5 rfl ?_
      refine aw_lload_n (pc1 := 14) at_508_13 am_lk02 rfl ?_
      refine aw_lconst (v := 0) (pc1 := 15) at_508_14 (by decide) rfl ?_
      refine aw_lcmp (v := (lg_cmp v2 0)) (pc1 := 16) at_508_15 rfl rfl ?_
      by_cases c43 : 0 ≤ (lg_cmp v2 0)
      · rw [if_pos c43] at hs2
        refine aw_ifge_t at_508_16 c43 ?_
        refine aw_iconst (v := 0) (pc1 := 24) at_508_23 (by decide) rfl ?_
        exact rg_508_24 0 h3 o   hs2
      · rw [if_neg c43] at hs2
        refine aw_ifge_f (pc1 := 19) at_508_16 c43 rfl ?_
        refine aw_iconst (v := 1) (pc1 := 20) at_508_19 (by decide) rfl ?_
        refine aw_goto at_508_20 ?_
        exact rg_508_24 1 h3 o   hs2
  · clear hs1
    exact Or.inr hs2
def fm_508 (y0 : Value) (y1 : Int32) (y2 : Int32) (h : am_H) : Option am_O := fg_508_0 y0 y1 y2 h
theorem rm_508 {X : am_X} {d : Nat} (y0 : Value) (y1 : Int32) (y2 : Int32) (h : am_H) (o : am_O) (i0 : am_isR y0 = true) (hs : fm_508 y0 y1 y2 h = some o) : am_W X (d + 1) 508 0 (am_args 0 [y0, .int y1, .int y2]) [] h (fun q => q = o) := by
  rw [am_args_R i0, am_args_I, am_args_I]
  exact rg_508_0 y0 y1 y2 h o rfl rfl rfl i0 hs
def fg_507_52 (N : Nat) (rec_2 : Value → Int32 → am_H → Option am_O) (x0 : Value) (x1 : Int32) (x2 : Int32) (h : am_H) : Option am_O := ((am_vR (am_pG 3182 x0 h)).bind fun v1 => ((am_pS 0 v1 x2 x1 h).bind fun h3 => (rec_2 x0 ((x1 + 1)) h3)))
theorem rg_507_52 {X : am_X} {d : Nat} {N : Nat} {rec_2 : Value → Int32 → am_H → Option am_O} (q_2 : ∀ (x0 : Value) (x1 : Int32) (h : am_H) (o : am_O), rec_2 x0 x1 h = some o → ∀ lv : am_LV, (lv.lookup 0 = some x0) → (lv.lookup 1 = some (.int x1)) → (am_isR x0 = true) → am_W X (d + 2) 507 2 lv [] h (fun q => q = o)) {lv : am_LV} (x0 : Value) (x1 : Int32) (x2 : Int32) (h : am_H) (o : am_O) (l0 : lv.lookup 0 = some x0) (l1 : lv.lookup 1 = some (.int x1)) (l2 : lv.lookup 2 = some (.int x2)) (i0 : am_isR x0 = true) (hs : fg_507_52 N rec_2 x0 x1 x2 h = some o) : am_W X (d + 2) 507 52 lv [] h (fun q => q = o) := by
  unfold fg_507_52 at hs
  refine aw_vload_n (pc1 := 53) at_507_52 l0 i0 rfl ?_
  obtain ⟨v1, e2, hs1⟩ := am_bind hs
  clear hs
  refine aw_pG (pc1 := 56) at_507_53 (am_vR_s e2).1 rfl ?_
  refine aw_iload_n (pc1 := 57) at_507_56 l2 rfl ?_
  refine aw_iload_n (pc1 := 58) at_507_57 l1 rfl ?_
  obtain ⟨h3, e4, hs2⟩ := am_bind hs1
  clear hs1
  refine aw_pS (pc1 := 59) at_507_58 (Or.inl ⟨rfl, rfl⟩) e4 rfl ?_
  refine aw_iinc (v := (x1 + 1)) (c := 1) (lv1 := am_put1 _ 1 _) (pc1 := 62) at_507_59 l1 (by decide) rfl rfl rfl ?_
  refine aw_goto at_507_62 ?_
  exact q_2 x0 ((x1 + 1)) h3 o hs2 _ (am_lk1 l0 rfl (by rw [am_isRc i0]; rfl)) am_lk0 i0
def fg_507_12 (N : Nat) (rec_2 : Value → Int32 → am_H → Option am_O) : Nat → Value → Int32 → Int32 → am_H → Option am_O
  | 0 => fun _ _ _ _ => none
  | K + 1 => fun x0 x1 x2 h => (if x2 ≤ 0 then (fg_507_52 N rec_2 x0 x1 x2 h) else ((am_vR (am_pG 3182 x0 h)).bind fun v2 => ((am_pA 0 v2 (x2 - 1) h).bind fun v4 => (if am_pOk 12 x0 h then am_cI true (fm_508 x0 x1 v4 h) (fun v7 h8 => (if v7 = 0 then (fg_507_52 N rec_2 x0 x1 x2 h8) else ((am_vR (am_pG 3182 x0 h8)).bind fun v11 => ((am_vR (am_pG 3182 x0 h8)).bind fun v13 => ((am_pA 0 v13 (x2 - 1) h8).bind fun v15 => ((am_pS 0 v11 x2 v15 h8).bind fun h17 => (fg_507_12 N rec_2 K x0 x1 ((x2 + (-1))) h17))))))) else none))))
theorem rg_507_12 {X : am_X} {d : Nat} {N : Nat} {rec_2 : Value → Int32 → am_H → Option am_O} (q_2 : ∀ (x0 : Value) (x1 : Int32) (h : am_H) (o : am_O), rec_2 x0 x1 h = some o → ∀ lv : am_LV, (lv.lookup 0 = some x0) → (lv.lookup 1 = some (.int x1)) → (am_isR x0 = true) → am_W X (d + 2) 507 2 lv [] h (fun q => q = o)) : ∀ (K : Nat) (x0 : Value) (x1 : Int32) (x2 : Int32) (h : am_H) (o : am_O), fg_507_12 N rec_2 K x0 x1 x2 h = some o → ∀ lv : am_LV, (lv.lookup 0 = some x0) → (lv.lookup 1 = some (.int x1)) → (lv.lookup 2 = some (.int x2)) → (am_isR x0 = true) → am_W X (d + 2) 507 12 lv [] h (fun q => q = o) := by
  intro K
  induction K with
  | zero => intro x0 x1 x2 h o hs; cases hs
  | succ K ih =>
    intro x0 x1 x2 h o hs lv l0 l1 l2 i0
    unfold fg_507_12 at hs
    refine aw_iload_n (pc1 := 13) at_507_12 l2 rfl ?_
    by_cases c1 : x2 ≤ 0
    · rw [if_pos c1] at hs
      refine aw_ifle_t at_507_13 c1 ?_
      exact rg_507_52 q_2 x0 x1 x2 h o l0 l1 l2 i0 hs
    · rw [if_neg c1] at hs
      refine aw_ifle_f (pc1 := 16) at_507_13 c1 rfl ?_
      refine aw_vload_n (pc1 := 17) at_507_16 l0 i0 rfl ?_
      refine aw_iload_n (pc1 := 18) at_507_17 l1 rfl ?_
      refine aw_vload_n (pc1 := 19) at_507_18 l0 i0 rfl ?_
      obtain ⟨v2, e3, hs1⟩ := am_bind hs
      clear hs
      refine aw_pG (pc1 := 22) at_507_19 (am_vR_s e3).1 rfl ?_
      refine aw_iload_n (pc1 := 23) at_507_22 l2 rfl ?_
      refine aw_iconst (v := 1) (pc1 := 24) at_507_23 (by decide) rfl ?_
      refine aw_isub (v := (x2 - 1)) (pc1 := 25) at_507_24 rfl rfl ?_
      obtain ⟨v4, e5, hs2⟩ := am_bind hs1
      clear hs1
      refine aw_pA (pc1 := 26) at_507_25 (Or.inl ⟨rfl, rfl⟩) e5 rfl ?_
      obtain ⟨z6, hs3⟩ := am_ift hs2
      clear hs2
      refine aw_call (F := fm_508 x0 x1 v4 h) (t := true) (na := 3) (kd := 1) (as := [x0, (.int x1), (.int v4)]) at_507_26 (am_k3v kb_508) mn_508 mk_508 rfl rfl (am_ok_v mi_508 (am_hl rfl (am_ccR i0 (am_ccI (am_ccI am_cats_0))) rfl) z6) (am_hc am_cats_0 rfl) (fun _ => ⟨rfl, hh_507⟩) (fun o1 hz9 => rm_508 x0 x1 v4 h o1 i0 hz9) ?_
      rcases am_cI_s hs3 with ⟨v7, h8, f9, hs4⟩ | hs4
      · clear hs3
        refine Or.inl ⟨_, _, f9, ?_⟩
        show am_W X _ 507 29 _ [(.int v7)] h8 _
        by_cases c10 : v7 = 0
        · rw [if_pos c10] at hs4
          refine aw_ifeq_t at_507_29 c10 ?_
          exact rg_507_52 q_2 x0 x1 x2 h8 o l0 l1 l2 i0 hs4
        · rw [if_neg c10] at hs4
          refine aw_ifeq_f (pc1 := 32) at_507_29 c10 rfl ?_
          refine aw_vload_n (pc1 := 33) at_507_32 l0 i0 rfl ?_
          obtain ⟨v11, e12, hs5⟩ := am_bind hs4
          clear hs4
          refine aw_pG (pc1 := 36) at_507_33 (am_vR_s e12).1 rfl ?_
          refine aw_iload_n (pc1 := 37) at_507_36 l2 rfl ?_
          refine aw_vload_n (pc1 := 38) at_507_37 l0 i0 rfl ?_
          obtain ⟨v13, e14, hs6⟩ := am_bind hs5
          clear hs5
          refine aw_pG (pc1 := 41) at_507_38 (am_vR_s e14).1 rfl ?_
          refine aw_iload_n (pc1 := 42) at_507_41 l2 rfl ?_
          refine aw_iconst (v := 1) (pc1 := 43) at_507_42 (by decide) rfl ?_
          refine aw_isub (v := (x2 - 1)) (pc1 := 44) at_507_43 rfl rfl ?_
          obtain ⟨v15, e16, hs7⟩ := am_bind hs6
          clear hs6
          refine aw_pA (pc1 := 45) at_507_44 (Or.inl ⟨rfl, rfl⟩) e16 rfl ?_
          obtain ⟨h17, e18, hs8⟩ := am_bind hs7
          clear hs7
          refine aw_pS (pc1 := 46) at_507_45 (Or.inl ⟨rfl, rfl⟩) e18 rfl ?_
          refine aw_iinc (v := (x2 + (-1))) (c := (-1)) (lv1 := am_put1 _ 2 _) (pc1 := 49) at_507_46 l2 (by decide) rfl rfl rfl ?_
          refine aw_goto at_507_49 ?_
          exact ih x0 x1 ((x2 + (-1))) h17 o hs8 _ (am_lk1 l0 rfl rfl) (am_lk1 l1 rfl rfl) am_lk0 i0
      · clear hs3
        exact Or.inr hs4
def fg_507_2 (N : Nat) : Nat → Value → Int32 → am_H → Option am_O
  | 0 => fun _ _ _ => none
  | K + 1 => fun x0 x1 h => ((am_vI (am_pG 3177 x0 h)).bind fun v1 => (if v1 ≤ x1 then some (.inl (none, h)) else (fg_507_12 N (fg_507_2 N K) N x0 x1 x1 h)))
theorem rg_507_2 {X : am_X} {d : Nat} {N : Nat} : ∀ (K : Nat) (x0 : Value) (x1 : Int32) (h : am_H) (o : am_O), fg_507_2 N K x0 x1 h = some o → ∀ lv : am_LV, (lv.lookup 0 = some x0) → (lv.lookup 1 = some (.int x1)) → (am_isR x0 = true) → am_W X (d + 2) 507 2 lv [] h (fun q => q = o) := by
  intro K
  induction K with
  | zero => intro x0 x1 h o hs; cases hs
  | succ K ih =>
    intro x0 x1 h o hs lv l0 l1 i0
    unfold fg_507_2 at hs
    refine aw_iload_n (pc1 := 3) at_507_2 l1 rfl ?_
    refine aw_vload_n (pc1 := 4) at_507_3 l0 i0 rfl ?_
    obtain ⟨v1, e2, hs1⟩ := am_bind hs
    clear hs
    refine aw_pG (pc1 := 7) at_507_4 (am_vI_s e2) rfl ?_
    by_cases c3 : v1 ≤ x1
    · rw [if_pos c3] at hs1
      refine aw_icge_t at_507_7 c3 ?_
      cases hs1
      exact aw_vret at_507_65 rt_507 rfl
    · rw [if_neg c3] at hs1
      refine aw_icge_f (pc1 := 10) at_507_7 c3 rfl ?_
      refine aw_iload_n (pc1 := 11) at_507_10 l1 rfl ?_
      refine aw_istore_n (lv1 := am_put1 _ 2 _) (pc1 := 12) at_507_11 rfl rfl ?_
      exact rg_507_12 (fun z0 z1 h o hs1 => ih z0 z1 h o hs1) N x0 x1 x1 h o hs1 _ (am_lk1 l0 rfl rfl) (am_lk1 l1 rfl rfl) am_lk0 i0
def fg_507_0 (N : Nat) (x0 : Value) (h : am_H) : Option am_O := (fg_507_2 N N x0 0 h)
theorem rg_507_0 {X : am_X} {d : Nat} {N : Nat} {lv : am_LV} (x0 : Value) (h : am_H) (o : am_O) (l0 : lv.lookup 0 = some x0) (i0 : am_isR x0 = true) (hs : fg_507_0 N x0 h = some o) : am_W X (d + 2) 507 0 lv [] h (fun q => q = o) := by
  unfold fg_507_0 at hs
  refine aw_iconst (v := 0) (pc1 := 1) at_507_0 (by decide) rfl ?_
  refine aw_istore_n (lv1 := am_put1 _ 1 _) (pc1 := 2) at_507_1 rfl rfl ?_
  exact rg_507_2 N x0 0 h o hs _ (am_lk1 l0 rfl (by rw [am_isRc i0]; rfl)) am_lk0 i0
def fm_507 (N : Nat) (y0 : Value) (h : am_H) : Option am_O := fg_507_0 N y0 h
theorem rm_507 {X : am_X} {d : Nat} {N : Nat} (y0 : Value) (h : am_H) (o : am_O) (i0 : am_isR y0 = true) (hs : fm_507 N y0 h = some o) : am_W X (d + 2) 507 0 (am_args 0 [y0]) [] h (fun q => q = o) := by
  rw [am_args_R i0]
  exact rg_507_0 y0 h o rfl i0 hs
def fg_512_44 (N : Nat) (rec_11 : Value → Int32 → Int32 → am_H → Option am_O) (x0 : Value) (x2 : Int32) (s0 : Int32) (h : am_H) : Option am_O := (rec_11 x0 s0 ((x2 + 1)) h)
theorem rg_512_44 {X : am_X} {d : Nat} {N : Nat} {rec_11 : Value → Int32 → Int32 → am_H → Option am_O} (q_11 : ∀ (x0 : Value) (x1 : Int32) (x2 : Int32) (h : am_H) (o : am_O), rec_11 x0 x1 x2 h = some o → ∀ lv : am_LV, (lv.lookup 0 = some x0) → (lv.lookup 1 = some (.int x1)) → (lv.lookup 2 = some (.int x2)) → (am_isR x0 = true) → am_W X (d + 2) 512 11 lv [] h (fun q => q = o)) {lv : am_LV} (x0 : Value) (x2 : Int32) (s0 : Int32) (h : am_H) (o : am_O) (l0 : lv.lookup 0 = some x0) (l2 : lv.lookup 2 = some (.int x2)) (i0 : am_isR x0 = true) (hs : fg_512_44 N rec_11 x0 x2 s0 h = some o) : am_W X (d + 2) 512 44 lv [(.int s0)] h (fun q => q = o) := by
  unfold fg_512_44 at hs
  refine aw_istore_n (lv1 := am_put1 _ 1 _) (pc1 := 45) at_512_44 rfl rfl ?_
  refine aw_iinc (v := (x2 + 1)) (c := 1) (lv1 := am_put1 _ 2 _) (pc1 := 48) at_512_45 (am_lk1 l2 rfl rfl) (by decide) rfl rfl rfl ?_
  refine aw_goto at_512_48 ?_
  exact q_11 x0 s0 ((x2 + 1)) h o hs _ (am_lk1 (am_lk1 l0 rfl (by rw [am_isRc i0]; rfl)) rfl rfl) (am_lk1 am_lk0 rfl rfl) am_lk0 i0
def fg_512_11 (N : Nat) : Nat → Value → Int32 → Int32 → am_H → Option am_O
  | 0 => fun _ _ _ _ => none
  | K + 1 => fun x0 x1 x2 h => ((am_vR (am_pG 3114 x0 h)).bind fun v1 => ((am_pA 0 v1 2 h).bind fun v3 => (if v3 ≤ x2 then ((am_vR (am_pG 3176 x0 h)).bind fun v6 => ((am_pA 0 v6 x1 h).bind fun v8 => some (.inl (some (.int v8), h)))) else ((am_vI (am_pG 3177 x0 h)).bind fun v10 => (if am_pOk 12 x0 h then am_cI true (fm_474 x0 v10 h) (fun v13 h14 => (if am_pOk 12 x0 h14 then am_cI true (fm_508 x0 v13 x1 h14) (fun v17 h18 => (if v17 = 0 then (fg_512_44 N (fg_512_11 N K) x0 x2 x1 h18) else (fg_512_44 N (fg_512_11 N K) x0 x2 v13 h18))) else none)) else none)))))
theorem rg_512_11 {X : am_X} {d : Nat} {N : Nat} : ∀ (K : Nat) (x0 : Value) (x1 : Int32) (x2 : Int32) (h : am_H) (o : am_O), fg_512_11 N K x0 x1 x2 h = some o → ∀ lv : am_LV, (lv.lookup 0 = some x0) → (lv.lookup 1 = some (.int x1)) → (lv.lookup 2 = some (.int x2)) → (am_isR x0 = true) → am_W X (d + 2) 512 11 lv [] h (fun q => q = o) := by
  intro K
  induction K with
  | zero => intro x0 x1 x2 h o hs; cases hs
  | succ K ih =>
    intro x0 x1 x2 h o hs lv l0 l1 l2 i0
    unfold fg_512_11 at hs
    refine aw_iload_n (pc1 := 12) at_512_11 l2 rfl ?_
    refine aw_vload_n (pc1 := 13) at_512_12 l0 i0 rfl ?_
    obtain ⟨v1, e2, hs1⟩ := am_bind hs
    clear hs
    refine aw_pG (pc1 := 16) at_512_13 (am_vR_s e2).1 rfl ?_
    refine aw_iconst (v := 2) (pc1 := 17) at_512_16 (by decide) rfl ?_
    obtain ⟨v3, e4, hs2⟩ := am_bind hs1
    clear hs1
    refine aw_pA (pc1 := 18) at_512_17 (Or.inl ⟨rfl, rfl⟩) e4 rfl ?_
    by_cases c5 : v3 ≤ x2
    · rw [if_pos c5] at hs2
      refine aw_icge_t at_512_18 c5 ?_
      refine aw_vload_n (pc1 := 52) at_512_51 l0 i0 rfl ?_
      obtain ⟨v6, e7, hs3⟩ := am_bind hs2
      clear hs2
      refine aw_pG (pc1 := 55) at_512_52 (am_vR_s e7).1 rfl ?_
      refine aw_iload_n (pc1 := 56) at_512_55 l1 rfl ?_
      obtain ⟨v8, e9, hs4⟩ := am_bind hs3
      clear hs3
      refine aw_pA (pc1 := 57) at_512_56 (Or.inl ⟨rfl, rfl⟩) e9 rfl ?_
      cases hs4
      exact aw_iret at_512_57 (by rw [rt_512]; rfl) rfl
    · rw [if_neg c5] at hs2
      refine aw_icge_f (pc1 := 21) at_512_18 c5 rfl ?_
      refine aw_vload_n (pc1 := 22) at_512_21 l0 i0 rfl ?_
      refine aw_vload_n (pc1 := 23) at_512_22 l0 i0 rfl ?_
      obtain ⟨v10, e11, hs5⟩ := am_bind hs2
      clear hs2
      refine aw_pG (pc1 := 26) at_512_23 (am_vI_s e11) rfl ?_
      obtain ⟨z12, hs6⟩ := am_ift hs5
      clear hs5
      refine aw_call (F := fm_474 x0 v10 h) (t := true) (na := 2) (kd := 1) (as := [x0, (.int v10)]) at_512_26 (am_k3v kb_474) mn_474 mk_474 rfl rfl (am_ok_v mi_474 (am_hl rfl (am_ccR i0 (am_ccI am_cats_0)) rfl) z12) (am_hc am_cats_0 rfl) (fun _ => ⟨rfl, hh_512⟩) (fun o1 hz9 => rm_474 x0 v10 h o1 i0 hz9) ?_
      rcases am_cI_s hs6 with ⟨v13, h14, f15, hs7⟩ | hs7
      · clear hs6
        refine Or.inl ⟨_, _, f15, ?_⟩
        show am_W X _ 512 29 _ [(.int v13)] h14 _
        refine aw_istore_n (lv1 := am_put1 _ 3 _) (pc1 := 30) at_512_29 rfl rfl ?_
        refine aw_vload_n (pc1 := 31) at_512_30 (am_lk1 l0 rfl rfl) i0 rfl ?_
        refine aw_iload_n (pc1 := 32) at_512_31 am_lk0 rfl ?_
        refine aw_iload_n (pc1 := 33) at_512_32 (am_lk1 l1 rfl rfl) rfl ?_
        obtain ⟨z16, hs8⟩ := am_ift hs7
        clear hs7
        refine aw_call (F := fm_508 x0 v13 x1 h14) (t := true) (na := 3) (kd := 1) (as := [x0, (.int v13), (.int x1)]) at_512_33 (am_k3v kb_508) mn_508 mk_508 rfl rfl (am_ok_v mi_508 (am_hl rfl (am_ccR i0 (am_ccI (am_ccI am_cats_0))) rfl) z16) (am_hc am_cats_0 rfl) (fun _ => ⟨rfl, hh_512⟩) (fun o1 hz9 => rm_508 x0 v13 x1 h14 o1 i0 hz9) ?_
        rcases am_cI_s hs8 with ⟨v17, h18, f19, hs9⟩ | hs9
        · clear hs8
          refine Or.inl ⟨_, _, f19, ?_⟩
          show am_W X _ 512 36 _ [(.int v17)] h18 _
          by_cases c20 : v17 = 0
          · rw [if_pos c20] at hs9
            refine aw_ifeq_t at_512_36 c20 ?_
            refine aw_iload_n (pc1 := 44) at_512_43 (am_lk1 l1 rfl rfl) rfl ?_
            exact rg_512_44 (fun z0 z1 z2 h o hs9 => ih z0 z1 z2 h o hs9) x0 x2 x1 h18 o (am_lk1 l0 rfl rfl) (am_lk1 l2 rfl rfl) i0 hs9
          · rw [if_neg c20] at hs9
            refine aw_ifeq_f (pc1 := 39) at_512_36 c20 rfl ?_
            refine aw_iload_n (pc1 := 40) at_512_39 am_lk0 rfl ?_
            refine aw_goto at_512_40 ?_
            exact rg_512_44 (fun z0 z1 z2 h o hs9 => ih z0 z1 z2 h o hs9) x0 x2 v13 h18 o (am_lk1 l0 rfl rfl) (am_lk1 l2 rfl rfl) i0 hs9
        · clear hs8
          exact Or.inr hs9
      · clear hs6
        exact Or.inr hs7
def fg_512_0 (N : Nat) (x0 : Value) (h : am_H) : Option am_O := ((am_vI (am_pG 3177 x0 h)).bind fun v1 => (if am_pOk 12 x0 h then am_cI true (fm_474 x0 v1 h) (fun v4 h5 => (fg_512_11 N N x0 v4 1 h5)) else none))
theorem rg_512_0 {X : am_X} {d : Nat} {N : Nat} {lv : am_LV} (x0 : Value) (h : am_H) (o : am_O) (l0 : lv.lookup 0 = some x0) (i0 : am_isR x0 = true) (hs : fg_512_0 N x0 h = some o) : am_W X (d + 2) 512 0 lv [] h (fun q => q = o) := by
  unfold fg_512_0 at hs
  refine aw_vload_n (pc1 := 1) at_512_0 l0 i0 rfl ?_
  refine aw_vload_n (pc1 := 2) at_512_1 l0 i0 rfl ?_
  obtain ⟨v1, e2, hs1⟩ := am_bind hs
  clear hs
  refine aw_pG (pc1 := 5) at_512_2 (am_vI_s e2) rfl ?_
  obtain ⟨z3, hs2⟩ := am_ift hs1
  clear hs1
  refine aw_call (F := fm_474 x0 v1 h) (t := true) (na := 2) (kd := 1) (as := [x0, (.int v1)]) at_512_5 (am_k3v kb_474) mn_474 mk_474 rfl rfl (am_ok_v mi_474 (am_hl rfl (am_ccR i0 (am_ccI am_cats_0)) rfl) z3) (am_hc am_cats_0 rfl) (fun _ => ⟨rfl, hh_512⟩) (fun o1 hz9 => rm_474 x0 v1 h o1 i0 hz9) ?_
  rcases am_cI_s hs2 with ⟨v4, h5, f6, hs3⟩ | hs3
  · clear hs2
    refine Or.inl ⟨_, _, f6, ?_⟩
    show am_W X _ 512 8 _ [(.int v4)] h5 _
    refine aw_istore_n (lv1 := am_put1 _ 1 _) (pc1 := 9) at_512_8 rfl rfl ?_
    refine aw_iconst (v := 1) (pc1 := 10) at_512_9 (by decide) rfl ?_
    refine aw_istore_n (lv1 := am_put1 _ 2 _) (pc1 := 11) at_512_10 rfl rfl ?_
    exact rg_512_11 N x0 v4 1 h5 o hs3 _ (am_lk1 (am_lk1 l0 rfl (by rw [am_isRc i0]; rfl)) rfl rfl) (am_lk1 am_lk0 rfl rfl) am_lk0 i0
  · clear hs2
    exact Or.inr hs3
def fm_512 (N : Nat) (y0 : Value) (h : am_H) : Option am_O := fg_512_0 N y0 h
theorem rm_512 {X : am_X} {d : Nat} {N : Nat} (y0 : Value) (h : am_H) (o : am_O) (i0 : am_isR y0 = true) (hs : fm_512 N y0 h = some o) : am_W X (d + 2) 512 0 (am_args 0 [y0]) [] h (fun q => q = o) := by
  rw [am_args_R i0]
  exact rg_512_0 y0 h o rfl i0 hs
def fg_514_85 (N : Nat) (rec_4 : Value → Int32 → Int32 → Int32 → am_H → Option am_O) (x0 : Value) (x1 : Int32) (x3 : Int32) (s0 : Int32) (h : am_H) : Option am_O := (rec_4 x0 x1 s0 ((x3 + 1)) h)
theorem rg_514_85 {X : am_X} {d : Nat} {N : Nat} {rec_4 : Value → Int32 → Int32 → Int32 → am_H → Option am_O} (q_4 : ∀ (x0 : Value) (x1 : Int32) (x2 : Int32) (x3 : Int32) (h : am_H) (o : am_O), rec_4 x0 x1 x2 x3 h = some o → ∀ lv : am_LV, (lv.lookup 0 = some x0) → (lv.lookup 1 = some (.int x1)) → (lv.lookup 2 = some (.int x2)) → (lv.lookup 3 = some (.int x3)) → (am_isR x0 = true) → am_W X (d + 1) 514 4 lv [] h (fun q => q = o)) {lv : am_LV} (x0 : Value) (x1 : Int32) (x3 : Int32) (s0 : Int32) (h : am_H) (o : am_O) (l0 : lv.lookup 0 = some x0) (l1 : lv.lookup 1 = some (.int x1)) (l3 : lv.lookup 3 = some (.int x3)) (i0 : am_isR x0 = true) (hs : fg_514_85 N rec_4 x0 x1 x3 s0 h = some o) : am_W X (d + 1) 514 85 lv [(.int s0)] h (fun q => q = o) := by
  unfold fg_514_85 at hs
  refine aw_istore_n (lv1 := am_put1 _ 2 _) (pc1 := 86) at_514_85 rfl rfl ?_
  refine aw_iinc (v := (x3 + 1)) (c := 1) (lv1 := am_put1 _ 3 _) (pc1 := 89) at_514_86 (am_lk1 l3 rfl rfl) (by decide) rfl rfl rfl ?_
  refine aw_goto at_514_89 ?_
  exact q_4 x0 x1 s0 ((x3 + 1)) h o hs _ (am_lk1 (am_lk1 l0 rfl rfl) rfl rfl) (am_lk1 (am_lk1 l1 rfl rfl) rfl rfl) (am_lk1 am_lk0 rfl rfl) am_lk0 i0
def fg_514_84 (N : Nat) (rec_4 : Value → Int32 → Int32 → Int32 → am_H → Option am_O) (x0 : Value) (x1 : Int32) (x3 : Int32) (h : am_H) : Option am_O := (fg_514_85 N rec_4 x0 x1 x3 0 h)
theorem rg_514_84 {X : am_X} {d : Nat} {N : Nat} {rec_4 : Value → Int32 → Int32 → Int32 → am_H → Option am_O} (q_4 : ∀ (x0 : Value) (x1 : Int32) (x2 : Int32) (x3 : Int32) (h : am_H) (o : am_O), rec_4 x0 x1 x2 x3 h = some o → ∀ lv : am_LV, (lv.lookup 0 = some x0) → (lv.lookup 1 = some (.int x1)) → (lv.lookup 2 = some (.int x2)) → (lv.lookup 3 = some (.int x3)) → (am_isR x0 = true) → am_W X (d + 1) 514 4 lv [] h (fun q => q = o)) {lv : am_LV} (x0 : Value) (x1 : Int32) (x3 : Int32) (h : am_H) (o : am_O) (l0 : lv.lookup 0 = some x0) (l1 : lv.lookup 1 = some (.int x1)) (l3 : lv.lookup 3 = some (.int x3)) (i0 : am_isR x0 = true) (hs : fg_514_84 N rec_4 x0 x1 x3 h = some o) : am_W X (d + 1) 514 84 lv [] h (fun q => q = o) := by
  unfold fg_514_84 at hs
  refine aw_iconst (v := 0) (pc1 := 85) at_514_84 (by decide) rfl ?_
  exact rg_514_85 q_4 x0 x1 x3 0 h o l0 l1 l3 i0 hs
def fg_514_80 (N : Nat) (rec_4 : Value → Int32 → Int32 → Int32 → am_H → Option am_O) (x0 : Value) (x1 : Int32) (x3 : Int32) (h : am_H) : Option am_O := (fg_514_85 N rec_4 x0 x1 x3 1 h)
theorem rg_514_80 {X : am_X} {d : Nat} {N : Nat} {rec_4 : Value → Int32 → Int32 → Int32 → am_H → Option am_O} (q_4 : ∀ (x0 : Value) (x1 : Int32) (x2 : Int32) (x3 : Int32) (h : am_H) (o : am_O), rec_4 x0 x1 x2 x3 h = some o → ∀ lv : am_LV, (lv.lookup 0 = some x0) → (lv.lookup 1 = some (.int x1)) → (lv.lookup 2 = some (.int x2)) → (lv.lookup 3 = some (.int x3)) → (am_isR x0 = true) → am_W X (d + 1) 514 4 lv [] h (fun q => q = o)) {lv : am_LV} (x0 : Value) (x1 : Int32) (x3 : Int32) (h : am_H) (o : am_O) (l0 : lv.lookup 0 = some x0) (l1 : lv.lookup 1 = some (.int x1)) (l3 : lv.lookup 3 = some (.int x3)) (i0 : am_isR x0 = true) (hs : fg_514_80 N rec_4 x0 x1 x3 h = some o) : am_W X (d + 1) 514 80 lv [] h (fun q => q = o) := by
  unfold fg_514_80 at hs
  refine aw_iconst (v := 1) (pc1 := 81) at_514_80 (by decide) rfl ?_
  refine aw_goto at_514_81 ?_
  exact rg_514_85 q_4 x0 x1 x3 1 h o l0 l1 l3 i0 hs
def fg_514_43 (N : Nat) (rec_4 : Value → Int32 → Int32 → Int32 → am_H → Option am_O) (x0 : Value) (x1 : Int32) (x2 : Int32) (x3 : Int32) (s0 : Int32) (h : am_H) : Option am_O := (if x2 = 0 then (fg_514_84 N rec_4 x0 x1 x3 h) else (if s0 = 0 then (fg_514_80 N rec_4 x0 x1 x3 h) else (if am_pOk 12 x0 h then am_cL true (fm_509 x0 x3 x1 h) (fun v4 h5 => (if (lg_cmp v4 0) < 0 then (fg_514_84 N rec_4 x0 x1 x3 h5) else ((am_vR (am_pG 3175 x0 h5)).bind fun v8 => ((am_pA 0 v8 x3 h5).bind fun v10 => ((am_vR (am_pG 3175 x0 h5)).bind fun v12 => ((am_pA 0 v12 x1 h5).bind fun v14 => (if v10 < v14 then (fg_514_84 N rec_4 x0 x1 x3 h5) else (fg_514_80 N rec_4 x0 x1 x3 h5)))))))) else none)))
theorem rg_514_43 {X : am_X} {d : Nat} {N : Nat} {rec_4 : Value → Int32 → Int32 → Int32 → am_H → Option am_O} (q_4 : ∀ (x0 : Value) (x1 : Int32) (x2 : Int32) (x3 : Int32) (h : am_H) (o : am_O), rec_4 x0 x1 x2 x3 h = some o → ∀ lv : am_LV, (lv.lookup 0 = some x0) → (lv.lookup 1 = some (.int x1)) → (lv.lookup 2 = some (.int x2)) → (lv.lookup 3 = some (.int x3)) → (am_isR x0 = true) → am_W X (d + 1) 514 4 lv [] h (fun q => q = o)) {lv : am_LV} (x0 : Value) (x1 : Int32) (x2 : Int32) (x3 : Int32) (s0 : Int32) (h : am_H) (o : am_O) (l0 : lv.lookup 0 = some x0) (l1 : lv.lookup 1 = some (.int x1)) (l2 : lv.lookup 2 = some (.int x2)) (l3 : lv.lookup 3 = some (.int x3)) (i0 : am_isR x0 = true) (hs : fg_514_43 N rec_4 x0 x1 x2 x3 s0 h = some o) : am_W X (d + 1) 514 43 lv [(.int s0)] h (fun q => q = o) := by
  unfold fg_514_43 at hs
  refine aw_istore (lv1 := am_put1 _ 4 _) (pc1 := 45) at_514_43 rfl rfl ?_
  refine aw_iload_n (pc1 := 46) at_514_45 (am_lk1 l2 rfl rfl) rfl ?_
  by_cases c1 : x2 = 0
  · rw [if_pos c1] at hs
    refine aw_ifeq_t at_514_46 c1 ?_
    exact rg_514_84 q_4 x0 x1 x3 h o (am_lk1 l0 rfl rfl) (am_lk1 l1 rfl rfl) (am_lk1 l3 rfl rfl) i0 hs
  · rw [if_neg c1] at hs
    refine aw_ifeq_f (pc1 := 49) at_514_46 c1 rfl ?_
    refine aw_iload (pc1 := 51) at_514_49 am_lk0 rfl ?_
    by_cases c2 : s0 = 0
    · rw [if_pos c2] at hs
      refine aw_ifeq_t at_514_51 c2 ?_
      exact rg_514_80 q_4 x0 x1 x3 h o (am_lk1 l0 rfl rfl) (am_lk1 l1 rfl rfl) (am_lk1 l3 rfl rfl) i0 hs
    · rw [if_neg c2] at hs
      refine aw_ifeq_f (pc1 := 54) at_514_51 c2 rfl ?_
      refine aw_vload_n (pc1 := 55) at_514_54 (am_lk1 l0 rfl rfl) i0 rfl ?_
      refine aw_iload_n (pc1 := 56) at_514_55 (am_lk1 l3 rfl rfl) rfl ?_
      refine aw_iload_n (pc1 := 57) at_514_56 (am_lk1 l1 rfl rfl) rfl ?_
      obtain ⟨z3, hs1⟩ := am_ift hs
      clear hs
      refine aw_call (F := fm_509 x0 x3 x1 h) (t := true) (na := 3) (kd := 1) (as := [x0, (.int x3), (.int x1)]) at_514_57 (am_k3v kb_509) mn_509 mk_509 rfl rfl (am_ok_v mi_509 (am_hl rfl (am_ccR i0 (am_ccI (am_ccI am_cats_0))) rfl) z3) (am_hc am_cats_0 rfl) (fun _ => ⟨rfl, hh_514⟩) (fun o1 hz9 => rm_509 x0 x3 x1 h o1 i0 hz9) ?_
      rcases am_cL_s hs1 with ⟨v4, h5, f6, hs2⟩ | hs2
      · clear hs1
        refine Or.inl ⟨_, _, f6, ?_⟩
        show am_W X _ 514 60 _ [(.long v4)] h5 _
        refine aw_lconst (v := 0) (pc1 := 61) at_514_60 (by decide) rfl ?_
        refine aw_lcmp (v := (lg_cmp v4 0)) (pc1 := 62) at_514_61 rfl rfl ?_
        by_cases c7 : (lg_cmp v4 0) < 0
        · rw [if_pos c7] at hs2
          refine aw_iflt_t at_514_62 c7 ?_
          exact rg_514_84 q_4 x0 x1 x3 h5 o (am_lk1 l0 rfl rfl) (am_lk1 l1 rfl rfl) (am_lk1 l3 rfl rfl) i0 hs2
        · rw [if_neg c7] at hs2
          refine aw_iflt_f (pc1 := 65) at_514_62 c7 rfl ?_
          refine aw_vload_n (pc1 := 66) at_514_65 (am_lk1 l0 rfl rfl) i0 rfl ?_
          obtain ⟨v8, e9, hs3⟩ := am_bind hs2
          clear hs2
          refine aw_pG (pc1 := 69) at_514_66 (am_vR_s e9).1 rfl ?_
          refine aw_iload_n (pc1 := 70) at_514_69 (am_lk1 l3 rfl rfl) rfl ?_
          obtain ⟨v10, e11, hs4⟩ := am_bind hs3
          clear hs3
          refine aw_pA (pc1 := 71) at_514_70 (Or.inl ⟨rfl, rfl⟩) e11 rfl ?_
          refine aw_vload_n (pc1 := 72) at_514_71 (am_lk1 l0 rfl rfl) i0 rfl ?_
          obtain ⟨v12, e13, hs5⟩ := am_bind hs4
          clear hs4
          refine aw_pG (pc1 := 75) at_514_72 (am_vR_s e13).1 rfl ?_
          refine aw_iload_n (pc1 := 76) at_514_75 (am_lk1 l1 rfl rfl) rfl ?_
          obtain ⟨v14, e15, hs6⟩ := am_bind hs5
          clear hs5
          refine aw_pA (pc1 := 77) at_514_76 (Or.inl ⟨rfl, rfl⟩) e15 rfl ?_
          by_cases c16 : v10 < v14
          · rw [if_pos c16] at hs6
            refine aw_iclt_t at_514_77 c16 ?_
            exact rg_514_84 q_4 x0 x1 x3 h5 o (am_lk1 l0 rfl rfl) (am_lk1 l1 rfl rfl) (am_lk1 l3 rfl rfl) i0 hs6
          · rw [if_neg c16] at hs6
            refine aw_iclt_f (pc1 := 80) at_514_77 c16 rfl ?_
            exact rg_514_80 q_4 x0 x1 x3 h5 o (am_lk1 l0 rfl rfl) (am_lk1 l1 rfl rfl) (am_lk1 l3 rfl rfl) i0 hs6
      · clear hs1
        exact Or.inr hs2
def fg_514_42 (N : Nat) (rec_4 : Value → Int32 → Int32 → Int32 → am_H → Option am_O) (x0 : Value) (x1 : Int32) (x2 : Int32) (x3 : Int32) (h : am_H) : Option am_O := (fg_514_43 N rec_4 x0 x1 x2 x3 0 h)
theorem rg_514_42 {X : am_X} {d : Nat} {N : Nat} {rec_4 : Value → Int32 → Int32 → Int32 → am_H → Option am_O} (q_4 : ∀ (x0 : Value) (x1 : Int32) (x2 : Int32) (x3 : Int32) (h : am_H) (o : am_O), rec_4 x0 x1 x2 x3 h = some o → ∀ lv : am_LV, (lv.lookup 0 = some x0) → (lv.lookup 1 = some (.int x1)) → (lv.lookup 2 = some (.int x2)) → (lv.lookup 3 = some (.int x3)) → (am_isR x0 = true) → am_W X (d + 1) 514 4 lv [] h (fun q => q = o)) {lv : am_LV} (x0 : Value) (x1 : Int32) (x2 : Int32) (x3 : Int32) (h : am_H) (o : am_O) (l0 : lv.lookup 0 = some x0) (l1 : lv.lookup 1 = some (.int x1)) (l2 : lv.lookup 2 = some (.int x2)) (l3 : lv.lookup 3 = some (.int x3)) (i0 : am_isR x0 = true) (hs : fg_514_42 N rec_4 x0 x1 x2 x3 h = some o) : am_W X (d + 1) 514 42 lv [] h (fun q => q = o) := by
  unfold fg_514_42 at hs
  refine aw_iconst (v := 0) (pc1 := 43) at_514_42 (by decide) rfl ?_
  exact rg_514_43 q_4 x0 x1 x2 x3 0 h o l0 l1 l2 l3 i0 hs
def fg_514_4 (N : Nat) : Nat → Value → Int32 → Int32 → Int32 → am_H → Option am_O
  | 0 => fun _ _ _ _ _ => none
  | K + 1 => fun x0 x1 x2 x3 h => ((am_vI (am_pG 3177 x0 h)).bind fun v1 => (if v1 ≤ x3 then (if am_rfit (some FieldType.boolean) x2 then some (.inl (some (.int x2), h)) else none) else (if am_pOk 12 x0 h then am_cL true (fm_509 x0 x3 x1 h) (fun v6 h7 => (if 0 < (lg_cmp v6 0) then (fg_514_42 N (fg_514_4 N K) x0 x1 x2 x3 h7) else ((am_vR (am_pG 3175 x0 h7)).bind fun v10 => ((am_pA 0 v10 x3 h7).bind fun v12 => ((am_vR (am_pG 3175 x0 h7)).bind fun v14 => ((am_pA 0 v14 x1 h7).bind fun v16 => (if v16 < v12 then (fg_514_42 N (fg_514_4 N K) x0 x1 x2 x3 h7) else (fg_514_43 N (fg_514_4 N K) x0 x1 x2 x3 1 h7)))))))) else none)))
theorem rg_514_4 {X : am_X} {d : Nat} {N : Nat} : ∀ (K : Nat) (x0 : Value) (x1 : Int32) (x2 : Int32) (x3 : Int32) (h : am_H) (o : am_O), fg_514_4 N K x0 x1 x2 x3 h = some o → ∀ lv : am_LV, (lv.lookup 0 = some x0) → (lv.lookup 1 = some (.int x1)) → (lv.lookup 2 = some (.int x2)) → (lv.lookup 3 = some (.int x3)) → (am_isR x0 = true) → am_W X (d + 1) 514 4 lv [] h (fun q => q = o) := by
  intro K
  induction K with
  | zero => intro x0 x1 x2 x3 h o hs; cases hs
  | succ K ih =>
    intro x0 x1 x2 x3 h o hs lv l0 l1 l2 l3 i0
    unfold fg_514_4 at hs
    refine aw_iload_n (pc1 := 5) at_514_4 l3 rfl ?_
    refine aw_vload_n (pc1 := 6) at_514_5 l0 i0 rfl ?_
    obtain ⟨v1, e2, hs1⟩ := am_bind hs
    clear hs
    refine aw_pG (pc1 := 9) at_514_6 (am_vI_s e2) rfl ?_
    by_cases c3 : v1 ≤ x3
    · rw [if_pos c3] at hs1
      refine aw_icge_t at_514_9 c3 ?_
      refine aw_iload_n (pc1 := 93) at_514_92 l2 rfl ?_
      obtain ⟨z4, hs2⟩ := am_ift hs1
      clear hs1
      cases hs2
      exact aw_iret at_514_93 (by rw [rt_514]; exact z4) rfl
    · rw [if_neg c3] at hs1
      refine aw_icge_f (pc1 := 12) at_514_9 c3 rfl ?_
      refine aw_vload_n (pc1 := 13) at_514_12 l0 i0 rfl ?_
      refine aw_iload_n (pc1 := 14) at_514_13 l3 rfl ?_
      refine aw_iload_n (pc1 := 15) at_514_14 l1 rfl ?_
      obtain ⟨z5, hs3⟩ := am_ift hs1
      clear hs1
      refine aw_call (F := fm_509 x0 x3 x1 h) (t := true) (na := 3) (kd := 1) (as := [x0, (.int x3), (.int x1)]) at_514_15 (am_k3v kb_509) mn_509 mk_509 rfl rfl (am_ok_v mi_509 (am_hl rfl (am_ccR i0 (am_ccI (am_ccI am_cats_0))) rfl) z5) (am_hc am_cats_0 rfl) (fun _ => ⟨rfl, hh_514⟩) (fun o1 hz9 => rm_509 x0 x3 x1 h o1 i0 hz9) ?_
      rcases am_cL_s hs3 with ⟨v6, h7, f8, hs4⟩ | hs4
      · clear hs3
        refine Or.inl ⟨_, _, f8, ?_⟩
        show am_W X _ 514 18 _ [(.long v6)] h7 _
        refine aw_lconst (v := 0) (pc1 := 19) at_514_18 (by decide) rfl ?_
        refine aw_lcmp (v := (lg_cmp v6 0)) (pc1 := 20) at_514_19 rfl rfl ?_
        by_cases c9 : 0 < (lg_cmp v6 0)
        · rw [if_pos c9] at hs4
          refine aw_ifgt_t at_514_20 c9 ?_
          exact rg_514_42 (fun z0 z1 z2 z3 h o hs4 => ih z0 z1 z2 z3 h o hs4) x0 x1 x2 x3 h7 o l0 l1 l2 l3 i0 hs4
        · rw [if_neg c9] at hs4
          refine aw_ifgt_f (pc1 := 23) at_514_20 c9 rfl ?_
          refine aw_vload_n (pc1 := 24) at_514_23 l0 i0 rfl ?_
          obtain ⟨v10, e11, hs5⟩ := am_bind hs4
          clear hs4
          refine aw_pG (pc1 := 27) at_514_24 (am_vR_s e11).1 rfl ?_
          refine aw_iload_n (pc1 := 28) at_514_27 l3 rfl ?_
          obtain ⟨v12, e13, hs6⟩ := am_bind hs5
          clear hs5
          refine aw_pA (pc1 := 29) at_514_28 (Or.inl ⟨rfl, rfl⟩) e13 rfl ?_
          refine aw_vload_n (pc1 := 30) at_514_29 l0 i0 rfl ?_
          obtain ⟨v14, e15, hs7⟩ := am_bind hs6
          clear hs6
          refine aw_pG (pc1 := 33) at_514_30 (am_vR_s e15).1 rfl ?_
          refine aw_iload_n (pc1 := 34) at_514_33 l1 rfl ?_
          obtain ⟨v16, e17, hs8⟩ := am_bind hs7
          clear hs7
          refine aw_pA (pc1 := 35) at_514_34 (Or.inl ⟨rfl, rfl⟩) e17 rfl ?_
          by_cases c18 : v16 < v12
          · rw [if_pos c18] at hs8
            refine aw_icgt_t at_514_35 c18 ?_
            exact rg_514_42 (fun z0 z1 z2 z3 h o hs8 => ih z0 z1 z2 z3 h o hs8) x0 x1 x2 x3 h7 o l0 l1 l2 l3 i0 hs8
          · rw [if_neg c18] at hs8
            refine aw_icgt_f (pc1 := 38) at_514_35 c18 rfl ?_
            refine aw_iconst (v := 1) (pc1 := 39) at_514_38 (by decide) rfl ?_
            refine aw_goto at_514_39 ?_
            exact rg_514_43 (fun z0 z1 z2 z3 h o hs8 => ih z0 z1 z2 z3 h o hs8) x0 x1 x2 x3 1 h7 o l0 l1 l2 l3 i0 hs8
      · clear hs3
        exact Or.inr hs4
def fg_514_0 (N : Nat) (x0 : Value) (x1 : Int32) (h : am_H) : Option am_O := (fg_514_4 N N x0 x1 1 0 h)
theorem rg_514_0 {X : am_X} {d : Nat} {N : Nat} {lv : am_LV} (x0 : Value) (x1 : Int32) (h : am_H) (o : am_O) (l0 : lv.lookup 0 = some x0) (l1 : lv.lookup 1 = some (.int x1)) (i0 : am_isR x0 = true) (hs : fg_514_0 N x0 x1 h = some o) : am_W X (d + 1) 514 0 lv [] h (fun q => q = o) := by
  unfold fg_514_0 at hs
  refine aw_iconst (v := 1) (pc1 := 1) at_514_0 (by decide) rfl ?_
  refine aw_istore_n (lv1 := am_put1 _ 2 _) (pc1 := 2) at_514_1 rfl rfl ?_
  refine aw_iconst (v := 0) (pc1 := 3) at_514_2 (by decide) rfl ?_
  refine aw_istore_n (lv1 := am_put1 _ 3 _) (pc1 := 4) at_514_3 rfl rfl ?_
  exact rg_514_4 N x0 x1 1 0 h o hs _ (am_lk1 (am_lk1 l0 rfl rfl) rfl rfl) (am_lk1 (am_lk1 l1 rfl rfl) rfl rfl) (am_lk1 am_lk0 rfl rfl) am_lk0 i0
def fm_514 (N : Nat) (y0 : Value) (y1 : Int32) (h : am_H) : Option am_O := fg_514_0 N y0 y1 h
theorem rm_514 {X : am_X} {d : Nat} {N : Nat} (y0 : Value) (y1 : Int32) (h : am_H) (o : am_O) (i0 : am_isR y0 = true) (hs : fm_514 N y0 y1 h = some o) : am_W X (d + 1) 514 0 (am_args 0 [y0, .int y1]) [] h (fun q => q = o) := by
  rw [am_args_R i0, am_args_I]
  exact rg_514_0 y0 y1 h o rfl rfl i0 hs
def fg_513_26 (N : Nat) (rec_4 : Value → Int32 → Int32 → am_H → Option am_O) (x0 : Value) (x2 : Int32) (s0 : Int32) (s1 : Int32) (h : am_H) : Option am_O := (rec_4 x0 ((s0 + s1)) ((x2 + 1)) h)
theorem rg_513_26 {X : am_X} {d : Nat} {N : Nat} {rec_4 : Value → Int32 → Int32 → am_H → Option am_O} (q_4 : ∀ (x0 : Value) (x1 : Int32) (x2 : Int32) (h : am_H) (o : am_O), rec_4 x0 x1 x2 h = some o → ∀ lv : am_LV, (lv.lookup 0 = some x0) → (lv.lookup 1 = some (.int x1)) → (lv.lookup 2 = some (.int x2)) → (am_isR x0 = true) → am_W X (d + 2) 513 4 lv [] h (fun q => q = o)) {lv : am_LV} (x0 : Value) (x2 : Int32) (s0 : Int32) (s1 : Int32) (h : am_H) (o : am_O) (l0 : lv.lookup 0 = some x0) (l2 : lv.lookup 2 = some (.int x2)) (i0 : am_isR x0 = true) (hs : fg_513_26 N rec_4 x0 x2 s0 s1 h = some o) : am_W X (d + 2) 513 26 lv [(.int s1), (.int s0)] h (fun q => q = o) := by
  unfold fg_513_26 at hs
  refine aw_iadd (v := (s0 + s1)) (pc1 := 27) at_513_26 rfl rfl ?_
  refine aw_istore_n (lv1 := am_put1 _ 1 _) (pc1 := 28) at_513_27 rfl rfl ?_
  refine aw_iinc (v := (x2 + 1)) (c := 1) (lv1 := am_put1 _ 2 _) (pc1 := 31) at_513_28 (am_lk1 l2 rfl rfl) (by decide) rfl rfl rfl ?_
  refine aw_goto at_513_31 ?_
  exact q_4 x0 ((s0 + s1)) ((x2 + 1)) h o hs _ (am_lk1 (am_lk1 l0 rfl (by rw [am_isRc i0]; rfl)) rfl rfl) (am_lk1 am_lk0 rfl rfl) am_lk0 i0
def fg_513_4 (N : Nat) : Nat → Value → Int32 → Int32 → am_H → Option am_O
  | 0 => fun _ _ _ _ => none
  | K + 1 => fun x0 x1 x2 h => ((am_vI (am_pG 3177 x0 h)).bind fun v1 => (if v1 ≤ x2 then some (.inl (some (.int x1), h)) else (if am_pOk 12 x0 h then am_cI true (fm_514 N x0 x2 h) (fun v5 h6 => (if v5 = 0 then (fg_513_26 N (fg_513_4 N K) x0 x2 x1 0 h6) else (fg_513_26 N (fg_513_4 N K) x0 x2 x1 1 h6))) else none)))
theorem rg_513_4 {X : am_X} {d : Nat} {N : Nat} : ∀ (K : Nat) (x0 : Value) (x1 : Int32) (x2 : Int32) (h : am_H) (o : am_O), fg_513_4 N K x0 x1 x2 h = some o → ∀ lv : am_LV, (lv.lookup 0 = some x0) → (lv.lookup 1 = some (.int x1)) → (lv.lookup 2 = some (.int x2)) → (am_isR x0 = true) → am_W X (d + 2) 513 4 lv [] h (fun q => q = o) := by
  intro K
  induction K with
  | zero => intro x0 x1 x2 h o hs; cases hs
  | succ K ih =>
    intro x0 x1 x2 h o hs lv l0 l1 l2 i0
    unfold fg_513_4 at hs
    refine aw_iload_n (pc1 := 5) at_513_4 l2 rfl ?_
    refine aw_vload_n (pc1 := 6) at_513_5 l0 i0 rfl ?_
    obtain ⟨v1, e2, hs1⟩ := am_bind hs
    clear hs
    refine aw_pG (pc1 := 9) at_513_6 (am_vI_s e2) rfl ?_
    by_cases c3 : v1 ≤ x2
    · rw [if_pos c3] at hs1
      refine aw_icge_t at_513_9 c3 ?_
      refine aw_iload_n (pc1 := 35) at_513_34 l1 rfl ?_
      cases hs1
      exact aw_iret at_513_35 (by rw [rt_513]; rfl) rfl
    · rw [if_neg c3] at hs1
      refine aw_icge_f (pc1 := 12) at_513_9 c3 rfl ?_
      refine aw_iload_n (pc1 := 13) at_513_12 l1 rfl ?_
      refine aw_vload_n (pc1 := 14) at_513_13 l0 i0 rfl ?_
      refine aw_iload_n (pc1 := 15) at_513_14 l2 rfl ?_
      obtain ⟨z4, hs2⟩ := am_ift hs1
      clear hs1
      refine aw_call (F := fm_514 N x0 x2 h) (t := true) (na := 2) (kd := 1) (as := [x0, (.int x2)]) at_513_15 (am_k3v kb_514) mn_514 mk_514 rfl rfl (am_ok_v mi_514 (am_hl rfl (am_ccR i0 (am_ccI am_cats_0)) rfl) z4) (am_hc (am_ccI am_cats_0) rfl) (fun _ => ⟨rfl, hh_513⟩) (fun o1 hz9 => rm_514 x0 x2 h o1 i0 hz9) ?_
      rcases am_cI_s hs2 with ⟨v5, h6, f7, hs3⟩ | hs3
      · clear hs2
        refine Or.inl ⟨_, _, f7, ?_⟩
        show am_W X _ 513 18 _ [(.int v5), (.int x1)] h6 _
        by_cases c8 : v5 = 0
        · rw [if_pos c8] at hs3
          refine aw_ifeq_t at_513_18 c8 ?_
          refine aw_iconst (v := 0) (pc1 := 26) at_513_25 (by decide) rfl ?_
          exact rg_513_26 (fun z0 z1 z2 h o hs3 => ih z0 z1 z2 h o hs3) x0 x2 x1 0 h6 o l0 l2 i0 hs3
        · rw [if_neg c8] at hs3
          refine aw_ifeq_f (pc1 := 21) at_513_18 c8 rfl ?_
          refine aw_iconst (v := 1) (pc1 := 22) at_513_21 (by decide) rfl ?_
          refine aw_goto at_513_22 ?_
          exact rg_513_26 (fun z0 z1 z2 h o hs3 => ih z0 z1 z2 h o hs3) x0 x2 x1 1 h6 o l0 l2 i0 hs3
      · clear hs2
        exact Or.inr hs3
def fg_513_0 (N : Nat) (x0 : Value) (h : am_H) : Option am_O := (fg_513_4 N N x0 0 0 h)
theorem rg_513_0 {X : am_X} {d : Nat} {N : Nat} {lv : am_LV} (x0 : Value) (h : am_H) (o : am_O) (l0 : lv.lookup 0 = some x0) (i0 : am_isR x0 = true) (hs : fg_513_0 N x0 h = some o) : am_W X (d + 2) 513 0 lv [] h (fun q => q = o) := by
  unfold fg_513_0 at hs
  refine aw_iconst (v := 0) (pc1 := 1) at_513_0 (by decide) rfl ?_
  refine aw_istore_n (lv1 := am_put1 _ 1 _) (pc1 := 2) at_513_1 rfl rfl ?_
  refine aw_iconst (v := 0) (pc1 := 3) at_513_2 (by decide) rfl ?_
  refine aw_istore_n (lv1 := am_put1 _ 2 _) (pc1 := 4) at_513_3 rfl rfl ?_
  exact rg_513_4 N x0 0 0 h o hs _ (am_lk1 (am_lk1 l0 rfl (by rw [am_isRc i0]; rfl)) rfl rfl) (am_lk1 am_lk0 rfl rfl) am_lk0 i0
def fm_513 (N : Nat) (y0 : Value) (h : am_H) : Option am_O := fg_513_0 N y0 h
theorem rm_513 {X : am_X} {d : Nat} {N : Nat} (y0 : Value) (h : am_H) (o : am_O) (i0 : am_isR y0 = true) (hs : fm_513 N y0 h = some o) : am_W X (d + 2) 513 0 (am_args 0 [y0]) [] h (fun q => q = o) := by
  rw [am_args_R i0]
  exact rg_513_0 y0 h o rfl i0 hs
def fg_515_32 (N : Nat) (rec_4 : Value → Int32 → Int32 → am_H → Option am_O) (x0 : Value) (x2 : Int32) (x3 : Int32) (h : am_H) : Option am_O := (rec_4 x0 x2 ((x3 + 1)) h)
theorem rg_515_32 {X : am_X} {d : Nat} {N : Nat} {rec_4 : Value → Int32 → Int32 → am_H → Option am_O} (q_4 : ∀ (x0 : Value) (x2 : Int32) (x3 : Int32) (h : am_H) (o : am_O), rec_4 x0 x2 x3 h = some o → ∀ lv : am_LV, (lv.lookup 0 = some x0) → (lv.lookup 2 = some (.int x2)) → (lv.lookup 3 = some (.int x3)) → (am_isR x0 = true) → am_W X (d + 2) 515 4 lv [] h (fun q => q = o)) {lv : am_LV} (x0 : Value) (x2 : Int32) (x3 : Int32) (h : am_H) (o : am_O) (l0 : lv.lookup 0 = some x0) (l2 : lv.lookup 2 = some (.int x2)) (l3 : lv.lookup 3 = some (.int x3)) (i0 : am_isR x0 = true) (hs : fg_515_32 N rec_4 x0 x2 x3 h = some o) : am_W X (d + 2) 515 32 lv [] h (fun q => q = o) := by
  unfold fg_515_32 at hs
  refine aw_iinc (v := (x3 + 1)) (c := 1) (lv1 := am_put1 _ 3 _) (pc1 := 35) at_515_32 l3 (by decide) rfl rfl rfl ?_
  refine aw_goto at_515_35 ?_
  exact q_4 x0 x2 ((x3 + 1)) h o hs _ (am_lk1 l0 rfl rfl) (am_lk1 l2 rfl rfl) am_lk0 i0
def fg_515_4 (N : Nat) : Nat → Value → Int32 → Int32 → am_H → Option am_O
  | 0 => fun _ _ _ _ => none
  | K + 1 => fun x0 x2 x3 h => ((am_vI (am_pG 3177 x0 h)).bind fun v1 => (if v1 ≤ x3 then some (.inl (some (.int (-1)), h)) else (if am_pOk 12 x0 h then am_cI true (fm_514 N x0 x3 h) (fun v5 h6 => (if ¬ v5 = 0 then (if ¬ x2 = 0 then (fg_515_32 N (fg_515_4 N K) x0 ((x2 + (-1))) x3 h6) else some (.inl (some (.int x3), h6))) else (fg_515_32 N (fg_515_4 N K) x0 x2 x3 h6))) else none)))
theorem rg_515_4 {X : am_X} {d : Nat} {N : Nat} : ∀ (K : Nat) (x0 : Value) (x2 : Int32) (x3 : Int32) (h : am_H) (o : am_O), fg_515_4 N K x0 x2 x3 h = some o → ∀ lv : am_LV, (lv.lookup 0 = some x0) → (lv.lookup 2 = some (.int x2)) → (lv.lookup 3 = some (.int x3)) → (am_isR x0 = true) → am_W X (d + 2) 515 4 lv [] h (fun q => q = o) := by
  intro K
  induction K with
  | zero => intro x0 x2 x3 h o hs; cases hs
  | succ K ih =>
    intro x0 x2 x3 h o hs lv l0 l2 l3 i0
    unfold fg_515_4 at hs
    refine aw_iload_n (pc1 := 5) at_515_4 l3 rfl ?_
    refine aw_vload_n (pc1 := 6) at_515_5 l0 i0 rfl ?_
    obtain ⟨v1, e2, hs1⟩ := am_bind hs
    clear hs
    refine aw_pG (pc1 := 9) at_515_6 (am_vI_s e2) rfl ?_
    by_cases c3 : v1 ≤ x3
    · rw [if_pos c3] at hs1
      refine aw_icge_t at_515_9 c3 ?_
      refine aw_iconst (v := (-1)) (pc1 := 39) at_515_38 (by decide) rfl ?_
      cases hs1
      exact aw_iret at_515_39 (by rw [rt_515]; rfl) rfl
    · rw [if_neg c3] at hs1
      refine aw_icge_f (pc1 := 12) at_515_9 c3 rfl ?_
      refine aw_vload_n (pc1 := 13) at_515_12 l0 i0 rfl ?_
      refine aw_iload_n (pc1 := 14) at_515_13 l3 rfl ?_
      obtain ⟨z4, hs2⟩ := am_ift hs1
      clear hs1
      refine aw_call (F := fm_514 N x0 x3 h) (t := true) (na := 2) (kd := 1) (as := [x0, (.int x3)]) at_515_14 (am_k3v kb_514) mn_514 mk_514 rfl rfl (am_ok_v mi_514 (am_hl rfl (am_ccR i0 (am_ccI am_cats_0)) rfl) z4) (am_hc am_cats_0 rfl) (fun _ => ⟨rfl, hh_515⟩) (fun o1 hz9 => rm_514 x0 x3 h o1 i0 hz9) ?_
      rcases am_cI_s hs2 with ⟨v5, h6, f7, hs3⟩ | hs3
      · clear hs2
        refine Or.inl ⟨_, _, f7, ?_⟩
        show am_W X _ 515 17 _ [(.int v5)] h6 _
        by_cases c8 : ¬ v5 = 0
        · rw [if_pos c8] at hs3
          refine aw_ifne_t at_515_17 c8 ?_
          refine aw_iload_n (pc1 := 24) at_515_23 l2 rfl ?_
          by_cases c9 : ¬ x2 = 0
          · rw [if_pos c9] at hs3
            refine aw_ifne_t at_515_24 c9 ?_
            refine aw_iinc (v := (x2 + (-1))) (c := (-1)) (lv1 := am_put1 _ 2 _) (pc1 := 32) at_515_29 l2 (by decide) rfl rfl rfl ?_
            exact rg_515_32 (fun z0 z1 z2 h o hs3 => ih z0 z1 z2 h o hs3) x0 ((x2 + (-1))) x3 h6 o (am_lk1 l0 rfl rfl) am_lk0 (am_lk1 l3 rfl rfl) i0 hs3
          · rw [if_neg c9] at hs3
            refine aw_ifne_f (pc1 := 27) at_515_24 c9 rfl ?_
            refine aw_iload_n (pc1 := 28) at_515_27 l3 rfl ?_
            cases hs3
            exact aw_iret at_515_28 (by rw [rt_515]; rfl) rfl
        · rw [if_neg c8] at hs3
          refine aw_ifne_f (pc1 := 20) at_515_17 c8 rfl ?_
          refine aw_goto at_515_20 ?_
          exact rg_515_32 (fun z0 z1 z2 h o hs3 => ih z0 z1 z2 h o hs3) x0 x2 x3 h6 o l0 l2 l3 i0 hs3
      · clear hs2
        exact Or.inr hs3
def fg_515_0 (N : Nat) (x0 : Value) (x1 : Int32) (h : am_H) : Option am_O := (fg_515_4 N N x0 x1 0 h)
theorem rg_515_0 {X : am_X} {d : Nat} {N : Nat} {lv : am_LV} (x0 : Value) (x1 : Int32) (h : am_H) (o : am_O) (l0 : lv.lookup 0 = some x0) (l1 : lv.lookup 1 = some (.int x1)) (i0 : am_isR x0 = true) (hs : fg_515_0 N x0 x1 h = some o) : am_W X (d + 2) 515 0 lv [] h (fun q => q = o) := by
  unfold fg_515_0 at hs
  refine aw_iload_n (pc1 := 1) at_515_0 l1 rfl ?_
  refine aw_istore_n (lv1 := am_put1 _ 2 _) (pc1 := 2) at_515_1 rfl rfl ?_
  refine aw_iconst (v := 0) (pc1 := 3) at_515_2 (by decide) rfl ?_
  refine aw_istore_n (lv1 := am_put1 _ 3 _) (pc1 := 4) at_515_3 rfl rfl ?_
  exact rg_515_4 N x0 x1 0 h o hs _ (am_lk1 (am_lk1 l0 rfl rfl) rfl rfl) (am_lk1 am_lk0 rfl rfl) am_lk0 i0
def fm_515 (N : Nat) (y0 : Value) (y1 : Int32) (h : am_H) : Option am_O := fg_515_0 N y0 y1 h
theorem rm_515 {X : am_X} {d : Nat} {N : Nat} (y0 : Value) (y1 : Int32) (h : am_H) (o : am_O) (i0 : am_isR y0 = true) (hs : fm_515 N y0 y1 h = some o) : am_W X (d + 2) 515 0 (am_args 0 [y0, .int y1]) [] h (fun q => q = o) := by
  rw [am_args_R i0, am_args_I]
  exact rg_515_0 y0 y1 h o rfl rfl i0 hs
def fg_516_198 (N : Nat) : Nat → Value → Int32 → am_H → Option am_O
  | 0 => fun _ _ _ => none
  | K + 1 => fun x0 x2 h => ((am_vR (am_pG 3181 x0 h)).bind fun v1 => ((am_pA 2 v1 x2 h).bind fun v3 => (if ¬ v3 = 0 then some (.inl (some (.int x2), h)) else (fg_516_198 N K x0 ((x2 + 1)) h))))
theorem rg_516_198 {X : am_X} {d : Nat} {N : Nat} : ∀ (K : Nat) (x0 : Value) (x2 : Int32) (h : am_H) (o : am_O), fg_516_198 N K x0 x2 h = some o → ∀ lv : am_LV, (lv.lookup 0 = some x0) → (lv.lookup 2 = some (.int x2)) → (am_isR x0 = true) → am_W X (d) 516 198 lv [] h (fun q => q = o) := by
  intro K
  induction K with
  | zero => intro x0 x2 h o hs; cases hs
  | succ K ih =>
    intro x0 x2 h o hs lv l0 l2 i0
    unfold fg_516_198 at hs
    refine aw_vload_n (pc1 := 199) at_516_198 l0 i0 rfl ?_
    obtain ⟨v1, e2, hs1⟩ := am_bind hs
    clear hs
    refine aw_pG (pc1 := 202) at_516_199 (am_vR_s e2).1 rfl ?_
    refine aw_iload_n (pc1 := 203) at_516_202 l2 rfl ?_
    obtain ⟨v3, e4, hs2⟩ := am_bind hs1
    clear hs1
    refine aw_pA (pc1 := 204) at_516_203 (Or.inr (Or.inl ⟨rfl, rfl⟩)) e4 rfl ?_
    by_cases c5 : ¬ v3 = 0
    · rw [if_pos c5] at hs2
      refine aw_ifne_t at_516_204 c5 ?_
      refine aw_iload_n (pc1 := 214) at_516_213 l2 rfl ?_
      cases hs2
      exact aw_iret at_516_214 (by rw [rt_516]; rfl) rfl
    · rw [if_neg c5] at hs2
      refine aw_ifne_f (pc1 := 207) at_516_204 c5 rfl ?_
      refine aw_iinc (v := (x2 + 1)) (c := 1) (lv1 := am_put1 _ 2 _) (pc1 := 210) at_516_207 l2 (by decide) rfl rfl rfl ?_
      refine aw_goto at_516_210 ?_
      exact ih x0 ((x2 + 1)) h o hs2 _ (am_lk1 l0 rfl rfl) am_lk0 i0
def fg_516_196 (N : Nat) (x0 : Value) (h : am_H) : Option am_O := (fg_516_198 N N x0 0 h)
theorem rg_516_196 {X : am_X} {d : Nat} {N : Nat} {lv : am_LV} (x0 : Value) (h : am_H) (o : am_O) (l0 : lv.lookup 0 = some x0) (i0 : am_isR x0 = true) (hs : fg_516_196 N x0 h = some o) : am_W X (d) 516 196 lv [] h (fun q => q = o) := by
  unfold fg_516_196 at hs
  refine aw_iconst (v := 0) (pc1 := 197) at_516_196 (by decide) rfl ?_
  refine aw_istore_n (lv1 := am_put1 _ 2 _) (pc1 := 198) at_516_197 rfl rfl ?_
  exact rg_516_198 N x0 0 h o hs _ (am_lk1 l0 rfl rfl) am_lk0 i0
def fg_516_182 (N : Nat) (rec_30 : Value → Int32 → Int32 → am_H → Option am_O) (rec_113 : Value → Int32 → Int32 → Int64 → Int32 → am_H → Option am_O) (x0 : Value) (x2 : Int32) (x3 : Int64) (x5 : Int32) (s0 : Int32) (s1 : Int32) (h : am_H) : Option am_O := (rec_113 x0 ((s0 + s1)) x2 x3 ((x5 + 1)) h)
theorem rg_516_182 {X : am_X} {d : Nat} {N : Nat} {rec_30 : Value → Int32 → Int32 → am_H → Option am_O} {rec_113 : Value → Int32 → Int32 → Int64 → Int32 → am_H → Option am_O} (q_30 : ∀ (x0 : Value) (x1 : Int32) (x2 : Int32) (h : am_H) (o : am_O), rec_30 x0 x1 x2 h = some o → ∀ lv : am_LV, (lv.lookup 0 = some x0) → (lv.lookup 1 = some (.int x1)) → (lv.lookup 2 = some (.int x2)) → (am_isR x0 = true) → am_W X (d) 516 30 lv [] h (fun q => q = o)) (q_113 : ∀ (x0 : Value) (x1 : Int32) (x2 : Int32) (x3 : Int64) (x5 : Int32) (h : am_H) (o : am_O), rec_113 x0 x1 x2 x3 x5 h = some o → ∀ lv : am_LV, (lv.lookup 0 = some x0) → (lv.lookup 1 = some (.int x1)) → (lv.lookup 2 = some (.int x2)) → (lv.lookup 3 = some (.long x3)) → (lv.lookup 5 = some (.int x5)) → (am_isR x0 = true) → am_W X (d) 516 113 lv [] h (fun q => q = o)) {lv : am_LV} (x0 : Value) (x2 : Int32) (x3 : Int64) (x5 : Int32) (s0 : Int32) (s1 : Int32) (h : am_H) (o : am_O) (l0 : lv.lookup 0 = some x0) (l2 : lv.lookup 2 = some (.int x2)) (l3 : lv.lookup 3 = some (.long x3)) (l5 : lv.lookup 5 = some (.int x5)) (i0 : am_isR x0 = true) (hs : fg_516_182 N rec_30 rec_113 x0 x2 x3 x5 s0 s1 h = some o) : am_W X (d) 516 182 lv [(.int s1), (.int s0)] h (fun q => q = o) := by
  unfold fg_516_182 at hs
  refine aw_iadd (v := (s0 + s1)) (pc1 := 183) at_516_182 rfl rfl ?_
  refine aw_istore_n (lv1 := am_put1 _ 1 _) (pc1 := 184) at_516_183 rfl rfl ?_
  refine aw_iinc (v := (x5 + 1)) (c := 1) (lv1 := am_put1 _ 5 _) (pc1 := 187) at_516_184 (am_lk1 l5 rfl rfl) (by decide) rfl rfl rfl ?_
  refine aw_goto at_516_187 ?_
  exact q_113 x0 ((s0 + s1)) x2 x3 ((x5 + 1)) h o hs _ (am_lk1 (am_lk1 l0 rfl (by rw [am_isRc i0]; rfl)) rfl rfl) (am_lk1 am_lk0 rfl rfl) (am_lk1 (am_lk1 l2 rfl rfl) rfl rfl) (am_lk1 (am_lk1 l3 rfl rfl) rfl rfl) am_lk0 i0
def fg_516_165 (N : Nat) (rec_30 : Value → Int32 → Int32 → am_H → Option am_O) (rec_113 : Value → Int32 → Int32 → Int64 → Int32 → am_H → Option am_O) (x0 : Value) (x1 : Int32) (x2 : Int32) (x3 : Int64) (x5 : Int32) (s0 : Value) (s1 : Int32) (s2 : Int32) (h : am_H) : Option am_O := ((am_pS 2 s0 s1 s2 h).bind fun h1 => ((am_vR (am_pG 3181 x0 h1)).bind fun v3 => ((am_pA 2 v3 x5 h1).bind fun v5 => (if v5 = 0 then (fg_516_182 N rec_30 rec_113 x0 x2 x3 x5 x1 0 h1) else (fg_516_182 N rec_30 rec_113 x0 x2 x3 x5 x1 1 h1)))))
theorem rg_516_165 {X : am_X} {d : Nat} {N : Nat} {rec_30 : Value → Int32 → Int32 → am_H → Option am_O} {rec_113 : Value → Int32 → Int32 → Int64 → Int32 → am_H → Option am_O} (q_30 : ∀ (x0 : Value) (x1 : Int32) (x2 : Int32) (h : am_H) (o : am_O), rec_30 x0 x1 x2 h = some o → ∀ lv : am_LV, (lv.lookup 0 = some x0) → (lv.lookup 1 = some (.int x1)) → (lv.lookup 2 = some (.int x2)) → (am_isR x0 = true) → am_W X (d) 516 30 lv [] h (fun q => q = o)) (q_113 : ∀ (x0 : Value) (x1 : Int32) (x2 : Int32) (x3 : Int64) (x5 : Int32) (h : am_H) (o : am_O), rec_113 x0 x1 x2 x3 x5 h = some o → ∀ lv : am_LV, (lv.lookup 0 = some x0) → (lv.lookup 1 = some (.int x1)) → (lv.lookup 2 = some (.int x2)) → (lv.lookup 3 = some (.long x3)) → (lv.lookup 5 = some (.int x5)) → (am_isR x0 = true) → am_W X (d) 516 113 lv [] h (fun q => q = o)) {lv : am_LV} (x0 : Value) (x1 : Int32) (x2 : Int32) (x3 : Int64) (x5 : Int32) (s0 : Value) (s1 : Int32) (s2 : Int32) (h : am_H) (o : am_O) (l0 : lv.lookup 0 = some x0) (l1 : lv.lookup 1 = some (.int x1)) (l2 : lv.lookup 2 = some (.int x2)) (l3 : lv.lookup 3 = some (.long x3)) (l5 : lv.lookup 5 = some (.int x5)) (i0 : am_isR x0 = true) (j0 : am_isR s0 = true) (hs : fg_516_165 N rec_30 rec_113 x0 x1 x2 x3 x5 s0 s1 s2 h = some o) : am_W X (d) 516 165 lv [(.int s2), (.int s1), s0] h (fun q => q = o) := by
  unfold fg_516_165 at hs
  obtain ⟨h1, e2, hs1⟩ := am_bind hs
  clear hs
  refine aw_pS (pc1 := 166) at_516_165 (Or.inr (Or.inl ⟨rfl, rfl⟩)) e2 rfl ?_
  refine aw_iload_n (pc1 := 167) at_516_166 l1 rfl ?_
  refine aw_vload_n (pc1 := 168) at_516_167 l0 i0 rfl ?_
  obtain ⟨v3, e4, hs2⟩ := am_bind hs1
  clear hs1
  refine aw_pG (pc1 := 171) at_516_168 (am_vR_s e4).1 rfl ?_
  refine aw_iload (pc1 := 173) at_516_171 l5 rfl ?_
  obtain ⟨v5, e6, hs3⟩ := am_bind hs2
  clear hs2
  refine aw_pA (pc1 := 174) at_516_173 (Or.inr (Or.inl ⟨rfl, rfl⟩)) e6 rfl ?_
  by_cases c7 : v5 = 0
  · rw [if_pos c7] at hs3
    refine aw_ifeq_t at_516_174 c7 ?_
    refine aw_iconst (v := 0) (pc1 := 182) at_516_181 (by decide) rfl ?_
    exact rg_516_182 q_30 q_113 x0 x2 x3 x5 x1 0 h1 o l0 l2 l3 l5 i0 hs3
  · rw [if_neg c7] at hs3
    refine aw_ifeq_f (pc1 := 177) at_516_174 c7 rfl ?_
    refine aw_iconst (v := 1) (pc1 := 178) at_516_177 (by decide) rfl ?_
    refine aw_goto at_516_178 ?_
    exact rg_516_182 q_30 q_113 x0 x2 x3 x5 x1 1 h1 o l0 l2 l3 l5 i0 hs3
def fg_516_164 (N : Nat) (rec_30 : Value → Int32 → Int32 → am_H → Option am_O) (rec_113 : Value → Int32 → Int32 → Int64 → Int32 → am_H → Option am_O) (x0 : Value) (x1 : Int32) (x2 : Int32) (x3 : Int64) (x5 : Int32) (s0 : Value) (s1 : Int32) (h : am_H) : Option am_O := (fg_516_165 N rec_30 rec_113 x0 x1 x2 x3 x5 s0 s1 0 h)
theorem rg_516_164 {X : am_X} {d : Nat} {N : Nat} {rec_30 : Value → Int32 → Int32 → am_H → Option am_O} {rec_113 : Value → Int32 → Int32 → Int64 → Int32 → am_H → Option am_O} (q_30 : ∀ (x0 : Value) (x1 : Int32) (x2 : Int32) (h : am_H) (o : am_O), rec_30 x0 x1 x2 h = some o → ∀ lv : am_LV, (lv.lookup 0 = some x0) → (lv.lookup 1 = some (.int x1)) → (lv.lookup 2 = some (.int x2)) → (am_isR x0 = true) → am_W X (d) 516 30 lv [] h (fun q => q = o)) (q_113 : ∀ (x0 : Value) (x1 : Int32) (x2 : Int32) (x3 : Int64) (x5 : Int32) (h : am_H) (o : am_O), rec_113 x0 x1 x2 x3 x5 h = some o → ∀ lv : am_LV, (lv.lookup 0 = some x0) → (lv.lookup 1 = some (.int x1)) → (lv.lookup 2 = some (.int x2)) → (lv.lookup 3 = some (.long x3)) → (lv.lookup 5 = some (.int x5)) → (am_isR x0 = true) → am_W X (d) 516 113 lv [] h (fun q => q = o)) {lv : am_LV} (x0 : Value) (x1 : Int32) (x2 : Int32) (x3 : Int64) (x5 : Int32) (s0 : Value) (s1 : Int32) (h : am_H) (o : am_O) (l0 : lv.lookup 0 = some x0) (l1 : lv.lookup 1 = some (.int x1)) (l2 : lv.lookup 2 = some (.int x2)) (l3 : lv.lookup 3 = some (.long x3)) (l5 : lv.lookup 5 = some (.int x5)) (i0 : am_isR x0 = true) (j0 : am_isR s0 = true) (hs : fg_516_164 N rec_30 rec_113 x0 x1 x2 x3 x5 s0 s1 h = some o) : am_W X (d) 516 164 lv [(.int s1), s0] h (fun q => q = o) := by
  unfold fg_516_164 at hs
  refine aw_iconst (v := 0) (pc1 := 165) at_516_164 (by decide) rfl ?_
  exact rg_516_165 q_30 q_113 x0 x1 x2 x3 x5 s0 s1 0 h o l0 l1 l2 l3 l5 i0 j0 hs
def fg_516_113 (N : Nat) (rec_30 : Value → Int32 → Int32 → am_H → Option am_O) : Nat → Value → Int32 → Int32 → Int64 → Int32 → am_H → Option am_O
  | 0 => fun _ _ _ _ _ _ => none
  | K + 1 => fun x0 x1 x2 x3 x5 h => ((am_vI (am_pG 3177 x0 h)).bind fun v1 => (if v1 ≤ x5 then (rec_30 x0 x1 ((x2 + 1)) h) else ((am_vR (am_pG 3181 x0 h)).bind fun v4 => ((am_vR (am_pG 3181 x0 h)).bind fun v6 => ((am_pA 2 v6 x5 h).bind fun v8 => (if v8 = 0 then (fg_516_164 N rec_30 (fg_516_113 N rec_30 K) x0 x1 x2 x3 x5 v4 x5 h) else ((am_vR (am_pG 3178 x0 h)).bind fun v11 => ((am_vR (am_pG 3179 x0 h)).bind fun v13 => ((am_pA 0 v13 x2 h).bind fun v15 => ((am_pAL v11 ((24 * x5) + v15) h).bind fun v17 => (if ¬ (lg_cmp v17 x3) = 0 then (fg_516_164 N rec_30 (fg_516_113 N rec_30 K) x0 x1 x2 x3 x5 v4 x5 h) else (fg_516_165 N rec_30 (fg_516_113 N rec_30 K) x0 x1 x2 x3 x5 v4 x5 1 h))))))))))))
theorem rg_516_113 {X : am_X} {d : Nat} {N : Nat} {rec_30 : Value → Int32 → Int32 → am_H → Option am_O} (q_30 : ∀ (x0 : Value) (x1 : Int32) (x2 : Int32) (h : am_H) (o : am_O), rec_30 x0 x1 x2 h = some o → ∀ lv : am_LV, (lv.lookup 0 = some x0) → (lv.lookup 1 = some (.int x1)) → (lv.lookup 2 = some (.int x2)) → (am_isR x0 = true) → am_W X (d) 516 30 lv [] h (fun q => q = o)) : ∀ (K : Nat) (x0 : Value) (x1 : Int32) (x2 : Int32) (x3 : Int64) (x5 : Int32) (h : am_H) (o : am_O), fg_516_113 N rec_30 K x0 x1 x2 x3 x5 h = some o → ∀ lv : am_LV, (lv.lookup 0 = some x0) → (lv.lookup 1 = some (.int x1)) → (lv.lookup 2 = some (.int x2)) → (lv.lookup 3 = some (.long x3)) → (lv.lookup 5 = some (.int x5)) → (am_isR x0 = true) → am_W X (d) 516 113 lv [] h (fun q => q = o) := by
  intro K
  induction K with
  | zero => intro x0 x1 x2 x3 x5 h o hs; cases hs
  | succ K ih =>
    intro x0 x1 x2 x3 x5 h o hs lv l0 l1 l2 l3 l5 i0
    unfold fg_516_113 at hs
    refine aw_iload (pc1 := 115) at_516_113 l5 rfl ?_
    refine aw_vload_n (pc1 := 116) at_516_115 l0 i0 rfl ?_
    obtain ⟨v1, e2, hs1⟩ := am_bind hs
    clear hs
    refine aw_pG (pc1 := 119) at_516_116 (am_vI_s e2) rfl ?_
    by_cases c3 : v1 ≤ x5
    · rw [if_pos c3] at hs1
      refine aw_icge_t at_516_119 c3 ?_
      refine aw_iinc (v := (x2 + 1)) (c := 1) (lv1 := am_put1 _ 2 _) (pc1 := 193) at_516_190 l2 (by decide) rfl rfl rfl ?_
      refine aw_goto at_516_193 ?_
      exact q_30 x0 x1 ((x2 + 1)) h o hs1 _ (am_lk1 l0 rfl rfl) (am_lk1 l1 rfl rfl) am_lk0 i0
    · rw [if_neg c3] at hs1
      refine aw_icge_f (pc1 := 122) at_516_119 c3 rfl ?_
      refine aw_vload_n (pc1 := 123) at_516_122 l0 i0 rfl ?_
      obtain ⟨v4, e5, hs2⟩ := am_bind hs1
      clear hs1
      refine aw_pG (pc1 := 126) at_516_123 (am_vR_s e5).1 rfl ?_
      refine aw_iload (pc1 := 128) at_516_126 l5 rfl ?_
      refine aw_vload_n (pc1 := 129) at_516_128 l0 i0 rfl ?_
      obtain ⟨v6, e7, hs3⟩ := am_bind hs2
      clear hs2
      refine aw_pG (pc1 := 132) at_516_129 (am_vR_s e7).1 rfl ?_
      refine aw_iload (pc1 := 134) at_516_132 l5 rfl ?_
      obtain ⟨v8, e9, hs4⟩ := am_bind hs3
      clear hs3
      refine aw_pA (pc1 := 135) at_516_134 (Or.inr (Or.inl ⟨rfl, rfl⟩)) e9 rfl ?_
      by_cases c10 : v8 = 0
      · rw [if_pos c10] at hs4
        refine aw_ifeq_t at_516_135 c10 ?_
        exact rg_516_164 q_30 (fun z0 z1 z2 z3 z4 h o hs4 => ih z0 z1 z2 z3 z4 h o hs4) x0 x1 x2 x3 x5 v4 x5 h o l0 l1 l2 l3 l5 i0 (am_vR_s e5).2 hs4
      · rw [if_neg c10] at hs4
        refine aw_ifeq_f (pc1 := 138) at_516_135 c10 rfl ?_
        refine aw_vload_n (pc1 := 139) at_516_138 l0 i0 rfl ?_
        obtain ⟨v11, e12, hs5⟩ := am_bind hs4
        clear hs4
        refine aw_pG (pc1 := 142) at_516_139 (am_vR_s e12).1 rfl ?_
        refine aw_bipush (v := 24) (pc1 := 144) at_516_142 (by decide) rfl ?_
        refine aw_iload (pc1 := 146) at_516_144 l5 rfl ?_
        refine aw_imul (v := (24 * x5)) (pc1 := 147) at_516_146 rfl rfl ?_
        refine aw_vload_n (pc1 := 148) at_516_147 l0 i0 rfl ?_
        obtain ⟨v13, e14, hs6⟩ := am_bind hs5
        clear hs5
        refine aw_pG (pc1 := 151) at_516_148 (am_vR_s e14).1 rfl ?_
        refine aw_iload_n (pc1 := 152) at_516_151 l2 rfl ?_
        obtain ⟨v15, e16, hs7⟩ := am_bind hs6
        clear hs6
        refine aw_pA (pc1 := 153) at_516_152 (Or.inl ⟨rfl, rfl⟩) e16 rfl ?_
        refine aw_iadd (v := ((24 * x5) + v15)) (pc1 := 154) at_516_153 rfl rfl ?_
        obtain ⟨v17, e18, hs8⟩ := am_bind hs7
        clear hs7
        refine aw_pAL (pc1 := 155) at_516_154 e18 rfl ?_
        refine aw_lload_n (pc1 := 156) at_516_155 l3 rfl ?_
        refine aw_lcmp (v := (lg_cmp v17 x3)) (pc1 := 157) at_516_156 rfl rfl ?_
        by_cases c19 : ¬ (lg_cmp v17 x3) = 0
        · rw [if_pos c19] at hs8
          refine aw_ifne_t at_516_157 c19 ?_
          exact rg_516_164 q_30 (fun z0 z1 z2 z3 z4 h o hs8 => ih z0 z1 z2 z3 z4 h o hs8) x0 x1 x2 x3 x5 v4 x5 h o l0 l1 l2 l3 l5 i0 (am_vR_s e5).2 hs8
        · rw [if_neg c19] at hs8
          refine aw_ifne_f (pc1 := 160) at_516_157 c19 rfl ?_
          refine aw_iconst (v := 1) (pc1 := 161) at_516_160 (by decide) rfl ?_
          refine aw_goto at_516_161 ?_
          exact rg_516_165 q_30 (fun z0 z1 z2 z3 z4 h o hs8 => ih z0 z1 z2 z3 z4 h o hs8) x0 x1 x2 x3 x5 v4 x5 1 h o l0 l1 l2 l3 l5 i0 (am_vR_s e5).2 hs8
def fg_516_101 (N : Nat) (rec_30 : Value → Int32 → Int32 → am_H → Option am_O) (rec_50 : Value → Int32 → Int64 → Int32 → am_H → Option am_O) (x0 : Value) (x2 : Int32) (x5 : Int32) (s0 : Int64) (h : am_H) : Option am_O := (rec_50 x0 x2 s0 ((x5 + 1)) h)
theorem rg_516_101 {X : am_X} {d : Nat} {N : Nat} {rec_30 : Value → Int32 → Int32 → am_H → Option am_O} {rec_50 : Value → Int32 → Int64 → Int32 → am_H → Option am_O} (q_30 : ∀ (x0 : Value) (x1 : Int32) (x2 : Int32) (h : am_H) (o : am_O), rec_30 x0 x1 x2 h = some o → ∀ lv : am_LV, (lv.lookup 0 = some x0) → (lv.lookup 1 = some (.int x1)) → (lv.lookup 2 = some (.int x2)) → (am_isR x0 = true) → am_W X (d) 516 30 lv [] h (fun q => q = o)) (q_50 : ∀ (x0 : Value) (x2 : Int32) (x3 : Int64) (x5 : Int32) (h : am_H) (o : am_O), rec_50 x0 x2 x3 x5 h = some o → ∀ lv : am_LV, (lv.lookup 0 = some x0) → (lv.lookup 2 = some (.int x2)) → (lv.lookup 3 = some (.long x3)) → (lv.lookup 5 = some (.int x5)) → (am_isR x0 = true) → am_W X (d) 516 50 lv [] h (fun q => q = o)) {lv : am_LV} (x0 : Value) (x2 : Int32) (x5 : Int32) (s0 : Int64) (h : am_H) (o : am_O) (l0 : lv.lookup 0 = some x0) (l2 : lv.lookup 2 = some (.int x2)) (l5 : lv.lookup 5 = some (.int x5)) (i0 : am_isR x0 = true) (hs : fg_516_101 N rec_30 rec_50 x0 x2 x5 s0 h = some o) : am_W X (d) 516 101 lv [(.long s0)] h (fun q => q = o) := by
  unfold fg_516_101 at hs
  refine aw_lstore_n (lv1 := am_put2 _ 3 _) (pc1 := 102) at_516_101 rfl rfl ?_
  refine aw_iinc (v := (x5 + 1)) (c := 1) (lv1 := am_put1 _ 5 _) (pc1 := 105) at_516_102 (am_lk2 l5 rfl rfl) (by decide) rfl rfl rfl ?_
  refine aw_goto at_516_105 ?_
  exact q_50 x0 x2 s0 ((x5 + 1)) h o hs _ (am_lk1 (am_lk2 l0 rfl rfl) rfl rfl) (am_lk1 (am_lk2 l2 rfl rfl) rfl rfl) (am_lk1 am_lk02 rfl rfl) am_lk0 i0
def fg_516_100 (N : Nat) (rec_30 : Value → Int32 → Int32 → am_H → Option am_O) (rec_50 : Value → Int32 → Int64 → Int32 → am_H → Option am_O) (x0 : Value) (x2 : Int32) (x3 : Int64) (x5 : Int32) (h : am_H) : Option am_O := (fg_516_101 N rec_30 rec_50 x0 x2 x5 x3 h)
theorem rg_516_100 {X : am_X} {d : Nat} {N : Nat} {rec_30 : Value → Int32 → Int32 → am_H → Option am_O} {rec_50 : Value → Int32 → Int64 → Int32 → am_H → Option am_O} (q_30 : ∀ (x0 : Value) (x1 : Int32) (x2 : Int32) (h : am_H) (o : am_O), rec_30 x0 x1 x2 h = some o → ∀ lv : am_LV, (lv.lookup 0 = some x0) → (lv.lookup 1 = some (.int x1)) → (lv.lookup 2 = some (.int x2)) → (am_isR x0 = true) → am_W X (d) 516 30 lv [] h (fun q => q = o)) (q_50 : ∀ (x0 : Value) (x2 : Int32) (x3 : Int64) (x5 : Int32) (h : am_H) (o : am_O), rec_50 x0 x2 x3 x5 h = some o → ∀ lv : am_LV, (lv.lookup 0 = some x0) → (lv.lookup 2 = some (.int x2)) → (lv.lookup 3 = some (.long x3)) → (lv.lookup 5 = some (.int x5)) → (am_isR x0 = true) → am_W X (d) 516 50 lv [] h (fun q => q = o)) {lv : am_LV} (x0 : Value) (x2 : Int32) (x3 : Int64) (x5 : Int32) (h : am_H) (o : am_O) (l0 : lv.lookup 0 = some x0) (l2 : lv.lookup 2 = some (.int x2)) (l3 : lv.lookup 3 = some (.long x3)) (l5 : lv.lookup 5 = some (.int x5)) (i0 : am_isR x0 = true) (hs : fg_516_100 N rec_30 rec_50 x0 x2 x3 x5 h = some o) : am_W X (d) 516 100 lv [] h (fun q => q = o) := by
  unfold fg_516_100 at hs
  refine aw_lload_n (pc1 := 101) at_516_100 l3 rfl ?_
  exact rg_516_101 q_30 q_50 x0 x2 x5 x3 h o l0 l2 l5 i0 hs
def fg_516_50 (N : Nat) (rec_30 : Value → Int32 → Int32 → am_H → Option am_O) : Nat → Value → Int32 → Int64 → Int32 → am_H → Option am_O
  | 0 => fun _ _ _ _ _ => none
  | K + 1 => fun x0 x2 x3 x5 h => ((am_vI (am_pG 3177 x0 h)).bind fun v1 => (if v1 ≤ x5 then (fg_516_113 N rec_30 N x0 0 x2 x3 0 h) else ((am_vR (am_pG 3178 x0 h)).bind fun v4 => ((am_vR (am_pG 3179 x0 h)).bind fun v6 => ((am_pA 0 v6 x2 h).bind fun v8 => ((am_pAL v4 ((24 * x5) + v8) h).bind fun v10 => ((am_vR (am_pG 3181 x0 h)).bind fun v12 => ((am_pA 2 v12 x5 h).bind fun v14 => (if v14 = 0 then (fg_516_100 N rec_30 (fg_516_50 N rec_30 K) x0 x2 x3 x5 h) else (if 0 ≤ (lg_cmp v10 x3) then (fg_516_100 N rec_30 (fg_516_50 N rec_30 K) x0 x2 x3 x5 h) else (fg_516_101 N rec_30 (fg_516_50 N rec_30 K) x0 x2 x5 v10 h)))))))))))
theorem rg_516_50 {X : am_X} {d : Nat} {N : Nat} {rec_30 : Value → Int32 → Int32 → am_H → Option am_O} (q_30 : ∀ (x0 : Value) (x1 : Int32) (x2 : Int32) (h : am_H) (o : am_O), rec_30 x0 x1 x2 h = some o → ∀ lv : am_LV, (lv.lookup 0 = some x0) → (lv.lookup 1 = some (.int x1)) → (lv.lookup 2 = some (.int x2)) → (am_isR x0 = true) → am_W X (d) 516 30 lv [] h (fun q => q = o)) : ∀ (K : Nat) (x0 : Value) (x2 : Int32) (x3 : Int64) (x5 : Int32) (h : am_H) (o : am_O), fg_516_50 N rec_30 K x0 x2 x3 x5 h = some o → ∀ lv : am_LV, (lv.lookup 0 = some x0) → (lv.lookup 2 = some (.int x2)) → (lv.lookup 3 = some (.long x3)) → (lv.lookup 5 = some (.int x5)) → (am_isR x0 = true) → am_W X (d) 516 50 lv [] h (fun q => q = o) := by
  intro K
  induction K with
  | zero => intro x0 x2 x3 x5 h o hs; cases hs
  | succ K ih =>
    intro x0 x2 x3 x5 h o hs lv l0 l2 l3 l5 i0
    unfold fg_516_50 at hs
    refine aw_iload (pc1 := 52) at_516_50 l5 rfl ?_
    refine aw_vload_n (pc1 := 53) at_516_52 l0 i0 rfl ?_
    obtain ⟨v1, e2, hs1⟩ := am_bind hs
    clear hs
    refine aw_pG (pc1 := 56) at_516_53 (am_vI_s e2) rfl ?_
    by_cases c3 : v1 ≤ x5
    · rw [if_pos c3] at hs1
      refine aw_icge_t at_516_56 c3 ?_
      refine aw_iconst (v := 0) (pc1 := 109) at_516_108 (by decide) rfl ?_
      refine aw_istore_n (lv1 := am_put1 _ 1 _) (pc1 := 110) at_516_109 rfl rfl ?_
      refine aw_iconst (v := 0) (pc1 := 111) at_516_110 (by decide) rfl ?_
      refine aw_istore (lv1 := am_put1 _ 5 _) (pc1 := 113) at_516_111 rfl rfl ?_
      exact rg_516_113 q_30 N x0 0 x2 x3 0 h o hs1 _ (am_lk1 (am_lk1 l0 rfl (by rw [am_isRc i0]; rfl)) rfl rfl) (am_lk1 am_lk0 rfl rfl) (am_lk1 (am_lk1 l2 rfl rfl) rfl rfl) (am_lk1 (am_lk1 l3 rfl rfl) rfl rfl) am_lk0 i0
    · rw [if_neg c3] at hs1
      refine aw_icge_f (pc1 := 59) at_516_56 c3 rfl ?_
      refine aw_vload_n (pc1 := 60) at_516_59 l0 i0 rfl ?_
      obtain ⟨v4, e5, hs2⟩ := am_bind hs1
      clear hs1
      refine aw_pG (pc1 := 63) at_516_60 (am_vR_s e5).1 rfl ?_
      refine aw_bipush (v := 24) (pc1 := 65) at_516_63 (by decide) rfl ?_
      refine aw_iload (pc1 := 67) at_516_65 l5 rfl ?_
      refine aw_imul (v := (24 * x5)) (pc1 := 68) at_516_67 rfl rfl ?_
      refine aw_vload_n (pc1 := 69) at_516_68 l0 i0 rfl ?_
      obtain ⟨v6, e7, hs3⟩ := am_bind hs2
      clear hs2
      refine aw_pG (pc1 := 72) at_516_69 (am_vR_s e7).1 rfl ?_
      refine aw_iload_n (pc1 := 73) at_516_72 l2 rfl ?_
      obtain ⟨v8, e9, hs4⟩ := am_bind hs3
      clear hs3
      refine aw_pA (pc1 := 74) at_516_73 (Or.inl ⟨rfl, rfl⟩) e9 rfl ?_
      refine aw_iadd (v := ((24 * x5) + v8)) (pc1 := 75) at_516_74 rfl rfl ?_
      obtain ⟨v10, e11, hs5⟩ := am_bind hs4
      clear hs4
      refine aw_pAL (pc1 := 76) at_516_75 e11 rfl ?_
      refine aw_lstore (lv1 := am_put2 _ 6 _) (pc1 := 78) at_516_76 rfl rfl ?_
      refine aw_vload_n (pc1 := 79) at_516_78 (am_lk2 l0 rfl rfl) i0 rfl ?_
      obtain ⟨v12, e13, hs6⟩ := am_bind hs5
      clear hs5
      refine aw_pG (pc1 := 82) at_516_79 (am_vR_s e13).1 rfl ?_
      refine aw_iload (pc1 := 84) at_516_82 (am_lk2 l5 rfl rfl) rfl ?_
      obtain ⟨v14, e15, hs7⟩ := am_bind hs6
      clear hs6
      refine aw_pA (pc1 := 85) at_516_84 (Or.inr (Or.inl ⟨rfl, rfl⟩)) e15 rfl ?_
      by_cases c16 : v14 = 0
      · rw [if_pos c16] at hs7
        refine aw_ifeq_t at_516_85 c16 ?_
        exact rg_516_100 q_30 (fun z0 z1 z2 z3 h o hs7 => ih z0 z1 z2 z3 h o hs7) x0 x2 x3 x5 h o (am_lk2 l0 rfl rfl) (am_lk2 l2 rfl rfl) (am_lk2 l3 rfl rfl) (am_lk2 l5 rfl rfl) i0 hs7
      · rw [if_neg c16] at hs7
        refine aw_ifeq_f (pc1 := 88) at_516_85 c16 rfl ?_
        refine aw_lload (pc1 := 90) at_516_88 am_lk02 rfl ?_
        refine aw_lload_n (pc1 := 91) at_516_90 (am_lk2 l3 rfl rfl) rfl ?_
        refine aw_lcmp (v := (lg_cmp v10 x3)) (pc1 := 92) at_516_91 rfl rfl ?_
        by_cases c17 : 0 ≤ (lg_cmp v10 x3)
        · rw [if_pos c17] at hs7
          refine aw_ifge_t at_516_92 c17 ?_
          exact rg_516_100 q_30 (fun z0 z1 z2 z3 h o hs7 => ih z0 z1 z2 z3 h o hs7) x0 x2 x3 x5 h o (am_lk2 l0 rfl rfl) (am_lk2 l2 rfl rfl) (am_lk2 l3 rfl rfl) (am_lk2 l5 rfl rfl) i0 hs7
        · rw [if_neg c17] at hs7
          refine aw_ifge_f (pc1 := 95) at_516_92 c17 rfl ?_
          refine aw_lload (pc1 := 97) at_516_95 am_lk02 rfl ?_
          refine aw_goto at_516_97 ?_
          exact rg_516_101 q_30 (fun z0 z1 z2 z3 h o hs7 => ih z0 z1 z2 z3 h o hs7) x0 x2 x5 v10 h o (am_lk2 l0 rfl rfl) (am_lk2 l2 rfl rfl) (am_lk2 l5 rfl rfl) i0 hs7
def fg_516_30 (N : Nat) : Nat → Value → Int32 → Int32 → am_H → Option am_O
  | 0 => fun _ _ _ _ => none
  | K + 1 => fun x0 x1 x2 h => ((am_vI (am_pG 3180 x0 h)).bind fun v1 => (if v1 ≤ x2 then (fg_516_196 N x0 h) else (if x1 ≤ 1 then (fg_516_196 N x0 h) else (fg_516_50 N (fg_516_30 N K) N x0 x2 3000000 0 h))))
theorem rg_516_30 {X : am_X} {d : Nat} {N : Nat} : ∀ (K : Nat) (x0 : Value) (x1 : Int32) (x2 : Int32) (h : am_H) (o : am_O), fg_516_30 N K x0 x1 x2 h = some o → ∀ lv : am_LV, (lv.lookup 0 = some x0) → (lv.lookup 1 = some (.int x1)) → (lv.lookup 2 = some (.int x2)) → (am_isR x0 = true) → am_W X (d) 516 30 lv [] h (fun q => q = o) := by
  intro K
  induction K with
  | zero => intro x0 x1 x2 h o hs; cases hs
  | succ K ih =>
    intro x0 x1 x2 h o hs lv l0 l1 l2 i0
    unfold fg_516_30 at hs
    refine aw_iload_n (pc1 := 31) at_516_30 l2 rfl ?_
    refine aw_vload_n (pc1 := 32) at_516_31 l0 i0 rfl ?_
    obtain ⟨v1, e2, hs1⟩ := am_bind hs
    clear hs
    refine aw_pG (pc1 := 35) at_516_32 (am_vI_s e2) rfl ?_
    by_cases c3 : v1 ≤ x2
    · rw [if_pos c3] at hs1
      refine aw_icge_t at_516_35 c3 ?_
      exact rg_516_196 x0 h o l0 i0 hs1
    · rw [if_neg c3] at hs1
      refine aw_icge_f (pc1 := 38) at_516_35 c3 rfl ?_
      refine aw_iload_n (pc1 := 39) at_516_38 l1 rfl ?_
      refine aw_iconst (v := 1) (pc1 := 40) at_516_39 (by decide) rfl ?_
      by_cases c4 : x1 ≤ 1
      · rw [if_pos c4] at hs1
        refine aw_icle_t at_516_40 c4 ?_
        exact rg_516_196 x0 h o l0 i0 hs1
      · rw [if_neg c4] at hs1
        refine aw_icle_f (pc1 := 43) at_516_40 c4 rfl ?_
        refine aw_ldc2 (v := 3000000) (pc1 := 46) at_516_43 rfl rfl ?_
        refine aw_lstore_n (lv1 := am_put2 _ 3 _) (pc1 := 47) at_516_46 rfl rfl ?_
        refine aw_iconst (v := 0) (pc1 := 48) at_516_47 (by decide) rfl ?_
        refine aw_istore (lv1 := am_put1 _ 5 _) (pc1 := 50) at_516_48 rfl rfl ?_
        exact rg_516_50 (fun z0 z1 z2 h o hs1 => ih z0 z1 z2 h o hs1) N x0 x2 3000000 0 h o hs1 _ (am_lk1 (am_lk2 l0 rfl rfl) rfl rfl) (am_lk1 (am_lk2 l2 rfl rfl) rfl rfl) (am_lk1 am_lk02 rfl rfl) am_lk0 i0
def fg_516_7 (N : Nat) : Nat → Value → Int32 → Int32 → am_H → Option am_O
  | 0 => fun _ _ _ _ => none
  | K + 1 => fun x0 x1 x2 h => ((am_vI (am_pG 3177 x0 h)).bind fun v1 => (if v1 ≤ x2 then (fg_516_30 N N x0 x1 0 h) else ((am_vR (am_pG 3181 x0 h)).bind fun v4 => ((am_pS 2 v4 x2 1 h).bind fun h6 => (fg_516_7 N K x0 x1 ((x2 + 1)) h6)))))
theorem rg_516_7 {X : am_X} {d : Nat} {N : Nat} : ∀ (K : Nat) (x0 : Value) (x1 : Int32) (x2 : Int32) (h : am_H) (o : am_O), fg_516_7 N K x0 x1 x2 h = some o → ∀ lv : am_LV, (lv.lookup 0 = some x0) → (lv.lookup 1 = some (.int x1)) → (lv.lookup 2 = some (.int x2)) → (am_isR x0 = true) → am_W X (d) 516 7 lv [] h (fun q => q = o) := by
  intro K
  induction K with
  | zero => intro x0 x1 x2 h o hs; cases hs
  | succ K ih =>
    intro x0 x1 x2 h o hs lv l0 l1 l2 i0
    unfold fg_516_7 at hs
    refine aw_iload_n (pc1 := 8) at_516_7 l2 rfl ?_
    refine aw_vload_n (pc1 := 9) at_516_8 l0 i0 rfl ?_
    obtain ⟨v1, e2, hs1⟩ := am_bind hs
    clear hs
    refine aw_pG (pc1 := 12) at_516_9 (am_vI_s e2) rfl ?_
    by_cases c3 : v1 ≤ x2
    · rw [if_pos c3] at hs1
      refine aw_icge_t at_516_12 c3 ?_
      refine aw_iconst (v := 0) (pc1 := 29) at_516_28 (by decide) rfl ?_
      refine aw_istore_n (lv1 := am_put1 _ 2 _) (pc1 := 30) at_516_29 rfl rfl ?_
      exact rg_516_30 N x0 x1 0 h o hs1 _ (am_lk1 l0 rfl rfl) (am_lk1 l1 rfl rfl) am_lk0 i0
    · rw [if_neg c3] at hs1
      refine aw_icge_f (pc1 := 15) at_516_12 c3 rfl ?_
      refine aw_vload_n (pc1 := 16) at_516_15 l0 i0 rfl ?_
      obtain ⟨v4, e5, hs2⟩ := am_bind hs1
      clear hs1
      refine aw_pG (pc1 := 19) at_516_16 (am_vR_s e5).1 rfl ?_
      refine aw_iload_n (pc1 := 20) at_516_19 l2 rfl ?_
      refine aw_iconst (v := 1) (pc1 := 21) at_516_20 (by decide) rfl ?_
      obtain ⟨h6, e7, hs3⟩ := am_bind hs2
      clear hs2
      refine aw_pS (pc1 := 22) at_516_21 (Or.inr (Or.inl ⟨rfl, rfl⟩)) e7 rfl ?_
      refine aw_iinc (v := (x2 + 1)) (c := 1) (lv1 := am_put1 _ 2 _) (pc1 := 25) at_516_22 l2 (by decide) rfl rfl rfl ?_
      refine aw_goto at_516_25 ?_
      exact ih x0 x1 ((x2 + 1)) h6 o hs3 _ (am_lk1 l0 rfl rfl) (am_lk1 l1 rfl rfl) am_lk0 i0
def fg_516_0 (N : Nat) (x0 : Value) (h : am_H) : Option am_O := ((am_vI (am_pG 3177 x0 h)).bind fun v1 => (fg_516_7 N N x0 v1 0 h))
theorem rg_516_0 {X : am_X} {d : Nat} {N : Nat} {lv : am_LV} (x0 : Value) (h : am_H) (o : am_O) (l0 : lv.lookup 0 = some x0) (i0 : am_isR x0 = true) (hs : fg_516_0 N x0 h = some o) : am_W X (d) 516 0 lv [] h (fun q => q = o) := by
  unfold fg_516_0 at hs
  refine aw_vload_n (pc1 := 1) at_516_0 l0 i0 rfl ?_
  obtain ⟨v1, e2, hs1⟩ := am_bind hs
  clear hs
  refine aw_pG (pc1 := 4) at_516_1 (am_vI_s e2) rfl ?_
  refine aw_istore_n (lv1 := am_put1 _ 1 _) (pc1 := 5) at_516_4 rfl rfl ?_
  refine aw_iconst (v := 0) (pc1 := 6) at_516_5 (by decide) rfl ?_
  refine aw_istore_n (lv1 := am_put1 _ 2 _) (pc1 := 7) at_516_6 rfl rfl ?_
  exact rg_516_7 N x0 v1 0 h o hs1 _ (am_lk1 (am_lk1 l0 rfl (by rw [am_isRc i0]; rfl)) rfl rfl) (am_lk1 am_lk0 rfl rfl) am_lk0 i0
def fm_516 (N : Nat) (y0 : Value) (h : am_H) : Option am_O := fg_516_0 N y0 h
theorem rm_516 {X : am_X} {d : Nat} {N : Nat} (y0 : Value) (h : am_H) (o : am_O) (i0 : am_isR y0 = true) (hs : fm_516 N y0 h = some o) : am_W X (d) 516 0 (am_args 0 [y0]) [] h (fun q => q = o) := by
  rw [am_args_R i0]
  exact rg_516_0 y0 h o rfl i0 hs
def fg_511_72 (N : Nat) : Nat → Value → Int32 → am_H → Option am_O
  | 0 => fun _ _ _ => none
  | K + 1 => fun x0 x1 h => (if x1 ≤ 0 then ((am_vR (am_pG 3176 x0 h)).bind fun v2 => (if am_pOk 12 x0 h then am_cI true (fm_516 N x0 h) (fun v5 h6 => ((am_pA 0 v2 v5 h6).bind fun v8 => some (.inl (some (.int v8), h6)))) else none)) else (if am_pOk 12 x0 h then am_cI true (fm_474 x0 ((x1 + 1)) h) (fun v11 h12 => ((am_vR (am_pG 3179 x0 h12)).bind fun v14 => ((am_pA 0 v14 x1 h12).bind fun v16 => ((am_vR (am_pG 3179 x0 h12)).bind fun v18 => ((am_vR (am_pG 3179 x0 h12)).bind fun v20 => ((am_pA 0 v20 v11 h12).bind fun v22 => ((am_pS 0 v18 x1 v22 h12).bind fun h24 => ((am_vR (am_pG 3179 x0 h24)).bind fun v26 => ((am_pS 0 v26 v11 v16 h24).bind fun h28 => (fg_511_72 N K x0 ((x1 + (-1))) h28)))))))))) else none))
theorem rg_511_72 {X : am_X} {d : Nat} {N : Nat} : ∀ (K : Nat) (x0 : Value) (x1 : Int32) (h : am_H) (o : am_O), fg_511_72 N K x0 x1 h = some o → ∀ lv : am_LV, (lv.lookup 0 = some x0) → (lv.lookup 1 = some (.int x1)) → (am_isR x0 = true) → am_W X (d + 3) 511 72 lv [] h (fun q => q = o) := by
  intro K
  induction K with
  | zero => intro x0 x1 h o hs; cases hs
  | succ K ih =>
    intro x0 x1 h o hs lv l0 l1 i0
    unfold fg_511_72 at hs
    refine aw_iload_n (pc1 := 73) at_511_72 l1 rfl ?_
    by_cases c1 : x1 ≤ 0
    · rw [if_pos c1] at hs
      refine aw_ifle_t at_511_73 c1 ?_
      refine aw_vload_n (pc1 := 117) at_511_116 l0 i0 rfl ?_
      obtain ⟨v2, e3, hs1⟩ := am_bind hs
      clear hs
      refine aw_pG (pc1 := 120) at_511_117 (am_vR_s e3).1 rfl ?_
      refine aw_vload_n (pc1 := 121) at_511_120 l0 i0 rfl ?_
      obtain ⟨z4, hs2⟩ := am_ift hs1
      clear hs1
      refine aw_call (F := fm_516 N x0 h) (t := true) (na := 1) (kd := 1) (as := [x0]) at_511_121 (am_k3v kb_516) mn_516 mk_516 rfl rfl (am_ok_v mi_516 (am_hl rfl (am_ccR i0 am_cats_0) rfl) z4) (am_hc (am_ccR (am_vR_s e3).2 am_cats_0) rfl) (fun _ => ⟨rfl, hh_511⟩) (fun o1 hz9 => rm_516 x0 h o1 i0 hz9) ?_
      rcases am_cI_s hs2 with ⟨v5, h6, f7, hs3⟩ | hs3
      · clear hs2
        refine Or.inl ⟨_, _, f7, ?_⟩
        show am_W X _ 511 124 _ [(.int v5), v2] h6 _
        obtain ⟨v8, e9, hs4⟩ := am_bind hs3
        clear hs3
        refine aw_pA (pc1 := 125) at_511_124 (Or.inl ⟨rfl, rfl⟩) e9 rfl ?_
        cases hs4
        exact aw_iret at_511_125 (by rw [rt_511]; rfl) rfl
      · clear hs2
        exact Or.inr hs3
    · rw [if_neg c1] at hs
      refine aw_ifle_f (pc1 := 76) at_511_73 c1 rfl ?_
      refine aw_vload_n (pc1 := 77) at_511_76 l0 i0 rfl ?_
      refine aw_iload_n (pc1 := 78) at_511_77 l1 rfl ?_
      refine aw_iconst (v := 1) (pc1 := 79) at_511_78 (by decide) rfl ?_
      refine aw_iadd (v := (x1 + 1)) (pc1 := 80) at_511_79 rfl rfl ?_
      obtain ⟨z10, hs5⟩ := am_ift hs
      clear hs
      refine aw_call (F := fm_474 x0 ((x1 + 1)) h) (t := true) (na := 2) (kd := 1) (as := [x0, (.int (x1 + 1))]) at_511_80 (am_k3v kb_474) mn_474 mk_474 rfl rfl (am_ok_v mi_474 (am_hl rfl (am_ccR i0 (am_ccI am_cats_0)) rfl) z10) (am_hc am_cats_0 rfl) (fun _ => ⟨rfl, hh_511⟩) (fun o1 hz9 => rm_474 x0 ((x1 + 1)) h o1 i0 hz9) ?_
      rcases am_cI_s hs5 with ⟨v11, h12, f13, hs6⟩ | hs6
      · clear hs5
        refine Or.inl ⟨_, _, f13, ?_⟩
        show am_W X _ 511 83 _ [(.int v11)] h12 _
        refine aw_istore_n (lv1 := am_put1 _ 2 _) (pc1 := 84) at_511_83 rfl rfl ?_
        refine aw_vload_n (pc1 := 85) at_511_84 (am_lk1 l0 rfl rfl) i0 rfl ?_
        obtain ⟨v14, e15, hs7⟩ := am_bind hs6
        clear hs6
        refine aw_pG (pc1 := 88) at_511_85 (am_vR_s e15).1 rfl ?_
        refine aw_iload_n (pc1 := 89) at_511_88 (am_lk1 l1 rfl rfl) rfl ?_
        obtain ⟨v16, e17, hs8⟩ := am_bind hs7
        clear hs7
        refine aw_pA (pc1 := 90) at_511_89 (Or.inl ⟨rfl, rfl⟩) e17 rfl ?_
        refine aw_istore_n (lv1 := am_put1 _ 3 _) (pc1 := 91) at_511_90 rfl rfl ?_
        refine aw_vload_n (pc1 := 92) at_511_91 (am_lk1 (am_lk1 l0 rfl rfl) rfl rfl) i0 rfl ?_
        obtain ⟨v18, e19, hs9⟩ := am_bind hs8
        clear hs8
        refine aw_pG (pc1 := 95) at_511_92 (am_vR_s e19).1 rfl ?_
        refine aw_iload_n (pc1 := 96) at_511_95 (am_lk1 (am_lk1 l1 rfl rfl) rfl rfl) rfl ?_
        refine aw_vload_n (pc1 := 97) at_511_96 (am_lk1 (am_lk1 l0 rfl rfl) rfl rfl) i0 rfl ?_
        obtain ⟨v20, e21, hs10⟩ := am_bind hs9
        clear hs9
        refine aw_pG (pc1 := 100) at_511_97 (am_vR_s e21).1 rfl ?_
        refine aw_iload_n (pc1 := 101) at_511_100 (am_lk1 am_lk0 rfl rfl) rfl ?_
        obtain ⟨v22, e23, hs11⟩ := am_bind hs10
        clear hs10
        refine aw_pA (pc1 := 102) at_511_101 (Or.inl ⟨rfl, rfl⟩) e23 rfl ?_
        obtain ⟨h24, e25, hs12⟩ := am_bind hs11
        clear hs11
        refine aw_pS (pc1 := 103) at_511_102 (Or.inl ⟨rfl, rfl⟩) e25 rfl ?_
        refine aw_vload_n (pc1 := 104) at_511_103 (am_lk1 (am_lk1 l0 rfl rfl) rfl rfl) i0 rfl ?_
        obtain ⟨v26, e27, hs13⟩ := am_bind hs12
        clear hs12
        refine aw_pG (pc1 := 107) at_511_104 (am_vR_s e27).1 rfl ?_
        refine aw_iload_n (pc1 := 108) at_511_107 (am_lk1 am_lk0 rfl rfl) rfl ?_
        refine aw_iload_n (pc1 := 109) at_511_108 am_lk0 rfl ?_
        obtain ⟨h28, e29, hs14⟩ := am_bind hs13
        clear hs13
        refine aw_pS (pc1 := 110) at_511_109 (Or.inl ⟨rfl, rfl⟩) e29 rfl ?_
        refine aw_iinc (v := (x1 + (-1))) (c := (-1)) (lv1 := am_put1 _ 1 _) (pc1 := 113) at_511_110 (am_lk1 (am_lk1 l1 rfl rfl) rfl rfl) (by decide) rfl rfl rfl ?_
        refine aw_goto at_511_113 ?_
        exact ih x0 ((x1 + (-1))) h28 o hs14 _ (am_lk1 (am_lk1 (am_lk1 l0 rfl rfl) rfl rfl) rfl (by rw [am_isRc i0]; rfl)) am_lk0 i0
      · clear hs5
        exact Or.inr hs6
def fg_511_44 (N : Nat) : Nat → Value → Int32 → am_H → Option am_O
  | 0 => fun _ _ _ => none
  | K + 1 => fun x0 x1 h => ((am_vI (am_pG 3180 x0 h)).bind fun v1 => (if v1 ≤ x1 then ((am_vI (am_pG 3180 x0 h)).bind fun v4 => (fg_511_72 N N x0 ((v4 - 1)) h)) else ((am_vR (am_pG 3179 x0 h)).bind fun v6 => ((am_pS 0 v6 x1 x1 h).bind fun h8 => (fg_511_44 N K x0 ((x1 + 1)) h8)))))
theorem rg_511_44 {X : am_X} {d : Nat} {N : Nat} : ∀ (K : Nat) (x0 : Value) (x1 : Int32) (h : am_H) (o : am_O), fg_511_44 N K x0 x1 h = some o → ∀ lv : am_LV, (lv.lookup 0 = some x0) → (lv.lookup 1 = some (.int x1)) → (am_isR x0 = true) → am_W X (d + 3) 511 44 lv [] h (fun q => q = o) := by
  intro K
  induction K with
  | zero => intro x0 x1 h o hs; cases hs
  | succ K ih =>
    intro x0 x1 h o hs lv l0 l1 i0
    unfold fg_511_44 at hs
    refine aw_iload_n (pc1 := 45) at_511_44 l1 rfl ?_
    refine aw_vload_n (pc1 := 46) at_511_45 l0 i0 rfl ?_
    obtain ⟨v1, e2, hs1⟩ := am_bind hs
    clear hs
    refine aw_pG (pc1 := 49) at_511_46 (am_vI_s e2) rfl ?_
    by_cases c3 : v1 ≤ x1
    · rw [if_pos c3] at hs1
      refine aw_icge_t at_511_49 c3 ?_
      refine aw_vload_n (pc1 := 66) at_511_65 l0 i0 rfl ?_
      obtain ⟨v4, e5, hs2⟩ := am_bind hs1
      clear hs1
      refine aw_pG (pc1 := 69) at_511_66 (am_vI_s e5) rfl ?_
      refine aw_iconst (v := 1) (pc1 := 70) at_511_69 (by decide) rfl ?_
      refine aw_isub (v := (v4 - 1)) (pc1 := 71) at_511_70 rfl rfl ?_
      refine aw_istore_n (lv1 := am_put1 _ 1 _) (pc1 := 72) at_511_71 rfl rfl ?_
      exact rg_511_72 N x0 ((v4 - 1)) h o hs2 _ (am_lk1 l0 rfl (by rw [am_isRc i0]; rfl)) am_lk0 i0
    · rw [if_neg c3] at hs1
      refine aw_icge_f (pc1 := 52) at_511_49 c3 rfl ?_
      refine aw_vload_n (pc1 := 53) at_511_52 l0 i0 rfl ?_
      obtain ⟨v6, e7, hs3⟩ := am_bind hs1
      clear hs1
      refine aw_pG (pc1 := 56) at_511_53 (am_vR_s e7).1 rfl ?_
      refine aw_iload_n (pc1 := 57) at_511_56 l1 rfl ?_
      refine aw_iload_n (pc1 := 58) at_511_57 l1 rfl ?_
      obtain ⟨h8, e9, hs4⟩ := am_bind hs3
      clear hs3
      refine aw_pS (pc1 := 59) at_511_58 (Or.inl ⟨rfl, rfl⟩) e9 rfl ?_
      refine aw_iinc (v := (x1 + 1)) (c := 1) (lv1 := am_put1 _ 1 _) (pc1 := 62) at_511_59 l1 (by decide) rfl rfl rfl ?_
      refine aw_goto at_511_62 ?_
      exact ih x0 ((x1 + 1)) h8 o hs4 _ (am_lk1 l0 rfl (by rw [am_isRc i0]; rfl)) am_lk0 i0
def fg_511_0 (N : Nat) (x0 : Value) (h : am_H) : Option am_O := ((am_vR (am_pG 3114 x0 h)).bind fun v1 => ((am_pA 0 v1 4 h).bind fun v3 => (if ¬ v3 = 0 then ((am_vR (am_pG 3114 x0 h)).bind fun v6 => ((am_pA 0 v6 4 h).bind fun v8 => (if ¬ v8 = 2 then (fg_511_44 N N x0 0 h) else ((am_vR (am_pG 3176 x0 h)).bind fun v11 => (if am_pOk 12 x0 h then am_cI true (fm_513 N x0 h) (fun v14 h15 => (if am_pOk 12 x0 h15 then am_cI true (fm_474 x0 v14 h15) (fun v18 h19 => (if am_pOk 12 x0 h19 then am_cI true (fm_515 N x0 v18 h19) (fun v22 h23 => ((am_pA 0 v11 v22 h23).bind fun v25 => some (.inl (some (.int v25), h23)))) else none)) else none)) else none))))) else (if am_pOk 12 x0 h then am_cI true (fm_512 N x0 h) (fun v28 h29 => some (.inl (some (.int v28), h29))) else none))))
theorem rg_511_0 {X : am_X} {d : Nat} {N : Nat} {lv : am_LV} (x0 : Value) (h : am_H) (o : am_O) (l0 : lv.lookup 0 = some x0) (i0 : am_isR x0 = true) (hs : fg_511_0 N x0 h = some o) : am_W X (d + 3) 511 0 lv [] h (fun q => q = o) := by
  unfold fg_511_0 at hs
  refine aw_vload_n (pc1 := 1) at_511_0 l0 i0 rfl ?_
  obtain ⟨v1, e2, hs1⟩ := am_bind hs
  clear hs
  refine aw_pG (pc1 := 4) at_511_1 (am_vR_s e2).1 rfl ?_
  refine aw_iconst (v := 4) (pc1 := 5) at_511_4 (by decide) rfl ?_
  obtain ⟨v3, e4, hs2⟩ := am_bind hs1
  clear hs1
  refine aw_pA (pc1 := 6) at_511_5 (Or.inl ⟨rfl, rfl⟩) e4 rfl ?_
  by_cases c5 : ¬ v3 = 0
  · rw [if_pos c5] at hs2
    refine aw_ifne_t at_511_6 c5 ?_
    refine aw_vload_n (pc1 := 15) at_511_14 l0 i0 rfl ?_
    obtain ⟨v6, e7, hs3⟩ := am_bind hs2
    clear hs2
    refine aw_pG (pc1 := 18) at_511_15 (am_vR_s e7).1 rfl ?_
    refine aw_iconst (v := 4) (pc1 := 19) at_511_18 (by decide) rfl ?_
    obtain ⟨v8, e9, hs4⟩ := am_bind hs3
    clear hs3
    refine aw_pA (pc1 := 20) at_511_19 (Or.inl ⟨rfl, rfl⟩) e9 rfl ?_
    refine aw_iconst (v := 2) (pc1 := 21) at_511_20 (by decide) rfl ?_
    by_cases c10 : ¬ v8 = 2
    · rw [if_pos c10] at hs4
      refine aw_icne_t at_511_21 c10 ?_
      refine aw_iconst (v := 0) (pc1 := 43) at_511_42 (by decide) rfl ?_
      refine aw_istore_n (lv1 := am_put1 _ 1 _) (pc1 := 44) at_511_43 rfl rfl ?_
      exact rg_511_44 N x0 0 h o hs4 _ (am_lk1 l0 rfl (by rw [am_isRc i0]; rfl)) am_lk0 i0
    · rw [if_neg c10] at hs4
      refine aw_icne_f (pc1 := 24) at_511_21 c10 rfl ?_
      refine aw_vload_n (pc1 := 25) at_511_24 l0 i0 rfl ?_
      obtain ⟨v11, e12, hs5⟩ := am_bind hs4
      clear hs4
      refine aw_pG (pc1 := 28) at_511_25 (am_vR_s e12).1 rfl ?_
      refine aw_vload_n (pc1 := 29) at_511_28 l0 i0 rfl ?_
      refine aw_vload_n (pc1 := 30) at_511_29 l0 i0 rfl ?_
      refine aw_vload_n (pc1 := 31) at_511_30 l0 i0 rfl ?_
      obtain ⟨z13, hs6⟩ := am_ift hs5
      clear hs5
      refine aw_call (F := fm_513 N x0 h) (t := true) (na := 1) (kd := 1) (as := [x0]) at_511_31 (am_k3v kb_513) mn_513 mk_513 rfl rfl (am_ok_v mi_513 (am_hl rfl (am_ccR i0 am_cats_0) rfl) z13) (am_hc (am_ccR i0 (am_ccR i0 (am_ccR (am_vR_s e12).2 am_cats_0))) rfl) (fun _ => ⟨rfl, hh_511⟩) (fun o1 hz9 => rm_513 x0 h o1 i0 hz9) ?_
      rcases am_cI_s hs6 with ⟨v14, h15, f16, hs7⟩ | hs7
      · clear hs6
        refine Or.inl ⟨_, _, f16, ?_⟩
        show am_W X _ 511 34 _ [(.int v14), x0, x0, v11] h15 _
        obtain ⟨z17, hs8⟩ := am_ift hs7
        clear hs7
        refine aw_call (F := fm_474 x0 v14 h15) (t := true) (na := 2) (kd := 1) (as := [x0, (.int v14)]) at_511_34 (am_k3v kb_474) mn_474 mk_474 rfl rfl (am_ok_v mi_474 (am_hl rfl (am_ccR i0 (am_ccI am_cats_0)) rfl) z17) (am_hc (am_ccR i0 (am_ccR (am_vR_s e12).2 am_cats_0)) rfl) (fun _ => ⟨rfl, hh_511⟩) (fun o1 hz9 => rm_474 x0 v14 h15 o1 i0 hz9) ?_
        rcases am_cI_s hs8 with ⟨v18, h19, f20, hs9⟩ | hs9
        · clear hs8
          refine Or.inl ⟨_, _, f20, ?_⟩
          show am_W X _ 511 37 _ [(.int v18), x0, v11] h19 _
          obtain ⟨z21, hs10⟩ := am_ift hs9
          clear hs9
          refine aw_call (F := fm_515 N x0 v18 h19) (t := true) (na := 2) (kd := 1) (as := [x0, (.int v18)]) at_511_37 (am_k3v kb_515) mn_515 mk_515 rfl rfl (am_ok_v mi_515 (am_hl rfl (am_ccR i0 (am_ccI am_cats_0)) rfl) z21) (am_hc (am_ccR (am_vR_s e12).2 am_cats_0) rfl) (fun _ => ⟨rfl, hh_511⟩) (fun o1 hz9 => rm_515 x0 v18 h19 o1 i0 hz9) ?_
          rcases am_cI_s hs10 with ⟨v22, h23, f24, hs11⟩ | hs11
          · clear hs10
            refine Or.inl ⟨_, _, f24, ?_⟩
            show am_W X _ 511 40 _ [(.int v22), v11] h23 _
            obtain ⟨v25, e26, hs12⟩ := am_bind hs11
            clear hs11
            refine aw_pA (pc1 := 41) at_511_40 (Or.inl ⟨rfl, rfl⟩) e26 rfl ?_
            cases hs12
            exact aw_iret at_511_41 (by rw [rt_511]; rfl) rfl
          · clear hs10
            exact Or.inr hs11
        · clear hs8
          exact Or.inr hs9
      · clear hs6
        exact Or.inr hs7
  · rw [if_neg c5] at hs2
    refine aw_ifne_f (pc1 := 9) at_511_6 c5 rfl ?_
    refine aw_vload_n (pc1 := 10) at_511_9 l0 i0 rfl ?_
    obtain ⟨z27, hs13⟩ := am_ift hs2
    clear hs2
    refine aw_call (F := fm_512 N x0 h) (t := true) (na := 1) (kd := 1) (as := [x0]) at_511_10 (am_k3v kb_512) mn_512 mk_512 rfl rfl (am_ok_v mi_512 (am_hl rfl (am_ccR i0 am_cats_0) rfl) z27) (am_hc am_cats_0 rfl) (fun _ => ⟨rfl, hh_511⟩) (fun o1 hz9 => rm_512 x0 h o1 i0 hz9) ?_
    rcases am_cI_s hs13 with ⟨v28, h29, f30, hs14⟩ | hs14
    · clear hs13
      refine Or.inl ⟨_, _, f30, ?_⟩
      show am_W X _ 511 13 _ [(.int v28)] h29 _
      cases hs14
      exact aw_iret at_511_13 (by rw [rt_511]; rfl) rfl
    · clear hs13
      exact Or.inr hs14
def fm_511 (N : Nat) (y0 : Value) (h : am_H) : Option am_O := fg_511_0 N y0 h
theorem rm_511 {X : am_X} {d : Nat} {N : Nat} (y0 : Value) (h : am_H) (o : am_O) (i0 : am_isR y0 = true) (hs : fm_511 N y0 h = some o) : am_W X (d + 3) 511 0 (am_args 0 [y0]) [] h (fun q => q = o) := by
  rw [am_args_R i0]
  exact rg_511_0 y0 h o rfl i0 hs
def fg_510_86 (N : Nat) (x0 : Value) (x1 : Int32) (s0 : Value) (s1 : Int32) (h : am_H) : Option am_O := (if am_pOk 12 s0 h then am_cI true (fm_474 s0 s1 h) (fun v2 h3 => (if am_pOk 12 x0 h3 then am_cL true (fm_477 x0 4611686018427387904 h3) (fun v6 h7 => ((am_vL (am_pG 3168 x0 h7)).bind fun v9 => (if am_pOk 12 x0 h7 then am_cV true (fm_391 N x0 x1 h7) (fun h13 => (if am_pOk 12 x0 h13 then am_cV true (fm_472 N x0 v2 v6 h13) (fun h17 => ((am_pP 3168 x0 (.long v9) h17).bind fun h19 => ((am_vI (am_pG 3169 x0 h19)).bind fun v21 => (if am_pOk 12 x0 h19 then am_cI true (fm_356 N x0 3 x1 ((-1)) v2 v21 v6 h19) (fun v24 h25 => some (.inl (some (.int v24), h25))) else none)))) else none)) else none))) else none)) else none)
theorem rg_510_86 {X : am_X} {d : Nat} {N : Nat} {lv : am_LV} (x0 : Value) (x1 : Int32) (s0 : Value) (s1 : Int32) (h : am_H) (o : am_O) (l0 : lv.lookup 0 = some x0) (l1 : lv.lookup 1 = some (.int x1)) (i0 : am_isR x0 = true) (j0 : am_isR s0 = true) (hs : fg_510_86 N x0 x1 s0 s1 h = some o) : am_W X (d + 8) 510 86 lv [(.int s1), s0] h (fun q => q = o) := by
  unfold fg_510_86 at hs
  obtain ⟨z1, hs1⟩ := am_ift hs
  clear hs
  refine aw_call (F := fm_474 s0 s1 h) (t := true) (na := 2) (kd := 1) (as := [s0, (.int s1)]) at_510_86 (am_k3v kb_474) mn_474 mk_474 rfl rfl (am_ok_v mi_474 (am_hl rfl (am_ccR j0 (am_ccI am_cats_0)) rfl) z1) (am_hc am_cats_0 rfl) (fun _ => ⟨rfl, hh_510⟩) (fun o1 hz9 => rm_474 s0 s1 h o1 j0 hz9) ?_
  rcases am_cI_s hs1 with ⟨v2, h3, f4, hs2⟩ | hs2
  · clear hs1
    refine Or.inl ⟨_, _, f4, ?_⟩
    show am_W X _ 510 89 _ [(.int v2)] h3 _
    refine aw_istore_n (lv1 := am_put1 _ 2 _) (pc1 := 90) at_510_89 rfl rfl ?_
    refine aw_vload_n (pc1 := 91) at_510_90 (am_lk1 l0 rfl rfl) i0 rfl ?_
    refine aw_ldc2 (v := 4611686018427387904) (pc1 := 94) at_510_91 rfl rfl ?_
    obtain ⟨z5, hs3⟩ := am_ift hs2
    clear hs2
    refine aw_call (F := fm_477 x0 4611686018427387904 h3) (t := true) (na := 2) (kd := 1) (as := [x0, (.long 4611686018427387904)]) at_510_94 (am_k3v kb_477) mn_477 mk_477 rfl rfl (am_ok_v mi_477 (am_hl rfl (am_ccR i0 (am_ccL am_cats_0)) rfl) z5) (am_hc am_cats_0 rfl) (fun _ => ⟨rfl, hh_510⟩) (fun o1 hz9 => rm_477 x0 4611686018427387904 h3 o1 i0 hz9) ?_
    rcases am_cL_s hs3 with ⟨v6, h7, f8, hs4⟩ | hs4
    · clear hs3
      refine Or.inl ⟨_, _, f8, ?_⟩
      show am_W X _ 510 97 _ [(.long v6)] h7 _
      refine aw_lstore_n (lv1 := am_put2 _ 3 _) (pc1 := 98) at_510_97 rfl rfl ?_
      refine aw_vload_n (pc1 := 99) at_510_98 (am_lk2 (am_lk1 l0 rfl rfl) rfl rfl) i0 rfl ?_
      obtain ⟨v9, e10, hs5⟩ := am_bind hs4
      clear hs4
      refine aw_pG (pc1 := 102) at_510_99 (am_vL_s e10) rfl ?_
      refine aw_lstore (lv1 := am_put2 _ 5 _) (pc1 := 104) at_510_102 rfl rfl ?_
      refine aw_vload_n (pc1 := 105) at_510_104 (am_lk2 (am_lk2 (am_lk1 l0 rfl rfl) rfl rfl) rfl rfl) i0 rfl ?_
      refine aw_iload_n (pc1 := 106) at_510_105 (am_lk2 (am_lk2 (am_lk1 l1 rfl rfl) rfl rfl) rfl rfl) rfl ?_
      obtain ⟨z11, hs6⟩ := am_ift hs5
      clear hs5
      refine aw_call (F := fm_391 N x0 x1 h7) (t := true) (na := 2) (kd := 1) (as := [x0, (.int x1)]) at_510_106 (am_k3v kb_391) mn_391 mk_391 rfl rfl (am_ok_v mi_391 (am_hl rfl (am_ccR i0 (am_ccI am_cats_0)) rfl) z11) (am_hc am_cats_0 rfl) (fun _ => ⟨rfl, hh_510⟩) (fun o1 hz9 => rm_391 x0 x1 h7 o1 i0 hz9) ?_
      rcases am_cV_s hs6 with ⟨h13, f14, hs7⟩ | hs7
      · clear hs6
        refine Or.inl ⟨_, _, f14, ?_⟩
        show am_W X _ 510 109 _ [] h13 _
        refine aw_vload_n (pc1 := 110) at_510_109 (am_lk2 (am_lk2 (am_lk1 l0 rfl rfl) rfl rfl) rfl rfl) i0 rfl ?_
        refine aw_iload_n (pc1 := 111) at_510_110 (am_lk2 (am_lk2 am_lk0 rfl rfl) rfl rfl) rfl ?_
        refine aw_lload_n (pc1 := 112) at_510_111 (am_lk2 am_lk02 rfl rfl) rfl ?_
        obtain ⟨z15, hs8⟩ := am_ift hs7
        clear hs7
        refine aw_call (F := fm_472 N x0 v2 v6 h13) (t := true) (na := 3) (kd := 1) (as := [x0, (.int v2), (.long v6)]) at_510_112 (am_k3v kb_472) mn_472 mk_472 rfl rfl (am_ok_v mi_472 (am_hl rfl (am_ccR i0 (am_ccI (am_ccL am_cats_0))) rfl) z15) (am_hc am_cats_0 rfl) (fun _ => ⟨rfl, hh_510⟩) (fun o1 hz9 => rm_472 x0 v2 v6 h13 o1 i0 hz9) ?_
        rcases am_cV_s hs8 with ⟨h17, f18, hs9⟩ | hs9
        · clear hs8
          refine Or.inl ⟨_, _, f18, ?_⟩
          show am_W X _ 510 115 _ [] h17 _
          refine aw_vload_n (pc1 := 116) at_510_115 (am_lk2 (am_lk2 (am_lk1 l0 rfl rfl) rfl rfl) rfl rfl) i0 rfl ?_
          refine aw_lload (pc1 := 118) at_510_116 am_lk02 rfl ?_
          obtain ⟨h19, e20, hs10⟩ := am_bind hs9
          clear hs9
          refine aw_pP (pc1 := 121) at_510_118 e20 rfl ?_
          refine aw_vload_n (pc1 := 122) at_510_121 (am_lk2 (am_lk2 (am_lk1 l0 rfl rfl) rfl rfl) rfl rfl) i0 rfl ?_
          refine aw_iconst (v := 3) (pc1 := 123) at_510_122 (by decide) rfl ?_
          refine aw_iload_n (pc1 := 124) at_510_123 (am_lk2 (am_lk2 (am_lk1 l1 rfl rfl) rfl rfl) rfl rfl) rfl ?_
          refine aw_iconst (v := (-1)) (pc1 := 125) at_510_124 (by decide) rfl ?_
          refine aw_iload_n (pc1 := 126) at_510_125 (am_lk2 (am_lk2 am_lk0 rfl rfl) rfl rfl) rfl ?_
          refine aw_vload_n (pc1 := 127) at_510_126 (am_lk2 (am_lk2 (am_lk1 l0 rfl rfl) rfl rfl) rfl rfl) i0 rfl ?_
          obtain ⟨v21, e22, hs11⟩ := am_bind hs10
          clear hs10
          refine aw_pG (pc1 := 130) at_510_127 (am_vI_s e22) rfl ?_
          refine aw_lload_n (pc1 := 131) at_510_130 (am_lk2 am_lk02 rfl rfl) rfl ?_
          obtain ⟨z23, hs12⟩ := am_ift hs11
          clear hs11
          refine aw_call (F := fm_356 N x0 3 x1 ((-1)) v2 v21 v6 h19) (t := true) (na := 7) (kd := 1) (as := [x0, (.int 3), (.int x1), (.int (-1)), (.int v2), (.int v21), (.long v6)]) at_510_131 (am_k3v kb_356) mn_356 mk_356 rfl rfl (am_ok_v mi_356 (am_hl rfl (am_ccR i0 (am_ccI (am_ccI (am_ccI (am_ccI (am_ccI (am_ccL am_cats_0))))))) rfl) z23) (am_hc am_cats_0 rfl) (fun _ => ⟨rfl, hh_510⟩) (fun o1 hz9 => rm_356 x0 3 x1 ((-1)) v2 v21 v6 h19 o1 i0 hz9) ?_
          rcases am_cI_s hs12 with ⟨v24, h25, f26, hs13⟩ | hs13
          · clear hs12
            refine Or.inl ⟨_, _, f26, ?_⟩
            show am_W X _ 510 134 _ [(.int v24)] h25 _
            cases hs13
            exact aw_iret at_510_134 (by rw [rt_510]; rfl) rfl
          · clear hs12
            exact Or.inr hs13
        · clear hs8
          exact Or.inr hs9
      · clear hs6
        exact Or.inr hs7
    · clear hs3
      exact Or.inr hs4
  · clear hs1
    exact Or.inr hs2
def fg_510_0 (N : Nat) (x0 : Value) (h : am_H) : Option am_O := (if am_pOk 12 x0 h then am_cI true (fm_474 x0 100 h) (fun v2 h3 => ((am_vR (am_pG 3114 x0 h3)).bind fun v5 => ((am_pA 0 v5 3 h3).bind fun v7 => (if v7 ≤ v2 then (if am_pOk 12 x0 h3 then am_cI true (fm_511 N x0 h3) (fun v11 h12 => ((am_vR (am_pG 3074 x0 h12)).bind fun v14 => ((am_pA 0 v14 v11 h12).bind fun v16 => (if ¬ v16 = 0 then (fg_510_86 N x0 v11 x0 4 h12) else (fg_510_86 N x0 v11 x0 5 h12))))) else none) else (if am_pOk 12 x0 h3 then am_cI true (fm_511 N x0 h3) (fun v20 h21 => (if am_pOk 12 x0 h21 then am_cI true (fm_511 N x0 h21) (fun v24 h25 => (if am_pOk 12 x0 h25 then am_cL true (fm_477 x0 4611686018427387904 h25) (fun v28 h29 => ((am_vL (am_pG 3168 x0 h29)).bind fun v31 => (if am_pOk 12 x0 h29 then am_cV true (fm_487 N x0 v20 v24 v28 h29) (fun h35 => ((am_pP 3168 x0 (.long v31) h35).bind fun h37 => ((am_vI (am_pG 3169 x0 h37)).bind fun v39 => (if am_pOk 12 x0 h37 then am_cI true (fm_356 N x0 4 v20 v24 ((-1)) v39 v28 h37) (fun v42 h43 => some (.inl (some (.int v42), h43))) else none)))) else none))) else none)) else none)) else none))))) else none)
theorem rg_510_0 {X : am_X} {d : Nat} {N : Nat} {lv : am_LV} (x0 : Value) (h : am_H) (o : am_O) (l0 : lv.lookup 0 = some x0) (i0 : am_isR x0 = true) (hs : fg_510_0 N x0 h = some o) : am_W X (d + 8) 510 0 lv [] h (fun q => q = o) := by
  unfold fg_510_0 at hs
  refine aw_vload_n (pc1 := 1) at_510_0 l0 i0 rfl ?_
  refine aw_bipush (v := 100) (pc1 := 3) at_510_1 (by decide) rfl ?_
  obtain ⟨z1, hs1⟩ := am_ift hs
  clear hs
  refine aw_call (F := fm_474 x0 100 h) (t := true) (na := 2) (kd := 1) (as := [x0, (.int 100)]) at_510_3 (am_k3v kb_474) mn_474 mk_474 rfl rfl (am_ok_v mi_474 (am_hl rfl (am_ccR i0 (am_ccI am_cats_0)) rfl) z1) (am_hc am_cats_0 rfl) (fun _ => ⟨rfl, hh_510⟩) (fun o1 hz9 => rm_474 x0 100 h o1 i0 hz9) ?_
  rcases am_cI_s hs1 with ⟨v2, h3, f4, hs2⟩ | hs2
  · clear hs1
    refine Or.inl ⟨_, _, f4, ?_⟩
    show am_W X _ 510 6 _ [(.int v2)] h3 _
    refine aw_vload_n (pc1 := 7) at_510_6 l0 i0 rfl ?_
    obtain ⟨v5, e6, hs3⟩ := am_bind hs2
    clear hs2
    refine aw_pG (pc1 := 10) at_510_7 (am_vR_s e6).1 rfl ?_
    refine aw_iconst (v := 3) (pc1 := 11) at_510_10 (by decide) rfl ?_
    obtain ⟨v7, e8, hs4⟩ := am_bind hs3
    clear hs3
    refine aw_pA (pc1 := 12) at_510_11 (Or.inl ⟨rfl, rfl⟩) e8 rfl ?_
    by_cases c9 : v7 ≤ v2
    · rw [if_pos c9] at hs4
      refine aw_icge_t at_510_12 c9 ?_
      refine aw_vload_n (pc1 := 67) at_510_66 l0 i0 rfl ?_
      obtain ⟨z10, hs5⟩ := am_ift hs4
      clear hs4
      refine aw_call (F := fm_511 N x0 h3) (t := true) (na := 1) (kd := 1) (as := [x0]) at_510_67 (am_k3v kb_511) mn_511 mk_511 rfl rfl (am_ok_v mi_511 (am_hl rfl (am_ccR i0 am_cats_0) rfl) z10) (am_hc am_cats_0 rfl) (fun _ => ⟨rfl, hh_510⟩) (fun o1 hz9 => rm_511 x0 h3 o1 i0 hz9) ?_
      rcases am_cI_s hs5 with ⟨v11, h12, f13, hs6⟩ | hs6
      · clear hs5
        refine Or.inl ⟨_, _, f13, ?_⟩
        show am_W X _ 510 70 _ [(.int v11)] h12 _
        refine aw_istore_n (lv1 := am_put1 _ 1 _) (pc1 := 71) at_510_70 rfl rfl ?_
        refine aw_vload_n (pc1 := 72) at_510_71 (am_lk1 l0 rfl (by rw [am_isRc i0]; rfl)) i0 rfl ?_
        refine aw_vload_n (pc1 := 73) at_510_72 (am_lk1 l0 rfl (by rw [am_isRc i0]; rfl)) i0 rfl ?_
        obtain ⟨v14, e15, hs7⟩ := am_bind hs6
        clear hs6
        refine aw_pG (pc1 := 76) at_510_73 (am_vR_s e15).1 rfl ?_
        refine aw_iload_n (pc1 := 77) at_510_76 am_lk0 rfl ?_
        obtain ⟨v16, e17, hs8⟩ := am_bind hs7
        clear hs7
        refine aw_pA (pc1 := 78) at_510_77 (Or.inl ⟨rfl, rfl⟩) e17 rfl ?_
        by_cases c18 : ¬ v16 = 0
        · rw [if_pos c18] at hs8
          refine aw_ifne_t at_510_78 c18 ?_
          refine aw_iconst (v := 4) (pc1 := 86) at_510_85 (by decide) rfl ?_
          exact rg_510_86 x0 v11 x0 4 h12 o (am_lk1 l0 rfl (by rw [am_isRc i0]; rfl)) am_lk0 i0 i0 hs8
        · rw [if_neg c18] at hs8
          refine aw_ifne_f (pc1 := 81) at_510_78 c18 rfl ?_
          refine aw_iconst (v := 5) (pc1 := 82) at_510_81 (by decide) rfl ?_
          refine aw_goto at_510_82 ?_
          exact rg_510_86 x0 v11 x0 5 h12 o (am_lk1 l0 rfl (by rw [am_isRc i0]; rfl)) am_lk0 i0 i0 hs8
      · clear hs5
        exact Or.inr hs6
    · rw [if_neg c9] at hs4
      refine aw_icge_f (pc1 := 15) at_510_12 c9 rfl ?_
      refine aw_vload_n (pc1 := 16) at_510_15 l0 i0 rfl ?_
      obtain ⟨z19, hs9⟩ := am_ift hs4
      clear hs4
      refine aw_call (F := fm_511 N x0 h3) (t := true) (na := 1) (kd := 1) (as := [x0]) at_510_16 (am_k3v kb_511) mn_511 mk_511 rfl rfl (am_ok_v mi_511 (am_hl rfl (am_ccR i0 am_cats_0) rfl) z19) (am_hc am_cats_0 rfl) (fun _ => ⟨rfl, hh_510⟩) (fun o1 hz9 => rm_511 x0 h3 o1 i0 hz9) ?_
      rcases am_cI_s hs9 with ⟨v20, h21, f22, hs10⟩ | hs10
      · clear hs9
        refine Or.inl ⟨_, _, f22, ?_⟩
        show am_W X _ 510 19 _ [(.int v20)] h21 _
        refine aw_istore_n (lv1 := am_put1 _ 1 _) (pc1 := 20) at_510_19 rfl rfl ?_
        refine aw_vload_n (pc1 := 21) at_510_20 (am_lk1 l0 rfl (by rw [am_isRc i0]; rfl)) i0 rfl ?_
        obtain ⟨z23, hs11⟩ := am_ift hs10
        clear hs10
        refine aw_call (F := fm_511 N x0 h21) (t := true) (na := 1) (kd := 1) (as := [x0]) at_510_21 (am_k3v kb_511) mn_511 mk_511 rfl rfl (am_ok_v mi_511 (am_hl rfl (am_ccR i0 am_cats_0) rfl) z23) (am_hc am_cats_0 rfl) (fun _ => ⟨rfl, hh_510⟩) (fun o1 hz9 => rm_511 x0 h21 o1 i0 hz9) ?_
        rcases am_cI_s hs11 with ⟨v24, h25, f26, hs12⟩ | hs12
        · clear hs11
          refine Or.inl ⟨_, _, f26, ?_⟩
          show am_W X _ 510 24 _ [(.int v24)] h25 _
          refine aw_istore_n (lv1 := am_put1 _ 2 _) (pc1 := 25) at_510_24 rfl rfl ?_
          refine aw_vload_n (pc1 := 26) at_510_25 (am_lk1 (am_lk1 l0 rfl (by rw [am_isRc i0]; rfl)) rfl rfl) i0 rfl ?_
          refine aw_ldc2 (v := 4611686018427387904) (pc1 := 29) at_510_26 rfl rfl ?_
          obtain ⟨z27, hs13⟩ := am_ift hs12
          clear hs12
          refine aw_call (F := fm_477 x0 4611686018427387904 h25) (t := true) (na := 2) (kd := 1) (as := [x0, (.long 4611686018427387904)]) at_510_29 (am_k3v kb_477) mn_477 mk_477 rfl rfl (am_ok_v mi_477 (am_hl rfl (am_ccR i0 (am_ccL am_cats_0)) rfl) z27) (am_hc am_cats_0 rfl) (fun _ => ⟨rfl, hh_510⟩) (fun o1 hz9 => rm_477 x0 4611686018427387904 h25 o1 i0 hz9) ?_
          rcases am_cL_s hs13 with ⟨v28, h29, f30, hs14⟩ | hs14
          · clear hs13
            refine Or.inl ⟨_, _, f30, ?_⟩
            show am_W X _ 510 32 _ [(.long v28)] h29 _
            refine aw_lstore_n (lv1 := am_put2 _ 3 _) (pc1 := 33) at_510_32 rfl rfl ?_
            refine aw_vload_n (pc1 := 34) at_510_33 (am_lk2 (am_lk1 (am_lk1 l0 rfl (by rw [am_isRc i0]; rfl)) rfl rfl) rfl rfl) i0 rfl ?_
            obtain ⟨v31, e32, hs15⟩ := am_bind hs14
            clear hs14
            refine aw_pG (pc1 := 37) at_510_34 (am_vL_s e32) rfl ?_
            refine aw_lstore (lv1 := am_put2 _ 5 _) (pc1 := 39) at_510_37 rfl rfl ?_
            refine aw_vload_n (pc1 := 40) at_510_39 (am_lk2 (am_lk2 (am_lk1 (am_lk1 l0 rfl (by rw [am_isRc i0]; rfl)) rfl rfl) rfl rfl) rfl rfl) i0 rfl ?_
            refine aw_iload_n (pc1 := 41) at_510_40 (am_lk2 (am_lk2 (am_lk1 am_lk0 rfl rfl) rfl rfl) rfl rfl) rfl ?_
            refine aw_iload_n (pc1 := 42) at_510_41 (am_lk2 (am_lk2 am_lk0 rfl rfl) rfl rfl) rfl ?_
            refine aw_lload_n (pc1 := 43) at_510_42 (am_lk2 am_lk02 rfl rfl) rfl ?_
            obtain ⟨z33, hs16⟩ := am_ift hs15
            clear hs15
            refine aw_call (F := fm_487 N x0 v20 v24 v28 h29) (t := true) (na := 4) (kd := 1) (as := [x0, (.int v20), (.int v24), (.long v28)]) at_510_43 (am_k3v kb_487) mn_487 mk_487 rfl rfl (am_ok_v mi_487 (am_hl rfl (am_ccR i0 (am_ccI (am_ccI (am_ccL am_cats_0)))) rfl) z33) (am_hc am_cats_0 rfl) (fun _ => ⟨rfl, hh_510⟩) (fun o1 hz9 => rm_487 x0 v20 v24 v28 h29 o1 i0 hz9) ?_
            rcases am_cV_s hs16 with ⟨h35, f36, hs17⟩ | hs17
            · clear hs16
              refine Or.inl ⟨_, _, f36, ?_⟩
              show am_W X _ 510 46 _ [] h35 _
              refine aw_vload_n (pc1 := 47) at_510_46 (am_lk2 (am_lk2 (am_lk1 (am_lk1 l0 rfl (by rw [am_isRc i0]; rfl)) rfl rfl) rfl rfl) rfl rfl) i0 rfl ?_
              refine aw_lload (pc1 := 49) at_510_47 am_lk02 rfl ?_
              obtain ⟨h37, e38, hs18⟩ := am_bind hs17
              clear hs17
              refine aw_pP (pc1 := 52) at_510_49 e38 rfl ?_
              refine aw_vload_n (pc1 := 53) at_510_52 (am_lk2 (am_lk2 (am_lk1 (am_lk1 l0 rfl (by rw [am_isRc i0]; rfl)) rfl rfl) rfl rfl) rfl rfl) i0 rfl ?_
              refine aw_iconst (v := 4) (pc1 := 54) at_510_53 (by decide) rfl ?_
              refine aw_iload_n (pc1 := 55) at_510_54 (am_lk2 (am_lk2 (am_lk1 am_lk0 rfl rfl) rfl rfl) rfl rfl) rfl ?_
              refine aw_iload_n (pc1 := 56) at_510_55 (am_lk2 (am_lk2 am_lk0 rfl rfl) rfl rfl) rfl ?_
              refine aw_iconst (v := (-1)) (pc1 := 57) at_510_56 (by decide) rfl ?_
              refine aw_vload_n (pc1 := 58) at_510_57 (am_lk2 (am_lk2 (am_lk1 (am_lk1 l0 rfl (by rw [am_isRc i0]; rfl)) rfl rfl) rfl rfl) rfl rfl) i0 rfl ?_
              obtain ⟨v39, e40, hs19⟩ := am_bind hs18
              clear hs18
              refine aw_pG (pc1 := 61) at_510_58 (am_vI_s e40) rfl ?_
              refine aw_lload_n (pc1 := 62) at_510_61 (am_lk2 am_lk02 rfl rfl) rfl ?_
              obtain ⟨z41, hs20⟩ := am_ift hs19
              clear hs19
              refine aw_call (F := fm_356 N x0 4 v20 v24 ((-1)) v39 v28 h37) (t := true) (na := 7) (kd := 1) (as := [x0, (.int 4), (.int v20), (.int v24), (.int (-1)), (.int v39), (.long v28)]) at_510_62 (am_k3v kb_356) mn_356 mk_356 rfl rfl (am_ok_v mi_356 (am_hl rfl (am_ccR i0 (am_ccI (am_ccI (am_ccI (am_ccI (am_ccI (am_ccL am_cats_0))))))) rfl) z41) (am_hc am_cats_0 rfl) (fun _ => ⟨rfl, hh_510⟩) (fun o1 hz9 => rm_356 x0 4 v20 v24 ((-1)) v39 v28 h37 o1 i0 hz9) ?_
              rcases am_cI_s hs20 with ⟨v42, h43, f44, hs21⟩ | hs21
              · clear hs20
                refine Or.inl ⟨_, _, f44, ?_⟩
                show am_W X _ 510 65 _ [(.int v42)] h43 _
                cases hs21
                exact aw_iret at_510_65 (by rw [rt_510]; rfl) rfl
              · clear hs20
                exact Or.inr hs21
            · clear hs16
              exact Or.inr hs17
          · clear hs13
            exact Or.inr hs14
        · clear hs11
          exact Or.inr hs12
      · clear hs9
        exact Or.inr hs10
  · clear hs1
    exact Or.inr hs2
def fm_510 (N : Nat) (y0 : Value) (h : am_H) : Option am_O := fg_510_0 N y0 h
theorem rm_510 {X : am_X} {d : Nat} {N : Nat} (y0 : Value) (h : am_H) (o : am_O) (i0 : am_isR y0 = true) (hs : fm_510 N y0 h = some o) : am_W X (d + 8) 510 0 (am_args 0 [y0]) [] h (fun q => q = o) := by
  rw [am_args_R i0]
  exact rg_510_0 y0 h o rfl i0 hs
def fg_504_66 (N : Nat) : Nat → Value → Int32 → Int32 → am_H → Option am_O
  | 0 => fun _ _ _ _ => none
  | K + 1 => fun x0 x1 x3 h => ((am_vI (am_pG 3177 x0 h)).bind fun v1 => (if v1 ≤ x3 then some (.inl (none, h)) else ((am_vR (am_pG 3171 x0 h)).bind fun v4 => ((am_vR (am_pG 3183 x0 h)).bind fun v6 => ((am_pA 0 v6 x3 h).bind fun v8 => ((am_pS 0 v4 ((16 * x1) + x3) v8 h).bind fun h10 => (fg_504_66 N K x0 x1 ((x3 + 1)) h10)))))))
theorem rg_504_66 {X : am_X} {d : Nat} {N : Nat} : ∀ (K : Nat) (x0 : Value) (x1 : Int32) (x3 : Int32) (h : am_H) (o : am_O), fg_504_66 N K x0 x1 x3 h = some o → ∀ lv : am_LV, (lv.lookup 0 = some x0) → (lv.lookup 1 = some (.int x1)) → (lv.lookup 3 = some (.int x3)) → (am_isR x0 = true) → am_W X (d + 9) 504 66 lv [] h (fun q => q = o) := by
  intro K
  induction K with
  | zero => intro x0 x1 x3 h o hs; cases hs
  | succ K ih =>
    intro x0 x1 x3 h o hs lv l0 l1 l3 i0
    unfold fg_504_66 at hs
    refine aw_iload_n (pc1 := 67) at_504_66 l3 rfl ?_
    refine aw_vload_n (pc1 := 68) at_504_67 l0 i0 rfl ?_
    obtain ⟨v1, e2, hs1⟩ := am_bind hs
    clear hs
    refine aw_pG (pc1 := 71) at_504_68 (am_vI_s e2) rfl ?_
    by_cases c3 : v1 ≤ x3
    · rw [if_pos c3] at hs1
      refine aw_icge_t at_504_71 c3 ?_
      cases hs1
      exact aw_vret at_504_97 rt_504 rfl
    · rw [if_neg c3] at hs1
      refine aw_icge_f (pc1 := 74) at_504_71 c3 rfl ?_
      refine aw_vload_n (pc1 := 75) at_504_74 l0 i0 rfl ?_
      obtain ⟨v4, e5, hs2⟩ := am_bind hs1
      clear hs1
      refine aw_pG (pc1 := 78) at_504_75 (am_vR_s e5).1 rfl ?_
      refine aw_bipush (v := 16) (pc1 := 80) at_504_78 (by decide) rfl ?_
      refine aw_iload_n (pc1 := 81) at_504_80 l1 rfl ?_
      refine aw_imul (v := (16 * x1)) (pc1 := 82) at_504_81 rfl rfl ?_
      refine aw_iload_n (pc1 := 83) at_504_82 l3 rfl ?_
      refine aw_iadd (v := ((16 * x1) + x3)) (pc1 := 84) at_504_83 rfl rfl ?_
      refine aw_vload_n (pc1 := 85) at_504_84 l0 i0 rfl ?_
      obtain ⟨v6, e7, hs3⟩ := am_bind hs2
      clear hs2
      refine aw_pG (pc1 := 88) at_504_85 (am_vR_s e7).1 rfl ?_
      refine aw_iload_n (pc1 := 89) at_504_88 l3 rfl ?_
      obtain ⟨v8, e9, hs4⟩ := am_bind hs3
      clear hs3
      refine aw_pA (pc1 := 90) at_504_89 (Or.inl ⟨rfl, rfl⟩) e9 rfl ?_
      obtain ⟨h10, e11, hs5⟩ := am_bind hs4
      clear hs4
      refine aw_pS (pc1 := 91) at_504_90 (Or.inl ⟨rfl, rfl⟩) e11 rfl ?_
      refine aw_iinc (v := (x3 + 1)) (c := 1) (lv1 := am_put1 _ 3 _) (pc1 := 94) at_504_91 l3 (by decide) rfl rfl rfl ?_
      refine aw_goto at_504_94 ?_
      exact ih x0 x1 ((x3 + 1)) h10 o hs5 _ (am_lk1 l0 rfl rfl) (am_lk1 l1 rfl rfl) am_lk0 i0
def fg_504_57 (N : Nat) (rec_21 : Value → Int32 → Int32 → Int32 → am_H → Option am_O) (x0 : Value) (x1 : Int32) (x2 : Int32) (x3 : Int32) (s0 : Value) (s1 : Int32) (s2 : Int32) (h : am_H) : Option am_O := ((am_pS 0 s0 s1 s2 h).bind fun h1 => (rec_21 x0 x1 x2 ((x3 + 1)) h1))
theorem rg_504_57 {X : am_X} {d : Nat} {N : Nat} {rec_21 : Value → Int32 → Int32 → Int32 → am_H → Option am_O} (q_21 : ∀ (x0 : Value) (x1 : Int32) (x2 : Int32) (x3 : Int32) (h : am_H) (o : am_O), rec_21 x0 x1 x2 x3 h = some o → ∀ lv : am_LV, (lv.lookup 0 = some x0) → (lv.lookup 1 = some (.int x1)) → (lv.lookup 2 = some (.int x2)) → (lv.lookup 3 = some (.int x3)) → (am_isR x0 = true) → am_W X (d + 9) 504 21 lv [] h (fun q => q = o)) {lv : am_LV} (x0 : Value) (x1 : Int32) (x2 : Int32) (x3 : Int32) (s0 : Value) (s1 : Int32) (s2 : Int32) (h : am_H) (o : am_O) (l0 : lv.lookup 0 = some x0) (l1 : lv.lookup 1 = some (.int x1)) (l2 : lv.lookup 2 = some (.int x2)) (l3 : lv.lookup 3 = some (.int x3)) (i0 : am_isR x0 = true) (j0 : am_isR s0 = true) (hs : fg_504_57 N rec_21 x0 x1 x2 x3 s0 s1 s2 h = some o) : am_W X (d + 9) 504 57 lv [(.int s2), (.int s1), s0] h (fun q => q = o) := by
  unfold fg_504_57 at hs
  obtain ⟨h1, e2, hs1⟩ := am_bind hs
  clear hs
  refine aw_pS (pc1 := 58) at_504_57 (Or.inl ⟨rfl, rfl⟩) e2 rfl ?_
  refine aw_iinc (v := (x3 + 1)) (c := 1) (lv1 := am_put1 _ 3 _) (pc1 := 61) at_504_58 l3 (by decide) rfl rfl rfl ?_
  refine aw_goto at_504_61 ?_
  exact q_21 x0 x1 x2 ((x3 + 1)) h1 o hs1 _ (am_lk1 l0 rfl rfl) (am_lk1 l1 rfl rfl) (am_lk1 l2 rfl rfl) am_lk0 i0
def fg_504_21 (N : Nat) : Nat → Value → Int32 → Int32 → Int32 → am_H → Option am_O
  | 0 => fun _ _ _ _ _ => none
  | K + 1 => fun x0 x1 x2 x3 h => ((am_vI (am_pG 3177 x0 h)).bind fun v1 => (if v1 ≤ x3 then (fg_504_66 N N x0 x1 0 h) else ((am_vR (am_pG 3183 x0 h)).bind fun v4 => (if x2 ≤ x3 then (if am_pOk 12 x0 h then am_cI true (fm_510 N x0 h) (fun v8 h9 => (fg_504_57 N (fg_504_21 N K) x0 x1 x2 x3 v4 x3 v8 h9)) else none) else ((am_vR (am_pG 3176 x0 h)).bind fun v11 => ((am_vR (am_pG 3182 x0 h)).bind fun v13 => ((am_pA 0 v13 x3 h).bind fun v15 => ((am_pA 0 v11 v15 h).bind fun v17 => (fg_504_57 N (fg_504_21 N K) x0 x1 x2 x3 v4 x3 v17 h)))))))))
theorem rg_504_21 {X : am_X} {d : Nat} {N : Nat} : ∀ (K : Nat) (x0 : Value) (x1 : Int32) (x2 : Int32) (x3 : Int32) (h : am_H) (o : am_O), fg_504_21 N K x0 x1 x2 x3 h = some o → ∀ lv : am_LV, (lv.lookup 0 = some x0) → (lv.lookup 1 = some (.int x1)) → (lv.lookup 2 = some (.int x2)) → (lv.lookup 3 = some (.int x3)) → (am_isR x0 = true) → am_W X (d + 9) 504 21 lv [] h (fun q => q = o) := by
  intro K
  induction K with
  | zero => intro x0 x1 x2 x3 h o hs; cases hs
  | succ K ih =>
    intro x0 x1 x2 x3 h o hs lv l0 l1 l2 l3 i0
    unfold fg_504_21 at hs
    refine aw_iload_n (pc1 := 22) at_504_21 l3 rfl ?_
    refine aw_vload_n (pc1 := 23) at_504_22 l0 i0 rfl ?_
    obtain ⟨v1, e2, hs1⟩ := am_bind hs
    clear hs
    refine aw_pG (pc1 := 26) at_504_23 (am_vI_s e2) rfl ?_
    by_cases c3 : v1 ≤ x3
    · rw [if_pos c3] at hs1
      refine aw_icge_t at_504_26 c3 ?_
      refine aw_iconst (v := 0) (pc1 := 65) at_504_64 (by decide) rfl ?_
      refine aw_istore_n (lv1 := am_put1 _ 3 _) (pc1 := 66) at_504_65 rfl rfl ?_
      exact rg_504_66 N x0 x1 0 h o hs1 _ (am_lk1 l0 rfl rfl) (am_lk1 l1 rfl rfl) am_lk0 i0
    · rw [if_neg c3] at hs1
      refine aw_icge_f (pc1 := 29) at_504_26 c3 rfl ?_
      refine aw_vload_n (pc1 := 30) at_504_29 l0 i0 rfl ?_
      obtain ⟨v4, e5, hs2⟩ := am_bind hs1
      clear hs1
      refine aw_pG (pc1 := 33) at_504_30 (am_vR_s e5).1 rfl ?_
      refine aw_iload_n (pc1 := 34) at_504_33 l3 rfl ?_
      refine aw_iload_n (pc1 := 35) at_504_34 l3 rfl ?_
      refine aw_iload_n (pc1 := 36) at_504_35 l2 rfl ?_
      by_cases c6 : x2 ≤ x3
      · rw [if_pos c6] at hs2
        refine aw_icge_t at_504_36 c6 ?_
        refine aw_vload_n (pc1 := 54) at_504_53 l0 i0 rfl ?_
        obtain ⟨z7, hs3⟩ := am_ift hs2
        clear hs2
        refine aw_call (F := fm_510 N x0 h) (t := true) (na := 1) (kd := 1) (as := [x0]) at_504_54 (am_k3v kb_510) mn_510 mk_510 rfl rfl (am_ok_v mi_510 (am_hl rfl (am_ccR i0 am_cats_0) rfl) z7) (am_hc (am_ccI (am_ccR (am_vR_s e5).2 am_cats_0)) rfl) (fun _ => ⟨rfl, hh_504⟩) (fun o1 hz9 => rm_510 x0 h o1 i0 hz9) ?_
        rcases am_cI_s hs3 with ⟨v8, h9, f10, hs4⟩ | hs4
        · clear hs3
          refine Or.inl ⟨_, _, f10, ?_⟩
          show am_W X _ 504 57 _ [(.int v8), (.int x3), v4] h9 _
          exact rg_504_57 (fun z0 z1 z2 z3 h o hs4 => ih z0 z1 z2 z3 h o hs4) x0 x1 x2 x3 v4 x3 v8 h9 o l0 l1 l2 l3 i0 (am_vR_s e5).2 hs4
        · clear hs3
          exact Or.inr hs4
      · rw [if_neg c6] at hs2
        refine aw_icge_f (pc1 := 39) at_504_36 c6 rfl ?_
        refine aw_vload_n (pc1 := 40) at_504_39 l0 i0 rfl ?_
        obtain ⟨v11, e12, hs5⟩ := am_bind hs2
        clear hs2
        refine aw_pG (pc1 := 43) at_504_40 (am_vR_s e12).1 rfl ?_
        refine aw_vload_n (pc1 := 44) at_504_43 l0 i0 rfl ?_
        obtain ⟨v13, e14, hs6⟩ := am_bind hs5
        clear hs5
        refine aw_pG (pc1 := 47) at_504_44 (am_vR_s e14).1 rfl ?_
        refine aw_iload_n (pc1 := 48) at_504_47 l3 rfl ?_
        obtain ⟨v15, e16, hs7⟩ := am_bind hs6
        clear hs6
        refine aw_pA (pc1 := 49) at_504_48 (Or.inl ⟨rfl, rfl⟩) e16 rfl ?_
        obtain ⟨v17, e18, hs8⟩ := am_bind hs7
        clear hs7
        refine aw_pA (pc1 := 50) at_504_49 (Or.inl ⟨rfl, rfl⟩) e18 rfl ?_
        refine aw_goto at_504_50 ?_
        exact rg_504_57 (fun z0 z1 z2 z3 h o hs8 => ih z0 z1 z2 z3 h o hs8) x0 x1 x2 x3 v4 x3 v17 h o l0 l1 l2 l3 i0 (am_vR_s e5).2 hs8
def fg_504_0 (N : Nat) (x0 : Value) (x1 : Int32) (h : am_H) : Option am_O := (if am_pOk 12 x0 h then am_cV true (fm_505 N x0 x1 h) (fun h3 => (if am_pOk 12 x0 h3 then am_cV true (fm_506 N x0 h3) (fun h7 => (if am_pOk 12 x0 h7 then am_cV true (fm_507 N x0 h7) (fun h11 => (if am_pOk 12 x0 h11 then am_cI true (fm_503 x0 x1 h11) (fun v14 h15 => (fg_504_21 N N x0 x1 v14 0 h15)) else none)) else none)) else none)) else none)
theorem rg_504_0 {X : am_X} {d : Nat} {N : Nat} {lv : am_LV} (x0 : Value) (x1 : Int32) (h : am_H) (o : am_O) (l0 : lv.lookup 0 = some x0) (l1 : lv.lookup 1 = some (.int x1)) (i0 : am_isR x0 = true) (hs : fg_504_0 N x0 x1 h = some o) : am_W X (d + 9) 504 0 lv [] h (fun q => q = o) := by
  unfold fg_504_0 at hs
  refine aw_vload_n (pc1 := 1) at_504_0 l0 i0 rfl ?_
  refine aw_iload_n (pc1 := 2) at_504_1 l1 rfl ?_
  obtain ⟨z1, hs1⟩ := am_ift hs
  clear hs
  refine aw_call (F := fm_505 N x0 x1 h) (t := true) (na := 2) (kd := 1) (as := [x0, (.int x1)]) at_504_2 (am_k3v kb_505) mn_505 mk_505 rfl rfl (am_ok_v mi_505 (am_hl rfl (am_ccR i0 (am_ccI am_cats_0)) rfl) z1) (am_hc am_cats_0 rfl) (fun _ => ⟨rfl, hh_504⟩) (fun o1 hz9 => rm_505 x0 x1 h o1 i0 hz9) ?_
  rcases am_cV_s hs1 with ⟨h3, f4, hs2⟩ | hs2
  · clear hs1
    refine Or.inl ⟨_, _, f4, ?_⟩
    show am_W X _ 504 5 _ [] h3 _
    refine aw_vload_n (pc1 := 6) at_504_5 l0 i0 rfl ?_
    obtain ⟨z5, hs3⟩ := am_ift hs2
    clear hs2
    refine aw_call (F := fm_506 N x0 h3) (t := true) (na := 1) (kd := 1) (as := [x0]) at_504_6 (am_k3v kb_506) mn_506 mk_506 rfl rfl (am_ok_v mi_506 (am_hl rfl (am_ccR i0 am_cats_0) rfl) z5) (am_hc am_cats_0 rfl) (fun _ => ⟨rfl, hh_504⟩) (fun o1 hz9 => rm_506 x0 h3 o1 i0 hz9) ?_
    rcases am_cV_s hs3 with ⟨h7, f8, hs4⟩ | hs4
    · clear hs3
      refine Or.inl ⟨_, _, f8, ?_⟩
      show am_W X _ 504 9 _ [] h7 _
      refine aw_vload_n (pc1 := 10) at_504_9 l0 i0 rfl ?_
      obtain ⟨z9, hs5⟩ := am_ift hs4
      clear hs4
      refine aw_call (F := fm_507 N x0 h7) (t := true) (na := 1) (kd := 1) (as := [x0]) at_504_10 (am_k3v kb_507) mn_507 mk_507 rfl rfl (am_ok_v mi_507 (am_hl rfl (am_ccR i0 am_cats_0) rfl) z9) (am_hc am_cats_0 rfl) (fun _ => ⟨rfl, hh_504⟩) (fun o1 hz9 => rm_507 x0 h7 o1 i0 hz9) ?_
      rcases am_cV_s hs5 with ⟨h11, f12, hs6⟩ | hs6
      · clear hs5
        refine Or.inl ⟨_, _, f12, ?_⟩
        show am_W X _ 504 13 _ [] h11 _
        refine aw_vload_n (pc1 := 14) at_504_13 l0 i0 rfl ?_
        refine aw_iload_n (pc1 := 15) at_504_14 l1 rfl ?_
        obtain ⟨z13, hs7⟩ := am_ift hs6
        clear hs6
        refine aw_call (F := fm_503 x0 x1 h11) (t := true) (na := 2) (kd := 1) (as := [x0, (.int x1)]) at_504_15 (am_k3v kb_503) mn_503 mk_503 rfl rfl (am_ok_v mi_503 (am_hl rfl (am_ccR i0 (am_ccI am_cats_0)) rfl) z13) (am_hc am_cats_0 rfl) (fun _ => ⟨rfl, hh_504⟩) (fun o1 hz9 => rm_503 x0 x1 h11 o1 i0 hz9) ?_
        rcases am_cI_s hs7 with ⟨v14, h15, f16, hs8⟩ | hs8
        · clear hs7
          refine Or.inl ⟨_, _, f16, ?_⟩
          show am_W X _ 504 18 _ [(.int v14)] h15 _
          refine aw_istore_n (lv1 := am_put1 _ 2 _) (pc1 := 19) at_504_18 rfl rfl ?_
          refine aw_iconst (v := 0) (pc1 := 20) at_504_19 (by decide) rfl ?_
          refine aw_istore_n (lv1 := am_put1 _ 3 _) (pc1 := 21) at_504_20 rfl rfl ?_
          exact rg_504_21 N x0 x1 v14 0 h15 o hs8 _ (am_lk1 (am_lk1 l0 rfl rfl) rfl rfl) (am_lk1 (am_lk1 l1 rfl rfl) rfl rfl) (am_lk1 am_lk0 rfl rfl) am_lk0 i0
        · clear hs7
          exact Or.inr hs8
      · clear hs5
        exact Or.inr hs6
    · clear hs3
      exact Or.inr hs4
  · clear hs1
    exact Or.inr hs2
def fm_504 (N : Nat) (y0 : Value) (y1 : Int32) (h : am_H) : Option am_O := fg_504_0 N y0 y1 h
theorem rm_504 {X : am_X} {d : Nat} {N : Nat} (y0 : Value) (y1 : Int32) (h : am_H) (o : am_O) (i0 : am_isR y0 = true) (hs : fm_504 N y0 y1 h = some o) : am_W X (d + 9) 504 0 (am_args 0 [y0, .int y1]) [] h (fun q => q = o) := by
  rw [am_args_R i0, am_args_I]
  exact rg_504_0 y0 y1 h o rfl rfl i0 hs
def fg_517_26 (N : Nat) (rec_4 : Value → Int32 → Int32 → am_H → Option am_O) (x0 : Value) (x2 : Int32) (s0 : Int32) (h : am_H) : Option am_O := (rec_4 x0 s0 ((x2 + 1)) h)
theorem rg_517_26 {X : am_X} {d : Nat} {N : Nat} {rec_4 : Value → Int32 → Int32 → am_H → Option am_O} (q_4 : ∀ (x0 : Value) (x1 : Int32) (x2 : Int32) (h : am_H) (o : am_O), rec_4 x0 x1 x2 h = some o → ∀ lv : am_LV, (lv.lookup 0 = some x0) → (lv.lookup 1 = some (.int x1)) → (lv.lookup 2 = some (.int x2)) → (am_isR x0 = true) → am_W X (d + 2) 517 4 lv [] h (fun q => q = o)) {lv : am_LV} (x0 : Value) (x2 : Int32) (s0 : Int32) (h : am_H) (o : am_O) (l0 : lv.lookup 0 = some x0) (l2 : lv.lookup 2 = some (.int x2)) (i0 : am_isR x0 = true) (hs : fg_517_26 N rec_4 x0 x2 s0 h = some o) : am_W X (d + 2) 517 26 lv [(.int s0)] h (fun q => q = o) := by
  unfold fg_517_26 at hs
  refine aw_istore_n (lv1 := am_put1 _ 1 _) (pc1 := 27) at_517_26 rfl rfl ?_
  refine aw_iinc (v := (x2 + 1)) (c := 1) (lv1 := am_put1 _ 2 _) (pc1 := 30) at_517_27 (am_lk1 l2 rfl rfl) (by decide) rfl rfl rfl ?_
  refine aw_goto at_517_30 ?_
  exact q_4 x0 s0 ((x2 + 1)) h o hs _ (am_lk1 (am_lk1 l0 rfl (by rw [am_isRc i0]; rfl)) rfl rfl) (am_lk1 am_lk0 rfl rfl) am_lk0 i0
def fg_517_4 (N : Nat) : Nat → Value → Int32 → Int32 → am_H → Option am_O
  | 0 => fun _ _ _ _ => none
  | K + 1 => fun x0 x1 x2 h => ((am_vI (am_pG 3177 x0 h)).bind fun v1 => (if v1 ≤ x2 then some (.inl (some (.int x1), h)) else (if am_pOk 12 x0 h then am_cI true (fm_508 x0 x2 x1 h) (fun v5 h6 => (if v5 = 0 then (fg_517_26 N (fg_517_4 N K) x0 x2 x1 h6) else (fg_517_26 N (fg_517_4 N K) x0 x2 x2 h6))) else none)))
theorem rg_517_4 {X : am_X} {d : Nat} {N : Nat} : ∀ (K : Nat) (x0 : Value) (x1 : Int32) (x2 : Int32) (h : am_H) (o : am_O), fg_517_4 N K x0 x1 x2 h = some o → ∀ lv : am_LV, (lv.lookup 0 = some x0) → (lv.lookup 1 = some (.int x1)) → (lv.lookup 2 = some (.int x2)) → (am_isR x0 = true) → am_W X (d + 2) 517 4 lv [] h (fun q => q = o) := by
  intro K
  induction K with
  | zero => intro x0 x1 x2 h o hs; cases hs
  | succ K ih =>
    intro x0 x1 x2 h o hs lv l0 l1 l2 i0
    unfold fg_517_4 at hs
    refine aw_iload_n (pc1 := 5) at_517_4 l2 rfl ?_
    refine aw_vload_n (pc1 := 6) at_517_5 l0 i0 rfl ?_
    obtain ⟨v1, e2, hs1⟩ := am_bind hs
    clear hs
    refine aw_pG (pc1 := 9) at_517_6 (am_vI_s e2) rfl ?_
    by_cases c3 : v1 ≤ x2
    · rw [if_pos c3] at hs1
      refine aw_icge_t at_517_9 c3 ?_
      refine aw_iload_n (pc1 := 34) at_517_33 l1 rfl ?_
      cases hs1
      exact aw_iret at_517_34 (by rw [rt_517]; rfl) rfl
    · rw [if_neg c3] at hs1
      refine aw_icge_f (pc1 := 12) at_517_9 c3 rfl ?_
      refine aw_vload_n (pc1 := 13) at_517_12 l0 i0 rfl ?_
      refine aw_iload_n (pc1 := 14) at_517_13 l2 rfl ?_
      refine aw_iload_n (pc1 := 15) at_517_14 l1 rfl ?_
      obtain ⟨z4, hs2⟩ := am_ift hs1
      clear hs1
      refine aw_call (F := fm_508 x0 x2 x1 h) (t := true) (na := 3) (kd := 1) (as := [x0, (.int x2), (.int x1)]) at_517_15 (am_k3v kb_508) mn_508 mk_508 rfl rfl (am_ok_v mi_508 (am_hl rfl (am_ccR i0 (am_ccI (am_ccI am_cats_0))) rfl) z4) (am_hc am_cats_0 rfl) (fun _ => ⟨rfl, hh_517⟩) (fun o1 hz9 => rm_508 x0 x2 x1 h o1 i0 hz9) ?_
      rcases am_cI_s hs2 with ⟨v5, h6, f7, hs3⟩ | hs3
      · clear hs2
        refine Or.inl ⟨_, _, f7, ?_⟩
        show am_W X _ 517 18 _ [(.int v5)] h6 _
        by_cases c8 : v5 = 0
        · rw [if_pos c8] at hs3
          refine aw_ifeq_t at_517_18 c8 ?_
          refine aw_iload_n (pc1 := 26) at_517_25 l1 rfl ?_
          exact rg_517_26 (fun z0 z1 z2 h o hs3 => ih z0 z1 z2 h o hs3) x0 x2 x1 h6 o l0 l2 i0 hs3
        · rw [if_neg c8] at hs3
          refine aw_ifeq_f (pc1 := 21) at_517_18 c8 rfl ?_
          refine aw_iload_n (pc1 := 22) at_517_21 l2 rfl ?_
          refine aw_goto at_517_22 ?_
          exact rg_517_26 (fun z0 z1 z2 h o hs3 => ih z0 z1 z2 h o hs3) x0 x2 x2 h6 o l0 l2 i0 hs3
      · clear hs2
        exact Or.inr hs3
def fg_517_0 (N : Nat) (x0 : Value) (h : am_H) : Option am_O := (fg_517_4 N N x0 0 1 h)
theorem rg_517_0 {X : am_X} {d : Nat} {N : Nat} {lv : am_LV} (x0 : Value) (h : am_H) (o : am_O) (l0 : lv.lookup 0 = some x0) (i0 : am_isR x0 = true) (hs : fg_517_0 N x0 h = some o) : am_W X (d + 2) 517 0 lv [] h (fun q => q = o) := by
  unfold fg_517_0 at hs
  refine aw_iconst (v := 0) (pc1 := 1) at_517_0 (by decide) rfl ?_
  refine aw_istore_n (lv1 := am_put1 _ 1 _) (pc1 := 2) at_517_1 rfl rfl ?_
  refine aw_iconst (v := 1) (pc1 := 3) at_517_2 (by decide) rfl ?_
  refine aw_istore_n (lv1 := am_put1 _ 2 _) (pc1 := 4) at_517_3 rfl rfl ?_
  exact rg_517_4 N x0 0 1 h o hs _ (am_lk1 (am_lk1 l0 rfl (by rw [am_isRc i0]; rfl)) rfl rfl) (am_lk1 am_lk0 rfl rfl) am_lk0 i0
def fm_517 (N : Nat) (y0 : Value) (h : am_H) : Option am_O := fg_517_0 N y0 h
theorem rm_517 {X : am_X} {d : Nat} {N : Nat} (y0 : Value) (h : am_H) (o : am_O) (i0 : am_isR y0 = true) (hs : fm_517 N y0 h = some o) : am_W X (d + 2) 517 0 (am_args 0 [y0]) [] h (fun q => q = o) := by
  rw [am_args_R i0]
  exact rg_517_0 y0 h o rfl i0 hs
def fg_502_118 (N : Nat) : Nat → Value → Int32 → Int32 → Int32 → am_H → Option am_O
  | 0 => fun _ _ _ _ _ => none
  | K + 1 => fun x0 x1 x2 x5 h => (if x2 ≤ x5 then ((am_vR (am_pG 3172 x0 h)).bind fun v2 => ((am_vL (am_pG 3168 x0 h)).bind fun v4 => ((am_pSL v2 x1 v4 h).bind fun h6 => (if am_pOk 12 x0 h6 then am_cV true (fm_505 N x0 x1 h6) (fun h10 => ((am_vR (am_pG 3176 x0 h10)).bind fun v12 => (if am_pOk 12 x0 h10 then am_cI true (fm_517 N x0 h10) (fun v15 h16 => ((am_pA 0 v12 v15 h16).bind fun v18 => some (.inl (some (.int v18), h16)))) else none))) else none)))) else (if am_pOk 12 x0 h then am_cV true (fm_504 N x0 x1 h) (fun h22 => (fg_502_118 N K x0 x1 x2 ((x5 + 1)) h22)) else none))
theorem rg_502_118 {X : am_X} {d : Nat} {N : Nat} : ∀ (K : Nat) (x0 : Value) (x1 : Int32) (x2 : Int32) (x5 : Int32) (h : am_H) (o : am_O), fg_502_118 N K x0 x1 x2 x5 h = some o → ∀ lv : am_LV, (lv.lookup 0 = some x0) → (lv.lookup 1 = some (.int x1)) → (lv.lookup 2 = some (.int x2)) → (lv.lookup 5 = some (.int x5)) → (am_isR x0 = true) → am_W X (d + 10) 502 118 lv [] h (fun q => q = o) := by
  intro K
  induction K with
  | zero => intro x0 x1 x2 x5 h o hs; cases hs
  | succ K ih =>
    intro x0 x1 x2 x5 h o hs lv l0 l1 l2 l5 i0
    unfold fg_502_118 at hs
    refine aw_iload (pc1 := 120) at_502_118 l5 rfl ?_
    refine aw_iload_n (pc1 := 121) at_502_120 l2 rfl ?_
    by_cases c1 : x2 ≤ x5
    · rw [if_pos c1] at hs
      refine aw_icge_t at_502_121 c1 ?_
      refine aw_vload_n (pc1 := 136) at_502_135 l0 i0 rfl ?_
      obtain ⟨v2, e3, hs1⟩ := am_bind hs
      clear hs
      refine aw_pG (pc1 := 139) at_502_136 (am_vR_s e3).1 rfl ?_
      refine aw_iload_n (pc1 := 140) at_502_139 l1 rfl ?_
      refine aw_vload_n (pc1 := 141) at_502_140 l0 i0 rfl ?_
      obtain ⟨v4, e5, hs2⟩ := am_bind hs1
      clear hs1
      refine aw_pG (pc1 := 144) at_502_141 (am_vL_s e5) rfl ?_
      obtain ⟨h6, e7, hs3⟩ := am_bind hs2
      clear hs2
      refine aw_pSL (pc1 := 145) at_502_144 e7 rfl ?_
      refine aw_vload_n (pc1 := 146) at_502_145 l0 i0 rfl ?_
      refine aw_iload_n (pc1 := 147) at_502_146 l1 rfl ?_
      obtain ⟨z8, hs4⟩ := am_ift hs3
      clear hs3
      refine aw_call (F := fm_505 N x0 x1 h6) (t := true) (na := 2) (kd := 1) (as := [x0, (.int x1)]) at_502_147 (am_k3v kb_505) mn_505 mk_505 rfl rfl (am_ok_v mi_505 (am_hl rfl (am_ccR i0 (am_ccI am_cats_0)) rfl) z8) (am_hc am_cats_0 rfl) (fun _ => ⟨rfl, hh_502⟩) (fun o1 hz9 => rm_505 x0 x1 h6 o1 i0 hz9) ?_
      rcases am_cV_s hs4 with ⟨h10, f11, hs5⟩ | hs5
      · clear hs4
        refine Or.inl ⟨_, _, f11, ?_⟩
        show am_W X _ 502 150 _ [] h10 _
        refine aw_vload_n (pc1 := 151) at_502_150 l0 i0 rfl ?_
        obtain ⟨v12, e13, hs6⟩ := am_bind hs5
        clear hs5
        refine aw_pG (pc1 := 154) at_502_151 (am_vR_s e13).1 rfl ?_
        refine aw_vload_n (pc1 := 155) at_502_154 l0 i0 rfl ?_
        obtain ⟨z14, hs7⟩ := am_ift hs6
        clear hs6
        refine aw_call (F := fm_517 N x0 h10) (t := true) (na := 1) (kd := 1) (as := [x0]) at_502_155 (am_k3v kb_517) mn_517 mk_517 rfl rfl (am_ok_v mi_517 (am_hl rfl (am_ccR i0 am_cats_0) rfl) z14) (am_hc (am_ccR (am_vR_s e13).2 am_cats_0) rfl) (fun _ => ⟨rfl, hh_502⟩) (fun o1 hz9 => rm_517 x0 h10 o1 i0 hz9) ?_
        rcases am_cI_s hs7 with ⟨v15, h16, f17, hs8⟩ | hs8
        · clear hs7
          refine Or.inl ⟨_, _, f17, ?_⟩
          show am_W X _ 502 158 _ [(.int v15), v12] h16 _
          obtain ⟨v18, e19, hs9⟩ := am_bind hs8
          clear hs8
          refine aw_pA (pc1 := 159) at_502_158 (Or.inl ⟨rfl, rfl⟩) e19 rfl ?_
          cases hs9
          exact aw_iret at_502_159 (by rw [rt_502]; rfl) rfl
        · clear hs7
          exact Or.inr hs8
      · clear hs4
        exact Or.inr hs5
    · rw [if_neg c1] at hs
      refine aw_icge_f (pc1 := 124) at_502_121 c1 rfl ?_
      refine aw_vload_n (pc1 := 125) at_502_124 l0 i0 rfl ?_
      refine aw_iload_n (pc1 := 126) at_502_125 l1 rfl ?_
      obtain ⟨z20, hs10⟩ := am_ift hs
      clear hs
      refine aw_call (F := fm_504 N x0 x1 h) (t := true) (na := 2) (kd := 1) (as := [x0, (.int x1)]) at_502_126 (am_k3v kb_504) mn_504 mk_504 rfl rfl (am_ok_v mi_504 (am_hl rfl (am_ccR i0 (am_ccI am_cats_0)) rfl) z20) (am_hc am_cats_0 rfl) (fun _ => ⟨rfl, hh_502⟩) (fun o1 hz9 => rm_504 x0 x1 h o1 i0 hz9) ?_
      rcases am_cV_s hs10 with ⟨h22, f23, hs11⟩ | hs11
      · clear hs10
        refine Or.inl ⟨_, _, f23, ?_⟩
        show am_W X _ 502 129 _ [] h22 _
        refine aw_iinc (v := (x5 + 1)) (c := 1) (lv1 := am_put1 _ 5 _) (pc1 := 132) at_502_129 l5 (by decide) rfl rfl rfl ?_
        refine aw_goto at_502_132 ?_
        exact ih x0 x1 x2 ((x5 + 1)) h22 o hs11 _ (am_lk1 l0 rfl rfl) (am_lk1 l1 rfl rfl) (am_lk1 l2 rfl rfl) am_lk0 i0
      · clear hs10
        exact Or.inr hs11
def fg_502_93 (N : Nat) (x0 : Value) (x1 : Int32) (x2 : Int32) (s0 : Value) (s1 : Int32) (h : am_H) : Option am_O := ((am_pP 3072 s0 (.int s1) h).bind fun h1 => ((am_vI (am_pG 3072 x0 h1)).bind fun v3 => (if v3 ≤ 0 then ((am_vR (am_pG 3172 x0 h1)).bind fun v6 => ((am_pAL v6 x1 h1).bind fun v8 => ((am_pP 3168 x0 (.long v8) h1).bind fun h10 => (fg_502_118 N N x0 x1 x2 0 h10)))) else some (.inl (some (.int 0), h1)))))
theorem rg_502_93 {X : am_X} {d : Nat} {N : Nat} {lv : am_LV} (x0 : Value) (x1 : Int32) (x2 : Int32) (s0 : Value) (s1 : Int32) (h : am_H) (o : am_O) (l0 : lv.lookup 0 = some x0) (l1 : lv.lookup 1 = some (.int x1)) (l2 : lv.lookup 2 = some (.int x2)) (i0 : am_isR x0 = true) (j0 : am_isR s0 = true) (hs : fg_502_93 N x0 x1 x2 s0 s1 h = some o) : am_W X (d + 10) 502 93 lv [(.int s1), s0] h (fun q => q = o) := by
  unfold fg_502_93 at hs
  obtain ⟨h1, e2, hs1⟩ := am_bind hs
  clear hs
  refine aw_pP (pc1 := 96) at_502_93 e2 rfl ?_
  refine aw_vload_n (pc1 := 97) at_502_96 l0 i0 rfl ?_
  obtain ⟨v3, e4, hs2⟩ := am_bind hs1
  clear hs1
  refine aw_pG (pc1 := 100) at_502_97 (am_vI_s e4) rfl ?_
  by_cases c5 : v3 ≤ 0
  · rw [if_pos c5] at hs2
    refine aw_ifle_t at_502_100 c5 ?_
    refine aw_vload_n (pc1 := 106) at_502_105 l0 i0 rfl ?_
    refine aw_vload_n (pc1 := 107) at_502_106 l0 i0 rfl ?_
    obtain ⟨v6, e7, hs3⟩ := am_bind hs2
    clear hs2
    refine aw_pG (pc1 := 110) at_502_107 (am_vR_s e7).1 rfl ?_
    refine aw_iload_n (pc1 := 111) at_502_110 l1 rfl ?_
    obtain ⟨v8, e9, hs4⟩ := am_bind hs3
    clear hs3
    refine aw_pAL (pc1 := 112) at_502_111 e9 rfl ?_
    obtain ⟨h10, e11, hs5⟩ := am_bind hs4
    clear hs4
    refine aw_pP (pc1 := 115) at_502_112 e11 rfl ?_
    refine aw_iconst (v := 0) (pc1 := 116) at_502_115 (by decide) rfl ?_
    refine aw_istore (lv1 := am_put1 _ 5 _) (pc1 := 118) at_502_116 rfl rfl ?_
    exact rg_502_118 N x0 x1 x2 0 h10 o hs5 _ (am_lk1 l0 rfl rfl) (am_lk1 l1 rfl rfl) (am_lk1 l2 rfl rfl) am_lk0 i0
  · rw [if_neg c5] at hs2
    refine aw_ifle_f (pc1 := 103) at_502_100 c5 rfl ?_
    refine aw_iconst (v := 0) (pc1 := 104) at_502_103 (by decide) rfl ?_
    cases hs2
    exact aw_iret at_502_104 (by rw [rt_502]; rfl) rfl
def fg_502_88 (N : Nat) (x0 : Value) (x1 : Int32) (x2 : Int32) (s0 : Value) (h : am_H) : Option am_O := (fg_502_93 N x0 x1 x2 s0 3 h)
theorem rg_502_88 {X : am_X} {d : Nat} {N : Nat} {lv : am_LV} (x0 : Value) (x1 : Int32) (x2 : Int32) (s0 : Value) (h : am_H) (o : am_O) (l0 : lv.lookup 0 = some x0) (l1 : lv.lookup 1 = some (.int x1)) (l2 : lv.lookup 2 = some (.int x2)) (i0 : am_isR x0 = true) (j0 : am_isR s0 = true) (hs : fg_502_88 N x0 x1 x2 s0 h = some o) : am_W X (d + 10) 502 88 lv [s0] h (fun q => q = o) := by
  unfold fg_502_88 at hs
  refine aw_iconst (v := 3) (pc1 := 89) at_502_88 (by decide) rfl ?_
  refine aw_goto at_502_89 ?_
  exact rg_502_93 x0 x1 x2 s0 3 h o l0 l1 l2 i0 j0 hs
def fg_502_38 (N : Nat) (x0 : Value) (x1 : Int32) (x2 : Int32) (x3 : Int32) (s0 : Int32) (h : am_H) : Option am_O := (if am_pOk 12 x0 h then am_cI true (fm_489 x0 x1 h) (fun v2 h3 => (if ¬ v2 = 0 then am_cI false (fm_327 ((Int32.toInt64 x2)) 1 20 h3) (fun v6 h7 => (if ¬ v6 = 0 then (if x3 = 0 then (fg_502_88 N x0 x1 x2 x0 h7) else ((am_vI (am_pG 3073 x0 h7)).bind fun v11 => (if (v11 + (x2 * s0)) ≤ 600 then (fg_502_93 N x0 x1 x2 x0 0 h7) else (fg_502_88 N x0 x1 x2 x0 h7)))) else (fg_502_93 N x0 x1 x2 x0 2 h7))) else (fg_502_93 N x0 x1 x2 x0 1 h3))) else none)
theorem rg_502_38 {X : am_X} {d : Nat} {N : Nat} {lv : am_LV} (x0 : Value) (x1 : Int32) (x2 : Int32) (x3 : Int32) (s0 : Int32) (h : am_H) (o : am_O) (l0 : lv.lookup 0 = some x0) (l1 : lv.lookup 1 = some (.int x1)) (l2 : lv.lookup 2 = some (.int x2)) (l3 : lv.lookup 3 = some (.int x3)) (i0 : am_isR x0 = true) (hs : fg_502_38 N x0 x1 x2 x3 s0 h = some o) : am_W X (d + 10) 502 38 lv [(.int s0)] h (fun q => q = o) := by
  unfold fg_502_38 at hs
  refine aw_istore (lv1 := am_put1 _ 4 _) (pc1 := 40) at_502_38 rfl rfl ?_
  refine aw_vload_n (pc1 := 41) at_502_40 (am_lk1 l0 rfl rfl) i0 rfl ?_
  refine aw_vload_n (pc1 := 42) at_502_41 (am_lk1 l0 rfl rfl) i0 rfl ?_
  refine aw_iload_n (pc1 := 43) at_502_42 (am_lk1 l1 rfl rfl) rfl ?_
  obtain ⟨z1, hs1⟩ := am_ift hs
  clear hs
  refine aw_call (F := fm_489 x0 x1 h) (t := true) (na := 2) (kd := 1) (as := [x0, (.int x1)]) at_502_43 (am_k3v kb_489) mn_489 mk_489 rfl rfl (am_ok_v mi_489 (am_hl rfl (am_ccR i0 (am_ccI am_cats_0)) rfl) z1) (am_hc (am_ccR i0 am_cats_0) rfl) (fun _ => ⟨rfl, hh_502⟩) (fun o1 hz9 => rm_489 x0 x1 h o1 i0 hz9) ?_
  rcases am_cI_s hs1 with ⟨v2, h3, f4, hs2⟩ | hs2
  · clear hs1
    refine Or.inl ⟨_, _, f4, ?_⟩
    show am_W X _ 502 46 _ [(.int v2), x0] h3 _
    by_cases c5 : ¬ v2 = 0
    · rw [if_pos c5] at hs2
      refine aw_ifne_t at_502_46 c5 ?_
      refine aw_iload_n (pc1 := 54) at_502_53 (am_lk1 l2 rfl rfl) rfl ?_
      refine aw_i2l (v := (Int32.toInt64 x2)) (pc1 := 55) at_502_54 rfl rfl ?_
      refine aw_lconst (v := 1) (pc1 := 56) at_502_55 (by decide) rfl ?_
      refine aw_ldc2 (v := 20) (pc1 := 59) at_502_56 rfl rfl ?_
      refine aw_call (F := fm_327 ((Int32.toInt64 x2)) 1 20 h3) (t := false) (na := 3) (kd := 0) (as := [(.long (Int32.toInt64 x2)), (.long 1), (.long 20)]) at_502_59 (am_k3s kb_327) mn_327 mk_327 rfl rfl (am_ok_s mi_327 (am_hl rfl (am_ccL (am_ccL (am_ccL am_cats_0))) rfl)) (am_hc (am_ccR i0 am_cats_0) rfl) (fun hz9 => by cases hz9) (fun o1 hz9 => rm_327 ((Int32.toInt64 x2)) 1 20 h3 o1  hz9) ?_
      rcases am_cI_s hs2 with ⟨v6, h7, f8, hs3⟩ | hs3
      · clear hs2
        refine Or.inl ⟨_, _, f8, ?_⟩
        show am_W X _ 502 62 _ [(.int v6), x0] h7 _
        by_cases c9 : ¬ v6 = 0
        · rw [if_pos c9] at hs3
          refine aw_ifne_t at_502_62 c9 ?_
          refine aw_iload_n (pc1 := 70) at_502_69 (am_lk1 l3 rfl rfl) rfl ?_
          by_cases c10 : x3 = 0
          · rw [if_pos c10] at hs3
            refine aw_ifeq_t at_502_70 c10 ?_
            exact rg_502_88 x0 x1 x2 x0 h7 o (am_lk1 l0 rfl rfl) (am_lk1 l1 rfl rfl) (am_lk1 l2 rfl rfl) i0 i0 hs3
          · rw [if_neg c10] at hs3
            refine aw_ifeq_f (pc1 := 73) at_502_70 c10 rfl ?_
            refine aw_vload_n (pc1 := 74) at_502_73 (am_lk1 l0 rfl rfl) i0 rfl ?_
            obtain ⟨v11, e12, hs4⟩ := am_bind hs3
            clear hs3
            refine aw_pG (pc1 := 77) at_502_74 (am_vI_s e12) rfl ?_
            refine aw_iload_n (pc1 := 78) at_502_77 (am_lk1 l2 rfl rfl) rfl ?_
            refine aw_iload (pc1 := 80) at_502_78 am_lk0 rfl ?_
            refine aw_imul (v := (x2 * s0)) (pc1 := 81) at_502_80 rfl rfl ?_
            refine aw_iadd (v := (v11 + (x2 * s0))) (pc1 := 82) at_502_81 rfl rfl ?_
            refine aw_sipush (v := 600) (pc1 := 85) at_502_82 (by decide) rfl ?_
            by_cases c13 : (v11 + (x2 * s0)) ≤ 600
            · rw [if_pos c13] at hs4
              refine aw_icle_t at_502_85 c13 ?_
              refine aw_iconst (v := 0) (pc1 := 93) at_502_92 (by decide) rfl ?_
              exact rg_502_93 x0 x1 x2 x0 0 h7 o (am_lk1 l0 rfl rfl) (am_lk1 l1 rfl rfl) (am_lk1 l2 rfl rfl) i0 i0 hs4
            · rw [if_neg c13] at hs4
              refine aw_icle_f (pc1 := 88) at_502_85 c13 rfl ?_
              exact rg_502_88 x0 x1 x2 x0 h7 o (am_lk1 l0 rfl rfl) (am_lk1 l1 rfl rfl) (am_lk1 l2 rfl rfl) i0 i0 hs4
        · rw [if_neg c9] at hs3
          refine aw_ifne_f (pc1 := 65) at_502_62 c9 rfl ?_
          refine aw_iconst (v := 2) (pc1 := 66) at_502_65 (by decide) rfl ?_
          refine aw_goto at_502_66 ?_
          exact rg_502_93 x0 x1 x2 x0 2 h7 o (am_lk1 l0 rfl rfl) (am_lk1 l1 rfl rfl) (am_lk1 l2 rfl rfl) i0 i0 hs3
      · clear hs2
        exact Or.inr hs3
    · rw [if_neg c5] at hs2
      refine aw_ifne_f (pc1 := 49) at_502_46 c5 rfl ?_
      refine aw_iconst (v := 1) (pc1 := 50) at_502_49 (by decide) rfl ?_
      refine aw_goto at_502_50 ?_
      exact rg_502_93 x0 x1 x2 x0 1 h3 o (am_lk1 l0 rfl rfl) (am_lk1 l1 rfl rfl) (am_lk1 l2 rfl rfl) i0 i0 hs2
  · clear hs1
    exact Or.inr hs2
def fg_502_18 (N : Nat) (x0 : Value) (x1 : Int32) (x2 : Int32) (s0 : Int32) (h : am_H) : Option am_O := (if am_pOk 12 x0 h then am_cI true (fm_489 x0 x1 h) (fun v2 h3 => (if v2 = 0 then (fg_502_38 N x0 x1 x2 s0 0 h3) else (if am_pOk 12 x0 h3 then am_cI true (fm_503 x0 x1 h3) (fun v7 h8 => (fg_502_38 N x0 x1 x2 s0 ((s0 - v7)) h8)) else none))) else none)
theorem rg_502_18 {X : am_X} {d : Nat} {N : Nat} {lv : am_LV} (x0 : Value) (x1 : Int32) (x2 : Int32) (s0 : Int32) (h : am_H) (o : am_O) (l0 : lv.lookup 0 = some x0) (l1 : lv.lookup 1 = some (.int x1)) (l2 : lv.lookup 2 = some (.int x2)) (i0 : am_isR x0 = true) (hs : fg_502_18 N x0 x1 x2 s0 h = some o) : am_W X (d + 10) 502 18 lv [(.int s0)] h (fun q => q = o) := by
  unfold fg_502_18 at hs
  refine aw_istore_n (lv1 := am_put1 _ 3 _) (pc1 := 19) at_502_18 rfl rfl ?_
  refine aw_vload_n (pc1 := 20) at_502_19 (am_lk1 l0 rfl rfl) i0 rfl ?_
  refine aw_iload_n (pc1 := 21) at_502_20 (am_lk1 l1 rfl rfl) rfl ?_
  obtain ⟨z1, hs1⟩ := am_ift hs
  clear hs
  refine aw_call (F := fm_489 x0 x1 h) (t := true) (na := 2) (kd := 1) (as := [x0, (.int x1)]) at_502_21 (am_k3v kb_489) mn_489 mk_489 rfl rfl (am_ok_v mi_489 (am_hl rfl (am_ccR i0 (am_ccI am_cats_0)) rfl) z1) (am_hc am_cats_0 rfl) (fun _ => ⟨rfl, hh_502⟩) (fun o1 hz9 => rm_489 x0 x1 h o1 i0 hz9) ?_
  rcases am_cI_s hs1 with ⟨v2, h3, f4, hs2⟩ | hs2
  · clear hs1
    refine Or.inl ⟨_, _, f4, ?_⟩
    show am_W X _ 502 24 _ [(.int v2)] h3 _
    by_cases c5 : v2 = 0
    · rw [if_pos c5] at hs2
      refine aw_ifeq_t at_502_24 c5 ?_
      refine aw_iconst (v := 0) (pc1 := 38) at_502_37 (by decide) rfl ?_
      exact rg_502_38 x0 x1 x2 s0 0 h3 o (am_lk1 l0 rfl rfl) (am_lk1 l1 rfl rfl) (am_lk1 l2 rfl rfl) am_lk0 i0 hs2
    · rw [if_neg c5] at hs2
      refine aw_ifeq_f (pc1 := 27) at_502_24 c5 rfl ?_
      refine aw_iload_n (pc1 := 28) at_502_27 am_lk0 rfl ?_
      refine aw_vload_n (pc1 := 29) at_502_28 (am_lk1 l0 rfl rfl) i0 rfl ?_
      refine aw_iload_n (pc1 := 30) at_502_29 (am_lk1 l1 rfl rfl) rfl ?_
      obtain ⟨z6, hs3⟩ := am_ift hs2
      clear hs2
      refine aw_call (F := fm_503 x0 x1 h3) (t := true) (na := 2) (kd := 1) (as := [x0, (.int x1)]) at_502_30 (am_k3v kb_503) mn_503 mk_503 rfl rfl (am_ok_v mi_503 (am_hl rfl (am_ccR i0 (am_ccI am_cats_0)) rfl) z6) (am_hc (am_ccI am_cats_0) rfl) (fun _ => ⟨rfl, hh_502⟩) (fun o1 hz9 => rm_503 x0 x1 h3 o1 i0 hz9) ?_
      rcases am_cI_s hs3 with ⟨v7, h8, f9, hs4⟩ | hs4
      · clear hs3
        refine Or.inl ⟨_, _, f9, ?_⟩
        show am_W X _ 502 33 _ [(.int v7), (.int s0)] h8 _
        refine aw_isub (v := (s0 - v7)) (pc1 := 34) at_502_33 rfl rfl ?_
        refine aw_goto at_502_34 ?_
        exact rg_502_38 x0 x1 x2 s0 ((s0 - v7)) h8 o (am_lk1 l0 rfl rfl) (am_lk1 l1 rfl rfl) (am_lk1 l2 rfl rfl) am_lk0 i0 hs4
      · clear hs3
        exact Or.inr hs4
  · clear hs1
    exact Or.inr hs2
def fg_502_0 (N : Nat) (x0 : Value) (x1 : Int32) (x2 : Int32) (h : am_H) : Option am_O := (if am_pOk 12 x0 h then am_cI true (fm_489 x0 x1 h) (fun v2 h3 => (if v2 = 0 then (fg_502_18 N x0 x1 x2 0 h3) else ((am_vR (am_pG 3170 x0 h3)).bind fun v6 => ((am_pA 0 v6 x1 h3).bind fun v8 => (fg_502_18 N x0 x1 x2 v8 h3))))) else none)
theorem rg_502_0 {X : am_X} {d : Nat} {N : Nat} {lv : am_LV} (x0 : Value) (x1 : Int32) (x2 : Int32) (h : am_H) (o : am_O) (l0 : lv.lookup 0 = some x0) (l1 : lv.lookup 1 = some (.int x1)) (l2 : lv.lookup 2 = some (.int x2)) (i0 : am_isR x0 = true) (hs : fg_502_0 N x0 x1 x2 h = some o) : am_W X (d + 10) 502 0 lv [] h (fun q => q = o) := by
  unfold fg_502_0 at hs
  refine aw_vload_n (pc1 := 1) at_502_0 l0 i0 rfl ?_
  refine aw_iload_n (pc1 := 2) at_502_1 l1 rfl ?_
  obtain ⟨z1, hs1⟩ := am_ift hs
  clear hs
  refine aw_call (F := fm_489 x0 x1 h) (t := true) (na := 2) (kd := 1) (as := [x0, (.int x1)]) at_502_2 (am_k3v kb_489) mn_489 mk_489 rfl rfl (am_ok_v mi_489 (am_hl rfl (am_ccR i0 (am_ccI am_cats_0)) rfl) z1) (am_hc am_cats_0 rfl) (fun _ => ⟨rfl, hh_502⟩) (fun o1 hz9 => rm_489 x0 x1 h o1 i0 hz9) ?_
  rcases am_cI_s hs1 with ⟨v2, h3, f4, hs2⟩ | hs2
  · clear hs1
    refine Or.inl ⟨_, _, f4, ?_⟩
    show am_W X _ 502 5 _ [(.int v2)] h3 _
    by_cases c5 : v2 = 0
    · rw [if_pos c5] at hs2
      refine aw_ifeq_t at_502_5 c5 ?_
      refine aw_iconst (v := 0) (pc1 := 18) at_502_17 (by decide) rfl ?_
      exact rg_502_18 x0 x1 x2 0 h3 o l0 l1 l2 i0 hs2
    · rw [if_neg c5] at hs2
      refine aw_ifeq_f (pc1 := 8) at_502_5 c5 rfl ?_
      refine aw_vload_n (pc1 := 9) at_502_8 l0 i0 rfl ?_
      obtain ⟨v6, e7, hs3⟩ := am_bind hs2
      clear hs2
      refine aw_pG (pc1 := 12) at_502_9 (am_vR_s e7).1 rfl ?_
      refine aw_iload_n (pc1 := 13) at_502_12 l1 rfl ?_
      obtain ⟨v8, e9, hs4⟩ := am_bind hs3
      clear hs3
      refine aw_pA (pc1 := 14) at_502_13 (Or.inl ⟨rfl, rfl⟩) e9 rfl ?_
      refine aw_goto at_502_14 ?_
      exact rg_502_18 x0 x1 x2 v8 h3 o l0 l1 l2 i0 hs4
  · clear hs1
    exact Or.inr hs2
def fm_502 (N : Nat) (y0 : Value) (y1 : Int32) (y2 : Int32) (h : am_H) : Option am_O := fg_502_0 N y0 y1 y2 h
theorem rm_502 {X : am_X} {d : Nat} {N : Nat} (y0 : Value) (y1 : Int32) (y2 : Int32) (h : am_H) (o : am_O) (i0 : am_isR y0 = true) (hs : fm_502 N y0 y1 y2 h = some o) : am_W X (d + 10) 502 0 (am_args 0 [y0, .int y1, .int y2]) [] h (fun q => q = o) := by
  rw [am_args_R i0, am_args_I, am_args_I]
  exact rg_502_0 y0 y1 y2 h o rfl rfl rfl i0 hs
def fg_233_26 (N : Nat) (rec_4 : Value → Int32 → Int32 → am_H → Option am_O) (x0 : Value) (x2 : Int32) (s0 : Int32) (h : am_H) : Option am_O := (rec_4 x0 s0 ((x2 + 1)) h)
theorem rg_233_26 {X : am_X} {d : Nat} {N : Nat} {rec_4 : Value → Int32 → Int32 → am_H → Option am_O} (q_4 : ∀ (x0 : Value) (x1 : Int32) (x2 : Int32) (h : am_H) (o : am_O), rec_4 x0 x1 x2 h = some o → ∀ lv : am_LV, (lv.lookup 0 = some x0) → (lv.lookup 1 = some (.int x1)) → (lv.lookup 2 = some (.int x2)) → (am_isR x0 = true) → am_W X (d + 1) 233 4 lv [] h (fun q => q = o)) {lv : am_LV} (x0 : Value) (x2 : Int32) (s0 : Int32) (h : am_H) (o : am_O) (l0 : lv.lookup 0 = some x0) (l2 : lv.lookup 2 = some (.int x2)) (i0 : am_isR x0 = true) (hs : fg_233_26 N rec_4 x0 x2 s0 h = some o) : am_W X (d + 1) 233 26 lv [(.int s0)] h (fun q => q = o) := by
  unfold fg_233_26 at hs
  refine aw_istore_n (lv1 := am_put1 _ 1 _) (pc1 := 27) at_233_26 rfl rfl ?_
  refine aw_iinc (v := (x2 + 1)) (c := 1) (lv1 := am_put1 _ 2 _) (pc1 := 30) at_233_27 (am_lk1 l2 rfl rfl) (by decide) rfl rfl rfl ?_
  refine aw_goto at_233_30 ?_
  exact q_4 x0 s0 ((x2 + 1)) h o hs _ (am_lk1 (am_lk1 l0 rfl (by rw [am_isRc i0]; rfl)) rfl rfl) (am_lk1 am_lk0 rfl rfl) am_lk0 i0
def fg_233_4 (N : Nat) : Nat → Value → Int32 → Int32 → am_H → Option am_O
  | 0 => fun _ _ _ _ => none
  | K + 1 => fun x0 x1 x2 h => ((am_vI (am_pG 256 x0 h)).bind fun v1 => (if v1 ≤ x2 then some (.inl (some (.int x1), h)) else (if am_pOk 1 x0 h then am_cI true (fm_221 x0 x1 x2 h) (fun v5 h6 => (if v5 = 0 then (fg_233_26 N (fg_233_4 N K) x0 x2 x1 h6) else (fg_233_26 N (fg_233_4 N K) x0 x2 x2 h6))) else none)))
theorem rg_233_4 {X : am_X} {d : Nat} {N : Nat} : ∀ (K : Nat) (x0 : Value) (x1 : Int32) (x2 : Int32) (h : am_H) (o : am_O), fg_233_4 N K x0 x1 x2 h = some o → ∀ lv : am_LV, (lv.lookup 0 = some x0) → (lv.lookup 1 = some (.int x1)) → (lv.lookup 2 = some (.int x2)) → (am_isR x0 = true) → am_W X (d + 1) 233 4 lv [] h (fun q => q = o) := by
  intro K
  induction K with
  | zero => intro x0 x1 x2 h o hs; cases hs
  | succ K ih =>
    intro x0 x1 x2 h o hs lv l0 l1 l2 i0
    unfold fg_233_4 at hs
    refine aw_iload_n (pc1 := 5) at_233_4 l2 rfl ?_
    refine aw_vload_n (pc1 := 6) at_233_5 l0 i0 rfl ?_
    obtain ⟨v1, e2, hs1⟩ := am_bind hs
    clear hs
    refine aw_pG (pc1 := 9) at_233_6 (am_vI_s e2) rfl ?_
    by_cases c3 : v1 ≤ x2
    · rw [if_pos c3] at hs1
      refine aw_icge_t at_233_9 c3 ?_
      refine aw_iload_n (pc1 := 34) at_233_33 l1 rfl ?_
      cases hs1
      exact aw_iret at_233_34 (by rw [rt_233]; rfl) rfl
    · rw [if_neg c3] at hs1
      refine aw_icge_f (pc1 := 12) at_233_9 c3 rfl ?_
      refine aw_vload_n (pc1 := 13) at_233_12 l0 i0 rfl ?_
      refine aw_iload_n (pc1 := 14) at_233_13 l1 rfl ?_
      refine aw_iload_n (pc1 := 15) at_233_14 l2 rfl ?_
      obtain ⟨z4, hs2⟩ := am_ift hs1
      clear hs1
      refine aw_call (F := fm_221 x0 x1 x2 h) (t := true) (na := 3) (kd := 1) (as := [x0, (.int x1), (.int x2)]) at_233_15 (am_k3v kb_221) mn_221 mk_221 rfl rfl (am_ok_v mi_221 (am_hl rfl (am_ccR i0 (am_ccI (am_ccI am_cats_0))) rfl) z4) (am_hc am_cats_0 rfl) (fun _ => ⟨rfl, hh_233⟩) (fun o1 hz9 => rm_221 x0 x1 x2 h o1 i0 hz9) ?_
      rcases am_cI_s hs2 with ⟨v5, h6, f7, hs3⟩ | hs3
      · clear hs2
        refine Or.inl ⟨_, _, f7, ?_⟩
        show am_W X _ 233 18 _ [(.int v5)] h6 _
        by_cases c8 : v5 = 0
        · rw [if_pos c8] at hs3
          refine aw_ifeq_t at_233_18 c8 ?_
          refine aw_iload_n (pc1 := 26) at_233_25 l1 rfl ?_
          exact rg_233_26 (fun z0 z1 z2 h o hs3 => ih z0 z1 z2 h o hs3) x0 x2 x1 h6 o l0 l2 i0 hs3
        · rw [if_neg c8] at hs3
          refine aw_ifeq_f (pc1 := 21) at_233_18 c8 rfl ?_
          refine aw_iload_n (pc1 := 22) at_233_21 l2 rfl ?_
          refine aw_goto at_233_22 ?_
          exact rg_233_26 (fun z0 z1 z2 h o hs3 => ih z0 z1 z2 h o hs3) x0 x2 x2 h6 o l0 l2 i0 hs3
      · clear hs2
        exact Or.inr hs3
def fg_233_0 (N : Nat) (x0 : Value) (h : am_H) : Option am_O := (fg_233_4 N N x0 0 1 h)
theorem rg_233_0 {X : am_X} {d : Nat} {N : Nat} {lv : am_LV} (x0 : Value) (h : am_H) (o : am_O) (l0 : lv.lookup 0 = some x0) (i0 : am_isR x0 = true) (hs : fg_233_0 N x0 h = some o) : am_W X (d + 1) 233 0 lv [] h (fun q => q = o) := by
  unfold fg_233_0 at hs
  refine aw_iconst (v := 0) (pc1 := 1) at_233_0 (by decide) rfl ?_
  refine aw_istore_n (lv1 := am_put1 _ 1 _) (pc1 := 2) at_233_1 rfl rfl ?_
  refine aw_iconst (v := 1) (pc1 := 3) at_233_2 (by decide) rfl ?_
  refine aw_istore_n (lv1 := am_put1 _ 2 _) (pc1 := 4) at_233_3 rfl rfl ?_
  exact rg_233_4 N x0 0 1 h o hs _ (am_lk1 (am_lk1 l0 rfl (by rw [am_isRc i0]; rfl)) rfl rfl) (am_lk1 am_lk0 rfl rfl) am_lk0 i0
def fm_233 (N : Nat) (y0 : Value) (h : am_H) : Option am_O := fg_233_0 N y0 h
theorem rm_233 {X : am_X} {d : Nat} {N : Nat} (y0 : Value) (h : am_H) (o : am_O) (i0 : am_isR y0 = true) (hs : fm_233 N y0 h = some o) : am_W X (d + 1) 233 0 (am_args 0 [y0]) [] h (fun q => q = o) := by
  rw [am_args_R i0]
  exact rg_233_0 y0 h o rfl i0 hs
def fg_232_63 (N : Nat) (h : am_H) : Option am_O := some (.inl (some (.int 0), h))
theorem rg_232_63 {X : am_X} {d : Nat} {N : Nat} {lv : am_LV} (h : am_H) (o : am_O) (hs : fg_232_63 N h = some o) : am_W X (d + 84) 232 63 lv [] h (fun q => q = o) := by
  unfold fg_232_63 at hs
  refine aw_iconst (v := 0) (pc1 := 64) at_232_63 (by decide) rfl ?_
  cases hs
  exact aw_iret at_232_64 (by rw [rt_232]; decide) rfl
def fg_232_0 (N : Nat) (x0 : Value) (x1 : Int32) (x2 : Int32) (h : am_H) : Option am_O := (if am_pOk 11 x0 h then am_cR true (fm_201 x0 x1 h) (fun v2 h3 => (if am_pOk 11 x0 h3 then am_cR true (fm_201 x0 x2 h3) (fun v6 h7 => (if x1 = x2 then (fg_232_63 N h7) else ((am_vI (am_pG 256 v2 h7)).bind fun v10 => (if v10 = 0 then (fg_232_63 N h7) else ((am_vI (am_pG 256 v6 h7)).bind fun v13 => (if v13 = 0 then (fg_232_63 N h7) else ((am_vR (am_pG 257 v2 h7)).bind fun v16 => ((am_pA 0 v16 0 h7).bind fun v18 => (if am_pOk 11 x0 h7 then am_cR true (fm_63 x0 v18 h7) (fun v21 h22 => ((am_vI (am_pG 769 v21 h22)).bind fun v24 => ((am_vR (am_pG 257 v6 h22)).bind fun v26 => ((am_pA 0 v26 0 h22).bind fun v28 => (if am_pOk 11 x0 h22 then am_cR true (fm_63 x0 v28 h22) (fun v31 h32 => ((am_vI (am_pG 769 v31 h32)).bind fun v34 => (if v24 = v34 then ((am_vR (am_pG 2816 x0 h32)).bind fun v37 => ((am_vR (am_pG 2819 x0 h32)).bind fun v39 => (if am_pOk 1 v2 h32 then am_cV true (fm_218 N v2 v37 v39 h32) (fun h43 => ((am_vR (am_pG 2816 x0 h43)).bind fun v45 => ((am_vR (am_pG 2819 x0 h43)).bind fun v47 => (if am_pOk 1 v6 h43 then am_cV true (fm_218 N v6 v45 v47 h43) (fun h51 => ((am_vR (am_pG 257 v6 h51)).bind fun v53 => (if am_pOk 1 v6 h51 then am_cI true (fm_233 N v6 h51) (fun v56 h57 => ((am_vR (am_pG 257 v2 h57)).bind fun v59 => (if am_pOk 1 v2 h57 then am_cI true (fm_230 N v2 h57) (fun v62 h63 => ((am_pA 0 v59 v62 h63).bind fun v65 => ((am_pS 0 v53 v56 v65 h63).bind fun h67 => some (.inl (some (.int 1), h67))))) else none))) else none))) else none)))) else none))) else (fg_232_63 N h32)))) else none))))) else none))))))))) else none)) else none)
theorem rg_232_0 {X : am_X} {d : Nat} {N : Nat} {lv : am_LV} (x0 : Value) (x1 : Int32) (x2 : Int32) (h : am_H) (o : am_O) (l0 : lv.lookup 0 = some x0) (l1 : lv.lookup 1 = some (.int x1)) (l2 : lv.lookup 2 = some (.int x2)) (i0 : am_isR x0 = true) (hs : fg_232_0 N x0 x1 x2 h = some o) : am_W X (d + 84) 232 0 lv [] h (fun q => q = o) := by
  unfold fg_232_0 at hs
  refine aw_vload_n (pc1 := 1) at_232_0 l0 i0 rfl ?_
  refine aw_iload_n (pc1 := 2) at_232_1 l1 rfl ?_
  obtain ⟨z1, hs1⟩ := am_ift hs
  clear hs
  refine aw_call (F := fm_201 x0 x1 h) (t := true) (na := 2) (kd := 1) (as := [x0, (.int x1)]) at_232_2 (am_k3v kb_201) mn_201 mk_201 rfl rfl (am_ok_v mi_201 (am_hl rfl (am_ccR i0 (am_ccI am_cats_0)) rfl) z1) (am_hc am_cats_0 rfl) (fun _ => ⟨rfl, hh_232⟩) (fun o1 hz9 => rm_201 x0 x1 h o1 i0 hz9) ?_
  rcases am_cR_s hs1 with ⟨v2, h3, f4, iv2, hs2⟩ | hs2
  · clear hs1
    refine Or.inl ⟨_, _, f4, ?_⟩
    show am_W X _ 232 5 _ [v2] h3 _
    refine aw_vstore_n (lv1 := am_put1 _ 3 _) (pc1 := 6) at_232_5 iv2 rfl rfl ?_
    refine aw_vload_n (pc1 := 7) at_232_6 (am_lk1 l0 rfl rfl) i0 rfl ?_
    refine aw_iload_n (pc1 := 8) at_232_7 (am_lk1 l2 rfl rfl) rfl ?_
    obtain ⟨z5, hs3⟩ := am_ift hs2
    clear hs2
    refine aw_call (F := fm_201 x0 x2 h3) (t := true) (na := 2) (kd := 1) (as := [x0, (.int x2)]) at_232_8 (am_k3v kb_201) mn_201 mk_201 rfl rfl (am_ok_v mi_201 (am_hl rfl (am_ccR i0 (am_ccI am_cats_0)) rfl) z5) (am_hc am_cats_0 rfl) (fun _ => ⟨rfl, hh_232⟩) (fun o1 hz9 => rm_201 x0 x2 h3 o1 i0 hz9) ?_
    rcases am_cR_s hs3 with ⟨v6, h7, f8, iv6, hs4⟩ | hs4
    · clear hs3
      refine Or.inl ⟨_, _, f8, ?_⟩
      show am_W X _ 232 11 _ [v6] h7 _
      refine aw_vstore (lv1 := am_put1 _ 4 _) (pc1 := 13) at_232_11 iv6 rfl rfl ?_
      refine aw_iload_n (pc1 := 14) at_232_13 (am_lk1 (am_lk1 l1 rfl rfl) rfl rfl) rfl ?_
      refine aw_iload_n (pc1 := 15) at_232_14 (am_lk1 (am_lk1 l2 rfl rfl) rfl rfl) rfl ?_
      by_cases c9 : x1 = x2
      · rw [if_pos c9] at hs4
        refine aw_iceq_t at_232_15 c9 ?_
        exact rg_232_63 h7 o   hs4
      · rw [if_neg c9] at hs4
        refine aw_iceq_f (pc1 := 18) at_232_15 c9 rfl ?_
        refine aw_vload_n (pc1 := 19) at_232_18 (am_lk1 am_lk0 rfl (by rw [am_isRc iv2]; rfl)) iv2 rfl ?_
        obtain ⟨v10, e11, hs5⟩ := am_bind hs4
        clear hs4
        refine aw_pG (pc1 := 22) at_232_19 (am_vI_s e11) rfl ?_
        by_cases c12 : v10 = 0
        · rw [if_pos c12] at hs5
          refine aw_ifeq_t at_232_22 c12 ?_
          exact rg_232_63 h7 o   hs5
        · rw [if_neg c12] at hs5
          refine aw_ifeq_f (pc1 := 25) at_232_22 c12 rfl ?_
          refine aw_vload (pc1 := 27) at_232_25 am_lk0 iv6 rfl ?_
          obtain ⟨v13, e14, hs6⟩ := am_bind hs5
          clear hs5
          refine aw_pG (pc1 := 30) at_232_27 (am_vI_s e14) rfl ?_
          by_cases c15 : v13 = 0
          · rw [if_pos c15] at hs6
            refine aw_ifeq_t at_232_30 c15 ?_
            exact rg_232_63 h7 o   hs6
          · rw [if_neg c15] at hs6
            refine aw_ifeq_f (pc1 := 33) at_232_30 c15 rfl ?_
            refine aw_vload_n (pc1 := 34) at_232_33 (am_lk1 (am_lk1 l0 rfl rfl) rfl rfl) i0 rfl ?_
            refine aw_vload_n (pc1 := 35) at_232_34 (am_lk1 am_lk0 rfl (by rw [am_isRc iv2]; rfl)) iv2 rfl ?_
            obtain ⟨v16, e17, hs7⟩ := am_bind hs6
            clear hs6
            refine aw_pG (pc1 := 38) at_232_35 (am_vR_s e17).1 rfl ?_
            refine aw_iconst (v := 0) (pc1 := 39) at_232_38 (by decide) rfl ?_
            obtain ⟨v18, e19, hs8⟩ := am_bind hs7
            clear hs7
            refine aw_pA (pc1 := 40) at_232_39 (Or.inl ⟨rfl, rfl⟩) e19 rfl ?_
            obtain ⟨z20, hs9⟩ := am_ift hs8
            clear hs8
            refine aw_call (F := fm_63 x0 v18 h7) (t := true) (na := 2) (kd := 1) (as := [x0, (.int v18)]) at_232_40 (am_k3v kb_63) mn_63 mk_63 rfl rfl (am_ok_v mi_63 (am_hl rfl (am_ccR i0 (am_ccI am_cats_0)) rfl) z20) (am_hc am_cats_0 rfl) (fun _ => ⟨rfl, hh_232⟩) (fun o1 hz9 => rm_63 x0 v18 h7 o1 i0 hz9) ?_
            rcases am_cR_s hs9 with ⟨v21, h22, f23, iv21, hs10⟩ | hs10
            · clear hs9
              refine Or.inl ⟨_, _, f23, ?_⟩
              show am_W X _ 232 43 _ [v21] h22 _
              obtain ⟨v24, e25, hs11⟩ := am_bind hs10
              clear hs10
              refine aw_pG (pc1 := 46) at_232_43 (am_vI_s e25) rfl ?_
              refine aw_vload_n (pc1 := 47) at_232_46 (am_lk1 (am_lk1 l0 rfl rfl) rfl rfl) i0 rfl ?_
              refine aw_vload (pc1 := 49) at_232_47 am_lk0 iv6 rfl ?_
              obtain ⟨v26, e27, hs12⟩ := am_bind hs11
              clear hs11
              refine aw_pG (pc1 := 52) at_232_49 (am_vR_s e27).1 rfl ?_
              refine aw_iconst (v := 0) (pc1 := 53) at_232_52 (by decide) rfl ?_
              obtain ⟨v28, e29, hs13⟩ := am_bind hs12
              clear hs12
              refine aw_pA (pc1 := 54) at_232_53 (Or.inl ⟨rfl, rfl⟩) e29 rfl ?_
              obtain ⟨z30, hs14⟩ := am_ift hs13
              clear hs13
              refine aw_call (F := fm_63 x0 v28 h22) (t := true) (na := 2) (kd := 1) (as := [x0, (.int v28)]) at_232_54 (am_k3v kb_63) mn_63 mk_63 rfl rfl (am_ok_v mi_63 (am_hl rfl (am_ccR i0 (am_ccI am_cats_0)) rfl) z30) (am_hc (am_ccI am_cats_0) rfl) (fun _ => ⟨rfl, hh_232⟩) (fun o1 hz9 => rm_63 x0 v28 h22 o1 i0 hz9) ?_
              rcases am_cR_s hs14 with ⟨v31, h32, f33, iv31, hs15⟩ | hs15
              · clear hs14
                refine Or.inl ⟨_, _, f33, ?_⟩
                show am_W X _ 232 57 _ [v31, (.int v24)] h32 _
                obtain ⟨v34, e35, hs16⟩ := am_bind hs15
                clear hs15
                refine aw_pG (pc1 := 60) at_232_57 (am_vI_s e35) rfl ?_
                by_cases c36 : v24 = v34
                · rw [if_pos c36] at hs16
                  refine aw_iceq_t at_232_60 c36 ?_
                  refine aw_vload_n (pc1 := 66) at_232_65 (am_lk1 am_lk0 rfl (by rw [am_isRc iv2]; rfl)) iv2 rfl ?_
                  refine aw_vload_n (pc1 := 67) at_232_66 (am_lk1 (am_lk1 l0 rfl rfl) rfl rfl) i0 rfl ?_
                  obtain ⟨v37, e38, hs17⟩ := am_bind hs16
                  clear hs16
                  refine aw_pG (pc1 := 70) at_232_67 (am_vR_s e38).1 rfl ?_
                  refine aw_vload_n (pc1 := 71) at_232_70 (am_lk1 (am_lk1 l0 rfl rfl) rfl rfl) i0 rfl ?_
                  obtain ⟨v39, e40, hs18⟩ := am_bind hs17
                  clear hs17
                  refine aw_pG (pc1 := 74) at_232_71 (am_vR_s e40).1 rfl ?_
                  obtain ⟨z41, hs19⟩ := am_ift hs18
                  clear hs18
                  refine aw_call (F := fm_218 N v2 v37 v39 h32) (t := true) (na := 3) (kd := 1) (as := [v2, v37, v39]) at_232_74 (am_k3v kb_218) mn_218 mk_218 rfl rfl (am_ok_v mi_218 (am_hl rfl (am_ccR iv2 (am_ccR (am_vR_s e38).2 (am_ccR (am_vR_s e40).2 am_cats_0))) rfl) z41) (am_hc am_cats_0 rfl) (fun _ => ⟨rfl, hh_232⟩) (fun o1 hz9 => rm_218 v2 v37 v39 h32 o1 iv2 (am_vR_s e38).2 (am_vR_s e40).2 hz9) ?_
                  rcases am_cV_s hs19 with ⟨h43, f44, hs20⟩ | hs20
                  · clear hs19
                    refine Or.inl ⟨_, _, f44, ?_⟩
                    show am_W X _ 232 77 _ [] h43 _
                    refine aw_vload (pc1 := 79) at_232_77 am_lk0 iv6 rfl ?_
                    refine aw_vload_n (pc1 := 80) at_232_79 (am_lk1 (am_lk1 l0 rfl rfl) rfl rfl) i0 rfl ?_
                    obtain ⟨v45, e46, hs21⟩ := am_bind hs20
                    clear hs20
                    refine aw_pG (pc1 := 83) at_232_80 (am_vR_s e46).1 rfl ?_
                    refine aw_vload_n (pc1 := 84) at_232_83 (am_lk1 (am_lk1 l0 rfl rfl) rfl rfl) i0 rfl ?_
                    obtain ⟨v47, e48, hs22⟩ := am_bind hs21
                    clear hs21
                    refine aw_pG (pc1 := 87) at_232_84 (am_vR_s e48).1 rfl ?_
                    obtain ⟨z49, hs23⟩ := am_ift hs22
                    clear hs22
                    refine aw_call (F := fm_218 N v6 v45 v47 h43) (t := true) (na := 3) (kd := 1) (as := [v6, v45, v47]) at_232_87 (am_k3v kb_218) mn_218 mk_218 rfl rfl (am_ok_v mi_218 (am_hl rfl (am_ccR iv6 (am_ccR (am_vR_s e46).2 (am_ccR (am_vR_s e48).2 am_cats_0))) rfl) z49) (am_hc am_cats_0 rfl) (fun _ => ⟨rfl, hh_232⟩) (fun o1 hz9 => rm_218 v6 v45 v47 h43 o1 iv6 (am_vR_s e46).2 (am_vR_s e48).2 hz9) ?_
                    rcases am_cV_s hs23 with ⟨h51, f52, hs24⟩ | hs24
                    · clear hs23
                      refine Or.inl ⟨_, _, f52, ?_⟩
                      show am_W X _ 232 90 _ [] h51 _
                      refine aw_vload (pc1 := 92) at_232_90 am_lk0 iv6 rfl ?_
                      obtain ⟨v53, e54, hs25⟩ := am_bind hs24
                      clear hs24
                      refine aw_pG (pc1 := 95) at_232_92 (am_vR_s e54).1 rfl ?_
                      refine aw_vload (pc1 := 97) at_232_95 am_lk0 iv6 rfl ?_
                      obtain ⟨z55, hs26⟩ := am_ift hs25
                      clear hs25
                      refine aw_call (F := fm_233 N v6 h51) (t := true) (na := 1) (kd := 1) (as := [v6]) at_232_97 (am_k3v kb_233) mn_233 mk_233 rfl rfl (am_ok_v mi_233 (am_hl rfl (am_ccR iv6 am_cats_0) rfl) z55) (am_hc (am_ccR (am_vR_s e54).2 am_cats_0) rfl) (fun _ => ⟨rfl, hh_232⟩) (fun o1 hz9 => rm_233 v6 h51 o1 iv6 hz9) ?_
                      rcases am_cI_s hs26 with ⟨v56, h57, f58, hs27⟩ | hs27
                      · clear hs26
                        refine Or.inl ⟨_, _, f58, ?_⟩
                        show am_W X _ 232 100 _ [(.int v56), v53] h57 _
                        refine aw_vload_n (pc1 := 101) at_232_100 (am_lk1 am_lk0 rfl (by rw [am_isRc iv2]; rfl)) iv2 rfl ?_
                        obtain ⟨v59, e60, hs28⟩ := am_bind hs27
                        clear hs27
                        refine aw_pG (pc1 := 104) at_232_101 (am_vR_s e60).1 rfl ?_
                        refine aw_vload_n (pc1 := 105) at_232_104 (am_lk1 am_lk0 rfl (by rw [am_isRc iv2]; rfl)) iv2 rfl ?_
                        obtain ⟨z61, hs29⟩ := am_ift hs28
                        clear hs28
                        refine aw_call (F := fm_230 N v2 h57) (t := true) (na := 1) (kd := 1) (as := [v2]) at_232_105 (am_k3v kb_230) mn_230 mk_230 rfl rfl (am_ok_v mi_230 (am_hl rfl (am_ccR iv2 am_cats_0) rfl) z61) (am_hc (am_ccR (am_vR_s e60).2 (am_ccI (am_ccR (am_vR_s e54).2 am_cats_0))) rfl) (fun _ => ⟨rfl, hh_232⟩) (fun o1 hz9 => rm_230 v2 h57 o1 iv2 hz9) ?_
                        rcases am_cI_s hs29 with ⟨v62, h63, f64, hs30⟩ | hs30
                        · clear hs29
                          refine Or.inl ⟨_, _, f64, ?_⟩
                          show am_W X _ 232 108 _ [(.int v62), v59, (.int v56), v53] h63 _
                          obtain ⟨v65, e66, hs31⟩ := am_bind hs30
                          clear hs30
                          refine aw_pA (pc1 := 109) at_232_108 (Or.inl ⟨rfl, rfl⟩) e66 rfl ?_
                          obtain ⟨h67, e68, hs32⟩ := am_bind hs31
                          clear hs31
                          refine aw_pS (pc1 := 110) at_232_109 (Or.inl ⟨rfl, rfl⟩) e68 rfl ?_
                          refine aw_iconst (v := 1) (pc1 := 111) at_232_110 (by decide) rfl ?_
                          cases hs32
                          exact aw_iret at_232_111 (by rw [rt_232]; decide) rfl
                        · clear hs29
                          exact Or.inr hs30
                      · clear hs26
                        exact Or.inr hs27
                    · clear hs23
                      exact Or.inr hs24
                  · clear hs19
                    exact Or.inr hs20
                · rw [if_neg c36] at hs16
                  refine aw_iceq_f (pc1 := 63) at_232_60 c36 rfl ?_
                  exact rg_232_63 h32 o   hs16
              · clear hs14
                exact Or.inr hs15
            · clear hs9
              exact Or.inr hs10
    · clear hs3
      exact Or.inr hs4
  · clear hs1
    exact Or.inr hs2
def fm_232 (N : Nat) (y0 : Value) (y1 : Int32) (y2 : Int32) (h : am_H) : Option am_O := fg_232_0 N y0 y1 y2 h
theorem rm_232 {X : am_X} {d : Nat} {N : Nat} (y0 : Value) (y1 : Int32) (y2 : Int32) (h : am_H) (o : am_O) (i0 : am_isR y0 = true) (hs : fm_232 N y0 y1 y2 h = some o) : am_W X (d + 84) 232 0 (am_args 0 [y0, .int y1, .int y2]) [] h (fun q => q = o) := by
  rw [am_args_R i0, am_args_I, am_args_I]
  exact rg_232_0 y0 y1 y2 h o rfl rfl rfl i0 hs
def fg_231_22 (N : Nat) (h : am_H) : Option am_O := some (.inl (some (.int 1), h))
theorem rg_231_22 {X : am_X} {d : Nat} {N : Nat} {lv : am_LV} (h : am_H) (o : am_O) (hs : fg_231_22 N h = some o) : am_W X (d + 85) 231 22 lv [] h (fun q => q = o) := by
  unfold fg_231_22 at hs
  refine aw_iconst (v := 1) (pc1 := 23) at_231_22 (by decide) rfl ?_
  cases hs
  exact aw_iret at_231_23 (by rw [rt_231]; rfl) rfl
def fg_231_16 (N : Nat) (s0 : Value) (s1 : Int32) (s2 : Int64) (h : am_H) : Option am_O := ((am_pSL s0 s1 s2 h).bind fun h1 => some (.inl (some (.int 0), h1)))
theorem rg_231_16 {X : am_X} {d : Nat} {N : Nat} {lv : am_LV} (s0 : Value) (s1 : Int32) (s2 : Int64) (h : am_H) (o : am_O) (j0 : am_isR s0 = true) (hs : fg_231_16 N s0 s1 s2 h = some o) : am_W X (d + 85) 231 16 lv [(.long s2), (.int s1), s0] h (fun q => q = o) := by
  unfold fg_231_16 at hs
  obtain ⟨h1, e2, hs1⟩ := am_bind hs
  clear hs
  refine aw_pSL (pc1 := 17) at_231_16 e2 rfl ?_
  refine aw_goto at_231_17 ?_
  refine aw_iconst (v := 0) (pc1 := 25) at_231_24 (by decide) rfl ?_
  cases hs1
  exact aw_iret at_231_25 (by rw [rt_231]; rfl) rfl
def fg_231_0 (N : Nat) (x0 : Value) (x1 : Int32) (x2 : Int32) (x3 : Value) (h : am_H) : Option am_O := (if am_pOk 11 x0 h then (match fm_232 N x0 x1 x2 h with | some (.inl (some (.int v2), h3)) => (if v2 = 0 then (fg_231_16 N x3 0 0 h3) else (fg_231_16 N x3 0 1 h3)) | some (.inr (2, h6)) => (fg_231_22 N h6) | _ => none) else none)
theorem rg_231_0 {X : am_X} {d : Nat} {N : Nat} {lv : am_LV} (x0 : Value) (x1 : Int32) (x2 : Int32) (x3 : Value) (h : am_H) (o : am_O) (l0 : lv.lookup 0 = some x0) (l1 : lv.lookup 1 = some (.int x1)) (l2 : lv.lookup 2 = some (.int x2)) (l3 : lv.lookup 3 = some x3) (i0 : am_isR x0 = true) (i3 : am_isR x3 = true) (hs : fg_231_0 N x0 x1 x2 x3 h = some o) : am_W X (d + 85) 231 0 lv [] h (fun q => q = o) := by
  unfold fg_231_0 at hs
  refine aw_vload_n (pc1 := 1) at_231_0 l3 i3 rfl ?_
  refine aw_iconst (v := 0) (pc1 := 2) at_231_1 (by decide) rfl ?_
  refine aw_vload_n (pc1 := 3) at_231_2 l0 i0 rfl ?_
  refine aw_iload_n (pc1 := 4) at_231_3 l1 rfl ?_
  refine aw_iload_n (pc1 := 5) at_231_4 l2 rfl ?_
  obtain ⟨z1, hs1⟩ := am_ift hs
  clear hs
  refine aw_callH (F := fm_232 N x0 x1 x2 h) (na := 3) (kd := 1) (as := [x0, (.int x1), (.int x2)]) at_231_5 (am_k3v kb_232) mn_232 mk_232 rfl rfl (am_ok_v mi_232 (am_hl rfl (am_ccR i0 (am_ccI (am_ccI am_cats_0))) rfl) z1) (am_hc (am_ccI (am_ccR i3 am_cats_0)) rfl) (fun o1 hz9 => rm_232 x0 x1 x2 h o1 i0 hz9) ?_
  split at hs1
  · rename_i v2 h3 f4
    refine Or.inl ⟨_, _, f4, ?_⟩
    show am_W X _ 231 8 _ [(.int v2), (.int 0), x3] h3 _
    by_cases c5 : v2 = 0
    · rw [if_pos c5] at hs1
      refine aw_ifeq_t at_231_8 c5 ?_
      refine aw_lconst (v := 0) (pc1 := 16) at_231_15 (by decide) rfl ?_
      exact rg_231_16 x3 0 0 h3 o  i3 hs1
    · rw [if_neg c5] at hs1
      refine aw_ifeq_f (pc1 := 11) at_231_8 c5 rfl ?_
      refine aw_lconst (v := 1) (pc1 := 12) at_231_11 (by decide) rfl ?_
      refine aw_goto at_231_12 ?_
      exact rg_231_16 x3 0 1 h3 o  i3 hs1
  · rename_i h6 f7
    refine Or.inr ⟨_, _, 22, 4, f7, rfl, hn_231, hd_231_5_2, ?_⟩
    exact rg_231_22 h6 o   hs1
  · cases hs1
def fm_231 (N : Nat) (y0 : Value) (y1 : Int32) (y2 : Int32) (y3 : Value) (h : am_H) : Option am_O := fg_231_0 N y0 y1 y2 y3 h
theorem rm_231 {X : am_X} {d : Nat} {N : Nat} (y0 : Value) (y1 : Int32) (y2 : Int32) (y3 : Value) (h : am_H) (o : am_O) (i0 : am_isR y0 = true) (i3 : am_isR y3 = true) (hs : fm_231 N y0 y1 y2 y3 h = some o) : am_W X (d + 85) 231 0 (am_args 0 [y0, .int y1, .int y2, y3]) [] h (fun q => q = o) := by
  rw [am_args_R i0, am_args_I, am_args_I, am_args_R i3]
  exact rg_231_0 y0 y1 y2 y3 h o rfl rfl rfl rfl i0 i3 hs
def fg_518_141 (N : Nat) (rec_114 : Value → Int32 → Int32 → Int32 → Int32 → am_H → Option am_O) (x0 : Value) (x2 : Int32) (x3 : Int32) (x5 : Int32) (s0 : Int32) (h : am_H) : Option am_O := (rec_114 x0 x2 x3 s0 ((x5 + 1)) h)
theorem rg_518_141 {X : am_X} {d : Nat} {N : Nat} {rec_114 : Value → Int32 → Int32 → Int32 → Int32 → am_H → Option am_O} (q_114 : ∀ (x0 : Value) (x2 : Int32) (x3 : Int32) (x4 : Int32) (x5 : Int32) (h : am_H) (o : am_O), rec_114 x0 x2 x3 x4 x5 h = some o → ∀ lv : am_LV, (lv.lookup 0 = some x0) → (lv.lookup 2 = some (.int x2)) → (lv.lookup 3 = some (.int x3)) → (lv.lookup 4 = some (.int x4)) → (lv.lookup 5 = some (.int x5)) → (am_isR x0 = true) → am_W X (d + 9) 518 114 lv [] h (fun q => q = o)) {lv : am_LV} (x0 : Value) (x2 : Int32) (x3 : Int32) (x5 : Int32) (s0 : Int32) (h : am_H) (o : am_O) (l0 : lv.lookup 0 = some x0) (l2 : lv.lookup 2 = some (.int x2)) (l3 : lv.lookup 3 = some (.int x3)) (l5 : lv.lookup 5 = some (.int x5)) (i0 : am_isR x0 = true) (hs : fg_518_141 N rec_114 x0 x2 x3 x5 s0 h = some o) : am_W X (d + 9) 518 141 lv [(.int s0)] h (fun q => q = o) := by
  unfold fg_518_141 at hs
  refine aw_istore (lv1 := am_put1 _ 4 _) (pc1 := 143) at_518_141 rfl rfl ?_
  refine aw_iinc (v := (x5 + 1)) (c := 1) (lv1 := am_put1 _ 5 _) (pc1 := 146) at_518_143 (am_lk1 l5 rfl rfl) (by decide) rfl rfl rfl ?_
  refine aw_goto at_518_146 ?_
  exact q_114 x0 x2 x3 s0 ((x5 + 1)) h o hs _ (am_lk1 (am_lk1 l0 rfl rfl) rfl rfl) (am_lk1 (am_lk1 l2 rfl rfl) rfl rfl) (am_lk1 (am_lk1 l3 rfl rfl) rfl rfl) (am_lk1 am_lk0 rfl rfl) am_lk0 i0
def fg_518_114 (N : Nat) : Nat → Value → Int32 → Int32 → Int32 → Int32 → am_H → Option am_O
  | 0 => fun _ _ _ _ _ _ => none
  | K + 1 => fun x0 x2 x3 x4 x5 h => ((am_vI (am_pG 3177 x0 h)).bind fun v1 => (if v1 ≤ x5 then ((am_vR (am_pG 3171 x0 h)).bind fun v4 => ((am_pS 0 v4 ((16 * x2) + x4) x3 h).bind fun h6 => some (.inl (some (.int 1), h6)))) else (if am_pOk 12 x0 h then am_cI true (fm_508 x0 x4 x5 h) (fun v9 h10 => (if v9 = 0 then (fg_518_141 N (fg_518_114 N K) x0 x2 x3 x5 x4 h10) else (fg_518_141 N (fg_518_114 N K) x0 x2 x3 x5 x5 h10))) else none)))
theorem rg_518_114 {X : am_X} {d : Nat} {N : Nat} : ∀ (K : Nat) (x0 : Value) (x2 : Int32) (x3 : Int32) (x4 : Int32) (x5 : Int32) (h : am_H) (o : am_O), fg_518_114 N K x0 x2 x3 x4 x5 h = some o → ∀ lv : am_LV, (lv.lookup 0 = some x0) → (lv.lookup 2 = some (.int x2)) → (lv.lookup 3 = some (.int x3)) → (lv.lookup 4 = some (.int x4)) → (lv.lookup 5 = some (.int x5)) → (am_isR x0 = true) → am_W X (d + 9) 518 114 lv [] h (fun q => q = o) := by
  intro K
  induction K with
  | zero => intro x0 x2 x3 x4 x5 h o hs; cases hs
  | succ K ih =>
    intro x0 x2 x3 x4 x5 h o hs lv l0 l2 l3 l4 l5 i0
    unfold fg_518_114 at hs
    refine aw_iload (pc1 := 116) at_518_114 l5 rfl ?_
    refine aw_vload_n (pc1 := 117) at_518_116 l0 i0 rfl ?_
    obtain ⟨v1, e2, hs1⟩ := am_bind hs
    clear hs
    refine aw_pG (pc1 := 120) at_518_117 (am_vI_s e2) rfl ?_
    by_cases c3 : v1 ≤ x5
    · rw [if_pos c3] at hs1
      refine aw_icge_t at_518_120 c3 ?_
      refine aw_vload_n (pc1 := 150) at_518_149 l0 i0 rfl ?_
      obtain ⟨v4, e5, hs2⟩ := am_bind hs1
      clear hs1
      refine aw_pG (pc1 := 153) at_518_150 (am_vR_s e5).1 rfl ?_
      refine aw_bipush (v := 16) (pc1 := 155) at_518_153 (by decide) rfl ?_
      refine aw_iload_n (pc1 := 156) at_518_155 l2 rfl ?_
      refine aw_imul (v := (16 * x2)) (pc1 := 157) at_518_156 rfl rfl ?_
      refine aw_iload (pc1 := 159) at_518_157 l4 rfl ?_
      refine aw_iadd (v := ((16 * x2) + x4)) (pc1 := 160) at_518_159 rfl rfl ?_
      refine aw_iload_n (pc1 := 161) at_518_160 l3 rfl ?_
      obtain ⟨h6, e7, hs3⟩ := am_bind hs2
      clear hs2
      refine aw_pS (pc1 := 162) at_518_161 (Or.inl ⟨rfl, rfl⟩) e7 rfl ?_
      refine aw_iconst (v := 1) (pc1 := 163) at_518_162 (by decide) rfl ?_
      cases hs3
      exact aw_iret at_518_163 (by rw [rt_518]; decide) rfl
    · rw [if_neg c3] at hs1
      refine aw_icge_f (pc1 := 123) at_518_120 c3 rfl ?_
      refine aw_vload_n (pc1 := 124) at_518_123 l0 i0 rfl ?_
      refine aw_iload (pc1 := 126) at_518_124 l4 rfl ?_
      refine aw_iload (pc1 := 128) at_518_126 l5 rfl ?_
      obtain ⟨z8, hs4⟩ := am_ift hs1
      clear hs1
      refine aw_call (F := fm_508 x0 x4 x5 h) (t := true) (na := 3) (kd := 1) (as := [x0, (.int x4), (.int x5)]) at_518_128 (am_k3v kb_508) mn_508 mk_508 rfl rfl (am_ok_v mi_508 (am_hl rfl (am_ccR i0 (am_ccI (am_ccI am_cats_0))) rfl) z8) (am_hc am_cats_0 rfl) (fun _ => ⟨rfl, hh_518⟩) (fun o1 hz9 => rm_508 x0 x4 x5 h o1 i0 hz9) ?_
      rcases am_cI_s hs4 with ⟨v9, h10, f11, hs5⟩ | hs5
      · clear hs4
        refine Or.inl ⟨_, _, f11, ?_⟩
        show am_W X _ 518 131 _ [(.int v9)] h10 _
        by_cases c12 : v9 = 0
        · rw [if_pos c12] at hs5
          refine aw_ifeq_t at_518_131 c12 ?_
          refine aw_iload (pc1 := 141) at_518_139 l4 rfl ?_
          exact rg_518_141 (fun z0 z1 z2 z3 z4 h o hs5 => ih z0 z1 z2 z3 z4 h o hs5) x0 x2 x3 x5 x4 h10 o l0 l2 l3 l5 i0 hs5
        · rw [if_neg c12] at hs5
          refine aw_ifeq_f (pc1 := 134) at_518_131 c12 rfl ?_
          refine aw_iload (pc1 := 136) at_518_134 l5 rfl ?_
          refine aw_goto at_518_136 ?_
          exact rg_518_141 (fun z0 z1 z2 z3 z4 h o hs5 => ih z0 z1 z2 z3 z4 h o hs5) x0 x2 x3 x5 x5 h10 o l0 l2 l3 l5 i0 hs5
      · clear hs4
        exact Or.inr hs5
def fg_518_86 (N : Nat) (h : am_H) : Option am_O := some (.inl (some (.int 0), h))
theorem rg_518_86 {X : am_X} {d : Nat} {N : Nat} {lv : am_LV} (h : am_H) (o : am_O) (hs : fg_518_86 N h = some o) : am_W X (d + 9) 518 86 lv [] h (fun q => q = o) := by
  unfold fg_518_86 at hs
  refine aw_iconst (v := 0) (pc1 := 87) at_518_86 (by decide) rfl ?_
  cases hs
  exact aw_iret at_518_87 (by rw [rt_518]; decide) rfl
def fg_518_22 (N : Nat) (x0 : Value) (x1 : Int32) (x2 : Int32) (s0 : Value) (s1 : Int32) (h : am_H) : Option am_O := ((am_pP 3072 s0 (.int s1) h).bind fun h1 => ((am_vI (am_pG 3072 x0 h1)).bind fun v3 => (if 0 < v3 then (fg_518_86 N h1) else (if x1 = x2 then (fg_518_86 N h1) else ((am_vR (am_pG 3170 x0 h1)).bind fun v7 => ((am_pA 0 v7 x1 h1).bind fun v9 => (if v9 = 0 then (fg_518_86 N h1) else ((am_vR (am_pG 3170 x0 h1)).bind fun v12 => ((am_pA 0 v12 x2 h1).bind fun v14 => (if v14 = 0 then (fg_518_86 N h1) else ((am_vR (am_pG 3074 x0 h1)).bind fun v17 => ((am_vR (am_pG 3171 x0 h1)).bind fun v19 => ((am_pA 0 v19 (16 * x1) h1).bind fun v21 => ((am_pA 0 v17 v21 h1).bind fun v23 => ((am_vR (am_pG 3074 x0 h1)).bind fun v25 => ((am_vR (am_pG 3171 x0 h1)).bind fun v27 => ((am_pA 0 v27 (16 * x2) h1).bind fun v29 => ((am_pA 0 v25 v29 h1).bind fun v31 => (if v23 = v31 then (if am_pOk 12 x0 h1 then am_cV true (fm_505 N x0 x1 h1) (fun h36 => ((am_vR (am_pG 3176 x0 h36)).bind fun v38 => (if am_pOk 12 x0 h36 then am_cI true (fm_517 N x0 h36) (fun v41 h42 => ((am_pA 0 v38 v41 h42).bind fun v44 => (if am_pOk 12 x0 h42 then am_cV true (fm_505 N x0 x2 h42) (fun h48 => (fg_518_114 N N x0 x2 v44 0 1 h48)) else none))) else none))) else none) else (fg_518_86 N h1))))))))))))))))))))
theorem rg_518_22 {X : am_X} {d : Nat} {N : Nat} {lv : am_LV} (x0 : Value) (x1 : Int32) (x2 : Int32) (s0 : Value) (s1 : Int32) (h : am_H) (o : am_O) (l0 : lv.lookup 0 = some x0) (l1 : lv.lookup 1 = some (.int x1)) (l2 : lv.lookup 2 = some (.int x2)) (i0 : am_isR x0 = true) (j0 : am_isR s0 = true) (hs : fg_518_22 N x0 x1 x2 s0 s1 h = some o) : am_W X (d + 9) 518 22 lv [(.int s1), s0] h (fun q => q = o) := by
  unfold fg_518_22 at hs
  obtain ⟨h1, e2, hs1⟩ := am_bind hs
  clear hs
  refine aw_pP (pc1 := 25) at_518_22 e2 rfl ?_
  refine aw_vload_n (pc1 := 26) at_518_25 l0 i0 rfl ?_
  obtain ⟨v3, e4, hs2⟩ := am_bind hs1
  clear hs1
  refine aw_pG (pc1 := 29) at_518_26 (am_vI_s e4) rfl ?_
  by_cases c5 : 0 < v3
  · rw [if_pos c5] at hs2
    refine aw_ifgt_t at_518_29 c5 ?_
    exact rg_518_86 h1 o   hs2
  · rw [if_neg c5] at hs2
    refine aw_ifgt_f (pc1 := 32) at_518_29 c5 rfl ?_
    refine aw_iload_n (pc1 := 33) at_518_32 l1 rfl ?_
    refine aw_iload_n (pc1 := 34) at_518_33 l2 rfl ?_
    by_cases c6 : x1 = x2
    · rw [if_pos c6] at hs2
      refine aw_iceq_t at_518_34 c6 ?_
      exact rg_518_86 h1 o   hs2
    · rw [if_neg c6] at hs2
      refine aw_iceq_f (pc1 := 37) at_518_34 c6 rfl ?_
      refine aw_vload_n (pc1 := 38) at_518_37 l0 i0 rfl ?_
      obtain ⟨v7, e8, hs3⟩ := am_bind hs2
      clear hs2
      refine aw_pG (pc1 := 41) at_518_38 (am_vR_s e8).1 rfl ?_
      refine aw_iload_n (pc1 := 42) at_518_41 l1 rfl ?_
      obtain ⟨v9, e10, hs4⟩ := am_bind hs3
      clear hs3
      refine aw_pA (pc1 := 43) at_518_42 (Or.inl ⟨rfl, rfl⟩) e10 rfl ?_
      by_cases c11 : v9 = 0
      · rw [if_pos c11] at hs4
        refine aw_ifeq_t at_518_43 c11 ?_
        exact rg_518_86 h1 o   hs4
      · rw [if_neg c11] at hs4
        refine aw_ifeq_f (pc1 := 46) at_518_43 c11 rfl ?_
        refine aw_vload_n (pc1 := 47) at_518_46 l0 i0 rfl ?_
        obtain ⟨v12, e13, hs5⟩ := am_bind hs4
        clear hs4
        refine aw_pG (pc1 := 50) at_518_47 (am_vR_s e13).1 rfl ?_
        refine aw_iload_n (pc1 := 51) at_518_50 l2 rfl ?_
        obtain ⟨v14, e15, hs6⟩ := am_bind hs5
        clear hs5
        refine aw_pA (pc1 := 52) at_518_51 (Or.inl ⟨rfl, rfl⟩) e15 rfl ?_
        by_cases c16 : v14 = 0
        · rw [if_pos c16] at hs6
          refine aw_ifeq_t at_518_52 c16 ?_
          exact rg_518_86 h1 o   hs6
        · rw [if_neg c16] at hs6
          refine aw_ifeq_f (pc1 := 55) at_518_52 c16 rfl ?_
          refine aw_vload_n (pc1 := 56) at_518_55 l0 i0 rfl ?_
          obtain ⟨v17, e18, hs7⟩ := am_bind hs6
          clear hs6
          refine aw_pG (pc1 := 59) at_518_56 (am_vR_s e18).1 rfl ?_
          refine aw_vload_n (pc1 := 60) at_518_59 l0 i0 rfl ?_
          obtain ⟨v19, e20, hs8⟩ := am_bind hs7
          clear hs7
          refine aw_pG (pc1 := 63) at_518_60 (am_vR_s e20).1 rfl ?_
          refine aw_bipush (v := 16) (pc1 := 65) at_518_63 (by decide) rfl ?_
          refine aw_iload_n (pc1 := 66) at_518_65 l1 rfl ?_
          refine aw_imul (v := (16 * x1)) (pc1 := 67) at_518_66 rfl rfl ?_
          obtain ⟨v21, e22, hs9⟩ := am_bind hs8
          clear hs8
          refine aw_pA (pc1 := 68) at_518_67 (Or.inl ⟨rfl, rfl⟩) e22 rfl ?_
          obtain ⟨v23, e24, hs10⟩ := am_bind hs9
          clear hs9
          refine aw_pA (pc1 := 69) at_518_68 (Or.inl ⟨rfl, rfl⟩) e24 rfl ?_
          refine aw_vload_n (pc1 := 70) at_518_69 l0 i0 rfl ?_
          obtain ⟨v25, e26, hs11⟩ := am_bind hs10
          clear hs10
          refine aw_pG (pc1 := 73) at_518_70 (am_vR_s e26).1 rfl ?_
          refine aw_vload_n (pc1 := 74) at_518_73 l0 i0 rfl ?_
          obtain ⟨v27, e28, hs12⟩ := am_bind hs11
          clear hs11
          refine aw_pG (pc1 := 77) at_518_74 (am_vR_s e28).1 rfl ?_
          refine aw_bipush (v := 16) (pc1 := 79) at_518_77 (by decide) rfl ?_
          refine aw_iload_n (pc1 := 80) at_518_79 l2 rfl ?_
          refine aw_imul (v := (16 * x2)) (pc1 := 81) at_518_80 rfl rfl ?_
          obtain ⟨v29, e30, hs13⟩ := am_bind hs12
          clear hs12
          refine aw_pA (pc1 := 82) at_518_81 (Or.inl ⟨rfl, rfl⟩) e30 rfl ?_
          obtain ⟨v31, e32, hs14⟩ := am_bind hs13
          clear hs13
          refine aw_pA (pc1 := 83) at_518_82 (Or.inl ⟨rfl, rfl⟩) e32 rfl ?_
          by_cases c33 : v23 = v31
          · rw [if_pos c33] at hs14
            refine aw_iceq_t at_518_83 c33 ?_
            refine aw_vload_n (pc1 := 89) at_518_88 l0 i0 rfl ?_
            refine aw_iload_n (pc1 := 90) at_518_89 l1 rfl ?_
            obtain ⟨z34, hs15⟩ := am_ift hs14
            clear hs14
            refine aw_call (F := fm_505 N x0 x1 h1) (t := true) (na := 2) (kd := 1) (as := [x0, (.int x1)]) at_518_90 (am_k3v kb_505) mn_505 mk_505 rfl rfl (am_ok_v mi_505 (am_hl rfl (am_ccR i0 (am_ccI am_cats_0)) rfl) z34) (am_hc am_cats_0 rfl) (fun _ => ⟨rfl, hh_518⟩) (fun o1 hz9 => rm_505 x0 x1 h1 o1 i0 hz9) ?_
            rcases am_cV_s hs15 with ⟨h36, f37, hs16⟩ | hs16
            · clear hs15
              refine Or.inl ⟨_, _, f37, ?_⟩
              show am_W X _ 518 93 _ [] h36 _
              refine aw_vload_n (pc1 := 94) at_518_93 l0 i0 rfl ?_
              obtain ⟨v38, e39, hs17⟩ := am_bind hs16
              clear hs16
              refine aw_pG (pc1 := 97) at_518_94 (am_vR_s e39).1 rfl ?_
              refine aw_vload_n (pc1 := 98) at_518_97 l0 i0 rfl ?_
              obtain ⟨z40, hs18⟩ := am_ift hs17
              clear hs17
              refine aw_call (F := fm_517 N x0 h36) (t := true) (na := 1) (kd := 1) (as := [x0]) at_518_98 (am_k3v kb_517) mn_517 mk_517 rfl rfl (am_ok_v mi_517 (am_hl rfl (am_ccR i0 am_cats_0) rfl) z40) (am_hc (am_ccR (am_vR_s e39).2 am_cats_0) rfl) (fun _ => ⟨rfl, hh_518⟩) (fun o1 hz9 => rm_517 x0 h36 o1 i0 hz9) ?_
              rcases am_cI_s hs18 with ⟨v41, h42, f43, hs19⟩ | hs19
              · clear hs18
                refine Or.inl ⟨_, _, f43, ?_⟩
                show am_W X _ 518 101 _ [(.int v41), v38] h42 _
                obtain ⟨v44, e45, hs20⟩ := am_bind hs19
                clear hs19
                refine aw_pA (pc1 := 102) at_518_101 (Or.inl ⟨rfl, rfl⟩) e45 rfl ?_
                refine aw_istore_n (lv1 := am_put1 _ 3 _) (pc1 := 103) at_518_102 rfl rfl ?_
                refine aw_vload_n (pc1 := 104) at_518_103 (am_lk1 l0 rfl rfl) i0 rfl ?_
                refine aw_iload_n (pc1 := 105) at_518_104 (am_lk1 l2 rfl rfl) rfl ?_
                obtain ⟨z46, hs21⟩ := am_ift hs20
                clear hs20
                refine aw_call (F := fm_505 N x0 x2 h42) (t := true) (na := 2) (kd := 1) (as := [x0, (.int x2)]) at_518_105 (am_k3v kb_505) mn_505 mk_505 rfl rfl (am_ok_v mi_505 (am_hl rfl (am_ccR i0 (am_ccI am_cats_0)) rfl) z46) (am_hc am_cats_0 rfl) (fun _ => ⟨rfl, hh_518⟩) (fun o1 hz9 => rm_505 x0 x2 h42 o1 i0 hz9) ?_
                rcases am_cV_s hs21 with ⟨h48, f49, hs22⟩ | hs22
                · clear hs21
                  refine Or.inl ⟨_, _, f49, ?_⟩
                  show am_W X _ 518 108 _ [] h48 _
                  refine aw_iconst (v := 0) (pc1 := 109) at_518_108 (by decide) rfl ?_
                  refine aw_istore (lv1 := am_put1 _ 4 _) (pc1 := 111) at_518_109 rfl rfl ?_
                  refine aw_iconst (v := 1) (pc1 := 112) at_518_111 (by decide) rfl ?_
                  refine aw_istore (lv1 := am_put1 _ 5 _) (pc1 := 114) at_518_112 rfl rfl ?_
                  exact rg_518_114 N x0 x2 v44 0 1 h48 o hs22 _ (am_lk1 (am_lk1 (am_lk1 l0 rfl rfl) rfl rfl) rfl rfl) (am_lk1 (am_lk1 (am_lk1 l2 rfl rfl) rfl rfl) rfl rfl) (am_lk1 (am_lk1 am_lk0 rfl rfl) rfl rfl) (am_lk1 am_lk0 rfl rfl) am_lk0 i0
                · clear hs21
                  exact Or.inr hs22
              · clear hs18
                exact Or.inr hs19
            · clear hs15
              exact Or.inr hs16
          · rw [if_neg c33] at hs14
            refine aw_iceq_f (pc1 := 86) at_518_83 c33 rfl ?_
            exact rg_518_86 h1 o   hs14
def fg_518_21 (N : Nat) (x0 : Value) (x1 : Int32) (x2 : Int32) (s0 : Value) (h : am_H) : Option am_O := (fg_518_22 N x0 x1 x2 s0 1 h)
theorem rg_518_21 {X : am_X} {d : Nat} {N : Nat} {lv : am_LV} (x0 : Value) (x1 : Int32) (x2 : Int32) (s0 : Value) (h : am_H) (o : am_O) (l0 : lv.lookup 0 = some x0) (l1 : lv.lookup 1 = some (.int x1)) (l2 : lv.lookup 2 = some (.int x2)) (i0 : am_isR x0 = true) (j0 : am_isR s0 = true) (hs : fg_518_21 N x0 x1 x2 s0 h = some o) : am_W X (d + 9) 518 21 lv [s0] h (fun q => q = o) := by
  unfold fg_518_21 at hs
  refine aw_iconst (v := 1) (pc1 := 22) at_518_21 (by decide) rfl ?_
  exact rg_518_22 x0 x1 x2 s0 1 h o l0 l1 l2 i0 j0 hs
def fg_518_0 (N : Nat) (x0 : Value) (x1 : Int32) (x2 : Int32) (h : am_H) : Option am_O := (if am_pOk 12 x0 h then am_cI true (fm_489 x0 x1 h) (fun v2 h3 => (if v2 = 0 then (fg_518_21 N x0 x1 x2 x0 h3) else (if am_pOk 12 x0 h3 then am_cI true (fm_489 x0 x2 h3) (fun v7 h8 => (if v7 = 0 then (fg_518_21 N x0 x1 x2 x0 h8) else (fg_518_22 N x0 x1 x2 x0 0 h8))) else none))) else none)
theorem rg_518_0 {X : am_X} {d : Nat} {N : Nat} {lv : am_LV} (x0 : Value) (x1 : Int32) (x2 : Int32) (h : am_H) (o : am_O) (l0 : lv.lookup 0 = some x0) (l1 : lv.lookup 1 = some (.int x1)) (l2 : lv.lookup 2 = some (.int x2)) (i0 : am_isR x0 = true) (hs : fg_518_0 N x0 x1 x2 h = some o) : am_W X (d + 9) 518 0 lv [] h (fun q => q = o) := by
  unfold fg_518_0 at hs
  refine aw_vload_n (pc1 := 1) at_518_0 l0 i0 rfl ?_
  refine aw_vload_n (pc1 := 2) at_518_1 l0 i0 rfl ?_
  refine aw_iload_n (pc1 := 3) at_518_2 l1 rfl ?_
  obtain ⟨z1, hs1⟩ := am_ift hs
  clear hs
  refine aw_call (F := fm_489 x0 x1 h) (t := true) (na := 2) (kd := 1) (as := [x0, (.int x1)]) at_518_3 (am_k3v kb_489) mn_489 mk_489 rfl rfl (am_ok_v mi_489 (am_hl rfl (am_ccR i0 (am_ccI am_cats_0)) rfl) z1) (am_hc (am_ccR i0 am_cats_0) rfl) (fun _ => ⟨rfl, hh_518⟩) (fun o1 hz9 => rm_489 x0 x1 h o1 i0 hz9) ?_
  rcases am_cI_s hs1 with ⟨v2, h3, f4, hs2⟩ | hs2
  · clear hs1
    refine Or.inl ⟨_, _, f4, ?_⟩
    show am_W X _ 518 6 _ [(.int v2), x0] h3 _
    by_cases c5 : v2 = 0
    · rw [if_pos c5] at hs2
      refine aw_ifeq_t at_518_6 c5 ?_
      exact rg_518_21 x0 x1 x2 x0 h3 o l0 l1 l2 i0 i0 hs2
    · rw [if_neg c5] at hs2
      refine aw_ifeq_f (pc1 := 9) at_518_6 c5 rfl ?_
      refine aw_vload_n (pc1 := 10) at_518_9 l0 i0 rfl ?_
      refine aw_iload_n (pc1 := 11) at_518_10 l2 rfl ?_
      obtain ⟨z6, hs3⟩ := am_ift hs2
      clear hs2
      refine aw_call (F := fm_489 x0 x2 h3) (t := true) (na := 2) (kd := 1) (as := [x0, (.int x2)]) at_518_11 (am_k3v kb_489) mn_489 mk_489 rfl rfl (am_ok_v mi_489 (am_hl rfl (am_ccR i0 (am_ccI am_cats_0)) rfl) z6) (am_hc (am_ccR i0 am_cats_0) rfl) (fun _ => ⟨rfl, hh_518⟩) (fun o1 hz9 => rm_489 x0 x2 h3 o1 i0 hz9) ?_
      rcases am_cI_s hs3 with ⟨v7, h8, f9, hs4⟩ | hs4
      · clear hs3
        refine Or.inl ⟨_, _, f9, ?_⟩
        show am_W X _ 518 14 _ [(.int v7), x0] h8 _
        by_cases c10 : v7 = 0
        · rw [if_pos c10] at hs4
          refine aw_ifeq_t at_518_14 c10 ?_
          exact rg_518_21 x0 x1 x2 x0 h8 o l0 l1 l2 i0 i0 hs4
        · rw [if_neg c10] at hs4
          refine aw_ifeq_f (pc1 := 17) at_518_14 c10 rfl ?_
          refine aw_iconst (v := 0) (pc1 := 18) at_518_17 (by decide) rfl ?_
          refine aw_goto at_518_18 ?_
          exact rg_518_22 x0 x1 x2 x0 0 h8 o l0 l1 l2 i0 i0 hs4
      · clear hs3
        exact Or.inr hs4
  · clear hs1
    exact Or.inr hs2
def fm_518 (N : Nat) (y0 : Value) (y1 : Int32) (y2 : Int32) (h : am_H) : Option am_O := fg_518_0 N y0 y1 y2 h
theorem rm_518 {X : am_X} {d : Nat} {N : Nat} (y0 : Value) (y1 : Int32) (y2 : Int32) (h : am_H) (o : am_O) (i0 : am_isR y0 = true) (hs : fm_518 N y0 y1 y2 h = some o) : am_W X (d + 9) 518 0 (am_args 0 [y0, .int y1, .int y2]) [] h (fun q => q = o) := by
  rw [am_args_R i0, am_args_I, am_args_I]
  exact rg_518_0 y0 y1 y2 h o rfl rfl rfl i0 hs
def fg_235_0 (N : Nat) (x0 : Value) (x1 : Int32) (h : am_H) : Option am_O := (if am_pOk 11 x0 h then am_cR true (fm_201 x0 x1 h) (fun v2 h3 => ((am_vI (am_pG 256 v2 h3)).bind fun v5 => (if ¬ v5 = 0 then ((am_vR (am_pG 2816 x0 h3)).bind fun v8 => ((am_vR (am_pG 2819 x0 h3)).bind fun v10 => (if am_pOk 1 v2 h3 then am_cV true (fm_218 N v2 v8 v10 h3) (fun h14 => ((am_vR (am_pG 257 v2 h14)).bind fun v16 => (if am_pOk 1 v2 h14 then am_cI true (fm_230 N v2 h14) (fun v19 h20 => ((am_pA 0 v16 v19 h20).bind fun v22 => some (.inl (some (.int v22), h20)))) else none))) else none))) else some (.inr (1, h3 ++ [am_dummy]))))) else none)
theorem rg_235_0 {X : am_X} {d : Nat} {N : Nat} {lv : am_LV} (x0 : Value) (x1 : Int32) (h : am_H) (o : am_O) (l0 : lv.lookup 0 = some x0) (l1 : lv.lookup 1 = some (.int x1)) (i0 : am_isR x0 = true) (hs : fg_235_0 N x0 x1 h = some o) : am_W X (d + 84) 235 0 lv [] h (fun q => q = o) := by
  unfold fg_235_0 at hs
  refine aw_vload_n (pc1 := 1) at_235_0 l0 i0 rfl ?_
  refine aw_iload_n (pc1 := 2) at_235_1 l1 rfl ?_
  obtain ⟨z1, hs1⟩ := am_ift hs
  clear hs
  refine aw_call (F := fm_201 x0 x1 h) (t := true) (na := 2) (kd := 1) (as := [x0, (.int x1)]) at_235_2 (am_k3v kb_201) mn_201 mk_201 rfl rfl (am_ok_v mi_201 (am_hl rfl (am_ccR i0 (am_ccI am_cats_0)) rfl) z1) (am_hc am_cats_0 rfl) (fun _ => ⟨rfl, hh_235⟩) (fun o1 hz9 => rm_201 x0 x1 h o1 i0 hz9) ?_
  rcases am_cR_s hs1 with ⟨v2, h3, f4, iv2, hs2⟩ | hs2
  · clear hs1
    refine Or.inl ⟨_, _, f4, ?_⟩
    show am_W X _ 235 5 _ [v2] h3 _
    refine aw_vstore_n (lv1 := am_put1 _ 2 _) (pc1 := 6) at_235_5 iv2 rfl rfl ?_
    refine aw_vload_n (pc1 := 7) at_235_6 am_lk0 iv2 rfl ?_
    obtain ⟨v5, e6, hs3⟩ := am_bind hs2
    clear hs2
    refine aw_pG (pc1 := 10) at_235_7 (am_vI_s e6) rfl ?_
    by_cases c7 : ¬ v5 = 0
    · rw [if_pos c7] at hs3
      refine aw_ifne_t at_235_10 c7 ?_
      refine aw_vload_n (pc1 := 25) at_235_24 am_lk0 iv2 rfl ?_
      refine aw_vload_n (pc1 := 26) at_235_25 (am_lk1 l0 rfl rfl) i0 rfl ?_
      obtain ⟨v8, e9, hs4⟩ := am_bind hs3
      clear hs3
      refine aw_pG (pc1 := 29) at_235_26 (am_vR_s e9).1 rfl ?_
      refine aw_vload_n (pc1 := 30) at_235_29 (am_lk1 l0 rfl rfl) i0 rfl ?_
      obtain ⟨v10, e11, hs5⟩ := am_bind hs4
      clear hs4
      refine aw_pG (pc1 := 33) at_235_30 (am_vR_s e11).1 rfl ?_
      obtain ⟨z12, hs6⟩ := am_ift hs5
      clear hs5
      refine aw_call (F := fm_218 N v2 v8 v10 h3) (t := true) (na := 3) (kd := 1) (as := [v2, v8, v10]) at_235_33 (am_k3v kb_218) mn_218 mk_218 rfl rfl (am_ok_v mi_218 (am_hl rfl (am_ccR iv2 (am_ccR (am_vR_s e9).2 (am_ccR (am_vR_s e11).2 am_cats_0))) rfl) z12) (am_hc am_cats_0 rfl) (fun _ => ⟨rfl, hh_235⟩) (fun o1 hz9 => rm_218 v2 v8 v10 h3 o1 iv2 (am_vR_s e9).2 (am_vR_s e11).2 hz9) ?_
      rcases am_cV_s hs6 with ⟨h14, f15, hs7⟩ | hs7
      · clear hs6
        refine Or.inl ⟨_, _, f15, ?_⟩
        show am_W X _ 235 36 _ [] h14 _
        refine aw_vload_n (pc1 := 37) at_235_36 am_lk0 iv2 rfl ?_
        obtain ⟨v16, e17, hs8⟩ := am_bind hs7
        clear hs7
        refine aw_pG (pc1 := 40) at_235_37 (am_vR_s e17).1 rfl ?_
        refine aw_vload_n (pc1 := 41) at_235_40 am_lk0 iv2 rfl ?_
        obtain ⟨z18, hs9⟩ := am_ift hs8
        clear hs8
        refine aw_call (F := fm_230 N v2 h14) (t := true) (na := 1) (kd := 1) (as := [v2]) at_235_41 (am_k3v kb_230) mn_230 mk_230 rfl rfl (am_ok_v mi_230 (am_hl rfl (am_ccR iv2 am_cats_0) rfl) z18) (am_hc (am_ccR (am_vR_s e17).2 am_cats_0) rfl) (fun _ => ⟨rfl, hh_235⟩) (fun o1 hz9 => rm_230 v2 h14 o1 iv2 hz9) ?_
        rcases am_cI_s hs9 with ⟨v19, h20, f21, hs10⟩ | hs10
        · clear hs9
          refine Or.inl ⟨_, _, f21, ?_⟩
          show am_W X _ 235 44 _ [(.int v19), v16] h20 _
          obtain ⟨v22, e23, hs11⟩ := am_bind hs10
          clear hs10
          refine aw_pA (pc1 := 45) at_235_44 (Or.inl ⟨rfl, rfl⟩) e23 rfl ?_
          cases hs11
          exact aw_iret at_235_45 (by rw [rt_235]; rfl) rfl
        · clear hs9
          exact Or.inr hs10
      · clear hs6
        exact Or.inr hs7
    · rw [if_neg c7] at hs3
      refine aw_ifne_f (pc1 := 13) at_235_10 c7 rfl ?_
      cases hs3
      exact aw_throw at_235_13 rfl th_235_13 (am_hc am_cats_0 rfl) rfl
  · clear hs1
    exact Or.inr hs2
def fm_235 (N : Nat) (y0 : Value) (y1 : Int32) (h : am_H) : Option am_O := fg_235_0 N y0 y1 h
theorem rm_235 {X : am_X} {d : Nat} {N : Nat} (y0 : Value) (y1 : Int32) (h : am_H) (o : am_O) (i0 : am_isR y0 = true) (hs : fm_235 N y0 y1 h = some o) : am_W X (d + 84) 235 0 (am_args 0 [y0, .int y1]) [] h (fun q => q = o) := by
  rw [am_args_R i0, am_args_I]
  exact rg_235_0 y0 y1 h o rfl rfl i0 hs
def fg_234_16 (N : Nat) (h : am_H) : Option am_O := some (.inl (some (.int 2), h))
theorem rg_234_16 {X : am_X} {d : Nat} {N : Nat} {lv : am_LV} (h : am_H) (o : am_O) (hs : fg_234_16 N h = some o) : am_W X (d + 85) 234 16 lv [] h (fun q => q = o) := by
  unfold fg_234_16 at hs
  refine aw_iconst (v := 2) (pc1 := 17) at_234_16 (by decide) rfl ?_
  cases hs
  exact aw_iret at_234_17 (by rw [rt_234]; rfl) rfl
def fg_234_13 (N : Nat) (h : am_H) : Option am_O := some (.inl (some (.int 1), h))
theorem rg_234_13 {X : am_X} {d : Nat} {N : Nat} {lv : am_LV} (h : am_H) (o : am_O) (hs : fg_234_13 N h = some o) : am_W X (d + 85) 234 13 lv [] h (fun q => q = o) := by
  unfold fg_234_13 at hs
  refine aw_iconst (v := 1) (pc1 := 14) at_234_13 (by decide) rfl ?_
  cases hs
  exact aw_iret at_234_14 (by rw [rt_234]; rfl) rfl
def fg_234_0 (N : Nat) (x0 : Value) (x1 : Int32) (x2 : Value) (h : am_H) : Option am_O := (if am_pOk 11 x0 h then (match fm_235 N x0 x1 h with | some (.inl (some (.int v2), h3)) => ((am_pSL x2 0 (Int32.toInt64 v2) h3).bind fun h5 => some (.inl (some (.int 0), h5))) | some (.inr (1, h7)) => (fg_234_16 N h7) | some (.inr (2, h9)) => (fg_234_13 N h9) | _ => none) else none)
theorem rg_234_0 {X : am_X} {d : Nat} {N : Nat} {lv : am_LV} (x0 : Value) (x1 : Int32) (x2 : Value) (h : am_H) (o : am_O) (l0 : lv.lookup 0 = some x0) (l1 : lv.lookup 1 = some (.int x1)) (l2 : lv.lookup 2 = some x2) (i0 : am_isR x0 = true) (i2 : am_isR x2 = true) (hs : fg_234_0 N x0 x1 x2 h = some o) : am_W X (d + 85) 234 0 lv [] h (fun q => q = o) := by
  unfold fg_234_0 at hs
  refine aw_vload_n (pc1 := 1) at_234_0 l2 i2 rfl ?_
  refine aw_iconst (v := 0) (pc1 := 2) at_234_1 (by decide) rfl ?_
  refine aw_vload_n (pc1 := 3) at_234_2 l0 i0 rfl ?_
  refine aw_iload_n (pc1 := 4) at_234_3 l1 rfl ?_
  obtain ⟨z1, hs1⟩ := am_ift hs
  clear hs
  refine aw_callH (F := fm_235 N x0 x1 h) (na := 2) (kd := 1) (as := [x0, (.int x1)]) at_234_4 (am_k3v kb_235) mn_235 mk_235 rfl rfl (am_ok_v mi_235 (am_hl rfl (am_ccR i0 (am_ccI am_cats_0)) rfl) z1) (am_hc (am_ccI (am_ccR i2 am_cats_0)) rfl) (fun o1 hz9 => rm_235 x0 x1 h o1 i0 hz9) ?_
  split at hs1
  · rename_i v2 h3 f4
    refine Or.inl ⟨_, _, f4, ?_⟩
    show am_W X _ 234 7 _ [(.int v2), (.int 0), x2] h3 _
    refine aw_i2l (v := (Int32.toInt64 v2)) (pc1 := 8) at_234_7 rfl rfl ?_
    obtain ⟨h5, e6, hs2⟩ := am_bind hs1
    clear hs1
    refine aw_pSL (pc1 := 9) at_234_8 e6 rfl ?_
    refine aw_goto at_234_9 ?_
    refine aw_iconst (v := 0) (pc1 := 19) at_234_18 (by decide) rfl ?_
    cases hs2
    exact aw_iret at_234_19 (by rw [rt_234]; rfl) rfl
  · rename_i h7 f8
    refine Or.inr ⟨_, _, 16, 3, f8, rfl, hn_234, hd_234_4_1, ?_⟩
    exact rg_234_16 h7 o   hs1
  · rename_i h9 f10
    refine Or.inr ⟨_, _, 13, 3, f10, rfl, hn_234, hd_234_4_2, ?_⟩
    exact rg_234_13 h9 o   hs1
  · cases hs1
def fm_234 (N : Nat) (y0 : Value) (y1 : Int32) (y2 : Value) (h : am_H) : Option am_O := fg_234_0 N y0 y1 y2 h
theorem rm_234 {X : am_X} {d : Nat} {N : Nat} (y0 : Value) (y1 : Int32) (y2 : Value) (h : am_H) (o : am_O) (i0 : am_isR y0 = true) (i2 : am_isR y2 = true) (hs : fm_234 N y0 y1 y2 h = some o) : am_W X (d + 85) 234 0 (am_args 0 [y0, .int y1, y2]) [] h (fun q => q = o) := by
  rw [am_args_R i0, am_args_I, am_args_R i2]
  exact rg_234_0 y0 y1 y2 h o rfl rfl rfl i0 i2 hs
def fg_519_27 (N : Nat) (x0 : Value) (x1 : Int32) (s0 : Value) (s1 : Int32) (h : am_H) : Option am_O := ((am_pP 3072 s0 (.int s1) h).bind fun h1 => ((am_vI (am_pG 3072 x0 h1)).bind fun v3 => (if v3 ≤ 0 then (if am_pOk 12 x0 h1 then am_cV true (fm_505 N x0 x1 h1) (fun h8 => ((am_vR (am_pG 3176 x0 h8)).bind fun v10 => (if am_pOk 12 x0 h8 then am_cI true (fm_517 N x0 h8) (fun v13 h14 => ((am_pA 0 v10 v13 h14).bind fun v16 => some (.inl (some (.int v16), h14)))) else none))) else none) else some (.inl (some (.int 0), h1)))))
theorem rg_519_27 {X : am_X} {d : Nat} {N : Nat} {lv : am_LV} (x0 : Value) (x1 : Int32) (s0 : Value) (s1 : Int32) (h : am_H) (o : am_O) (l0 : lv.lookup 0 = some x0) (l1 : lv.lookup 1 = some (.int x1)) (i0 : am_isR x0 = true) (j0 : am_isR s0 = true) (hs : fg_519_27 N x0 x1 s0 s1 h = some o) : am_W X (d + 9) 519 27 lv [(.int s1), s0] h (fun q => q = o) := by
  unfold fg_519_27 at hs
  obtain ⟨h1, e2, hs1⟩ := am_bind hs
  clear hs
  refine aw_pP (pc1 := 30) at_519_27 e2 rfl ?_
  refine aw_vload_n (pc1 := 31) at_519_30 l0 i0 rfl ?_
  obtain ⟨v3, e4, hs2⟩ := am_bind hs1
  clear hs1
  refine aw_pG (pc1 := 34) at_519_31 (am_vI_s e4) rfl ?_
  by_cases c5 : v3 ≤ 0
  · rw [if_pos c5] at hs2
    refine aw_ifle_t at_519_34 c5 ?_
    refine aw_vload_n (pc1 := 40) at_519_39 l0 i0 rfl ?_
    refine aw_iload_n (pc1 := 41) at_519_40 l1 rfl ?_
    obtain ⟨z6, hs3⟩ := am_ift hs2
    clear hs2
    refine aw_call (F := fm_505 N x0 x1 h1) (t := true) (na := 2) (kd := 1) (as := [x0, (.int x1)]) at_519_41 (am_k3v kb_505) mn_505 mk_505 rfl rfl (am_ok_v mi_505 (am_hl rfl (am_ccR i0 (am_ccI am_cats_0)) rfl) z6) (am_hc am_cats_0 rfl) (fun _ => ⟨rfl, hh_519⟩) (fun o1 hz9 => rm_505 x0 x1 h1 o1 i0 hz9) ?_
    rcases am_cV_s hs3 with ⟨h8, f9, hs4⟩ | hs4
    · clear hs3
      refine Or.inl ⟨_, _, f9, ?_⟩
      show am_W X _ 519 44 _ [] h8 _
      refine aw_vload_n (pc1 := 45) at_519_44 l0 i0 rfl ?_
      obtain ⟨v10, e11, hs5⟩ := am_bind hs4
      clear hs4
      refine aw_pG (pc1 := 48) at_519_45 (am_vR_s e11).1 rfl ?_
      refine aw_vload_n (pc1 := 49) at_519_48 l0 i0 rfl ?_
      obtain ⟨z12, hs6⟩ := am_ift hs5
      clear hs5
      refine aw_call (F := fm_517 N x0 h8) (t := true) (na := 1) (kd := 1) (as := [x0]) at_519_49 (am_k3v kb_517) mn_517 mk_517 rfl rfl (am_ok_v mi_517 (am_hl rfl (am_ccR i0 am_cats_0) rfl) z12) (am_hc (am_ccR (am_vR_s e11).2 am_cats_0) rfl) (fun _ => ⟨rfl, hh_519⟩) (fun o1 hz9 => rm_517 x0 h8 o1 i0 hz9) ?_
      rcases am_cI_s hs6 with ⟨v13, h14, f15, hs7⟩ | hs7
      · clear hs6
        refine Or.inl ⟨_, _, f15, ?_⟩
        show am_W X _ 519 52 _ [(.int v13), v10] h14 _
        obtain ⟨v16, e17, hs8⟩ := am_bind hs7
        clear hs7
        refine aw_pA (pc1 := 53) at_519_52 (Or.inl ⟨rfl, rfl⟩) e17 rfl ?_
        cases hs8
        exact aw_iret at_519_53 (by rw [rt_519]; rfl) rfl
      · clear hs6
        exact Or.inr hs7
    · clear hs3
      exact Or.inr hs4
  · rw [if_neg c5] at hs2
    refine aw_ifle_f (pc1 := 37) at_519_34 c5 rfl ?_
    refine aw_iconst (v := 0) (pc1 := 38) at_519_37 (by decide) rfl ?_
    cases hs2
    exact aw_iret at_519_38 (by rw [rt_519]; rfl) rfl
def fg_519_0 (N : Nat) (x0 : Value) (x1 : Int32) (h : am_H) : Option am_O := (if am_pOk 12 x0 h then am_cI true (fm_489 x0 x1 h) (fun v2 h3 => (if ¬ v2 = 0 then ((am_vR (am_pG 3170 x0 h3)).bind fun v6 => ((am_pA 0 v6 x1 h3).bind fun v8 => (if ¬ v8 = 0 then (fg_519_27 N x0 x1 x0 0 h3) else (fg_519_27 N x0 x1 x0 2 h3)))) else (fg_519_27 N x0 x1 x0 1 h3))) else none)
theorem rg_519_0 {X : am_X} {d : Nat} {N : Nat} {lv : am_LV} (x0 : Value) (x1 : Int32) (h : am_H) (o : am_O) (l0 : lv.lookup 0 = some x0) (l1 : lv.lookup 1 = some (.int x1)) (i0 : am_isR x0 = true) (hs : fg_519_0 N x0 x1 h = some o) : am_W X (d + 9) 519 0 lv [] h (fun q => q = o) := by
  unfold fg_519_0 at hs
  refine aw_vload_n (pc1 := 1) at_519_0 l0 i0 rfl ?_
  refine aw_vload_n (pc1 := 2) at_519_1 l0 i0 rfl ?_
  refine aw_iload_n (pc1 := 3) at_519_2 l1 rfl ?_
  obtain ⟨z1, hs1⟩ := am_ift hs
  clear hs
  refine aw_call (F := fm_489 x0 x1 h) (t := true) (na := 2) (kd := 1) (as := [x0, (.int x1)]) at_519_3 (am_k3v kb_489) mn_489 mk_489 rfl rfl (am_ok_v mi_489 (am_hl rfl (am_ccR i0 (am_ccI am_cats_0)) rfl) z1) (am_hc (am_ccR i0 am_cats_0) rfl) (fun _ => ⟨rfl, hh_519⟩) (fun o1 hz9 => rm_489 x0 x1 h o1 i0 hz9) ?_
  rcases am_cI_s hs1 with ⟨v2, h3, f4, hs2⟩ | hs2
  · clear hs1
    refine Or.inl ⟨_, _, f4, ?_⟩
    show am_W X _ 519 6 _ [(.int v2), x0] h3 _
    by_cases c5 : ¬ v2 = 0
    · rw [if_pos c5] at hs2
      refine aw_ifne_t at_519_6 c5 ?_
      refine aw_vload_n (pc1 := 14) at_519_13 l0 i0 rfl ?_
      obtain ⟨v6, e7, hs3⟩ := am_bind hs2
      clear hs2
      refine aw_pG (pc1 := 17) at_519_14 (am_vR_s e7).1 rfl ?_
      refine aw_iload_n (pc1 := 18) at_519_17 l1 rfl ?_
      obtain ⟨v8, e9, hs4⟩ := am_bind hs3
      clear hs3
      refine aw_pA (pc1 := 19) at_519_18 (Or.inl ⟨rfl, rfl⟩) e9 rfl ?_
      by_cases c10 : ¬ v8 = 0
      · rw [if_pos c10] at hs4
        refine aw_ifne_t at_519_19 c10 ?_
        refine aw_iconst (v := 0) (pc1 := 27) at_519_26 (by decide) rfl ?_
        exact rg_519_27 x0 x1 x0 0 h3 o l0 l1 i0 i0 hs4
      · rw [if_neg c10] at hs4
        refine aw_ifne_f (pc1 := 22) at_519_19 c10 rfl ?_
        refine aw_iconst (v := 2) (pc1 := 23) at_519_22 (by decide) rfl ?_
        refine aw_goto at_519_23 ?_
        exact rg_519_27 x0 x1 x0 2 h3 o l0 l1 i0 i0 hs4
    · rw [if_neg c5] at hs2
      refine aw_ifne_f (pc1 := 9) at_519_6 c5 rfl ?_
      refine aw_iconst (v := 1) (pc1 := 10) at_519_9 (by decide) rfl ?_
      refine aw_goto at_519_10 ?_
      exact rg_519_27 x0 x1 x0 1 h3 o l0 l1 i0 i0 hs2
  · clear hs1
    exact Or.inr hs2
def fm_519 (N : Nat) (y0 : Value) (y1 : Int32) (h : am_H) : Option am_O := fg_519_0 N y0 y1 h
theorem rm_519 {X : am_X} {d : Nat} {N : Nat} (y0 : Value) (y1 : Int32) (h : am_H) (o : am_O) (i0 : am_isR y0 = true) (hs : fm_519 N y0 y1 h = some o) : am_W X (d + 9) 519 0 (am_args 0 [y0, .int y1]) [] h (fun q => q = o) := by
  rw [am_args_R i0, am_args_I]
  exact rg_519_0 y0 y1 h o rfl rfl i0 hs
def fg_237_49 (N : Nat) (s0 : Int32) (h : am_H) : Option am_O := some (.inl (some (.int s0), h))
theorem rg_237_49 {X : am_X} {d : Nat} {N : Nat} {lv : am_LV} (s0 : Int32) (h : am_H) (o : am_O) (hs : fg_237_49 N s0 h = some o) : am_W X (d + 84) 237 49 lv [(.int s0)] h (fun q => q = o) := by
  unfold fg_237_49 at hs
  cases hs
  exact aw_iret at_237_49 (by rw [rt_237]; rfl) rfl
def fg_237_31 (N : Nat) (x3 : Value) (s0 : Int32) (h : am_H) : Option am_O := (if 0 ≤ s0 then ((am_vR (am_pG 257 x3 h)).bind fun v2 => ((am_pA 0 v2 s0 h).bind fun v4 => (fg_237_49 N v4 h))) else (fg_237_49 N ((-1)) h))
theorem rg_237_31 {X : am_X} {d : Nat} {N : Nat} {lv : am_LV} (x3 : Value) (s0 : Int32) (h : am_H) (o : am_O) (l3 : lv.lookup 3 = some x3) (i3 : am_isR x3 = true) (hs : fg_237_31 N x3 s0 h = some o) : am_W X (d + 84) 237 31 lv [(.int s0)] h (fun q => q = o) := by
  unfold fg_237_31 at hs
  refine aw_istore (lv1 := am_put1 _ 4 _) (pc1 := 33) at_237_31 rfl rfl ?_
  refine aw_iload (pc1 := 35) at_237_33 am_lk0 rfl ?_
  by_cases c1 : 0 ≤ s0
  · rw [if_pos c1] at hs
    refine aw_ifge_t at_237_35 c1 ?_
    refine aw_vload_n (pc1 := 43) at_237_42 (am_lk1 l3 rfl (by rw [am_isRc i3]; rfl)) i3 rfl ?_
    obtain ⟨v2, e3, hs1⟩ := am_bind hs
    clear hs
    refine aw_pG (pc1 := 46) at_237_43 (am_vR_s e3).1 rfl ?_
    refine aw_iload (pc1 := 48) at_237_46 am_lk0 rfl ?_
    obtain ⟨v4, e5, hs2⟩ := am_bind hs1
    clear hs1
    refine aw_pA (pc1 := 49) at_237_48 (Or.inl ⟨rfl, rfl⟩) e5 rfl ?_
    exact rg_237_49 v4 h o   hs2
  · rw [if_neg c1] at hs
    refine aw_ifge_f (pc1 := 38) at_237_35 c1 rfl ?_
    refine aw_iconst (v := (-1)) (pc1 := 39) at_237_38 (by decide) rfl ?_
    refine aw_goto at_237_39 ?_
    exact rg_237_49 ((-1)) h o   hs
def fg_237_0 (N : Nat) (x0 : Value) (x1 : Int32) (x2 : Int32) (h : am_H) : Option am_O := (if am_pOk 11 x0 h then am_cR true (fm_201 x0 x1 h) (fun v2 h3 => ((am_vR (am_pG 2816 x0 h3)).bind fun v5 => ((am_vR (am_pG 2819 x0 h3)).bind fun v7 => (if am_pOk 1 v2 h3 then am_cV true (fm_218 N v2 v5 v7 h3) (fun h11 => (if 0 ≤ x2 then (if am_pOk 1 v2 h11 then am_cI true (fm_229 N v2 x2 h11) (fun v15 h16 => (fg_237_31 N v2 v15 h16)) else none) else (fg_237_31 N v2 ((-1)) h11))) else none)))) else none)
theorem rg_237_0 {X : am_X} {d : Nat} {N : Nat} {lv : am_LV} (x0 : Value) (x1 : Int32) (x2 : Int32) (h : am_H) (o : am_O) (l0 : lv.lookup 0 = some x0) (l1 : lv.lookup 1 = some (.int x1)) (l2 : lv.lookup 2 = some (.int x2)) (i0 : am_isR x0 = true) (hs : fg_237_0 N x0 x1 x2 h = some o) : am_W X (d + 84) 237 0 lv [] h (fun q => q = o) := by
  unfold fg_237_0 at hs
  refine aw_vload_n (pc1 := 1) at_237_0 l0 i0 rfl ?_
  refine aw_iload_n (pc1 := 2) at_237_1 l1 rfl ?_
  obtain ⟨z1, hs1⟩ := am_ift hs
  clear hs
  refine aw_call (F := fm_201 x0 x1 h) (t := true) (na := 2) (kd := 1) (as := [x0, (.int x1)]) at_237_2 (am_k3v kb_201) mn_201 mk_201 rfl rfl (am_ok_v mi_201 (am_hl rfl (am_ccR i0 (am_ccI am_cats_0)) rfl) z1) (am_hc am_cats_0 rfl) (fun _ => ⟨rfl, hh_237⟩) (fun o1 hz9 => rm_201 x0 x1 h o1 i0 hz9) ?_
  rcases am_cR_s hs1 with ⟨v2, h3, f4, iv2, hs2⟩ | hs2
  · clear hs1
    refine Or.inl ⟨_, _, f4, ?_⟩
    show am_W X _ 237 5 _ [v2] h3 _
    refine aw_vstore_n (lv1 := am_put1 _ 3 _) (pc1 := 6) at_237_5 iv2 rfl rfl ?_
    refine aw_vload_n (pc1 := 7) at_237_6 am_lk0 iv2 rfl ?_
    refine aw_vload_n (pc1 := 8) at_237_7 (am_lk1 l0 rfl rfl) i0 rfl ?_
    obtain ⟨v5, e6, hs3⟩ := am_bind hs2
    clear hs2
    refine aw_pG (pc1 := 11) at_237_8 (am_vR_s e6).1 rfl ?_
    refine aw_vload_n (pc1 := 12) at_237_11 (am_lk1 l0 rfl rfl) i0 rfl ?_
    obtain ⟨v7, e8, hs4⟩ := am_bind hs3
    clear hs3
    refine aw_pG (pc1 := 15) at_237_12 (am_vR_s e8).1 rfl ?_
    obtain ⟨z9, hs5⟩ := am_ift hs4
    clear hs4
    refine aw_call (F := fm_218 N v2 v5 v7 h3) (t := true) (na := 3) (kd := 1) (as := [v2, v5, v7]) at_237_15 (am_k3v kb_218) mn_218 mk_218 rfl rfl (am_ok_v mi_218 (am_hl rfl (am_ccR iv2 (am_ccR (am_vR_s e6).2 (am_ccR (am_vR_s e8).2 am_cats_0))) rfl) z9) (am_hc am_cats_0 rfl) (fun _ => ⟨rfl, hh_237⟩) (fun o1 hz9 => rm_218 v2 v5 v7 h3 o1 iv2 (am_vR_s e6).2 (am_vR_s e8).2 hz9) ?_
    rcases am_cV_s hs5 with ⟨h11, f12, hs6⟩ | hs6
    · clear hs5
      refine Or.inl ⟨_, _, f12, ?_⟩
      show am_W X _ 237 18 _ [] h11 _
      refine aw_iload_n (pc1 := 19) at_237_18 (am_lk1 l2 rfl rfl) rfl ?_
      by_cases c13 : 0 ≤ x2
      · rw [if_pos c13] at hs6
        refine aw_ifge_t at_237_19 c13 ?_
        refine aw_vload_n (pc1 := 27) at_237_26 am_lk0 iv2 rfl ?_
        refine aw_iload_n (pc1 := 28) at_237_27 (am_lk1 l2 rfl rfl) rfl ?_
        obtain ⟨z14, hs7⟩ := am_ift hs6
        clear hs6
        refine aw_call (F := fm_229 N v2 x2 h11) (t := true) (na := 2) (kd := 1) (as := [v2, (.int x2)]) at_237_28 (am_k3v kb_229) mn_229 mk_229 rfl rfl (am_ok_v mi_229 (am_hl rfl (am_ccR iv2 (am_ccI am_cats_0)) rfl) z14) (am_hc am_cats_0 rfl) (fun _ => ⟨rfl, hh_237⟩) (fun o1 hz9 => rm_229 v2 x2 h11 o1 iv2 hz9) ?_
        rcases am_cI_s hs7 with ⟨v15, h16, f17, hs8⟩ | hs8
        · clear hs7
          refine Or.inl ⟨_, _, f17, ?_⟩
          show am_W X _ 237 31 _ [(.int v15)] h16 _
          exact rg_237_31 v2 v15 h16 o am_lk0 iv2 hs8
        · clear hs7
          exact Or.inr hs8
      · rw [if_neg c13] at hs6
        refine aw_ifge_f (pc1 := 22) at_237_19 c13 rfl ?_
        refine aw_iconst (v := (-1)) (pc1 := 23) at_237_22 (by decide) rfl ?_
        refine aw_goto at_237_23 ?_
        exact rg_237_31 v2 ((-1)) h11 o am_lk0 iv2 hs6
    · clear hs5
      exact Or.inr hs6
  · clear hs1
    exact Or.inr hs2
def fm_237 (N : Nat) (y0 : Value) (y1 : Int32) (y2 : Int32) (h : am_H) : Option am_O := fg_237_0 N y0 y1 y2 h
theorem rm_237 {X : am_X} {d : Nat} {N : Nat} (y0 : Value) (y1 : Int32) (y2 : Int32) (h : am_H) (o : am_O) (i0 : am_isR y0 = true) (hs : fm_237 N y0 y1 y2 h = some o) : am_W X (d + 84) 237 0 (am_args 0 [y0, .int y1, .int y2]) [] h (fun q => q = o) := by
  rw [am_args_R i0, am_args_I, am_args_I]
  exact rg_237_0 y0 y1 y2 h o rfl rfl rfl i0 hs
def fg_236_15 (N : Nat) (h : am_H) : Option am_O := some (.inl (some (.int 1), h))
theorem rg_236_15 {X : am_X} {d : Nat} {N : Nat} {lv : am_LV} (h : am_H) (o : am_O) (hs : fg_236_15 N h = some o) : am_W X (d + 85) 236 15 lv [] h (fun q => q = o) := by
  unfold fg_236_15 at hs
  refine aw_iconst (v := 1) (pc1 := 16) at_236_15 (by decide) rfl ?_
  cases hs
  exact aw_iret at_236_16 (by rw [rt_236]; rfl) rfl
def fg_236_0 (N : Nat) (x0 : Value) (x1 : Int32) (x2 : Int32) (x3 : Value) (h : am_H) : Option am_O := (if am_pOk 11 x0 h then (match fm_237 N x0 x1 x2 h with | some (.inl (some (.int v2), h3)) => ((am_pSL x3 0 (Int32.toInt64 v2) h3).bind fun h5 => some (.inl (some (.int 0), h5))) | some (.inr (2, h7)) => (fg_236_15 N h7) | _ => none) else none)
theorem rg_236_0 {X : am_X} {d : Nat} {N : Nat} {lv : am_LV} (x0 : Value) (x1 : Int32) (x2 : Int32) (x3 : Value) (h : am_H) (o : am_O) (l0 : lv.lookup 0 = some x0) (l1 : lv.lookup 1 = some (.int x1)) (l2 : lv.lookup 2 = some (.int x2)) (l3 : lv.lookup 3 = some x3) (i0 : am_isR x0 = true) (i3 : am_isR x3 = true) (hs : fg_236_0 N x0 x1 x2 x3 h = some o) : am_W X (d + 85) 236 0 lv [] h (fun q => q = o) := by
  unfold fg_236_0 at hs
  refine aw_vload_n (pc1 := 1) at_236_0 l3 i3 rfl ?_
  refine aw_iconst (v := 0) (pc1 := 2) at_236_1 (by decide) rfl ?_
  refine aw_vload_n (pc1 := 3) at_236_2 l0 i0 rfl ?_
  refine aw_iload_n (pc1 := 4) at_236_3 l1 rfl ?_
  refine aw_iload_n (pc1 := 5) at_236_4 l2 rfl ?_
  obtain ⟨z1, hs1⟩ := am_ift hs
  clear hs
  refine aw_callH (F := fm_237 N x0 x1 x2 h) (na := 3) (kd := 1) (as := [x0, (.int x1), (.int x2)]) at_236_5 (am_k3v kb_237) mn_237 mk_237 rfl rfl (am_ok_v mi_237 (am_hl rfl (am_ccR i0 (am_ccI (am_ccI am_cats_0))) rfl) z1) (am_hc (am_ccI (am_ccR i3 am_cats_0)) rfl) (fun o1 hz9 => rm_237 x0 x1 x2 h o1 i0 hz9) ?_
  split at hs1
  · rename_i v2 h3 f4
    refine Or.inl ⟨_, _, f4, ?_⟩
    show am_W X _ 236 8 _ [(.int v2), (.int 0), x3] h3 _
    refine aw_i2l (v := (Int32.toInt64 v2)) (pc1 := 9) at_236_8 rfl rfl ?_
    obtain ⟨h5, e6, hs2⟩ := am_bind hs1
    clear hs1
    refine aw_pSL (pc1 := 10) at_236_9 e6 rfl ?_
    refine aw_goto at_236_10 ?_
    refine aw_iconst (v := 0) (pc1 := 18) at_236_17 (by decide) rfl ?_
    cases hs2
    exact aw_iret at_236_18 (by rw [rt_236]; rfl) rfl
  · rename_i h7 f8
    refine Or.inr ⟨_, _, 15, 4, f8, rfl, hn_236, hd_236_5_2, ?_⟩
    exact rg_236_15 h7 o   hs1
  · cases hs1
def fm_236 (N : Nat) (y0 : Value) (y1 : Int32) (y2 : Int32) (y3 : Value) (h : am_H) : Option am_O := fg_236_0 N y0 y1 y2 y3 h
theorem rm_236 {X : am_X} {d : Nat} {N : Nat} (y0 : Value) (y1 : Int32) (y2 : Int32) (y3 : Value) (h : am_H) (o : am_O) (i0 : am_isR y0 = true) (i3 : am_isR y3 = true) (hs : fm_236 N y0 y1 y2 y3 h = some o) : am_W X (d + 85) 236 0 (am_args 0 [y0, .int y1, .int y2, y3]) [] h (fun q => q = o) := by
  rw [am_args_R i0, am_args_I, am_args_I, am_args_R i3]
  exact rg_236_0 y0 y1 y2 y3 h o rfl rfl rfl rfl i0 i3 hs
def fg_520_59 (N : Nat) (s0 : Int32) (h : am_H) : Option am_O := some (.inl (some (.int s0), h))
theorem rg_520_59 {X : am_X} {d : Nat} {N : Nat} {lv : am_LV} (s0 : Int32) (h : am_H) (o : am_O) (hs : fg_520_59 N s0 h = some o) : am_W X (d + 9) 520 59 lv [(.int s0)] h (fun q => q = o) := by
  unfold fg_520_59 at hs
  cases hs
  exact aw_iret at_520_59 (by rw [rt_520]; rfl) rfl
def fg_520_44 (N : Nat) (x0 : Value) (s0 : Int32) (h : am_H) : Option am_O := (if 0 ≤ s0 then ((am_vR (am_pG 3176 x0 h)).bind fun v2 => ((am_pA 0 v2 s0 h).bind fun v4 => (fg_520_59 N v4 h))) else (fg_520_59 N ((-1)) h))
theorem rg_520_44 {X : am_X} {d : Nat} {N : Nat} {lv : am_LV} (x0 : Value) (s0 : Int32) (h : am_H) (o : am_O) (l0 : lv.lookup 0 = some x0) (i0 : am_isR x0 = true) (hs : fg_520_44 N x0 s0 h = some o) : am_W X (d + 9) 520 44 lv [(.int s0)] h (fun q => q = o) := by
  unfold fg_520_44 at hs
  refine aw_istore_n (lv1 := am_put1 _ 3 _) (pc1 := 45) at_520_44 rfl rfl ?_
  refine aw_iload_n (pc1 := 46) at_520_45 am_lk0 rfl ?_
  by_cases c1 : 0 ≤ s0
  · rw [if_pos c1] at hs
    refine aw_ifge_t at_520_46 c1 ?_
    refine aw_vload_n (pc1 := 54) at_520_53 (am_lk1 l0 rfl rfl) i0 rfl ?_
    obtain ⟨v2, e3, hs1⟩ := am_bind hs
    clear hs
    refine aw_pG (pc1 := 57) at_520_54 (am_vR_s e3).1 rfl ?_
    refine aw_iload_n (pc1 := 58) at_520_57 am_lk0 rfl ?_
    obtain ⟨v4, e5, hs2⟩ := am_bind hs1
    clear hs1
    refine aw_pA (pc1 := 59) at_520_58 (Or.inl ⟨rfl, rfl⟩) e5 rfl ?_
    exact rg_520_59 v4 h o   hs2
  · rw [if_neg c1] at hs
    refine aw_ifge_f (pc1 := 49) at_520_46 c1 rfl ?_
    refine aw_iconst (v := (-1)) (pc1 := 50) at_520_49 (by decide) rfl ?_
    refine aw_goto at_520_50 ?_
    exact rg_520_59 ((-1)) h o   hs
def fg_520_14 (N : Nat) (x0 : Value) (x1 : Int32) (x2 : Int32) (s0 : Value) (s1 : Int32) (h : am_H) : Option am_O := ((am_pP 3072 s0 (.int s1) h).bind fun h1 => ((am_vI (am_pG 3072 x0 h1)).bind fun v3 => (if v3 ≤ 0 then (if am_pOk 12 x0 h1 then am_cV true (fm_505 N x0 x1 h1) (fun h8 => (if 0 ≤ x2 then (if am_pOk 12 x0 h8 then am_cI true (fm_515 N x0 x2 h8) (fun v12 h13 => (fg_520_44 N x0 v12 h13)) else none) else (fg_520_44 N x0 ((-1)) h8))) else none) else some (.inl (some (.int 0), h1)))))
theorem rg_520_14 {X : am_X} {d : Nat} {N : Nat} {lv : am_LV} (x0 : Value) (x1 : Int32) (x2 : Int32) (s0 : Value) (s1 : Int32) (h : am_H) (o : am_O) (l0 : lv.lookup 0 = some x0) (l1 : lv.lookup 1 = some (.int x1)) (l2 : lv.lookup 2 = some (.int x2)) (i0 : am_isR x0 = true) (j0 : am_isR s0 = true) (hs : fg_520_14 N x0 x1 x2 s0 s1 h = some o) : am_W X (d + 9) 520 14 lv [(.int s1), s0] h (fun q => q = o) := by
  unfold fg_520_14 at hs
  obtain ⟨h1, e2, hs1⟩ := am_bind hs
  clear hs
  refine aw_pP (pc1 := 17) at_520_14 e2 rfl ?_
  refine aw_vload_n (pc1 := 18) at_520_17 l0 i0 rfl ?_
  obtain ⟨v3, e4, hs2⟩ := am_bind hs1
  clear hs1
  refine aw_pG (pc1 := 21) at_520_18 (am_vI_s e4) rfl ?_
  by_cases c5 : v3 ≤ 0
  · rw [if_pos c5] at hs2
    refine aw_ifle_t at_520_21 c5 ?_
    refine aw_vload_n (pc1 := 27) at_520_26 l0 i0 rfl ?_
    refine aw_iload_n (pc1 := 28) at_520_27 l1 rfl ?_
    obtain ⟨z6, hs3⟩ := am_ift hs2
    clear hs2
    refine aw_call (F := fm_505 N x0 x1 h1) (t := true) (na := 2) (kd := 1) (as := [x0, (.int x1)]) at_520_28 (am_k3v kb_505) mn_505 mk_505 rfl rfl (am_ok_v mi_505 (am_hl rfl (am_ccR i0 (am_ccI am_cats_0)) rfl) z6) (am_hc am_cats_0 rfl) (fun _ => ⟨rfl, hh_520⟩) (fun o1 hz9 => rm_505 x0 x1 h1 o1 i0 hz9) ?_
    rcases am_cV_s hs3 with ⟨h8, f9, hs4⟩ | hs4
    · clear hs3
      refine Or.inl ⟨_, _, f9, ?_⟩
      show am_W X _ 520 31 _ [] h8 _
      refine aw_iload_n (pc1 := 32) at_520_31 l2 rfl ?_
      by_cases c10 : 0 ≤ x2
      · rw [if_pos c10] at hs4
        refine aw_ifge_t at_520_32 c10 ?_
        refine aw_vload_n (pc1 := 40) at_520_39 l0 i0 rfl ?_
        refine aw_iload_n (pc1 := 41) at_520_40 l2 rfl ?_
        obtain ⟨z11, hs5⟩ := am_ift hs4
        clear hs4
        refine aw_call (F := fm_515 N x0 x2 h8) (t := true) (na := 2) (kd := 1) (as := [x0, (.int x2)]) at_520_41 (am_k3v kb_515) mn_515 mk_515 rfl rfl (am_ok_v mi_515 (am_hl rfl (am_ccR i0 (am_ccI am_cats_0)) rfl) z11) (am_hc am_cats_0 rfl) (fun _ => ⟨rfl, hh_520⟩) (fun o1 hz9 => rm_515 x0 x2 h8 o1 i0 hz9) ?_
        rcases am_cI_s hs5 with ⟨v12, h13, f14, hs6⟩ | hs6
        · clear hs5
          refine Or.inl ⟨_, _, f14, ?_⟩
          show am_W X _ 520 44 _ [(.int v12)] h13 _
          exact rg_520_44 x0 v12 h13 o l0 i0 hs6
        · clear hs5
          exact Or.inr hs6
      · rw [if_neg c10] at hs4
        refine aw_ifge_f (pc1 := 35) at_520_32 c10 rfl ?_
        refine aw_iconst (v := (-1)) (pc1 := 36) at_520_35 (by decide) rfl ?_
        refine aw_goto at_520_36 ?_
        exact rg_520_44 x0 ((-1)) h8 o l0 i0 hs4
    · clear hs3
      exact Or.inr hs4
  · rw [if_neg c5] at hs2
    refine aw_ifle_f (pc1 := 24) at_520_21 c5 rfl ?_
    refine aw_iconst (v := 0) (pc1 := 25) at_520_24 (by decide) rfl ?_
    cases hs2
    exact aw_iret at_520_25 (by rw [rt_520]; rfl) rfl
def fg_520_0 (N : Nat) (x0 : Value) (x1 : Int32) (x2 : Int32) (h : am_H) : Option am_O := (if am_pOk 12 x0 h then am_cI true (fm_489 x0 x1 h) (fun v2 h3 => (if v2 = 0 then (fg_520_14 N x0 x1 x2 x0 1 h3) else (fg_520_14 N x0 x1 x2 x0 0 h3))) else none)
theorem rg_520_0 {X : am_X} {d : Nat} {N : Nat} {lv : am_LV} (x0 : Value) (x1 : Int32) (x2 : Int32) (h : am_H) (o : am_O) (l0 : lv.lookup 0 = some x0) (l1 : lv.lookup 1 = some (.int x1)) (l2 : lv.lookup 2 = some (.int x2)) (i0 : am_isR x0 = true) (hs : fg_520_0 N x0 x1 x2 h = some o) : am_W X (d + 9) 520 0 lv [] h (fun q => q = o) := by
  unfold fg_520_0 at hs
  refine aw_vload_n (pc1 := 1) at_520_0 l0 i0 rfl ?_
  refine aw_vload_n (pc1 := 2) at_520_1 l0 i0 rfl ?_
  refine aw_iload_n (pc1 := 3) at_520_2 l1 rfl ?_
  obtain ⟨z1, hs1⟩ := am_ift hs
  clear hs
  refine aw_call (F := fm_489 x0 x1 h) (t := true) (na := 2) (kd := 1) (as := [x0, (.int x1)]) at_520_3 (am_k3v kb_489) mn_489 mk_489 rfl rfl (am_ok_v mi_489 (am_hl rfl (am_ccR i0 (am_ccI am_cats_0)) rfl) z1) (am_hc (am_ccR i0 am_cats_0) rfl) (fun _ => ⟨rfl, hh_520⟩) (fun o1 hz9 => rm_489 x0 x1 h o1 i0 hz9) ?_
  rcases am_cI_s hs1 with ⟨v2, h3, f4, hs2⟩ | hs2
  · clear hs1
    refine Or.inl ⟨_, _, f4, ?_⟩
    show am_W X _ 520 6 _ [(.int v2), x0] h3 _
    by_cases c5 : v2 = 0
    · rw [if_pos c5] at hs2
      refine aw_ifeq_t at_520_6 c5 ?_
      refine aw_iconst (v := 1) (pc1 := 14) at_520_13 (by decide) rfl ?_
      exact rg_520_14 x0 x1 x2 x0 1 h3 o l0 l1 l2 i0 i0 hs2
    · rw [if_neg c5] at hs2
      refine aw_ifeq_f (pc1 := 9) at_520_6 c5 rfl ?_
      refine aw_iconst (v := 0) (pc1 := 10) at_520_9 (by decide) rfl ?_
      refine aw_goto at_520_10 ?_
      exact rg_520_14 x0 x1 x2 x0 0 h3 o l0 l1 l2 i0 i0 hs2
  · clear hs1
    exact Or.inr hs2
def fm_520 (N : Nat) (y0 : Value) (y1 : Int32) (y2 : Int32) (h : am_H) : Option am_O := fg_520_0 N y0 y1 y2 h
theorem rm_520 {X : am_X} {d : Nat} {N : Nat} (y0 : Value) (y1 : Int32) (y2 : Int32) (h : am_H) (o : am_O) (i0 : am_isR y0 = true) (hs : fm_520 N y0 y1 y2 h = some o) : am_W X (d + 9) 520 0 (am_args 0 [y0, .int y1, .int y2]) [] h (fun q => q = o) := by
  rw [am_args_R i0, am_args_I, am_args_I]
  exact rg_520_0 y0 y1 y2 h o rfl rfl rfl i0 hs
def fg_242_0 (x0 : Int32) (h : am_H) : Option am_O := some (.inl (some (.int ((((((((x0 - (((Int32.toUInt32 x0 >>> (Int32.toUInt32 1 &&& Int32.toUInt32 31)).toInt32) &&& 1431655765)) &&& 858993459) + (((Int32.toUInt32 (x0 - (((Int32.toUInt32 x0 >>> (Int32.toUInt32 1 &&& Int32.toUInt32 31)).toInt32) &&& 1431655765)) >>> (Int32.toUInt32 2 &&& Int32.toUInt32 31)).toInt32) &&& 858993459)) + ((Int32.toUInt32 (((x0 - (((Int32.toUInt32 x0 >>> (Int32.toUInt32 1 &&& Int32.toUInt32 31)).toInt32) &&& 1431655765)) &&& 858993459) + (((Int32.toUInt32 (x0 - (((Int32.toUInt32 x0 >>> (Int32.toUInt32 1 &&& Int32.toUInt32 31)).toInt32) &&& 1431655765)) >>> (Int32.toUInt32 2 &&& Int32.toUInt32 31)).toInt32) &&& 858993459)) >>> (Int32.toUInt32 4 &&& Int32.toUInt32 31)).toInt32)) &&& 252645135) + ((Int32.toUInt32 (((((x0 - (((Int32.toUInt32 x0 >>> (Int32.toUInt32 1 &&& Int32.toUInt32 31)).toInt32) &&& 1431655765)) &&& 858993459) + (((Int32.toUInt32 (x0 - (((Int32.toUInt32 x0 >>> (Int32.toUInt32 1 &&& Int32.toUInt32 31)).toInt32) &&& 1431655765)) >>> (Int32.toUInt32 2 &&& Int32.toUInt32 31)).toInt32) &&& 858993459)) + ((Int32.toUInt32 (((x0 - (((Int32.toUInt32 x0 >>> (Int32.toUInt32 1 &&& Int32.toUInt32 31)).toInt32) &&& 1431655765)) &&& 858993459) + (((Int32.toUInt32 (x0 - (((Int32.toUInt32 x0 >>> (Int32.toUInt32 1 &&& Int32.toUInt32 31)).toInt32) &&& 1431655765)) >>> (Int32.toUInt32 2 &&& Int32.toUInt32 31)).toInt32) &&& 858993459)) >>> (Int32.toUInt32 4 &&& Int32.toUInt32 31)).toInt32)) &&& 252645135) >>> (Int32.toUInt32 8 &&& Int32.toUInt32 31)).toInt32)) + ((Int32.toUInt32 ((((((x0 - (((Int32.toUInt32 x0 >>> (Int32.toUInt32 1 &&& Int32.toUInt32 31)).toInt32) &&& 1431655765)) &&& 858993459) + (((Int32.toUInt32 (x0 - (((Int32.toUInt32 x0 >>> (Int32.toUInt32 1 &&& Int32.toUInt32 31)).toInt32) &&& 1431655765)) >>> (Int32.toUInt32 2 &&& Int32.toUInt32 31)).toInt32) &&& 858993459)) + ((Int32.toUInt32 (((x0 - (((Int32.toUInt32 x0 >>> (Int32.toUInt32 1 &&& Int32.toUInt32 31)).toInt32) &&& 1431655765)) &&& 858993459) + (((Int32.toUInt32 (x0 - (((Int32.toUInt32 x0 >>> (Int32.toUInt32 1 &&& Int32.toUInt32 31)).toInt32) &&& 1431655765)) >>> (Int32.toUInt32 2 &&& Int32.toUInt32 31)).toInt32) &&& 858993459)) >>> (Int32.toUInt32 4 &&& Int32.toUInt32 31)).toInt32)) &&& 252645135) + ((Int32.toUInt32 (((((x0 - (((Int32.toUInt32 x0 >>> (Int32.toUInt32 1 &&& Int32.toUInt32 31)).toInt32) &&& 1431655765)) &&& 858993459) + (((Int32.toUInt32 (x0 - (((Int32.toUInt32 x0 >>> (Int32.toUInt32 1 &&& Int32.toUInt32 31)).toInt32) &&& 1431655765)) >>> (Int32.toUInt32 2 &&& Int32.toUInt32 31)).toInt32) &&& 858993459)) + ((Int32.toUInt32 (((x0 - (((Int32.toUInt32 x0 >>> (Int32.toUInt32 1 &&& Int32.toUInt32 31)).toInt32) &&& 1431655765)) &&& 858993459) + (((Int32.toUInt32 (x0 - (((Int32.toUInt32 x0 >>> (Int32.toUInt32 1 &&& Int32.toUInt32 31)).toInt32) &&& 1431655765)) >>> (Int32.toUInt32 2 &&& Int32.toUInt32 31)).toInt32) &&& 858993459)) >>> (Int32.toUInt32 4 &&& Int32.toUInt32 31)).toInt32)) &&& 252645135) >>> (Int32.toUInt32 8 &&& Int32.toUInt32 31)).toInt32)) >>> (Int32.toUInt32 16 &&& Int32.toUInt32 31)).toInt32)) &&& 63)), h))
theorem rg_242_0 {X : am_X} {d : Nat} {lv : am_LV} (x0 : Int32) (h : am_H) (o : am_O) (l0 : lv.lookup 0 = some (.int x0)) (hs : fg_242_0 x0 h = some o) : am_W X (d) 242 0 lv [] h (fun q => q = o) := by
  unfold fg_242_0 at hs
  refine aw_iload_n (pc1 := 1) at_242_0 l0 rfl ?_
  refine aw_iload_n (pc1 := 2) at_242_1 l0 rfl ?_
  refine aw_iconst (v := 1) (pc1 := 3) at_242_2 (by decide) rfl ?_
  refine aw_iushr (v := ((Int32.toUInt32 x0 >>> (Int32.toUInt32 1 &&& Int32.toUInt32 31)).toInt32)) (pc1 := 4) at_242_3 rfl rfl ?_
  refine aw_ldcw (v := 1431655765) (pc1 := 7) at_242_4 rfl rfl ?_
  refine aw_iand (v := (((Int32.toUInt32 x0 >>> (Int32.toUInt32 1 &&& Int32.toUInt32 31)).toInt32) &&& 1431655765)) (pc1 := 8) at_242_7 rfl rfl ?_
  refine aw_isub (v := (x0 - (((Int32.toUInt32 x0 >>> (Int32.toUInt32 1 &&& Int32.toUInt32 31)).toInt32) &&& 1431655765))) (pc1 := 9) at_242_8 rfl rfl ?_
  refine aw_istore_n (lv1 := am_put1 _ 0 _) (pc1 := 10) at_242_9 rfl rfl ?_
  refine aw_iload_n (pc1 := 11) at_242_10 am_lk0 rfl ?_
  refine aw_ldcw (v := 858993459) (pc1 := 14) at_242_11 rfl rfl ?_
  refine aw_iand (v := ((x0 - (((Int32.toUInt32 x0 >>> (Int32.toUInt32 1 &&& Int32.toUInt32 31)).toInt32) &&& 1431655765)) &&& 858993459)) (pc1 := 15) at_242_14 rfl rfl ?_
  refine aw_iload_n (pc1 := 16) at_242_15 am_lk0 rfl ?_
  refine aw_iconst (v := 2) (pc1 := 17) at_242_16 (by decide) rfl ?_
  refine aw_iushr (v := ((Int32.toUInt32 (x0 - (((Int32.toUInt32 x0 >>> (Int32.toUInt32 1 &&& Int32.toUInt32 31)).toInt32) &&& 1431655765)) >>> (Int32.toUInt32 2 &&& Int32.toUInt32 31)).toInt32)) (pc1 := 18) at_242_17 rfl rfl ?_
  refine aw_ldcw (v := 858993459) (pc1 := 21) at_242_18 rfl rfl ?_
  refine aw_iand (v := (((Int32.toUInt32 (x0 - (((Int32.toUInt32 x0 >>> (Int32.toUInt32 1 &&& Int32.toUInt32 31)).toInt32) &&& 1431655765)) >>> (Int32.toUInt32 2 &&& Int32.toUInt32 31)).toInt32) &&& 858993459)) (pc1 := 22) at_242_21 rfl rfl ?_
  refine aw_iadd (v := (((x0 - (((Int32.toUInt32 x0 >>> (Int32.toUInt32 1 &&& Int32.toUInt32 31)).toInt32) &&& 1431655765)) &&& 858993459) + (((Int32.toUInt32 (x0 - (((Int32.toUInt32 x0 >>> (Int32.toUInt32 1 &&& Int32.toUInt32 31)).toInt32) &&& 1431655765)) >>> (Int32.toUInt32 2 &&& Int32.toUInt32 31)).toInt32) &&& 858993459))) (pc1 := 23) at_242_22 rfl rfl ?_
  refine aw_istore_n (lv1 := am_put1 _ 0 _) (pc1 := 24) at_242_23 rfl rfl ?_
  refine aw_iload_n (pc1 := 25) at_242_24 am_lk0 rfl ?_
  refine aw_iload_n (pc1 := 26) at_242_25 am_lk0 rfl ?_
  refine aw_iconst (v := 4) (pc1 := 27) at_242_26 (by decide) rfl ?_
  refine aw_iushr (v := ((Int32.toUInt32 (((x0 - (((Int32.toUInt32 x0 >>> (Int32.toUInt32 1 &&& Int32.toUInt32 31)).toInt32) &&& 1431655765)) &&& 858993459) + (((Int32.toUInt32 (x0 - (((Int32.toUInt32 x0 >>> (Int32.toUInt32 1 &&& Int32.toUInt32 31)).toInt32) &&& 1431655765)) >>> (Int32.toUInt32 2 &&& Int32.toUInt32 31)).toInt32) &&& 858993459)) >>> (Int32.toUInt32 4 &&& Int32.toUInt32 31)).toInt32)) (pc1 := 28) at_242_27 rfl rfl ?_
  refine aw_iadd (v := ((((x0 - (((Int32.toUInt32 x0 >>> (Int32.toUInt32 1 &&& Int32.toUInt32 31)).toInt32) &&& 1431655765)) &&& 858993459) + (((Int32.toUInt32 (x0 - (((Int32.toUInt32 x0 >>> (Int32.toUInt32 1 &&& Int32.toUInt32 31)).toInt32) &&& 1431655765)) >>> (Int32.toUInt32 2 &&& Int32.toUInt32 31)).toInt32) &&& 858993459)) + ((Int32.toUInt32 (((x0 - (((Int32.toUInt32 x0 >>> (Int32.toUInt32 1 &&& Int32.toUInt32 31)).toInt32) &&& 1431655765)) &&& 858993459) + (((Int32.toUInt32 (x0 - (((Int32.toUInt32 x0 >>> (Int32.toUInt32 1 &&& Int32.toUInt32 31)).toInt32) &&& 1431655765)) >>> (Int32.toUInt32 2 &&& Int32.toUInt32 31)).toInt32) &&& 858993459)) >>> (Int32.toUInt32 4 &&& Int32.toUInt32 31)).toInt32))) (pc1 := 29) at_242_28 rfl rfl ?_
  refine aw_ldcw (v := 252645135) (pc1 := 32) at_242_29 rfl rfl ?_
  refine aw_iand (v := (((((x0 - (((Int32.toUInt32 x0 >>> (Int32.toUInt32 1 &&& Int32.toUInt32 31)).toInt32) &&& 1431655765)) &&& 858993459) + (((Int32.toUInt32 (x0 - (((Int32.toUInt32 x0 >>> (Int32.toUInt32 1 &&& Int32.toUInt32 31)).toInt32) &&& 1431655765)) >>> (Int32.toUInt32 2 &&& Int32.toUInt32 31)).toInt32) &&& 858993459)) + ((Int32.toUInt32 (((x0 - (((Int32.toUInt32 x0 >>> (Int32.toUInt32 1 &&& Int32.toUInt32 31)).toInt32) &&& 1431655765)) &&& 858993459) + (((Int32.toUInt32 (x0 - (((Int32.toUInt32 x0 >>> (Int32.toUInt32 1 &&& Int32.toUInt32 31)).toInt32) &&& 1431655765)) >>> (Int32.toUInt32 2 &&& Int32.toUInt32 31)).toInt32) &&& 858993459)) >>> (Int32.toUInt32 4 &&& Int32.toUInt32 31)).toInt32)) &&& 252645135)) (pc1 := 33) at_242_32 rfl rfl ?_
  refine aw_istore_n (lv1 := am_put1 _ 0 _) (pc1 := 34) at_242_33 rfl rfl ?_
  refine aw_iload_n (pc1 := 35) at_242_34 am_lk0 rfl ?_
  refine aw_iload_n (pc1 := 36) at_242_35 am_lk0 rfl ?_
  refine aw_bipush (v := 8) (pc1 := 38) at_242_36 (by decide) rfl ?_
  refine aw_iushr (v := ((Int32.toUInt32 (((((x0 - (((Int32.toUInt32 x0 >>> (Int32.toUInt32 1 &&& Int32.toUInt32 31)).toInt32) &&& 1431655765)) &&& 858993459) + (((Int32.toUInt32 (x0 - (((Int32.toUInt32 x0 >>> (Int32.toUInt32 1 &&& Int32.toUInt32 31)).toInt32) &&& 1431655765)) >>> (Int32.toUInt32 2 &&& Int32.toUInt32 31)).toInt32) &&& 858993459)) + ((Int32.toUInt32 (((x0 - (((Int32.toUInt32 x0 >>> (Int32.toUInt32 1 &&& Int32.toUInt32 31)).toInt32) &&& 1431655765)) &&& 858993459) + (((Int32.toUInt32 (x0 - (((Int32.toUInt32 x0 >>> (Int32.toUInt32 1 &&& Int32.toUInt32 31)).toInt32) &&& 1431655765)) >>> (Int32.toUInt32 2 &&& Int32.toUInt32 31)).toInt32) &&& 858993459)) >>> (Int32.toUInt32 4 &&& Int32.toUInt32 31)).toInt32)) &&& 252645135) >>> (Int32.toUInt32 8 &&& Int32.toUInt32 31)).toInt32)) (pc1 := 39) at_242_38 rfl rfl ?_
  refine aw_iadd (v := ((((((x0 - (((Int32.toUInt32 x0 >>> (Int32.toUInt32 1 &&& Int32.toUInt32 31)).toInt32) &&& 1431655765)) &&& 858993459) + (((Int32.toUInt32 (x0 - (((Int32.toUInt32 x0 >>> (Int32.toUInt32 1 &&& Int32.toUInt32 31)).toInt32) &&& 1431655765)) >>> (Int32.toUInt32 2 &&& Int32.toUInt32 31)).toInt32) &&& 858993459)) + ((Int32.toUInt32 (((x0 - (((Int32.toUInt32 x0 >>> (Int32.toUInt32 1 &&& Int32.toUInt32 31)).toInt32) &&& 1431655765)) &&& 858993459) + (((Int32.toUInt32 (x0 - (((Int32.toUInt32 x0 >>> (Int32.toUInt32 1 &&& Int32.toUInt32 31)).toInt32) &&& 1431655765)) >>> (Int32.toUInt32 2 &&& Int32.toUInt32 31)).toInt32) &&& 858993459)) >>> (Int32.toUInt32 4 &&& Int32.toUInt32 31)).toInt32)) &&& 252645135) + ((Int32.toUInt32 (((((x0 - (((Int32.toUInt32 x0 >>> (Int32.toUInt32 1 &&& Int32.toUInt32 31)).toInt32) &&& 1431655765)) &&& 858993459) + (((Int32.toUInt32 (x0 - (((Int32.toUInt32 x0 >>> (Int32.toUInt32 1 &&& Int32.toUInt32 31)).toInt32) &&& 1431655765)) >>> (Int32.toUInt32 2 &&& Int32.toUInt32 31)).toInt32) &&& 858993459)) + ((Int32.toUInt32 (((x0 - (((Int32.toUInt32 x0 >>> (Int32.toUInt32 1 &&& Int32.toUInt32 31)).toInt32) &&& 1431655765)) &&& 858993459) + (((Int32.toUInt32 (x0 - (((Int32.toUInt32 x0 >>> (Int32.toUInt32 1 &&& Int32.toUInt32 31)).toInt32) &&& 1431655765)) >>> (Int32.toUInt32 2 &&& Int32.toUInt32 31)).toInt32) &&& 858993459)) >>> (Int32.toUInt32 4 &&& Int32.toUInt32 31)).toInt32)) &&& 252645135) >>> (Int32.toUInt32 8 &&& Int32.toUInt32 31)).toInt32))) (pc1 := 40) at_242_39 rfl rfl ?_
  refine aw_istore_n (lv1 := am_put1 _ 0 _) (pc1 := 41) at_242_40 rfl rfl ?_
  refine aw_iload_n (pc1 := 42) at_242_41 am_lk0 rfl ?_
  refine aw_iload_n (pc1 := 43) at_242_42 am_lk0 rfl ?_
  refine aw_bipush (v := 16) (pc1 := 45) at_242_43 (by decide) rfl ?_
  refine aw_iushr (v := ((Int32.toUInt32 ((((((x0 - (((Int32.toUInt32 x0 >>> (Int32.toUInt32 1 &&& Int32.toUInt32 31)).toInt32) &&& 1431655765)) &&& 858993459) + (((Int32.toUInt32 (x0 - (((Int32.toUInt32 x0 >>> (Int32.toUInt32 1 &&& Int32.toUInt32 31)).toInt32) &&& 1431655765)) >>> (Int32.toUInt32 2 &&& Int32.toUInt32 31)).toInt32) &&& 858993459)) + ((Int32.toUInt32 (((x0 - (((Int32.toUInt32 x0 >>> (Int32.toUInt32 1 &&& Int32.toUInt32 31)).toInt32) &&& 1431655765)) &&& 858993459) + (((Int32.toUInt32 (x0 - (((Int32.toUInt32 x0 >>> (Int32.toUInt32 1 &&& Int32.toUInt32 31)).toInt32) &&& 1431655765)) >>> (Int32.toUInt32 2 &&& Int32.toUInt32 31)).toInt32) &&& 858993459)) >>> (Int32.toUInt32 4 &&& Int32.toUInt32 31)).toInt32)) &&& 252645135) + ((Int32.toUInt32 (((((x0 - (((Int32.toUInt32 x0 >>> (Int32.toUInt32 1 &&& Int32.toUInt32 31)).toInt32) &&& 1431655765)) &&& 858993459) + (((Int32.toUInt32 (x0 - (((Int32.toUInt32 x0 >>> (Int32.toUInt32 1 &&& Int32.toUInt32 31)).toInt32) &&& 1431655765)) >>> (Int32.toUInt32 2 &&& Int32.toUInt32 31)).toInt32) &&& 858993459)) + ((Int32.toUInt32 (((x0 - (((Int32.toUInt32 x0 >>> (Int32.toUInt32 1 &&& Int32.toUInt32 31)).toInt32) &&& 1431655765)) &&& 858993459) + (((Int32.toUInt32 (x0 - (((Int32.toUInt32 x0 >>> (Int32.toUInt32 1 &&& Int32.toUInt32 31)).toInt32) &&& 1431655765)) >>> (Int32.toUInt32 2 &&& Int32.toUInt32 31)).toInt32) &&& 858993459)) >>> (Int32.toUInt32 4 &&& Int32.toUInt32 31)).toInt32)) &&& 252645135) >>> (Int32.toUInt32 8 &&& Int32.toUInt32 31)).toInt32)) >>> (Int32.toUInt32 16 &&& Int32.toUInt32 31)).toInt32)) (pc1 := 46) at_242_45 rfl rfl ?_
  refine aw_iadd (v := (((((((x0 - (((Int32.toUInt32 x0 >>> (Int32.toUInt32 1 &&& Int32.toUInt32 31)).toInt32) &&& 1431655765)) &&& 858993459) + (((Int32.toUInt32 (x0 - (((Int32.toUInt32 x0 >>> (Int32.toUInt32 1 &&& Int32.toUInt32 31)).toInt32) &&& 1431655765)) >>> (Int32.toUInt32 2 &&& Int32.toUInt32 31)).toInt32) &&& 858993459)) + ((Int32.toUInt32 (((x0 - (((Int32.toUInt32 x0 >>> (Int32.toUInt32 1 &&& Int32.toUInt32 31)).toInt32) &&& 1431655765)) &&& 858993459) + (((Int32.toUInt32 (x0 - (((Int32.toUInt32 x0 >>> (Int32.toUInt32 1 &&& Int32.toUInt32 31)).toInt32) &&& 1431655765)) >>> (Int32.toUInt32 2 &&& Int32.toUInt32 31)).toInt32) &&& 858993459)) >>> (Int32.toUInt32 4 &&& Int32.toUInt32 31)).toInt32)) &&& 252645135) + ((Int32.toUInt32 (((((x0 - (((Int32.toUInt32 x0 >>> (Int32.toUInt32 1 &&& Int32.toUInt32 31)).toInt32) &&& 1431655765)) &&& 858993459) + (((Int32.toUInt32 (x0 - (((Int32.toUInt32 x0 >>> (Int32.toUInt32 1 &&& Int32.toUInt32 31)).toInt32) &&& 1431655765)) >>> (Int32.toUInt32 2 &&& Int32.toUInt32 31)).toInt32) &&& 858993459)) + ((Int32.toUInt32 (((x0 - (((Int32.toUInt32 x0 >>> (Int32.toUInt32 1 &&& Int32.toUInt32 31)).toInt32) &&& 1431655765)) &&& 858993459) + (((Int32.toUInt32 (x0 - (((Int32.toUInt32 x0 >>> (Int32.toUInt32 1 &&& Int32.toUInt32 31)).toInt32) &&& 1431655765)) >>> (Int32.toUInt32 2 &&& Int32.toUInt32 31)).toInt32) &&& 858993459)) >>> (Int32.toUInt32 4 &&& Int32.toUInt32 31)).toInt32)) &&& 252645135) >>> (Int32.toUInt32 8 &&& Int32.toUInt32 31)).toInt32)) + ((Int32.toUInt32 ((((((x0 - (((Int32.toUInt32 x0 >>> (Int32.toUInt32 1 &&& Int32.toUInt32 31)).toInt32) &&& 1431655765)) &&& 858993459) + (((Int32.toUInt32 (x0 - (((Int32.toUInt32 x0 >>> (Int32.toUInt32 1 &&& Int32.toUInt32 31)).toInt32) &&& 1431655765)) >>> (Int32.toUInt32 2 &&& Int32.toUInt32 31)).toInt32) &&& 858993459)) + ((Int32.toUInt32 (((x0 - (((Int32.toUInt32 x0 >>> (Int32.toUInt32 1 &&& Int32.toUInt32 31)).toInt32) &&& 1431655765)) &&& 858993459) + (((Int32.toUInt32 (x0 - (((Int32.toUInt32 x0 >>> (Int32.toUInt32 1 &&& Int32.toUInt32 31)).toInt32) &&& 1431655765)) >>> (Int32.toUInt32 2 &&& Int32.toUInt32 31)).toInt32) &&& 858993459)) >>> (Int32.toUInt32 4 &&& Int32.toUInt32 31)).toInt32)) &&& 252645135) + ((Int32.toUInt32 (((((x0 - (((Int32.toUInt32 x0 >>> (Int32.toUInt32 1 &&& Int32.toUInt32 31)).toInt32) &&& 1431655765)) &&& 858993459) + (((Int32.toUInt32 (x0 - (((Int32.toUInt32 x0 >>> (Int32.toUInt32 1 &&& Int32.toUInt32 31)).toInt32) &&& 1431655765)) >>> (Int32.toUInt32 2 &&& Int32.toUInt32 31)).toInt32) &&& 858993459)) + ((Int32.toUInt32 (((x0 - (((Int32.toUInt32 x0 >>> (Int32.toUInt32 1 &&& Int32.toUInt32 31)).toInt32) &&& 1431655765)) &&& 858993459) + (((Int32.toUInt32 (x0 - (((Int32.toUInt32 x0 >>> (Int32.toUInt32 1 &&& Int32.toUInt32 31)).toInt32) &&& 1431655765)) >>> (Int32.toUInt32 2 &&& Int32.toUInt32 31)).toInt32) &&& 858993459)) >>> (Int32.toUInt32 4 &&& Int32.toUInt32 31)).toInt32)) &&& 252645135) >>> (Int32.toUInt32 8 &&& Int32.toUInt32 31)).toInt32)) >>> (Int32.toUInt32 16 &&& Int32.toUInt32 31)).toInt32))) (pc1 := 47) at_242_46 rfl rfl ?_
  refine aw_istore_n (lv1 := am_put1 _ 0 _) (pc1 := 48) at_242_47 rfl rfl ?_
  refine aw_iload_n (pc1 := 49) at_242_48 am_lk0 rfl ?_
  refine aw_bipush (v := 63) (pc1 := 51) at_242_49 (by decide) rfl ?_
  refine aw_iand (v := ((((((((x0 - (((Int32.toUInt32 x0 >>> (Int32.toUInt32 1 &&& Int32.toUInt32 31)).toInt32) &&& 1431655765)) &&& 858993459) + (((Int32.toUInt32 (x0 - (((Int32.toUInt32 x0 >>> (Int32.toUInt32 1 &&& Int32.toUInt32 31)).toInt32) &&& 1431655765)) >>> (Int32.toUInt32 2 &&& Int32.toUInt32 31)).toInt32) &&& 858993459)) + ((Int32.toUInt32 (((x0 - (((Int32.toUInt32 x0 >>> (Int32.toUInt32 1 &&& Int32.toUInt32 31)).toInt32) &&& 1431655765)) &&& 858993459) + (((Int32.toUInt32 (x0 - (((Int32.toUInt32 x0 >>> (Int32.toUInt32 1 &&& Int32.toUInt32 31)).toInt32) &&& 1431655765)) >>> (Int32.toUInt32 2 &&& Int32.toUInt32 31)).toInt32) &&& 858993459)) >>> (Int32.toUInt32 4 &&& Int32.toUInt32 31)).toInt32)) &&& 252645135) + ((Int32.toUInt32 (((((x0 - (((Int32.toUInt32 x0 >>> (Int32.toUInt32 1 &&& Int32.toUInt32 31)).toInt32) &&& 1431655765)) &&& 858993459) + (((Int32.toUInt32 (x0 - (((Int32.toUInt32 x0 >>> (Int32.toUInt32 1 &&& Int32.toUInt32 31)).toInt32) &&& 1431655765)) >>> (Int32.toUInt32 2 &&& Int32.toUInt32 31)).toInt32) &&& 858993459)) + ((Int32.toUInt32 (((x0 - (((Int32.toUInt32 x0 >>> (Int32.toUInt32 1 &&& Int32.toUInt32 31)).toInt32) &&& 1431655765)) &&& 858993459) + (((Int32.toUInt32 (x0 - (((Int32.toUInt32 x0 >>> (Int32.toUInt32 1 &&& Int32.toUInt32 31)).toInt32) &&& 1431655765)) >>> (Int32.toUInt32 2 &&& Int32.toUInt32 31)).toInt32) &&& 858993459)) >>> (Int32.toUInt32 4 &&& Int32.toUInt32 31)).toInt32)) &&& 252645135) >>> (Int32.toUInt32 8 &&& Int32.toUInt32 31)).toInt32)) + ((Int32.toUInt32 ((((((x0 - (((Int32.toUInt32 x0 >>> (Int32.toUInt32 1 &&& Int32.toUInt32 31)).toInt32) &&& 1431655765)) &&& 858993459) + (((Int32.toUInt32 (x0 - (((Int32.toUInt32 x0 >>> (Int32.toUInt32 1 &&& Int32.toUInt32 31)).toInt32) &&& 1431655765)) >>> (Int32.toUInt32 2 &&& Int32.toUInt32 31)).toInt32) &&& 858993459)) + ((Int32.toUInt32 (((x0 - (((Int32.toUInt32 x0 >>> (Int32.toUInt32 1 &&& Int32.toUInt32 31)).toInt32) &&& 1431655765)) &&& 858993459) + (((Int32.toUInt32 (x0 - (((Int32.toUInt32 x0 >>> (Int32.toUInt32 1 &&& Int32.toUInt32 31)).toInt32) &&& 1431655765)) >>> (Int32.toUInt32 2 &&& Int32.toUInt32 31)).toInt32) &&& 858993459)) >>> (Int32.toUInt32 4 &&& Int32.toUInt32 31)).toInt32)) &&& 252645135) + ((Int32.toUInt32 (((((x0 - (((Int32.toUInt32 x0 >>> (Int32.toUInt32 1 &&& Int32.toUInt32 31)).toInt32) &&& 1431655765)) &&& 858993459) + (((Int32.toUInt32 (x0 - (((Int32.toUInt32 x0 >>> (Int32.toUInt32 1 &&& Int32.toUInt32 31)).toInt32) &&& 1431655765)) >>> (Int32.toUInt32 2 &&& Int32.toUInt32 31)).toInt32) &&& 858993459)) + ((Int32.toUInt32 (((x0 - (((Int32.toUInt32 x0 >>> (Int32.toUInt32 1 &&& Int32.toUInt32 31)).toInt32) &&& 1431655765)) &&& 858993459) + (((Int32.toUInt32 (x0 - (((Int32.toUInt32 x0 >>> (Int32.toUInt32 1 &&& Int32.toUInt32 31)).toInt32) &&& 1431655765)) >>> (Int32.toUInt32 2 &&& Int32.toUInt32 31)).toInt32) &&& 858993459)) >>> (Int32.toUInt32 4 &&& Int32.toUInt32 31)).toInt32)) &&& 252645135) >>> (Int32.toUInt32 8 &&& Int32.toUInt32 31)).toInt32)) >>> (Int32.toUInt32 16 &&& Int32.toUInt32 31)).toInt32)) &&& 63)) (pc1 := 52) at_242_51 rfl rfl ?_
  cases hs
  exact aw_iret at_242_52 (by rw [rt_242]; rfl) rfl
def fm_242 (y0 : Int32) (h : am_H) : Option am_O := fg_242_0 y0 h
theorem rm_242 {X : am_X} {d : Nat} (y0 : Int32) (h : am_H) (o : am_O) (hs : fm_242 y0 h = some o) : am_W X (d) 242 0 (am_args 0 [.int y0]) [] h (fun q => q = o) := by
  rw [am_args_I]
  exact rg_242_0 y0 h o rfl  hs
def fg_243_4 (N : Nat) : Nat → Int32 → Int32 → Int32 → am_H → Option am_O
  | 0 => fun _ _ _ _ => none
  | K + 1 => fun x0 x1 x2 h => (if x0 < x2 then some (.inl (some (.int x1), h)) else (fg_243_4 N K x0 ((x1 * x2)) ((x2 + 1)) h))
theorem rg_243_4 {X : am_X} {d : Nat} {N : Nat} : ∀ (K : Nat) (x0 : Int32) (x1 : Int32) (x2 : Int32) (h : am_H) (o : am_O), fg_243_4 N K x0 x1 x2 h = some o → ∀ lv : am_LV, (lv.lookup 0 = some (.int x0)) → (lv.lookup 1 = some (.int x1)) → (lv.lookup 2 = some (.int x2)) → am_W X (d) 243 4 lv [] h (fun q => q = o) := by
  intro K
  induction K with
  | zero => intro x0 x1 x2 h o hs; cases hs
  | succ K ih =>
    intro x0 x1 x2 h o hs lv l0 l1 l2
    unfold fg_243_4 at hs
    refine aw_iload_n (pc1 := 5) at_243_4 l2 rfl ?_
    refine aw_iload_n (pc1 := 6) at_243_5 l0 rfl ?_
    by_cases c1 : x0 < x2
    · rw [if_pos c1] at hs
      refine aw_icgt_t at_243_6 c1 ?_
      refine aw_iload_n (pc1 := 20) at_243_19 l1 rfl ?_
      cases hs
      exact aw_iret at_243_20 (by rw [rt_243]; rfl) rfl
    · rw [if_neg c1] at hs
      refine aw_icgt_f (pc1 := 9) at_243_6 c1 rfl ?_
      refine aw_iload_n (pc1 := 10) at_243_9 l1 rfl ?_
      refine aw_iload_n (pc1 := 11) at_243_10 l2 rfl ?_
      refine aw_imul (v := (x1 * x2)) (pc1 := 12) at_243_11 rfl rfl ?_
      refine aw_istore_n (lv1 := am_put1 _ 1 _) (pc1 := 13) at_243_12 rfl rfl ?_
      refine aw_iinc (v := (x2 + 1)) (c := 1) (lv1 := am_put1 _ 2 _) (pc1 := 16) at_243_13 (am_lk1 l2 rfl rfl) (by decide) rfl rfl rfl ?_
      refine aw_goto at_243_16 ?_
      exact ih x0 ((x1 * x2)) ((x2 + 1)) h o hs _ (am_lk1 (am_lk1 l0 rfl rfl) rfl rfl) (am_lk1 am_lk0 rfl rfl) am_lk0 
def fg_243_0 (N : Nat) (x0 : Int32) (h : am_H) : Option am_O := (fg_243_4 N N x0 1 2 h)
theorem rg_243_0 {X : am_X} {d : Nat} {N : Nat} {lv : am_LV} (x0 : Int32) (h : am_H) (o : am_O) (l0 : lv.lookup 0 = some (.int x0)) (hs : fg_243_0 N x0 h = some o) : am_W X (d) 243 0 lv [] h (fun q => q = o) := by
  unfold fg_243_0 at hs
  refine aw_iconst (v := 1) (pc1 := 1) at_243_0 (by decide) rfl ?_
  refine aw_istore_n (lv1 := am_put1 _ 1 _) (pc1 := 2) at_243_1 rfl rfl ?_
  refine aw_iconst (v := 2) (pc1 := 3) at_243_2 (by decide) rfl ?_
  refine aw_istore_n (lv1 := am_put1 _ 2 _) (pc1 := 4) at_243_3 rfl rfl ?_
  exact rg_243_4 N x0 1 2 h o hs _ (am_lk1 (am_lk1 l0 rfl rfl) rfl rfl) (am_lk1 am_lk0 rfl rfl) am_lk0 
def fm_243 (N : Nat) (y0 : Int32) (h : am_H) : Option am_O := fg_243_0 N y0 h
theorem rm_243 {X : am_X} {d : Nat} {N : Nat} (y0 : Int32) (h : am_H) (o : am_O) (hs : fm_243 N y0 h = some o) : am_W X (d) 243 0 (am_args 0 [.int y0]) [] h (fun q => q = o) := by
  rw [am_args_I]
  exact rg_243_0 y0 h o rfl  hs
def fg_241_91 (N : Nat) (rc_241 : Value → Int32 → Int32 → Int32 → am_H → Option am_O) (rec_49 : Value → Int32 → Int32 → Int32 → Int32 → Int32 → am_H → Option am_O) (x0 : Value) (x1 : Int32) (x2 : Int32) (x3 : Int32) (x4 : Int32) (x5 : Int32) (h : am_H) : Option am_O := (rec_49 x0 x1 x2 x3 x4 ((x5 + 1)) h)
theorem rg_241_91 {X : am_X} {d : Nat} {N : Nat} {rc_241 : Value → Int32 → Int32 → Int32 → am_H → Option am_O} {rec_49 : Value → Int32 → Int32 → Int32 → Int32 → Int32 → am_H → Option am_O} (q_49 : ∀ (x0 : Value) (x1 : Int32) (x2 : Int32) (x3 : Int32) (x4 : Int32) (x5 : Int32) (h : am_H) (o : am_O), rec_49 x0 x1 x2 x3 x4 x5 h = some o → ∀ lv : am_LV, (lv.lookup 0 = some x0) → (lv.lookup 1 = some (.int x1)) → (lv.lookup 2 = some (.int x2)) → (lv.lookup 3 = some (.int x3)) → (lv.lookup 4 = some (.int x4)) → (lv.lookup 5 = some (.int x5)) → (am_isR x0 = true) → am_W X (d + 2) 241 49 lv [] h (fun q => q = o)) (qc_241 : ∀ (y0 : Value) (y1 : Int32) (y2 : Int32) (y3 : Int32) (h : am_H) (o : am_O), (am_isR y0 = true) → rc_241 y0 y1 y2 y3 h = some o → am_W X (d + 1) 241 0 (am_args 0 [y0, .int y1, .int y2, .int y3]) [] h (fun q => q = o)) {lv : am_LV} (x0 : Value) (x1 : Int32) (x2 : Int32) (x3 : Int32) (x4 : Int32) (x5 : Int32) (h : am_H) (o : am_O) (l0 : lv.lookup 0 = some x0) (l1 : lv.lookup 1 = some (.int x1)) (l2 : lv.lookup 2 = some (.int x2)) (l3 : lv.lookup 3 = some (.int x3)) (l4 : lv.lookup 4 = some (.int x4)) (l5 : lv.lookup 5 = some (.int x5)) (i0 : am_isR x0 = true) (hs : fg_241_91 N rc_241 rec_49 x0 x1 x2 x3 x4 x5 h = some o) : am_W X (d + 2) 241 91 lv [] h (fun q => q = o) := by
  unfold fg_241_91 at hs
  refine aw_iinc (v := (x5 + 1)) (c := 1) (lv1 := am_put1 _ 5 _) (pc1 := 94) at_241_91 l5 (by decide) rfl rfl rfl ?_
  refine aw_goto at_241_94 ?_
  exact q_49 x0 x1 x2 x3 x4 ((x5 + 1)) h o hs _ (am_lk1 l0 rfl rfl) (am_lk1 l1 rfl rfl) (am_lk1 l2 rfl rfl) (am_lk1 l3 rfl rfl) (am_lk1 l4 rfl rfl) am_lk0 i0
def fg_241_49 (N : Nat) (rc_241 : Value → Int32 → Int32 → Int32 → am_H → Option am_O) : Nat → Value → Int32 → Int32 → Int32 → Int32 → Int32 → am_H → Option am_O
  | 0 => fun _ _ _ _ _ _ _ => none
  | K + 1 => fun x0 x1 x2 x3 x4 x5 h => (if 6 ≤ x5 then some (.inl (some (.int x4), h)) else (if ¬ ((x2 >>> (x5 &&& 31)) &&& 1) = 1 then (fg_241_91 N rc_241 (fg_241_49 N rc_241 K) x0 x1 x2 x3 x4 x5 h) else (if am_pOk 1 x0 h then am_cI true (fm_225 N x0 x1 x5 h) (fun v4 h5 => (if am_pOk 1 x0 h5 then am_cI true (rc_241 x0 v4 ((x2 &&& ((1 <<< (x5 &&& 31)) ^^^ (-1)))) x3 h5) (fun v8 h9 => (fg_241_91 N rc_241 (fg_241_49 N rc_241 K) x0 x1 x2 x3 ((x4 + v8)) x5 h9)) else none)) else none)))
theorem rg_241_49 {X : am_X} {d : Nat} {N : Nat} {rc_241 : Value → Int32 → Int32 → Int32 → am_H → Option am_O} (qc_241 : ∀ (y0 : Value) (y1 : Int32) (y2 : Int32) (y3 : Int32) (h : am_H) (o : am_O), (am_isR y0 = true) → rc_241 y0 y1 y2 y3 h = some o → am_W X (d + 1) 241 0 (am_args 0 [y0, .int y1, .int y2, .int y3]) [] h (fun q => q = o)) : ∀ (K : Nat) (x0 : Value) (x1 : Int32) (x2 : Int32) (x3 : Int32) (x4 : Int32) (x5 : Int32) (h : am_H) (o : am_O), fg_241_49 N rc_241 K x0 x1 x2 x3 x4 x5 h = some o → ∀ lv : am_LV, (lv.lookup 0 = some x0) → (lv.lookup 1 = some (.int x1)) → (lv.lookup 2 = some (.int x2)) → (lv.lookup 3 = some (.int x3)) → (lv.lookup 4 = some (.int x4)) → (lv.lookup 5 = some (.int x5)) → (am_isR x0 = true) → am_W X (d + 2) 241 49 lv [] h (fun q => q = o) := by
  intro K
  induction K with
  | zero => intro x0 x1 x2 x3 x4 x5 h o hs; cases hs
  | succ K ih =>
    intro x0 x1 x2 x3 x4 x5 h o hs lv l0 l1 l2 l3 l4 l5 i0
    unfold fg_241_49 at hs
    refine aw_iload (pc1 := 51) at_241_49 l5 rfl ?_
    refine aw_bipush (v := 6) (pc1 := 53) at_241_51 (by decide) rfl ?_
    by_cases c1 : 6 ≤ x5
    · rw [if_pos c1] at hs
      refine aw_icge_t at_241_53 c1 ?_
      refine aw_iload (pc1 := 99) at_241_97 l4 rfl ?_
      cases hs
      exact aw_iret at_241_99 (by rw [rt_241]; rfl) rfl
    · rw [if_neg c1] at hs
      refine aw_icge_f (pc1 := 56) at_241_53 c1 rfl ?_
      refine aw_iload_n (pc1 := 57) at_241_56 l2 rfl ?_
      refine aw_iload (pc1 := 59) at_241_57 l5 rfl ?_
      refine aw_ishr (v := (x2 >>> (x5 &&& 31))) (pc1 := 60) at_241_59 rfl rfl ?_
      refine aw_iconst (v := 1) (pc1 := 61) at_241_60 (by decide) rfl ?_
      refine aw_iand (v := ((x2 >>> (x5 &&& 31)) &&& 1)) (pc1 := 62) at_241_61 rfl rfl ?_
      refine aw_iconst (v := 1) (pc1 := 63) at_241_62 (by decide) rfl ?_
      by_cases c2 : ¬ ((x2 >>> (x5 &&& 31)) &&& 1) = 1
      · rw [if_pos c2] at hs
        refine aw_icne_t at_241_63 c2 ?_
        exact rg_241_91 (fun z0 z1 z2 z3 z4 z5 h o hs => ih z0 z1 z2 z3 z4 z5 h o hs) qc_241 x0 x1 x2 x3 x4 x5 h o l0 l1 l2 l3 l4 l5 i0 hs
      · rw [if_neg c2] at hs
        refine aw_icne_f (pc1 := 66) at_241_63 c2 rfl ?_
        refine aw_iload (pc1 := 68) at_241_66 l4 rfl ?_
        refine aw_vload_n (pc1 := 69) at_241_68 l0 i0 rfl ?_
        refine aw_vload_n (pc1 := 70) at_241_69 l0 i0 rfl ?_
        refine aw_iload_n (pc1 := 71) at_241_70 l1 rfl ?_
        refine aw_iload (pc1 := 73) at_241_71 l5 rfl ?_
        obtain ⟨z3, hs1⟩ := am_ift hs
        clear hs
        refine aw_call (F := fm_225 N x0 x1 x5 h) (t := true) (na := 3) (kd := 1) (as := [x0, (.int x1), (.int x5)]) at_241_73 (am_k3v kb_225) mn_225 mk_225 rfl rfl (am_ok_v mi_225 (am_hl rfl (am_ccR i0 (am_ccI (am_ccI am_cats_0))) rfl) z3) (am_hc (am_ccR i0 (am_ccI am_cats_0)) rfl) (fun _ => ⟨rfl, hh_241⟩) (fun o1 hz9 => rm_225 x0 x1 x5 h o1 i0 hz9) ?_
        rcases am_cI_s hs1 with ⟨v4, h5, f6, hs2⟩ | hs2
        · clear hs1
          refine Or.inl ⟨_, _, f6, ?_⟩
          show am_W X _ 241 76 _ [(.int v4), x0, (.int x4)] h5 _
          refine aw_iload_n (pc1 := 77) at_241_76 l2 rfl ?_
          refine aw_iconst (v := 1) (pc1 := 78) at_241_77 (by decide) rfl ?_
          refine aw_iload (pc1 := 80) at_241_78 l5 rfl ?_
          refine aw_ishl (v := (1 <<< (x5 &&& 31))) (pc1 := 81) at_241_80 rfl rfl ?_
          refine aw_iconst (v := (-1)) (pc1 := 82) at_241_81 (by decide) rfl ?_
          refine aw_ixor (v := ((1 <<< (x5 &&& 31)) ^^^ (-1))) (pc1 := 83) at_241_82 rfl rfl ?_
          refine aw_iand (v := (x2 &&& ((1 <<< (x5 &&& 31)) ^^^ (-1)))) (pc1 := 84) at_241_83 rfl rfl ?_
          refine aw_iload_n (pc1 := 85) at_241_84 l3 rfl ?_
          obtain ⟨z7, hs3⟩ := am_ift hs2
          clear hs2
          refine aw_call (F := rc_241 x0 v4 ((x2 &&& ((1 <<< (x5 &&& 31)) ^^^ (-1)))) x3 h5) (t := true) (na := 4) (kd := 1) (as := [x0, (.int v4), (.int (x2 &&& ((1 <<< (x5 &&& 31)) ^^^ (-1)))), (.int x3)]) at_241_85 (am_k3v kb_241) mn_241 mk_241 rfl rfl (am_ok_v mi_241 (am_hl rfl (am_ccR i0 (am_ccI (am_ccI (am_ccI am_cats_0)))) rfl) z7) (am_hc (am_ccI am_cats_0) rfl) (fun _ => ⟨rfl, hh_241⟩) (fun o1 hz9 => qc_241 x0 v4 ((x2 &&& ((1 <<< (x5 &&& 31)) ^^^ (-1)))) x3 h5 o1 i0 hz9) ?_
          rcases am_cI_s hs3 with ⟨v8, h9, f10, hs4⟩ | hs4
          · clear hs3
            refine Or.inl ⟨_, _, f10, ?_⟩
            show am_W X _ 241 88 _ [(.int v8), (.int x4)] h9 _
            refine aw_iadd (v := (x4 + v8)) (pc1 := 89) at_241_88 rfl rfl ?_
            refine aw_istore (lv1 := am_put1 _ 4 _) (pc1 := 91) at_241_89 rfl rfl ?_
            exact rg_241_91 (fun z0 z1 z2 z3 z4 z5 h o hs4 => ih z0 z1 z2 z3 z4 z5 h o hs4) qc_241 x0 x1 x2 x3 ((x4 + v8)) x5 h9 o (am_lk1 l0 rfl rfl) (am_lk1 l1 rfl rfl) (am_lk1 l2 rfl rfl) (am_lk1 l3 rfl rfl) am_lk0 (am_lk1 l5 rfl rfl) i0 hs4
          · clear hs3
            exact Or.inr hs4
        · clear hs1
          exact Or.inr hs2
def fg_241_42 (N : Nat) (rc_241 : Value → Int32 → Int32 → Int32 → am_H → Option am_O) (s0 : Int32) (h : am_H) : Option am_O := some (.inl (some (.int s0), h))
theorem rg_241_42 {X : am_X} {d : Nat} {N : Nat} {rc_241 : Value → Int32 → Int32 → Int32 → am_H → Option am_O} (qc_241 : ∀ (y0 : Value) (y1 : Int32) (y2 : Int32) (y3 : Int32) (h : am_H) (o : am_O), (am_isR y0 = true) → rc_241 y0 y1 y2 y3 h = some o → am_W X (d + 1) 241 0 (am_args 0 [y0, .int y1, .int y2, .int y3]) [] h (fun q => q = o)) {lv : am_LV} (s0 : Int32) (h : am_H) (o : am_O) (hs : fg_241_42 N rc_241 s0 h = some o) : am_W X (d + 2) 241 42 lv [(.int s0)] h (fun q => q = o) := by
  unfold fg_241_42 at hs
  cases hs
  exact aw_iret at_241_42 (by rw [rt_241]; rfl) rfl
def fg_241_22 (N : Nat) (rc_241 : Value → Int32 → Int32 → Int32 → am_H → Option am_O) (x0 : Value) (x1 : Int32) (x2 : Int32) (x3 : Int32) (h : am_H) : Option am_O := (if am_pOk 1 x0 h then am_cI true (fm_226 N x0 x1 h) (fun v2 h3 => (if ¬ v2 = x3 then (fg_241_42 N rc_241 0 h3) else am_cI false (fm_242 x2 h3) (fun v6 h7 => am_cI false (fm_243 N v6 h7) (fun v9 h10 => (fg_241_42 N rc_241 v9 h10))))) else none)
theorem rg_241_22 {X : am_X} {d : Nat} {N : Nat} {rc_241 : Value → Int32 → Int32 → Int32 → am_H → Option am_O} (qc_241 : ∀ (y0 : Value) (y1 : Int32) (y2 : Int32) (y3 : Int32) (h : am_H) (o : am_O), (am_isR y0 = true) → rc_241 y0 y1 y2 y3 h = some o → am_W X (d + 1) 241 0 (am_args 0 [y0, .int y1, .int y2, .int y3]) [] h (fun q => q = o)) {lv : am_LV} (x0 : Value) (x1 : Int32) (x2 : Int32) (x3 : Int32) (h : am_H) (o : am_O) (l0 : lv.lookup 0 = some x0) (l1 : lv.lookup 1 = some (.int x1)) (l2 : lv.lookup 2 = some (.int x2)) (l3 : lv.lookup 3 = some (.int x3)) (i0 : am_isR x0 = true) (hs : fg_241_22 N rc_241 x0 x1 x2 x3 h = some o) : am_W X (d + 2) 241 22 lv [] h (fun q => q = o) := by
  unfold fg_241_22 at hs
  refine aw_vload_n (pc1 := 23) at_241_22 l0 i0 rfl ?_
  refine aw_iload_n (pc1 := 24) at_241_23 l1 rfl ?_
  obtain ⟨z1, hs1⟩ := am_ift hs
  clear hs
  refine aw_call (F := fm_226 N x0 x1 h) (t := true) (na := 2) (kd := 1) (as := [x0, (.int x1)]) at_241_24 (am_k3v kb_226) mn_226 mk_226 rfl rfl (am_ok_v mi_226 (am_hl rfl (am_ccR i0 (am_ccI am_cats_0)) rfl) z1) (am_hc am_cats_0 rfl) (fun _ => ⟨rfl, hh_241⟩) (fun o1 hz9 => rm_226 x0 x1 h o1 i0 hz9) ?_
  rcases am_cI_s hs1 with ⟨v2, h3, f4, hs2⟩ | hs2
  · clear hs1
    refine Or.inl ⟨_, _, f4, ?_⟩
    show am_W X _ 241 27 _ [(.int v2)] h3 _
    refine aw_iload_n (pc1 := 28) at_241_27 l3 rfl ?_
    by_cases c5 : ¬ v2 = x3
    · rw [if_pos c5] at hs2
      refine aw_icne_t at_241_28 c5 ?_
      refine aw_iconst (v := 0) (pc1 := 42) at_241_41 (by decide) rfl ?_
      exact rg_241_42 qc_241 0 h3 o   hs2
    · rw [if_neg c5] at hs2
      refine aw_icne_f (pc1 := 31) at_241_28 c5 rfl ?_
      refine aw_iload_n (pc1 := 32) at_241_31 l2 rfl ?_
      refine aw_call (F := fm_242 x2 h3) (t := false) (na := 1) (kd := 0) (as := [(.int x2)]) at_241_32 (am_k3s kb_242) mn_242 mk_242 rfl rfl (am_ok_s mi_242 (am_hl rfl (am_ccI am_cats_0) rfl)) (am_hc am_cats_0 rfl) (fun hz9 => by cases hz9) (fun o1 hz9 => rm_242 x2 h3 o1  hz9) ?_
      rcases am_cI_s hs2 with ⟨v6, h7, f8, hs3⟩ | hs3
      · clear hs2
        refine Or.inl ⟨_, _, f8, ?_⟩
        show am_W X _ 241 35 _ [(.int v6)] h7 _
        refine aw_call (F := fm_243 N v6 h7) (t := false) (na := 1) (kd := 0) (as := [(.int v6)]) at_241_35 (am_k3s kb_243) mn_243 mk_243 rfl rfl (am_ok_s mi_243 (am_hl rfl (am_ccI am_cats_0) rfl)) (am_hc am_cats_0 rfl) (fun hz9 => by cases hz9) (fun o1 hz9 => rm_243 v6 h7 o1  hz9) ?_
        rcases am_cI_s hs3 with ⟨v9, h10, f11, hs4⟩ | hs4
        · clear hs3
          refine Or.inl ⟨_, _, f11, ?_⟩
          show am_W X _ 241 38 _ [(.int v9)] h10 _
          refine aw_goto at_241_38 ?_
          exact rg_241_42 qc_241 v9 h10 o   hs4
        · clear hs3
          exact Or.inr hs4
      · clear hs2
        exact Or.inr hs3
  · clear hs1
    exact Or.inr hs2
def fg_241_0 (N : Nat) (rc_241 : Value → Int32 → Int32 → Int32 → am_H → Option am_O) (x0 : Value) (x1 : Int32) (x2 : Int32) (x3 : Int32) (h : am_H) : Option am_O := (if ¬ ((x1 >>> (x3 &&& 31)) &&& 1) = 0 then (if x2 = 0 then (fg_241_22 N rc_241 x0 x1 x2 x3 h) else am_cI false (fm_242 x1 h) (fun v3 h4 => (if ¬ v3 = 1 then (fg_241_49 N rc_241 N x0 x1 x2 x3 0 0 h4) else (fg_241_22 N rc_241 x0 x1 x2 x3 h4)))) else some (.inl (some (.int 0), h)))
theorem rg_241_0 {X : am_X} {d : Nat} {N : Nat} {rc_241 : Value → Int32 → Int32 → Int32 → am_H → Option am_O} (qc_241 : ∀ (y0 : Value) (y1 : Int32) (y2 : Int32) (y3 : Int32) (h : am_H) (o : am_O), (am_isR y0 = true) → rc_241 y0 y1 y2 y3 h = some o → am_W X (d + 1) 241 0 (am_args 0 [y0, .int y1, .int y2, .int y3]) [] h (fun q => q = o)) {lv : am_LV} (x0 : Value) (x1 : Int32) (x2 : Int32) (x3 : Int32) (h : am_H) (o : am_O) (l0 : lv.lookup 0 = some x0) (l1 : lv.lookup 1 = some (.int x1)) (l2 : lv.lookup 2 = some (.int x2)) (l3 : lv.lookup 3 = some (.int x3)) (i0 : am_isR x0 = true) (hs : fg_241_0 N rc_241 x0 x1 x2 x3 h = some o) : am_W X (d + 2) 241 0 lv [] h (fun q => q = o) := by
  unfold fg_241_0 at hs
  refine aw_iload_n (pc1 := 1) at_241_0 l1 rfl ?_
  refine aw_iload_n (pc1 := 2) at_241_1 l3 rfl ?_
  refine aw_ishr (v := (x1 >>> (x3 &&& 31))) (pc1 := 3) at_241_2 rfl rfl ?_
  refine aw_iconst (v := 1) (pc1 := 4) at_241_3 (by decide) rfl ?_
  refine aw_iand (v := ((x1 >>> (x3 &&& 31)) &&& 1)) (pc1 := 5) at_241_4 rfl rfl ?_
  by_cases c1 : ¬ ((x1 >>> (x3 &&& 31)) &&& 1) = 0
  · rw [if_pos c1] at hs
    refine aw_ifne_t at_241_5 c1 ?_
    refine aw_iload_n (pc1 := 11) at_241_10 l2 rfl ?_
    by_cases c2 : x2 = 0
    · rw [if_pos c2] at hs
      refine aw_ifeq_t at_241_11 c2 ?_
      exact rg_241_22 qc_241 x0 x1 x2 x3 h o l0 l1 l2 l3 i0 hs
    · rw [if_neg c2] at hs
      refine aw_ifeq_f (pc1 := 14) at_241_11 c2 rfl ?_
      refine aw_iload_n (pc1 := 15) at_241_14 l1 rfl ?_
      refine aw_call (F := fm_242 x1 h) (t := false) (na := 1) (kd := 0) (as := [(.int x1)]) at_241_15 (am_k3s kb_242) mn_242 mk_242 rfl rfl (am_ok_s mi_242 (am_hl rfl (am_ccI am_cats_0) rfl)) (am_hc am_cats_0 rfl) (fun hz9 => by cases hz9) (fun o1 hz9 => rm_242 x1 h o1  hz9) ?_
      rcases am_cI_s hs with ⟨v3, h4, f5, hs1⟩ | hs1
      · clear hs
        refine Or.inl ⟨_, _, f5, ?_⟩
        show am_W X _ 241 18 _ [(.int v3)] h4 _
        refine aw_iconst (v := 1) (pc1 := 19) at_241_18 (by decide) rfl ?_
        by_cases c6 : ¬ v3 = 1
        · rw [if_pos c6] at hs1
          refine aw_icne_t at_241_19 c6 ?_
          refine aw_iconst (v := 0) (pc1 := 44) at_241_43 (by decide) rfl ?_
          refine aw_istore (lv1 := am_put1 _ 4 _) (pc1 := 46) at_241_44 rfl rfl ?_
          refine aw_iconst (v := 0) (pc1 := 47) at_241_46 (by decide) rfl ?_
          refine aw_istore (lv1 := am_put1 _ 5 _) (pc1 := 49) at_241_47 rfl rfl ?_
          exact rg_241_49 qc_241 N x0 x1 x2 x3 0 0 h4 o hs1 _ (am_lk1 (am_lk1 l0 rfl rfl) rfl rfl) (am_lk1 (am_lk1 l1 rfl rfl) rfl rfl) (am_lk1 (am_lk1 l2 rfl rfl) rfl rfl) (am_lk1 (am_lk1 l3 rfl rfl) rfl rfl) (am_lk1 am_lk0 rfl rfl) am_lk0 i0
        · rw [if_neg c6] at hs1
          refine aw_icne_f (pc1 := 22) at_241_19 c6 rfl ?_
          exact rg_241_22 qc_241 x0 x1 x2 x3 h4 o l0 l1 l2 l3 i0 hs1
      · clear hs
        exact Or.inr hs1
  · rw [if_neg c1] at hs
    refine aw_ifne_f (pc1 := 8) at_241_5 c1 rfl ?_
    refine aw_iconst (v := 0) (pc1 := 9) at_241_8 (by decide) rfl ?_
    cases hs
    exact aw_iret at_241_9 (by rw [rt_241]; rfl) rfl
def fo_241 (N : Nat) (rc_241 : Value → Int32 → Int32 → Int32 → am_H → Option am_O) (y0 : Value) (y1 : Int32) (y2 : Int32) (y3 : Int32) (h : am_H) : Option am_O := fg_241_0 N rc_241 y0 y1 y2 y3 h
theorem ro_241 {X : am_X} {d : Nat} {N : Nat} {rc_241 : Value → Int32 → Int32 → Int32 → am_H → Option am_O} (qc_241 : ∀ (y0 : Value) (y1 : Int32) (y2 : Int32) (y3 : Int32) (h : am_H) (o : am_O), (am_isR y0 = true) → rc_241 y0 y1 y2 y3 h = some o → am_W X (d + 1) 241 0 (am_args 0 [y0, .int y1, .int y2, .int y3]) [] h (fun q => q = o)) (y0 : Value) (y1 : Int32) (y2 : Int32) (y3 : Int32) (h : am_H) (o : am_O) (i0 : am_isR y0 = true) (hs : fo_241 N rc_241 y0 y1 y2 y3 h = some o) : am_W X (d + 2) 241 0 (am_args 0 [y0, .int y1, .int y2, .int y3]) [] h (fun q => q = o) := by
  rw [am_args_R i0, am_args_I, am_args_I, am_args_I]
  exact rg_241_0 qc_241 y0 y1 y2 y3 h o rfl rfl rfl rfl i0 hs
def gr_241 (N : Nat) : Nat → Nat → List Value → am_H → Option am_O
  | 0 => fun _ _ _ => none
  | K + 1 => fun w as h => match w, as with
    | 241, [y0, .int y1, .int y2, .int y3] => fo_241 N (fun y0 y1 y2 y3 h => gr_241 N K 241 [y0, .int y1, .int y2, .int y3] h) y0 y1 y2 y3 h
    | _, _ => none
theorem gs_241 {X : am_X} {d N : Nat} : ∀ K : Nat, (∀ (y0 : Value) (y1 : Int32) (y2 : Int32) (y3 : Int32) (h : am_H) (o : am_O), (am_isR y0 = true) → gr_241 N K 241 [y0, .int y1, .int y2, .int y3] h = some o → am_W X (d + 2 * K) 241 0 (am_args 0 [y0, .int y1, .int y2, .int y3]) [] h (fun q => q = o)) := by
  intro K
  induction K with
  | zero => exact fun _ _ _ _ h o _ hs => (by cases hs)
  | succ K ih =>
    have q241 := ih
    have up : d + 2 * K ≤ d + 2 * K + 1 := Nat.le_add_right _ _
    have eD : d + 2 * (K + 1) = d + 2 * K + 2 := by rw [Nat.mul_succ, Nat.add_assoc]
    rw [eD]
    skip
    · intro y0 y1 y2 y3 h o i0 hs
      exact ro_241 (fun w0 w1 w2 w3 h o k0 hs => (q241 w0 w1 w2 w3 h o k0 hs).up up) y0 y1 y2 y3 h o i0 hs
def fm_241 (N : Nat) (y0 : Value) (y1 : Int32) (y2 : Int32) (y3 : Int32) (h : am_H) : Option am_O := gr_241 N 40 241 [y0, .int y1, .int y2, .int y3] h
theorem rm_241 {X : am_X} {d : Nat} {N : Nat} (y0 : Value) (y1 : Int32) (y2 : Int32) (y3 : Int32) (h : am_H) (o : am_O) (i0 : am_isR y0 = true) (hs : fm_241 N y0 y1 y2 y3 h = some o) : am_W X (d + 80) 241 0 (am_args 0 [y0, .int y1, .int y2, .int y3]) [] h (fun q => q = o) := (gs_241 (X := X) (d := d) (N := N) 40) y0 y1 y2 y3 h o i0 hs
def fg_240_0 (N : Nat) (x0 : Value) (x1 : Int32) (h : am_H) : Option am_O := ((am_vI (am_pG 256 x0 h)).bind fun v1 => ((am_vI (am_pG 259 x0 h)).bind fun v3 => (if am_pOk 1 x0 h then am_cI true (fm_241 N x0 (((1 <<< (v1 &&& 31)) - 1)) (((1 <<< (v3 &&& 31)) - 1)) x1 h) (fun v6 h7 => some (.inl (some (.int v6), h7))) else none)))
theorem rg_240_0 {X : am_X} {d : Nat} {N : Nat} {lv : am_LV} (x0 : Value) (x1 : Int32) (h : am_H) (o : am_O) (l0 : lv.lookup 0 = some x0) (l1 : lv.lookup 1 = some (.int x1)) (i0 : am_isR x0 = true) (hs : fg_240_0 N x0 x1 h = some o) : am_W X (d + 81) 240 0 lv [] h (fun q => q = o) := by
  unfold fg_240_0 at hs
  refine aw_vload_n (pc1 := 1) at_240_0 l0 i0 rfl ?_
  refine aw_iconst (v := 1) (pc1 := 2) at_240_1 (by decide) rfl ?_
  refine aw_vload_n (pc1 := 3) at_240_2 l0 i0 rfl ?_
  obtain ⟨v1, e2, hs1⟩ := am_bind hs
  clear hs
  refine aw_pG (pc1 := 6) at_240_3 (am_vI_s e2) rfl ?_
  refine aw_ishl (v := (1 <<< (v1 &&& 31))) (pc1 := 7) at_240_6 rfl rfl ?_
  refine aw_iconst (v := 1) (pc1 := 8) at_240_7 (by decide) rfl ?_
  refine aw_isub (v := ((1 <<< (v1 &&& 31)) - 1)) (pc1 := 9) at_240_8 rfl rfl ?_
  refine aw_iconst (v := 1) (pc1 := 10) at_240_9 (by decide) rfl ?_
  refine aw_vload_n (pc1 := 11) at_240_10 l0 i0 rfl ?_
  obtain ⟨v3, e4, hs2⟩ := am_bind hs1
  clear hs1
  refine aw_pG (pc1 := 14) at_240_11 (am_vI_s e4) rfl ?_
  refine aw_ishl (v := (1 <<< (v3 &&& 31))) (pc1 := 15) at_240_14 rfl rfl ?_
  refine aw_iconst (v := 1) (pc1 := 16) at_240_15 (by decide) rfl ?_
  refine aw_isub (v := ((1 <<< (v3 &&& 31)) - 1)) (pc1 := 17) at_240_16 rfl rfl ?_
  refine aw_iload_n (pc1 := 18) at_240_17 l1 rfl ?_
  obtain ⟨z5, hs3⟩ := am_ift hs2
  clear hs2
  refine aw_call (F := fm_241 N x0 (((1 <<< (v1 &&& 31)) - 1)) (((1 <<< (v3 &&& 31)) - 1)) x1 h) (t := true) (na := 4) (kd := 1) (as := [x0, (.int ((1 <<< (v1 &&& 31)) - 1)), (.int ((1 <<< (v3 &&& 31)) - 1)), (.int x1)]) at_240_18 (am_k3v kb_241) mn_241 mk_241 rfl rfl (am_ok_v mi_241 (am_hl rfl (am_ccR i0 (am_ccI (am_ccI (am_ccI am_cats_0)))) rfl) z5) (am_hc am_cats_0 rfl) (fun _ => ⟨rfl, hh_240⟩) (fun o1 hz9 => rm_241 x0 (((1 <<< (v1 &&& 31)) - 1)) (((1 <<< (v3 &&& 31)) - 1)) x1 h o1 i0 hz9) ?_
  rcases am_cI_s hs3 with ⟨v6, h7, f8, hs4⟩ | hs4
  · clear hs3
    refine Or.inl ⟨_, _, f8, ?_⟩
    show am_W X _ 240 21 _ [(.int v6)] h7 _
    cases hs4
    exact aw_iret at_240_21 (by rw [rt_240]; rfl) rfl
  · clear hs3
    exact Or.inr hs4
def fm_240 (N : Nat) (y0 : Value) (y1 : Int32) (h : am_H) : Option am_O := fg_240_0 N y0 y1 h
theorem rm_240 {X : am_X} {d : Nat} {N : Nat} (y0 : Value) (y1 : Int32) (h : am_H) (o : am_O) (i0 : am_isR y0 = true) (hs : fm_240 N y0 y1 h = some o) : am_W X (d + 81) 240 0 (am_args 0 [y0, .int y1]) [] h (fun q => q = o) := by
  rw [am_args_R i0, am_args_I]
  exact rg_240_0 y0 y1 h o rfl rfl i0 hs
def fg_239_0 (N : Nat) (x0 : Value) (x1 : Int32) (x2 : Int32) (x3 : Int32) (h : am_H) : Option am_O := (if am_pOk 11 x0 h then am_cR true (fm_201 x0 x1 h) (fun v2 h3 => (if am_pOk 11 x0 h3 then am_cI true (fm_214 x0 v2 x2 h3) (fun v6 h7 => (if am_pOk 11 x0 h7 then am_cV true (fm_139 x0 x3 h7) (fun h11 => ((am_vR (am_pG 2816 x0 h11)).bind fun v13 => ((am_vR (am_pG 2819 x0 h11)).bind fun v15 => (if am_pOk 1 v2 h11 then am_cV true (fm_218 N v2 v13 v15 h11) (fun h19 => ((am_vI (am_pG 259 v2 h19)).bind fun v21 => (if v21 ≤ 6 then ((am_vR (am_pG 2819 x0 h19)).bind fun v24 => (if am_pOk 1 v2 h19 then am_cI true (fm_240 N v2 x2 h19) (fun v27 h28 => ((am_vI (am_pG 259 v2 h28)).bind fun v30 => am_cI false (fm_243 N v30 h28) (fun v32 h33 => (if am_pOk 2 v24 h33 then am_cV true (fm_143 N v24 ((Int32.toInt64 v27)) ((Int32.toInt64 v32)) h33) (fun h37 => ((am_vR (am_pG 2819 x0 h37)).bind fun v39 => (if am_pOk 2 v39 h37 then am_cL true (fm_144 v39 x3 h37) (fun v42 h43 => some (.inl (some (.int (Int64.toInt32 v42)), h43))) else none))) else none)))) else none)) else some (.inr (1, h19 ++ [am_dummy]))))) else none)))) else none)) else none)) else none)
theorem rg_239_0 {X : am_X} {d : Nat} {N : Nat} {lv : am_LV} (x0 : Value) (x1 : Int32) (x2 : Int32) (x3 : Int32) (h : am_H) (o : am_O) (l0 : lv.lookup 0 = some x0) (l1 : lv.lookup 1 = some (.int x1)) (l2 : lv.lookup 2 = some (.int x2)) (l3 : lv.lookup 3 = some (.int x3)) (i0 : am_isR x0 = true) (hs : fg_239_0 N x0 x1 x2 x3 h = some o) : am_W X (d + 84) 239 0 lv [] h (fun q => q = o) := by
  unfold fg_239_0 at hs
  refine aw_vload_n (pc1 := 1) at_239_0 l0 i0 rfl ?_
  refine aw_iload_n (pc1 := 2) at_239_1 l1 rfl ?_
  obtain ⟨z1, hs1⟩ := am_ift hs
  clear hs
  refine aw_call (F := fm_201 x0 x1 h) (t := true) (na := 2) (kd := 1) (as := [x0, (.int x1)]) at_239_2 (am_k3v kb_201) mn_201 mk_201 rfl rfl (am_ok_v mi_201 (am_hl rfl (am_ccR i0 (am_ccI am_cats_0)) rfl) z1) (am_hc am_cats_0 rfl) (fun _ => ⟨rfl, hh_239⟩) (fun o1 hz9 => rm_201 x0 x1 h o1 i0 hz9) ?_
  rcases am_cR_s hs1 with ⟨v2, h3, f4, iv2, hs2⟩ | hs2
  · clear hs1
    refine Or.inl ⟨_, _, f4, ?_⟩
    show am_W X _ 239 5 _ [v2] h3 _
    refine aw_vstore (lv1 := am_put1 _ 4 _) (pc1 := 7) at_239_5 iv2 rfl rfl ?_
    refine aw_vload_n (pc1 := 8) at_239_7 (am_lk1 l0 rfl rfl) i0 rfl ?_
    refine aw_vload (pc1 := 10) at_239_8 am_lk0 iv2 rfl ?_
    refine aw_iload_n (pc1 := 11) at_239_10 (am_lk1 l2 rfl rfl) rfl ?_
    obtain ⟨z5, hs3⟩ := am_ift hs2
    clear hs2
    refine aw_call (F := fm_214 x0 v2 x2 h3) (t := true) (na := 3) (kd := 1) (as := [x0, v2, (.int x2)]) at_239_11 (am_k3v kb_214) mn_214 mk_214 rfl rfl (am_ok_v mi_214 (am_hl rfl (am_ccR i0 (am_ccR iv2 (am_ccI am_cats_0))) rfl) z5) (am_hc am_cats_0 rfl) (fun _ => ⟨rfl, hh_239⟩) (fun o1 hz9 => rm_214 x0 v2 x2 h3 o1 i0 iv2 hz9) ?_
    rcases am_cI_s hs3 with ⟨v6, h7, f8, hs4⟩ | hs4
    · clear hs3
      refine Or.inl ⟨_, _, f8, ?_⟩
      show am_W X _ 239 14 _ [(.int v6)] h7 _
      refine aw_popi (pc1 := 15) at_239_14 rfl ?_
      refine aw_vload_n (pc1 := 16) at_239_15 (am_lk1 l0 rfl rfl) i0 rfl ?_
      refine aw_iload_n (pc1 := 17) at_239_16 (am_lk1 l3 rfl rfl) rfl ?_
      obtain ⟨z9, hs5⟩ := am_ift hs4
      clear hs4
      refine aw_call (F := fm_139 x0 x3 h7) (t := true) (na := 2) (kd := 1) (as := [x0, (.int x3)]) at_239_17 (am_k3v kb_139) mn_139 mk_139 rfl rfl (am_ok_v mi_139 (am_hl rfl (am_ccR i0 (am_ccI am_cats_0)) rfl) z9) (am_hc am_cats_0 rfl) (fun _ => ⟨rfl, hh_239⟩) (fun o1 hz9 => rm_139 x0 x3 h7 o1 i0 hz9) ?_
      rcases am_cV_s hs5 with ⟨h11, f12, hs6⟩ | hs6
      · clear hs5
        refine Or.inl ⟨_, _, f12, ?_⟩
        show am_W X _ 239 20 _ [] h11 _
        refine aw_vload (pc1 := 22) at_239_20 am_lk0 iv2 rfl ?_
        refine aw_vload_n (pc1 := 23) at_239_22 (am_lk1 l0 rfl rfl) i0 rfl ?_
        obtain ⟨v13, e14, hs7⟩ := am_bind hs6
        clear hs6
        refine aw_pG (pc1 := 26) at_239_23 (am_vR_s e14).1 rfl ?_
        refine aw_vload_n (pc1 := 27) at_239_26 (am_lk1 l0 rfl rfl) i0 rfl ?_
        obtain ⟨v15, e16, hs8⟩ := am_bind hs7
        clear hs7
        refine aw_pG (pc1 := 30) at_239_27 (am_vR_s e16).1 rfl ?_
        obtain ⟨z17, hs9⟩ := am_ift hs8
        clear hs8
        refine aw_call (F := fm_218 N v2 v13 v15 h11) (t := true) (na := 3) (kd := 1) (as := [v2, v13, v15]) at_239_30 (am_k3v kb_218) mn_218 mk_218 rfl rfl (am_ok_v mi_218 (am_hl rfl (am_ccR iv2 (am_ccR (am_vR_s e14).2 (am_ccR (am_vR_s e16).2 am_cats_0))) rfl) z17) (am_hc am_cats_0 rfl) (fun _ => ⟨rfl, hh_239⟩) (fun o1 hz9 => rm_218 v2 v13 v15 h11 o1 iv2 (am_vR_s e14).2 (am_vR_s e16).2 hz9) ?_
        rcases am_cV_s hs9 with ⟨h19, f20, hs10⟩ | hs10
        · clear hs9
          refine Or.inl ⟨_, _, f20, ?_⟩
          show am_W X _ 239 33 _ [] h19 _
          refine aw_vload (pc1 := 35) at_239_33 am_lk0 iv2 rfl ?_
          obtain ⟨v21, e22, hs11⟩ := am_bind hs10
          clear hs10
          refine aw_pG (pc1 := 38) at_239_35 (am_vI_s e22) rfl ?_
          refine aw_bipush (v := 6) (pc1 := 40) at_239_38 (by decide) rfl ?_
          by_cases c23 : v21 ≤ 6
          · rw [if_pos c23] at hs11
            refine aw_icle_t at_239_40 c23 ?_
            refine aw_vload_n (pc1 := 55) at_239_54 (am_lk1 l0 rfl rfl) i0 rfl ?_
            obtain ⟨v24, e25, hs12⟩ := am_bind hs11
            clear hs11
            refine aw_pG (pc1 := 58) at_239_55 (am_vR_s e25).1 rfl ?_
            refine aw_vload (pc1 := 60) at_239_58 am_lk0 iv2 rfl ?_
            refine aw_iload_n (pc1 := 61) at_239_60 (am_lk1 l2 rfl rfl) rfl ?_
            obtain ⟨z26, hs13⟩ := am_ift hs12
            clear hs12
            refine aw_call (F := fm_240 N v2 x2 h19) (t := true) (na := 2) (kd := 1) (as := [v2, (.int x2)]) at_239_61 (am_k3v kb_240) mn_240 mk_240 rfl rfl (am_ok_v mi_240 (am_hl rfl (am_ccR iv2 (am_ccI am_cats_0)) rfl) z26) (am_hc (am_ccR (am_vR_s e25).2 am_cats_0) rfl) (fun _ => ⟨rfl, hh_239⟩) (fun o1 hz9 => rm_240 v2 x2 h19 o1 iv2 hz9) ?_
            rcases am_cI_s hs13 with ⟨v27, h28, f29, hs14⟩ | hs14
            · clear hs13
              refine Or.inl ⟨_, _, f29, ?_⟩
              show am_W X _ 239 64 _ [(.int v27), v24] h28 _
              refine aw_i2l (v := (Int32.toInt64 v27)) (pc1 := 65) at_239_64 rfl rfl ?_
              refine aw_vload (pc1 := 67) at_239_65 am_lk0 iv2 rfl ?_
              obtain ⟨v30, e31, hs15⟩ := am_bind hs14
              clear hs14
              refine aw_pG (pc1 := 70) at_239_67 (am_vI_s e31) rfl ?_
              refine aw_call (F := fm_243 N v30 h28) (t := false) (na := 1) (kd := 0) (as := [(.int v30)]) at_239_70 (am_k3s kb_243) mn_243 mk_243 rfl rfl (am_ok_s mi_243 (am_hl rfl (am_ccI am_cats_0) rfl)) (am_hc (am_ccL (am_ccR (am_vR_s e25).2 am_cats_0)) rfl) (fun hz9 => by cases hz9) (fun o1 hz9 => rm_243 v30 h28 o1  hz9) ?_
              rcases am_cI_s hs15 with ⟨v32, h33, f34, hs16⟩ | hs16
              · clear hs15
                refine Or.inl ⟨_, _, f34, ?_⟩
                show am_W X _ 239 73 _ [(.int v32), (.long (Int32.toInt64 v27)), v24] h33 _
                refine aw_i2l (v := (Int32.toInt64 v32)) (pc1 := 74) at_239_73 rfl rfl ?_
                obtain ⟨z35, hs17⟩ := am_ift hs16
                clear hs16
                refine aw_call (F := fm_143 N v24 ((Int32.toInt64 v27)) ((Int32.toInt64 v32)) h33) (t := true) (na := 3) (kd := 1) (as := [v24, (.long (Int32.toInt64 v27)), (.long (Int32.toInt64 v32))]) at_239_74 (am_k3v kb_143) mn_143 mk_143 rfl rfl (am_ok_v mi_143 (am_hl rfl (am_ccR (am_vR_s e25).2 (am_ccL (am_ccL am_cats_0))) rfl) z35) (am_hc am_cats_0 rfl) (fun _ => ⟨rfl, hh_239⟩) (fun o1 hz9 => rm_143 v24 ((Int32.toInt64 v27)) ((Int32.toInt64 v32)) h33 o1 (am_vR_s e25).2 hz9) ?_
                rcases am_cV_s hs17 with ⟨h37, f38, hs18⟩ | hs18
                · clear hs17
                  refine Or.inl ⟨_, _, f38, ?_⟩
                  show am_W X _ 239 77 _ [] h37 _
                  refine aw_vload_n (pc1 := 78) at_239_77 (am_lk1 l0 rfl rfl) i0 rfl ?_
                  obtain ⟨v39, e40, hs19⟩ := am_bind hs18
                  clear hs18
                  refine aw_pG (pc1 := 81) at_239_78 (am_vR_s e40).1 rfl ?_
                  refine aw_iload_n (pc1 := 82) at_239_81 (am_lk1 l3 rfl rfl) rfl ?_
                  obtain ⟨z41, hs20⟩ := am_ift hs19
                  clear hs19
                  refine aw_call (F := fm_144 v39 x3 h37) (t := true) (na := 2) (kd := 1) (as := [v39, (.int x3)]) at_239_82 (am_k3v kb_144) mn_144 mk_144 rfl rfl (am_ok_v mi_144 (am_hl rfl (am_ccR (am_vR_s e40).2 (am_ccI am_cats_0)) rfl) z41) (am_hc am_cats_0 rfl) (fun _ => ⟨rfl, hh_239⟩) (fun o1 hz9 => rm_144 v39 x3 h37 o1 (am_vR_s e40).2 hz9) ?_
                  rcases am_cL_s hs20 with ⟨v42, h43, f44, hs21⟩ | hs21
                  · clear hs20
                    refine Or.inl ⟨_, _, f44, ?_⟩
                    show am_W X _ 239 85 _ [(.long v42)] h43 _
                    refine aw_l2i (v := (Int64.toInt32 v42)) (pc1 := 86) at_239_85 rfl rfl ?_
                    cases hs21
                    exact aw_iret at_239_86 (by rw [rt_239]; rfl) rfl
                  · clear hs20
                    exact Or.inr hs21
                · clear hs17
                  exact Or.inr hs18
              · clear hs15
                exact Or.inr hs16
            · clear hs13
              exact Or.inr hs14
          · rw [if_neg c23] at hs11
            refine aw_icle_f (pc1 := 43) at_239_40 c23 rfl ?_
            cases hs11
            exact aw_throw at_239_43 rfl th_239_43 (am_hc am_cats_0 rfl) rfl
        · clear hs9
          exact Or.inr hs10
      · clear hs5
        exact Or.inr hs6
    · clear hs3
      exact Or.inr hs4
  · clear hs1
    exact Or.inr hs2
def fm_239 (N : Nat) (y0 : Value) (y1 : Int32) (y2 : Int32) (y3 : Int32) (h : am_H) : Option am_O := fg_239_0 N y0 y1 y2 y3 h
theorem rm_239 {X : am_X} {d : Nat} {N : Nat} (y0 : Value) (y1 : Int32) (y2 : Int32) (y3 : Int32) (h : am_H) (o : am_O) (i0 : am_isR y0 = true) (hs : fm_239 N y0 y1 y2 y3 h = some o) : am_W X (d + 84) 239 0 (am_args 0 [y0, .int y1, .int y2, .int y3]) [] h (fun q => q = o) := by
  rw [am_args_R i0, am_args_I, am_args_I, am_args_I]
  exact rg_239_0 y0 y1 y2 y3 h o rfl rfl rfl rfl i0 hs
def fg_238_25 (N : Nat) (h : am_H) : Option am_O := some (.inl (some (.int 3), h))
theorem rg_238_25 {X : am_X} {d : Nat} {N : Nat} {lv : am_LV} (h : am_H) (o : am_O) (hs : fg_238_25 N h = some o) : am_W X (d + 85) 238 25 lv [] h (fun q => q = o) := by
  unfold fg_238_25 at hs
  refine aw_iconst (v := 3) (pc1 := 26) at_238_25 (by decide) rfl ?_
  cases hs
  exact aw_iret at_238_26 (by rw [rt_238]; rfl) rfl
def fg_238_21 (N : Nat) (h : am_H) : Option am_O := some (.inl (some (.int 2), h))
theorem rg_238_21 {X : am_X} {d : Nat} {N : Nat} {lv : am_LV} (h : am_H) (o : am_O) (hs : fg_238_21 N h = some o) : am_W X (d + 85) 238 21 lv [] h (fun q => q = o) := by
  unfold fg_238_21 at hs
  refine aw_iconst (v := 2) (pc1 := 22) at_238_21 (by decide) rfl ?_
  cases hs
  exact aw_iret at_238_22 (by rw [rt_238]; rfl) rfl
def fg_238_17 (N : Nat) (h : am_H) : Option am_O := some (.inl (some (.int 1), h))
theorem rg_238_17 {X : am_X} {d : Nat} {N : Nat} {lv : am_LV} (h : am_H) (o : am_O) (hs : fg_238_17 N h = some o) : am_W X (d + 85) 238 17 lv [] h (fun q => q = o) := by
  unfold fg_238_17 at hs
  refine aw_iconst (v := 1) (pc1 := 18) at_238_17 (by decide) rfl ?_
  cases hs
  exact aw_iret at_238_18 (by rw [rt_238]; rfl) rfl
def fg_238_0 (N : Nat) (x0 : Value) (x1 : Int32) (x2 : Int32) (x3 : Int32) (x4 : Value) (h : am_H) : Option am_O := (if am_pOk 11 x0 h then (match fm_239 N x0 x1 x2 x3 h with | some (.inl (some (.int v2), h3)) => ((am_pSL x4 0 (Int32.toInt64 v2) h3).bind fun h5 => some (.inl (some (.int 0), h5))) | some (.inr (0, h7)) => (fg_238_21 N h7) | some (.inr (1, h9)) => (fg_238_25 N h9) | some (.inr (2, h11)) => (fg_238_17 N h11) | _ => none) else none)
theorem rg_238_0 {X : am_X} {d : Nat} {N : Nat} {lv : am_LV} (x0 : Value) (x1 : Int32) (x2 : Int32) (x3 : Int32) (x4 : Value) (h : am_H) (o : am_O) (l0 : lv.lookup 0 = some x0) (l1 : lv.lookup 1 = some (.int x1)) (l2 : lv.lookup 2 = some (.int x2)) (l3 : lv.lookup 3 = some (.int x3)) (l4 : lv.lookup 4 = some x4) (i0 : am_isR x0 = true) (i4 : am_isR x4 = true) (hs : fg_238_0 N x0 x1 x2 x3 x4 h = some o) : am_W X (d + 85) 238 0 lv [] h (fun q => q = o) := by
  unfold fg_238_0 at hs
  refine aw_vload (pc1 := 2) at_238_0 l4 i4 rfl ?_
  refine aw_iconst (v := 0) (pc1 := 3) at_238_2 (by decide) rfl ?_
  refine aw_vload_n (pc1 := 4) at_238_3 l0 i0 rfl ?_
  refine aw_iload_n (pc1 := 5) at_238_4 l1 rfl ?_
  refine aw_iload_n (pc1 := 6) at_238_5 l2 rfl ?_
  refine aw_iload_n (pc1 := 7) at_238_6 l3 rfl ?_
  obtain ⟨z1, hs1⟩ := am_ift hs
  clear hs
  refine aw_callH (F := fm_239 N x0 x1 x2 x3 h) (na := 4) (kd := 1) (as := [x0, (.int x1), (.int x2), (.int x3)]) at_238_7 (am_k3v kb_239) mn_239 mk_239 rfl rfl (am_ok_v mi_239 (am_hl rfl (am_ccR i0 (am_ccI (am_ccI (am_ccI am_cats_0)))) rfl) z1) (am_hc (am_ccI (am_ccR i4 am_cats_0)) rfl) (fun o1 hz9 => rm_239 x0 x1 x2 x3 h o1 i0 hz9) ?_
  split at hs1
  · rename_i v2 h3 f4
    refine Or.inl ⟨_, _, f4, ?_⟩
    show am_W X _ 238 10 _ [(.int v2), (.int 0), x4] h3 _
    refine aw_i2l (v := (Int32.toInt64 v2)) (pc1 := 11) at_238_10 rfl rfl ?_
    obtain ⟨h5, e6, hs2⟩ := am_bind hs1
    clear hs1
    refine aw_pSL (pc1 := 12) at_238_11 e6 rfl ?_
    refine aw_goto at_238_12 ?_
    refine aw_iconst (v := 0) (pc1 := 28) at_238_27 (by decide) rfl ?_
    cases hs2
    exact aw_iret at_238_28 (by rw [rt_238]; rfl) rfl
  · rename_i h7 f8
    refine Or.inr ⟨_, _, 21, 5, f8, rfl, hn_238, hd_238_7_0, ?_⟩
    exact rg_238_21 h7 o   hs1
  · rename_i h9 f10
    refine Or.inr ⟨_, _, 25, 5, f10, rfl, hn_238, hd_238_7_1, ?_⟩
    exact rg_238_25 h9 o   hs1
  · rename_i h11 f12
    refine Or.inr ⟨_, _, 17, 5, f12, rfl, hn_238, hd_238_7_2, ?_⟩
    exact rg_238_17 h11 o   hs1
  · cases hs1
def fm_238 (N : Nat) (y0 : Value) (y1 : Int32) (y2 : Int32) (y3 : Int32) (y4 : Value) (h : am_H) : Option am_O := fg_238_0 N y0 y1 y2 y3 y4 h
theorem rm_238 {X : am_X} {d : Nat} {N : Nat} (y0 : Value) (y1 : Int32) (y2 : Int32) (y3 : Int32) (y4 : Value) (h : am_H) (o : am_O) (i0 : am_isR y0 = true) (i4 : am_isR y4 = true) (hs : fm_238 N y0 y1 y2 y3 y4 h = some o) : am_W X (d + 85) 238 0 (am_args 0 [y0, .int y1, .int y2, .int y3, y4]) [] h (fun q => q = o) := by
  rw [am_args_R i0, am_args_I, am_args_I, am_args_I, am_args_R i4]
  exact rg_238_0 y0 y1 y2 y3 y4 h o rfl rfl rfl rfl rfl i0 i4 hs
def fg_522_27 (N : Nat) (rec_4 : Value → Int32 → Int32 → am_H → Option am_O) (x0 : Value) (x2 : Int32) (s0 : Int32) (s1 : Int32) (h : am_H) : Option am_O := (rec_4 x0 ((s0 + s1)) ((x2 + 1)) h)
theorem rg_522_27 {X : am_X} {d : Nat} {N : Nat} {rec_4 : Value → Int32 → Int32 → am_H → Option am_O} (q_4 : ∀ (x0 : Value) (x1 : Int32) (x2 : Int32) (h : am_H) (o : am_O), rec_4 x0 x1 x2 h = some o → ∀ lv : am_LV, (lv.lookup 0 = some x0) → (lv.lookup 1 = some (.int x1)) → (lv.lookup 2 = some (.int x2)) → (am_isR x0 = true) → am_W X (d) 522 4 lv [] h (fun q => q = o)) {lv : am_LV} (x0 : Value) (x2 : Int32) (s0 : Int32) (s1 : Int32) (h : am_H) (o : am_O) (l0 : lv.lookup 0 = some x0) (l2 : lv.lookup 2 = some (.int x2)) (i0 : am_isR x0 = true) (hs : fg_522_27 N rec_4 x0 x2 s0 s1 h = some o) : am_W X (d) 522 27 lv [(.int s1), (.int s0)] h (fun q => q = o) := by
  unfold fg_522_27 at hs
  refine aw_iadd (v := (s0 + s1)) (pc1 := 28) at_522_27 rfl rfl ?_
  refine aw_istore_n (lv1 := am_put1 _ 1 _) (pc1 := 29) at_522_28 rfl rfl ?_
  refine aw_iinc (v := (x2 + 1)) (c := 1) (lv1 := am_put1 _ 2 _) (pc1 := 32) at_522_29 (am_lk1 l2 rfl rfl) (by decide) rfl rfl rfl ?_
  refine aw_goto at_522_32 ?_
  exact q_4 x0 ((s0 + s1)) ((x2 + 1)) h o hs _ (am_lk1 (am_lk1 l0 rfl (by rw [am_isRc i0]; rfl)) rfl rfl) (am_lk1 am_lk0 rfl rfl) am_lk0 i0
def fg_522_4 (N : Nat) : Nat → Value → Int32 → Int32 → am_H → Option am_O
  | 0 => fun _ _ _ _ => none
  | K + 1 => fun x0 x1 x2 h => ((am_vI (am_pG 3103 x0 h)).bind fun v1 => (if v1 ≤ x2 then some (.inl (some (.int x1), h)) else ((am_vR (am_pG 3109 x0 h)).bind fun v4 => ((am_pA 2 v4 x2 h).bind fun v6 => (if v6 = 0 then (fg_522_27 N (fg_522_4 N K) x0 x2 x1 1 h) else (fg_522_27 N (fg_522_4 N K) x0 x2 x1 0 h))))))
theorem rg_522_4 {X : am_X} {d : Nat} {N : Nat} : ∀ (K : Nat) (x0 : Value) (x1 : Int32) (x2 : Int32) (h : am_H) (o : am_O), fg_522_4 N K x0 x1 x2 h = some o → ∀ lv : am_LV, (lv.lookup 0 = some x0) → (lv.lookup 1 = some (.int x1)) → (lv.lookup 2 = some (.int x2)) → (am_isR x0 = true) → am_W X (d) 522 4 lv [] h (fun q => q = o) := by
  intro K
  induction K with
  | zero => intro x0 x1 x2 h o hs; cases hs
  | succ K ih =>
    intro x0 x1 x2 h o hs lv l0 l1 l2 i0
    unfold fg_522_4 at hs
    refine aw_iload_n (pc1 := 5) at_522_4 l2 rfl ?_
    refine aw_vload_n (pc1 := 6) at_522_5 l0 i0 rfl ?_
    obtain ⟨v1, e2, hs1⟩ := am_bind hs
    clear hs
    refine aw_pG (pc1 := 9) at_522_6 (am_vI_s e2) rfl ?_
    by_cases c3 : v1 ≤ x2
    · rw [if_pos c3] at hs1
      refine aw_icge_t at_522_9 c3 ?_
      refine aw_iload_n (pc1 := 36) at_522_35 l1 rfl ?_
      cases hs1
      exact aw_iret at_522_36 (by rw [rt_522]; rfl) rfl
    · rw [if_neg c3] at hs1
      refine aw_icge_f (pc1 := 12) at_522_9 c3 rfl ?_
      refine aw_iload_n (pc1 := 13) at_522_12 l1 rfl ?_
      refine aw_vload_n (pc1 := 14) at_522_13 l0 i0 rfl ?_
      obtain ⟨v4, e5, hs2⟩ := am_bind hs1
      clear hs1
      refine aw_pG (pc1 := 17) at_522_14 (am_vR_s e5).1 rfl ?_
      refine aw_iload_n (pc1 := 18) at_522_17 l2 rfl ?_
      obtain ⟨v6, e7, hs3⟩ := am_bind hs2
      clear hs2
      refine aw_pA (pc1 := 19) at_522_18 (Or.inr (Or.inl ⟨rfl, rfl⟩)) e7 rfl ?_
      by_cases c8 : v6 = 0
      · rw [if_pos c8] at hs3
        refine aw_ifeq_t at_522_19 c8 ?_
        refine aw_iconst (v := 1) (pc1 := 27) at_522_26 (by decide) rfl ?_
        exact rg_522_27 (fun z0 z1 z2 h o hs3 => ih z0 z1 z2 h o hs3) x0 x2 x1 1 h o l0 l2 i0 hs3
      · rw [if_neg c8] at hs3
        refine aw_ifeq_f (pc1 := 22) at_522_19 c8 rfl ?_
        refine aw_iconst (v := 0) (pc1 := 23) at_522_22 (by decide) rfl ?_
        refine aw_goto at_522_23 ?_
        exact rg_522_27 (fun z0 z1 z2 h o hs3 => ih z0 z1 z2 h o hs3) x0 x2 x1 0 h o l0 l2 i0 hs3
def fg_522_0 (N : Nat) (x0 : Value) (h : am_H) : Option am_O := (fg_522_4 N N x0 0 0 h)
theorem rg_522_0 {X : am_X} {d : Nat} {N : Nat} {lv : am_LV} (x0 : Value) (h : am_H) (o : am_O) (l0 : lv.lookup 0 = some x0) (i0 : am_isR x0 = true) (hs : fg_522_0 N x0 h = some o) : am_W X (d) 522 0 lv [] h (fun q => q = o) := by
  unfold fg_522_0 at hs
  refine aw_iconst (v := 0) (pc1 := 1) at_522_0 (by decide) rfl ?_
  refine aw_istore_n (lv1 := am_put1 _ 1 _) (pc1 := 2) at_522_1 rfl rfl ?_
  refine aw_iconst (v := 0) (pc1 := 3) at_522_2 (by decide) rfl ?_
  refine aw_istore_n (lv1 := am_put1 _ 2 _) (pc1 := 4) at_522_3 rfl rfl ?_
  exact rg_522_4 N x0 0 0 h o hs _ (am_lk1 (am_lk1 l0 rfl (by rw [am_isRc i0]; rfl)) rfl rfl) (am_lk1 am_lk0 rfl rfl) am_lk0 i0
def fm_522 (N : Nat) (y0 : Value) (h : am_H) : Option am_O := fg_522_0 N y0 h
theorem rm_522 {X : am_X} {d : Nat} {N : Nat} (y0 : Value) (h : am_H) (o : am_O) (i0 : am_isR y0 = true) (hs : fm_522 N y0 h = some o) : am_W X (d) 522 0 (am_args 0 [y0]) [] h (fun q => q = o) := by
  rw [am_args_R i0]
  exact rg_522_0 y0 h o rfl i0 hs
def fg_523_107 (N : Nat) : Nat → Value → Int32 → Int32 → am_H → Option am_O
  | 0 => fun _ _ _ _ => none
  | K + 1 => fun x0 x4 x5 h => (if x4 ≤ x5 then some (.inl (some (.int 1), h)) else ((am_vR (am_pG 3179 x0 h)).bind fun v2 => ((am_pA 0 v2 x5 h).bind fun v4 => ((am_vR (am_pG 3179 x0 h)).bind fun v6 => ((am_vR (am_pG 3179 x0 h)).bind fun v8 => ((am_pA 0 v8 x4 h).bind fun v10 => ((am_pS 0 v6 x5 v10 h).bind fun h12 => ((am_vR (am_pG 3179 x0 h12)).bind fun v14 => ((am_pS 0 v14 x4 v4 h12).bind fun h16 => (fg_523_107 N K x0 ((x4 + (-1))) ((x5 + 1)) h16))))))))))
theorem rg_523_107 {X : am_X} {d : Nat} {N : Nat} : ∀ (K : Nat) (x0 : Value) (x4 : Int32) (x5 : Int32) (h : am_H) (o : am_O), fg_523_107 N K x0 x4 x5 h = some o → ∀ lv : am_LV, (lv.lookup 0 = some x0) → (lv.lookup 4 = some (.int x4)) → (lv.lookup 5 = some (.int x5)) → (am_isR x0 = true) → am_W X (d) 523 107 lv [] h (fun q => q = o) := by
  intro K
  induction K with
  | zero => intro x0 x4 x5 h o hs; cases hs
  | succ K ih =>
    intro x0 x4 x5 h o hs lv l0 l4 l5 i0
    unfold fg_523_107 at hs
    refine aw_iload (pc1 := 109) at_523_107 l5 rfl ?_
    refine aw_iload (pc1 := 111) at_523_109 l4 rfl ?_
    by_cases c1 : x4 ≤ x5
    · rw [if_pos c1] at hs
      refine aw_icge_t at_523_111 c1 ?_
      refine aw_iconst (v := 1) (pc1 := 154) at_523_153 (by decide) rfl ?_
      cases hs
      exact aw_iret at_523_154 (by rw [rt_523]; decide) rfl
    · rw [if_neg c1] at hs
      refine aw_icge_f (pc1 := 114) at_523_111 c1 rfl ?_
      refine aw_vload_n (pc1 := 115) at_523_114 l0 i0 rfl ?_
      obtain ⟨v2, e3, hs1⟩ := am_bind hs
      clear hs
      refine aw_pG (pc1 := 118) at_523_115 (am_vR_s e3).1 rfl ?_
      refine aw_iload (pc1 := 120) at_523_118 l5 rfl ?_
      obtain ⟨v4, e5, hs2⟩ := am_bind hs1
      clear hs1
      refine aw_pA (pc1 := 121) at_523_120 (Or.inl ⟨rfl, rfl⟩) e5 rfl ?_
      refine aw_istore_n (lv1 := am_put1 _ 3 _) (pc1 := 122) at_523_121 rfl rfl ?_
      refine aw_vload_n (pc1 := 123) at_523_122 (am_lk1 l0 rfl rfl) i0 rfl ?_
      obtain ⟨v6, e7, hs3⟩ := am_bind hs2
      clear hs2
      refine aw_pG (pc1 := 126) at_523_123 (am_vR_s e7).1 rfl ?_
      refine aw_iload (pc1 := 128) at_523_126 (am_lk1 l5 rfl rfl) rfl ?_
      refine aw_vload_n (pc1 := 129) at_523_128 (am_lk1 l0 rfl rfl) i0 rfl ?_
      obtain ⟨v8, e9, hs4⟩ := am_bind hs3
      clear hs3
      refine aw_pG (pc1 := 132) at_523_129 (am_vR_s e9).1 rfl ?_
      refine aw_iload (pc1 := 134) at_523_132 (am_lk1 l4 rfl rfl) rfl ?_
      obtain ⟨v10, e11, hs5⟩ := am_bind hs4
      clear hs4
      refine aw_pA (pc1 := 135) at_523_134 (Or.inl ⟨rfl, rfl⟩) e11 rfl ?_
      obtain ⟨h12, e13, hs6⟩ := am_bind hs5
      clear hs5
      refine aw_pS (pc1 := 136) at_523_135 (Or.inl ⟨rfl, rfl⟩) e13 rfl ?_
      refine aw_vload_n (pc1 := 137) at_523_136 (am_lk1 l0 rfl rfl) i0 rfl ?_
      obtain ⟨v14, e15, hs7⟩ := am_bind hs6
      clear hs6
      refine aw_pG (pc1 := 140) at_523_137 (am_vR_s e15).1 rfl ?_
      refine aw_iload (pc1 := 142) at_523_140 (am_lk1 l4 rfl rfl) rfl ?_
      refine aw_iload_n (pc1 := 143) at_523_142 am_lk0 rfl ?_
      obtain ⟨h16, e17, hs8⟩ := am_bind hs7
      clear hs7
      refine aw_pS (pc1 := 144) at_523_143 (Or.inl ⟨rfl, rfl⟩) e17 rfl ?_
      refine aw_iinc (v := (x4 + (-1))) (c := (-1)) (lv1 := am_put1 _ 4 _) (pc1 := 147) at_523_144 (am_lk1 l4 rfl rfl) (by decide) rfl rfl rfl ?_
      refine aw_iinc (v := (x5 + 1)) (c := 1) (lv1 := am_put1 _ 5 _) (pc1 := 150) at_523_147 (am_lk1 (am_lk1 l5 rfl rfl) rfl rfl) (by decide) rfl rfl rfl ?_
      refine aw_goto at_523_150 ?_
      exact ih x0 ((x4 + (-1))) ((x5 + 1)) h16 o hs8 _ (am_lk1 (am_lk1 (am_lk1 l0 rfl rfl) rfl rfl) rfl rfl) (am_lk1 am_lk0 rfl rfl) am_lk0 i0
def fg_523_47 (N : Nat) : Nat → Value → Int32 → Int32 → am_H → Option am_O
  | 0 => fun _ _ _ _ => none
  | K + 1 => fun x0 x1 x2 h => ((am_vR (am_pG 3179 x0 h)).bind fun v1 => ((am_pA 0 v1 x2 h).bind fun v3 => ((am_vR (am_pG 3179 x0 h)).bind fun v5 => ((am_pA 0 v5 x1 h).bind fun v7 => (if v7 ≤ v3 then ((am_vR (am_pG 3179 x0 h)).bind fun v10 => ((am_pA 0 v10 x1 h).bind fun v12 => ((am_vR (am_pG 3179 x0 h)).bind fun v14 => ((am_vR (am_pG 3179 x0 h)).bind fun v16 => ((am_pA 0 v16 x2 h).bind fun v18 => ((am_pS 0 v14 x1 v18 h).bind fun h20 => ((am_vR (am_pG 3179 x0 h20)).bind fun v22 => ((am_pS 0 v22 x2 v12 h20).bind fun h24 => ((am_vI (am_pG 3180 x0 h24)).bind fun v26 => (fg_523_107 N N x0 ((v26 - 1)) ((x1 + 1)) h24)))))))))) else (fg_523_47 N K x0 x1 ((x2 + (-1))) h))))))
theorem rg_523_47 {X : am_X} {d : Nat} {N : Nat} : ∀ (K : Nat) (x0 : Value) (x1 : Int32) (x2 : Int32) (h : am_H) (o : am_O), fg_523_47 N K x0 x1 x2 h = some o → ∀ lv : am_LV, (lv.lookup 0 = some x0) → (lv.lookup 1 = some (.int x1)) → (lv.lookup 2 = some (.int x2)) → (am_isR x0 = true) → am_W X (d) 523 47 lv [] h (fun q => q = o) := by
  intro K
  induction K with
  | zero => intro x0 x1 x2 h o hs; cases hs
  | succ K ih =>
    intro x0 x1 x2 h o hs lv l0 l1 l2 i0
    unfold fg_523_47 at hs
    refine aw_vload_n (pc1 := 48) at_523_47 l0 i0 rfl ?_
    obtain ⟨v1, e2, hs1⟩ := am_bind hs
    clear hs
    refine aw_pG (pc1 := 51) at_523_48 (am_vR_s e2).1 rfl ?_
    refine aw_iload_n (pc1 := 52) at_523_51 l2 rfl ?_
    obtain ⟨v3, e4, hs2⟩ := am_bind hs1
    clear hs1
    refine aw_pA (pc1 := 53) at_523_52 (Or.inl ⟨rfl, rfl⟩) e4 rfl ?_
    refine aw_vload_n (pc1 := 54) at_523_53 l0 i0 rfl ?_
    obtain ⟨v5, e6, hs3⟩ := am_bind hs2
    clear hs2
    refine aw_pG (pc1 := 57) at_523_54 (am_vR_s e6).1 rfl ?_
    refine aw_iload_n (pc1 := 58) at_523_57 l1 rfl ?_
    obtain ⟨v7, e8, hs4⟩ := am_bind hs3
    clear hs3
    refine aw_pA (pc1 := 59) at_523_58 (Or.inl ⟨rfl, rfl⟩) e8 rfl ?_
    by_cases c9 : v7 ≤ v3
    · rw [if_pos c9] at hs4
      refine aw_icge_t at_523_59 c9 ?_
      refine aw_vload_n (pc1 := 69) at_523_68 l0 i0 rfl ?_
      obtain ⟨v10, e11, hs5⟩ := am_bind hs4
      clear hs4
      refine aw_pG (pc1 := 72) at_523_69 (am_vR_s e11).1 rfl ?_
      refine aw_iload_n (pc1 := 73) at_523_72 l1 rfl ?_
      obtain ⟨v12, e13, hs6⟩ := am_bind hs5
      clear hs5
      refine aw_pA (pc1 := 74) at_523_73 (Or.inl ⟨rfl, rfl⟩) e13 rfl ?_
      refine aw_istore_n (lv1 := am_put1 _ 3 _) (pc1 := 75) at_523_74 rfl rfl ?_
      refine aw_vload_n (pc1 := 76) at_523_75 (am_lk1 l0 rfl rfl) i0 rfl ?_
      obtain ⟨v14, e15, hs7⟩ := am_bind hs6
      clear hs6
      refine aw_pG (pc1 := 79) at_523_76 (am_vR_s e15).1 rfl ?_
      refine aw_iload_n (pc1 := 80) at_523_79 (am_lk1 l1 rfl rfl) rfl ?_
      refine aw_vload_n (pc1 := 81) at_523_80 (am_lk1 l0 rfl rfl) i0 rfl ?_
      obtain ⟨v16, e17, hs8⟩ := am_bind hs7
      clear hs7
      refine aw_pG (pc1 := 84) at_523_81 (am_vR_s e17).1 rfl ?_
      refine aw_iload_n (pc1 := 85) at_523_84 (am_lk1 l2 rfl rfl) rfl ?_
      obtain ⟨v18, e19, hs9⟩ := am_bind hs8
      clear hs8
      refine aw_pA (pc1 := 86) at_523_85 (Or.inl ⟨rfl, rfl⟩) e19 rfl ?_
      obtain ⟨h20, e21, hs10⟩ := am_bind hs9
      clear hs9
      refine aw_pS (pc1 := 87) at_523_86 (Or.inl ⟨rfl, rfl⟩) e21 rfl ?_
      refine aw_vload_n (pc1 := 88) at_523_87 (am_lk1 l0 rfl rfl) i0 rfl ?_
      obtain ⟨v22, e23, hs11⟩ := am_bind hs10
      clear hs10
      refine aw_pG (pc1 := 91) at_523_88 (am_vR_s e23).1 rfl ?_
      refine aw_iload_n (pc1 := 92) at_523_91 (am_lk1 l2 rfl rfl) rfl ?_
      refine aw_iload_n (pc1 := 93) at_523_92 am_lk0 rfl ?_
      obtain ⟨h24, e25, hs12⟩ := am_bind hs11
      clear hs11
      refine aw_pS (pc1 := 94) at_523_93 (Or.inl ⟨rfl, rfl⟩) e25 rfl ?_
      refine aw_vload_n (pc1 := 95) at_523_94 (am_lk1 l0 rfl rfl) i0 rfl ?_
      obtain ⟨v26, e27, hs13⟩ := am_bind hs12
      clear hs12
      refine aw_pG (pc1 := 98) at_523_95 (am_vI_s e27) rfl ?_
      refine aw_iconst (v := 1) (pc1 := 99) at_523_98 (by decide) rfl ?_
      refine aw_isub (v := (v26 - 1)) (pc1 := 100) at_523_99 rfl rfl ?_
      refine aw_istore (lv1 := am_put1 _ 4 _) (pc1 := 102) at_523_100 rfl rfl ?_
      refine aw_iload_n (pc1 := 103) at_523_102 (am_lk1 (am_lk1 l1 rfl rfl) rfl rfl) rfl ?_
      refine aw_iconst (v := 1) (pc1 := 104) at_523_103 (by decide) rfl ?_
      refine aw_iadd (v := (x1 + 1)) (pc1 := 105) at_523_104 rfl rfl ?_
      refine aw_istore (lv1 := am_put1 _ 5 _) (pc1 := 107) at_523_105 rfl rfl ?_
      exact rg_523_107 N x0 ((v26 - 1)) ((x1 + 1)) h24 o hs13 _ (am_lk1 (am_lk1 (am_lk1 l0 rfl rfl) rfl rfl) rfl rfl) (am_lk1 am_lk0 rfl rfl) am_lk0 i0
    · rw [if_neg c9] at hs4
      refine aw_icge_f (pc1 := 62) at_523_59 c9 rfl ?_
      refine aw_iinc (v := (x2 + (-1))) (c := (-1)) (lv1 := am_put1 _ 2 _) (pc1 := 65) at_523_62 l2 (by decide) rfl rfl rfl ?_
      refine aw_goto at_523_65 ?_
      exact ih x0 x1 ((x2 + (-1))) h o hs4 _ (am_lk1 l0 rfl rfl) (am_lk1 l1 rfl rfl) am_lk0 i0
def fg_523_34 (N : Nat) (x0 : Value) (x1 : Int32) (h : am_H) : Option am_O := (if 0 ≤ x1 then ((am_vI (am_pG 3180 x0 h)).bind fun v2 => (fg_523_47 N N x0 x1 ((v2 - 1)) h)) else some (.inl (some (.int 0), h)))
theorem rg_523_34 {X : am_X} {d : Nat} {N : Nat} {lv : am_LV} (x0 : Value) (x1 : Int32) (h : am_H) (o : am_O) (l0 : lv.lookup 0 = some x0) (l1 : lv.lookup 1 = some (.int x1)) (i0 : am_isR x0 = true) (hs : fg_523_34 N x0 x1 h = some o) : am_W X (d) 523 34 lv [] h (fun q => q = o) := by
  unfold fg_523_34 at hs
  refine aw_iload_n (pc1 := 35) at_523_34 l1 rfl ?_
  by_cases c1 : 0 ≤ x1
  · rw [if_pos c1] at hs
    refine aw_ifge_t at_523_35 c1 ?_
    refine aw_vload_n (pc1 := 41) at_523_40 l0 i0 rfl ?_
    obtain ⟨v2, e3, hs1⟩ := am_bind hs
    clear hs
    refine aw_pG (pc1 := 44) at_523_41 (am_vI_s e3) rfl ?_
    refine aw_iconst (v := 1) (pc1 := 45) at_523_44 (by decide) rfl ?_
    refine aw_isub (v := (v2 - 1)) (pc1 := 46) at_523_45 rfl rfl ?_
    refine aw_istore_n (lv1 := am_put1 _ 2 _) (pc1 := 47) at_523_46 rfl rfl ?_
    exact rg_523_47 N x0 x1 ((v2 - 1)) h o hs1 _ (am_lk1 l0 rfl rfl) (am_lk1 l1 rfl rfl) am_lk0 i0
  · rw [if_neg c1] at hs
    refine aw_ifge_f (pc1 := 38) at_523_35 c1 rfl ?_
    refine aw_iconst (v := 0) (pc1 := 39) at_523_38 (by decide) rfl ?_
    cases hs
    exact aw_iret at_523_39 (by rw [rt_523]; decide) rfl
def fg_523_7 (N : Nat) : Nat → Value → Int32 → am_H → Option am_O
  | 0 => fun _ _ _ => none
  | K + 1 => fun x0 x1 h => (if x1 < 0 then (fg_523_34 N x0 x1 h) else ((am_vR (am_pG 3179 x0 h)).bind fun v2 => ((am_pA 0 v2 x1 h).bind fun v4 => ((am_vR (am_pG 3179 x0 h)).bind fun v6 => ((am_pA 0 v6 (x1 + 1) h).bind fun v8 => (if v4 ≤ v8 then (fg_523_34 N x0 x1 h) else (fg_523_7 N K x0 ((x1 + (-1))) h)))))))
theorem rg_523_7 {X : am_X} {d : Nat} {N : Nat} : ∀ (K : Nat) (x0 : Value) (x1 : Int32) (h : am_H) (o : am_O), fg_523_7 N K x0 x1 h = some o → ∀ lv : am_LV, (lv.lookup 0 = some x0) → (lv.lookup 1 = some (.int x1)) → (am_isR x0 = true) → am_W X (d) 523 7 lv [] h (fun q => q = o) := by
  intro K
  induction K with
  | zero => intro x0 x1 h o hs; cases hs
  | succ K ih =>
    intro x0 x1 h o hs lv l0 l1 i0
    unfold fg_523_7 at hs
    refine aw_iload_n (pc1 := 8) at_523_7 l1 rfl ?_
    by_cases c1 : x1 < 0
    · rw [if_pos c1] at hs
      refine aw_iflt_t at_523_8 c1 ?_
      exact rg_523_34 x0 x1 h o l0 l1 i0 hs
    · rw [if_neg c1] at hs
      refine aw_iflt_f (pc1 := 11) at_523_8 c1 rfl ?_
      refine aw_vload_n (pc1 := 12) at_523_11 l0 i0 rfl ?_
      obtain ⟨v2, e3, hs1⟩ := am_bind hs
      clear hs
      refine aw_pG (pc1 := 15) at_523_12 (am_vR_s e3).1 rfl ?_
      refine aw_iload_n (pc1 := 16) at_523_15 l1 rfl ?_
      obtain ⟨v4, e5, hs2⟩ := am_bind hs1
      clear hs1
      refine aw_pA (pc1 := 17) at_523_16 (Or.inl ⟨rfl, rfl⟩) e5 rfl ?_
      refine aw_vload_n (pc1 := 18) at_523_17 l0 i0 rfl ?_
      obtain ⟨v6, e7, hs3⟩ := am_bind hs2
      clear hs2
      refine aw_pG (pc1 := 21) at_523_18 (am_vR_s e7).1 rfl ?_
      refine aw_iload_n (pc1 := 22) at_523_21 l1 rfl ?_
      refine aw_iconst (v := 1) (pc1 := 23) at_523_22 (by decide) rfl ?_
      refine aw_iadd (v := (x1 + 1)) (pc1 := 24) at_523_23 rfl rfl ?_
      obtain ⟨v8, e9, hs4⟩ := am_bind hs3
      clear hs3
      refine aw_pA (pc1 := 25) at_523_24 (Or.inl ⟨rfl, rfl⟩) e9 rfl ?_
      by_cases c10 : v4 ≤ v8
      · rw [if_pos c10] at hs4
        refine aw_icle_t at_523_25 c10 ?_
        exact rg_523_34 x0 x1 h o l0 l1 i0 hs4
      · rw [if_neg c10] at hs4
        refine aw_icle_f (pc1 := 28) at_523_25 c10 rfl ?_
        refine aw_iinc (v := (x1 + (-1))) (c := (-1)) (lv1 := am_put1 _ 1 _) (pc1 := 31) at_523_28 l1 (by decide) rfl rfl rfl ?_
        refine aw_goto at_523_31 ?_
        exact ih x0 ((x1 + (-1))) h o hs4 _ (am_lk1 l0 rfl (by rw [am_isRc i0]; rfl)) am_lk0 i0
def fg_523_0 (N : Nat) (x0 : Value) (h : am_H) : Option am_O := ((am_vI (am_pG 3180 x0 h)).bind fun v1 => (fg_523_7 N N x0 ((v1 - 2)) h))
theorem rg_523_0 {X : am_X} {d : Nat} {N : Nat} {lv : am_LV} (x0 : Value) (h : am_H) (o : am_O) (l0 : lv.lookup 0 = some x0) (i0 : am_isR x0 = true) (hs : fg_523_0 N x0 h = some o) : am_W X (d) 523 0 lv [] h (fun q => q = o) := by
  unfold fg_523_0 at hs
  refine aw_vload_n (pc1 := 1) at_523_0 l0 i0 rfl ?_
  obtain ⟨v1, e2, hs1⟩ := am_bind hs
  clear hs
  refine aw_pG (pc1 := 4) at_523_1 (am_vI_s e2) rfl ?_
  refine aw_iconst (v := 2) (pc1 := 5) at_523_4 (by decide) rfl ?_
  refine aw_isub (v := (v1 - 2)) (pc1 := 6) at_523_5 rfl rfl ?_
  refine aw_istore_n (lv1 := am_put1 _ 1 _) (pc1 := 7) at_523_6 rfl rfl ?_
  exact rg_523_7 N x0 ((v1 - 2)) h o hs1 _ (am_lk1 l0 rfl (by rw [am_isRc i0]; rfl)) am_lk0 i0
def fm_523 (N : Nat) (y0 : Value) (h : am_H) : Option am_O := fg_523_0 N y0 h
theorem rm_523 {X : am_X} {d : Nat} {N : Nat} (y0 : Value) (h : am_H) (o : am_O) (i0 : am_isR y0 = true) (hs : fm_523 N y0 h = some o) : am_W X (d) 523 0 (am_args 0 [y0]) [] h (fun q => q = o) := by
  rw [am_args_R i0]
  exact rg_523_0 y0 h o rfl i0 hs
def fg_521_146 (N : Nat) (s0 : Int64) (h : am_H) : Option am_O := some (.inl (some (.int (Int64.toInt32 s0)), h))
theorem rg_521_146 {X : am_X} {d : Nat} {N : Nat} {lv : am_LV} (s0 : Int64) (h : am_H) (o : am_O) (hs : fg_521_146 N s0 h = some o) : am_W X (d + 9) 521 146 lv [(.long s0)] h (fun q => q = o) := by
  unfold fg_521_146 at hs
  refine aw_l2i (v := (Int64.toInt32 s0)) (pc1 := 147) at_521_146 rfl rfl ?_
  cases hs
  exact aw_iret at_521_147 (by rw [rt_521]; rfl) rfl
def fg_521_103 (N : Nat) (rec_74 : Value → Int32 → Int32 → Int64 → Int32 → am_H → Option am_O) (x0 : Value) (x2 : Int32) (x3 : Int32) (x4 : Int64) (s0 : Value) (s1 : Int64) (h : am_H) : Option am_O := ((am_pP 3163 s0 (.long s1) h).bind fun h1 => (if am_pOk 12 x0 h1 then am_cI true (fm_523 N x0 h1) (fun v4 h5 => (rec_74 x0 x2 x3 ((x4 + 1)) v4 h5)) else none))
theorem rg_521_103 {X : am_X} {d : Nat} {N : Nat} {rec_74 : Value → Int32 → Int32 → Int64 → Int32 → am_H → Option am_O} (q_74 : ∀ (x0 : Value) (x2 : Int32) (x3 : Int32) (x4 : Int64) (x6 : Int32) (h : am_H) (o : am_O), rec_74 x0 x2 x3 x4 x6 h = some o → ∀ lv : am_LV, (lv.lookup 0 = some x0) → (lv.lookup 2 = some (.int x2)) → (lv.lookup 3 = some (.int x3)) → (lv.lookup 4 = some (.long x4)) → (lv.lookup 6 = some (.int x6)) → (am_isR x0 = true) → am_W X (d + 9) 521 74 lv [] h (fun q => q = o)) {lv : am_LV} (x0 : Value) (x2 : Int32) (x3 : Int32) (x4 : Int64) (s0 : Value) (s1 : Int64) (h : am_H) (o : am_O) (l0 : lv.lookup 0 = some x0) (l2 : lv.lookup 2 = some (.int x2)) (l3 : lv.lookup 3 = some (.int x3)) (l4 : lv.lookup 4 = some (.long x4)) (i0 : am_isR x0 = true) (j0 : am_isR s0 = true) (hs : fg_521_103 N rec_74 x0 x2 x3 x4 s0 s1 h = some o) : am_W X (d + 9) 521 103 lv [(.long s1), s0] h (fun q => q = o) := by
  unfold fg_521_103 at hs
  obtain ⟨h1, e2, hs1⟩ := am_bind hs
  clear hs
  refine aw_pP (pc1 := 106) at_521_103 e2 rfl ?_
  refine aw_lload (pc1 := 108) at_521_106 l4 rfl ?_
  refine aw_lconst (v := 1) (pc1 := 109) at_521_108 (by decide) rfl ?_
  refine aw_ladd (v := (x4 + 1)) (pc1 := 110) at_521_109 rfl rfl ?_
  refine aw_lstore (lv1 := am_put2 _ 4 _) (pc1 := 112) at_521_110 rfl rfl ?_
  refine aw_vload_n (pc1 := 113) at_521_112 (am_lk2 l0 rfl rfl) i0 rfl ?_
  obtain ⟨z3, hs2⟩ := am_ift hs1
  clear hs1
  refine aw_call (F := fm_523 N x0 h1) (t := true) (na := 1) (kd := 1) (as := [x0]) at_521_113 (am_k3v kb_523) mn_523 mk_523 rfl rfl (am_ok_v mi_523 (am_hl rfl (am_ccR i0 am_cats_0) rfl) z3) (am_hc am_cats_0 rfl) (fun _ => ⟨rfl, hh_521⟩) (fun o1 hz9 => rm_523 x0 h1 o1 i0 hz9) ?_
  rcases am_cI_s hs2 with ⟨v4, h5, f6, hs3⟩ | hs3
  · clear hs2
    refine Or.inl ⟨_, _, f6, ?_⟩
    show am_W X _ 521 116 _ [(.int v4)] h5 _
    refine aw_istore (lv1 := am_put1 _ 6 _) (pc1 := 118) at_521_116 rfl rfl ?_
    refine aw_goto at_521_118 ?_
    exact q_74 x0 x2 x3 ((x4 + 1)) v4 h5 o hs3 _ (am_lk1 (am_lk2 l0 rfl rfl) rfl rfl) (am_lk1 (am_lk2 l2 rfl rfl) rfl rfl) (am_lk1 (am_lk2 l3 rfl rfl) rfl rfl) (am_lk1 am_lk02 rfl rfl) am_lk0 i0
  · clear hs2
    exact Or.inr hs3
def fg_521_74 (N : Nat) : Nat → Value → Int32 → Int32 → Int64 → Int32 → am_H → Option am_O
  | 0 => fun _ _ _ _ _ _ => none
  | K + 1 => fun x0 x2 x3 x4 x6 h => (if x6 = 0 then ((am_pP 3164 x0 (.long x4) h).bind fun h2 => (if am_pOk 12 x0 h2 then am_cV true (fm_429 N x0 h2) (fun h6 => (if ¬ x3 = 0 then ((am_vL (am_pG 3164 x0 h6)).bind fun v9 => (fg_521_146 N v9 h6)) else ((am_vL (am_pG 3163 x0 h6)).bind fun v11 => (fg_521_146 N v11 h6)))) else none)) else ((am_vL (am_pG 3163 x0 h)).bind fun v13 => (if am_pOk 12 x0 h then am_cI true (fm_516 N x0 h) (fun v16 h17 => (if ¬ v16 = x2 then (fg_521_103 N (fg_521_74 N K) x0 x2 x3 x4 x0 v13 h17) else (fg_521_103 N (fg_521_74 N K) x0 x2 x3 x4 x0 ((v13 + 1)) h17))) else none)))
theorem rg_521_74 {X : am_X} {d : Nat} {N : Nat} : ∀ (K : Nat) (x0 : Value) (x2 : Int32) (x3 : Int32) (x4 : Int64) (x6 : Int32) (h : am_H) (o : am_O), fg_521_74 N K x0 x2 x3 x4 x6 h = some o → ∀ lv : am_LV, (lv.lookup 0 = some x0) → (lv.lookup 2 = some (.int x2)) → (lv.lookup 3 = some (.int x3)) → (lv.lookup 4 = some (.long x4)) → (lv.lookup 6 = some (.int x6)) → (am_isR x0 = true) → am_W X (d + 9) 521 74 lv [] h (fun q => q = o) := by
  intro K
  induction K with
  | zero => intro x0 x2 x3 x4 x6 h o hs; cases hs
  | succ K ih =>
    intro x0 x2 x3 x4 x6 h o hs lv l0 l2 l3 l4 l6 i0
    unfold fg_521_74 at hs
    refine aw_iload (pc1 := 76) at_521_74 l6 rfl ?_
    by_cases c1 : x6 = 0
    · rw [if_pos c1] at hs
      refine aw_ifeq_t at_521_76 c1 ?_
      refine aw_vload_n (pc1 := 122) at_521_121 l0 i0 rfl ?_
      refine aw_lload (pc1 := 124) at_521_122 l4 rfl ?_
      obtain ⟨h2, e3, hs1⟩ := am_bind hs
      clear hs
      refine aw_pP (pc1 := 127) at_521_124 e3 rfl ?_
      refine aw_vload_n (pc1 := 128) at_521_127 l0 i0 rfl ?_
      obtain ⟨z4, hs2⟩ := am_ift hs1
      clear hs1
      refine aw_call (F := fm_429 N x0 h2) (t := true) (na := 1) (kd := 1) (as := [x0]) at_521_128 (am_k3v kb_429) mn_429 mk_429 rfl rfl (am_ok_v mi_429 (am_hl rfl (am_ccR i0 am_cats_0) rfl) z4) (am_hc am_cats_0 rfl) (fun _ => ⟨rfl, hh_521⟩) (fun o1 hz9 => rm_429 x0 h2 o1 i0 hz9) ?_
      rcases am_cV_s hs2 with ⟨h6, f7, hs3⟩ | hs3
      · clear hs2
        refine Or.inl ⟨_, _, f7, ?_⟩
        show am_W X _ 521 131 _ [] h6 _
        refine aw_iload_n (pc1 := 132) at_521_131 l3 rfl ?_
        by_cases c8 : ¬ x3 = 0
        · rw [if_pos c8] at hs3
          refine aw_ifne_t at_521_132 c8 ?_
          refine aw_vload_n (pc1 := 143) at_521_142 l0 i0 rfl ?_
          obtain ⟨v9, e10, hs4⟩ := am_bind hs3
          clear hs3
          refine aw_pG (pc1 := 146) at_521_143 (am_vL_s e10) rfl ?_
          exact rg_521_146 v9 h6 o   hs4
        · rw [if_neg c8] at hs3
          refine aw_ifne_f (pc1 := 135) at_521_132 c8 rfl ?_
          refine aw_vload_n (pc1 := 136) at_521_135 l0 i0 rfl ?_
          obtain ⟨v11, e12, hs5⟩ := am_bind hs3
          clear hs3
          refine aw_pG (pc1 := 139) at_521_136 (am_vL_s e12) rfl ?_
          refine aw_goto at_521_139 ?_
          exact rg_521_146 v11 h6 o   hs5
      · clear hs2
        exact Or.inr hs3
    · rw [if_neg c1] at hs
      refine aw_ifeq_f (pc1 := 79) at_521_76 c1 rfl ?_
      refine aw_vload_n (pc1 := 80) at_521_79 l0 i0 rfl ?_
      obtain ⟨v13, e14, hs6⟩ := am_bind hs
      clear hs
      refine aw_pG (pc1 := 83) at_521_80 (am_vL_s e14) rfl ?_
      refine aw_lstore (lv1 := am_put2 _ 7 _) (pc1 := 85) at_521_83 rfl rfl ?_
      refine aw_vload_n (pc1 := 86) at_521_85 (am_lk2 l0 rfl rfl) i0 rfl ?_
      refine aw_vload_n (pc1 := 87) at_521_86 (am_lk2 l0 rfl rfl) i0 rfl ?_
      obtain ⟨z15, hs7⟩ := am_ift hs6
      clear hs6
      refine aw_call (F := fm_516 N x0 h) (t := true) (na := 1) (kd := 1) (as := [x0]) at_521_87 (am_k3v kb_516) mn_516 mk_516 rfl rfl (am_ok_v mi_516 (am_hl rfl (am_ccR i0 am_cats_0) rfl) z15) (am_hc (am_ccR i0 am_cats_0) rfl) (fun _ => ⟨rfl, hh_521⟩) (fun o1 hz9 => rm_516 x0 h o1 i0 hz9) ?_
      rcases am_cI_s hs7 with ⟨v16, h17, f18, hs8⟩ | hs8
      · clear hs7
        refine Or.inl ⟨_, _, f18, ?_⟩
        show am_W X _ 521 90 _ [(.int v16), x0] h17 _
        refine aw_iload_n (pc1 := 91) at_521_90 (am_lk2 l2 rfl rfl) rfl ?_
        by_cases c19 : ¬ v16 = x2
        · rw [if_pos c19] at hs8
          refine aw_icne_t at_521_91 c19 ?_
          refine aw_lload (pc1 := 103) at_521_101 am_lk02 rfl ?_
          exact rg_521_103 (fun z0 z1 z2 z3 z4 h o hs8 => ih z0 z1 z2 z3 z4 h o hs8) x0 x2 x3 x4 x0 v13 h17 o (am_lk2 l0 rfl rfl) (am_lk2 l2 rfl rfl) (am_lk2 l3 rfl rfl) (am_lk2 l4 rfl rfl) i0 i0 hs8
        · rw [if_neg c19] at hs8
          refine aw_icne_f (pc1 := 94) at_521_91 c19 rfl ?_
          refine aw_lload (pc1 := 96) at_521_94 am_lk02 rfl ?_
          refine aw_lconst (v := 1) (pc1 := 97) at_521_96 (by decide) rfl ?_
          refine aw_ladd (v := (v13 + 1)) (pc1 := 98) at_521_97 rfl rfl ?_
          refine aw_goto at_521_98 ?_
          exact rg_521_103 (fun z0 z1 z2 z3 z4 h o hs8 => ih z0 z1 z2 z3 z4 h o hs8) x0 x2 x3 x4 x0 ((v13 + 1)) h17 o (am_lk2 l0 rfl rfl) (am_lk2 l2 rfl rfl) (am_lk2 l3 rfl rfl) (am_lk2 l4 rfl rfl) i0 i0 hs8
      · clear hs7
        exact Or.inr hs8
def fg_521_42 (N : Nat) (x0 : Value) (x1 : Int32) (x2 : Int32) (x3 : Int32) (s0 : Value) (s1 : Int32) (h : am_H) : Option am_O := ((am_pP 3072 s0 (.int s1) h).bind fun h1 => ((am_vI (am_pG 3072 x0 h1)).bind fun v3 => (if v3 ≤ 0 then (if am_pOk 12 x0 h1 then am_cV true (fm_505 N x0 x1 h1) (fun h8 => (if am_pOk 12 x0 h8 then am_cV true (fm_506 N x0 h8) (fun h12 => ((am_pP 3163 x0 (.long 0) h12).bind fun h14 => (fg_521_74 N N x0 x2 x3 0 1 h14))) else none)) else none) else some (.inl (some (.int 0), h1)))))
theorem rg_521_42 {X : am_X} {d : Nat} {N : Nat} {lv : am_LV} (x0 : Value) (x1 : Int32) (x2 : Int32) (x3 : Int32) (s0 : Value) (s1 : Int32) (h : am_H) (o : am_O) (l0 : lv.lookup 0 = some x0) (l1 : lv.lookup 1 = some (.int x1)) (l2 : lv.lookup 2 = some (.int x2)) (l3 : lv.lookup 3 = some (.int x3)) (i0 : am_isR x0 = true) (j0 : am_isR s0 = true) (hs : fg_521_42 N x0 x1 x2 x3 s0 s1 h = some o) : am_W X (d + 9) 521 42 lv [(.int s1), s0] h (fun q => q = o) := by
  unfold fg_521_42 at hs
  obtain ⟨h1, e2, hs1⟩ := am_bind hs
  clear hs
  refine aw_pP (pc1 := 45) at_521_42 e2 rfl ?_
  refine aw_vload_n (pc1 := 46) at_521_45 l0 i0 rfl ?_
  obtain ⟨v3, e4, hs2⟩ := am_bind hs1
  clear hs1
  refine aw_pG (pc1 := 49) at_521_46 (am_vI_s e4) rfl ?_
  by_cases c5 : v3 ≤ 0
  · rw [if_pos c5] at hs2
    refine aw_ifle_t at_521_49 c5 ?_
    refine aw_vload_n (pc1 := 55) at_521_54 l0 i0 rfl ?_
    refine aw_iload_n (pc1 := 56) at_521_55 l1 rfl ?_
    obtain ⟨z6, hs3⟩ := am_ift hs2
    clear hs2
    refine aw_call (F := fm_505 N x0 x1 h1) (t := true) (na := 2) (kd := 1) (as := [x0, (.int x1)]) at_521_56 (am_k3v kb_505) mn_505 mk_505 rfl rfl (am_ok_v mi_505 (am_hl rfl (am_ccR i0 (am_ccI am_cats_0)) rfl) z6) (am_hc am_cats_0 rfl) (fun _ => ⟨rfl, hh_521⟩) (fun o1 hz9 => rm_505 x0 x1 h1 o1 i0 hz9) ?_
    rcases am_cV_s hs3 with ⟨h8, f9, hs4⟩ | hs4
    · clear hs3
      refine Or.inl ⟨_, _, f9, ?_⟩
      show am_W X _ 521 59 _ [] h8 _
      refine aw_vload_n (pc1 := 60) at_521_59 l0 i0 rfl ?_
      obtain ⟨z10, hs5⟩ := am_ift hs4
      clear hs4
      refine aw_call (F := fm_506 N x0 h8) (t := true) (na := 1) (kd := 1) (as := [x0]) at_521_60 (am_k3v kb_506) mn_506 mk_506 rfl rfl (am_ok_v mi_506 (am_hl rfl (am_ccR i0 am_cats_0) rfl) z10) (am_hc am_cats_0 rfl) (fun _ => ⟨rfl, hh_521⟩) (fun o1 hz9 => rm_506 x0 h8 o1 i0 hz9) ?_
      rcases am_cV_s hs5 with ⟨h12, f13, hs6⟩ | hs6
      · clear hs5
        refine Or.inl ⟨_, _, f13, ?_⟩
        show am_W X _ 521 63 _ [] h12 _
        refine aw_vload_n (pc1 := 64) at_521_63 l0 i0 rfl ?_
        refine aw_lconst (v := 0) (pc1 := 65) at_521_64 (by decide) rfl ?_
        obtain ⟨h14, e15, hs7⟩ := am_bind hs6
        clear hs6
        refine aw_pP (pc1 := 68) at_521_65 e15 rfl ?_
        refine aw_lconst (v := 0) (pc1 := 69) at_521_68 (by decide) rfl ?_
        refine aw_lstore (lv1 := am_put2 _ 4 _) (pc1 := 71) at_521_69 rfl rfl ?_
        refine aw_iconst (v := 1) (pc1 := 72) at_521_71 (by decide) rfl ?_
        refine aw_istore (lv1 := am_put1 _ 6 _) (pc1 := 74) at_521_72 rfl rfl ?_
        exact rg_521_74 N x0 x2 x3 0 1 h14 o hs7 _ (am_lk1 (am_lk2 l0 rfl rfl) rfl rfl) (am_lk1 (am_lk2 l2 rfl rfl) rfl rfl) (am_lk1 (am_lk2 l3 rfl rfl) rfl rfl) (am_lk1 am_lk02 rfl rfl) am_lk0 i0
      · clear hs5
        exact Or.inr hs6
    · clear hs3
      exact Or.inr hs4
  · rw [if_neg c5] at hs2
    refine aw_ifle_f (pc1 := 52) at_521_49 c5 rfl ?_
    refine aw_iconst (v := 0) (pc1 := 53) at_521_52 (by decide) rfl ?_
    cases hs2
    exact aw_iret at_521_53 (by rw [rt_521]; rfl) rfl
def fg_521_0 (N : Nat) (x0 : Value) (x1 : Int32) (x2 : Int32) (x3 : Int32) (h : am_H) : Option am_O := (if am_pOk 12 x0 h then am_cI true (fm_501 x0 x1 x2 h) (fun v2 h3 => (if ¬ v2 = 0 then am_cI false (fm_327 ((Int32.toInt64 x3)) 0 1 h3) (fun v6 h7 => (if ¬ v6 = 0 then (if am_pOk 12 x0 h7 then am_cI true (fm_522 N x0 h7) (fun v11 h12 => (if v11 ≤ 6 then (fg_521_42 N x0 x1 x2 x3 x0 0 h12) else (fg_521_42 N x0 x1 x2 x3 x0 3 h12))) else none) else (fg_521_42 N x0 x1 x2 x3 x0 2 h7))) else (fg_521_42 N x0 x1 x2 x3 x0 1 h3))) else none)
theorem rg_521_0 {X : am_X} {d : Nat} {N : Nat} {lv : am_LV} (x0 : Value) (x1 : Int32) (x2 : Int32) (x3 : Int32) (h : am_H) (o : am_O) (l0 : lv.lookup 0 = some x0) (l1 : lv.lookup 1 = some (.int x1)) (l2 : lv.lookup 2 = some (.int x2)) (l3 : lv.lookup 3 = some (.int x3)) (i0 : am_isR x0 = true) (hs : fg_521_0 N x0 x1 x2 x3 h = some o) : am_W X (d + 9) 521 0 lv [] h (fun q => q = o) := by
  unfold fg_521_0 at hs
  refine aw_vload_n (pc1 := 1) at_521_0 l0 i0 rfl ?_
  refine aw_vload_n (pc1 := 2) at_521_1 l0 i0 rfl ?_
  refine aw_iload_n (pc1 := 3) at_521_2 l1 rfl ?_
  refine aw_iload_n (pc1 := 4) at_521_3 l2 rfl ?_
  obtain ⟨z1, hs1⟩ := am_ift hs
  clear hs
  refine aw_call (F := fm_501 x0 x1 x2 h) (t := true) (na := 3) (kd := 1) (as := [x0, (.int x1), (.int x2)]) at_521_4 (am_k3v kb_501) mn_501 mk_501 rfl rfl (am_ok_v mi_501 (am_hl rfl (am_ccR i0 (am_ccI (am_ccI am_cats_0))) rfl) z1) (am_hc (am_ccR i0 am_cats_0) rfl) (fun _ => ⟨rfl, hh_521⟩) (fun o1 hz9 => rm_501 x0 x1 x2 h o1 i0 hz9) ?_
  rcases am_cI_s hs1 with ⟨v2, h3, f4, hs2⟩ | hs2
  · clear hs1
    refine Or.inl ⟨_, _, f4, ?_⟩
    show am_W X _ 521 7 _ [(.int v2), x0] h3 _
    by_cases c5 : ¬ v2 = 0
    · rw [if_pos c5] at hs2
      refine aw_ifne_t at_521_7 c5 ?_
      refine aw_iload_n (pc1 := 15) at_521_14 l3 rfl ?_
      refine aw_i2l (v := (Int32.toInt64 x3)) (pc1 := 16) at_521_15 rfl rfl ?_
      refine aw_lconst (v := 0) (pc1 := 17) at_521_16 (by decide) rfl ?_
      refine aw_lconst (v := 1) (pc1 := 18) at_521_17 (by decide) rfl ?_
      refine aw_call (F := fm_327 ((Int32.toInt64 x3)) 0 1 h3) (t := false) (na := 3) (kd := 0) (as := [(.long (Int32.toInt64 x3)), (.long 0), (.long 1)]) at_521_18 (am_k3s kb_327) mn_327 mk_327 rfl rfl (am_ok_s mi_327 (am_hl rfl (am_ccL (am_ccL (am_ccL am_cats_0))) rfl)) (am_hc (am_ccR i0 am_cats_0) rfl) (fun hz9 => by cases hz9) (fun o1 hz9 => rm_327 ((Int32.toInt64 x3)) 0 1 h3 o1  hz9) ?_
      rcases am_cI_s hs2 with ⟨v6, h7, f8, hs3⟩ | hs3
      · clear hs2
        refine Or.inl ⟨_, _, f8, ?_⟩
        show am_W X _ 521 21 _ [(.int v6), x0] h7 _
        by_cases c9 : ¬ v6 = 0
        · rw [if_pos c9] at hs3
          refine aw_ifne_t at_521_21 c9 ?_
          refine aw_vload_n (pc1 := 29) at_521_28 l0 i0 rfl ?_
          obtain ⟨z10, hs4⟩ := am_ift hs3
          clear hs3
          refine aw_call (F := fm_522 N x0 h7) (t := true) (na := 1) (kd := 1) (as := [x0]) at_521_29 (am_k3v kb_522) mn_522 mk_522 rfl rfl (am_ok_v mi_522 (am_hl rfl (am_ccR i0 am_cats_0) rfl) z10) (am_hc (am_ccR i0 am_cats_0) rfl) (fun _ => ⟨rfl, hh_521⟩) (fun o1 hz9 => rm_522 x0 h7 o1 i0 hz9) ?_
          rcases am_cI_s hs4 with ⟨v11, h12, f13, hs5⟩ | hs5
          · clear hs4
            refine Or.inl ⟨_, _, f13, ?_⟩
            show am_W X _ 521 32 _ [(.int v11), x0] h12 _
            refine aw_bipush (v := 6) (pc1 := 34) at_521_32 (by decide) rfl ?_
            by_cases c14 : v11 ≤ 6
            · rw [if_pos c14] at hs5
              refine aw_icle_t at_521_34 c14 ?_
              refine aw_iconst (v := 0) (pc1 := 42) at_521_41 (by decide) rfl ?_
              exact rg_521_42 x0 x1 x2 x3 x0 0 h12 o l0 l1 l2 l3 i0 i0 hs5
            · rw [if_neg c14] at hs5
              refine aw_icle_f (pc1 := 37) at_521_34 c14 rfl ?_
              refine aw_iconst (v := 3) (pc1 := 38) at_521_37 (by decide) rfl ?_
              refine aw_goto at_521_38 ?_
              exact rg_521_42 x0 x1 x2 x3 x0 3 h12 o l0 l1 l2 l3 i0 i0 hs5
          · clear hs4
            exact Or.inr hs5
        · rw [if_neg c9] at hs3
          refine aw_ifne_f (pc1 := 24) at_521_21 c9 rfl ?_
          refine aw_iconst (v := 2) (pc1 := 25) at_521_24 (by decide) rfl ?_
          refine aw_goto at_521_25 ?_
          exact rg_521_42 x0 x1 x2 x3 x0 2 h7 o l0 l1 l2 l3 i0 i0 hs3
      · clear hs2
        exact Or.inr hs3
    · rw [if_neg c5] at hs2
      refine aw_ifne_f (pc1 := 10) at_521_7 c5 rfl ?_
      refine aw_iconst (v := 1) (pc1 := 11) at_521_10 (by decide) rfl ?_
      refine aw_goto at_521_11 ?_
      exact rg_521_42 x0 x1 x2 x3 x0 1 h3 o l0 l1 l2 l3 i0 i0 hs2
  · clear hs1
    exact Or.inr hs2
def fm_521 (N : Nat) (y0 : Value) (y1 : Int32) (y2 : Int32) (y3 : Int32) (h : am_H) : Option am_O := fg_521_0 N y0 y1 y2 y3 h
theorem rm_521 {X : am_X} {d : Nat} {N : Nat} (y0 : Value) (y1 : Int32) (y2 : Int32) (y3 : Int32) (h : am_H) (o : am_O) (i0 : am_isR y0 = true) (hs : fm_521 N y0 y1 y2 y3 h = some o) : am_W X (d + 9) 521 0 (am_args 0 [y0, .int y1, .int y2, .int y3]) [] h (fun q => q = o) := by
  rw [am_args_R i0, am_args_I, am_args_I, am_args_I]
  exact rg_521_0 y0 y1 y2 y3 h o rfl rfl rfl rfl i0 hs
def fg_246_116 (N : Nat) (rec_21 : Value → Int64 → Int32 → am_H → Option am_O) (x0 : Value) (x3 : Int64) (x5 : Int32) (h : am_H) : Option am_O := (rec_21 x0 x3 ((x5 + 1)) h)
theorem rg_246_116 {X : am_X} {d : Nat} {N : Nat} {rec_21 : Value → Int64 → Int32 → am_H → Option am_O} (q_21 : ∀ (x0 : Value) (x3 : Int64) (x5 : Int32) (h : am_H) (o : am_O), rec_21 x0 x3 x5 h = some o → ∀ lv : am_LV, (lv.lookup 0 = some x0) → (lv.lookup 3 = some (.long x3)) → (lv.lookup 5 = some (.int x5)) → (am_isR x0 = true) → am_W X (d + 82) 246 21 lv [] h (fun q => q = o)) {lv : am_LV} (x0 : Value) (x3 : Int64) (x5 : Int32) (h : am_H) (o : am_O) (l0 : lv.lookup 0 = some x0) (l3 : lv.lookup 3 = some (.long x3)) (l5 : lv.lookup 5 = some (.int x5)) (i0 : am_isR x0 = true) (hs : fg_246_116 N rec_21 x0 x3 x5 h = some o) : am_W X (d + 82) 246 116 lv [] h (fun q => q = o) := by
  unfold fg_246_116 at hs
  refine aw_iinc (v := (x5 + 1)) (c := 1) (lv1 := am_put1 _ 5 _) (pc1 := 119) at_246_116 l5 (by decide) rfl rfl rfl ?_
  refine aw_goto at_246_119 ?_
  exact q_21 x0 x3 ((x5 + 1)) h o hs _ (am_lk1 l0 rfl rfl) (am_lk1 l3 rfl rfl) am_lk0 i0
def fg_246_114 (N : Nat) (rec_21 : Value → Int64 → Int32 → am_H → Option am_O) (x0 : Value) (x5 : Int32) (s0 : Int64) (s1 : Int64) (h : am_H) : Option am_O := (fg_246_116 N rec_21 x0 ((s0 + s1)) x5 h)
theorem rg_246_114 {X : am_X} {d : Nat} {N : Nat} {rec_21 : Value → Int64 → Int32 → am_H → Option am_O} (q_21 : ∀ (x0 : Value) (x3 : Int64) (x5 : Int32) (h : am_H) (o : am_O), rec_21 x0 x3 x5 h = some o → ∀ lv : am_LV, (lv.lookup 0 = some x0) → (lv.lookup 3 = some (.long x3)) → (lv.lookup 5 = some (.int x5)) → (am_isR x0 = true) → am_W X (d + 82) 246 21 lv [] h (fun q => q = o)) {lv : am_LV} (x0 : Value) (x5 : Int32) (s0 : Int64) (s1 : Int64) (h : am_H) (o : am_O) (l0 : lv.lookup 0 = some x0) (l5 : lv.lookup 5 = some (.int x5)) (i0 : am_isR x0 = true) (hs : fg_246_114 N rec_21 x0 x5 s0 s1 h = some o) : am_W X (d + 82) 246 114 lv [(.long s1), (.long s0)] h (fun q => q = o) := by
  unfold fg_246_114 at hs
  refine aw_ladd (v := (s0 + s1)) (pc1 := 115) at_246_114 rfl rfl ?_
  refine aw_lstore_n (lv1 := am_put2 _ 3 _) (pc1 := 116) at_246_115 rfl rfl ?_
  exact rg_246_116 q_21 x0 ((s0 + s1)) x5 h o (am_lk2 l0 rfl rfl) am_lk02 (am_lk2 l5 rfl rfl) i0 hs
def fg_246_21 (N : Nat) : Nat → Value → Int64 → Int32 → am_H → Option am_O
  | 0 => fun _ _ _ _ => none
  | K + 1 => fun x0 x3 x5 h => ((am_vI (am_pG 513 x0 h)).bind fun v1 => (if v1 ≤ x5 then some (.inl (some (.long x3), h)) else (if am_pOk 2 x0 h then am_cI true (fm_141 x0 x5 0 h) (fun v5 h6 => (if v5 = 0 then (fg_246_116 N (fg_246_21 N K) x0 x3 x5 h6) else ((am_vR (am_pG 514 x0 h6)).bind fun v9 => ((am_vR (am_pG 512 x0 h6)).bind fun v11 => (if am_pOk 6 v9 h6 then am_cV true (fm_116 N v9 v11 ((x5 * 15)) h6) (fun h15 => ((am_vR (am_pG 515 x0 h15)).bind fun v17 => ((am_vR (am_pG 512 x0 h15)).bind fun v19 => (if am_pOk 6 v17 h15 then am_cV true (fm_116 N v17 v19 ((x5 * 15)) h15) (fun h23 => ((am_vR (am_pG 514 x0 h23)).bind fun v25 => ((am_vI (am_pG 1537 v25 h23)).bind fun v27 => ((am_vR (am_pG 515 x0 h23)).bind fun v29 => ((am_vI (am_pG 1537 v29 h23)).bind fun v31 => (if v27 = v31 then ((am_vR (am_pG 514 x0 h23)).bind fun v34 => ((am_vI (am_pG 1539 v34 h23)).bind fun v36 => ((am_vR (am_pG 515 x0 h23)).bind fun v38 => ((am_vI (am_pG 1539 v38 h23)).bind fun v40 => am_cI false (fm_134 v36 v40 h23) (fun v42 h43 => (fg_246_114 N (fg_246_21 N K) x0 x5 x3 ((Int32.toInt64 v42)) h43)))))) else (fg_246_114 N (fg_246_21 N K) x0 x5 x3 1000000 h23))))))) else none)))) else none))))) else none)))
theorem rg_246_21 {X : am_X} {d : Nat} {N : Nat} : ∀ (K : Nat) (x0 : Value) (x3 : Int64) (x5 : Int32) (h : am_H) (o : am_O), fg_246_21 N K x0 x3 x5 h = some o → ∀ lv : am_LV, (lv.lookup 0 = some x0) → (lv.lookup 3 = some (.long x3)) → (lv.lookup 5 = some (.int x5)) → (am_isR x0 = true) → am_W X (d + 82) 246 21 lv [] h (fun q => q = o) := by
  intro K
  induction K with
  | zero => intro x0 x3 x5 h o hs; cases hs
  | succ K ih =>
    intro x0 x3 x5 h o hs lv l0 l3 l5 i0
    unfold fg_246_21 at hs
    refine aw_iload (pc1 := 23) at_246_21 l5 rfl ?_
    refine aw_vload_n (pc1 := 24) at_246_23 l0 i0 rfl ?_
    obtain ⟨v1, e2, hs1⟩ := am_bind hs
    clear hs
    refine aw_pG (pc1 := 27) at_246_24 (am_vI_s e2) rfl ?_
    by_cases c3 : v1 ≤ x5
    · rw [if_pos c3] at hs1
      refine aw_icge_t at_246_27 c3 ?_
      refine aw_lload_n (pc1 := 123) at_246_122 l3 rfl ?_
      cases hs1
      exact aw_lret at_246_123 rt_246 rfl
    · rw [if_neg c3] at hs1
      refine aw_icge_f (pc1 := 30) at_246_27 c3 rfl ?_
      refine aw_vload_n (pc1 := 31) at_246_30 l0 i0 rfl ?_
      refine aw_iload (pc1 := 33) at_246_31 l5 rfl ?_
      refine aw_iconst (v := 0) (pc1 := 34) at_246_33 (by decide) rfl ?_
      obtain ⟨z4, hs2⟩ := am_ift hs1
      clear hs1
      refine aw_call (F := fm_141 x0 x5 0 h) (t := true) (na := 3) (kd := 1) (as := [x0, (.int x5), (.int 0)]) at_246_34 (am_k3v kb_141) mn_141 mk_141 rfl rfl (am_ok_v mi_141 (am_hl rfl (am_ccR i0 (am_ccI (am_ccI am_cats_0))) rfl) z4) (am_hc am_cats_0 rfl) (fun _ => ⟨rfl, hh_246⟩) (fun o1 hz9 => rm_141 x0 x5 0 h o1 i0 hz9) ?_
      rcases am_cI_s hs2 with ⟨v5, h6, f7, hs3⟩ | hs3
      · clear hs2
        refine Or.inl ⟨_, _, f7, ?_⟩
        show am_W X _ 246 37 _ [(.int v5)] h6 _
        by_cases c8 : v5 = 0
        · rw [if_pos c8] at hs3
          refine aw_ifeq_t at_246_37 c8 ?_
          exact rg_246_116 (fun z0 z1 z2 h o hs3 => ih z0 z1 z2 h o hs3) x0 x3 x5 h6 o l0 l3 l5 i0 hs3
        · rw [if_neg c8] at hs3
          refine aw_ifeq_f (pc1 := 40) at_246_37 c8 rfl ?_
          refine aw_vload_n (pc1 := 41) at_246_40 l0 i0 rfl ?_
          obtain ⟨v9, e10, hs4⟩ := am_bind hs3
          clear hs3
          refine aw_pG (pc1 := 44) at_246_41 (am_vR_s e10).1 rfl ?_
          refine aw_vload_n (pc1 := 45) at_246_44 l0 i0 rfl ?_
          obtain ⟨v11, e12, hs5⟩ := am_bind hs4
          clear hs4
          refine aw_pG (pc1 := 48) at_246_45 (am_vR_s e12).1 rfl ?_
          refine aw_iload (pc1 := 50) at_246_48 l5 rfl ?_
          refine aw_bipush (v := 15) (pc1 := 52) at_246_50 (by decide) rfl ?_
          refine aw_imul (v := (x5 * 15)) (pc1 := 53) at_246_52 rfl rfl ?_
          obtain ⟨z13, hs6⟩ := am_ift hs5
          clear hs5
          refine aw_call (F := fm_116 N v9 v11 ((x5 * 15)) h6) (t := true) (na := 3) (kd := 1) (as := [v9, v11, (.int (x5 * 15))]) at_246_53 (am_k3v kb_116) mn_116 mk_116 rfl rfl (am_ok_v mi_116 (am_hl rfl (am_ccR (am_vR_s e10).2 (am_ccR (am_vR_s e12).2 (am_ccI am_cats_0))) rfl) z13) (am_hc am_cats_0 rfl) (fun _ => ⟨rfl, hh_246⟩) (fun o1 hz9 => rm_116 v9 v11 ((x5 * 15)) h6 o1 (am_vR_s e10).2 (am_vR_s e12).2 hz9) ?_
          rcases am_cV_s hs6 with ⟨h15, f16, hs7⟩ | hs7
          · clear hs6
            refine Or.inl ⟨_, _, f16, ?_⟩
            show am_W X _ 246 56 _ [] h15 _
            refine aw_vload_n (pc1 := 57) at_246_56 l0 i0 rfl ?_
            obtain ⟨v17, e18, hs8⟩ := am_bind hs7
            clear hs7
            refine aw_pG (pc1 := 60) at_246_57 (am_vR_s e18).1 rfl ?_
            refine aw_vload_n (pc1 := 61) at_246_60 l0 i0 rfl ?_
            obtain ⟨v19, e20, hs9⟩ := am_bind hs8
            clear hs8
            refine aw_pG (pc1 := 64) at_246_61 (am_vR_s e20).1 rfl ?_
            refine aw_iload (pc1 := 66) at_246_64 l5 rfl ?_
            refine aw_bipush (v := 15) (pc1 := 68) at_246_66 (by decide) rfl ?_
            refine aw_imul (v := (x5 * 15)) (pc1 := 69) at_246_68 rfl rfl ?_
            obtain ⟨z21, hs10⟩ := am_ift hs9
            clear hs9
            refine aw_call (F := fm_116 N v17 v19 ((x5 * 15)) h15) (t := true) (na := 3) (kd := 1) (as := [v17, v19, (.int (x5 * 15))]) at_246_69 (am_k3v kb_116) mn_116 mk_116 rfl rfl (am_ok_v mi_116 (am_hl rfl (am_ccR (am_vR_s e18).2 (am_ccR (am_vR_s e20).2 (am_ccI am_cats_0))) rfl) z21) (am_hc am_cats_0 rfl) (fun _ => ⟨rfl, hh_246⟩) (fun o1 hz9 => rm_116 v17 v19 ((x5 * 15)) h15 o1 (am_vR_s e18).2 (am_vR_s e20).2 hz9) ?_
            rcases am_cV_s hs10 with ⟨h23, f24, hs11⟩ | hs11
            · clear hs10
              refine Or.inl ⟨_, _, f24, ?_⟩
              show am_W X _ 246 72 _ [] h23 _
              refine aw_lload_n (pc1 := 73) at_246_72 l3 rfl ?_
              refine aw_vload_n (pc1 := 74) at_246_73 l0 i0 rfl ?_
              obtain ⟨v25, e26, hs12⟩ := am_bind hs11
              clear hs11
              refine aw_pG (pc1 := 77) at_246_74 (am_vR_s e26).1 rfl ?_
              obtain ⟨v27, e28, hs13⟩ := am_bind hs12
              clear hs12
              refine aw_pG (pc1 := 80) at_246_77 (am_vI_s e28) rfl ?_
              refine aw_vload_n (pc1 := 81) at_246_80 l0 i0 rfl ?_
              obtain ⟨v29, e30, hs14⟩ := am_bind hs13
              clear hs13
              refine aw_pG (pc1 := 84) at_246_81 (am_vR_s e30).1 rfl ?_
              obtain ⟨v31, e32, hs15⟩ := am_bind hs14
              clear hs14
              refine aw_pG (pc1 := 87) at_246_84 (am_vI_s e32) rfl ?_
              by_cases c33 : v27 = v31
              · rw [if_pos c33] at hs15
                refine aw_iceq_t at_246_87 c33 ?_
                refine aw_vload_n (pc1 := 97) at_246_96 l0 i0 rfl ?_
                obtain ⟨v34, e35, hs16⟩ := am_bind hs15
                clear hs15
                refine aw_pG (pc1 := 100) at_246_97 (am_vR_s e35).1 rfl ?_
                obtain ⟨v36, e37, hs17⟩ := am_bind hs16
                clear hs16
                refine aw_pG (pc1 := 103) at_246_100 (am_vI_s e37) rfl ?_
                refine aw_vload_n (pc1 := 104) at_246_103 l0 i0 rfl ?_
                obtain ⟨v38, e39, hs18⟩ := am_bind hs17
                clear hs17
                refine aw_pG (pc1 := 107) at_246_104 (am_vR_s e39).1 rfl ?_
                obtain ⟨v40, e41, hs19⟩ := am_bind hs18
                clear hs18
                refine aw_pG (pc1 := 110) at_246_107 (am_vI_s e41) rfl ?_
                refine aw_call (F := fm_134 v36 v40 h23) (t := false) (na := 2) (kd := 0) (as := [(.int v36), (.int v40)]) at_246_110 (am_k3s kb_134) mn_134 mk_134 rfl rfl (am_ok_s mi_134 (am_hl rfl (am_ccI (am_ccI am_cats_0)) rfl)) (am_hc (am_ccL am_cats_0) rfl) (fun hz9 => by cases hz9) (fun o1 hz9 => rm_134 v36 v40 h23 o1  hz9) ?_
                rcases am_cI_s hs19 with ⟨v42, h43, f44, hs20⟩ | hs20
                · clear hs19
                  refine Or.inl ⟨_, _, f44, ?_⟩
                  show am_W X _ 246 113 _ [(.int v42), (.long x3)] h43 _
                  refine aw_i2l (v := (Int32.toInt64 v42)) (pc1 := 114) at_246_113 rfl rfl ?_
                  exact rg_246_114 (fun z0 z1 z2 h o hs20 => ih z0 z1 z2 h o hs20) x0 x5 x3 ((Int32.toInt64 v42)) h43 o l0 l5 i0 hs20
                · clear hs19
                  exact Or.inr hs20
              · rw [if_neg c33] at hs15
                refine aw_iceq_f (pc1 := 90) at_246_87 c33 rfl ?_
                refine aw_ldc2 (v := 1000000) (pc1 := 93) at_246_90 rfl rfl ?_
                refine aw_goto at_246_93 ?_
                exact rg_246_114 (fun z0 z1 z2 h o hs15 => ih z0 z1 z2 h o hs15) x0 x5 x3 1000000 h23 o l0 l5 i0 hs15
            · clear hs10
              exact Or.inr hs11
          · clear hs6
            exact Or.inr hs7
      · clear hs2
        exact Or.inr hs3
def fg_246_0 (N : Nat) (x0 : Value) (x1 : Value) (x2 : Value) (h : am_H) : Option am_O := ((am_vR (am_pG 514 x0 h)).bind fun v1 => (if am_pOk 6 v1 h then am_cV true (fm_115 N v1 x1 h) (fun h5 => ((am_vR (am_pG 515 x0 h5)).bind fun v7 => (if am_pOk 6 v7 h5 then am_cV true (fm_115 N v7 x2 h5) (fun h11 => (fg_246_21 N N x0 0 0 h11)) else none))) else none))
theorem rg_246_0 {X : am_X} {d : Nat} {N : Nat} {lv : am_LV} (x0 : Value) (x1 : Value) (x2 : Value) (h : am_H) (o : am_O) (l0 : lv.lookup 0 = some x0) (l1 : lv.lookup 1 = some x1) (l2 : lv.lookup 2 = some x2) (i0 : am_isR x0 = true) (i1 : am_isR x1 = true) (i2 : am_isR x2 = true) (hs : fg_246_0 N x0 x1 x2 h = some o) : am_W X (d + 82) 246 0 lv [] h (fun q => q = o) := by
  unfold fg_246_0 at hs
  refine aw_vload_n (pc1 := 1) at_246_0 l0 i0 rfl ?_
  obtain ⟨v1, e2, hs1⟩ := am_bind hs
  clear hs
  refine aw_pG (pc1 := 4) at_246_1 (am_vR_s e2).1 rfl ?_
  refine aw_vload_n (pc1 := 5) at_246_4 l1 i1 rfl ?_
  obtain ⟨z3, hs2⟩ := am_ift hs1
  clear hs1
  refine aw_call (F := fm_115 N v1 x1 h) (t := true) (na := 2) (kd := 1) (as := [v1, x1]) at_246_5 (am_k3v kb_115) mn_115 mk_115 rfl rfl (am_ok_v mi_115 (am_hl rfl (am_ccR (am_vR_s e2).2 (am_ccR i1 am_cats_0)) rfl) z3) (am_hc am_cats_0 rfl) (fun _ => ⟨rfl, hh_246⟩) (fun o1 hz9 => rm_115 v1 x1 h o1 (am_vR_s e2).2 i1 hz9) ?_
  rcases am_cV_s hs2 with ⟨h5, f6, hs3⟩ | hs3
  · clear hs2
    refine Or.inl ⟨_, _, f6, ?_⟩
    show am_W X _ 246 8 _ [] h5 _
    refine aw_vload_n (pc1 := 9) at_246_8 l0 i0 rfl ?_
    obtain ⟨v7, e8, hs4⟩ := am_bind hs3
    clear hs3
    refine aw_pG (pc1 := 12) at_246_9 (am_vR_s e8).1 rfl ?_
    refine aw_vload_n (pc1 := 13) at_246_12 l2 i2 rfl ?_
    obtain ⟨z9, hs5⟩ := am_ift hs4
    clear hs4
    refine aw_call (F := fm_115 N v7 x2 h5) (t := true) (na := 2) (kd := 1) (as := [v7, x2]) at_246_13 (am_k3v kb_115) mn_115 mk_115 rfl rfl (am_ok_v mi_115 (am_hl rfl (am_ccR (am_vR_s e8).2 (am_ccR i2 am_cats_0)) rfl) z9) (am_hc am_cats_0 rfl) (fun _ => ⟨rfl, hh_246⟩) (fun o1 hz9 => rm_115 v7 x2 h5 o1 (am_vR_s e8).2 i2 hz9) ?_
    rcases am_cV_s hs5 with ⟨h11, f12, hs6⟩ | hs6
    · clear hs5
      refine Or.inl ⟨_, _, f12, ?_⟩
      show am_W X _ 246 16 _ [] h11 _
      refine aw_lconst (v := 0) (pc1 := 17) at_246_16 (by decide) rfl ?_
      refine aw_lstore_n (lv1 := am_put2 _ 3 _) (pc1 := 18) at_246_17 rfl rfl ?_
      refine aw_iconst (v := 0) (pc1 := 19) at_246_18 (by decide) rfl ?_
      refine aw_istore (lv1 := am_put1 _ 5 _) (pc1 := 21) at_246_19 rfl rfl ?_
      exact rg_246_21 N x0 0 0 h11 o hs6 _ (am_lk1 (am_lk2 l0 rfl rfl) rfl rfl) (am_lk1 am_lk02 rfl rfl) am_lk0 i0
    · clear hs5
      exact Or.inr hs6
  · clear hs2
    exact Or.inr hs3
def fm_246 (N : Nat) (y0 : Value) (y1 : Value) (y2 : Value) (h : am_H) : Option am_O := fg_246_0 N y0 y1 y2 h
theorem rm_246 {X : am_X} {d : Nat} {N : Nat} (y0 : Value) (y1 : Value) (y2 : Value) (h : am_H) (o : am_O) (i0 : am_isR y0 = true) (i1 : am_isR y1 = true) (i2 : am_isR y2 = true) (hs : fm_246 N y0 y1 y2 h = some o) : am_W X (d + 82) 246 0 (am_args 0 [y0, y1, y2]) [] h (fun q => q = o) := by
  rw [am_args_R i0, am_args_R i1, am_args_R i2]
  exact rg_246_0 y0 y1 y2 h o rfl rfl rfl i0 i1 i2 hs
def fg_245_0 (N : Nat) (x0 : Value) (x1 : Int32) (x2 : Int32) (h : am_H) : Option am_O := (if am_pOk 11 x0 h then am_cR true (fm_63 x0 x1 h) (fun v2 h3 => ((am_vR (am_pG 2819 x0 h3)).bind fun v5 => (if am_pOk 11 x0 h3 then am_cR true (fm_63 x0 x2 h3) (fun v8 h9 => (if am_pOk 2 v5 h9 then am_cL true (fm_246 N v5 v2 v8 h9) (fun v12 h13 => some (.inl (some (.long v12), h13))) else none)) else none))) else none)
theorem rg_245_0 {X : am_X} {d : Nat} {N : Nat} {lv : am_LV} (x0 : Value) (x1 : Int32) (x2 : Int32) (h : am_H) (o : am_O) (l0 : lv.lookup 0 = some x0) (l1 : lv.lookup 1 = some (.int x1)) (l2 : lv.lookup 2 = some (.int x2)) (i0 : am_isR x0 = true) (hs : fg_245_0 N x0 x1 x2 h = some o) : am_W X (d + 83) 245 0 lv [] h (fun q => q = o) := by
  unfold fg_245_0 at hs
  refine aw_vload_n (pc1 := 1) at_245_0 l0 i0 rfl ?_
  refine aw_iload_n (pc1 := 2) at_245_1 l1 rfl ?_
  obtain ⟨z1, hs1⟩ := am_ift hs
  clear hs
  refine aw_call (F := fm_63 x0 x1 h) (t := true) (na := 2) (kd := 1) (as := [x0, (.int x1)]) at_245_2 (am_k3v kb_63) mn_63 mk_63 rfl rfl (am_ok_v mi_63 (am_hl rfl (am_ccR i0 (am_ccI am_cats_0)) rfl) z1) (am_hc am_cats_0 rfl) (fun _ => ⟨rfl, hh_245⟩) (fun o1 hz9 => rm_63 x0 x1 h o1 i0 hz9) ?_
  rcases am_cR_s hs1 with ⟨v2, h3, f4, iv2, hs2⟩ | hs2
  · clear hs1
    refine Or.inl ⟨_, _, f4, ?_⟩
    show am_W X _ 245 5 _ [v2] h3 _
    refine aw_vstore_n (lv1 := am_put1 _ 3 _) (pc1 := 6) at_245_5 iv2 rfl rfl ?_
    refine aw_vload_n (pc1 := 7) at_245_6 (am_lk1 l0 rfl rfl) i0 rfl ?_
    obtain ⟨v5, e6, hs3⟩ := am_bind hs2
    clear hs2
    refine aw_pG (pc1 := 10) at_245_7 (am_vR_s e6).1 rfl ?_
    refine aw_vload_n (pc1 := 11) at_245_10 am_lk0 iv2 rfl ?_
    refine aw_vload_n (pc1 := 12) at_245_11 (am_lk1 l0 rfl rfl) i0 rfl ?_
    refine aw_iload_n (pc1 := 13) at_245_12 (am_lk1 l2 rfl rfl) rfl ?_
    obtain ⟨z7, hs4⟩ := am_ift hs3
    clear hs3
    refine aw_call (F := fm_63 x0 x2 h3) (t := true) (na := 2) (kd := 1) (as := [x0, (.int x2)]) at_245_13 (am_k3v kb_63) mn_63 mk_63 rfl rfl (am_ok_v mi_63 (am_hl rfl (am_ccR i0 (am_ccI am_cats_0)) rfl) z7) (am_hc (am_ccR iv2 (am_ccR (am_vR_s e6).2 am_cats_0)) rfl) (fun _ => ⟨rfl, hh_245⟩) (fun o1 hz9 => rm_63 x0 x2 h3 o1 i0 hz9) ?_
    rcases am_cR_s hs4 with ⟨v8, h9, f10, iv8, hs5⟩ | hs5
    · clear hs4
      refine Or.inl ⟨_, _, f10, ?_⟩
      show am_W X _ 245 16 _ [v8, v2, v5] h9 _
      obtain ⟨z11, hs6⟩ := am_ift hs5
      clear hs5
      refine aw_call (F := fm_246 N v5 v2 v8 h9) (t := true) (na := 3) (kd := 1) (as := [v5, v2, v8]) at_245_16 (am_k3v kb_246) mn_246 mk_246 rfl rfl (am_ok_v mi_246 (am_hl rfl (am_ccR (am_vR_s e6).2 (am_ccR iv2 (am_ccR iv8 am_cats_0))) rfl) z11) (am_hc am_cats_0 rfl) (fun _ => ⟨rfl, hh_245⟩) (fun o1 hz9 => rm_246 v5 v2 v8 h9 o1 (am_vR_s e6).2 iv2 iv8 hz9) ?_
      rcases am_cL_s hs6 with ⟨v12, h13, f14, hs7⟩ | hs7
      · clear hs6
        refine Or.inl ⟨_, _, f14, ?_⟩
        show am_W X _ 245 19 _ [(.long v12)] h13 _
        cases hs7
        exact aw_lret at_245_19 rt_245 rfl
      · clear hs6
        exact Or.inr hs7
    · clear hs4
      exact Or.inr hs5
  · clear hs1
    exact Or.inr hs2
def fm_245 (N : Nat) (y0 : Value) (y1 : Int32) (y2 : Int32) (h : am_H) : Option am_O := fg_245_0 N y0 y1 y2 h
theorem rm_245 {X : am_X} {d : Nat} {N : Nat} (y0 : Value) (y1 : Int32) (y2 : Int32) (h : am_H) (o : am_O) (i0 : am_isR y0 = true) (hs : fm_245 N y0 y1 y2 h = some o) : am_W X (d + 83) 245 0 (am_args 0 [y0, .int y1, .int y2]) [] h (fun q => q = o) := by
  rw [am_args_R i0, am_args_I, am_args_I]
  exact rg_245_0 y0 y1 y2 h o rfl rfl rfl i0 hs
def fg_244_14 (N : Nat) (h : am_H) : Option am_O := some (.inl (some (.int 1), h))
theorem rg_244_14 {X : am_X} {d : Nat} {N : Nat} {lv : am_LV} (h : am_H) (o : am_O) (hs : fg_244_14 N h = some o) : am_W X (d + 84) 244 14 lv [] h (fun q => q = o) := by
  unfold fg_244_14 at hs
  refine aw_iconst (v := 1) (pc1 := 15) at_244_14 (by decide) rfl ?_
  cases hs
  exact aw_iret at_244_15 (by rw [rt_244]; rfl) rfl
def fg_244_0 (N : Nat) (x0 : Value) (x1 : Int32) (x2 : Int32) (x3 : Value) (h : am_H) : Option am_O := (if am_pOk 11 x0 h then (match fm_245 N x0 x1 x2 h with | some (.inl (some (.long v2), h3)) => ((am_pSL x3 0 v2 h3).bind fun h5 => some (.inl (some (.int 0), h5))) | some (.inr (2, h7)) => (fg_244_14 N h7) | _ => none) else none)
theorem rg_244_0 {X : am_X} {d : Nat} {N : Nat} {lv : am_LV} (x0 : Value) (x1 : Int32) (x2 : Int32) (x3 : Value) (h : am_H) (o : am_O) (l0 : lv.lookup 0 = some x0) (l1 : lv.lookup 1 = some (.int x1)) (l2 : lv.lookup 2 = some (.int x2)) (l3 : lv.lookup 3 = some x3) (i0 : am_isR x0 = true) (i3 : am_isR x3 = true) (hs : fg_244_0 N x0 x1 x2 x3 h = some o) : am_W X (d + 84) 244 0 lv [] h (fun q => q = o) := by
  unfold fg_244_0 at hs
  refine aw_vload_n (pc1 := 1) at_244_0 l3 i3 rfl ?_
  refine aw_iconst (v := 0) (pc1 := 2) at_244_1 (by decide) rfl ?_
  refine aw_vload_n (pc1 := 3) at_244_2 l0 i0 rfl ?_
  refine aw_iload_n (pc1 := 4) at_244_3 l1 rfl ?_
  refine aw_iload_n (pc1 := 5) at_244_4 l2 rfl ?_
  obtain ⟨z1, hs1⟩ := am_ift hs
  clear hs
  refine aw_callH (F := fm_245 N x0 x1 x2 h) (na := 3) (kd := 1) (as := [x0, (.int x1), (.int x2)]) at_244_5 (am_k3v kb_245) mn_245 mk_245 rfl rfl (am_ok_v mi_245 (am_hl rfl (am_ccR i0 (am_ccI (am_ccI am_cats_0))) rfl) z1) (am_hc (am_ccI (am_ccR i3 am_cats_0)) rfl) (fun o1 hz9 => rm_245 x0 x1 x2 h o1 i0 hz9) ?_
  split at hs1
  · rename_i v2 h3 f4
    refine Or.inl ⟨_, _, f4, ?_⟩
    show am_W X _ 244 8 _ [(.long v2), (.int 0), x3] h3 _
    obtain ⟨h5, e6, hs2⟩ := am_bind hs1
    clear hs1
    refine aw_pSL (pc1 := 9) at_244_8 e6 rfl ?_
    refine aw_goto at_244_9 ?_
    refine aw_iconst (v := 0) (pc1 := 17) at_244_16 (by decide) rfl ?_
    cases hs2
    exact aw_iret at_244_17 (by rw [rt_244]; rfl) rfl
  · rename_i h7 f8
    refine Or.inr ⟨_, _, 14, 4, f8, rfl, hn_244, hd_244_5_2, ?_⟩
    exact rg_244_14 h7 o   hs1
  · cases hs1
def fm_244 (N : Nat) (y0 : Value) (y1 : Int32) (y2 : Int32) (y3 : Value) (h : am_H) : Option am_O := fg_244_0 N y0 y1 y2 y3 h
theorem rm_244 {X : am_X} {d : Nat} {N : Nat} (y0 : Value) (y1 : Int32) (y2 : Int32) (y3 : Value) (h : am_H) (o : am_O) (i0 : am_isR y0 = true) (i3 : am_isR y3 = true) (hs : fm_244 N y0 y1 y2 y3 h = some o) : am_W X (d + 84) 244 0 (am_args 0 [y0, .int y1, .int y2, y3]) [] h (fun q => q = o) := by
  rw [am_args_R i0, am_args_I, am_args_I, am_args_R i3]
  exact rg_244_0 y0 y1 y2 y3 h o rfl rfl rfl rfl i0 i3 hs
def fg_525_99 (N : Nat) (rec_5 : Value → Int32 → Int32 → Int64 → Int32 → am_H → Option am_O) (x0 : Value) (x1 : Int32) (x2 : Int32) (x3 : Int64) (x5 : Int32) (h : am_H) : Option am_O := (rec_5 x0 x1 x2 x3 ((x5 + 1)) h)
theorem rg_525_99 {X : am_X} {d : Nat} {N : Nat} {rec_5 : Value → Int32 → Int32 → Int64 → Int32 → am_H → Option am_O} (q_5 : ∀ (x0 : Value) (x1 : Int32) (x2 : Int32) (x3 : Int64) (x5 : Int32) (h : am_H) (o : am_O), rec_5 x0 x1 x2 x3 x5 h = some o → ∀ lv : am_LV, (lv.lookup 0 = some x0) → (lv.lookup 1 = some (.int x1)) → (lv.lookup 2 = some (.int x2)) → (lv.lookup 3 = some (.long x3)) → (lv.lookup 5 = some (.int x5)) → (am_isR x0 = true) → am_W X (d + 6) 525 5 lv [] h (fun q => q = o)) {lv : am_LV} (x0 : Value) (x1 : Int32) (x2 : Int32) (x3 : Int64) (x5 : Int32) (h : am_H) (o : am_O) (l0 : lv.lookup 0 = some x0) (l1 : lv.lookup 1 = some (.int x1)) (l2 : lv.lookup 2 = some (.int x2)) (l3 : lv.lookup 3 = some (.long x3)) (l5 : lv.lookup 5 = some (.int x5)) (i0 : am_isR x0 = true) (hs : fg_525_99 N rec_5 x0 x1 x2 x3 x5 h = some o) : am_W X (d + 6) 525 99 lv [] h (fun q => q = o) := by
  unfold fg_525_99 at hs
  refine aw_iinc (v := (x5 + 1)) (c := 1) (lv1 := am_put1 _ 5 _) (pc1 := 102) at_525_99 l5 (by decide) rfl rfl rfl ?_
  refine aw_goto at_525_102 ?_
  exact q_5 x0 x1 x2 x3 ((x5 + 1)) h o hs _ (am_lk1 l0 rfl rfl) (am_lk1 l1 rfl rfl) (am_lk1 l2 rfl rfl) (am_lk1 l3 rfl rfl) am_lk0 i0
def fg_525_97 (N : Nat) (rec_5 : Value → Int32 → Int32 → Int64 → Int32 → am_H → Option am_O) (x0 : Value) (x1 : Int32) (x2 : Int32) (x5 : Int32) (s0 : Int64) (s1 : Int64) (h : am_H) : Option am_O := (fg_525_99 N rec_5 x0 x1 x2 ((s0 + s1)) x5 h)
theorem rg_525_97 {X : am_X} {d : Nat} {N : Nat} {rec_5 : Value → Int32 → Int32 → Int64 → Int32 → am_H → Option am_O} (q_5 : ∀ (x0 : Value) (x1 : Int32) (x2 : Int32) (x3 : Int64) (x5 : Int32) (h : am_H) (o : am_O), rec_5 x0 x1 x2 x3 x5 h = some o → ∀ lv : am_LV, (lv.lookup 0 = some x0) → (lv.lookup 1 = some (.int x1)) → (lv.lookup 2 = some (.int x2)) → (lv.lookup 3 = some (.long x3)) → (lv.lookup 5 = some (.int x5)) → (am_isR x0 = true) → am_W X (d + 6) 525 5 lv [] h (fun q => q = o)) {lv : am_LV} (x0 : Value) (x1 : Int32) (x2 : Int32) (x5 : Int32) (s0 : Int64) (s1 : Int64) (h : am_H) (o : am_O) (l0 : lv.lookup 0 = some x0) (l1 : lv.lookup 1 = some (.int x1)) (l2 : lv.lookup 2 = some (.int x2)) (l5 : lv.lookup 5 = some (.int x5)) (i0 : am_isR x0 = true) (hs : fg_525_97 N rec_5 x0 x1 x2 x5 s0 s1 h = some o) : am_W X (d + 6) 525 97 lv [(.long s1), (.long s0)] h (fun q => q = o) := by
  unfold fg_525_97 at hs
  refine aw_ladd (v := (s0 + s1)) (pc1 := 98) at_525_97 rfl rfl ?_
  refine aw_lstore_n (lv1 := am_put2 _ 3 _) (pc1 := 99) at_525_98 rfl rfl ?_
  exact rg_525_99 q_5 x0 x1 x2 ((s0 + s1)) x5 h o (am_lk2 l0 rfl rfl) (am_lk2 l1 rfl rfl) (am_lk2 l2 rfl rfl) am_lk02 (am_lk2 l5 rfl rfl) i0 hs
def fg_525_5 (N : Nat) : Nat → Value → Int32 → Int32 → Int64 → Int32 → am_H → Option am_O
  | 0 => fun _ _ _ _ _ _ => none
  | K + 1 => fun x0 x1 x2 x3 x5 h => ((am_vI (am_pG 3103 x0 h)).bind fun v1 => (if v1 ≤ x5 then some (.inl (some (.long x3), h)) else ((am_vR (am_pG 3109 x0 h)).bind fun v4 => ((am_pA 2 v4 x5 h).bind fun v6 => (if v6 = 0 then (if am_pOk 12 x0 h then am_cV true (fm_359 N x0 x1 h) (fun h11 => (if am_pOk 12 x0 h11 then am_cV true (fm_402 N x0 x5 h11) (fun h15 => (if am_pOk 12 x0 h15 then am_cV true (fm_403 N x0 h15) (fun h19 => ((am_vI (am_pG 3120 x0 h19)).bind fun v21 => ((am_vI (am_pG 3121 x0 h19)).bind fun v23 => (if am_pOk 12 x0 h19 then am_cV true (fm_359 N x0 x2 h19) (fun h27 => (if am_pOk 12 x0 h27 then am_cV true (fm_403 N x0 h27) (fun h31 => ((am_vI (am_pG 3120 x0 h31)).bind fun v33 => (if v21 = v33 then (if v21 ≤ 0 then ((am_vI (am_pG 3121 x0 h31)).bind fun v37 => am_cL false (fm_426 v23 v37 h31) (fun v39 h40 => (fg_525_97 N (fg_525_5 N K) x0 x1 x2 x5 x3 v39 h40))) else (fg_525_97 N (fg_525_5 N K) x0 x1 x2 x5 x3 0 h31)) else (fg_525_97 N (fg_525_5 N K) x0 x1 x2 x5 x3 1000000 h31)))) else none)) else none)))) else none)) else none)) else none) else (fg_525_99 N (fg_525_5 N K) x0 x1 x2 x3 x5 h))))))
theorem rg_525_5 {X : am_X} {d : Nat} {N : Nat} : ∀ (K : Nat) (x0 : Value) (x1 : Int32) (x2 : Int32) (x3 : Int64) (x5 : Int32) (h : am_H) (o : am_O), fg_525_5 N K x0 x1 x2 x3 x5 h = some o → ∀ lv : am_LV, (lv.lookup 0 = some x0) → (lv.lookup 1 = some (.int x1)) → (lv.lookup 2 = some (.int x2)) → (lv.lookup 3 = some (.long x3)) → (lv.lookup 5 = some (.int x5)) → (am_isR x0 = true) → am_W X (d + 6) 525 5 lv [] h (fun q => q = o) := by
  intro K
  induction K with
  | zero => intro x0 x1 x2 x3 x5 h o hs; cases hs
  | succ K ih =>
    intro x0 x1 x2 x3 x5 h o hs lv l0 l1 l2 l3 l5 i0
    unfold fg_525_5 at hs
    refine aw_iload (pc1 := 7) at_525_5 l5 rfl ?_
    refine aw_vload_n (pc1 := 8) at_525_7 l0 i0 rfl ?_
    obtain ⟨v1, e2, hs1⟩ := am_bind hs
    clear hs
    refine aw_pG (pc1 := 11) at_525_8 (am_vI_s e2) rfl ?_
    by_cases c3 : v1 ≤ x5
    · rw [if_pos c3] at hs1
      refine aw_icge_t at_525_11 c3 ?_
      refine aw_lload_n (pc1 := 106) at_525_105 l3 rfl ?_
      cases hs1
      exact aw_lret at_525_106 rt_525 rfl
    · rw [if_neg c3] at hs1
      refine aw_icge_f (pc1 := 14) at_525_11 c3 rfl ?_
      refine aw_vload_n (pc1 := 15) at_525_14 l0 i0 rfl ?_
      obtain ⟨v4, e5, hs2⟩ := am_bind hs1
      clear hs1
      refine aw_pG (pc1 := 18) at_525_15 (am_vR_s e5).1 rfl ?_
      refine aw_iload (pc1 := 20) at_525_18 l5 rfl ?_
      obtain ⟨v6, e7, hs3⟩ := am_bind hs2
      clear hs2
      refine aw_pA (pc1 := 21) at_525_20 (Or.inr (Or.inl ⟨rfl, rfl⟩)) e7 rfl ?_
      by_cases c8 : v6 = 0
      · rw [if_pos c8] at hs3
        refine aw_ifeq_t at_525_21 c8 ?_
        refine aw_vload_n (pc1 := 28) at_525_27 l0 i0 rfl ?_
        refine aw_iload_n (pc1 := 29) at_525_28 l1 rfl ?_
        obtain ⟨z9, hs4⟩ := am_ift hs3
        clear hs3
        refine aw_call (F := fm_359 N x0 x1 h) (t := true) (na := 2) (kd := 1) (as := [x0, (.int x1)]) at_525_29 (am_k3v kb_359) mn_359 mk_359 rfl rfl (am_ok_v mi_359 (am_hl rfl (am_ccR i0 (am_ccI am_cats_0)) rfl) z9) (am_hc am_cats_0 rfl) (fun _ => ⟨rfl, hh_525⟩) (fun o1 hz9 => rm_359 x0 x1 h o1 i0 hz9) ?_
        rcases am_cV_s hs4 with ⟨h11, f12, hs5⟩ | hs5
        · clear hs4
          refine Or.inl ⟨_, _, f12, ?_⟩
          show am_W X _ 525 32 _ [] h11 _
          refine aw_vload_n (pc1 := 33) at_525_32 l0 i0 rfl ?_
          refine aw_iload (pc1 := 35) at_525_33 l5 rfl ?_
          obtain ⟨z13, hs6⟩ := am_ift hs5
          clear hs5
          refine aw_call (F := fm_402 N x0 x5 h11) (t := true) (na := 2) (kd := 1) (as := [x0, (.int x5)]) at_525_35 (am_k3v kb_402) mn_402 mk_402 rfl rfl (am_ok_v mi_402 (am_hl rfl (am_ccR i0 (am_ccI am_cats_0)) rfl) z13) (am_hc am_cats_0 rfl) (fun _ => ⟨rfl, hh_525⟩) (fun o1 hz9 => rm_402 x0 x5 h11 o1 i0 hz9) ?_
          rcases am_cV_s hs6 with ⟨h15, f16, hs7⟩ | hs7
          · clear hs6
            refine Or.inl ⟨_, _, f16, ?_⟩
            show am_W X _ 525 38 _ [] h15 _
            refine aw_vload_n (pc1 := 39) at_525_38 l0 i0 rfl ?_
            obtain ⟨z17, hs8⟩ := am_ift hs7
            clear hs7
            refine aw_call (F := fm_403 N x0 h15) (t := true) (na := 1) (kd := 1) (as := [x0]) at_525_39 (am_k3v kb_403) mn_403 mk_403 rfl rfl (am_ok_v mi_403 (am_hl rfl (am_ccR i0 am_cats_0) rfl) z17) (am_hc am_cats_0 rfl) (fun _ => ⟨rfl, hh_525⟩) (fun o1 hz9 => rm_403 x0 h15 o1 i0 hz9) ?_
            rcases am_cV_s hs8 with ⟨h19, f20, hs9⟩ | hs9
            · clear hs8
              refine Or.inl ⟨_, _, f20, ?_⟩
              show am_W X _ 525 42 _ [] h19 _
              refine aw_vload_n (pc1 := 43) at_525_42 l0 i0 rfl ?_
              obtain ⟨v21, e22, hs10⟩ := am_bind hs9
              clear hs9
              refine aw_pG (pc1 := 46) at_525_43 (am_vI_s e22) rfl ?_
              refine aw_istore (lv1 := am_put1 _ 6 _) (pc1 := 48) at_525_46 rfl rfl ?_
              refine aw_vload_n (pc1 := 49) at_525_48 (am_lk1 l0 rfl rfl) i0 rfl ?_
              obtain ⟨v23, e24, hs11⟩ := am_bind hs10
              clear hs10
              refine aw_pG (pc1 := 52) at_525_49 (am_vI_s e24) rfl ?_
              refine aw_istore (lv1 := am_put1 _ 7 _) (pc1 := 54) at_525_52 rfl rfl ?_
              refine aw_vload_n (pc1 := 55) at_525_54 (am_lk1 (am_lk1 l0 rfl rfl) rfl rfl) i0 rfl ?_
              refine aw_iload_n (pc1 := 56) at_525_55 (am_lk1 (am_lk1 l2 rfl rfl) rfl rfl) rfl ?_
              obtain ⟨z25, hs12⟩ := am_ift hs11
              clear hs11
              refine aw_call (F := fm_359 N x0 x2 h19) (t := true) (na := 2) (kd := 1) (as := [x0, (.int x2)]) at_525_56 (am_k3v kb_359) mn_359 mk_359 rfl rfl (am_ok_v mi_359 (am_hl rfl (am_ccR i0 (am_ccI am_cats_0)) rfl) z25) (am_hc am_cats_0 rfl) (fun _ => ⟨rfl, hh_525⟩) (fun o1 hz9 => rm_359 x0 x2 h19 o1 i0 hz9) ?_
              rcases am_cV_s hs12 with ⟨h27, f28, hs13⟩ | hs13
              · clear hs12
                refine Or.inl ⟨_, _, f28, ?_⟩
                show am_W X _ 525 59 _ [] h27 _
                refine aw_vload_n (pc1 := 60) at_525_59 (am_lk1 (am_lk1 l0 rfl rfl) rfl rfl) i0 rfl ?_
                obtain ⟨z29, hs14⟩ := am_ift hs13
                clear hs13
                refine aw_call (F := fm_403 N x0 h27) (t := true) (na := 1) (kd := 1) (as := [x0]) at_525_60 (am_k3v kb_403) mn_403 mk_403 rfl rfl (am_ok_v mi_403 (am_hl rfl (am_ccR i0 am_cats_0) rfl) z29) (am_hc am_cats_0 rfl) (fun _ => ⟨rfl, hh_525⟩) (fun o1 hz9 => rm_403 x0 h27 o1 i0 hz9) ?_
                rcases am_cV_s hs14 with ⟨h31, f32, hs15⟩ | hs15
                · clear hs14
                  refine Or.inl ⟨_, _, f32, ?_⟩
                  show am_W X _ 525 63 _ [] h31 _
                  refine aw_lload_n (pc1 := 64) at_525_63 (am_lk1 (am_lk1 l3 rfl rfl) rfl rfl) rfl ?_
                  refine aw_iload (pc1 := 66) at_525_64 (am_lk1 am_lk0 rfl rfl) rfl ?_
                  refine aw_vload_n (pc1 := 67) at_525_66 (am_lk1 (am_lk1 l0 rfl rfl) rfl rfl) i0 rfl ?_
                  obtain ⟨v33, e34, hs16⟩ := am_bind hs15
                  clear hs15
                  refine aw_pG (pc1 := 70) at_525_67 (am_vI_s e34) rfl ?_
                  by_cases c35 : v21 = v33
                  · rw [if_pos c35] at hs16
                    refine aw_iceq_t at_525_70 c35 ?_
                    refine aw_iload (pc1 := 81) at_525_79 (am_lk1 am_lk0 rfl rfl) rfl ?_
                    by_cases c36 : v21 ≤ 0
                    · rw [if_pos c36] at hs16
                      refine aw_ifle_t at_525_81 c36 ?_
                      refine aw_iload (pc1 := 90) at_525_88 am_lk0 rfl ?_
                      refine aw_vload_n (pc1 := 91) at_525_90 (am_lk1 (am_lk1 l0 rfl rfl) rfl rfl) i0 rfl ?_
                      obtain ⟨v37, e38, hs17⟩ := am_bind hs16
                      clear hs16
                      refine aw_pG (pc1 := 94) at_525_91 (am_vI_s e38) rfl ?_
                      refine aw_call (F := fm_426 v23 v37 h31) (t := false) (na := 2) (kd := 0) (as := [(.int v23), (.int v37)]) at_525_94 (am_k3s kb_426) mn_426 mk_426 rfl rfl (am_ok_s mi_426 (am_hl rfl (am_ccI (am_ccI am_cats_0)) rfl)) (am_hc (am_ccL am_cats_0) rfl) (fun hz9 => by cases hz9) (fun o1 hz9 => rm_426 v23 v37 h31 o1  hz9) ?_
                      rcases am_cL_s hs17 with ⟨v39, h40, f41, hs18⟩ | hs18
                      · clear hs17
                        refine Or.inl ⟨_, _, f41, ?_⟩
                        show am_W X _ 525 97 _ [(.long v39), (.long x3)] h40 _
                        exact rg_525_97 (fun z0 z1 z2 z3 z4 h o hs18 => ih z0 z1 z2 z3 z4 h o hs18) x0 x1 x2 x5 x3 v39 h40 o (am_lk1 (am_lk1 l0 rfl rfl) rfl rfl) (am_lk1 (am_lk1 l1 rfl rfl) rfl rfl) (am_lk1 (am_lk1 l2 rfl rfl) rfl rfl) (am_lk1 (am_lk1 l5 rfl rfl) rfl rfl) i0 hs18
                      · clear hs17
                        exact Or.inr hs18
                    · rw [if_neg c36] at hs16
                      refine aw_ifle_f (pc1 := 84) at_525_81 c36 rfl ?_
                      refine aw_lconst (v := 0) (pc1 := 85) at_525_84 (by decide) rfl ?_
                      refine aw_goto at_525_85 ?_
                      exact rg_525_97 (fun z0 z1 z2 z3 z4 h o hs16 => ih z0 z1 z2 z3 z4 h o hs16) x0 x1 x2 x5 x3 0 h31 o (am_lk1 (am_lk1 l0 rfl rfl) rfl rfl) (am_lk1 (am_lk1 l1 rfl rfl) rfl rfl) (am_lk1 (am_lk1 l2 rfl rfl) rfl rfl) (am_lk1 (am_lk1 l5 rfl rfl) rfl rfl) i0 hs16
                  · rw [if_neg c35] at hs16
                    refine aw_iceq_f (pc1 := 73) at_525_70 c35 rfl ?_
                    refine aw_ldc2 (v := 1000000) (pc1 := 76) at_525_73 rfl rfl ?_
                    refine aw_goto at_525_76 ?_
                    exact rg_525_97 (fun z0 z1 z2 z3 z4 h o hs16 => ih z0 z1 z2 z3 z4 h o hs16) x0 x1 x2 x5 x3 1000000 h31 o (am_lk1 (am_lk1 l0 rfl rfl) rfl rfl) (am_lk1 (am_lk1 l1 rfl rfl) rfl rfl) (am_lk1 (am_lk1 l2 rfl rfl) rfl rfl) (am_lk1 (am_lk1 l5 rfl rfl) rfl rfl) i0 hs16
                · clear hs14
                  exact Or.inr hs15
              · clear hs12
                exact Or.inr hs13
            · clear hs8
              exact Or.inr hs9
          · clear hs6
            exact Or.inr hs7
        · clear hs4
          exact Or.inr hs5
      · rw [if_neg c8] at hs3
        refine aw_ifeq_f (pc1 := 24) at_525_21 c8 rfl ?_
        refine aw_goto at_525_24 ?_
        exact rg_525_99 (fun z0 z1 z2 z3 z4 h o hs3 => ih z0 z1 z2 z3 z4 h o hs3) x0 x1 x2 x3 x5 h o l0 l1 l2 l3 l5 i0 hs3
def fg_525_0 (N : Nat) (x0 : Value) (x1 : Int32) (x2 : Int32) (h : am_H) : Option am_O := (fg_525_5 N N x0 x1 x2 0 0 h)
theorem rg_525_0 {X : am_X} {d : Nat} {N : Nat} {lv : am_LV} (x0 : Value) (x1 : Int32) (x2 : Int32) (h : am_H) (o : am_O) (l0 : lv.lookup 0 = some x0) (l1 : lv.lookup 1 = some (.int x1)) (l2 : lv.lookup 2 = some (.int x2)) (i0 : am_isR x0 = true) (hs : fg_525_0 N x0 x1 x2 h = some o) : am_W X (d + 6) 525 0 lv [] h (fun q => q = o) := by
  unfold fg_525_0 at hs
  refine aw_lconst (v := 0) (pc1 := 1) at_525_0 (by decide) rfl ?_
  refine aw_lstore_n (lv1 := am_put2 _ 3 _) (pc1 := 2) at_525_1 rfl rfl ?_
  refine aw_iconst (v := 0) (pc1 := 3) at_525_2 (by decide) rfl ?_
  refine aw_istore (lv1 := am_put1 _ 5 _) (pc1 := 5) at_525_3 rfl rfl ?_
  exact rg_525_5 N x0 x1 x2 0 0 h o hs _ (am_lk1 (am_lk2 l0 rfl rfl) rfl rfl) (am_lk1 (am_lk2 l1 rfl rfl) rfl rfl) (am_lk1 (am_lk2 l2 rfl rfl) rfl rfl) (am_lk1 am_lk02 rfl rfl) am_lk0 i0
def fm_525 (N : Nat) (y0 : Value) (y1 : Int32) (y2 : Int32) (h : am_H) : Option am_O := fg_525_0 N y0 y1 y2 h
theorem rm_525 {X : am_X} {d : Nat} {N : Nat} (y0 : Value) (y1 : Int32) (y2 : Int32) (h : am_H) (o : am_O) (i0 : am_isR y0 = true) (hs : fm_525 N y0 y1 y2 h = some o) : am_W X (d + 6) 525 0 (am_args 0 [y0, .int y1, .int y2]) [] h (fun q => q = o) := by
  rw [am_args_R i0, am_args_I, am_args_I]
  exact rg_525_0 y0 y1 y2 h o rfl rfl rfl i0 hs
def fg_524_42 (N : Nat) (s0 : Int64) (h : am_H) : Option am_O := some (.inl (some (.long s0), h))
theorem rg_524_42 {X : am_X} {d : Nat} {N : Nat} {lv : am_LV} (s0 : Int64) (h : am_H) (o : am_O) (hs : fg_524_42 N s0 h = some o) : am_W X (d + 7) 524 42 lv [(.long s0)] h (fun q => q = o) := by
  unfold fg_524_42 at hs
  cases hs
  exact aw_lret at_524_42 rt_524 rfl
def fg_524_22 (N : Nat) (x0 : Value) (x1 : Int32) (x2 : Int32) (s0 : Value) (s1 : Int32) (h : am_H) : Option am_O := ((am_pP 3072 s0 (.int s1) h).bind fun h1 => ((am_vI (am_pG 3072 x0 h1)).bind fun v3 => (if v3 ≤ 0 then (if am_pOk 12 x0 h1 then am_cL true (fm_525 N x0 x1 x2 h1) (fun v7 h8 => (fg_524_42 N v7 h8)) else none) else (fg_524_42 N 0 h1))))
theorem rg_524_22 {X : am_X} {d : Nat} {N : Nat} {lv : am_LV} (x0 : Value) (x1 : Int32) (x2 : Int32) (s0 : Value) (s1 : Int32) (h : am_H) (o : am_O) (l0 : lv.lookup 0 = some x0) (l1 : lv.lookup 1 = some (.int x1)) (l2 : lv.lookup 2 = some (.int x2)) (i0 : am_isR x0 = true) (j0 : am_isR s0 = true) (hs : fg_524_22 N x0 x1 x2 s0 s1 h = some o) : am_W X (d + 7) 524 22 lv [(.int s1), s0] h (fun q => q = o) := by
  unfold fg_524_22 at hs
  obtain ⟨h1, e2, hs1⟩ := am_bind hs
  clear hs
  refine aw_pP (pc1 := 25) at_524_22 e2 rfl ?_
  refine aw_vload_n (pc1 := 26) at_524_25 l0 i0 rfl ?_
  obtain ⟨v3, e4, hs2⟩ := am_bind hs1
  clear hs1
  refine aw_pG (pc1 := 29) at_524_26 (am_vI_s e4) rfl ?_
  by_cases c5 : v3 ≤ 0
  · rw [if_pos c5] at hs2
    refine aw_ifle_t at_524_29 c5 ?_
    refine aw_vload_n (pc1 := 37) at_524_36 l0 i0 rfl ?_
    refine aw_iload_n (pc1 := 38) at_524_37 l1 rfl ?_
    refine aw_iload_n (pc1 := 39) at_524_38 l2 rfl ?_
    obtain ⟨z6, hs3⟩ := am_ift hs2
    clear hs2
    refine aw_call (F := fm_525 N x0 x1 x2 h1) (t := true) (na := 3) (kd := 1) (as := [x0, (.int x1), (.int x2)]) at_524_39 (am_k3v kb_525) mn_525 mk_525 rfl rfl (am_ok_v mi_525 (am_hl rfl (am_ccR i0 (am_ccI (am_ccI am_cats_0))) rfl) z6) (am_hc am_cats_0 rfl) (fun _ => ⟨rfl, hh_524⟩) (fun o1 hz9 => rm_525 x0 x1 x2 h1 o1 i0 hz9) ?_
    rcases am_cL_s hs3 with ⟨v7, h8, f9, hs4⟩ | hs4
    · clear hs3
      refine Or.inl ⟨_, _, f9, ?_⟩
      show am_W X _ 524 42 _ [(.long v7)] h8 _
      exact rg_524_42 v7 h8 o   hs4
    · clear hs3
      exact Or.inr hs4
  · rw [if_neg c5] at hs2
    refine aw_ifle_f (pc1 := 32) at_524_29 c5 rfl ?_
    refine aw_lconst (v := 0) (pc1 := 33) at_524_32 (by decide) rfl ?_
    refine aw_goto at_524_33 ?_
    exact rg_524_42 0 h1 o   hs2
def fg_524_21 (N : Nat) (x0 : Value) (x1 : Int32) (x2 : Int32) (s0 : Value) (h : am_H) : Option am_O := (fg_524_22 N x0 x1 x2 s0 1 h)
theorem rg_524_21 {X : am_X} {d : Nat} {N : Nat} {lv : am_LV} (x0 : Value) (x1 : Int32) (x2 : Int32) (s0 : Value) (h : am_H) (o : am_O) (l0 : lv.lookup 0 = some x0) (l1 : lv.lookup 1 = some (.int x1)) (l2 : lv.lookup 2 = some (.int x2)) (i0 : am_isR x0 = true) (j0 : am_isR s0 = true) (hs : fg_524_21 N x0 x1 x2 s0 h = some o) : am_W X (d + 7) 524 21 lv [s0] h (fun q => q = o) := by
  unfold fg_524_21 at hs
  refine aw_iconst (v := 1) (pc1 := 22) at_524_21 (by decide) rfl ?_
  exact rg_524_22 x0 x1 x2 s0 1 h o l0 l1 l2 i0 j0 hs
def fg_524_0 (N : Nat) (x0 : Value) (x1 : Int32) (x2 : Int32) (h : am_H) : Option am_O := (if am_pOk 12 x0 h then am_cI true (fm_358 x0 x1 h) (fun v2 h3 => (if v2 = 0 then (fg_524_21 N x0 x1 x2 x0 h3) else (if am_pOk 12 x0 h3 then am_cI true (fm_358 x0 x2 h3) (fun v7 h8 => (if v7 = 0 then (fg_524_21 N x0 x1 x2 x0 h8) else (fg_524_22 N x0 x1 x2 x0 0 h8))) else none))) else none)
theorem rg_524_0 {X : am_X} {d : Nat} {N : Nat} {lv : am_LV} (x0 : Value) (x1 : Int32) (x2 : Int32) (h : am_H) (o : am_O) (l0 : lv.lookup 0 = some x0) (l1 : lv.lookup 1 = some (.int x1)) (l2 : lv.lookup 2 = some (.int x2)) (i0 : am_isR x0 = true) (hs : fg_524_0 N x0 x1 x2 h = some o) : am_W X (d + 7) 524 0 lv [] h (fun q => q = o) := by
  unfold fg_524_0 at hs
  refine aw_vload_n (pc1 := 1) at_524_0 l0 i0 rfl ?_
  refine aw_vload_n (pc1 := 2) at_524_1 l0 i0 rfl ?_
  refine aw_iload_n (pc1 := 3) at_524_2 l1 rfl ?_
  obtain ⟨z1, hs1⟩ := am_ift hs
  clear hs
  refine aw_call (F := fm_358 x0 x1 h) (t := true) (na := 2) (kd := 1) (as := [x0, (.int x1)]) at_524_3 (am_k3v kb_358) mn_358 mk_358 rfl rfl (am_ok_v mi_358 (am_hl rfl (am_ccR i0 (am_ccI am_cats_0)) rfl) z1) (am_hc (am_ccR i0 am_cats_0) rfl) (fun _ => ⟨rfl, hh_524⟩) (fun o1 hz9 => rm_358 x0 x1 h o1 i0 hz9) ?_
  rcases am_cI_s hs1 with ⟨v2, h3, f4, hs2⟩ | hs2
  · clear hs1
    refine Or.inl ⟨_, _, f4, ?_⟩
    show am_W X _ 524 6 _ [(.int v2), x0] h3 _
    by_cases c5 : v2 = 0
    · rw [if_pos c5] at hs2
      refine aw_ifeq_t at_524_6 c5 ?_
      exact rg_524_21 x0 x1 x2 x0 h3 o l0 l1 l2 i0 i0 hs2
    · rw [if_neg c5] at hs2
      refine aw_ifeq_f (pc1 := 9) at_524_6 c5 rfl ?_
      refine aw_vload_n (pc1 := 10) at_524_9 l0 i0 rfl ?_
      refine aw_iload_n (pc1 := 11) at_524_10 l2 rfl ?_
      obtain ⟨z6, hs3⟩ := am_ift hs2
      clear hs2
      refine aw_call (F := fm_358 x0 x2 h3) (t := true) (na := 2) (kd := 1) (as := [x0, (.int x2)]) at_524_11 (am_k3v kb_358) mn_358 mk_358 rfl rfl (am_ok_v mi_358 (am_hl rfl (am_ccR i0 (am_ccI am_cats_0)) rfl) z6) (am_hc (am_ccR i0 am_cats_0) rfl) (fun _ => ⟨rfl, hh_524⟩) (fun o1 hz9 => rm_358 x0 x2 h3 o1 i0 hz9) ?_
      rcases am_cI_s hs3 with ⟨v7, h8, f9, hs4⟩ | hs4
      · clear hs3
        refine Or.inl ⟨_, _, f9, ?_⟩
        show am_W X _ 524 14 _ [(.int v7), x0] h8 _
        by_cases c10 : v7 = 0
        · rw [if_pos c10] at hs4
          refine aw_ifeq_t at_524_14 c10 ?_
          exact rg_524_21 x0 x1 x2 x0 h8 o l0 l1 l2 i0 i0 hs4
        · rw [if_neg c10] at hs4
          refine aw_ifeq_f (pc1 := 17) at_524_14 c10 rfl ?_
          refine aw_iconst (v := 0) (pc1 := 18) at_524_17 (by decide) rfl ?_
          refine aw_goto at_524_18 ?_
          exact rg_524_22 x0 x1 x2 x0 0 h8 o l0 l1 l2 i0 i0 hs4
      · clear hs3
        exact Or.inr hs4
  · clear hs1
    exact Or.inr hs2
def fm_524 (N : Nat) (y0 : Value) (y1 : Int32) (y2 : Int32) (h : am_H) : Option am_O := fg_524_0 N y0 y1 y2 h
theorem rm_524 {X : am_X} {d : Nat} {N : Nat} (y0 : Value) (y1 : Int32) (y2 : Int32) (h : am_H) (o : am_O) (i0 : am_isR y0 = true) (hs : fm_524 N y0 y1 y2 h = some o) : am_W X (d + 7) 524 0 (am_args 0 [y0, .int y1, .int y2]) [] h (fun q => q = o) := by
  rw [am_args_R i0, am_args_I, am_args_I]
  exact rg_524_0 y0 y1 y2 h o rfl rfl rfl i0 hs
def fg_249_11 (s0 : Int64) (h : am_H) : Option am_O := some (.inl (some (.long s0), h))
theorem rg_249_11 {X : am_X} {d : Nat} {lv : am_LV} (s0 : Int64) (h : am_H) (o : am_O) (hs : fg_249_11 s0 h = some o) : am_W X (d) 249 11 lv [(.long s0)] h (fun q => q = o) := by
  unfold fg_249_11 at hs
  cases hs
  exact aw_lret at_249_11 rt_249 rfl
def fg_249_0 (x0 : Int64) (x2 : Int64) (h : am_H) : Option am_O := (if (lg_cmp x0 x2) < 0 then (fg_249_11 x2 h) else (fg_249_11 x0 h))
theorem rg_249_0 {X : am_X} {d : Nat} {lv : am_LV} (x0 : Int64) (x2 : Int64) (h : am_H) (o : am_O) (l0 : lv.lookup 0 = some (.long x0)) (l2 : lv.lookup 2 = some (.long x2)) (hs : fg_249_0 x0 x2 h = some o) : am_W X (d) 249 0 lv [] h (fun q => q = o) := by
  unfold fg_249_0 at hs
  refine aw_lload_n (pc1 := 1) at_249_0 l0 rfl ?_
  refine aw_lload_n (pc1 := 2) at_249_1 l2 rfl ?_
  refine aw_lcmp (v := (lg_cmp x0 x2)) (pc1 := 3) at_249_2 rfl rfl ?_
  by_cases c1 : (lg_cmp x0 x2) < 0
  · rw [if_pos c1] at hs
    refine aw_iflt_t at_249_3 c1 ?_
    refine aw_lload_n (pc1 := 11) at_249_10 l2 rfl ?_
    exact rg_249_11 x2 h o   hs
  · rw [if_neg c1] at hs
    refine aw_iflt_f (pc1 := 6) at_249_3 c1 rfl ?_
    refine aw_lload_n (pc1 := 7) at_249_6 l0 rfl ?_
    refine aw_goto at_249_7 ?_
    exact rg_249_11 x0 h o   hs
def fm_249 (y0 : Int64) (y1 : Int64) (h : am_H) : Option am_O := fg_249_0 y0 y1 h
theorem rm_249 {X : am_X} {d : Nat} (y0 : Int64) (y1 : Int64) (h : am_H) (o : am_O) (hs : fm_249 y0 y1 h = some o) : am_W X (d) 249 0 (am_args 0 [.long y0, .long y1]) [] h (fun q => q = o) := by
  rw [am_args_L, am_args_L]
  exact rg_249_0 y0 y1 h o rfl rfl  hs
def fg_248_159 (N : Nat) (s0 : Int64) (s1 : Int64) (h : am_H) : Option am_O := some (.inl (some (.long (s0 + s1)), h))
theorem rg_248_159 {X : am_X} {d : Nat} {N : Nat} {lv : am_LV} (s0 : Int64) (s1 : Int64) (h : am_H) (o : am_O) (hs : fg_248_159 N s0 s1 h = some o) : am_W X (d + 83) 248 159 lv [(.long s1), (.long s0)] h (fun q => q = o) := by
  unfold fg_248_159 at hs
  refine aw_ladd (v := (s0 + s1)) (pc1 := 160) at_248_159 rfl rfl ?_
  cases hs
  exact aw_lret at_248_160 rt_248 rfl
def fg_248_144 (N : Nat) (x3 : Value) (x9 : Int64) (s0 : Int64) (s1 : Int64) (h : am_H) : Option am_O := ((am_vI (am_pG 256 x3 h)).bind fun v1 => (if v1 ≤ 3 then (fg_248_159 N ((s0 + s1)) 0 h) else (fg_248_159 N ((s0 + s1)) x9 h)))
theorem rg_248_144 {X : am_X} {d : Nat} {N : Nat} {lv : am_LV} (x3 : Value) (x9 : Int64) (s0 : Int64) (s1 : Int64) (h : am_H) (o : am_O) (l3 : lv.lookup 3 = some x3) (l9 : lv.lookup 9 = some (.long x9)) (i3 : am_isR x3 = true) (hs : fg_248_144 N x3 x9 s0 s1 h = some o) : am_W X (d + 83) 248 144 lv [(.long s1), (.long s0)] h (fun q => q = o) := by
  unfold fg_248_144 at hs
  refine aw_ladd (v := (s0 + s1)) (pc1 := 145) at_248_144 rfl rfl ?_
  refine aw_vload_n (pc1 := 146) at_248_145 l3 i3 rfl ?_
  obtain ⟨v1, e2, hs1⟩ := am_bind hs
  clear hs
  refine aw_pG (pc1 := 149) at_248_146 (am_vI_s e2) rfl ?_
  refine aw_iconst (v := 3) (pc1 := 150) at_248_149 (by decide) rfl ?_
  by_cases c3 : v1 ≤ 3
  · rw [if_pos c3] at hs1
    refine aw_icle_t at_248_150 c3 ?_
    refine aw_lconst (v := 0) (pc1 := 159) at_248_158 (by decide) rfl ?_
    exact rg_248_159 ((s0 + s1)) 0 h o   hs1
  · rw [if_neg c3] at hs1
    refine aw_icle_f (pc1 := 153) at_248_150 c3 rfl ?_
    refine aw_lload (pc1 := 155) at_248_153 l9 rfl ?_
    refine aw_goto at_248_155 ?_
    exact rg_248_159 ((s0 + s1)) x9 h o   hs1
def fg_248_130 (N : Nat) (x3 : Value) (x7 : Int64) (x9 : Int64) (s0 : Int64) (h : am_H) : Option am_O := ((am_vI (am_pG 256 x3 h)).bind fun v1 => (if v1 ≤ 2 then (fg_248_144 N x3 x9 s0 0 h) else (fg_248_144 N x3 x9 s0 x7 h)))
theorem rg_248_130 {X : am_X} {d : Nat} {N : Nat} {lv : am_LV} (x3 : Value) (x7 : Int64) (x9 : Int64) (s0 : Int64) (h : am_H) (o : am_O) (l3 : lv.lookup 3 = some x3) (l7 : lv.lookup 7 = some (.long x7)) (l9 : lv.lookup 9 = some (.long x9)) (i3 : am_isR x3 = true) (hs : fg_248_130 N x3 x7 x9 s0 h = some o) : am_W X (d + 83) 248 130 lv [(.long s0)] h (fun q => q = o) := by
  unfold fg_248_130 at hs
  refine aw_vload_n (pc1 := 131) at_248_130 l3 i3 rfl ?_
  obtain ⟨v1, e2, hs1⟩ := am_bind hs
  clear hs
  refine aw_pG (pc1 := 134) at_248_131 (am_vI_s e2) rfl ?_
  refine aw_iconst (v := 2) (pc1 := 135) at_248_134 (by decide) rfl ?_
  by_cases c3 : v1 ≤ 2
  · rw [if_pos c3] at hs1
    refine aw_icle_t at_248_135 c3 ?_
    refine aw_lconst (v := 0) (pc1 := 144) at_248_143 (by decide) rfl ?_
    exact rg_248_144 x3 x9 s0 0 h o l3 l9 i3 hs1
  · rw [if_neg c3] at hs1
    refine aw_icle_f (pc1 := 138) at_248_135 c3 rfl ?_
    refine aw_lload (pc1 := 140) at_248_138 l7 rfl ?_
    refine aw_goto at_248_140 ?_
    exact rg_248_144 x3 x9 s0 x7 h o l3 l9 i3 hs1
def fg_248_110 (N : Nat) (rec_36 : Value → Int32 → Value → Value → Int64 → Int64 → Int64 → Int32 → am_H → Option am_O) (x0 : Value) (x2 : Int32) (x3 : Value) (x4 : Value) (x5 : Int64) (x7 : Int64) (x9 : Int64) (x11 : Int32) (h : am_H) : Option am_O := (rec_36 x0 x2 x3 x4 x5 x7 x9 ((x11 + 1)) h)
theorem rg_248_110 {X : am_X} {d : Nat} {N : Nat} {rec_36 : Value → Int32 → Value → Value → Int64 → Int64 → Int64 → Int32 → am_H → Option am_O} (q_36 : ∀ (x0 : Value) (x2 : Int32) (x3 : Value) (x4 : Value) (x5 : Int64) (x7 : Int64) (x9 : Int64) (x11 : Int32) (h : am_H) (o : am_O), rec_36 x0 x2 x3 x4 x5 x7 x9 x11 h = some o → ∀ lv : am_LV, (lv.lookup 0 = some x0) → (lv.lookup 2 = some (.int x2)) → (lv.lookup 3 = some x3) → (lv.lookup 4 = some x4) → (lv.lookup 5 = some (.long x5)) → (lv.lookup 7 = some (.long x7)) → (lv.lookup 9 = some (.long x9)) → (lv.lookup 11 = some (.int x11)) → (am_isR x0 = true) → (am_isR x3 = true) → (am_isR x4 = true) → am_W X (d + 83) 248 36 lv [] h (fun q => q = o)) {lv : am_LV} (x0 : Value) (x2 : Int32) (x3 : Value) (x4 : Value) (x5 : Int64) (x7 : Int64) (x9 : Int64) (x11 : Int32) (h : am_H) (o : am_O) (l0 : lv.lookup 0 = some x0) (l2 : lv.lookup 2 = some (.int x2)) (l3 : lv.lookup 3 = some x3) (l4 : lv.lookup 4 = some x4) (l5 : lv.lookup 5 = some (.long x5)) (l7 : lv.lookup 7 = some (.long x7)) (l9 : lv.lookup 9 = some (.long x9)) (l11 : lv.lookup 11 = some (.int x11)) (i0 : am_isR x0 = true) (i3 : am_isR x3 = true) (i4 : am_isR x4 = true) (hs : fg_248_110 N rec_36 x0 x2 x3 x4 x5 x7 x9 x11 h = some o) : am_W X (d + 83) 248 110 lv [] h (fun q => q = o) := by
  unfold fg_248_110 at hs
  refine aw_iinc (v := (x11 + 1)) (c := 1) (lv1 := am_put1 _ 11 _) (pc1 := 113) at_248_110 l11 (by decide) rfl rfl rfl ?_
  refine aw_goto at_248_113 ?_
  exact q_36 x0 x2 x3 x4 x5 x7 x9 ((x11 + 1)) h o hs _ (am_lk1 l0 rfl rfl) (am_lk1 l2 rfl rfl) (am_lk1 l3 rfl rfl) (am_lk1 l4 rfl rfl) (am_lk1 l5 rfl rfl) (am_lk1 l7 rfl rfl) (am_lk1 l9 rfl rfl) am_lk0 i0 i3 i4
def fg_248_36 (N : Nat) : Nat → Value → Int32 → Value → Value → Int64 → Int64 → Int64 → Int32 → am_H → Option am_O
  | 0 => fun _ _ _ _ _ _ _ _ _ => none
  | K + 1 => fun x0 x2 x3 x4 x5 x7 x9 x11 h => ((am_vI (am_pG 256 x3 h)).bind fun v1 => (if v1 ≤ x11 then ((am_vI (am_pG 256 x3 h)).bind fun v4 => (if v4 ≤ 1 then (fg_248_130 N x3 x7 x9 0 h) else (fg_248_130 N x3 x7 x9 x5 h))) else (if x11 = x2 then (fg_248_110 N (fg_248_36 N K) x0 x2 x3 x4 x5 x7 x9 x11 h) else ((am_vR (am_pG 2819 x0 h)).bind fun v8 => ((am_vR (am_pG 257 x3 h)).bind fun v10 => ((am_pA 0 v10 x11 h).bind fun v12 => (if am_pOk 11 x0 h then am_cR true (fm_63 x0 v12 h) (fun v15 h16 => (if am_pOk 2 v8 h16 then am_cL true (fm_246 N v8 x4 v15 h16) (fun v19 h20 => am_cL false (fm_249 x7 v19 h20) (fun v22 h23 => am_cL false (fm_136 x9 v22 h23) (fun v25 h26 => am_cL false (fm_249 x5 v19 h26) (fun v28 h29 => am_cL false (fm_136 x7 v28 h29) (fun v31 h32 => am_cL false (fm_136 x5 v19 h32) (fun v34 h35 => (fg_248_110 N (fg_248_36 N K) x0 x2 x3 x4 v34 v31 v25 x11 h35))))))) else none)) else none)))))))
theorem rg_248_36 {X : am_X} {d : Nat} {N : Nat} : ∀ (K : Nat) (x0 : Value) (x2 : Int32) (x3 : Value) (x4 : Value) (x5 : Int64) (x7 : Int64) (x9 : Int64) (x11 : Int32) (h : am_H) (o : am_O), fg_248_36 N K x0 x2 x3 x4 x5 x7 x9 x11 h = some o → ∀ lv : am_LV, (lv.lookup 0 = some x0) → (lv.lookup 2 = some (.int x2)) → (lv.lookup 3 = some x3) → (lv.lookup 4 = some x4) → (lv.lookup 5 = some (.long x5)) → (lv.lookup 7 = some (.long x7)) → (lv.lookup 9 = some (.long x9)) → (lv.lookup 11 = some (.int x11)) → (am_isR x0 = true) → (am_isR x3 = true) → (am_isR x4 = true) → am_W X (d + 83) 248 36 lv [] h (fun q => q = o) := by
  intro K
  induction K with
  | zero => intro x0 x2 x3 x4 x5 x7 x9 x11 h o hs; cases hs
  | succ K ih =>
    intro x0 x2 x3 x4 x5 x7 x9 x11 h o hs lv l0 l2 l3 l4 l5 l7 l9 l11 i0 i3 i4
    unfold fg_248_36 at hs
    refine aw_iload (pc1 := 38) at_248_36 l11 rfl ?_
    refine aw_vload_n (pc1 := 39) at_248_38 l3 i3 rfl ?_
    obtain ⟨v1, e2, hs1⟩ := am_bind hs
    clear hs
    refine aw_pG (pc1 := 42) at_248_39 (am_vI_s e2) rfl ?_
    by_cases c3 : v1 ≤ x11
    · rw [if_pos c3] at hs1
      refine aw_icge_t at_248_42 c3 ?_
      refine aw_vload_n (pc1 := 117) at_248_116 l3 i3 rfl ?_
      obtain ⟨v4, e5, hs2⟩ := am_bind hs1
      clear hs1
      refine aw_pG (pc1 := 120) at_248_117 (am_vI_s e5) rfl ?_
      refine aw_iconst (v := 1) (pc1 := 121) at_248_120 (by decide) rfl ?_
      by_cases c6 : v4 ≤ 1
      · rw [if_pos c6] at hs2
        refine aw_icle_t at_248_121 c6 ?_
        refine aw_lconst (v := 0) (pc1 := 130) at_248_129 (by decide) rfl ?_
        exact rg_248_130 x3 x7 x9 0 h o l3 l7 l9 i3 hs2
      · rw [if_neg c6] at hs2
        refine aw_icle_f (pc1 := 124) at_248_121 c6 rfl ?_
        refine aw_lload (pc1 := 126) at_248_124 l5 rfl ?_
        refine aw_goto at_248_126 ?_
        exact rg_248_130 x3 x7 x9 x5 h o l3 l7 l9 i3 hs2
    · rw [if_neg c3] at hs1
      refine aw_icge_f (pc1 := 45) at_248_42 c3 rfl ?_
      refine aw_iload (pc1 := 47) at_248_45 l11 rfl ?_
      refine aw_iload_n (pc1 := 48) at_248_47 l2 rfl ?_
      by_cases c7 : x11 = x2
      · rw [if_pos c7] at hs1
        refine aw_iceq_t at_248_48 c7 ?_
        exact rg_248_110 (fun z0 z1 z2 z3 z4 z5 z6 z7 h o hs1 => ih z0 z1 z2 z3 z4 z5 z6 z7 h o hs1) x0 x2 x3 x4 x5 x7 x9 x11 h o l0 l2 l3 l4 l5 l7 l9 l11 i0 i3 i4 hs1
      · rw [if_neg c7] at hs1
        refine aw_iceq_f (pc1 := 51) at_248_48 c7 rfl ?_
        refine aw_vload_n (pc1 := 52) at_248_51 l0 i0 rfl ?_
        obtain ⟨v8, e9, hs3⟩ := am_bind hs1
        clear hs1
        refine aw_pG (pc1 := 55) at_248_52 (am_vR_s e9).1 rfl ?_
        refine aw_vload (pc1 := 57) at_248_55 l4 i4 rfl ?_
        refine aw_vload_n (pc1 := 58) at_248_57 l0 i0 rfl ?_
        refine aw_vload_n (pc1 := 59) at_248_58 l3 i3 rfl ?_
        obtain ⟨v10, e11, hs4⟩ := am_bind hs3
        clear hs3
        refine aw_pG (pc1 := 62) at_248_59 (am_vR_s e11).1 rfl ?_
        refine aw_iload (pc1 := 64) at_248_62 l11 rfl ?_
        obtain ⟨v12, e13, hs5⟩ := am_bind hs4
        clear hs4
        refine aw_pA (pc1 := 65) at_248_64 (Or.inl ⟨rfl, rfl⟩) e13 rfl ?_
        obtain ⟨z14, hs6⟩ := am_ift hs5
        clear hs5
        refine aw_call (F := fm_63 x0 v12 h) (t := true) (na := 2) (kd := 1) (as := [x0, (.int v12)]) at_248_65 (am_k3v kb_63) mn_63 mk_63 rfl rfl (am_ok_v mi_63 (am_hl rfl (am_ccR i0 (am_ccI am_cats_0)) rfl) z14) (am_hc (am_ccR i4 (am_ccR (am_vR_s e9).2 am_cats_0)) rfl) (fun _ => ⟨rfl, hh_248⟩) (fun o1 hz9 => rm_63 x0 v12 h o1 i0 hz9) ?_
        rcases am_cR_s hs6 with ⟨v15, h16, f17, iv15, hs7⟩ | hs7
        · clear hs6
          refine Or.inl ⟨_, _, f17, ?_⟩
          show am_W X _ 248 68 _ [v15, x4, v8] h16 _
          obtain ⟨z18, hs8⟩ := am_ift hs7
          clear hs7
          refine aw_call (F := fm_246 N v8 x4 v15 h16) (t := true) (na := 3) (kd := 1) (as := [v8, x4, v15]) at_248_68 (am_k3v kb_246) mn_246 mk_246 rfl rfl (am_ok_v mi_246 (am_hl rfl (am_ccR (am_vR_s e9).2 (am_ccR i4 (am_ccR iv15 am_cats_0))) rfl) z18) (am_hc am_cats_0 rfl) (fun _ => ⟨rfl, hh_248⟩) (fun o1 hz9 => rm_246 v8 x4 v15 h16 o1 (am_vR_s e9).2 i4 iv15 hz9) ?_
          rcases am_cL_s hs8 with ⟨v19, h20, f21, hs9⟩ | hs9
          · clear hs8
            refine Or.inl ⟨_, _, f21, ?_⟩
            show am_W X _ 248 71 _ [(.long v19)] h20 _
            refine aw_lstore (lv1 := am_put2 _ 12 _) (pc1 := 73) at_248_71 rfl rfl ?_
            refine aw_lload (pc1 := 75) at_248_73 (am_lk2 l9 rfl rfl) rfl ?_
            refine aw_lload (pc1 := 77) at_248_75 (am_lk2 l7 rfl rfl) rfl ?_
            refine aw_lload (pc1 := 79) at_248_77 am_lk02 rfl ?_
            refine aw_call (F := fm_249 x7 v19 h20) (t := false) (na := 2) (kd := 0) (as := [(.long x7), (.long v19)]) at_248_79 (am_k3s kb_249) mn_249 mk_249 rfl rfl (am_ok_s mi_249 (am_hl rfl (am_ccL (am_ccL am_cats_0)) rfl)) (am_hc (am_ccL am_cats_0) rfl) (fun hz9 => by cases hz9) (fun o1 hz9 => rm_249 x7 v19 h20 o1  hz9) ?_
            rcases am_cL_s hs9 with ⟨v22, h23, f24, hs10⟩ | hs10
            · clear hs9
              refine Or.inl ⟨_, _, f24, ?_⟩
              show am_W X _ 248 82 _ [(.long v22), (.long x9)] h23 _
              refine aw_call (F := fm_136 x9 v22 h23) (t := false) (na := 2) (kd := 0) (as := [(.long x9), (.long v22)]) at_248_82 (am_k3s kb_136) mn_136 mk_136 rfl rfl (am_ok_s mi_136 (am_hl rfl (am_ccL (am_ccL am_cats_0)) rfl)) (am_hc am_cats_0 rfl) (fun hz9 => by cases hz9) (fun o1 hz9 => rm_136 x9 v22 h23 o1  hz9) ?_
              rcases am_cL_s hs10 with ⟨v25, h26, f27, hs11⟩ | hs11
              · clear hs10
                refine Or.inl ⟨_, _, f27, ?_⟩
                show am_W X _ 248 85 _ [(.long v25)] h26 _
                refine aw_lstore (lv1 := am_put2 _ 9 _) (pc1 := 87) at_248_85 rfl rfl ?_
                refine aw_lload (pc1 := 89) at_248_87 (am_lk2 (am_lk2 l7 rfl rfl) rfl rfl) rfl ?_
                refine aw_lload (pc1 := 91) at_248_89 (am_lk2 (am_lk2 l5 rfl rfl) rfl rfl) rfl ?_
                refine aw_lload (pc1 := 93) at_248_91 (am_lk2 am_lk02 rfl rfl) rfl ?_
                refine aw_call (F := fm_249 x5 v19 h26) (t := false) (na := 2) (kd := 0) (as := [(.long x5), (.long v19)]) at_248_93 (am_k3s kb_249) mn_249 mk_249 rfl rfl (am_ok_s mi_249 (am_hl rfl (am_ccL (am_ccL am_cats_0)) rfl)) (am_hc (am_ccL am_cats_0) rfl) (fun hz9 => by cases hz9) (fun o1 hz9 => rm_249 x5 v19 h26 o1  hz9) ?_
                rcases am_cL_s hs11 with ⟨v28, h29, f30, hs12⟩ | hs12
                · clear hs11
                  refine Or.inl ⟨_, _, f30, ?_⟩
                  show am_W X _ 248 96 _ [(.long v28), (.long x7)] h29 _
                  refine aw_call (F := fm_136 x7 v28 h29) (t := false) (na := 2) (kd := 0) (as := [(.long x7), (.long v28)]) at_248_96 (am_k3s kb_136) mn_136 mk_136 rfl rfl (am_ok_s mi_136 (am_hl rfl (am_ccL (am_ccL am_cats_0)) rfl)) (am_hc am_cats_0 rfl) (fun hz9 => by cases hz9) (fun o1 hz9 => rm_136 x7 v28 h29 o1  hz9) ?_
                  rcases am_cL_s hs12 with ⟨v31, h32, f33, hs13⟩ | hs13
                  · clear hs12
                    refine Or.inl ⟨_, _, f33, ?_⟩
                    show am_W X _ 248 99 _ [(.long v31)] h32 _
                    refine aw_lstore (lv1 := am_put2 _ 7 _) (pc1 := 101) at_248_99 rfl rfl ?_
                    refine aw_lload (pc1 := 103) at_248_101 (am_lk2 (am_lk2 (am_lk2 l5 rfl rfl) rfl rfl) rfl rfl) rfl ?_
                    refine aw_lload (pc1 := 105) at_248_103 (am_lk2 (am_lk2 am_lk02 rfl rfl) rfl rfl) rfl ?_
                    refine aw_call (F := fm_136 x5 v19 h32) (t := false) (na := 2) (kd := 0) (as := [(.long x5), (.long v19)]) at_248_105 (am_k3s kb_136) mn_136 mk_136 rfl rfl (am_ok_s mi_136 (am_hl rfl (am_ccL (am_ccL am_cats_0)) rfl)) (am_hc am_cats_0 rfl) (fun hz9 => by cases hz9) (fun o1 hz9 => rm_136 x5 v19 h32 o1  hz9) ?_
                    rcases am_cL_s hs13 with ⟨v34, h35, f36, hs14⟩ | hs14
                    · clear hs13
                      refine Or.inl ⟨_, _, f36, ?_⟩
                      show am_W X _ 248 108 _ [(.long v34)] h35 _
                      refine aw_lstore (lv1 := am_put2 _ 5 _) (pc1 := 110) at_248_108 rfl rfl ?_
                      exact rg_248_110 (fun z0 z1 z2 z3 z4 z5 z6 z7 h o hs14 => ih z0 z1 z2 z3 z4 z5 z6 z7 h o hs14) x0 x2 x3 x4 v34 v31 v25 x11 h35 o (am_lk2 (am_lk2 (am_lk2 (am_lk2 l0 rfl rfl) rfl rfl) rfl rfl) rfl rfl) (am_lk2 (am_lk2 (am_lk2 (am_lk2 l2 rfl rfl) rfl rfl) rfl rfl) rfl rfl) (am_lk2 (am_lk2 (am_lk2 (am_lk2 l3 rfl rfl) rfl rfl) rfl rfl) rfl rfl) (am_lk2 (am_lk2 (am_lk2 (am_lk2 l4 rfl rfl) rfl rfl) rfl rfl) rfl (by rw [am_isRc i4]; rfl)) am_lk02 (am_lk2 am_lk02 rfl rfl) (am_lk2 (am_lk2 am_lk02 rfl rfl) rfl rfl) (am_lk2 (am_lk2 (am_lk2 (am_lk2 l11 rfl rfl) rfl rfl) rfl rfl) rfl rfl) i0 i3 i4 hs14
                    · clear hs13
                      exact Or.inr hs14
                  · clear hs12
                    exact Or.inr hs13
                · clear hs11
                  exact Or.inr hs12
              · clear hs10
                exact Or.inr hs11
            · clear hs9
              exact Or.inr hs10
          · clear hs8
            exact Or.inr hs9
        · clear hs6
          exact Or.inr hs7
def fg_248_0 (N : Nat) (x0 : Value) (x1 : Int32) (x2 : Int32) (h : am_H) : Option am_O := (if am_pOk 11 x0 h then am_cR true (fm_201 x0 x1 h) (fun v2 h3 => (if am_pOk 11 x0 h3 then am_cI true (fm_214 x0 v2 x2 h3) (fun v6 h7 => (if am_pOk 11 x0 h7 then am_cR true (fm_63 x0 v6 h7) (fun v10 h11 => (fg_248_36 N N x0 x2 v2 v10 100000000 100000000 100000000 0 h11)) else none)) else none)) else none)
theorem rg_248_0 {X : am_X} {d : Nat} {N : Nat} {lv : am_LV} (x0 : Value) (x1 : Int32) (x2 : Int32) (h : am_H) (o : am_O) (l0 : lv.lookup 0 = some x0) (l1 : lv.lookup 1 = some (.int x1)) (l2 : lv.lookup 2 = some (.int x2)) (i0 : am_isR x0 = true) (hs : fg_248_0 N x0 x1 x2 h = some o) : am_W X (d + 83) 248 0 lv [] h (fun q => q = o) := by
  unfold fg_248_0 at hs
  refine aw_vload_n (pc1 := 1) at_248_0 l0 i0 rfl ?_
  refine aw_iload_n (pc1 := 2) at_248_1 l1 rfl ?_
  obtain ⟨z1, hs1⟩ := am_ift hs
  clear hs
  refine aw_call (F := fm_201 x0 x1 h) (t := true) (na := 2) (kd := 1) (as := [x0, (.int x1)]) at_248_2 (am_k3v kb_201) mn_201 mk_201 rfl rfl (am_ok_v mi_201 (am_hl rfl (am_ccR i0 (am_ccI am_cats_0)) rfl) z1) (am_hc am_cats_0 rfl) (fun _ => ⟨rfl, hh_248⟩) (fun o1 hz9 => rm_201 x0 x1 h o1 i0 hz9) ?_
  rcases am_cR_s hs1 with ⟨v2, h3, f4, iv2, hs2⟩ | hs2
  · clear hs1
    refine Or.inl ⟨_, _, f4, ?_⟩
    show am_W X _ 248 5 _ [v2] h3 _
    refine aw_vstore_n (lv1 := am_put1 _ 3 _) (pc1 := 6) at_248_5 iv2 rfl rfl ?_
    refine aw_vload_n (pc1 := 7) at_248_6 (am_lk1 l0 rfl rfl) i0 rfl ?_
    refine aw_vload_n (pc1 := 8) at_248_7 (am_lk1 l0 rfl rfl) i0 rfl ?_
    refine aw_vload_n (pc1 := 9) at_248_8 am_lk0 iv2 rfl ?_
    refine aw_iload_n (pc1 := 10) at_248_9 (am_lk1 l2 rfl rfl) rfl ?_
    obtain ⟨z5, hs3⟩ := am_ift hs2
    clear hs2
    refine aw_call (F := fm_214 x0 v2 x2 h3) (t := true) (na := 3) (kd := 1) (as := [x0, v2, (.int x2)]) at_248_10 (am_k3v kb_214) mn_214 mk_214 rfl rfl (am_ok_v mi_214 (am_hl rfl (am_ccR i0 (am_ccR iv2 (am_ccI am_cats_0))) rfl) z5) (am_hc (am_ccR i0 am_cats_0) rfl) (fun _ => ⟨rfl, hh_248⟩) (fun o1 hz9 => rm_214 x0 v2 x2 h3 o1 i0 iv2 hz9) ?_
    rcases am_cI_s hs3 with ⟨v6, h7, f8, hs4⟩ | hs4
    · clear hs3
      refine Or.inl ⟨_, _, f8, ?_⟩
      show am_W X _ 248 13 _ [(.int v6), x0] h7 _
      obtain ⟨z9, hs5⟩ := am_ift hs4
      clear hs4
      refine aw_call (F := fm_63 x0 v6 h7) (t := true) (na := 2) (kd := 1) (as := [x0, (.int v6)]) at_248_13 (am_k3v kb_63) mn_63 mk_63 rfl rfl (am_ok_v mi_63 (am_hl rfl (am_ccR i0 (am_ccI am_cats_0)) rfl) z9) (am_hc am_cats_0 rfl) (fun _ => ⟨rfl, hh_248⟩) (fun o1 hz9 => rm_63 x0 v6 h7 o1 i0 hz9) ?_
      rcases am_cR_s hs5 with ⟨v10, h11, f12, iv10, hs6⟩ | hs6
      · clear hs5
        refine Or.inl ⟨_, _, f12, ?_⟩
        show am_W X _ 248 16 _ [v10] h11 _
        refine aw_vstore (lv1 := am_put1 _ 4 _) (pc1 := 18) at_248_16 iv10 rfl rfl ?_
        refine aw_ldc2 (v := 100000000) (pc1 := 21) at_248_18 rfl rfl ?_
        refine aw_lstore (lv1 := am_put2 _ 5 _) (pc1 := 23) at_248_21 rfl rfl ?_
        refine aw_ldc2 (v := 100000000) (pc1 := 26) at_248_23 rfl rfl ?_
        refine aw_lstore (lv1 := am_put2 _ 7 _) (pc1 := 28) at_248_26 rfl rfl ?_
        refine aw_ldc2 (v := 100000000) (pc1 := 31) at_248_28 rfl rfl ?_
        refine aw_lstore (lv1 := am_put2 _ 9 _) (pc1 := 33) at_248_31 rfl rfl ?_
        refine aw_iconst (v := 0) (pc1 := 34) at_248_33 (by decide) rfl ?_
        refine aw_istore (lv1 := am_put1 _ 11 _) (pc1 := 36) at_248_34 rfl rfl ?_
        exact rg_248_36 N x0 x2 v2 v10 100000000 100000000 100000000 0 h11 o hs6 _ (am_lk1 (am_lk2 (am_lk2 (am_lk2 (am_lk1 (am_lk1 l0 rfl rfl) rfl rfl) rfl rfl) rfl rfl) rfl rfl) rfl rfl) (am_lk1 (am_lk2 (am_lk2 (am_lk2 (am_lk1 (am_lk1 l2 rfl rfl) rfl rfl) rfl rfl) rfl rfl) rfl rfl) rfl rfl) (am_lk1 (am_lk2 (am_lk2 (am_lk2 (am_lk1 am_lk0 rfl (by rw [am_isRc iv2]; rfl)) rfl rfl) rfl rfl) rfl rfl) rfl rfl) (am_lk1 (am_lk2 (am_lk2 (am_lk2 am_lk0 rfl (by rw [am_isRc iv10]; rfl)) rfl rfl) rfl rfl) rfl rfl) (am_lk1 (am_lk2 (am_lk2 am_lk02 rfl rfl) rfl rfl) rfl rfl) (am_lk1 (am_lk2 am_lk02 rfl rfl) rfl rfl) (am_lk1 am_lk02 rfl rfl) am_lk0 i0 iv2 iv10
      · clear hs5
        exact Or.inr hs6
    · clear hs3
      exact Or.inr hs4
  · clear hs1
    exact Or.inr hs2
def fm_248 (N : Nat) (y0 : Value) (y1 : Int32) (y2 : Int32) (h : am_H) : Option am_O := fg_248_0 N y0 y1 y2 h
theorem rm_248 {X : am_X} {d : Nat} {N : Nat} (y0 : Value) (y1 : Int32) (y2 : Int32) (h : am_H) (o : am_O) (i0 : am_isR y0 = true) (hs : fm_248 N y0 y1 y2 h = some o) : am_W X (d + 83) 248 0 (am_args 0 [y0, .int y1, .int y2]) [] h (fun q => q = o) := by
  rw [am_args_R i0, am_args_I, am_args_I]
  exact rg_248_0 y0 y1 y2 h o rfl rfl rfl i0 hs
def fg_247_14 (N : Nat) (h : am_H) : Option am_O := some (.inl (some (.int 1), h))
theorem rg_247_14 {X : am_X} {d : Nat} {N : Nat} {lv : am_LV} (h : am_H) (o : am_O) (hs : fg_247_14 N h = some o) : am_W X (d + 84) 247 14 lv [] h (fun q => q = o) := by
  unfold fg_247_14 at hs
  refine aw_iconst (v := 1) (pc1 := 15) at_247_14 (by decide) rfl ?_
  cases hs
  exact aw_iret at_247_15 (by rw [rt_247]; rfl) rfl
def fg_247_0 (N : Nat) (x0 : Value) (x1 : Int32) (x2 : Int32) (x3 : Value) (h : am_H) : Option am_O := (if am_pOk 11 x0 h then (match fm_248 N x0 x1 x2 h with | some (.inl (some (.long v2), h3)) => ((am_pSL x3 0 v2 h3).bind fun h5 => some (.inl (some (.int 0), h5))) | some (.inr (2, h7)) => (fg_247_14 N h7) | _ => none) else none)
theorem rg_247_0 {X : am_X} {d : Nat} {N : Nat} {lv : am_LV} (x0 : Value) (x1 : Int32) (x2 : Int32) (x3 : Value) (h : am_H) (o : am_O) (l0 : lv.lookup 0 = some x0) (l1 : lv.lookup 1 = some (.int x1)) (l2 : lv.lookup 2 = some (.int x2)) (l3 : lv.lookup 3 = some x3) (i0 : am_isR x0 = true) (i3 : am_isR x3 = true) (hs : fg_247_0 N x0 x1 x2 x3 h = some o) : am_W X (d + 84) 247 0 lv [] h (fun q => q = o) := by
  unfold fg_247_0 at hs
  refine aw_vload_n (pc1 := 1) at_247_0 l3 i3 rfl ?_
  refine aw_iconst (v := 0) (pc1 := 2) at_247_1 (by decide) rfl ?_
  refine aw_vload_n (pc1 := 3) at_247_2 l0 i0 rfl ?_
  refine aw_iload_n (pc1 := 4) at_247_3 l1 rfl ?_
  refine aw_iload_n (pc1 := 5) at_247_4 l2 rfl ?_
  obtain ⟨z1, hs1⟩ := am_ift hs
  clear hs
  refine aw_callH (F := fm_248 N x0 x1 x2 h) (na := 3) (kd := 1) (as := [x0, (.int x1), (.int x2)]) at_247_5 (am_k3v kb_248) mn_248 mk_248 rfl rfl (am_ok_v mi_248 (am_hl rfl (am_ccR i0 (am_ccI (am_ccI am_cats_0))) rfl) z1) (am_hc (am_ccI (am_ccR i3 am_cats_0)) rfl) (fun o1 hz9 => rm_248 x0 x1 x2 h o1 i0 hz9) ?_
  split at hs1
  · rename_i v2 h3 f4
    refine Or.inl ⟨_, _, f4, ?_⟩
    show am_W X _ 247 8 _ [(.long v2), (.int 0), x3] h3 _
    obtain ⟨h5, e6, hs2⟩ := am_bind hs1
    clear hs1
    refine aw_pSL (pc1 := 9) at_247_8 e6 rfl ?_
    refine aw_goto at_247_9 ?_
    refine aw_iconst (v := 0) (pc1 := 17) at_247_16 (by decide) rfl ?_
    cases hs2
    exact aw_iret at_247_17 (by rw [rt_247]; rfl) rfl
  · rename_i h7 f8
    refine Or.inr ⟨_, _, 14, 4, f8, rfl, hn_247, hd_247_5_2, ?_⟩
    exact rg_247_14 h7 o   hs1
  · cases hs1
def fm_247 (N : Nat) (y0 : Value) (y1 : Int32) (y2 : Int32) (y3 : Value) (h : am_H) : Option am_O := fg_247_0 N y0 y1 y2 y3 h
theorem rm_247 {X : am_X} {d : Nat} {N : Nat} (y0 : Value) (y1 : Int32) (y2 : Int32) (y3 : Value) (h : am_H) (o : am_O) (i0 : am_isR y0 = true) (i3 : am_isR y3 = true) (hs : fm_247 N y0 y1 y2 y3 h = some o) : am_W X (d + 84) 247 0 (am_args 0 [y0, .int y1, .int y2, y3]) [] h (fun q => q = o) := by
  rw [am_args_R i0, am_args_I, am_args_I, am_args_R i3]
  exact rg_247_0 y0 y1 y2 y3 h o rfl rfl rfl rfl i0 i3 hs
def fg_526_237 (N : Nat) (rec_207 : Value → Int64 → Int32 → am_H → Option am_O) (x0 : Value) (x5 : Int32) (s0 : Int64) (s1 : Int64) (h : am_H) : Option am_O := (rec_207 x0 ((s0 + s1)) ((x5 + 1)) h)
theorem rg_526_237 {X : am_X} {d : Nat} {N : Nat} {rec_207 : Value → Int64 → Int32 → am_H → Option am_O} (q_207 : ∀ (x0 : Value) (x3 : Int64) (x5 : Int32) (h : am_H) (o : am_O), rec_207 x0 x3 x5 h = some o → ∀ lv : am_LV, (lv.lookup 0 = some x0) → (lv.lookup 3 = some (.long x3)) → (lv.lookup 5 = some (.int x5)) → (am_isR x0 = true) → am_W X (d + 7) 526 207 lv [] h (fun q => q = o)) {lv : am_LV} (x0 : Value) (x5 : Int32) (s0 : Int64) (s1 : Int64) (h : am_H) (o : am_O) (l0 : lv.lookup 0 = some x0) (l5 : lv.lookup 5 = some (.int x5)) (i0 : am_isR x0 = true) (hs : fg_526_237 N rec_207 x0 x5 s0 s1 h = some o) : am_W X (d + 7) 526 237 lv [(.long s1), (.long s0)] h (fun q => q = o) := by
  unfold fg_526_237 at hs
  refine aw_ladd (v := (s0 + s1)) (pc1 := 238) at_526_237 rfl rfl ?_
  refine aw_lstore_n (lv1 := am_put2 _ 3 _) (pc1 := 239) at_526_238 rfl rfl ?_
  refine aw_iinc (v := (x5 + 1)) (c := 1) (lv1 := am_put1 _ 5 _) (pc1 := 242) at_526_239 (am_lk2 l5 rfl rfl) (by decide) rfl rfl rfl ?_
  refine aw_goto at_526_242 ?_
  exact q_207 x0 ((s0 + s1)) ((x5 + 1)) h o hs _ (am_lk1 (am_lk2 l0 rfl rfl) rfl rfl) (am_lk1 am_lk02 rfl rfl) am_lk0 i0
def fg_526_207 (N : Nat) : Nat → Value → Int64 → Int32 → am_H → Option am_O
  | 0 => fun _ _ _ _ => none
  | K + 1 => fun x0 x3 x5 h => (if 3 ≤ x5 then some (.inl (some (.long x3), h)) else ((am_vR (am_pG 3184 x0 h)).bind fun v2 => ((am_pAL v2 x5 h).bind fun v4 => (if 0 ≤ (lg_cmp v4 0) then ((am_vR (am_pG 3184 x0 h)).bind fun v7 => ((am_pAL v7 x5 h).bind fun v9 => (fg_526_237 N (fg_526_207 N K) x0 x5 x3 v9 h))) else (fg_526_237 N (fg_526_207 N K) x0 x5 x3 0 h)))))
theorem rg_526_207 {X : am_X} {d : Nat} {N : Nat} : ∀ (K : Nat) (x0 : Value) (x3 : Int64) (x5 : Int32) (h : am_H) (o : am_O), fg_526_207 N K x0 x3 x5 h = some o → ∀ lv : am_LV, (lv.lookup 0 = some x0) → (lv.lookup 3 = some (.long x3)) → (lv.lookup 5 = some (.int x5)) → (am_isR x0 = true) → am_W X (d + 7) 526 207 lv [] h (fun q => q = o) := by
  intro K
  induction K with
  | zero => intro x0 x3 x5 h o hs; cases hs
  | succ K ih =>
    intro x0 x3 x5 h o hs lv l0 l3 l5 i0
    unfold fg_526_207 at hs
    refine aw_iload (pc1 := 209) at_526_207 l5 rfl ?_
    refine aw_iconst (v := 3) (pc1 := 210) at_526_209 (by decide) rfl ?_
    by_cases c1 : 3 ≤ x5
    · rw [if_pos c1] at hs
      refine aw_icge_t at_526_210 c1 ?_
      refine aw_lload_n (pc1 := 246) at_526_245 l3 rfl ?_
      cases hs
      exact aw_lret at_526_246 rt_526 rfl
    · rw [if_neg c1] at hs
      refine aw_icge_f (pc1 := 213) at_526_210 c1 rfl ?_
      refine aw_lload_n (pc1 := 214) at_526_213 l3 rfl ?_
      refine aw_vload_n (pc1 := 215) at_526_214 l0 i0 rfl ?_
      obtain ⟨v2, e3, hs1⟩ := am_bind hs
      clear hs
      refine aw_pG (pc1 := 218) at_526_215 (am_vR_s e3).1 rfl ?_
      refine aw_iload (pc1 := 220) at_526_218 l5 rfl ?_
      obtain ⟨v4, e5, hs2⟩ := am_bind hs1
      clear hs1
      refine aw_pAL (pc1 := 221) at_526_220 e5 rfl ?_
      refine aw_lconst (v := 0) (pc1 := 222) at_526_221 (by decide) rfl ?_
      refine aw_lcmp (v := (lg_cmp v4 0)) (pc1 := 223) at_526_222 rfl rfl ?_
      by_cases c6 : 0 ≤ (lg_cmp v4 0)
      · rw [if_pos c6] at hs2
        refine aw_ifge_t at_526_223 c6 ?_
        refine aw_vload_n (pc1 := 231) at_526_230 l0 i0 rfl ?_
        obtain ⟨v7, e8, hs3⟩ := am_bind hs2
        clear hs2
        refine aw_pG (pc1 := 234) at_526_231 (am_vR_s e8).1 rfl ?_
        refine aw_iload (pc1 := 236) at_526_234 l5 rfl ?_
        obtain ⟨v9, e10, hs4⟩ := am_bind hs3
        clear hs3
        refine aw_pAL (pc1 := 237) at_526_236 e10 rfl ?_
        exact rg_526_237 (fun z0 z1 z2 h o hs4 => ih z0 z1 z2 h o hs4) x0 x5 x3 v9 h o l0 l5 i0 hs4
      · rw [if_neg c6] at hs2
        refine aw_ifge_f (pc1 := 226) at_526_223 c6 rfl ?_
        refine aw_lconst (v := 0) (pc1 := 227) at_526_226 (by decide) rfl ?_
        refine aw_goto at_526_227 ?_
        exact rg_526_237 (fun z0 z1 z2 h o hs2 => ih z0 z1 z2 h o hs2) x0 x5 x3 0 h o l0 l5 i0 hs2
def fg_526_196 (N : Nat) (rec_51 : Value → Int32 → Int32 → Int32 → am_H → Option am_O) (x0 : Value) (x1 : Int32) (x2 : Int32) (x3 : Int32) (h : am_H) : Option am_O := (rec_51 x0 x1 x2 ((x3 + 1)) h)
theorem rg_526_196 {X : am_X} {d : Nat} {N : Nat} {rec_51 : Value → Int32 → Int32 → Int32 → am_H → Option am_O} (q_51 : ∀ (x0 : Value) (x1 : Int32) (x2 : Int32) (x3 : Int32) (h : am_H) (o : am_O), rec_51 x0 x1 x2 x3 h = some o → ∀ lv : am_LV, (lv.lookup 0 = some x0) → (lv.lookup 1 = some (.int x1)) → (lv.lookup 2 = some (.int x2)) → (lv.lookup 3 = some (.int x3)) → (am_isR x0 = true) → am_W X (d + 7) 526 51 lv [] h (fun q => q = o)) {lv : am_LV} (x0 : Value) (x1 : Int32) (x2 : Int32) (x3 : Int32) (h : am_H) (o : am_O) (l0 : lv.lookup 0 = some x0) (l1 : lv.lookup 1 = some (.int x1)) (l2 : lv.lookup 2 = some (.int x2)) (l3 : lv.lookup 3 = some (.int x3)) (i0 : am_isR x0 = true) (hs : fg_526_196 N rec_51 x0 x1 x2 x3 h = some o) : am_W X (d + 7) 526 196 lv [] h (fun q => q = o) := by
  unfold fg_526_196 at hs
  refine aw_iinc (v := (x3 + 1)) (c := 1) (lv1 := am_put1 _ 3 _) (pc1 := 199) at_526_196 l3 (by decide) rfl rfl rfl ?_
  refine aw_goto at_526_199 ?_
  exact q_51 x0 x1 x2 ((x3 + 1)) h o hs _ (am_lk1 l0 rfl rfl) (am_lk1 l1 rfl rfl) (am_lk1 l2 rfl rfl) am_lk0 i0
def fg_526_178 (N : Nat) (rec_51 : Value → Int32 → Int32 → Int32 → am_H → Option am_O) (rec_100 : Value → Int32 → Int32 → Int32 → Int64 → Int32 → am_H → Option am_O) (x0 : Value) (x1 : Int32) (x2 : Int32) (x3 : Int32) (x6 : Int32) (s0 : Int64) (h : am_H) : Option am_O := (if 0 ≤ (lg_cmp s0 0) then (rec_100 x0 x1 x2 x3 s0 ((x6 + 1)) h) else (fg_526_196 N rec_51 x0 x1 x2 x3 h))
theorem rg_526_178 {X : am_X} {d : Nat} {N : Nat} {rec_51 : Value → Int32 → Int32 → Int32 → am_H → Option am_O} {rec_100 : Value → Int32 → Int32 → Int32 → Int64 → Int32 → am_H → Option am_O} (q_51 : ∀ (x0 : Value) (x1 : Int32) (x2 : Int32) (x3 : Int32) (h : am_H) (o : am_O), rec_51 x0 x1 x2 x3 h = some o → ∀ lv : am_LV, (lv.lookup 0 = some x0) → (lv.lookup 1 = some (.int x1)) → (lv.lookup 2 = some (.int x2)) → (lv.lookup 3 = some (.int x3)) → (am_isR x0 = true) → am_W X (d + 7) 526 51 lv [] h (fun q => q = o)) (q_100 : ∀ (x0 : Value) (x1 : Int32) (x2 : Int32) (x3 : Int32) (x4 : Int64) (x6 : Int32) (h : am_H) (o : am_O), rec_100 x0 x1 x2 x3 x4 x6 h = some o → ∀ lv : am_LV, (lv.lookup 0 = some x0) → (lv.lookup 1 = some (.int x1)) → (lv.lookup 2 = some (.int x2)) → (lv.lookup 3 = some (.int x3)) → (lv.lookup 4 = some (.long x4)) → (lv.lookup 6 = some (.int x6)) → (am_isR x0 = true) → am_W X (d + 7) 526 100 lv [] h (fun q => q = o)) {lv : am_LV} (x0 : Value) (x1 : Int32) (x2 : Int32) (x3 : Int32) (x6 : Int32) (s0 : Int64) (h : am_H) (o : am_O) (l0 : lv.lookup 0 = some x0) (l1 : lv.lookup 1 = some (.int x1)) (l2 : lv.lookup 2 = some (.int x2)) (l3 : lv.lookup 3 = some (.int x3)) (l6 : lv.lookup 6 = some (.int x6)) (i0 : am_isR x0 = true) (hs : fg_526_178 N rec_51 rec_100 x0 x1 x2 x3 x6 s0 h = some o) : am_W X (d + 7) 526 178 lv [(.long s0)] h (fun q => q = o) := by
  unfold fg_526_178 at hs
  refine aw_lstore (lv1 := am_put2 _ 4 _) (pc1 := 180) at_526_178 rfl rfl ?_
  refine aw_lload (pc1 := 182) at_526_180 am_lk02 rfl ?_
  refine aw_lconst (v := 0) (pc1 := 183) at_526_182 (by decide) rfl ?_
  refine aw_lcmp (v := (lg_cmp s0 0)) (pc1 := 184) at_526_183 rfl rfl ?_
  by_cases c1 : 0 ≤ (lg_cmp s0 0)
  · rw [if_pos c1] at hs
    refine aw_ifge_t at_526_184 c1 ?_
    refine aw_iinc (v := (x6 + 1)) (c := 1) (lv1 := am_put1 _ 6 _) (pc1 := 193) at_526_190 (am_lk2 l6 rfl rfl) (by decide) rfl rfl rfl ?_
    refine aw_goto at_526_193 ?_
    exact q_100 x0 x1 x2 x3 s0 ((x6 + 1)) h o hs _ (am_lk1 (am_lk2 l0 rfl rfl) rfl rfl) (am_lk1 (am_lk2 l1 rfl rfl) rfl rfl) (am_lk1 (am_lk2 l2 rfl rfl) rfl rfl) (am_lk1 (am_lk2 l3 rfl rfl) rfl rfl) (am_lk1 am_lk02 rfl rfl) am_lk0 i0
  · rw [if_neg c1] at hs
    refine aw_ifge_f (pc1 := 187) at_526_184 c1 rfl ?_
    refine aw_goto at_526_187 ?_
    exact rg_526_196 q_51 x0 x1 x2 x3 h o (am_lk2 l0 rfl rfl) (am_lk2 l1 rfl rfl) (am_lk2 l2 rfl rfl) (am_lk2 l3 rfl rfl) i0 hs
def fg_526_165 (N : Nat) (rec_51 : Value → Int32 → Int32 → Int32 → am_H → Option am_O) (rec_100 : Value → Int32 → Int32 → Int32 → Int64 → Int32 → am_H → Option am_O) (x0 : Value) (x1 : Int32) (x2 : Int32) (x3 : Int32) (x4 : Int64) (x6 : Int32) (x7 : Int32) (x8 : Int64) (s0 : Value) (s1 : Int32) (s2 : Int64) (h : am_H) : Option am_O := ((am_pSL s0 s1 s2 h).bind fun h1 => (if x7 = 0 then (fg_526_178 N rec_51 rec_100 x0 x1 x2 x3 x6 x4 h1) else (fg_526_178 N rec_51 rec_100 x0 x1 x2 x3 x6 x8 h1)))
theorem rg_526_165 {X : am_X} {d : Nat} {N : Nat} {rec_51 : Value → Int32 → Int32 → Int32 → am_H → Option am_O} {rec_100 : Value → Int32 → Int32 → Int32 → Int64 → Int32 → am_H → Option am_O} (q_51 : ∀ (x0 : Value) (x1 : Int32) (x2 : Int32) (x3 : Int32) (h : am_H) (o : am_O), rec_51 x0 x1 x2 x3 h = some o → ∀ lv : am_LV, (lv.lookup 0 = some x0) → (lv.lookup 1 = some (.int x1)) → (lv.lookup 2 = some (.int x2)) → (lv.lookup 3 = some (.int x3)) → (am_isR x0 = true) → am_W X (d + 7) 526 51 lv [] h (fun q => q = o)) (q_100 : ∀ (x0 : Value) (x1 : Int32) (x2 : Int32) (x3 : Int32) (x4 : Int64) (x6 : Int32) (h : am_H) (o : am_O), rec_100 x0 x1 x2 x3 x4 x6 h = some o → ∀ lv : am_LV, (lv.lookup 0 = some x0) → (lv.lookup 1 = some (.int x1)) → (lv.lookup 2 = some (.int x2)) → (lv.lookup 3 = some (.int x3)) → (lv.lookup 4 = some (.long x4)) → (lv.lookup 6 = some (.int x6)) → (am_isR x0 = true) → am_W X (d + 7) 526 100 lv [] h (fun q => q = o)) {lv : am_LV} (x0 : Value) (x1 : Int32) (x2 : Int32) (x3 : Int32) (x4 : Int64) (x6 : Int32) (x7 : Int32) (x8 : Int64) (s0 : Value) (s1 : Int32) (s2 : Int64) (h : am_H) (o : am_O) (l0 : lv.lookup 0 = some x0) (l1 : lv.lookup 1 = some (.int x1)) (l2 : lv.lookup 2 = some (.int x2)) (l3 : lv.lookup 3 = some (.int x3)) (l4 : lv.lookup 4 = some (.long x4)) (l6 : lv.lookup 6 = some (.int x6)) (l7 : lv.lookup 7 = some (.int x7)) (l8 : lv.lookup 8 = some (.long x8)) (i0 : am_isR x0 = true) (j0 : am_isR s0 = true) (hs : fg_526_165 N rec_51 rec_100 x0 x1 x2 x3 x4 x6 x7 x8 s0 s1 s2 h = some o) : am_W X (d + 7) 526 165 lv [(.long s2), (.int s1), s0] h (fun q => q = o) := by
  unfold fg_526_165 at hs
  obtain ⟨h1, e2, hs1⟩ := am_bind hs
  clear hs
  refine aw_pSL (pc1 := 166) at_526_165 e2 rfl ?_
  refine aw_iload (pc1 := 168) at_526_166 l7 rfl ?_
  by_cases c3 : x7 = 0
  · rw [if_pos c3] at hs1
    refine aw_ifeq_t at_526_168 c3 ?_
    refine aw_lload (pc1 := 178) at_526_176 l4 rfl ?_
    exact rg_526_178 q_51 q_100 x0 x1 x2 x3 x6 x4 h1 o l0 l1 l2 l3 l6 i0 hs1
  · rw [if_neg c3] at hs1
    refine aw_ifeq_f (pc1 := 171) at_526_168 c3 rfl ?_
    refine aw_lload (pc1 := 173) at_526_171 l8 rfl ?_
    refine aw_goto at_526_173 ?_
    exact rg_526_178 q_51 q_100 x0 x1 x2 x3 x6 x8 h1 o l0 l1 l2 l3 l6 i0 hs1
def fg_526_136 (N : Nat) (rec_51 : Value → Int32 → Int32 → Int32 → am_H → Option am_O) (rec_100 : Value → Int32 → Int32 → Int32 → Int64 → Int32 → am_H → Option am_O) (x0 : Value) (x1 : Int32) (x2 : Int32) (x3 : Int32) (x4 : Int64) (x6 : Int32) (s0 : Int32) (h : am_H) : Option am_O := ((am_vR (am_pG 3184 x0 h)).bind fun v1 => ((am_pAL v1 x6 h).bind fun v3 => ((am_vR (am_pG 3184 x0 h)).bind fun v5 => (if s0 = 0 then (fg_526_165 N rec_51 rec_100 x0 x1 x2 x3 x4 x6 s0 v3 v5 x6 v3 h) else (fg_526_165 N rec_51 rec_100 x0 x1 x2 x3 x4 x6 s0 v3 v5 x6 x4 h)))))
theorem rg_526_136 {X : am_X} {d : Nat} {N : Nat} {rec_51 : Value → Int32 → Int32 → Int32 → am_H → Option am_O} {rec_100 : Value → Int32 → Int32 → Int32 → Int64 → Int32 → am_H → Option am_O} (q_51 : ∀ (x0 : Value) (x1 : Int32) (x2 : Int32) (x3 : Int32) (h : am_H) (o : am_O), rec_51 x0 x1 x2 x3 h = some o → ∀ lv : am_LV, (lv.lookup 0 = some x0) → (lv.lookup 1 = some (.int x1)) → (lv.lookup 2 = some (.int x2)) → (lv.lookup 3 = some (.int x3)) → (am_isR x0 = true) → am_W X (d + 7) 526 51 lv [] h (fun q => q = o)) (q_100 : ∀ (x0 : Value) (x1 : Int32) (x2 : Int32) (x3 : Int32) (x4 : Int64) (x6 : Int32) (h : am_H) (o : am_O), rec_100 x0 x1 x2 x3 x4 x6 h = some o → ∀ lv : am_LV, (lv.lookup 0 = some x0) → (lv.lookup 1 = some (.int x1)) → (lv.lookup 2 = some (.int x2)) → (lv.lookup 3 = some (.int x3)) → (lv.lookup 4 = some (.long x4)) → (lv.lookup 6 = some (.int x6)) → (am_isR x0 = true) → am_W X (d + 7) 526 100 lv [] h (fun q => q = o)) {lv : am_LV} (x0 : Value) (x1 : Int32) (x2 : Int32) (x3 : Int32) (x4 : Int64) (x6 : Int32) (s0 : Int32) (h : am_H) (o : am_O) (l0 : lv.lookup 0 = some x0) (l1 : lv.lookup 1 = some (.int x1)) (l2 : lv.lookup 2 = some (.int x2)) (l3 : lv.lookup 3 = some (.int x3)) (l4 : lv.lookup 4 = some (.long x4)) (l6 : lv.lookup 6 = some (.int x6)) (i0 : am_isR x0 = true) (hs : fg_526_136 N rec_51 rec_100 x0 x1 x2 x3 x4 x6 s0 h = some o) : am_W X (d + 7) 526 136 lv [(.int s0)] h (fun q => q = o) := by
  unfold fg_526_136 at hs
  refine aw_istore (lv1 := am_put1 _ 7 _) (pc1 := 138) at_526_136 rfl rfl ?_
  refine aw_vload_n (pc1 := 139) at_526_138 (am_lk1 l0 rfl rfl) i0 rfl ?_
  obtain ⟨v1, e2, hs1⟩ := am_bind hs
  clear hs
  refine aw_pG (pc1 := 142) at_526_139 (am_vR_s e2).1 rfl ?_
  refine aw_iload (pc1 := 144) at_526_142 (am_lk1 l6 rfl rfl) rfl ?_
  obtain ⟨v3, e4, hs2⟩ := am_bind hs1
  clear hs1
  refine aw_pAL (pc1 := 145) at_526_144 e4 rfl ?_
  refine aw_lstore (lv1 := am_put2 _ 8 _) (pc1 := 147) at_526_145 rfl rfl ?_
  refine aw_vload_n (pc1 := 148) at_526_147 (am_lk2 (am_lk1 l0 rfl rfl) rfl rfl) i0 rfl ?_
  obtain ⟨v5, e6, hs3⟩ := am_bind hs2
  clear hs2
  refine aw_pG (pc1 := 151) at_526_148 (am_vR_s e6).1 rfl ?_
  refine aw_iload (pc1 := 153) at_526_151 (am_lk2 (am_lk1 l6 rfl rfl) rfl rfl) rfl ?_
  refine aw_iload (pc1 := 155) at_526_153 (am_lk2 am_lk0 rfl rfl) rfl ?_
  by_cases c7 : s0 = 0
  · rw [if_pos c7] at hs3
    refine aw_ifeq_t at_526_155 c7 ?_
    refine aw_lload (pc1 := 165) at_526_163 am_lk02 rfl ?_
    exact rg_526_165 q_51 q_100 x0 x1 x2 x3 x4 x6 s0 v3 v5 x6 v3 h o (am_lk2 (am_lk1 l0 rfl rfl) rfl rfl) (am_lk2 (am_lk1 l1 rfl rfl) rfl rfl) (am_lk2 (am_lk1 l2 rfl rfl) rfl rfl) (am_lk2 (am_lk1 l3 rfl rfl) rfl rfl) (am_lk2 (am_lk1 l4 rfl rfl) rfl rfl) (am_lk2 (am_lk1 l6 rfl rfl) rfl rfl) (am_lk2 am_lk0 rfl rfl) am_lk02 i0 (am_vR_s e6).2 hs3
  · rw [if_neg c7] at hs3
    refine aw_ifeq_f (pc1 := 158) at_526_155 c7 rfl ?_
    refine aw_lload (pc1 := 160) at_526_158 (am_lk2 (am_lk1 l4 rfl rfl) rfl rfl) rfl ?_
    refine aw_goto at_526_160 ?_
    exact rg_526_165 q_51 q_100 x0 x1 x2 x3 x4 x6 s0 v3 v5 x6 x4 h o (am_lk2 (am_lk1 l0 rfl rfl) rfl rfl) (am_lk2 (am_lk1 l1 rfl rfl) rfl rfl) (am_lk2 (am_lk1 l2 rfl rfl) rfl rfl) (am_lk2 (am_lk1 l3 rfl rfl) rfl rfl) (am_lk2 (am_lk1 l4 rfl rfl) rfl rfl) (am_lk2 (am_lk1 l6 rfl rfl) rfl rfl) (am_lk2 am_lk0 rfl rfl) am_lk02 i0 (am_vR_s e6).2 hs3
def fg_526_131 (N : Nat) (rec_51 : Value → Int32 → Int32 → Int32 → am_H → Option am_O) (rec_100 : Value → Int32 → Int32 → Int32 → Int64 → Int32 → am_H → Option am_O) (x0 : Value) (x1 : Int32) (x2 : Int32) (x3 : Int32) (x4 : Int64) (x6 : Int32) (h : am_H) : Option am_O := (fg_526_136 N rec_51 rec_100 x0 x1 x2 x3 x4 x6 1 h)
theorem rg_526_131 {X : am_X} {d : Nat} {N : Nat} {rec_51 : Value → Int32 → Int32 → Int32 → am_H → Option am_O} {rec_100 : Value → Int32 → Int32 → Int32 → Int64 → Int32 → am_H → Option am_O} (q_51 : ∀ (x0 : Value) (x1 : Int32) (x2 : Int32) (x3 : Int32) (h : am_H) (o : am_O), rec_51 x0 x1 x2 x3 h = some o → ∀ lv : am_LV, (lv.lookup 0 = some x0) → (lv.lookup 1 = some (.int x1)) → (lv.lookup 2 = some (.int x2)) → (lv.lookup 3 = some (.int x3)) → (am_isR x0 = true) → am_W X (d + 7) 526 51 lv [] h (fun q => q = o)) (q_100 : ∀ (x0 : Value) (x1 : Int32) (x2 : Int32) (x3 : Int32) (x4 : Int64) (x6 : Int32) (h : am_H) (o : am_O), rec_100 x0 x1 x2 x3 x4 x6 h = some o → ∀ lv : am_LV, (lv.lookup 0 = some x0) → (lv.lookup 1 = some (.int x1)) → (lv.lookup 2 = some (.int x2)) → (lv.lookup 3 = some (.int x3)) → (lv.lookup 4 = some (.long x4)) → (lv.lookup 6 = some (.int x6)) → (am_isR x0 = true) → am_W X (d + 7) 526 100 lv [] h (fun q => q = o)) {lv : am_LV} (x0 : Value) (x1 : Int32) (x2 : Int32) (x3 : Int32) (x4 : Int64) (x6 : Int32) (h : am_H) (o : am_O) (l0 : lv.lookup 0 = some x0) (l1 : lv.lookup 1 = some (.int x1)) (l2 : lv.lookup 2 = some (.int x2)) (l3 : lv.lookup 3 = some (.int x3)) (l4 : lv.lookup 4 = some (.long x4)) (l6 : lv.lookup 6 = some (.int x6)) (i0 : am_isR x0 = true) (hs : fg_526_131 N rec_51 rec_100 x0 x1 x2 x3 x4 x6 h = some o) : am_W X (d + 7) 526 131 lv [] h (fun q => q = o) := by
  unfold fg_526_131 at hs
  refine aw_iconst (v := 1) (pc1 := 132) at_526_131 (by decide) rfl ?_
  refine aw_goto at_526_132 ?_
  exact rg_526_136 q_51 q_100 x0 x1 x2 x3 x4 x6 1 h o l0 l1 l2 l3 l4 l6 i0 hs
def fg_526_100 (N : Nat) (rec_51 : Value → Int32 → Int32 → Int32 → am_H → Option am_O) : Nat → Value → Int32 → Int32 → Int32 → Int64 → Int32 → am_H → Option am_O
  | 0 => fun _ _ _ _ _ _ _ => none
  | K + 1 => fun x0 x1 x2 x3 x4 x6 h => (if 3 ≤ x6 then (fg_526_196 N rec_51 x0 x1 x2 x3 h) else ((am_vR (am_pG 3184 x0 h)).bind fun v2 => ((am_pAL v2 x6 h).bind fun v4 => (if (lg_cmp v4 0) < 0 then (fg_526_131 N rec_51 (fg_526_100 N rec_51 K) x0 x1 x2 x3 x4 x6 h) else ((am_vR (am_pG 3184 x0 h)).bind fun v7 => ((am_pAL v7 x6 h).bind fun v9 => (if 0 ≤ (lg_cmp x4 v9) then (fg_526_136 N rec_51 (fg_526_100 N rec_51 K) x0 x1 x2 x3 x4 x6 0 h) else (fg_526_131 N rec_51 (fg_526_100 N rec_51 K) x0 x1 x2 x3 x4 x6 h))))))))
theorem rg_526_100 {X : am_X} {d : Nat} {N : Nat} {rec_51 : Value → Int32 → Int32 → Int32 → am_H → Option am_O} (q_51 : ∀ (x0 : Value) (x1 : Int32) (x2 : Int32) (x3 : Int32) (h : am_H) (o : am_O), rec_51 x0 x1 x2 x3 h = some o → ∀ lv : am_LV, (lv.lookup 0 = some x0) → (lv.lookup 1 = some (.int x1)) → (lv.lookup 2 = some (.int x2)) → (lv.lookup 3 = some (.int x3)) → (am_isR x0 = true) → am_W X (d + 7) 526 51 lv [] h (fun q => q = o)) : ∀ (K : Nat) (x0 : Value) (x1 : Int32) (x2 : Int32) (x3 : Int32) (x4 : Int64) (x6 : Int32) (h : am_H) (o : am_O), fg_526_100 N rec_51 K x0 x1 x2 x3 x4 x6 h = some o → ∀ lv : am_LV, (lv.lookup 0 = some x0) → (lv.lookup 1 = some (.int x1)) → (lv.lookup 2 = some (.int x2)) → (lv.lookup 3 = some (.int x3)) → (lv.lookup 4 = some (.long x4)) → (lv.lookup 6 = some (.int x6)) → (am_isR x0 = true) → am_W X (d + 7) 526 100 lv [] h (fun q => q = o) := by
  intro K
  induction K with
  | zero => intro x0 x1 x2 x3 x4 x6 h o hs; cases hs
  | succ K ih =>
    intro x0 x1 x2 x3 x4 x6 h o hs lv l0 l1 l2 l3 l4 l6 i0
    unfold fg_526_100 at hs
    refine aw_iload (pc1 := 102) at_526_100 l6 rfl ?_
    refine aw_iconst (v := 3) (pc1 := 103) at_526_102 (by decide) rfl ?_
    by_cases c1 : 3 ≤ x6
    · rw [if_pos c1] at hs
      refine aw_icge_t at_526_103 c1 ?_
      exact rg_526_196 q_51 x0 x1 x2 x3 h o l0 l1 l2 l3 i0 hs
    · rw [if_neg c1] at hs
      refine aw_icge_f (pc1 := 106) at_526_103 c1 rfl ?_
      refine aw_vload_n (pc1 := 107) at_526_106 l0 i0 rfl ?_
      obtain ⟨v2, e3, hs1⟩ := am_bind hs
      clear hs
      refine aw_pG (pc1 := 110) at_526_107 (am_vR_s e3).1 rfl ?_
      refine aw_iload (pc1 := 112) at_526_110 l6 rfl ?_
      obtain ⟨v4, e5, hs2⟩ := am_bind hs1
      clear hs1
      refine aw_pAL (pc1 := 113) at_526_112 e5 rfl ?_
      refine aw_lconst (v := 0) (pc1 := 114) at_526_113 (by decide) rfl ?_
      refine aw_lcmp (v := (lg_cmp v4 0)) (pc1 := 115) at_526_114 rfl rfl ?_
      by_cases c6 : (lg_cmp v4 0) < 0
      · rw [if_pos c6] at hs2
        refine aw_iflt_t at_526_115 c6 ?_
        exact rg_526_131 q_51 (fun z0 z1 z2 z3 z4 z5 h o hs2 => ih z0 z1 z2 z3 z4 z5 h o hs2) x0 x1 x2 x3 x4 x6 h o l0 l1 l2 l3 l4 l6 i0 hs2
      · rw [if_neg c6] at hs2
        refine aw_iflt_f (pc1 := 118) at_526_115 c6 rfl ?_
        refine aw_lload (pc1 := 120) at_526_118 l4 rfl ?_
        refine aw_vload_n (pc1 := 121) at_526_120 l0 i0 rfl ?_
        obtain ⟨v7, e8, hs3⟩ := am_bind hs2
        clear hs2
        refine aw_pG (pc1 := 124) at_526_121 (am_vR_s e8).1 rfl ?_
        refine aw_iload (pc1 := 126) at_526_124 l6 rfl ?_
        obtain ⟨v9, e10, hs4⟩ := am_bind hs3
        clear hs3
        refine aw_pAL (pc1 := 127) at_526_126 e10 rfl ?_
        refine aw_lcmp (v := (lg_cmp x4 v9)) (pc1 := 128) at_526_127 rfl rfl ?_
        by_cases c11 : 0 ≤ (lg_cmp x4 v9)
        · rw [if_pos c11] at hs4
          refine aw_ifge_t at_526_128 c11 ?_
          refine aw_iconst (v := 0) (pc1 := 136) at_526_135 (by decide) rfl ?_
          exact rg_526_136 q_51 (fun z0 z1 z2 z3 z4 z5 h o hs4 => ih z0 z1 z2 z3 z4 z5 h o hs4) x0 x1 x2 x3 x4 x6 0 h o l0 l1 l2 l3 l4 l6 i0 hs4
        · rw [if_neg c11] at hs4
          refine aw_ifge_f (pc1 := 131) at_526_128 c11 rfl ?_
          exact rg_526_131 q_51 (fun z0 z1 z2 z3 z4 z5 h o hs4 => ih z0 z1 z2 z3 z4 z5 h o hs4) x0 x1 x2 x3 x4 x6 h o l0 l1 l2 l3 l4 l6 i0 hs4
def fg_526_51 (N : Nat) : Nat → Value → Int32 → Int32 → Int32 → am_H → Option am_O
  | 0 => fun _ _ _ _ _ => none
  | K + 1 => fun x0 x1 x2 x3 h => ((am_vR (am_pG 3170 x0 h)).bind fun v1 => ((am_pA 0 v1 x1 h).bind fun v3 => (if v3 ≤ x3 then (fg_526_207 N N x0 0 0 h) else (if ¬ x3 = x2 then ((am_vR (am_pG 3171 x0 h)).bind fun v7 => ((am_pA 0 v7 ((16 * x1) + x2) h).bind fun v9 => ((am_vR (am_pG 3171 x0 h)).bind fun v11 => ((am_pA 0 v11 ((16 * x1) + x3) h).bind fun v13 => (if am_pOk 12 x0 h then am_cL true (fm_525 N x0 v9 v13 h) (fun v16 h17 => (fg_526_100 N (fg_526_51 N K) N x0 x1 x2 x3 v16 0 h17)) else none))))) else (fg_526_196 N (fg_526_51 N K) x0 x1 x2 x3 h)))))
theorem rg_526_51 {X : am_X} {d : Nat} {N : Nat} : ∀ (K : Nat) (x0 : Value) (x1 : Int32) (x2 : Int32) (x3 : Int32) (h : am_H) (o : am_O), fg_526_51 N K x0 x1 x2 x3 h = some o → ∀ lv : am_LV, (lv.lookup 0 = some x0) → (lv.lookup 1 = some (.int x1)) → (lv.lookup 2 = some (.int x2)) → (lv.lookup 3 = some (.int x3)) → (am_isR x0 = true) → am_W X (d + 7) 526 51 lv [] h (fun q => q = o) := by
  intro K
  induction K with
  | zero => intro x0 x1 x2 x3 h o hs; cases hs
  | succ K ih =>
    intro x0 x1 x2 x3 h o hs lv l0 l1 l2 l3 i0
    unfold fg_526_51 at hs
    refine aw_iload_n (pc1 := 52) at_526_51 l3 rfl ?_
    refine aw_vload_n (pc1 := 53) at_526_52 l0 i0 rfl ?_
    obtain ⟨v1, e2, hs1⟩ := am_bind hs
    clear hs
    refine aw_pG (pc1 := 56) at_526_53 (am_vR_s e2).1 rfl ?_
    refine aw_iload_n (pc1 := 57) at_526_56 l1 rfl ?_
    obtain ⟨v3, e4, hs2⟩ := am_bind hs1
    clear hs1
    refine aw_pA (pc1 := 58) at_526_57 (Or.inl ⟨rfl, rfl⟩) e4 rfl ?_
    by_cases c5 : v3 ≤ x3
    · rw [if_pos c5] at hs2
      refine aw_icge_t at_526_58 c5 ?_
      refine aw_lconst (v := 0) (pc1 := 203) at_526_202 (by decide) rfl ?_
      refine aw_lstore_n (lv1 := am_put2 _ 3 _) (pc1 := 204) at_526_203 rfl rfl ?_
      refine aw_iconst (v := 0) (pc1 := 205) at_526_204 (by decide) rfl ?_
      refine aw_istore (lv1 := am_put1 _ 5 _) (pc1 := 207) at_526_205 rfl rfl ?_
      exact rg_526_207 N x0 0 0 h o hs2 _ (am_lk1 (am_lk2 l0 rfl rfl) rfl rfl) (am_lk1 am_lk02 rfl rfl) am_lk0 i0
    · rw [if_neg c5] at hs2
      refine aw_icge_f (pc1 := 61) at_526_58 c5 rfl ?_
      refine aw_iload_n (pc1 := 62) at_526_61 l3 rfl ?_
      refine aw_iload_n (pc1 := 63) at_526_62 l2 rfl ?_
      by_cases c6 : ¬ x3 = x2
      · rw [if_pos c6] at hs2
        refine aw_icne_t at_526_63 c6 ?_
        refine aw_vload_n (pc1 := 70) at_526_69 l0 i0 rfl ?_
        refine aw_vload_n (pc1 := 71) at_526_70 l0 i0 rfl ?_
        obtain ⟨v7, e8, hs3⟩ := am_bind hs2
        clear hs2
        refine aw_pG (pc1 := 74) at_526_71 (am_vR_s e8).1 rfl ?_
        refine aw_bipush (v := 16) (pc1 := 76) at_526_74 (by decide) rfl ?_
        refine aw_iload_n (pc1 := 77) at_526_76 l1 rfl ?_
        refine aw_imul (v := (16 * x1)) (pc1 := 78) at_526_77 rfl rfl ?_
        refine aw_iload_n (pc1 := 79) at_526_78 l2 rfl ?_
        refine aw_iadd (v := ((16 * x1) + x2)) (pc1 := 80) at_526_79 rfl rfl ?_
        obtain ⟨v9, e10, hs4⟩ := am_bind hs3
        clear hs3
        refine aw_pA (pc1 := 81) at_526_80 (Or.inl ⟨rfl, rfl⟩) e10 rfl ?_
        refine aw_vload_n (pc1 := 82) at_526_81 l0 i0 rfl ?_
        obtain ⟨v11, e12, hs5⟩ := am_bind hs4
        clear hs4
        refine aw_pG (pc1 := 85) at_526_82 (am_vR_s e12).1 rfl ?_
        refine aw_bipush (v := 16) (pc1 := 87) at_526_85 (by decide) rfl ?_
        refine aw_iload_n (pc1 := 88) at_526_87 l1 rfl ?_
        refine aw_imul (v := (16 * x1)) (pc1 := 89) at_526_88 rfl rfl ?_
        refine aw_iload_n (pc1 := 90) at_526_89 l3 rfl ?_
        refine aw_iadd (v := ((16 * x1) + x3)) (pc1 := 91) at_526_90 rfl rfl ?_
        obtain ⟨v13, e14, hs6⟩ := am_bind hs5
        clear hs5
        refine aw_pA (pc1 := 92) at_526_91 (Or.inl ⟨rfl, rfl⟩) e14 rfl ?_
        obtain ⟨z15, hs7⟩ := am_ift hs6
        clear hs6
        refine aw_call (F := fm_525 N x0 v9 v13 h) (t := true) (na := 3) (kd := 1) (as := [x0, (.int v9), (.int v13)]) at_526_92 (am_k3v kb_525) mn_525 mk_525 rfl rfl (am_ok_v mi_525 (am_hl rfl (am_ccR i0 (am_ccI (am_ccI am_cats_0))) rfl) z15) (am_hc am_cats_0 rfl) (fun _ => ⟨rfl, hh_526⟩) (fun o1 hz9 => rm_525 x0 v9 v13 h o1 i0 hz9) ?_
        rcases am_cL_s hs7 with ⟨v16, h17, f18, hs8⟩ | hs8
        · clear hs7
          refine Or.inl ⟨_, _, f18, ?_⟩
          show am_W X _ 526 95 _ [(.long v16)] h17 _
          refine aw_lstore (lv1 := am_put2 _ 4 _) (pc1 := 97) at_526_95 rfl rfl ?_
          refine aw_iconst (v := 0) (pc1 := 98) at_526_97 (by decide) rfl ?_
          refine aw_istore (lv1 := am_put1 _ 6 _) (pc1 := 100) at_526_98 rfl rfl ?_
          exact rg_526_100 (fun z0 z1 z2 z3 h o hs8 => ih z0 z1 z2 z3 h o hs8) N x0 x1 x2 x3 v16 0 h17 o hs8 _ (am_lk1 (am_lk2 l0 rfl rfl) rfl rfl) (am_lk1 (am_lk2 l1 rfl rfl) rfl rfl) (am_lk1 (am_lk2 l2 rfl rfl) rfl rfl) (am_lk1 (am_lk2 l3 rfl rfl) rfl rfl) (am_lk1 am_lk02 rfl rfl) am_lk0 i0
        · clear hs7
          exact Or.inr hs8
      · rw [if_neg c6] at hs2
        refine aw_icne_f (pc1 := 66) at_526_63 c6 rfl ?_
        refine aw_goto at_526_66 ?_
        exact rg_526_196 (fun z0 z1 z2 z3 h o hs2 => ih z0 z1 z2 z3 h o hs2) x0 x1 x2 x3 h o l0 l1 l2 l3 i0 hs2
def fg_526_29 (N : Nat) : Nat → Value → Int32 → Int32 → Int32 → am_H → Option am_O
  | 0 => fun _ _ _ _ _ => none
  | K + 1 => fun x0 x1 x2 x3 h => (if 3 ≤ x3 then (fg_526_51 N N x0 x1 x2 0 h) else ((am_vR (am_pG 3184 x0 h)).bind fun v2 => ((am_pSL v2 x3 (-1) h).bind fun h4 => (fg_526_29 N K x0 x1 x2 ((x3 + 1)) h4))))
theorem rg_526_29 {X : am_X} {d : Nat} {N : Nat} : ∀ (K : Nat) (x0 : Value) (x1 : Int32) (x2 : Int32) (x3 : Int32) (h : am_H) (o : am_O), fg_526_29 N K x0 x1 x2 x3 h = some o → ∀ lv : am_LV, (lv.lookup 0 = some x0) → (lv.lookup 1 = some (.int x1)) → (lv.lookup 2 = some (.int x2)) → (lv.lookup 3 = some (.int x3)) → (am_isR x0 = true) → am_W X (d + 7) 526 29 lv [] h (fun q => q = o) := by
  intro K
  induction K with
  | zero => intro x0 x1 x2 x3 h o hs; cases hs
  | succ K ih =>
    intro x0 x1 x2 x3 h o hs lv l0 l1 l2 l3 i0
    unfold fg_526_29 at hs
    refine aw_iload_n (pc1 := 30) at_526_29 l3 rfl ?_
    refine aw_iconst (v := 3) (pc1 := 31) at_526_30 (by decide) rfl ?_
    by_cases c1 : 3 ≤ x3
    · rw [if_pos c1] at hs
      refine aw_icge_t at_526_31 c1 ?_
      refine aw_iconst (v := 0) (pc1 := 50) at_526_49 (by decide) rfl ?_
      refine aw_istore_n (lv1 := am_put1 _ 3 _) (pc1 := 51) at_526_50 rfl rfl ?_
      exact rg_526_51 N x0 x1 x2 0 h o hs _ (am_lk1 l0 rfl rfl) (am_lk1 l1 rfl rfl) (am_lk1 l2 rfl rfl) am_lk0 i0
    · rw [if_neg c1] at hs
      refine aw_icge_f (pc1 := 34) at_526_31 c1 rfl ?_
      refine aw_vload_n (pc1 := 35) at_526_34 l0 i0 rfl ?_
      obtain ⟨v2, e3, hs1⟩ := am_bind hs
      clear hs
      refine aw_pG (pc1 := 38) at_526_35 (am_vR_s e3).1 rfl ?_
      refine aw_iload_n (pc1 := 39) at_526_38 l3 rfl ?_
      refine aw_ldc2 (v := (-1)) (pc1 := 42) at_526_39 rfl rfl ?_
      obtain ⟨h4, e5, hs2⟩ := am_bind hs1
      clear hs1
      refine aw_pSL (pc1 := 43) at_526_42 e5 rfl ?_
      refine aw_iinc (v := (x3 + 1)) (c := 1) (lv1 := am_put1 _ 3 _) (pc1 := 46) at_526_43 l3 (by decide) rfl rfl rfl ?_
      refine aw_goto at_526_46 ?_
      exact ih x0 x1 x2 ((x3 + 1)) h4 o hs2 _ (am_lk1 l0 rfl rfl) (am_lk1 l1 rfl rfl) (am_lk1 l2 rfl rfl) am_lk0 i0
def fg_526_15 (N : Nat) (x0 : Value) (x1 : Int32) (x2 : Int32) (s0 : Value) (s1 : Int32) (h : am_H) : Option am_O := ((am_pP 3072 s0 (.int s1) h).bind fun h1 => ((am_vI (am_pG 3072 x0 h1)).bind fun v3 => (if v3 ≤ 0 then (fg_526_29 N N x0 x1 x2 0 h1) else some (.inl (some (.long 0), h1)))))
theorem rg_526_15 {X : am_X} {d : Nat} {N : Nat} {lv : am_LV} (x0 : Value) (x1 : Int32) (x2 : Int32) (s0 : Value) (s1 : Int32) (h : am_H) (o : am_O) (l0 : lv.lookup 0 = some x0) (l1 : lv.lookup 1 = some (.int x1)) (l2 : lv.lookup 2 = some (.int x2)) (i0 : am_isR x0 = true) (j0 : am_isR s0 = true) (hs : fg_526_15 N x0 x1 x2 s0 s1 h = some o) : am_W X (d + 7) 526 15 lv [(.int s1), s0] h (fun q => q = o) := by
  unfold fg_526_15 at hs
  obtain ⟨h1, e2, hs1⟩ := am_bind hs
  clear hs
  refine aw_pP (pc1 := 18) at_526_15 e2 rfl ?_
  refine aw_vload_n (pc1 := 19) at_526_18 l0 i0 rfl ?_
  obtain ⟨v3, e4, hs2⟩ := am_bind hs1
  clear hs1
  refine aw_pG (pc1 := 22) at_526_19 (am_vI_s e4) rfl ?_
  by_cases c5 : v3 ≤ 0
  · rw [if_pos c5] at hs2
    refine aw_ifle_t at_526_22 c5 ?_
    refine aw_iconst (v := 0) (pc1 := 28) at_526_27 (by decide) rfl ?_
    refine aw_istore_n (lv1 := am_put1 _ 3 _) (pc1 := 29) at_526_28 rfl rfl ?_
    exact rg_526_29 N x0 x1 x2 0 h1 o hs2 _ (am_lk1 l0 rfl rfl) (am_lk1 l1 rfl rfl) (am_lk1 l2 rfl rfl) am_lk0 i0
  · rw [if_neg c5] at hs2
    refine aw_ifle_f (pc1 := 25) at_526_22 c5 rfl ?_
    refine aw_lconst (v := 0) (pc1 := 26) at_526_25 (by decide) rfl ?_
    cases hs2
    exact aw_lret at_526_26 rt_526 rfl
def fg_526_0 (N : Nat) (x0 : Value) (x1 : Int32) (x2 : Int32) (h : am_H) : Option am_O := (if am_pOk 12 x0 h then am_cI true (fm_501 x0 x1 x2 h) (fun v2 h3 => (if v2 = 0 then (fg_526_15 N x0 x1 x2 x0 1 h3) else (fg_526_15 N x0 x1 x2 x0 0 h3))) else none)
theorem rg_526_0 {X : am_X} {d : Nat} {N : Nat} {lv : am_LV} (x0 : Value) (x1 : Int32) (x2 : Int32) (h : am_H) (o : am_O) (l0 : lv.lookup 0 = some x0) (l1 : lv.lookup 1 = some (.int x1)) (l2 : lv.lookup 2 = some (.int x2)) (i0 : am_isR x0 = true) (hs : fg_526_0 N x0 x1 x2 h = some o) : am_W X (d + 7) 526 0 lv [] h (fun q => q = o) := by
  unfold fg_526_0 at hs
  refine aw_vload_n (pc1 := 1) at_526_0 l0 i0 rfl ?_
  refine aw_vload_n (pc1 := 2) at_526_1 l0 i0 rfl ?_
  refine aw_iload_n (pc1 := 3) at_526_2 l1 rfl ?_
  refine aw_iload_n (pc1 := 4) at_526_3 l2 rfl ?_
  obtain ⟨z1, hs1⟩ := am_ift hs
  clear hs
  refine aw_call (F := fm_501 x0 x1 x2 h) (t := true) (na := 3) (kd := 1) (as := [x0, (.int x1), (.int x2)]) at_526_4 (am_k3v kb_501) mn_501 mk_501 rfl rfl (am_ok_v mi_501 (am_hl rfl (am_ccR i0 (am_ccI (am_ccI am_cats_0))) rfl) z1) (am_hc (am_ccR i0 am_cats_0) rfl) (fun _ => ⟨rfl, hh_526⟩) (fun o1 hz9 => rm_501 x0 x1 x2 h o1 i0 hz9) ?_
  rcases am_cI_s hs1 with ⟨v2, h3, f4, hs2⟩ | hs2
  · clear hs1
    refine Or.inl ⟨_, _, f4, ?_⟩
    show am_W X _ 526 7 _ [(.int v2), x0] h3 _
    by_cases c5 : v2 = 0
    · rw [if_pos c5] at hs2
      refine aw_ifeq_t at_526_7 c5 ?_
      refine aw_iconst (v := 1) (pc1 := 15) at_526_14 (by decide) rfl ?_
      exact rg_526_15 x0 x1 x2 x0 1 h3 o l0 l1 l2 i0 i0 hs2
    · rw [if_neg c5] at hs2
      refine aw_ifeq_f (pc1 := 10) at_526_7 c5 rfl ?_
      refine aw_iconst (v := 0) (pc1 := 11) at_526_10 (by decide) rfl ?_
      refine aw_goto at_526_11 ?_
      exact rg_526_15 x0 x1 x2 x0 0 h3 o l0 l1 l2 i0 i0 hs2
  · clear hs1
    exact Or.inr hs2
def fm_526 (N : Nat) (y0 : Value) (y1 : Int32) (y2 : Int32) (h : am_H) : Option am_O := fg_526_0 N y0 y1 y2 h
theorem rm_526 {X : am_X} {d : Nat} {N : Nat} (y0 : Value) (y1 : Int32) (y2 : Int32) (h : am_H) (o : am_O) (i0 : am_isR y0 = true) (hs : fm_526 N y0 y1 y2 h = some o) : am_W X (d + 7) 526 0 (am_args 0 [y0, .int y1, .int y2]) [] h (fun q => q = o) := by
  rw [am_args_R i0, am_args_I, am_args_I]
  exact rg_526_0 y0 y1 y2 h o rfl rfl rfl i0 hs
