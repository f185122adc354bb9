/-! ===== methods as functions ===== -/
def fg_23_0 (x0 : Value) (h : am_H) : Option am_O := ((am_vI (am_pG 2817 x0 h)).bind fun v1 => some (.inl (some (.int v1), h)))
theorem rg_23_0 {X : am_X} {d : Nat} {lv : am_LV} (x0 : Value) (h : am_H) (o : am_O) (l0 : lv.lookup 0 = some x0) (i0 : am_isR x0 = true) (hs : fg_23_0 x0 h = some o) : am_W X (d) 23 0 lv [] h (fun q => q = o) := by
  unfold fg_23_0 at hs
  refine aw_vload_n (pc1 := 1) at_23_0 l0 i0 rfl ?_
  obtain ⟨v1, e2, hs1⟩ := am_bind hs
  clear hs
  refine aw_pG (pc1 := 4) at_23_1 (am_vI_s e2) rfl ?_
  cases hs1
  exact aw_iret at_23_4 (by rw [rt_23]; rfl) rfl
def fm_23 (y0 : Value) (h : am_H) : Option am_O := fg_23_0 y0 h
theorem rm_23 {X : am_X} {d : Nat} (y0 : Value) (h : am_H) (o : am_O) (i0 : am_isR y0 = true) (hs : fm_23 y0 h = some o) : am_W X (d) 23 0 (am_args 0 [y0]) [] h (fun q => q = o) := by
  rw [am_args_R i0]
  exact rg_23_0 y0 h o rfl i0 hs
def fg_369_0 (x0 : Value) (h : am_H) : Option am_O := ((am_pP 3072 x0 (.int 0) h).bind fun h1 => ((am_vI (am_pG 3073 x0 h1)).bind fun v3 => some (.inl (some (.int v3), h1))))
theorem rg_369_0 {X : am_X} {d : Nat} {lv : am_LV} (x0 : Value) (h : am_H) (o : am_O) (l0 : lv.lookup 0 = some x0) (i0 : am_isR x0 = true) (hs : fg_369_0 x0 h = some o) : am_W X (d) 369 0 lv [] h (fun q => q = o) := by
  unfold fg_369_0 at hs
  refine aw_vload_n (pc1 := 1) at_369_0 l0 i0 rfl ?_
  refine aw_iconst (v := 0) (pc1 := 2) at_369_1 (by decide) rfl ?_
  obtain ⟨h1, e2, hs1⟩ := am_bind hs
  clear hs
  refine aw_pP (pc1 := 5) at_369_2 e2 rfl ?_
  refine aw_vload_n (pc1 := 6) at_369_5 l0 i0 rfl ?_
  obtain ⟨v3, e4, hs2⟩ := am_bind hs1
  clear hs1
  refine aw_pG (pc1 := 9) at_369_6 (am_vI_s e4) rfl ?_
  cases hs2
  exact aw_iret at_369_9 (by rw [rt_369]; rfl) rfl
def fm_369 (y0 : Value) (h : am_H) : Option am_O := fg_369_0 y0 h
theorem rm_369 {X : am_X} {d : Nat} (y0 : Value) (h : am_H) (o : am_O) (i0 : am_isR y0 = true) (hs : fm_369 y0 h = some o) : am_W X (d) 369 0 (am_args 0 [y0]) [] h (fun q => q = o) := by
  rw [am_args_R i0]
  exact rg_369_0 y0 h o rfl i0 hs
def fg_38_10 (s0 : Int32) (h : am_H) : Option am_O := some (.inl (some (.int s0), h))
theorem rg_38_10 {X : am_X} {d : Nat} {lv : am_LV} (s0 : Int32) (h : am_H) (o : am_O) (hs : fg_38_10 s0 h = some o) : am_W X (d) 38 10 lv [(.int s0)] h (fun q => q = o) := by
  unfold fg_38_10 at hs
  cases hs
  exact aw_iret at_38_10 (by rw [rt_38]; rfl) rfl
def fg_38_0 (x0 : Int32) (x1 : Int32) (h : am_H) : Option am_O := (if x1 < x0 then (fg_38_10 x1 h) else (fg_38_10 x0 h))
theorem rg_38_0 {X : am_X} {d : Nat} {lv : am_LV} (x0 : Int32) (x1 : Int32) (h : am_H) (o : am_O) (l0 : lv.lookup 0 = some (.int x0)) (l1 : lv.lookup 1 = some (.int x1)) (hs : fg_38_0 x0 x1 h = some o) : am_W X (d) 38 0 lv [] h (fun q => q = o) := by
  unfold fg_38_0 at hs
  refine aw_iload_n (pc1 := 1) at_38_0 l0 rfl ?_
  refine aw_iload_n (pc1 := 2) at_38_1 l1 rfl ?_
  by_cases c1 : x1 < x0
  · rw [if_pos c1] at hs
    refine aw_icgt_t at_38_2 c1 ?_
    refine aw_iload_n (pc1 := 10) at_38_9 l1 rfl ?_
    exact rg_38_10 x1 h o   hs
  · rw [if_neg c1] at hs
    refine aw_icgt_f (pc1 := 5) at_38_2 c1 rfl ?_
    refine aw_iload_n (pc1 := 6) at_38_5 l0 rfl ?_
    refine aw_goto at_38_6 ?_
    exact rg_38_10 x0 h o   hs
def fm_38 (y0 : Int32) (y1 : Int32) (h : am_H) : Option am_O := fg_38_0 y0 y1 h
theorem rm_38 {X : am_X} {d : Nat} (y0 : Int32) (y1 : Int32) (h : am_H) (o : am_O) (hs : fm_38 y0 y1 h = some o) : am_W X (d) 38 0 (am_args 0 [.int y0, .int y1]) [] h (fun q => q = o) := by
  rw [am_args_I, am_args_I]
  exact rg_38_0 y0 y1 h o rfl rfl  hs
def fg_77_65 (N : Nat) (rec_20 : Value → Value → Int32 → am_H → Option am_O) (rec_39 : Value → Value → Int32 → Int32 → Int32 → am_H → Option am_O) (x0 : Value) (x1 : Value) (x2 : Int32) (x4 : Int32) (s0 : Int32) (h : am_H) : Option am_O := (rec_39 x0 x1 x2 s0 ((x4 + (-1))) h)
theorem rg_77_65 {X : am_X} {d : Nat} {N : Nat} {rec_20 : Value → Value → Int32 → am_H → Option am_O} {rec_39 : Value → Value → Int32 → Int32 → Int32 → am_H → Option am_O} (q_20 : ∀ (x0 : Value) (x1 : Value) (x2 : Int32) (h : am_H) (o : am_O), rec_20 x0 x1 x2 h = some o → ∀ lv : am_LV, (lv.lookup 0 = some x0) → (lv.lookup 1 = some x1) → (lv.lookup 2 = some (.int x2)) → (am_isR x0 = true) → (am_isR x1 = true) → am_W X (d + 1) 77 20 lv [] h (fun q => q = o)) (q_39 : ∀ (x0 : Value) (x1 : Value) (x2 : Int32) (x3 : Int32) (x4 : Int32) (h : am_H) (o : am_O), rec_39 x0 x1 x2 x3 x4 h = some o → ∀ lv : am_LV, (lv.lookup 0 = some x0) → (lv.lookup 1 = some x1) → (lv.lookup 2 = some (.int x2)) → (lv.lookup 3 = some (.int x3)) → (lv.lookup 4 = some (.int x4)) → (am_isR x0 = true) → (am_isR x1 = true) → am_W X (d + 1) 77 39 lv [] h (fun q => q = o)) {lv : am_LV} (x0 : Value) (x1 : Value) (x2 : Int32) (x4 : Int32) (s0 : Int32) (h : am_H) (o : am_O) (l0 : lv.lookup 0 = some x0) (l1 : lv.lookup 1 = some x1) (l2 : lv.lookup 2 = some (.int x2)) (l4 : lv.lookup 4 = some (.int x4)) (i0 : am_isR x0 = true) (i1 : am_isR x1 = true) (hs : fg_77_65 N rec_20 rec_39 x0 x1 x2 x4 s0 h = some o) : am_W X (d + 1) 77 65 lv [(.int s0)] h (fun q => q = o) := by
  unfold fg_77_65 at hs
  refine aw_istore_n (lv1 := am_put1 _ 3 _) (pc1 := 66) at_77_65 rfl rfl ?_
  refine aw_iinc (v := (x4 + (-1))) (c := (-1)) (lv1 := am_put1 _ 4 _) (pc1 := 69) at_77_66 (am_lk1 l4 rfl rfl) (by decide) rfl rfl rfl ?_
  refine aw_goto at_77_69 ?_
  exact q_39 x0 x1 x2 s0 ((x4 + (-1))) h o hs _ (am_lk1 (am_lk1 l0 rfl rfl) rfl rfl) (am_lk1 (am_lk1 l1 rfl rfl) rfl rfl) (am_lk1 (am_lk1 l2 rfl rfl) rfl rfl) (am_lk1 am_lk0 rfl rfl) am_lk0 i0 i1
def fg_77_39 (N : Nat) (rec_20 : Value → Value → Int32 → am_H → Option am_O) : Nat → Value → Value → Int32 → Int32 → Int32 → am_H → Option am_O
  | 0 => fun _ _ _ _ _ _ => none
  | K + 1 => fun x0 x1 x2 x3 x4 h => (if x4 ≤ 0 then ((am_vR (am_pG 1792 x0 h)).bind fun v2 => ((am_pS 0 v2 x2 x3 h).bind fun h4 => (rec_20 x0 x1 ((x2 + (-1))) h4))) else ((am_vI (am_pG 1799 x0 h)).bind fun v6 => (if v6 ≤ x3 then ((am_vI (am_pG 1799 x0 h)).bind fun v9 => (fg_77_65 N rec_20 (fg_77_39 N rec_20 K) x0 x1 x2 x4 v9 h)) else ((am_vR (am_pG 1792 x0 h)).bind fun v11 => ((am_pA 0 v11 x3 h).bind fun v13 => (fg_77_65 N rec_20 (fg_77_39 N rec_20 K) x0 x1 x2 x4 v13 h))))))
theorem rg_77_39 {X : am_X} {d : Nat} {N : Nat} {rec_20 : Value → Value → Int32 → am_H → Option am_O} (q_20 : ∀ (x0 : Value) (x1 : Value) (x2 : Int32) (h : am_H) (o : am_O), rec_20 x0 x1 x2 h = some o → ∀ lv : am_LV, (lv.lookup 0 = some x0) → (lv.lookup 1 = some x1) → (lv.lookup 2 = some (.int x2)) → (am_isR x0 = true) → (am_isR x1 = true) → am_W X (d + 1) 77 20 lv [] h (fun q => q = o)) : ∀ (K : Nat) (x0 : Value) (x1 : Value) (x2 : Int32) (x3 : Int32) (x4 : Int32) (h : am_H) (o : am_O), fg_77_39 N rec_20 K x0 x1 x2 x3 x4 h = some o → ∀ lv : am_LV, (lv.lookup 0 = some x0) → (lv.lookup 1 = some x1) → (lv.lookup 2 = some (.int x2)) → (lv.lookup 3 = some (.int x3)) → (lv.lookup 4 = some (.int x4)) → (am_isR x0 = true) → (am_isR x1 = true) → am_W X (d + 1) 77 39 lv [] h (fun q => q = o) := by
  intro K
  induction K with
  | zero => intro x0 x1 x2 x3 x4 h o hs; cases hs
  | succ K ih =>
    intro x0 x1 x2 x3 x4 h o hs lv l0 l1 l2 l3 l4 i0 i1
    unfold fg_77_39 at hs
    refine aw_iload (pc1 := 41) at_77_39 l4 rfl ?_
    by_cases c1 : x4 ≤ 0
    · rw [if_pos c1] at hs
      refine aw_ifle_t at_77_41 c1 ?_
      refine aw_vload_n (pc1 := 73) at_77_72 l0 i0 rfl ?_
      obtain ⟨v2, e3, hs1⟩ := am_bind hs
      clear hs
      refine aw_pG (pc1 := 76) at_77_73 (am_vR_s e3).1 rfl ?_
      refine aw_iload_n (pc1 := 77) at_77_76 l2 rfl ?_
      refine aw_iload_n (pc1 := 78) at_77_77 l3 rfl ?_
      obtain ⟨h4, e5, hs2⟩ := am_bind hs1
      clear hs1
      refine aw_pS (pc1 := 79) at_77_78 (Or.inl ⟨rfl, rfl⟩) e5 rfl ?_
      refine aw_iinc (v := (x2 + (-1))) (c := (-1)) (lv1 := am_put1 _ 2 _) (pc1 := 82) at_77_79 l2 (by decide) rfl rfl rfl ?_
      refine aw_goto at_77_82 ?_
      exact q_20 x0 x1 ((x2 + (-1))) h4 o hs2 _ (am_lk1 l0 rfl rfl) (am_lk1 l1 rfl (by rw [am_isRc i1]; rfl)) am_lk0 i0 i1
    · rw [if_neg c1] at hs
      refine aw_ifle_f (pc1 := 44) at_77_41 c1 rfl ?_
      refine aw_iload_n (pc1 := 45) at_77_44 l3 rfl ?_
      refine aw_vload_n (pc1 := 46) at_77_45 l0 i0 rfl ?_
      obtain ⟨v6, e7, hs3⟩ := am_bind hs
      clear hs
      refine aw_pG (pc1 := 49) at_77_46 (am_vI_s e7) rfl ?_
      by_cases c8 : v6 ≤ x3
      · rw [if_pos c8] at hs3
        refine aw_icge_t at_77_49 c8 ?_
        refine aw_vload_n (pc1 := 62) at_77_61 l0 i0 rfl ?_
        obtain ⟨v9, e10, hs4⟩ := am_bind hs3
        clear hs3
        refine aw_pG (pc1 := 65) at_77_62 (am_vI_s e10) rfl ?_
        exact rg_77_65 q_20 (fun z0 z1 z2 z3 z4 h o hs4 => ih z0 z1 z2 z3 z4 h o hs4) x0 x1 x2 x4 v9 h o l0 l1 l2 l4 i0 i1 hs4
      · rw [if_neg c8] at hs3
        refine aw_icge_f (pc1 := 52) at_77_49 c8 rfl ?_
        refine aw_vload_n (pc1 := 53) at_77_52 l0 i0 rfl ?_
        obtain ⟨v11, e12, hs5⟩ := am_bind hs3
        clear hs3
        refine aw_pG (pc1 := 56) at_77_53 (am_vR_s e12).1 rfl ?_
        refine aw_iload_n (pc1 := 57) at_77_56 l3 rfl ?_
        obtain ⟨v13, e14, hs6⟩ := am_bind hs5
        clear hs5
        refine aw_pA (pc1 := 58) at_77_57 (Or.inl ⟨rfl, rfl⟩) e14 rfl ?_
        refine aw_goto at_77_58 ?_
        exact rg_77_65 q_20 (fun z0 z1 z2 z3 z4 h o hs6 => ih z0 z1 z2 z3 z4 h o hs6) x0 x1 x2 x4 v13 h o l0 l1 l2 l4 i0 i1 hs6
def fg_77_20 (N : Nat) : Nat → Value → Value → Int32 → am_H → Option am_O
  | 0 => fun _ _ _ _ => none
  | K + 1 => fun x0 x1 x2 h => (if x2 < 0 then some (.inl (none, h)) else (if am_pOk 3 x1 h then am_cI true (fm_54 x1 x2 0 h) (fun v3 h4 => am_cI false (fm_14 v3 h4) (fun v6 h7 => (fg_77_39 N (fg_77_20 N K) N x0 x1 x2 ((x2 + 1)) v6 h7))) else none))
theorem rg_77_20 {X : am_X} {d : Nat} {N : Nat} : ∀ (K : Nat) (x0 : Value) (x1 : Value) (x2 : Int32) (h : am_H) (o : am_O), fg_77_20 N K x0 x1 x2 h = some o → ∀ lv : am_LV, (lv.lookup 0 = some x0) → (lv.lookup 1 = some x1) → (lv.lookup 2 = some (.int x2)) → (am_isR x0 = true) → (am_isR x1 = true) → am_W X (d + 1) 77 20 lv [] h (fun q => q = o) := by
  intro K
  induction K with
  | zero => intro x0 x1 x2 h o hs; cases hs
  | succ K ih =>
    intro x0 x1 x2 h o hs lv l0 l1 l2 i0 i1
    unfold fg_77_20 at hs
    refine aw_iload_n (pc1 := 21) at_77_20 l2 rfl ?_
    by_cases c1 : x2 < 0
    · rw [if_pos c1] at hs
      refine aw_iflt_t at_77_21 c1 ?_
      cases hs
      exact aw_vret at_77_85 rt_77 rfl
    · rw [if_neg c1] at hs
      refine aw_iflt_f (pc1 := 24) at_77_21 c1 rfl ?_
      refine aw_iload_n (pc1 := 25) at_77_24 l2 rfl ?_
      refine aw_iconst (v := 1) (pc1 := 26) at_77_25 (by decide) rfl ?_
      refine aw_iadd (v := (x2 + 1)) (pc1 := 27) at_77_26 rfl rfl ?_
      refine aw_istore_n (lv1 := am_put1 _ 3 _) (pc1 := 28) at_77_27 rfl rfl ?_
      refine aw_vload_n (pc1 := 29) at_77_28 (am_lk1 l1 rfl rfl) i1 rfl ?_
      refine aw_iload_n (pc1 := 30) at_77_29 (am_lk1 l2 rfl rfl) rfl ?_
      refine aw_iconst (v := 0) (pc1 := 31) at_77_30 (by decide) rfl ?_
      obtain ⟨z2, hs1⟩ := am_ift hs
      clear hs
      refine aw_call (F := fm_54 x1 x2 0 h) (t := true) (na := 3) (kd := 1) (as := [x1, (.int x2), (.int 0)]) at_77_31 (am_k3v kb_54) mn_54 mk_54 rfl rfl (am_ok_v mi_54 (am_hl rfl (am_ccR i1 (am_ccI (am_ccI am_cats_0))) rfl) z2) (am_hc am_cats_0 rfl) (fun _ => ⟨rfl, hh_77⟩) (fun o1 hz9 => rm_54 x1 x2 0 h o1 i1 hz9) ?_
      rcases am_cI_s hs1 with ⟨v3, h4, f5, hs2⟩ | hs2
      · clear hs1
        refine Or.inl ⟨_, _, f5, ?_⟩
        show am_W X _ 77 34 _ [(.int v3)] h4 _
        refine aw_call (F := fm_14 v3 h4) (t := false) (na := 1) (kd := 0) (as := [(.int v3)]) at_77_34 (am_k3s kb_14) mn_14 mk_14 rfl rfl (am_ok_s mi_14 (am_hl rfl (am_ccI am_cats_0) rfl)) (am_hc am_cats_0 rfl) (fun hz9 => by cases hz9) (fun o1 hz9 => rm_14 v3 h4 o1  hz9) ?_
        rcases am_cI_s hs2 with ⟨v6, h7, f8, hs3⟩ | hs3
        · clear hs2
          refine Or.inl ⟨_, _, f8, ?_⟩
          show am_W X _ 77 37 _ [(.int v6)] h7 _
          refine aw_istore (lv1 := am_put1 _ 4 _) (pc1 := 39) at_77_37 rfl rfl ?_
          exact rg_77_39 (fun z0 z1 z2 h o hs3 => ih z0 z1 z2 h o hs3) N x0 x1 x2 ((x2 + 1)) v6 h7 o hs3 _ (am_lk1 (am_lk1 l0 rfl rfl) rfl rfl) (am_lk1 (am_lk1 l1 rfl rfl) rfl rfl) (am_lk1 (am_lk1 l2 rfl rfl) rfl rfl) (am_lk1 am_lk0 rfl rfl) am_lk0 i0 i1
        · clear hs2
          exact Or.inr hs3
      · clear hs1
        exact Or.inr hs2
def fg_77_0 (N : Nat) (x0 : Value) (x1 : Value) (h : am_H) : Option am_O := ((am_vI (am_pG 771 x1 h)).bind fun v1 => am_cI false (fm_38 v1 60 h) (fun v3 h4 => ((am_pP 1799 x0 (.int v3) h4).bind fun h6 => ((am_vI (am_pG 1799 x0 h6)).bind fun v8 => (fg_77_20 N N x0 x1 ((v8 - 1)) h6)))))
theorem rg_77_0 {X : am_X} {d : Nat} {N : Nat} {lv : am_LV} (x0 : Value) (x1 : Value) (h : am_H) (o : am_O) (l0 : lv.lookup 0 = some x0) (l1 : lv.lookup 1 = some x1) (i0 : am_isR x0 = true) (i1 : am_isR x1 = true) (hs : fg_77_0 N x0 x1 h = some o) : am_W X (d + 1) 77 0 lv [] h (fun q => q = o) := by
  unfold fg_77_0 at hs
  refine aw_vload_n (pc1 := 1) at_77_0 l0 i0 rfl ?_
  refine aw_vload_n (pc1 := 2) at_77_1 l1 i1 rfl ?_
  obtain ⟨v1, e2, hs1⟩ := am_bind hs
  clear hs
  refine aw_pG (pc1 := 5) at_77_2 (am_vI_s e2) rfl ?_
  refine aw_bipush (v := 60) (pc1 := 7) at_77_5 (by decide) rfl ?_
  refine aw_call (F := fm_38 v1 60 h) (t := false) (na := 2) (kd := 0) (as := [(.int v1), (.int 60)]) at_77_7 (am_k3s kb_38) mn_38 mk_38 rfl rfl (am_ok_s mi_38 (am_hl rfl (am_ccI (am_ccI am_cats_0)) rfl)) (am_hc (am_ccR i0 am_cats_0) rfl) (fun hz9 => by cases hz9) (fun o1 hz9 => rm_38 v1 60 h o1  hz9) ?_
  rcases am_cI_s hs1 with ⟨v3, h4, f5, hs2⟩ | hs2
  · clear hs1
    refine Or.inl ⟨_, _, f5, ?_⟩
    show am_W X _ 77 10 _ [(.int v3), x0] h4 _
    obtain ⟨h6, e7, hs3⟩ := am_bind hs2
    clear hs2
    refine aw_pP (pc1 := 13) at_77_10 e7 rfl ?_
    refine aw_vload_n (pc1 := 14) at_77_13 l0 i0 rfl ?_
    obtain ⟨v8, e9, hs4⟩ := am_bind hs3
    clear hs3
    refine aw_pG (pc1 := 17) at_77_14 (am_vI_s e9) rfl ?_
    refine aw_iconst (v := 1) (pc1 := 18) at_77_17 (by decide) rfl ?_
    refine aw_isub (v := (v8 - 1)) (pc1 := 19) at_77_18 rfl rfl ?_
    refine aw_istore_n (lv1 := am_put1 _ 2 _) (pc1 := 20) at_77_19 rfl rfl ?_
    exact rg_77_20 N x0 x1 ((v8 - 1)) h6 o hs4 _ (am_lk1 l0 rfl rfl) (am_lk1 l1 rfl (by rw [am_isRc i1]; rfl)) am_lk0 i0 i1
  · clear hs1
    exact Or.inr hs2
def fm_77 (N : Nat) (y0 : Value) (y1 : Value) (h : am_H) : Option am_O := fg_77_0 N y0 y1 h
theorem rm_77 {X : am_X} {d : Nat} {N : Nat} (y0 : Value) (y1 : Value) (h : am_H) (o : am_O) (i0 : am_isR y0 = true) (i1 : am_isR y1 = true) (hs : fm_77 N y0 y1 h = some o) : am_W X (d + 1) 77 0 (am_args 0 [y0, y1]) [] h (fun q => q = o) := by
  rw [am_args_R i0, am_args_R i1]
  exact rg_77_0 y0 y1 h o rfl rfl i0 i1 hs
def fg_37_10 (s0 : Int32) (h : am_H) : Option am_O := some (.inl (some (.int s0), h))
theorem rg_37_10 {X : am_X} {d : Nat} {lv : am_LV} (s0 : Int32) (h : am_H) (o : am_O) (hs : fg_37_10 s0 h = some o) : am_W X (d) 37 10 lv [(.int s0)] h (fun q => q = o) := by
  unfold fg_37_10 at hs
  cases hs
  exact aw_iret at_37_10 (by rw [rt_37]; rfl) rfl
def fg_37_0 (x0 : Int32) (x1 : Int32) (h : am_H) : Option am_O := (if x0 < x1 then (fg_37_10 x1 h) else (fg_37_10 x0 h))
theorem rg_37_0 {X : am_X} {d : Nat} {lv : am_LV} (x0 : Int32) (x1 : Int32) (h : am_H) (o : am_O) (l0 : lv.lookup 0 = some (.int x0)) (l1 : lv.lookup 1 = some (.int x1)) (hs : fg_37_0 x0 x1 h = some o) : am_W X (d) 37 0 lv [] h (fun q => q = o) := by
  unfold fg_37_0 at hs
  refine aw_iload_n (pc1 := 1) at_37_0 l0 rfl ?_
  refine aw_iload_n (pc1 := 2) at_37_1 l1 rfl ?_
  by_cases c1 : x0 < x1
  · rw [if_pos c1] at hs
    refine aw_iclt_t at_37_2 c1 ?_
    refine aw_iload_n (pc1 := 10) at_37_9 l1 rfl ?_
    exact rg_37_10 x1 h o   hs
  · rw [if_neg c1] at hs
    refine aw_iclt_f (pc1 := 5) at_37_2 c1 rfl ?_
    refine aw_iload_n (pc1 := 6) at_37_5 l0 rfl ?_
    refine aw_goto at_37_6 ?_
    exact rg_37_10 x0 h o   hs
def fm_37 (y0 : Int32) (y1 : Int32) (h : am_H) : Option am_O := fg_37_0 y0 y1 h
theorem rm_37 {X : am_X} {d : Nat} (y0 : Int32) (y1 : Int32) (h : am_H) (o : am_O) (hs : fm_37 y0 y1 h = some o) : am_W X (d) 37 0 (am_args 0 [.int y0, .int y1]) [] h (fun q => q = o) := by
  rw [am_args_I, am_args_I]
  exact rg_37_0 y0 y1 h o rfl rfl  hs
def fg_78_176 (N : Nat) (h : am_H) : Option am_O := some (.inl (none, h))
theorem rg_78_176 {X : am_X} {d : Nat} {N : Nat} {lv : am_LV} (h : am_H) (o : am_O) (hs : fg_78_176 N h = some o) : am_W X (d + 1) 78 176 lv [] h (fun q => q = o) := by
  unfold fg_78_176 at hs
  cases hs
  exact aw_vret at_78_176 rt_78 rfl
def fg_78_162 (N : Nat) (rec_53 : Value → Int32 → Int32 → Int32 → Int32 → am_H → Option am_O) (x0 : Value) (x1 : Int32) (x2 : Int32) (x3 : Int32) (x4 : Int32) (s0 : Value) (s1 : Int32) (s2 : Int32) (h : am_H) : Option am_O := ((am_pS 2 s0 s1 s2 h).bind fun h1 => ((am_vR (am_pG 1792 x0 h1)).bind fun v3 => ((am_pA 0 v3 x3 h1).bind fun v5 => (rec_53 x0 x1 x2 v5 ((x4 + 1)) h1))))
theorem rg_78_162 {X : am_X} {d : Nat} {N : Nat} {rec_53 : Value → Int32 → Int32 → Int32 → Int32 → am_H → Option am_O} (q_53 : ∀ (x0 : Value) (x1 : Int32) (x2 : Int32) (x3 : Int32) (x4 : Int32) (h : am_H) (o : am_O), rec_53 x0 x1 x2 x3 x4 h = some o → ∀ lv : am_LV, (lv.lookup 0 = some x0) → (lv.lookup 1 = some (.int x1)) → (lv.lookup 2 = some (.int x2)) → (lv.lookup 3 = some (.int x3)) → (lv.lookup 4 = some (.int x4)) → (am_isR x0 = true) → am_W X (d + 1) 78 53 lv [] h (fun q => q = o)) {lv : am_LV} (x0 : Value) (x1 : Int32) (x2 : Int32) (x3 : Int32) (x4 : Int32) (s0 : Value) (s1 : Int32) (s2 : Int32) (h : am_H) (o : am_O) (l0 : lv.lookup 0 = some x0) (l1 : lv.lookup 1 = some (.int x1)) (l2 : lv.lookup 2 = some (.int x2)) (l3 : lv.lookup 3 = some (.int x3)) (l4 : lv.lookup 4 = some (.int x4)) (i0 : am_isR x0 = true) (j0 : am_isR s0 = true) (hs : fg_78_162 N rec_53 x0 x1 x2 x3 x4 s0 s1 s2 h = some o) : am_W X (d + 1) 78 162 lv [(.int s2), (.int s1), s0] h (fun q => q = o) := by
  unfold fg_78_162 at hs
  obtain ⟨h1, e2, hs1⟩ := am_bind hs
  clear hs
  refine aw_pS (pc1 := 163) at_78_162 (Or.inr (Or.inl ⟨rfl, rfl⟩)) e2 rfl ?_
  refine aw_vload_n (pc1 := 164) at_78_163 l0 i0 rfl ?_
  obtain ⟨v3, e4, hs2⟩ := am_bind hs1
  clear hs1
  refine aw_pG (pc1 := 167) at_78_164 (am_vR_s e4).1 rfl ?_
  refine aw_iload_n (pc1 := 168) at_78_167 l3 rfl ?_
  obtain ⟨v5, e6, hs3⟩ := am_bind hs2
  clear hs2
  refine aw_pA (pc1 := 169) at_78_168 (Or.inl ⟨rfl, rfl⟩) e6 rfl ?_
  refine aw_istore_n (lv1 := am_put1 _ 3 _) (pc1 := 170) at_78_169 rfl rfl ?_
  refine aw_iinc (v := (x4 + 1)) (c := 1) (lv1 := am_put1 _ 4 _) (pc1 := 173) at_78_170 (am_lk1 l4 rfl rfl) (by decide) rfl rfl rfl ?_
  refine aw_goto at_78_173 ?_
  exact q_53 x0 x1 x2 v5 ((x4 + 1)) h1 o hs3 _ (am_lk1 (am_lk1 l0 rfl rfl) rfl rfl) (am_lk1 (am_lk1 l1 rfl rfl) rfl rfl) (am_lk1 (am_lk1 l2 rfl rfl) rfl rfl) (am_lk1 am_lk0 rfl rfl) am_lk0 i0
def fg_78_161 (N : Nat) (rec_53 : Value → Int32 → Int32 → Int32 → Int32 → am_H → Option am_O) (x0 : Value) (x1 : Int32) (x2 : Int32) (x3 : Int32) (x4 : Int32) (s0 : Value) (s1 : Int32) (h : am_H) : Option am_O := (fg_78_162 N rec_53 x0 x1 x2 x3 x4 s0 s1 0 h)
theorem rg_78_161 {X : am_X} {d : Nat} {N : Nat} {rec_53 : Value → Int32 → Int32 → Int32 → Int32 → am_H → Option am_O} (q_53 : ∀ (x0 : Value) (x1 : Int32) (x2 : Int32) (x3 : Int32) (x4 : Int32) (h : am_H) (o : am_O), rec_53 x0 x1 x2 x3 x4 h = some o → ∀ lv : am_LV, (lv.lookup 0 = some x0) → (lv.lookup 1 = some (.int x1)) → (lv.lookup 2 = some (.int x2)) → (lv.lookup 3 = some (.int x3)) → (lv.lookup 4 = some (.int x4)) → (am_isR x0 = true) → am_W X (d + 1) 78 53 lv [] h (fun q => q = o)) {lv : am_LV} (x0 : Value) (x1 : Int32) (x2 : Int32) (x3 : Int32) (x4 : Int32) (s0 : Value) (s1 : Int32) (h : am_H) (o : am_O) (l0 : lv.lookup 0 = some x0) (l1 : lv.lookup 1 = some (.int x1)) (l2 : lv.lookup 2 = some (.int x2)) (l3 : lv.lookup 3 = some (.int x3)) (l4 : lv.lookup 4 = some (.int x4)) (i0 : am_isR x0 = true) (j0 : am_isR s0 = true) (hs : fg_78_161 N rec_53 x0 x1 x2 x3 x4 s0 s1 h = some o) : am_W X (d + 1) 78 161 lv [(.int s1), s0] h (fun q => q = o) := by
  unfold fg_78_161 at hs
  refine aw_iconst (v := 0) (pc1 := 162) at_78_161 (by decide) rfl ?_
  exact rg_78_162 q_53 x0 x1 x2 x3 x4 s0 s1 0 h o l0 l1 l2 l3 l4 i0 j0 hs
def fg_78_157 (N : Nat) (rec_53 : Value → Int32 → Int32 → Int32 → Int32 → am_H → Option am_O) (x0 : Value) (x1 : Int32) (x2 : Int32) (x3 : Int32) (x4 : Int32) (s0 : Value) (s1 : Int32) (h : am_H) : Option am_O := (fg_78_162 N rec_53 x0 x1 x2 x3 x4 s0 s1 1 h)
theorem rg_78_157 {X : am_X} {d : Nat} {N : Nat} {rec_53 : Value → Int32 → Int32 → Int32 → Int32 → am_H → Option am_O} (q_53 : ∀ (x0 : Value) (x1 : Int32) (x2 : Int32) (x3 : Int32) (x4 : Int32) (h : am_H) (o : am_O), rec_53 x0 x1 x2 x3 x4 h = some o → ∀ lv : am_LV, (lv.lookup 0 = some x0) → (lv.lookup 1 = some (.int x1)) → (lv.lookup 2 = some (.int x2)) → (lv.lookup 3 = some (.int x3)) → (lv.lookup 4 = some (.int x4)) → (am_isR x0 = true) → am_W X (d + 1) 78 53 lv [] h (fun q => q = o)) {lv : am_LV} (x0 : Value) (x1 : Int32) (x2 : Int32) (x3 : Int32) (x4 : Int32) (s0 : Value) (s1 : Int32) (h : am_H) (o : am_O) (l0 : lv.lookup 0 = some x0) (l1 : lv.lookup 1 = some (.int x1)) (l2 : lv.lookup 2 = some (.int x2)) (l3 : lv.lookup 3 = some (.int x3)) (l4 : lv.lookup 4 = some (.int x4)) (i0 : am_isR x0 = true) (j0 : am_isR s0 = true) (hs : fg_78_157 N rec_53 x0 x1 x2 x3 x4 s0 s1 h = some o) : am_W X (d + 1) 78 157 lv [(.int s1), s0] h (fun q => q = o) := by
  unfold fg_78_157 at hs
  refine aw_iconst (v := 1) (pc1 := 158) at_78_157 (by decide) rfl ?_
  refine aw_goto at_78_158 ?_
  exact rg_78_162 q_53 x0 x1 x2 x3 x4 s0 s1 1 h o l0 l1 l2 l3 l4 i0 j0 hs
def fg_78_121 (N : Nat) (rec_53 : Value → Int32 → Int32 → Int32 → Int32 → am_H → Option am_O) (x0 : Value) (x1 : Int32) (x2 : Int32) (x3 : Int32) (x4 : Int32) (s0 : Value) (s1 : Int32) (s2 : Int32) (h : am_H) : Option am_O := ((am_pS 2 s0 s1 s2 h).bind fun h1 => ((am_vR (am_pG 1797 x0 h1)).bind fun v3 => ((am_vR (am_pG 1797 x0 h1)).bind fun v5 => ((am_pA 2 v5 x1 h1).bind fun v7 => (if ¬ v7 = 0 then (fg_78_157 N rec_53 x0 x1 x2 x3 x4 v3 x1 h1) else ((am_vR (am_pG 1797 x0 h1)).bind fun v10 => ((am_pA 2 v10 x3 h1).bind fun v12 => (if v12 = 0 then (fg_78_161 N rec_53 x0 x1 x2 x3 x4 v3 x1 h1) else (if ¬ x2 = 19 then (fg_78_157 N rec_53 x0 x1 x2 x3 x4 v3 x1 h1) else (if x4 = 1 then (fg_78_161 N rec_53 x0 x1 x2 x3 x4 v3 x1 h1) else (fg_78_157 N rec_53 x0 x1 x2 x3 x4 v3 x1 h1)))))))))))
theorem rg_78_121 {X : am_X} {d : Nat} {N : Nat} {rec_53 : Value → Int32 → Int32 → Int32 → Int32 → am_H → Option am_O} (q_53 : ∀ (x0 : Value) (x1 : Int32) (x2 : Int32) (x3 : Int32) (x4 : Int32) (h : am_H) (o : am_O), rec_53 x0 x1 x2 x3 x4 h = some o → ∀ lv : am_LV, (lv.lookup 0 = some x0) → (lv.lookup 1 = some (.int x1)) → (lv.lookup 2 = some (.int x2)) → (lv.lookup 3 = some (.int x3)) → (lv.lookup 4 = some (.int x4)) → (am_isR x0 = true) → am_W X (d + 1) 78 53 lv [] h (fun q => q = o)) {lv : am_LV} (x0 : Value) (x1 : Int32) (x2 : Int32) (x3 : Int32) (x4 : Int32) (s0 : Value) (s1 : Int32) (s2 : Int32) (h : am_H) (o : am_O) (l0 : lv.lookup 0 = some x0) (l1 : lv.lookup 1 = some (.int x1)) (l2 : lv.lookup 2 = some (.int x2)) (l3 : lv.lookup 3 = some (.int x3)) (l4 : lv.lookup 4 = some (.int x4)) (i0 : am_isR x0 = true) (j0 : am_isR s0 = true) (hs : fg_78_121 N rec_53 x0 x1 x2 x3 x4 s0 s1 s2 h = some o) : am_W X (d + 1) 78 121 lv [(.int s2), (.int s1), s0] h (fun q => q = o) := by
  unfold fg_78_121 at hs
  obtain ⟨h1, e2, hs1⟩ := am_bind hs
  clear hs
  refine aw_pS (pc1 := 122) at_78_121 (Or.inr (Or.inl ⟨rfl, rfl⟩)) e2 rfl ?_
  refine aw_vload_n (pc1 := 123) at_78_122 l0 i0 rfl ?_
  obtain ⟨v3, e4, hs2⟩ := am_bind hs1
  clear hs1
  refine aw_pG (pc1 := 126) at_78_123 (am_vR_s e4).1 rfl ?_
  refine aw_iload_n (pc1 := 127) at_78_126 l1 rfl ?_
  refine aw_vload_n (pc1 := 128) at_78_127 l0 i0 rfl ?_
  obtain ⟨v5, e6, hs3⟩ := am_bind hs2
  clear hs2
  refine aw_pG (pc1 := 131) at_78_128 (am_vR_s e6).1 rfl ?_
  refine aw_iload_n (pc1 := 132) at_78_131 l1 rfl ?_
  obtain ⟨v7, e8, hs4⟩ := am_bind hs3
  clear hs3
  refine aw_pA (pc1 := 133) at_78_132 (Or.inr (Or.inl ⟨rfl, rfl⟩)) e8 rfl ?_
  by_cases c9 : ¬ v7 = 0
  · rw [if_pos c9] at hs4
    refine aw_ifne_t at_78_133 c9 ?_
    exact rg_78_157 q_53 x0 x1 x2 x3 x4 v3 x1 h1 o l0 l1 l2 l3 l4 i0 (am_vR_s e4).2 hs4
  · rw [if_neg c9] at hs4
    refine aw_ifne_f (pc1 := 136) at_78_133 c9 rfl ?_
    refine aw_vload_n (pc1 := 137) at_78_136 l0 i0 rfl ?_
    obtain ⟨v10, e11, hs5⟩ := am_bind hs4
    clear hs4
    refine aw_pG (pc1 := 140) at_78_137 (am_vR_s e11).1 rfl ?_
    refine aw_iload_n (pc1 := 141) at_78_140 l3 rfl ?_
    obtain ⟨v12, e13, hs6⟩ := am_bind hs5
    clear hs5
    refine aw_pA (pc1 := 142) at_78_141 (Or.inr (Or.inl ⟨rfl, rfl⟩)) e13 rfl ?_
    by_cases c14 : v12 = 0
    · rw [if_pos c14] at hs6
      refine aw_ifeq_t at_78_142 c14 ?_
      exact rg_78_161 q_53 x0 x1 x2 x3 x4 v3 x1 h1 o l0 l1 l2 l3 l4 i0 (am_vR_s e4).2 hs6
    · rw [if_neg c14] at hs6
      refine aw_ifeq_f (pc1 := 145) at_78_142 c14 rfl ?_
      refine aw_iload_n (pc1 := 146) at_78_145 l2 rfl ?_
      refine aw_bipush (v := 19) (pc1 := 148) at_78_146 (by decide) rfl ?_
      by_cases c15 : ¬ x2 = 19
      · rw [if_pos c15] at hs6
        refine aw_icne_t at_78_148 c15 ?_
        exact rg_78_157 q_53 x0 x1 x2 x3 x4 v3 x1 h1 o l0 l1 l2 l3 l4 i0 (am_vR_s e4).2 hs6
      · rw [if_neg c15] at hs6
        refine aw_icne_f (pc1 := 151) at_78_148 c15 rfl ?_
        refine aw_iload (pc1 := 153) at_78_151 l4 rfl ?_
        refine aw_iconst (v := 1) (pc1 := 154) at_78_153 (by decide) rfl ?_
        by_cases c16 : x4 = 1
        · rw [if_pos c16] at hs6
          refine aw_iceq_t at_78_154 c16 ?_
          exact rg_78_161 q_53 x0 x1 x2 x3 x4 v3 x1 h1 o l0 l1 l2 l3 l4 i0 (am_vR_s e4).2 hs6
        · rw [if_neg c16] at hs6
          refine aw_iceq_f (pc1 := 157) at_78_154 c16 rfl ?_
          exact rg_78_157 q_53 x0 x1 x2 x3 x4 v3 x1 h1 o l0 l1 l2 l3 l4 i0 (am_vR_s e4).2 hs6
def fg_78_116 (N : Nat) (rec_53 : Value → Int32 → Int32 → Int32 → Int32 → am_H → Option am_O) (x0 : Value) (x1 : Int32) (x2 : Int32) (x3 : Int32) (x4 : Int32) (s0 : Value) (s1 : Int32) (h : am_H) : Option am_O := (fg_78_121 N rec_53 x0 x1 x2 x3 x4 s0 s1 1 h)
theorem rg_78_116 {X : am_X} {d : Nat} {N : Nat} {rec_53 : Value → Int32 → Int32 → Int32 → Int32 → am_H → Option am_O} (q_53 : ∀ (x0 : Value) (x1 : Int32) (x2 : Int32) (x3 : Int32) (x4 : Int32) (h : am_H) (o : am_O), rec_53 x0 x1 x2 x3 x4 h = some o → ∀ lv : am_LV, (lv.lookup 0 = some x0) → (lv.lookup 1 = some (.int x1)) → (lv.lookup 2 = some (.int x2)) → (lv.lookup 3 = some (.int x3)) → (lv.lookup 4 = some (.int x4)) → (am_isR x0 = true) → am_W X (d + 1) 78 53 lv [] h (fun q => q = o)) {lv : am_LV} (x0 : Value) (x1 : Int32) (x2 : Int32) (x3 : Int32) (x4 : Int32) (s0 : Value) (s1 : Int32) (h : am_H) (o : am_O) (l0 : lv.lookup 0 = some x0) (l1 : lv.lookup 1 = some (.int x1)) (l2 : lv.lookup 2 = some (.int x2)) (l3 : lv.lookup 3 = some (.int x3)) (l4 : lv.lookup 4 = some (.int x4)) (i0 : am_isR x0 = true) (j0 : am_isR s0 = true) (hs : fg_78_116 N rec_53 x0 x1 x2 x3 x4 s0 s1 h = some o) : am_W X (d + 1) 78 116 lv [(.int s1), s0] h (fun q => q = o) := by
  unfold fg_78_116 at hs
  refine aw_iconst (v := 1) (pc1 := 117) at_78_116 (by decide) rfl ?_
  refine aw_goto at_78_117 ?_
  exact rg_78_121 q_53 x0 x1 x2 x3 x4 s0 s1 1 h o l0 l1 l2 l3 l4 i0 j0 hs
def fg_78_53 (N : Nat) : Nat → Value → Int32 → Int32 → Int32 → Int32 → am_H → Option am_O
  | 0 => fun _ _ _ _ _ _ => none
  | K + 1 => fun x0 x1 x2 x3 x4 h => am_cI false (fm_14 x2 h) (fun v1 h2 => (if v1 ≤ x4 then (fg_78_176 N h2) else ((am_vI (am_pG 1799 x0 h2)).bind fun v5 => (if v5 ≤ x3 then (fg_78_176 N h2) else ((am_vR (am_pG 1794 x0 h2)).bind fun v8 => ((am_vR (am_pG 1794 x0 h2)).bind fun v10 => ((am_pA 0 v10 x1 h2).bind fun v12 => ((am_vR (am_pG 1794 x0 h2)).bind fun v14 => ((am_pA 0 v14 x3 h2).bind fun v16 => am_cI false (fm_37 v12 ((v16 + 1)) h2) (fun v18 h19 => ((am_pS 0 v8 x1 v18 h19).bind fun h21 => ((am_vR (am_pG 1796 x0 h21)).bind fun v23 => ((am_vR (am_pG 1796 x0 h21)).bind fun v25 => ((am_pA 2 v25 x1 h21).bind fun v27 => (if ¬ v27 = 0 then (fg_78_116 N (fg_78_53 N K) x0 x1 x2 x3 x4 v23 x1 h21) else ((am_vR (am_pG 1796 x0 h21)).bind fun v30 => ((am_pA 2 v30 x3 h21).bind fun v32 => (if v32 = 0 then (fg_78_121 N (fg_78_53 N K) x0 x1 x2 x3 x4 v23 x1 0 h21) else (fg_78_116 N (fg_78_53 N K) x0 x1 x2 x3 x4 v23 x1 h21)))))))))))))))))))
theorem rg_78_53 {X : am_X} {d : Nat} {N : Nat} : ∀ (K : Nat) (x0 : Value) (x1 : Int32) (x2 : Int32) (x3 : Int32) (x4 : Int32) (h : am_H) (o : am_O), fg_78_53 N K x0 x1 x2 x3 x4 h = some o → ∀ lv : am_LV, (lv.lookup 0 = some x0) → (lv.lookup 1 = some (.int x1)) → (lv.lookup 2 = some (.int x2)) → (lv.lookup 3 = some (.int x3)) → (lv.lookup 4 = some (.int x4)) → (am_isR x0 = true) → am_W X (d + 1) 78 53 lv [] h (fun q => q = o) := by
  intro K
  induction K with
  | zero => intro x0 x1 x2 x3 x4 h o hs; cases hs
  | succ K ih =>
    intro x0 x1 x2 x3 x4 h o hs lv l0 l1 l2 l3 l4 i0
    unfold fg_78_53 at hs
    refine aw_iload (pc1 := 55) at_78_53 l4 rfl ?_
    refine aw_iload_n (pc1 := 56) at_78_55 l2 rfl ?_
    refine aw_call (F := fm_14 x2 h) (t := false) (na := 1) (kd := 0) (as := [(.int x2)]) at_78_56 (am_k3s kb_14) mn_14 mk_14 rfl rfl (am_ok_s mi_14 (am_hl rfl (am_ccI am_cats_0) rfl)) (am_hc (am_ccI am_cats_0) rfl) (fun hz9 => by cases hz9) (fun o1 hz9 => rm_14 x2 h o1  hz9) ?_
    rcases am_cI_s hs with ⟨v1, h2, f3, hs1⟩ | hs1
    · clear hs
      refine Or.inl ⟨_, _, f3, ?_⟩
      show am_W X _ 78 59 _ [(.int v1), (.int x4)] h2 _
      by_cases c4 : v1 ≤ x4
      · rw [if_pos c4] at hs1
        refine aw_icge_t at_78_59 c4 ?_
        exact rg_78_176 h2 o   hs1
      · rw [if_neg c4] at hs1
        refine aw_icge_f (pc1 := 62) at_78_59 c4 rfl ?_
        refine aw_iload_n (pc1 := 63) at_78_62 l3 rfl ?_
        refine aw_vload_n (pc1 := 64) at_78_63 l0 i0 rfl ?_
        obtain ⟨v5, e6, hs2⟩ := am_bind hs1
        clear hs1
        refine aw_pG (pc1 := 67) at_78_64 (am_vI_s e6) rfl ?_
        by_cases c7 : v5 ≤ x3
        · rw [if_pos c7] at hs2
          refine aw_icge_t at_78_67 c7 ?_
          exact rg_78_176 h2 o   hs2
        · rw [if_neg c7] at hs2
          refine aw_icge_f (pc1 := 70) at_78_67 c7 rfl ?_
          refine aw_vload_n (pc1 := 71) at_78_70 l0 i0 rfl ?_
          obtain ⟨v8, e9, hs3⟩ := am_bind hs2
          clear hs2
          refine aw_pG (pc1 := 74) at_78_71 (am_vR_s e9).1 rfl ?_
          refine aw_iload_n (pc1 := 75) at_78_74 l1 rfl ?_
          refine aw_vload_n (pc1 := 76) at_78_75 l0 i0 rfl ?_
          obtain ⟨v10, e11, hs4⟩ := am_bind hs3
          clear hs3
          refine aw_pG (pc1 := 79) at_78_76 (am_vR_s e11).1 rfl ?_
          refine aw_iload_n (pc1 := 80) at_78_79 l1 rfl ?_
          obtain ⟨v12, e13, hs5⟩ := am_bind hs4
          clear hs4
          refine aw_pA (pc1 := 81) at_78_80 (Or.inl ⟨rfl, rfl⟩) e13 rfl ?_
          refine aw_vload_n (pc1 := 82) at_78_81 l0 i0 rfl ?_
          obtain ⟨v14, e15, hs6⟩ := am_bind hs5
          clear hs5
          refine aw_pG (pc1 := 85) at_78_82 (am_vR_s e15).1 rfl ?_
          refine aw_iload_n (pc1 := 86) at_78_85 l3 rfl ?_
          obtain ⟨v16, e17, hs7⟩ := am_bind hs6
          clear hs6
          refine aw_pA (pc1 := 87) at_78_86 (Or.inl ⟨rfl, rfl⟩) e17 rfl ?_
          refine aw_iconst (v := 1) (pc1 := 88) at_78_87 (by decide) rfl ?_
          refine aw_iadd (v := (v16 + 1)) (pc1 := 89) at_78_88 rfl rfl ?_
          refine aw_call (F := fm_37 v12 ((v16 + 1)) h2) (t := false) (na := 2) (kd := 0) (as := [(.int v12), (.int (v16 + 1))]) at_78_89 (am_k3s kb_37) mn_37 mk_37 rfl rfl (am_ok_s mi_37 (am_hl rfl (am_ccI (am_ccI am_cats_0)) rfl)) (am_hc (am_ccI (am_ccR (am_vR_s e9).2 am_cats_0)) rfl) (fun hz9 => by cases hz9) (fun o1 hz9 => rm_37 v12 ((v16 + 1)) h2 o1  hz9) ?_
          rcases am_cI_s hs7 with ⟨v18, h19, f20, hs8⟩ | hs8
          · clear hs7
            refine Or.inl ⟨_, _, f20, ?_⟩
            show am_W X _ 78 92 _ [(.int v18), (.int x1), v8] h19 _
            obtain ⟨h21, e22, hs9⟩ := am_bind hs8
            clear hs8
            refine aw_pS (pc1 := 93) at_78_92 (Or.inl ⟨rfl, rfl⟩) e22 rfl ?_
            refine aw_vload_n (pc1 := 94) at_78_93 l0 i0 rfl ?_
            obtain ⟨v23, e24, hs10⟩ := am_bind hs9
            clear hs9
            refine aw_pG (pc1 := 97) at_78_94 (am_vR_s e24).1 rfl ?_
            refine aw_iload_n (pc1 := 98) at_78_97 l1 rfl ?_
            refine aw_vload_n (pc1 := 99) at_78_98 l0 i0 rfl ?_
            obtain ⟨v25, e26, hs11⟩ := am_bind hs10
            clear hs10
            refine aw_pG (pc1 := 102) at_78_99 (am_vR_s e26).1 rfl ?_
            refine aw_iload_n (pc1 := 103) at_78_102 l1 rfl ?_
            obtain ⟨v27, e28, hs12⟩ := am_bind hs11
            clear hs11
            refine aw_pA (pc1 := 104) at_78_103 (Or.inr (Or.inl ⟨rfl, rfl⟩)) e28 rfl ?_
            by_cases c29 : ¬ v27 = 0
            · rw [if_pos c29] at hs12
              refine aw_ifne_t at_78_104 c29 ?_
              exact rg_78_116 (fun z0 z1 z2 z3 z4 h o hs12 => ih z0 z1 z2 z3 z4 h o hs12) x0 x1 x2 x3 x4 v23 x1 h21 o l0 l1 l2 l3 l4 i0 (am_vR_s e24).2 hs12
            · rw [if_neg c29] at hs12
              refine aw_ifne_f (pc1 := 107) at_78_104 c29 rfl ?_
              refine aw_vload_n (pc1 := 108) at_78_107 l0 i0 rfl ?_
              obtain ⟨v30, e31, hs13⟩ := am_bind hs12
              clear hs12
              refine aw_pG (pc1 := 111) at_78_108 (am_vR_s e31).1 rfl ?_
              refine aw_iload_n (pc1 := 112) at_78_111 l3 rfl ?_
              obtain ⟨v32, e33, hs14⟩ := am_bind hs13
              clear hs13
              refine aw_pA (pc1 := 113) at_78_112 (Or.inr (Or.inl ⟨rfl, rfl⟩)) e33 rfl ?_
              by_cases c34 : v32 = 0
              · rw [if_pos c34] at hs14
                refine aw_ifeq_t at_78_113 c34 ?_
                refine aw_iconst (v := 0) (pc1 := 121) at_78_120 (by decide) rfl ?_
                exact rg_78_121 (fun z0 z1 z2 z3 z4 h o hs14 => ih z0 z1 z2 z3 z4 h o hs14) x0 x1 x2 x3 x4 v23 x1 0 h21 o l0 l1 l2 l3 l4 i0 (am_vR_s e24).2 hs14
              · rw [if_neg c34] at hs14
                refine aw_ifeq_f (pc1 := 116) at_78_113 c34 rfl ?_
                exact rg_78_116 (fun z0 z1 z2 z3 z4 h o hs14 => ih z0 z1 z2 z3 z4 h o hs14) x0 x1 x2 x3 x4 v23 x1 h21 o l0 l1 l2 l3 l4 i0 (am_vR_s e24).2 hs14
          · clear hs7
            exact Or.inr hs8
    · clear hs
      exact Or.inr hs1
def fg_78_45 (N : Nat) (x0 : Value) (x1 : Int32) (x2 : Int32) (s0 : Value) (s1 : Int32) (s2 : Int32) (h : am_H) : Option am_O := ((am_pS 2 s0 s1 s2 h).bind fun h1 => (fg_78_53 N N x0 x1 x2 ((x1 + 1)) 0 h1))
theorem rg_78_45 {X : am_X} {d : Nat} {N : Nat} {lv : am_LV} (x0 : Value) (x1 : Int32) (x2 : Int32) (s0 : Value) (s1 : Int32) (s2 : Int32) (h : am_H) (o : am_O) (l0 : lv.lookup 0 = some x0) (l1 : lv.lookup 1 = some (.int x1)) (l2 : lv.lookup 2 = some (.int x2)) (i0 : am_isR x0 = true) (j0 : am_isR s0 = true) (hs : fg_78_45 N x0 x1 x2 s0 s1 s2 h = some o) : am_W X (d + 1) 78 45 lv [(.int s2), (.int s1), s0] h (fun q => q = o) := by
  unfold fg_78_45 at hs
  obtain ⟨h1, e2, hs1⟩ := am_bind hs
  clear hs
  refine aw_pS (pc1 := 46) at_78_45 (Or.inr (Or.inl ⟨rfl, rfl⟩)) e2 rfl ?_
  refine aw_iload_n (pc1 := 47) at_78_46 l1 rfl ?_
  refine aw_iconst (v := 1) (pc1 := 48) at_78_47 (by decide) rfl ?_
  refine aw_iadd (v := (x1 + 1)) (pc1 := 49) at_78_48 rfl rfl ?_
  refine aw_istore_n (lv1 := am_put1 _ 3 _) (pc1 := 50) at_78_49 rfl rfl ?_
  refine aw_iconst (v := 0) (pc1 := 51) at_78_50 (by decide) rfl ?_
  refine aw_istore (lv1 := am_put1 _ 4 _) (pc1 := 53) at_78_51 rfl rfl ?_
  exact rg_78_53 N x0 x1 x2 ((x1 + 1)) 0 h1 o hs1 _ (am_lk1 (am_lk1 l0 rfl rfl) rfl rfl) (am_lk1 (am_lk1 l1 rfl rfl) rfl rfl) (am_lk1 (am_lk1 l2 rfl rfl) rfl rfl) (am_lk1 am_lk0 rfl rfl) am_lk0 i0
def fg_78_40 (N : Nat) (x0 : Value) (x1 : Int32) (x2 : Int32) (s0 : Value) (s1 : Int32) (h : am_H) : Option am_O := (fg_78_45 N x0 x1 x2 s0 s1 1 h)
theorem rg_78_40 {X : am_X} {d : Nat} {N : Nat} {lv : am_LV} (x0 : Value) (x1 : Int32) (x2 : Int32) (s0 : Value) (s1 : Int32) (h : am_H) (o : am_O) (l0 : lv.lookup 0 = some x0) (l1 : lv.lookup 1 = some (.int x1)) (l2 : lv.lookup 2 = some (.int x2)) (i0 : am_isR x0 = true) (j0 : am_isR s0 = true) (hs : fg_78_40 N x0 x1 x2 s0 s1 h = some o) : am_W X (d + 1) 78 40 lv [(.int s1), s0] h (fun q => q = o) := by
  unfold fg_78_40 at hs
  refine aw_iconst (v := 1) (pc1 := 41) at_78_40 (by decide) rfl ?_
  refine aw_goto at_78_41 ?_
  exact rg_78_45 x0 x1 x2 s0 s1 1 h o l0 l1 l2 i0 j0 hs
def fg_78_23 (N : Nat) (x0 : Value) (x1 : Int32) (x2 : Int32) (s0 : Value) (s1 : Int32) (s2 : Int32) (h : am_H) : Option am_O := ((am_pS 2 s0 s1 s2 h).bind fun h1 => ((am_vR (am_pG 1797 x0 h1)).bind fun v3 => (if x2 = 5 then (fg_78_40 N x0 x1 x2 v3 x1 h1) else (if ¬ x2 = 6 then (fg_78_45 N x0 x1 x2 v3 x1 0 h1) else (fg_78_40 N x0 x1 x2 v3 x1 h1)))))
theorem rg_78_23 {X : am_X} {d : Nat} {N : Nat} {lv : am_LV} (x0 : Value) (x1 : Int32) (x2 : Int32) (s0 : Value) (s1 : Int32) (s2 : Int32) (h : am_H) (o : am_O) (l0 : lv.lookup 0 = some x0) (l1 : lv.lookup 1 = some (.int x1)) (l2 : lv.lookup 2 = some (.int x2)) (i0 : am_isR x0 = true) (j0 : am_isR s0 = true) (hs : fg_78_23 N x0 x1 x2 s0 s1 s2 h = some o) : am_W X (d + 1) 78 23 lv [(.int s2), (.int s1), s0] h (fun q => q = o) := by
  unfold fg_78_23 at hs
  obtain ⟨h1, e2, hs1⟩ := am_bind hs
  clear hs
  refine aw_pS (pc1 := 24) at_78_23 (Or.inr (Or.inl ⟨rfl, rfl⟩)) e2 rfl ?_
  refine aw_vload_n (pc1 := 25) at_78_24 l0 i0 rfl ?_
  obtain ⟨v3, e4, hs2⟩ := am_bind hs1
  clear hs1
  refine aw_pG (pc1 := 28) at_78_25 (am_vR_s e4).1 rfl ?_
  refine aw_iload_n (pc1 := 29) at_78_28 l1 rfl ?_
  refine aw_iload_n (pc1 := 30) at_78_29 l2 rfl ?_
  refine aw_iconst (v := 5) (pc1 := 31) at_78_30 (by decide) rfl ?_
  by_cases c5 : x2 = 5
  · rw [if_pos c5] at hs2
    refine aw_iceq_t at_78_31 c5 ?_
    exact rg_78_40 x0 x1 x2 v3 x1 h1 o l0 l1 l2 i0 (am_vR_s e4).2 hs2
  · rw [if_neg c5] at hs2
    refine aw_iceq_f (pc1 := 34) at_78_31 c5 rfl ?_
    refine aw_iload_n (pc1 := 35) at_78_34 l2 rfl ?_
    refine aw_bipush (v := 6) (pc1 := 37) at_78_35 (by decide) rfl ?_
    by_cases c6 : ¬ x2 = 6
    · rw [if_pos c6] at hs2
      refine aw_icne_t at_78_37 c6 ?_
      refine aw_iconst (v := 0) (pc1 := 45) at_78_44 (by decide) rfl ?_
      exact rg_78_45 x0 x1 x2 v3 x1 0 h1 o l0 l1 l2 i0 (am_vR_s e4).2 hs2
    · rw [if_neg c6] at hs2
      refine aw_icne_f (pc1 := 40) at_78_37 c6 rfl ?_
      exact rg_78_40 x0 x1 x2 v3 x1 h1 o l0 l1 l2 i0 (am_vR_s e4).2 hs2
def fg_78_0 (N : Nat) (x0 : Value) (x1 : Int32) (x2 : Int32) (h : am_H) : Option am_O := ((am_vR (am_pG 1794 x0 h)).bind fun v1 => ((am_pS 0 v1 x1 1 h).bind fun h3 => ((am_vR (am_pG 1796 x0 h3)).bind fun v5 => (if ¬ x2 = 19 then (fg_78_23 N x0 x1 x2 v5 x1 0 h3) else (fg_78_23 N x0 x1 x2 v5 x1 1 h3)))))
theorem rg_78_0 {X : am_X} {d : Nat} {N : Nat} {lv : am_LV} (x0 : Value) (x1 : Int32) (x2 : Int32) (h : am_H) (o : am_O) (l0 : lv.lookup 0 = some x0) (l1 : lv.lookup 1 = some (.int x1)) (l2 : lv.lookup 2 = some (.int x2)) (i0 : am_isR x0 = true) (hs : fg_78_0 N x0 x1 x2 h = some o) : am_W X (d + 1) 78 0 lv [] h (fun q => q = o) := by
  unfold fg_78_0 at hs
  refine aw_vload_n (pc1 := 1) at_78_0 l0 i0 rfl ?_
  obtain ⟨v1, e2, hs1⟩ := am_bind hs
  clear hs
  refine aw_pG (pc1 := 4) at_78_1 (am_vR_s e2).1 rfl ?_
  refine aw_iload_n (pc1 := 5) at_78_4 l1 rfl ?_
  refine aw_iconst (v := 1) (pc1 := 6) at_78_5 (by decide) rfl ?_
  obtain ⟨h3, e4, hs2⟩ := am_bind hs1
  clear hs1
  refine aw_pS (pc1 := 7) at_78_6 (Or.inl ⟨rfl, rfl⟩) e4 rfl ?_
  refine aw_vload_n (pc1 := 8) at_78_7 l0 i0 rfl ?_
  obtain ⟨v5, e6, hs3⟩ := am_bind hs2
  clear hs2
  refine aw_pG (pc1 := 11) at_78_8 (am_vR_s e6).1 rfl ?_
  refine aw_iload_n (pc1 := 12) at_78_11 l1 rfl ?_
  refine aw_iload_n (pc1 := 13) at_78_12 l2 rfl ?_
  refine aw_bipush (v := 19) (pc1 := 15) at_78_13 (by decide) rfl ?_
  by_cases c7 : ¬ x2 = 19
  · rw [if_pos c7] at hs3
    refine aw_icne_t at_78_15 c7 ?_
    refine aw_iconst (v := 0) (pc1 := 23) at_78_22 (by decide) rfl ?_
    exact rg_78_23 x0 x1 x2 v5 x1 0 h3 o l0 l1 l2 i0 (am_vR_s e6).2 hs3
  · rw [if_neg c7] at hs3
    refine aw_icne_f (pc1 := 18) at_78_15 c7 rfl ?_
    refine aw_iconst (v := 1) (pc1 := 19) at_78_18 (by decide) rfl ?_
    refine aw_goto at_78_19 ?_
    exact rg_78_23 x0 x1 x2 v5 x1 1 h3 o l0 l1 l2 i0 (am_vR_s e6).2 hs3
def fm_78 (N : Nat) (y0 : Value) (y1 : Int32) (y2 : Int32) (h : am_H) : Option am_O := fg_78_0 N y0 y1 y2 h
theorem rm_78 {X : am_X} {d : Nat} {N : Nat} (y0 : Value) (y1 : Int32) (y2 : Int32) (h : am_H) (o : am_O) (i0 : am_isR y0 = true) (hs : fm_78 N y0 y1 y2 h = some o) : am_W X (d + 1) 78 0 (am_args 0 [y0, .int y1, .int y2]) [] h (fun q => q = o) := by
  rw [am_args_R i0, am_args_I, am_args_I]
  exact rg_78_0 y0 y1 y2 h o rfl rfl rfl i0 hs
def fg_79_83 (N : Nat) (h : am_H) : Option am_O := some (.inl (none, h))
theorem rg_79_83 {X : am_X} {d : Nat} {N : Nat} {lv : am_LV} (h : am_H) (o : am_O) (hs : fg_79_83 N h = some o) : am_W X (d + 1) 79 83 lv [] h (fun q => q = o) := by
  unfold fg_79_83 at hs
  cases hs
  exact aw_vret at_79_83 rt_79 rfl
def fg_79_69 (N : Nat) (rec_7 : Value → Int32 → Int32 → Int32 → Int32 → am_H → Option am_O) (x0 : Value) (x1 : Int32) (x2 : Int32) (x3 : Int32) (x4 : Int32) (s0 : Value) (s1 : Int32) (s2 : Int32) (h : am_H) : Option am_O := ((am_pS 2 s0 s1 s2 h).bind fun h1 => ((am_vR (am_pG 1792 x0 h1)).bind fun v3 => ((am_pA 0 v3 x3 h1).bind fun v5 => (rec_7 x0 x1 x2 v5 ((x4 + 1)) h1))))
theorem rg_79_69 {X : am_X} {d : Nat} {N : Nat} {rec_7 : Value → Int32 → Int32 → Int32 → Int32 → am_H → Option am_O} (q_7 : ∀ (x0 : Value) (x1 : Int32) (x2 : Int32) (x3 : Int32) (x4 : Int32) (h : am_H) (o : am_O), rec_7 x0 x1 x2 x3 x4 h = some o → ∀ lv : am_LV, (lv.lookup 0 = some x0) → (lv.lookup 1 = some (.int x1)) → (lv.lookup 2 = some (.int x2)) → (lv.lookup 3 = some (.int x3)) → (lv.lookup 4 = some (.int x4)) → (am_isR x0 = true) → am_W X (d + 1) 79 7 lv [] h (fun q => q = o)) {lv : am_LV} (x0 : Value) (x1 : Int32) (x2 : Int32) (x3 : Int32) (x4 : Int32) (s0 : Value) (s1 : Int32) (s2 : Int32) (h : am_H) (o : am_O) (l0 : lv.lookup 0 = some x0) (l1 : lv.lookup 1 = some (.int x1)) (l2 : lv.lookup 2 = some (.int x2)) (l3 : lv.lookup 3 = some (.int x3)) (l4 : lv.lookup 4 = some (.int x4)) (i0 : am_isR x0 = true) (j0 : am_isR s0 = true) (hs : fg_79_69 N rec_7 x0 x1 x2 x3 x4 s0 s1 s2 h = some o) : am_W X (d + 1) 79 69 lv [(.int s2), (.int s1), s0] h (fun q => q = o) := by
  unfold fg_79_69 at hs
  obtain ⟨h1, e2, hs1⟩ := am_bind hs
  clear hs
  refine aw_pS (pc1 := 70) at_79_69 (Or.inr (Or.inl ⟨rfl, rfl⟩)) e2 rfl ?_
  refine aw_vload_n (pc1 := 71) at_79_70 l0 i0 rfl ?_
  obtain ⟨v3, e4, hs2⟩ := am_bind hs1
  clear hs1
  refine aw_pG (pc1 := 74) at_79_71 (am_vR_s e4).1 rfl ?_
  refine aw_iload_n (pc1 := 75) at_79_74 l3 rfl ?_
  obtain ⟨v5, e6, hs3⟩ := am_bind hs2
  clear hs2
  refine aw_pA (pc1 := 76) at_79_75 (Or.inl ⟨rfl, rfl⟩) e6 rfl ?_
  refine aw_istore_n (lv1 := am_put1 _ 3 _) (pc1 := 77) at_79_76 rfl rfl ?_
  refine aw_iinc (v := (x4 + 1)) (c := 1) (lv1 := am_put1 _ 4 _) (pc1 := 80) at_79_77 (am_lk1 l4 rfl rfl) (by decide) rfl rfl rfl ?_
  refine aw_goto at_79_80 ?_
  exact q_7 x0 x1 x2 v5 ((x4 + 1)) h1 o hs3 _ (am_lk1 (am_lk1 l0 rfl rfl) rfl rfl) (am_lk1 (am_lk1 l1 rfl rfl) rfl rfl) (am_lk1 (am_lk1 l2 rfl rfl) rfl rfl) (am_lk1 am_lk0 rfl rfl) am_lk0 i0
def fg_79_68 (N : Nat) (rec_7 : Value → Int32 → Int32 → Int32 → Int32 → am_H → Option am_O) (x0 : Value) (x1 : Int32) (x2 : Int32) (x3 : Int32) (x4 : Int32) (s0 : Value) (s1 : Int32) (h : am_H) : Option am_O := (fg_79_69 N rec_7 x0 x1 x2 x3 x4 s0 s1 0 h)
theorem rg_79_68 {X : am_X} {d : Nat} {N : Nat} {rec_7 : Value → Int32 → Int32 → Int32 → Int32 → am_H → Option am_O} (q_7 : ∀ (x0 : Value) (x1 : Int32) (x2 : Int32) (x3 : Int32) (x4 : Int32) (h : am_H) (o : am_O), rec_7 x0 x1 x2 x3 x4 h = some o → ∀ lv : am_LV, (lv.lookup 0 = some x0) → (lv.lookup 1 = some (.int x1)) → (lv.lookup 2 = some (.int x2)) → (lv.lookup 3 = some (.int x3)) → (lv.lookup 4 = some (.int x4)) → (am_isR x0 = true) → am_W X (d + 1) 79 7 lv [] h (fun q => q = o)) {lv : am_LV} (x0 : Value) (x1 : Int32) (x2 : Int32) (x3 : Int32) (x4 : Int32) (s0 : Value) (s1 : Int32) (h : am_H) (o : am_O) (l0 : lv.lookup 0 = some x0) (l1 : lv.lookup 1 = some (.int x1)) (l2 : lv.lookup 2 = some (.int x2)) (l3 : lv.lookup 3 = some (.int x3)) (l4 : lv.lookup 4 = some (.int x4)) (i0 : am_isR x0 = true) (j0 : am_isR s0 = true) (hs : fg_79_68 N rec_7 x0 x1 x2 x3 x4 s0 s1 h = some o) : am_W X (d + 1) 79 68 lv [(.int s1), s0] h (fun q => q = o) := by
  unfold fg_79_68 at hs
  refine aw_iconst (v := 0) (pc1 := 69) at_79_68 (by decide) rfl ?_
  exact rg_79_69 q_7 x0 x1 x2 x3 x4 s0 s1 0 h o l0 l1 l2 l3 l4 i0 j0 hs
def fg_79_64 (N : Nat) (rec_7 : Value → Int32 → Int32 → Int32 → Int32 → am_H → Option am_O) (x0 : Value) (x1 : Int32) (x2 : Int32) (x3 : Int32) (x4 : Int32) (s0 : Value) (s1 : Int32) (h : am_H) : Option am_O := (fg_79_69 N rec_7 x0 x1 x2 x3 x4 s0 s1 1 h)
theorem rg_79_64 {X : am_X} {d : Nat} {N : Nat} {rec_7 : Value → Int32 → Int32 → Int32 → Int32 → am_H → Option am_O} (q_7 : ∀ (x0 : Value) (x1 : Int32) (x2 : Int32) (x3 : Int32) (x4 : Int32) (h : am_H) (o : am_O), rec_7 x0 x1 x2 x3 x4 h = some o → ∀ lv : am_LV, (lv.lookup 0 = some x0) → (lv.lookup 1 = some (.int x1)) → (lv.lookup 2 = some (.int x2)) → (lv.lookup 3 = some (.int x3)) → (lv.lookup 4 = some (.int x4)) → (am_isR x0 = true) → am_W X (d + 1) 79 7 lv [] h (fun q => q = o)) {lv : am_LV} (x0 : Value) (x1 : Int32) (x2 : Int32) (x3 : Int32) (x4 : Int32) (s0 : Value) (s1 : Int32) (h : am_H) (o : am_O) (l0 : lv.lookup 0 = some x0) (l1 : lv.lookup 1 = some (.int x1)) (l2 : lv.lookup 2 = some (.int x2)) (l3 : lv.lookup 3 = some (.int x3)) (l4 : lv.lookup 4 = some (.int x4)) (i0 : am_isR x0 = true) (j0 : am_isR s0 = true) (hs : fg_79_64 N rec_7 x0 x1 x2 x3 x4 s0 s1 h = some o) : am_W X (d + 1) 79 64 lv [(.int s1), s0] h (fun q => q = o) := by
  unfold fg_79_64 at hs
  refine aw_iconst (v := 1) (pc1 := 65) at_79_64 (by decide) rfl ?_
  refine aw_goto at_79_65 ?_
  exact rg_79_69 q_7 x0 x1 x2 x3 x4 s0 s1 1 h o l0 l1 l2 l3 l4 i0 j0 hs
def fg_79_7 (N : Nat) : Nat → Value → Int32 → Int32 → Int32 → Int32 → am_H → Option am_O
  | 0 => fun _ _ _ _ _ _ => none
  | K + 1 => fun x0 x1 x2 x3 x4 h => am_cI false (fm_14 x2 h) (fun v1 h2 => (if v1 ≤ x4 then (fg_79_83 N h2) else ((am_vI (am_pG 1799 x0 h2)).bind fun v5 => (if v5 ≤ x3 then (fg_79_83 N h2) else ((am_vR (am_pG 1793 x0 h2)).bind fun v8 => ((am_vR (am_pG 1793 x0 h2)).bind fun v10 => ((am_pA 0 v10 x1 h2).bind fun v12 => ((am_pS 0 v8 x3 (v12 + 1) h2).bind fun h14 => ((am_vR (am_pG 1795 x0 h14)).bind fun v16 => ((am_vR (am_pG 1795 x0 h14)).bind fun v18 => ((am_pA 2 v18 x1 h14).bind fun v20 => (if ¬ v20 = 0 then (fg_79_64 N (fg_79_7 N K) x0 x1 x2 x3 x4 v16 x3 h14) else (if ¬ x2 = 19 then (fg_79_68 N (fg_79_7 N K) x0 x1 x2 x3 x4 v16 x3 h14) else (if ¬ x4 = 1 then (fg_79_68 N (fg_79_7 N K) x0 x1 x2 x3 x4 v16 x3 h14) else (fg_79_64 N (fg_79_7 N K) x0 x1 x2 x3 x4 v16 x3 h14)))))))))))))))
theorem rg_79_7 {X : am_X} {d : Nat} {N : Nat} : ∀ (K : Nat) (x0 : Value) (x1 : Int32) (x2 : Int32) (x3 : Int32) (x4 : Int32) (h : am_H) (o : am_O), fg_79_7 N K x0 x1 x2 x3 x4 h = some o → ∀ lv : am_LV, (lv.lookup 0 = some x0) → (lv.lookup 1 = some (.int x1)) → (lv.lookup 2 = some (.int x2)) → (lv.lookup 3 = some (.int x3)) → (lv.lookup 4 = some (.int x4)) → (am_isR x0 = true) → am_W X (d + 1) 79 7 lv [] h (fun q => q = o) := by
  intro K
  induction K with
  | zero => intro x0 x1 x2 x3 x4 h o hs; cases hs
  | succ K ih =>
    intro x0 x1 x2 x3 x4 h o hs lv l0 l1 l2 l3 l4 i0
    unfold fg_79_7 at hs
    refine aw_iload (pc1 := 9) at_79_7 l4 rfl ?_
    refine aw_iload_n (pc1 := 10) at_79_9 l2 rfl ?_
    refine aw_call (F := fm_14 x2 h) (t := false) (na := 1) (kd := 0) (as := [(.int x2)]) at_79_10 (am_k3s kb_14) mn_14 mk_14 rfl rfl (am_ok_s mi_14 (am_hl rfl (am_ccI am_cats_0) rfl)) (am_hc (am_ccI am_cats_0) rfl) (fun hz9 => by cases hz9) (fun o1 hz9 => rm_14 x2 h o1  hz9) ?_
    rcases am_cI_s hs with ⟨v1, h2, f3, hs1⟩ | hs1
    · clear hs
      refine Or.inl ⟨_, _, f3, ?_⟩
      show am_W X _ 79 13 _ [(.int v1), (.int x4)] h2 _
      by_cases c4 : v1 ≤ x4
      · rw [if_pos c4] at hs1
        refine aw_icge_t at_79_13 c4 ?_
        exact rg_79_83 h2 o   hs1
      · rw [if_neg c4] at hs1
        refine aw_icge_f (pc1 := 16) at_79_13 c4 rfl ?_
        refine aw_iload_n (pc1 := 17) at_79_16 l3 rfl ?_
        refine aw_vload_n (pc1 := 18) at_79_17 l0 i0 rfl ?_
        obtain ⟨v5, e6, hs2⟩ := am_bind hs1
        clear hs1
        refine aw_pG (pc1 := 21) at_79_18 (am_vI_s e6) rfl ?_
        by_cases c7 : v5 ≤ x3
        · rw [if_pos c7] at hs2
          refine aw_icge_t at_79_21 c7 ?_
          exact rg_79_83 h2 o   hs2
        · rw [if_neg c7] at hs2
          refine aw_icge_f (pc1 := 24) at_79_21 c7 rfl ?_
          refine aw_vload_n (pc1 := 25) at_79_24 l0 i0 rfl ?_
          obtain ⟨v8, e9, hs3⟩ := am_bind hs2
          clear hs2
          refine aw_pG (pc1 := 28) at_79_25 (am_vR_s e9).1 rfl ?_
          refine aw_iload_n (pc1 := 29) at_79_28 l3 rfl ?_
          refine aw_vload_n (pc1 := 30) at_79_29 l0 i0 rfl ?_
          obtain ⟨v10, e11, hs4⟩ := am_bind hs3
          clear hs3
          refine aw_pG (pc1 := 33) at_79_30 (am_vR_s e11).1 rfl ?_
          refine aw_iload_n (pc1 := 34) at_79_33 l1 rfl ?_
          obtain ⟨v12, e13, hs5⟩ := am_bind hs4
          clear hs4
          refine aw_pA (pc1 := 35) at_79_34 (Or.inl ⟨rfl, rfl⟩) e13 rfl ?_
          refine aw_iconst (v := 1) (pc1 := 36) at_79_35 (by decide) rfl ?_
          refine aw_iadd (v := (v12 + 1)) (pc1 := 37) at_79_36 rfl rfl ?_
          obtain ⟨h14, e15, hs6⟩ := am_bind hs5
          clear hs5
          refine aw_pS (pc1 := 38) at_79_37 (Or.inl ⟨rfl, rfl⟩) e15 rfl ?_
          refine aw_vload_n (pc1 := 39) at_79_38 l0 i0 rfl ?_
          obtain ⟨v16, e17, hs7⟩ := am_bind hs6
          clear hs6
          refine aw_pG (pc1 := 42) at_79_39 (am_vR_s e17).1 rfl ?_
          refine aw_iload_n (pc1 := 43) at_79_42 l3 rfl ?_
          refine aw_vload_n (pc1 := 44) at_79_43 l0 i0 rfl ?_
          obtain ⟨v18, e19, hs8⟩ := am_bind hs7
          clear hs7
          refine aw_pG (pc1 := 47) at_79_44 (am_vR_s e19).1 rfl ?_
          refine aw_iload_n (pc1 := 48) at_79_47 l1 rfl ?_
          obtain ⟨v20, e21, hs9⟩ := am_bind hs8
          clear hs8
          refine aw_pA (pc1 := 49) at_79_48 (Or.inr (Or.inl ⟨rfl, rfl⟩)) e21 rfl ?_
          by_cases c22 : ¬ v20 = 0
          · rw [if_pos c22] at hs9
            refine aw_ifne_t at_79_49 c22 ?_
            exact rg_79_64 (fun z0 z1 z2 z3 z4 h o hs9 => ih z0 z1 z2 z3 z4 h o hs9) x0 x1 x2 x3 x4 v16 x3 h14 o l0 l1 l2 l3 l4 i0 (am_vR_s e17).2 hs9
          · rw [if_neg c22] at hs9
            refine aw_ifne_f (pc1 := 52) at_79_49 c22 rfl ?_
            refine aw_iload_n (pc1 := 53) at_79_52 l2 rfl ?_
            refine aw_bipush (v := 19) (pc1 := 55) at_79_53 (by decide) rfl ?_
            by_cases c23 : ¬ x2 = 19
            · rw [if_pos c23] at hs9
              refine aw_icne_t at_79_55 c23 ?_
              exact rg_79_68 (fun z0 z1 z2 z3 z4 h o hs9 => ih z0 z1 z2 z3 z4 h o hs9) x0 x1 x2 x3 x4 v16 x3 h14 o l0 l1 l2 l3 l4 i0 (am_vR_s e17).2 hs9
            · rw [if_neg c23] at hs9
              refine aw_icne_f (pc1 := 58) at_79_55 c23 rfl ?_
              refine aw_iload (pc1 := 60) at_79_58 l4 rfl ?_
              refine aw_iconst (v := 1) (pc1 := 61) at_79_60 (by decide) rfl ?_
              by_cases c24 : ¬ x4 = 1
              · rw [if_pos c24] at hs9
                refine aw_icne_t at_79_61 c24 ?_
                exact rg_79_68 (fun z0 z1 z2 z3 z4 h o hs9 => ih z0 z1 z2 z3 z4 h o hs9) x0 x1 x2 x3 x4 v16 x3 h14 o l0 l1 l2 l3 l4 i0 (am_vR_s e17).2 hs9
              · rw [if_neg c24] at hs9
                refine aw_icne_f (pc1 := 64) at_79_61 c24 rfl ?_
                exact rg_79_64 (fun z0 z1 z2 z3 z4 h o hs9 => ih z0 z1 z2 z3 z4 h o hs9) x0 x1 x2 x3 x4 v16 x3 h14 o l0 l1 l2 l3 l4 i0 (am_vR_s e17).2 hs9
    · clear hs
      exact Or.inr hs1
def fg_79_0 (N : Nat) (x0 : Value) (x1 : Int32) (x2 : Int32) (h : am_H) : Option am_O := (fg_79_7 N N x0 x1 x2 ((x1 + 1)) 0 h)
theorem rg_79_0 {X : am_X} {d : Nat} {N : Nat} {lv : am_LV} (x0 : Value) (x1 : Int32) (x2 : Int32) (h : am_H) (o : am_O) (l0 : lv.lookup 0 = some x0) (l1 : lv.lookup 1 = some (.int x1)) (l2 : lv.lookup 2 = some (.int x2)) (i0 : am_isR x0 = true) (hs : fg_79_0 N x0 x1 x2 h = some o) : am_W X (d + 1) 79 0 lv [] h (fun q => q = o) := by
  unfold fg_79_0 at hs
  refine aw_iload_n (pc1 := 1) at_79_0 l1 rfl ?_
  refine aw_iconst (v := 1) (pc1 := 2) at_79_1 (by decide) rfl ?_
  refine aw_iadd (v := (x1 + 1)) (pc1 := 3) at_79_2 rfl rfl ?_
  refine aw_istore_n (lv1 := am_put1 _ 3 _) (pc1 := 4) at_79_3 rfl rfl ?_
  refine aw_iconst (v := 0) (pc1 := 5) at_79_4 (by decide) rfl ?_
  refine aw_istore (lv1 := am_put1 _ 4 _) (pc1 := 7) at_79_5 rfl rfl ?_
  exact rg_79_7 N x0 x1 x2 ((x1 + 1)) 0 h o hs _ (am_lk1 (am_lk1 l0 rfl rfl) rfl rfl) (am_lk1 (am_lk1 l1 rfl rfl) rfl rfl) (am_lk1 (am_lk1 l2 rfl rfl) rfl rfl) (am_lk1 am_lk0 rfl rfl) am_lk0 i0
def fm_79 (N : Nat) (y0 : Value) (y1 : Int32) (y2 : Int32) (h : am_H) : Option am_O := fg_79_0 N y0 y1 y2 h
theorem rm_79 {X : am_X} {d : Nat} {N : Nat} (y0 : Value) (y1 : Int32) (y2 : Int32) (h : am_H) (o : am_O) (i0 : am_isR y0 = true) (hs : fm_79 N y0 y1 y2 h = some o) : am_W X (d + 1) 79 0 (am_args 0 [y0, .int y1, .int y2]) [] h (fun q => q = o) := by
  rw [am_args_R i0, am_args_I, am_args_I]
  exact rg_79_0 y0 y1 y2 h o rfl rfl rfl i0 hs
def fg_76_56 (N : Nat) : Nat → Value → Value → Int32 → am_H → Option am_O
  | 0 => fun _ _ _ _ => none
  | K + 1 => fun x0 x1 x2 h => ((am_vI (am_pG 1799 x0 h)).bind fun v1 => (if v1 ≤ x2 then some (.inl (none, h)) else (if am_pOk 3 x1 h then am_cI true (fm_54 x1 x2 0 h) (fun v5 h6 => (if am_pOk 7 x0 h6 then am_cV true (fm_79 N x0 x2 v5 h6) (fun h10 => (fg_76_56 N K x0 x1 ((x2 + 1)) h10)) else none)) else none)))
theorem rg_76_56 {X : am_X} {d : Nat} {N : Nat} : ∀ (K : Nat) (x0 : Value) (x1 : Value) (x2 : Int32) (h : am_H) (o : am_O), fg_76_56 N K x0 x1 x2 h = some o → ∀ lv : am_LV, (lv.lookup 0 = some x0) → (lv.lookup 1 = some x1) → (lv.lookup 2 = some (.int x2)) → (am_isR x0 = true) → (am_isR x1 = true) → am_W X (d + 2) 76 56 lv [] h (fun q => q = o) := by
  intro K
  induction K with
  | zero => intro x0 x1 x2 h o hs; cases hs
  | succ K ih =>
    intro x0 x1 x2 h o hs lv l0 l1 l2 i0 i1
    unfold fg_76_56 at hs
    refine aw_iload_n (pc1 := 57) at_76_56 l2 rfl ?_
    refine aw_vload_n (pc1 := 58) at_76_57 l0 i0 rfl ?_
    obtain ⟨v1, e2, hs1⟩ := am_bind hs
    clear hs
    refine aw_pG (pc1 := 61) at_76_58 (am_vI_s e2) rfl ?_
    by_cases c3 : v1 ≤ x2
    · rw [if_pos c3] at hs1
      refine aw_icge_t at_76_61 c3 ?_
      cases hs1
      exact aw_vret at_76_81 rt_76 rfl
    · rw [if_neg c3] at hs1
      refine aw_icge_f (pc1 := 64) at_76_61 c3 rfl ?_
      refine aw_vload_n (pc1 := 65) at_76_64 l0 i0 rfl ?_
      refine aw_iload_n (pc1 := 66) at_76_65 l2 rfl ?_
      refine aw_vload_n (pc1 := 67) at_76_66 l1 i1 rfl ?_
      refine aw_iload_n (pc1 := 68) at_76_67 l2 rfl ?_
      refine aw_iconst (v := 0) (pc1 := 69) at_76_68 (by decide) rfl ?_
      obtain ⟨z4, hs2⟩ := am_ift hs1
      clear hs1
      refine aw_call (F := fm_54 x1 x2 0 h) (t := true) (na := 3) (kd := 1) (as := [x1, (.int x2), (.int 0)]) at_76_69 (am_k3v kb_54) mn_54 mk_54 rfl rfl (am_ok_v mi_54 (am_hl rfl (am_ccR i1 (am_ccI (am_ccI am_cats_0))) rfl) z4) (am_hc (am_ccI (am_ccR i0 am_cats_0)) rfl) (fun _ => ⟨rfl, hh_76⟩) (fun o1 hz9 => rm_54 x1 x2 0 h o1 i1 hz9) ?_
      rcases am_cI_s hs2 with ⟨v5, h6, f7, hs3⟩ | hs3
      · clear hs2
        refine Or.inl ⟨_, _, f7, ?_⟩
        show am_W X _ 76 72 _ [(.int v5), (.int x2), x0] h6 _
        obtain ⟨z8, hs4⟩ := am_ift hs3
        clear hs3
        refine aw_call (F := fm_79 N x0 x2 v5 h6) (t := true) (na := 3) (kd := 1) (as := [x0, (.int x2), (.int v5)]) at_76_72 (am_k3v kb_79) mn_79 mk_79 rfl rfl (am_ok_v mi_79 (am_hl rfl (am_ccR i0 (am_ccI (am_ccI am_cats_0))) rfl) z8) (am_hc am_cats_0 rfl) (fun _ => ⟨rfl, hh_76⟩) (fun o1 hz9 => rm_79 x0 x2 v5 h6 o1 i0 hz9) ?_
        rcases am_cV_s hs4 with ⟨h10, f11, hs5⟩ | hs5
        · clear hs4
          refine Or.inl ⟨_, _, f11, ?_⟩
          show am_W X _ 76 75 _ [] h10 _
          refine aw_iinc (v := (x2 + 1)) (c := 1) (lv1 := am_put1 _ 2 _) (pc1 := 78) at_76_75 l2 (by decide) rfl rfl rfl ?_
          refine aw_goto at_76_78 ?_
          exact ih x0 x1 ((x2 + 1)) h10 o hs5 _ (am_lk1 l0 rfl rfl) (am_lk1 l1 rfl (by rw [am_isRc i1]; rfl)) am_lk0 i0 i1
        · clear hs4
          exact Or.inr hs5
      · clear hs2
        exact Or.inr hs3
def fg_76_54 (N : Nat) (x0 : Value) (x1 : Value) (h : am_H) : Option am_O := (fg_76_56 N N x0 x1 0 h)
theorem rg_76_54 {X : am_X} {d : Nat} {N : Nat} {lv : am_LV} (x0 : Value) (x1 : Value) (h : am_H) (o : am_O) (l0 : lv.lookup 0 = some x0) (l1 : lv.lookup 1 = some x1) (i0 : am_isR x0 = true) (i1 : am_isR x1 = true) (hs : fg_76_54 N x0 x1 h = some o) : am_W X (d + 2) 76 54 lv [] h (fun q => q = o) := by
  unfold fg_76_54 at hs
  refine aw_iconst (v := 0) (pc1 := 55) at_76_54 (by decide) rfl ?_
  refine aw_istore_n (lv1 := am_put1 _ 2 _) (pc1 := 56) at_76_55 rfl rfl ?_
  exact rg_76_56 N x0 x1 0 h o hs _ (am_lk1 l0 rfl rfl) (am_lk1 l1 rfl (by rw [am_isRc i1]; rfl)) am_lk0 i0 i1
def fg_76_12 (N : Nat) : Nat → Value → Value → Int32 → am_H → Option am_O
  | 0 => fun _ _ _ _ => none
  | K + 1 => fun x0 x1 x2 h => (if x2 < 0 then ((am_vI (am_pG 1799 x0 h)).bind fun v2 => (if v2 ≤ 0 then (fg_76_54 N x0 x1 h) else ((am_vR (am_pG 1793 x0 h)).bind fun v5 => ((am_pS 0 v5 0 1 h).bind fun h7 => ((am_vR (am_pG 1795 x0 h7)).bind fun v9 => ((am_pS 2 v9 0 0 h7).bind fun h11 => (fg_76_54 N x0 x1 h11))))))) else (if am_pOk 3 x1 h then am_cI true (fm_54 x1 x2 0 h) (fun v14 h15 => (if am_pOk 7 x0 h15 then am_cV true (fm_78 N x0 x2 v14 h15) (fun h19 => (fg_76_12 N K x0 x1 ((x2 + (-1))) h19)) else none)) else none))
theorem rg_76_12 {X : am_X} {d : Nat} {N : Nat} : ∀ (K : Nat) (x0 : Value) (x1 : Value) (x2 : Int32) (h : am_H) (o : am_O), fg_76_12 N K x0 x1 x2 h = some o → ∀ lv : am_LV, (lv.lookup 0 = some x0) → (lv.lookup 1 = some x1) → (lv.lookup 2 = some (.int x2)) → (am_isR x0 = true) → (am_isR x1 = true) → am_W X (d + 2) 76 12 lv [] h (fun q => q = o) := by
  intro K
  induction K with
  | zero => intro x0 x1 x2 h o hs; cases hs
  | succ K ih =>
    intro x0 x1 x2 h o hs lv l0 l1 l2 i0 i1
    unfold fg_76_12 at hs
    refine aw_iload_n (pc1 := 13) at_76_12 l2 rfl ?_
    by_cases c1 : x2 < 0
    · rw [if_pos c1] at hs
      refine aw_iflt_t at_76_13 c1 ?_
      refine aw_vload_n (pc1 := 34) at_76_33 l0 i0 rfl ?_
      obtain ⟨v2, e3, hs1⟩ := am_bind hs
      clear hs
      refine aw_pG (pc1 := 37) at_76_34 (am_vI_s e3) rfl ?_
      by_cases c4 : v2 ≤ 0
      · rw [if_pos c4] at hs1
        refine aw_ifle_t at_76_37 c4 ?_
        exact rg_76_54 x0 x1 h o l0 l1 i0 i1 hs1
      · rw [if_neg c4] at hs1
        refine aw_ifle_f (pc1 := 40) at_76_37 c4 rfl ?_
        refine aw_vload_n (pc1 := 41) at_76_40 l0 i0 rfl ?_
        obtain ⟨v5, e6, hs2⟩ := am_bind hs1
        clear hs1
        refine aw_pG (pc1 := 44) at_76_41 (am_vR_s e6).1 rfl ?_
        refine aw_iconst (v := 0) (pc1 := 45) at_76_44 (by decide) rfl ?_
        refine aw_iconst (v := 1) (pc1 := 46) at_76_45 (by decide) rfl ?_
        obtain ⟨h7, e8, hs3⟩ := am_bind hs2
        clear hs2
        refine aw_pS (pc1 := 47) at_76_46 (Or.inl ⟨rfl, rfl⟩) e8 rfl ?_
        refine aw_vload_n (pc1 := 48) at_76_47 l0 i0 rfl ?_
        obtain ⟨v9, e10, hs4⟩ := am_bind hs3
        clear hs3
        refine aw_pG (pc1 := 51) at_76_48 (am_vR_s e10).1 rfl ?_
        refine aw_iconst (v := 0) (pc1 := 52) at_76_51 (by decide) rfl ?_
        refine aw_iconst (v := 0) (pc1 := 53) at_76_52 (by decide) rfl ?_
        obtain ⟨h11, e12, hs5⟩ := am_bind hs4
        clear hs4
        refine aw_pS (pc1 := 54) at_76_53 (Or.inr (Or.inl ⟨rfl, rfl⟩)) e12 rfl ?_
        exact rg_76_54 x0 x1 h11 o l0 l1 i0 i1 hs5
    · rw [if_neg c1] at hs
      refine aw_iflt_f (pc1 := 16) at_76_13 c1 rfl ?_
      refine aw_vload_n (pc1 := 17) at_76_16 l0 i0 rfl ?_
      refine aw_iload_n (pc1 := 18) at_76_17 l2 rfl ?_
      refine aw_vload_n (pc1 := 19) at_76_18 l1 i1 rfl ?_
      refine aw_iload_n (pc1 := 20) at_76_19 l2 rfl ?_
      refine aw_iconst (v := 0) (pc1 := 21) at_76_20 (by decide) rfl ?_
      obtain ⟨z13, hs6⟩ := am_ift hs
      clear hs
      refine aw_call (F := fm_54 x1 x2 0 h) (t := true) (na := 3) (kd := 1) (as := [x1, (.int x2), (.int 0)]) at_76_21 (am_k3v kb_54) mn_54 mk_54 rfl rfl (am_ok_v mi_54 (am_hl rfl (am_ccR i1 (am_ccI (am_ccI am_cats_0))) rfl) z13) (am_hc (am_ccI (am_ccR i0 am_cats_0)) rfl) (fun _ => ⟨rfl, hh_76⟩) (fun o1 hz9 => rm_54 x1 x2 0 h o1 i1 hz9) ?_
      rcases am_cI_s hs6 with ⟨v14, h15, f16, hs7⟩ | hs7
      · clear hs6
        refine Or.inl ⟨_, _, f16, ?_⟩
        show am_W X _ 76 24 _ [(.int v14), (.int x2), x0] h15 _
        obtain ⟨z17, hs8⟩ := am_ift hs7
        clear hs7
        refine aw_call (F := fm_78 N x0 x2 v14 h15) (t := true) (na := 3) (kd := 1) (as := [x0, (.int x2), (.int v14)]) at_76_24 (am_k3v kb_78) mn_78 mk_78 rfl rfl (am_ok_v mi_78 (am_hl rfl (am_ccR i0 (am_ccI (am_ccI am_cats_0))) rfl) z17) (am_hc am_cats_0 rfl) (fun _ => ⟨rfl, hh_76⟩) (fun o1 hz9 => rm_78 x0 x2 v14 h15 o1 i0 hz9) ?_
        rcases am_cV_s hs8 with ⟨h19, f20, hs9⟩ | hs9
        · clear hs8
          refine Or.inl ⟨_, _, f20, ?_⟩
          show am_W X _ 76 27 _ [] h19 _
          refine aw_iinc (v := (x2 + (-1))) (c := (-1)) (lv1 := am_put1 _ 2 _) (pc1 := 30) at_76_27 l2 (by decide) rfl rfl rfl ?_
          refine aw_goto at_76_30 ?_
          exact ih x0 x1 ((x2 + (-1))) h19 o hs9 _ (am_lk1 l0 rfl rfl) (am_lk1 l1 rfl (by rw [am_isRc i1]; rfl)) am_lk0 i0 i1
        · clear hs8
          exact Or.inr hs9
      · clear hs6
        exact Or.inr hs7
def fg_76_0 (N : Nat) (x0 : Value) (x1 : Value) (h : am_H) : Option am_O := (if am_pOk 7 x0 h then am_cV true (fm_77 N x0 x1 h) (fun h3 => ((am_vI (am_pG 1799 x0 h3)).bind fun v5 => (fg_76_12 N N x0 x1 ((v5 - 1)) h3))) else none)
theorem rg_76_0 {X : am_X} {d : Nat} {N : Nat} {lv : am_LV} (x0 : Value) (x1 : Value) (h : am_H) (o : am_O) (l0 : lv.lookup 0 = some x0) (l1 : lv.lookup 1 = some x1) (i0 : am_isR x0 = true) (i1 : am_isR x1 = true) (hs : fg_76_0 N x0 x1 h = some o) : am_W X (d + 2) 76 0 lv [] h (fun q => q = o) := by
  unfold fg_76_0 at hs
  refine aw_vload_n (pc1 := 1) at_76_0 l0 i0 rfl ?_
  refine aw_vload_n (pc1 := 2) at_76_1 l1 i1 rfl ?_
  obtain ⟨z1, hs1⟩ := am_ift hs
  clear hs
  refine aw_call (F := fm_77 N x0 x1 h) (t := true) (na := 2) (kd := 1) (as := [x0, x1]) at_76_2 (am_k3v kb_77) mn_77 mk_77 rfl rfl (am_ok_v mi_77 (am_hl rfl (am_ccR i0 (am_ccR i1 am_cats_0)) rfl) z1) (am_hc am_cats_0 rfl) (fun _ => ⟨rfl, hh_76⟩) (fun o1 hz9 => rm_77 x0 x1 h o1 i0 i1 hz9) ?_
  rcases am_cV_s hs1 with ⟨h3, f4, hs2⟩ | hs2
  · clear hs1
    refine Or.inl ⟨_, _, f4, ?_⟩
    show am_W X _ 76 5 _ [] h3 _
    refine aw_vload_n (pc1 := 6) at_76_5 l0 i0 rfl ?_
    obtain ⟨v5, e6, hs3⟩ := am_bind hs2
    clear hs2
    refine aw_pG (pc1 := 9) at_76_6 (am_vI_s e6) rfl ?_
    refine aw_iconst (v := 1) (pc1 := 10) at_76_9 (by decide) rfl ?_
    refine aw_isub (v := (v5 - 1)) (pc1 := 11) at_76_10 rfl rfl ?_
    refine aw_istore_n (lv1 := am_put1 _ 2 _) (pc1 := 12) at_76_11 rfl rfl ?_
    exact rg_76_12 N x0 x1 ((v5 - 1)) h3 o hs3 _ (am_lk1 l0 rfl rfl) (am_lk1 l1 rfl (by rw [am_isRc i1]; rfl)) am_lk0 i0 i1
  · clear hs1
    exact Or.inr hs2
def fm_76 (N : Nat) (y0 : Value) (y1 : Value) (h : am_H) : Option am_O := fg_76_0 N y0 y1 h
theorem rm_76 {X : am_X} {d : Nat} {N : Nat} (y0 : Value) (y1 : Value) (h : am_H) (o : am_O) (i0 : am_isR y0 = true) (i1 : am_isR y1 = true) (hs : fm_76 N y0 y1 h = some o) : am_W X (d + 2) 76 0 (am_args 0 [y0, y1]) [] h (fun q => q = o) := by
  rw [am_args_R i0, am_args_R i1]
  exact rg_76_0 y0 y1 h o rfl rfl i0 i1 hs
def fg_75_28 (N : Nat) (s0 : Int32) (h : am_H) : Option am_O := some (.inl (some (.int s0), h))
theorem rg_75_28 {X : am_X} {d : Nat} {N : Nat} {lv : am_LV} (s0 : Int32) (h : am_H) (o : am_O) (hs : fg_75_28 N s0 h = some o) : am_W X (d + 3) 75 28 lv [(.int s0)] h (fun q => q = o) := by
  unfold fg_75_28 at hs
  cases hs
  exact aw_iret at_75_28 (by rw [rt_75]; rfl) rfl
def fg_75_0 (N : Nat) (x0 : Value) (x1 : Value) (h : am_H) : Option am_O := ((am_vR (am_pG 2560 x0 h)).bind fun v1 => (if am_pOk 7 v1 h then am_cV true (fm_76 N v1 x1 h) (fun h5 => ((am_vI (am_pG 771 x1 h5)).bind fun v7 => (if v7 ≤ 0 then (fg_75_28 N 0 h5) else ((am_vR (am_pG 2560 x0 h5)).bind fun v10 => ((am_vR (am_pG 1794 v10 h5)).bind fun v12 => ((am_pA 0 v12 0 h5).bind fun v14 => (fg_75_28 N v14 h5))))))) else none))
theorem rg_75_0 {X : am_X} {d : Nat} {N : Nat} {lv : am_LV} (x0 : Value) (x1 : Value) (h : am_H) (o : am_O) (l0 : lv.lookup 0 = some x0) (l1 : lv.lookup 1 = some x1) (i0 : am_isR x0 = true) (i1 : am_isR x1 = true) (hs : fg_75_0 N x0 x1 h = some o) : am_W X (d + 3) 75 0 lv [] h (fun q => q = o) := by
  unfold fg_75_0 at hs
  refine aw_vload_n (pc1 := 1) at_75_0 l0 i0 rfl ?_
  obtain ⟨v1, e2, hs1⟩ := am_bind hs
  clear hs
  refine aw_pG (pc1 := 4) at_75_1 (am_vR_s e2).1 rfl ?_
  refine aw_vload_n (pc1 := 5) at_75_4 l1 i1 rfl ?_
  obtain ⟨z3, hs2⟩ := am_ift hs1
  clear hs1
  refine aw_call (F := fm_76 N v1 x1 h) (t := true) (na := 2) (kd := 1) (as := [v1, x1]) at_75_5 (am_k3v kb_76) mn_76 mk_76 rfl rfl (am_ok_v mi_76 (am_hl rfl (am_ccR (am_vR_s e2).2 (am_ccR i1 am_cats_0)) rfl) z3) (am_hc am_cats_0 rfl) (fun _ => ⟨rfl, hh_75⟩) (fun o1 hz9 => rm_76 v1 x1 h o1 (am_vR_s e2).2 i1 hz9) ?_
  rcases am_cV_s hs2 with ⟨h5, f6, hs3⟩ | hs3
  · clear hs2
    refine Or.inl ⟨_, _, f6, ?_⟩
    show am_W X _ 75 8 _ [] h5 _
    refine aw_vload_n (pc1 := 9) at_75_8 l1 i1 rfl ?_
    obtain ⟨v7, e8, hs4⟩ := am_bind hs3
    clear hs3
    refine aw_pG (pc1 := 12) at_75_9 (am_vI_s e8) rfl ?_
    by_cases c9 : v7 ≤ 0
    · rw [if_pos c9] at hs4
      refine aw_ifle_t at_75_12 c9 ?_
      refine aw_iconst (v := 0) (pc1 := 28) at_75_27 (by decide) rfl ?_
      exact rg_75_28 0 h5 o   hs4
    · rw [if_neg c9] at hs4
      refine aw_ifle_f (pc1 := 15) at_75_12 c9 rfl ?_
      refine aw_vload_n (pc1 := 16) at_75_15 l0 i0 rfl ?_
      obtain ⟨v10, e11, hs5⟩ := am_bind hs4
      clear hs4
      refine aw_pG (pc1 := 19) at_75_16 (am_vR_s e11).1 rfl ?_
      obtain ⟨v12, e13, hs6⟩ := am_bind hs5
      clear hs5
      refine aw_pG (pc1 := 22) at_75_19 (am_vR_s e13).1 rfl ?_
      refine aw_iconst (v := 0) (pc1 := 23) at_75_22 (by decide) rfl ?_
      obtain ⟨v14, e15, hs7⟩ := am_bind hs6
      clear hs6
      refine aw_pA (pc1 := 24) at_75_23 (Or.inl ⟨rfl, rfl⟩) e15 rfl ?_
      refine aw_goto at_75_24 ?_
      exact rg_75_28 v14 h5 o   hs7
  · clear hs2
    exact Or.inr hs3
def fm_75 (N : Nat) (y0 : Value) (y1 : Value) (h : am_H) : Option am_O := fg_75_0 N y0 y1 h
theorem rm_75 {X : am_X} {d : Nat} {N : Nat} (y0 : Value) (y1 : Value) (h : am_H) (o : am_O) (i0 : am_isR y0 = true) (i1 : am_isR y1 = true) (hs : fm_75 N y0 y1 h = some o) : am_W X (d + 3) 75 0 (am_args 0 [y0, y1]) [] h (fun q => q = o) := by
  rw [am_args_R i0, am_args_R i1]
  exact rg_75_0 y0 y1 h o rfl rfl i0 i1 hs
def fg_74_115 (N : Nat) (s0 : Int32) (h : am_H) : Option am_O := some (.inl (some (.int s0), h))
theorem rg_74_115 {X : am_X} {d : Nat} {N : Nat} {lv : am_LV} (s0 : Int32) (h : am_H) (o : am_O) (hs : fg_74_115 N s0 h = some o) : am_W X (d + 4) 74 115 lv [(.int s0)] h (fun q => q = o) := by
  unfold fg_74_115 at hs
  cases hs
  exact aw_iret at_74_115 (by rw [rt_74]; rfl) rfl
def fg_74_0 (N : Nat) (x0 : Value) (x1 : Int32) (x2 : Int32) (h : am_H) : Option am_O := (if am_pOk 11 x0 h then am_cR true (fm_63 x0 x1 h) (fun v2 h3 => (if x2 = 0 then ((am_vI (am_pG 769 v2 h3)).bind fun v6 => some (.inl (some (.int v6), h3))) else (if x2 = 1 then ((am_vI (am_pG 771 v2 h3)).bind fun v9 => some (.inl (some (.int v9), h3))) else (if x2 = 2 then ((am_vI (am_pG 773 v2 h3)).bind fun v12 => some (.inl (some (.int v12), h3))) else (if x2 = 3 then ((am_vI (am_pG 774 v2 h3)).bind fun v15 => some (.inl (some (.int v15), h3))) else (if x2 = 4 then ((am_vI (am_pG 775 v2 h3)).bind fun v18 => some (.inl (some (.int v18), h3))) else (if x2 = 5 then ((am_vI (am_pG 776 v2 h3)).bind fun v21 => some (.inl (some (.int v21), h3))) else (if x2 = 6 then ((am_vI (am_pG 777 v2 h3)).bind fun v24 => some (.inl (some (.int v24), h3))) else (if x2 = 7 then ((am_vI (am_pG 770 v2 h3)).bind fun v27 => some (.inl (some (.int v27), h3))) else (if x2 = 8 then ((am_vI (am_pG 769 v2 h3)).bind fun v30 => (if ¬ v30 = 0 then (fg_74_115 N 0 h3) else ((am_vR (am_pG 2825 x0 h3)).bind fun v33 => (if am_pOk 10 v33 h3 then am_cI true (fm_75 N v33 v2 h3) (fun v36 h37 => (fg_74_115 N v36 h37)) else none)))) else some (.inr (0, h3 ++ [am_dummy])))))))))))) else none)
theorem rg_74_0 {X : am_X} {d : Nat} {N : Nat} {lv : am_LV} (x0 : Value) (x1 : Int32) (x2 : Int32) (h : am_H) (o : am_O) (l0 : lv.lookup 0 = some x0) (l1 : lv.lookup 1 = some (.int x1)) (l2 : lv.lookup 2 = some (.int x2)) (i0 : am_isR x0 = true) (hs : fg_74_0 N x0 x1 x2 h = some o) : am_W X (d + 4) 74 0 lv [] h (fun q => q = o) := by
  unfold fg_74_0 at hs
  refine aw_vload_n (pc1 := 1) at_74_0 l0 i0 rfl ?_
  refine aw_iload_n (pc1 := 2) at_74_1 l1 rfl ?_
  obtain ⟨z1, hs1⟩ := am_ift hs
  clear hs
  refine aw_call (F := fm_63 x0 x1 h) (t := true) (na := 2) (kd := 1) (as := [x0, (.int x1)]) at_74_2 (am_k3v kb_63) mn_63 mk_63 rfl rfl (am_ok_v mi_63 (am_hl rfl (am_ccR i0 (am_ccI am_cats_0)) rfl) z1) (am_hc am_cats_0 rfl) (fun _ => ⟨rfl, hh_74⟩) (fun o1 hz9 => rm_63 x0 x1 h o1 i0 hz9) ?_
  rcases am_cR_s hs1 with ⟨v2, h3, f4, iv2, hs2⟩ | hs2
  · clear hs1
    refine Or.inl ⟨_, _, f4, ?_⟩
    show am_W X _ 74 5 _ [v2] h3 _
    refine aw_vstore_n (lv1 := am_put1 _ 3 _) (pc1 := 6) at_74_5 iv2 rfl rfl ?_
    refine aw_iload_n (pc1 := 7) at_74_6 (am_lk1 l2 rfl rfl) rfl ?_
    by_cases c5 : x2 = 0
    · rw [if_pos c5] at hs2
      refine aw_tsw (t := 56) at_74_7 (by rw [c5]; rfl) ?_
      refine aw_vload_n (pc1 := 57) at_74_56 am_lk0 iv2 rfl ?_
      obtain ⟨v6, e7, hs3⟩ := am_bind hs2
      clear hs2
      refine aw_pG (pc1 := 60) at_74_57 (am_vI_s e7) rfl ?_
      cases hs3
      exact aw_iret at_74_60 (by rw [rt_74]; rfl) rfl
    · rw [if_neg c5] at hs2
      by_cases c8 : x2 = 1
      · rw [if_pos c8] at hs2
        refine aw_tsw (t := 61) at_74_7 (by rw [c8]; rfl) ?_
        refine aw_vload_n (pc1 := 62) at_74_61 am_lk0 iv2 rfl ?_
        obtain ⟨v9, e10, hs4⟩ := am_bind hs2
        clear hs2
        refine aw_pG (pc1 := 65) at_74_62 (am_vI_s e10) rfl ?_
        cases hs4
        exact aw_iret at_74_65 (by rw [rt_74]; rfl) rfl
      · rw [if_neg c8] at hs2
        by_cases c11 : x2 = 2
        · rw [if_pos c11] at hs2
          refine aw_tsw (t := 66) at_74_7 (by rw [c11]; rfl) ?_
          refine aw_vload_n (pc1 := 67) at_74_66 am_lk0 iv2 rfl ?_
          obtain ⟨v12, e13, hs5⟩ := am_bind hs2
          clear hs2
          refine aw_pG (pc1 := 70) at_74_67 (am_vI_s e13) rfl ?_
          cases hs5
          exact aw_iret at_74_70 (by rw [rt_74]; rfl) rfl
        · rw [if_neg c11] at hs2
          by_cases c14 : x2 = 3
          · rw [if_pos c14] at hs2
            refine aw_tsw (t := 71) at_74_7 (by rw [c14]; rfl) ?_
            refine aw_vload_n (pc1 := 72) at_74_71 am_lk0 iv2 rfl ?_
            obtain ⟨v15, e16, hs6⟩ := am_bind hs2
            clear hs2
            refine aw_pG (pc1 := 75) at_74_72 (am_vI_s e16) rfl ?_
            cases hs6
            exact aw_iret at_74_75 (by rw [rt_74]; rfl) rfl
          · rw [if_neg c14] at hs2
            by_cases c17 : x2 = 4
            · rw [if_pos c17] at hs2
              refine aw_tsw (t := 76) at_74_7 (by rw [c17]; rfl) ?_
              refine aw_vload_n (pc1 := 77) at_74_76 am_lk0 iv2 rfl ?_
              obtain ⟨v18, e19, hs7⟩ := am_bind hs2
              clear hs2
              refine aw_pG (pc1 := 80) at_74_77 (am_vI_s e19) rfl ?_
              cases hs7
              exact aw_iret at_74_80 (by rw [rt_74]; rfl) rfl
            · rw [if_neg c17] at hs2
              by_cases c20 : x2 = 5
              · rw [if_pos c20] at hs2
                refine aw_tsw (t := 81) at_74_7 (by rw [c20]; rfl) ?_
                refine aw_vload_n (pc1 := 82) at_74_81 am_lk0 iv2 rfl ?_
                obtain ⟨v21, e22, hs8⟩ := am_bind hs2
                clear hs2
                refine aw_pG (pc1 := 85) at_74_82 (am_vI_s e22) rfl ?_
                cases hs8
                exact aw_iret at_74_85 (by rw [rt_74]; rfl) rfl
              · rw [if_neg c20] at hs2
                by_cases c23 : x2 = 6
                · rw [if_pos c23] at hs2
                  refine aw_tsw (t := 86) at_74_7 (by rw [c23]; rfl) ?_
                  refine aw_vload_n (pc1 := 87) at_74_86 am_lk0 iv2 rfl ?_
                  obtain ⟨v24, e25, hs9⟩ := am_bind hs2
                  clear hs2
                  refine aw_pG (pc1 := 90) at_74_87 (am_vI_s e25) rfl ?_
                  cases hs9
                  exact aw_iret at_74_90 (by rw [rt_74]; rfl) rfl
                · rw [if_neg c23] at hs2
                  by_cases c26 : x2 = 7
                  · rw [if_pos c26] at hs2
                    refine aw_tsw (t := 91) at_74_7 (by rw [c26]; rfl) ?_
                    refine aw_vload_n (pc1 := 92) at_74_91 am_lk0 iv2 rfl ?_
                    obtain ⟨v27, e28, hs10⟩ := am_bind hs2
                    clear hs2
                    refine aw_pG (pc1 := 95) at_74_92 (am_vI_s e28) rfl ?_
                    cases hs10
                    exact aw_iret at_74_95 (by rw [rt_74]; rfl) rfl
                  · rw [if_neg c26] at hs2
                    by_cases c29 : x2 = 8
                    · rw [if_pos c29] at hs2
                      refine aw_tsw (t := 96) at_74_7 (by rw [c29]; rfl) ?_
                      refine aw_vload_n (pc1 := 97) at_74_96 am_lk0 iv2 rfl ?_
                      obtain ⟨v30, e31, hs11⟩ := am_bind hs2
                      clear hs2
                      refine aw_pG (pc1 := 100) at_74_97 (am_vI_s e31) rfl ?_
                      by_cases c32 : ¬ v30 = 0
                      · rw [if_pos c32] at hs11
                        refine aw_ifne_t at_74_100 c32 ?_
                        refine aw_iconst (v := 0) (pc1 := 115) at_74_114 (by decide) rfl ?_
                        exact rg_74_115 0 h3 o   hs11
                      · rw [if_neg c32] at hs11
                        refine aw_ifne_f (pc1 := 103) at_74_100 c32 rfl ?_
                        refine aw_vload_n (pc1 := 104) at_74_103 (am_lk1 l0 rfl rfl) i0 rfl ?_
                        obtain ⟨v33, e34, hs12⟩ := am_bind hs11
                        clear hs11
                        refine aw_pG (pc1 := 107) at_74_104 (am_vR_s e34).1 rfl ?_
                        refine aw_vload_n (pc1 := 108) at_74_107 am_lk0 iv2 rfl ?_
                        obtain ⟨z35, hs13⟩ := am_ift hs12
                        clear hs12
                        refine aw_call (F := fm_75 N v33 v2 h3) (t := true) (na := 2) (kd := 1) (as := [v33, v2]) at_74_108 (am_k3v kb_75) mn_75 mk_75 rfl rfl (am_ok_v mi_75 (am_hl rfl (am_ccR (am_vR_s e34).2 (am_ccR iv2 am_cats_0)) rfl) z35) (am_hc am_cats_0 rfl) (fun _ => ⟨rfl, hh_74⟩) (fun o1 hz9 => rm_75 v33 v2 h3 o1 (am_vR_s e34).2 iv2 hz9) ?_
                        rcases am_cI_s hs13 with ⟨v36, h37, f38, hs14⟩ | hs14
                        · clear hs13
                          refine Or.inl ⟨_, _, f38, ?_⟩
                          show am_W X _ 74 111 _ [(.int v36)] h37 _
                          refine aw_goto at_74_111 ?_
                          exact rg_74_115 v36 h37 o   hs14
                        · clear hs13
                          exact Or.inr hs14
                    · rw [if_neg c29] at hs2
                      have tc5 : x2.toInt ≠ 0 := fun e9 => c5 (Int32.toInt_inj.mp e9)
                      have tc8 : x2.toInt ≠ 1 := fun e9 => c8 (Int32.toInt_inj.mp e9)
                      have tc11 : x2.toInt ≠ 2 := fun e9 => c11 (Int32.toInt_inj.mp e9)
                      have tc14 : x2.toInt ≠ 3 := fun e9 => c14 (Int32.toInt_inj.mp e9)
                      have tc17 : x2.toInt ≠ 4 := fun e9 => c17 (Int32.toInt_inj.mp e9)
                      have tc20 : x2.toInt ≠ 5 := fun e9 => c20 (Int32.toInt_inj.mp e9)
                      have tc23 : x2.toInt ≠ 6 := fun e9 => c23 (Int32.toInt_inj.mp e9)
                      have tc26 : x2.toInt ≠ 7 := fun e9 => c26 (Int32.toInt_inj.mp e9)
                      have tc29 : x2.toInt ≠ 8 := fun e9 => c29 (Int32.toInt_inj.mp e9)
                      refine aw_tsw (t := 116) at_74_7 (am_tsw_d (by omega)) ?_
                      cases hs2
                      exact aw_throw at_74_116 rfl th_74_116 (am_hc am_cats_0 rfl) rfl
  · clear hs1
    exact Or.inr hs2
def fm_74 (N : Nat) (y0 : Value) (y1 : Int32) (y2 : Int32) (h : am_H) : Option am_O := fg_74_0 N y0 y1 y2 h
theorem rm_74 {X : am_X} {d : Nat} {N : Nat} (y0 : Value) (y1 : Int32) (y2 : Int32) (h : am_H) (o : am_O) (i0 : am_isR y0 = true) (hs : fm_74 N y0 y1 y2 h = some o) : am_W X (d + 4) 74 0 (am_args 0 [y0, .int y1, .int y2]) [] h (fun q => q = o) := by
  rw [am_args_R i0, am_args_I, am_args_I]
  exact rg_74_0 y0 y1 y2 h o rfl rfl rfl i0 hs
def fg_73_19 (N : Nat) (h : am_H) : Option am_O := some (.inl (some (.int 2), h))
theorem rg_73_19 {X : am_X} {d : Nat} {N : Nat} {lv : am_LV} (h : am_H) (o : am_O) (hs : fg_73_19 N h = some o) : am_W X (d + 5) 73 19 lv [] h (fun q => q = o) := by
  unfold fg_73_19 at hs
  refine aw_iconst (v := 2) (pc1 := 20) at_73_19 (by decide) rfl ?_
  cases hs
  exact aw_iret at_73_20 (by rw [rt_73]; rfl) rfl
def fg_73_15 (N : Nat) (h : am_H) : Option am_O := some (.inl (some (.int 1), h))
theorem rg_73_15 {X : am_X} {d : Nat} {N : Nat} {lv : am_LV} (h : am_H) (o : am_O) (hs : fg_73_15 N h = some o) : am_W X (d + 5) 73 15 lv [] h (fun q => q = o) := by
  unfold fg_73_15 at hs
  refine aw_iconst (v := 1) (pc1 := 16) at_73_15 (by decide) rfl ?_
  cases hs
  exact aw_iret at_73_16 (by rw [rt_73]; rfl) rfl
def fg_73_0 (N : Nat) (x0 : Value) (x1 : Int32) (x2 : Int32) (x3 : Value) (h : am_H) : Option am_O := (if am_pOk 11 x0 h then (match fm_74 N x0 x1 x2 h with | some (.inl (some (.int v2), h3)) => ((am_pSL x3 0 (Int32.toInt64 v2) h3).bind fun h5 => some (.inl (some (.int 0), h5))) | some (.inr (0, h7)) => (fg_73_19 N h7) | some (.inr (2, h9)) => (fg_73_15 N h9) | _ => none) else none)
theorem rg_73_0 {X : am_X} {d : Nat} {N : Nat} {lv : am_LV} (x0 : Value) (x1 : Int32) (x2 : Int32) (x3 : Value) (h : am_H) (o : am_O) (l0 : lv.lookup 0 = some x0) (l1 : lv.lookup 1 = some (.int x1)) (l2 : lv.lookup 2 = some (.int x2)) (l3 : lv.lookup 3 = some x3) (i0 : am_isR x0 = true) (i3 : am_isR x3 = true) (hs : fg_73_0 N x0 x1 x2 x3 h = some o) : am_W X (d + 5) 73 0 lv [] h (fun q => q = o) := by
  unfold fg_73_0 at hs
  refine aw_vload_n (pc1 := 1) at_73_0 l3 i3 rfl ?_
  refine aw_iconst (v := 0) (pc1 := 2) at_73_1 (by decide) rfl ?_
  refine aw_vload_n (pc1 := 3) at_73_2 l0 i0 rfl ?_
  refine aw_iload_n (pc1 := 4) at_73_3 l1 rfl ?_
  refine aw_iload_n (pc1 := 5) at_73_4 l2 rfl ?_
  obtain ⟨z1, hs1⟩ := am_ift hs
  clear hs
  refine aw_callH (F := fm_74 N x0 x1 x2 h) (na := 3) (kd := 1) (as := [x0, (.int x1), (.int x2)]) at_73_5 (am_k3v kb_74) mn_74 mk_74 rfl rfl (am_ok_v mi_74 (am_hl rfl (am_ccR i0 (am_ccI (am_ccI am_cats_0))) rfl) z1) (am_hc (am_ccI (am_ccR i3 am_cats_0)) rfl) (fun o1 hz9 => rm_74 x0 x1 x2 h o1 i0 hz9) ?_
  split at hs1
  · rename_i v2 h3 f4
    refine Or.inl ⟨_, _, f4, ?_⟩
    show am_W X _ 73 8 _ [(.int v2), (.int 0), x3] h3 _
    refine aw_i2l (v := (Int32.toInt64 v2)) (pc1 := 9) at_73_8 rfl rfl ?_
    obtain ⟨h5, e6, hs2⟩ := am_bind hs1
    clear hs1
    refine aw_pSL (pc1 := 10) at_73_9 e6 rfl ?_
    refine aw_goto at_73_10 ?_
    refine aw_iconst (v := 0) (pc1 := 22) at_73_21 (by decide) rfl ?_
    cases hs2
    exact aw_iret at_73_22 (by rw [rt_73]; rfl) rfl
  · rename_i h7 f8
    refine Or.inr ⟨_, _, 19, 4, f8, rfl, hn_73, hd_73_5_0, ?_⟩
    exact rg_73_19 h7 o   hs1
  · rename_i h9 f10
    refine Or.inr ⟨_, _, 15, 4, f10, rfl, hn_73, hd_73_5_2, ?_⟩
    exact rg_73_15 h9 o   hs1
  · cases hs1
def fm_73 (N : Nat) (y0 : Value) (y1 : Int32) (y2 : Int32) (y3 : Value) (h : am_H) : Option am_O := fg_73_0 N y0 y1 y2 y3 h
theorem rm_73 {X : am_X} {d : Nat} {N : Nat} (y0 : Value) (y1 : Int32) (y2 : Int32) (y3 : Value) (h : am_H) (o : am_O) (i0 : am_isR y0 = true) (i3 : am_isR y3 = true) (hs : fm_73 N y0 y1 y2 y3 h = some o) : am_W X (d + 5) 73 0 (am_args 0 [y0, .int y1, .int y2, y3]) [] h (fun q => q = o) := by
  rw [am_args_R i0, am_args_I, am_args_I, am_args_R i3]
  exact rg_73_0 y0 y1 y2 y3 h o rfl rfl rfl rfl i0 i3 hs
def fg_371_55 (N : Nat) (rec_19 : Value → Int32 → Int32 → Int32 → am_H → Option am_O) : Nat → Value → Int32 → Int32 → Int32 → Int32 → Int32 → am_H → Option am_O
  | 0 => fun _ _ _ _ _ _ _ => none
  | K + 1 => fun x0 x2 x3 x4 x5 x6 h => ((am_vR (am_pG 3088 x0 h)).bind fun v1 => ((am_pA 0 v1 x4 h).bind fun v3 => am_cI false (fm_343 v3 h) (fun v5 h6 => (if v5 ≤ x6 then (rec_19 x0 x2 x3 ((x4 + 1)) h6) else ((am_vR (am_pG 3100 x0 h6)).bind fun v9 => ((am_pS 0 v9 x3 (x5 + 1) h6).bind fun h11 => (fg_371_55 N rec_19 K x0 x2 ((x3 + 1)) x4 x5 ((x6 + 1)) h11)))))))
theorem rg_371_55 {X : am_X} {d : Nat} {N : Nat} {rec_19 : Value → Int32 → Int32 → Int32 → am_H → Option am_O} (q_19 : ∀ (x0 : Value) (x2 : Int32) (x3 : Int32) (x4 : Int32) (h : am_H) (o : am_O), rec_19 x0 x2 x3 x4 h = some o → ∀ lv : am_LV, (lv.lookup 0 = some x0) → (lv.lookup 2 = some (.int x2)) → (lv.lookup 3 = some (.int x3)) → (lv.lookup 4 = some (.int x4)) → (am_isR x0 = true) → am_W X (d + 1) 371 19 lv [] h (fun q => q = o)) : ∀ (K : Nat) (x0 : Value) (x2 : Int32) (x3 : Int32) (x4 : Int32) (x5 : Int32) (x6 : Int32) (h : am_H) (o : am_O), fg_371_55 N rec_19 K x0 x2 x3 x4 x5 x6 h = some o → ∀ lv : am_LV, (lv.lookup 0 = some x0) → (lv.lookup 2 = some (.int x2)) → (lv.lookup 3 = some (.int x3)) → (lv.lookup 4 = some (.int x4)) → (lv.lookup 5 = some (.int x5)) → (lv.lookup 6 = some (.int x6)) → (am_isR x0 = true) → am_W X (d + 1) 371 55 lv [] h (fun q => q = o) := by
  intro K
  induction K with
  | zero => intro x0 x2 x3 x4 x5 x6 h o hs; cases hs
  | succ K ih =>
    intro x0 x2 x3 x4 x5 x6 h o hs lv l0 l2 l3 l4 l5 l6 i0
    unfold fg_371_55 at hs
    refine aw_iload (pc1 := 57) at_371_55 l6 rfl ?_
    refine aw_vload_n (pc1 := 58) at_371_57 l0 i0 rfl ?_
    obtain ⟨v1, e2, hs1⟩ := am_bind hs
    clear hs
    refine aw_pG (pc1 := 61) at_371_58 (am_vR_s e2).1 rfl ?_
    refine aw_iload (pc1 := 63) at_371_61 l4 rfl ?_
    obtain ⟨v3, e4, hs2⟩ := am_bind hs1
    clear hs1
    refine aw_pA (pc1 := 64) at_371_63 (Or.inl ⟨rfl, rfl⟩) e4 rfl ?_
    refine aw_call (F := fm_343 v3 h) (t := false) (na := 1) (kd := 0) (as := [(.int v3)]) at_371_64 (am_k3s kb_343) mn_343 mk_343 rfl rfl (am_ok_s mi_343 (am_hl rfl (am_ccI am_cats_0) rfl)) (am_hc (am_ccI am_cats_0) rfl) (fun hz9 => by cases hz9) (fun o1 hz9 => rm_343 v3 h o1  hz9) ?_
    rcases am_cI_s hs2 with ⟨v5, h6, f7, hs3⟩ | hs3
    · clear hs2
      refine Or.inl ⟨_, _, f7, ?_⟩
      show am_W X _ 371 67 _ [(.int v5), (.int x6)] h6 _
      by_cases c8 : v5 ≤ x6
      · rw [if_pos c8] at hs3
        refine aw_icge_t at_371_67 c8 ?_
        refine aw_iinc (v := (x4 + 1)) (c := 1) (lv1 := am_put1 _ 4 _) (pc1 := 92) at_371_89 l4 (by decide) rfl rfl rfl ?_
        refine aw_goto at_371_92 ?_
        exact q_19 x0 x2 x3 ((x4 + 1)) h6 o hs3 _ (am_lk1 l0 rfl rfl) (am_lk1 l2 rfl rfl) (am_lk1 l3 rfl rfl) am_lk0 i0
      · rw [if_neg c8] at hs3
        refine aw_icge_f (pc1 := 70) at_371_67 c8 rfl ?_
        refine aw_vload_n (pc1 := 71) at_371_70 l0 i0 rfl ?_
        obtain ⟨v9, e10, hs4⟩ := am_bind hs3
        clear hs3
        refine aw_pG (pc1 := 74) at_371_71 (am_vR_s e10).1 rfl ?_
        refine aw_iload_n (pc1 := 75) at_371_74 l3 rfl ?_
        refine aw_iload (pc1 := 77) at_371_75 l5 rfl ?_
        refine aw_iconst (v := 1) (pc1 := 78) at_371_77 (by decide) rfl ?_
        refine aw_iadd (v := (x5 + 1)) (pc1 := 79) at_371_78 rfl rfl ?_
        obtain ⟨h11, e12, hs5⟩ := am_bind hs4
        clear hs4
        refine aw_pS (pc1 := 80) at_371_79 (Or.inl ⟨rfl, rfl⟩) e12 rfl ?_
        refine aw_iinc (v := (x3 + 1)) (c := 1) (lv1 := am_put1 _ 3 _) (pc1 := 83) at_371_80 l3 (by decide) rfl rfl rfl ?_
        refine aw_iinc (v := (x6 + 1)) (c := 1) (lv1 := am_put1 _ 6 _) (pc1 := 86) at_371_83 (am_lk1 l6 rfl rfl) (by decide) rfl rfl rfl ?_
        refine aw_goto at_371_86 ?_
        exact ih x0 x2 ((x3 + 1)) x4 x5 ((x6 + 1)) h11 o hs5 _ (am_lk1 (am_lk1 l0 rfl rfl) rfl rfl) (am_lk1 (am_lk1 l2 rfl rfl) rfl rfl) (am_lk1 am_lk0 rfl rfl) (am_lk1 (am_lk1 l4 rfl rfl) rfl rfl) (am_lk1 (am_lk1 l5 rfl rfl) rfl rfl) am_lk0 i0
    · clear hs2
      exact Or.inr hs3
def fg_371_51 (N : Nat) (rec_19 : Value → Int32 → Int32 → Int32 → am_H → Option am_O) (x0 : Value) (x3 : Int32) (x4 : Int32) (x5 : Int32) (s0 : Int32) (h : am_H) : Option am_O := (fg_371_55 N rec_19 N x0 s0 x3 x4 x5 0 h)
theorem rg_371_51 {X : am_X} {d : Nat} {N : Nat} {rec_19 : Value → Int32 → Int32 → Int32 → am_H → Option am_O} (q_19 : ∀ (x0 : Value) (x2 : Int32) (x3 : Int32) (x4 : Int32) (h : am_H) (o : am_O), rec_19 x0 x2 x3 x4 h = some o → ∀ lv : am_LV, (lv.lookup 0 = some x0) → (lv.lookup 2 = some (.int x2)) → (lv.lookup 3 = some (.int x3)) → (lv.lookup 4 = some (.int x4)) → (am_isR x0 = true) → am_W X (d + 1) 371 19 lv [] h (fun q => q = o)) {lv : am_LV} (x0 : Value) (x3 : Int32) (x4 : Int32) (x5 : Int32) (s0 : Int32) (h : am_H) (o : am_O) (l0 : lv.lookup 0 = some x0) (l3 : lv.lookup 3 = some (.int x3)) (l4 : lv.lookup 4 = some (.int x4)) (l5 : lv.lookup 5 = some (.int x5)) (i0 : am_isR x0 = true) (hs : fg_371_51 N rec_19 x0 x3 x4 x5 s0 h = some o) : am_W X (d + 1) 371 51 lv [(.int s0)] h (fun q => q = o) := by
  unfold fg_371_51 at hs
  refine aw_istore_n (lv1 := am_put1 _ 2 _) (pc1 := 52) at_371_51 rfl rfl ?_
  refine aw_iconst (v := 0) (pc1 := 53) at_371_52 (by decide) rfl ?_
  refine aw_istore (lv1 := am_put1 _ 6 _) (pc1 := 55) at_371_53 rfl rfl ?_
  exact rg_371_55 q_19 N x0 s0 x3 x4 x5 0 h o hs _ (am_lk1 (am_lk1 l0 rfl rfl) rfl rfl) (am_lk1 am_lk0 rfl rfl) (am_lk1 (am_lk1 l3 rfl rfl) rfl rfl) (am_lk1 (am_lk1 l4 rfl rfl) rfl rfl) (am_lk1 (am_lk1 l5 rfl rfl) rfl rfl) am_lk0 i0
def fg_371_19 (N : Nat) : Nat → Value → Int32 → Int32 → Int32 → am_H → Option am_O
  | 0 => fun _ _ _ _ _ => none
  | K + 1 => fun x0 x2 x3 x4 h => ((am_vI (am_pG 3086 x0 h)).bind fun v1 => (if v1 ≤ x4 then some (.inl (some (.int x2), h)) else ((am_vR (am_pG 3100 x0 h)).bind fun v4 => ((am_pA 0 v4 (x3 + (-1)) h).bind fun v6 => (if v6 ≤ x2 then (fg_371_51 N (fg_371_19 N K) x0 ((x3 + (-1))) x4 v6 x2 h) else (fg_371_51 N (fg_371_19 N K) x0 ((x3 + (-1))) x4 v6 v6 h))))))
theorem rg_371_19 {X : am_X} {d : Nat} {N : Nat} : ∀ (K : Nat) (x0 : Value) (x2 : Int32) (x3 : Int32) (x4 : Int32) (h : am_H) (o : am_O), fg_371_19 N K x0 x2 x3 x4 h = some o → ∀ lv : am_LV, (lv.lookup 0 = some x0) → (lv.lookup 2 = some (.int x2)) → (lv.lookup 3 = some (.int x3)) → (lv.lookup 4 = some (.int x4)) → (am_isR x0 = true) → am_W X (d + 1) 371 19 lv [] h (fun q => q = o) := by
  intro K
  induction K with
  | zero => intro x0 x2 x3 x4 h o hs; cases hs
  | succ K ih =>
    intro x0 x2 x3 x4 h o hs lv l0 l2 l3 l4 i0
    unfold fg_371_19 at hs
    refine aw_iload (pc1 := 21) at_371_19 l4 rfl ?_
    refine aw_vload_n (pc1 := 22) at_371_21 l0 i0 rfl ?_
    obtain ⟨v1, e2, hs1⟩ := am_bind hs
    clear hs
    refine aw_pG (pc1 := 25) at_371_22 (am_vI_s e2) rfl ?_
    by_cases c3 : v1 ≤ x4
    · rw [if_pos c3] at hs1
      refine aw_icge_t at_371_25 c3 ?_
      refine aw_iload_n (pc1 := 96) at_371_95 l2 rfl ?_
      cases hs1
      exact aw_iret at_371_96 (by rw [rt_371]; rfl) rfl
    · rw [if_neg c3] at hs1
      refine aw_icge_f (pc1 := 28) at_371_25 c3 rfl ?_
      refine aw_iinc (v := (x3 + (-1))) (c := (-1)) (lv1 := am_put1 _ 3 _) (pc1 := 31) at_371_28 l3 (by decide) rfl rfl rfl ?_
      refine aw_vload_n (pc1 := 32) at_371_31 (am_lk1 l0 rfl rfl) i0 rfl ?_
      obtain ⟨v4, e5, hs2⟩ := am_bind hs1
      clear hs1
      refine aw_pG (pc1 := 35) at_371_32 (am_vR_s e5).1 rfl ?_
      refine aw_iload_n (pc1 := 36) at_371_35 am_lk0 rfl ?_
      obtain ⟨v6, e7, hs3⟩ := am_bind hs2
      clear hs2
      refine aw_pA (pc1 := 37) at_371_36 (Or.inl ⟨rfl, rfl⟩) e7 rfl ?_
      refine aw_istore (lv1 := am_put1 _ 5 _) (pc1 := 39) at_371_37 rfl rfl ?_
      refine aw_iload (pc1 := 41) at_371_39 am_lk0 rfl ?_
      refine aw_iload_n (pc1 := 42) at_371_41 (am_lk1 (am_lk1 l2 rfl rfl) rfl rfl) rfl ?_
      by_cases c8 : v6 ≤ x2
      · rw [if_pos c8] at hs3
        refine aw_icle_t at_371_42 c8 ?_
        refine aw_iload_n (pc1 := 51) at_371_50 (am_lk1 (am_lk1 l2 rfl rfl) rfl rfl) rfl ?_
        exact rg_371_51 (fun z0 z1 z2 z3 h o hs3 => ih z0 z1 z2 z3 h o hs3) x0 ((x3 + (-1))) x4 v6 x2 h o (am_lk1 (am_lk1 l0 rfl rfl) rfl rfl) (am_lk1 am_lk0 rfl rfl) (am_lk1 (am_lk1 l4 rfl rfl) rfl rfl) am_lk0 i0 hs3
      · rw [if_neg c8] at hs3
        refine aw_icle_f (pc1 := 45) at_371_42 c8 rfl ?_
        refine aw_iload (pc1 := 47) at_371_45 am_lk0 rfl ?_
        refine aw_goto at_371_47 ?_
        exact rg_371_51 (fun z0 z1 z2 z3 h o hs3 => ih z0 z1 z2 z3 h o hs3) x0 ((x3 + (-1))) x4 v6 v6 h o (am_lk1 (am_lk1 l0 rfl rfl) rfl rfl) (am_lk1 am_lk0 rfl rfl) (am_lk1 (am_lk1 l4 rfl rfl) rfl rfl) am_lk0 i0 hs3
def fg_371_0 (N : Nat) (x0 : Value) (x1 : Int32) (h : am_H) : Option am_O := (if am_pOk 12 x0 h then am_cV true (fm_359 N x0 x1 h) (fun h3 => ((am_vR (am_pG 3100 x0 h3)).bind fun v5 => ((am_pS 0 v5 0 1 h3).bind fun h7 => (fg_371_19 N N x0 0 1 0 h7)))) else none)
theorem rg_371_0 {X : am_X} {d : Nat} {N : Nat} {lv : am_LV} (x0 : Value) (x1 : Int32) (h : am_H) (o : am_O) (l0 : lv.lookup 0 = some x0) (l1 : lv.lookup 1 = some (.int x1)) (i0 : am_isR x0 = true) (hs : fg_371_0 N x0 x1 h = some o) : am_W X (d + 1) 371 0 lv [] h (fun q => q = o) := by
  unfold fg_371_0 at hs
  refine aw_vload_n (pc1 := 1) at_371_0 l0 i0 rfl ?_
  refine aw_iload_n (pc1 := 2) at_371_1 l1 rfl ?_
  obtain ⟨z1, hs1⟩ := am_ift hs
  clear hs
  refine aw_call (F := fm_359 N x0 x1 h) (t := true) (na := 2) (kd := 1) (as := [x0, (.int x1)]) at_371_2 (am_k3v kb_359) mn_359 mk_359 rfl rfl (am_ok_v mi_359 (am_hl rfl (am_ccR i0 (am_ccI am_cats_0)) rfl) z1) (am_hc am_cats_0 rfl) (fun _ => ⟨rfl, hh_371⟩) (fun o1 hz9 => rm_359 x0 x1 h o1 i0 hz9) ?_
  rcases am_cV_s hs1 with ⟨h3, f4, hs2⟩ | hs2
  · clear hs1
    refine Or.inl ⟨_, _, f4, ?_⟩
    show am_W X _ 371 5 _ [] h3 _
    refine aw_iconst (v := 0) (pc1 := 6) at_371_5 (by decide) rfl ?_
    refine aw_istore_n (lv1 := am_put1 _ 2 _) (pc1 := 7) at_371_6 rfl rfl ?_
    refine aw_iconst (v := 1) (pc1 := 8) at_371_7 (by decide) rfl ?_
    refine aw_istore_n (lv1 := am_put1 _ 3 _) (pc1 := 9) at_371_8 rfl rfl ?_
    refine aw_vload_n (pc1 := 10) at_371_9 (am_lk1 (am_lk1 l0 rfl rfl) rfl rfl) i0 rfl ?_
    obtain ⟨v5, e6, hs3⟩ := am_bind hs2
    clear hs2
    refine aw_pG (pc1 := 13) at_371_10 (am_vR_s e6).1 rfl ?_
    refine aw_iconst (v := 0) (pc1 := 14) at_371_13 (by decide) rfl ?_
    refine aw_iconst (v := 1) (pc1 := 15) at_371_14 (by decide) rfl ?_
    obtain ⟨h7, e8, hs4⟩ := am_bind hs3
    clear hs3
    refine aw_pS (pc1 := 16) at_371_15 (Or.inl ⟨rfl, rfl⟩) e8 rfl ?_
    refine aw_iconst (v := 0) (pc1 := 17) at_371_16 (by decide) rfl ?_
    refine aw_istore (lv1 := am_put1 _ 4 _) (pc1 := 19) at_371_17 rfl rfl ?_
    exact rg_371_19 N x0 0 1 0 h7 o hs4 _ (am_lk1 (am_lk1 (am_lk1 l0 rfl rfl) rfl rfl) rfl rfl) (am_lk1 (am_lk1 am_lk0 rfl rfl) rfl rfl) (am_lk1 am_lk0 rfl rfl) am_lk0 i0
  · clear hs1
    exact Or.inr hs2
def fm_371 (N : Nat) (y0 : Value) (y1 : Int32) (h : am_H) : Option am_O := fg_371_0 N y0 y1 h
theorem rm_371 {X : am_X} {d : Nat} {N : Nat} (y0 : Value) (y1 : Int32) (h : am_H) (o : am_O) (i0 : am_isR y0 = true) (hs : fm_371 N y0 y1 h = some o) : am_W X (d + 1) 371 0 (am_args 0 [y0, .int y1]) [] h (fun q => q = o) := by
  rw [am_args_R i0, am_args_I]
  exact rg_371_0 y0 y1 h o rfl rfl i0 hs
def fg_370_162 (N : Nat) (s0 : Int32) (h : am_H) : Option am_O := some (.inl (some (.int s0), h))
theorem rg_370_162 {X : am_X} {d : Nat} {N : Nat} {lv : am_LV} (s0 : Int32) (h : am_H) (o : am_O) (hs : fg_370_162 N s0 h = some o) : am_W X (d + 2) 370 162 lv [(.int s0)] h (fun q => q = o) := by
  unfold fg_370_162 at hs
  cases hs
  exact aw_iret at_370_162 (by rw [rt_370]; rfl) rfl
def fg_370_30 (N : Nat) (x0 : Value) (x1 : Int32) (x2 : Int32) (s0 : Value) (s1 : Int32) (h : am_H) : Option am_O := ((am_pP 3072 s0 (.int s1) h).bind fun h1 => ((am_vI (am_pG 3072 x0 h1)).bind fun v3 => (if v3 ≤ 0 then (if x2 = 0 then ((am_vR (am_pG 3074 x0 h1)).bind fun v7 => ((am_pA 0 v7 x1 h1).bind fun v9 => some (.inl (some (.int v9), h1)))) else (if x2 = 1 then ((am_vR (am_pG 3075 x0 h1)).bind fun v12 => ((am_pA 0 v12 x1 h1).bind fun v14 => some (.inl (some (.int v14), h1)))) else (if x2 = 2 then ((am_vR (am_pG 3077 x0 h1)).bind fun v17 => ((am_pA 0 v17 x1 h1).bind fun v19 => some (.inl (some (.int v19), h1)))) else (if x2 = 3 then ((am_vR (am_pG 3078 x0 h1)).bind fun v22 => ((am_pA 0 v22 x1 h1).bind fun v24 => some (.inl (some (.int v24), h1)))) else (if x2 = 4 then ((am_vR (am_pG 3079 x0 h1)).bind fun v27 => ((am_pA 0 v27 x1 h1).bind fun v29 => some (.inl (some (.int v29), h1)))) else (if x2 = 5 then ((am_vR (am_pG 3080 x0 h1)).bind fun v32 => ((am_pA 0 v32 x1 h1).bind fun v34 => some (.inl (some (.int v34), h1)))) else (if x2 = 6 then ((am_vR (am_pG 3081 x0 h1)).bind fun v37 => ((am_pA 0 v37 x1 h1).bind fun v39 => some (.inl (some (.int v39), h1)))) else (if x2 = 7 then ((am_vR (am_pG 3076 x0 h1)).bind fun v42 => ((am_pA 0 v42 x1 h1).bind fun v44 => some (.inl (some (.int v44), h1)))) else ((am_vR (am_pG 3074 x0 h1)).bind fun v46 => ((am_pA 0 v46 x1 h1).bind fun v48 => (if ¬ v48 = 0 then (fg_370_162 N 0 h1) else (if am_pOk 12 x0 h1 then am_cI true (fm_371 N x0 x1 h1) (fun v52 h53 => (fg_370_162 N v52 h53)) else none)))))))))))) else some (.inl (some (.int 0), h1)))))
theorem rg_370_30 {X : am_X} {d : Nat} {N : Nat} {lv : am_LV} (x0 : Value) (x1 : Int32) (x2 : Int32) (s0 : Value) (s1 : Int32) (h : am_H) (o : am_O) (l0 : lv.lookup 0 = some x0) (l1 : lv.lookup 1 = some (.int x1)) (l2 : lv.lookup 2 = some (.int x2)) (i0 : am_isR x0 = true) (j0 : am_isR s0 = true) (hs : fg_370_30 N x0 x1 x2 s0 s1 h = some o) : am_W X (d + 2) 370 30 lv [(.int s1), s0] h (fun q => q = o) := by
  unfold fg_370_30 at hs
  obtain ⟨h1, e2, hs1⟩ := am_bind hs
  clear hs
  refine aw_pP (pc1 := 33) at_370_30 e2 rfl ?_
  refine aw_vload_n (pc1 := 34) at_370_33 l0 i0 rfl ?_
  obtain ⟨v3, e4, hs2⟩ := am_bind hs1
  clear hs1
  refine aw_pG (pc1 := 37) at_370_34 (am_vI_s e4) rfl ?_
  by_cases c5 : v3 ≤ 0
  · rw [if_pos c5] at hs2
    refine aw_ifle_t at_370_37 c5 ?_
    refine aw_iload_n (pc1 := 43) at_370_42 l2 rfl ?_
    by_cases c6 : x2 = 0
    · rw [if_pos c6] at hs2
      refine aw_tsw (t := 88) at_370_43 (by rw [c6]; rfl) ?_
      refine aw_vload_n (pc1 := 89) at_370_88 l0 i0 rfl ?_
      obtain ⟨v7, e8, hs3⟩ := am_bind hs2
      clear hs2
      refine aw_pG (pc1 := 92) at_370_89 (am_vR_s e8).1 rfl ?_
      refine aw_iload_n (pc1 := 93) at_370_92 l1 rfl ?_
      obtain ⟨v9, e10, hs4⟩ := am_bind hs3
      clear hs3
      refine aw_pA (pc1 := 94) at_370_93 (Or.inl ⟨rfl, rfl⟩) e10 rfl ?_
      cases hs4
      exact aw_iret at_370_94 (by rw [rt_370]; rfl) rfl
    · rw [if_neg c6] at hs2
      by_cases c11 : x2 = 1
      · rw [if_pos c11] at hs2
        refine aw_tsw (t := 95) at_370_43 (by rw [c11]; rfl) ?_
        refine aw_vload_n (pc1 := 96) at_370_95 l0 i0 rfl ?_
        obtain ⟨v12, e13, hs5⟩ := am_bind hs2
        clear hs2
        refine aw_pG (pc1 := 99) at_370_96 (am_vR_s e13).1 rfl ?_
        refine aw_iload_n (pc1 := 100) at_370_99 l1 rfl ?_
        obtain ⟨v14, e15, hs6⟩ := am_bind hs5
        clear hs5
        refine aw_pA (pc1 := 101) at_370_100 (Or.inl ⟨rfl, rfl⟩) e15 rfl ?_
        cases hs6
        exact aw_iret at_370_101 (by rw [rt_370]; rfl) rfl
      · rw [if_neg c11] at hs2
        by_cases c16 : x2 = 2
        · rw [if_pos c16] at hs2
          refine aw_tsw (t := 102) at_370_43 (by rw [c16]; rfl) ?_
          refine aw_vload_n (pc1 := 103) at_370_102 l0 i0 rfl ?_
          obtain ⟨v17, e18, hs7⟩ := am_bind hs2
          clear hs2
          refine aw_pG (pc1 := 106) at_370_103 (am_vR_s e18).1 rfl ?_
          refine aw_iload_n (pc1 := 107) at_370_106 l1 rfl ?_
          obtain ⟨v19, e20, hs8⟩ := am_bind hs7
          clear hs7
          refine aw_pA (pc1 := 108) at_370_107 (Or.inl ⟨rfl, rfl⟩) e20 rfl ?_
          cases hs8
          exact aw_iret at_370_108 (by rw [rt_370]; rfl) rfl
        · rw [if_neg c16] at hs2
          by_cases c21 : x2 = 3
          · rw [if_pos c21] at hs2
            refine aw_tsw (t := 109) at_370_43 (by rw [c21]; rfl) ?_
            refine aw_vload_n (pc1 := 110) at_370_109 l0 i0 rfl ?_
            obtain ⟨v22, e23, hs9⟩ := am_bind hs2
            clear hs2
            refine aw_pG (pc1 := 113) at_370_110 (am_vR_s e23).1 rfl ?_
            refine aw_iload_n (pc1 := 114) at_370_113 l1 rfl ?_
            obtain ⟨v24, e25, hs10⟩ := am_bind hs9
            clear hs9
            refine aw_pA (pc1 := 115) at_370_114 (Or.inl ⟨rfl, rfl⟩) e25 rfl ?_
            cases hs10
            exact aw_iret at_370_115 (by rw [rt_370]; rfl) rfl
          · rw [if_neg c21] at hs2
            by_cases c26 : x2 = 4
            · rw [if_pos c26] at hs2
              refine aw_tsw (t := 116) at_370_43 (by rw [c26]; rfl) ?_
              refine aw_vload_n (pc1 := 117) at_370_116 l0 i0 rfl ?_
              obtain ⟨v27, e28, hs11⟩ := am_bind hs2
              clear hs2
              refine aw_pG (pc1 := 120) at_370_117 (am_vR_s e28).1 rfl ?_
              refine aw_iload_n (pc1 := 121) at_370_120 l1 rfl ?_
              obtain ⟨v29, e30, hs12⟩ := am_bind hs11
              clear hs11
              refine aw_pA (pc1 := 122) at_370_121 (Or.inl ⟨rfl, rfl⟩) e30 rfl ?_
              cases hs12
              exact aw_iret at_370_122 (by rw [rt_370]; rfl) rfl
            · rw [if_neg c26] at hs2
              by_cases c31 : x2 = 5
              · rw [if_pos c31] at hs2
                refine aw_tsw (t := 123) at_370_43 (by rw [c31]; rfl) ?_
                refine aw_vload_n (pc1 := 124) at_370_123 l0 i0 rfl ?_
                obtain ⟨v32, e33, hs13⟩ := am_bind hs2
                clear hs2
                refine aw_pG (pc1 := 127) at_370_124 (am_vR_s e33).1 rfl ?_
                refine aw_iload_n (pc1 := 128) at_370_127 l1 rfl ?_
                obtain ⟨v34, e35, hs14⟩ := am_bind hs13
                clear hs13
                refine aw_pA (pc1 := 129) at_370_128 (Or.inl ⟨rfl, rfl⟩) e35 rfl ?_
                cases hs14
                exact aw_iret at_370_129 (by rw [rt_370]; rfl) rfl
              · rw [if_neg c31] at hs2
                by_cases c36 : x2 = 6
                · rw [if_pos c36] at hs2
                  refine aw_tsw (t := 130) at_370_43 (by rw [c36]; rfl) ?_
                  refine aw_vload_n (pc1 := 131) at_370_130 l0 i0 rfl ?_
                  obtain ⟨v37, e38, hs15⟩ := am_bind hs2
                  clear hs2
                  refine aw_pG (pc1 := 134) at_370_131 (am_vR_s e38).1 rfl ?_
                  refine aw_iload_n (pc1 := 135) at_370_134 l1 rfl ?_
                  obtain ⟨v39, e40, hs16⟩ := am_bind hs15
                  clear hs15
                  refine aw_pA (pc1 := 136) at_370_135 (Or.inl ⟨rfl, rfl⟩) e40 rfl ?_
                  cases hs16
                  exact aw_iret at_370_136 (by rw [rt_370]; rfl) rfl
                · rw [if_neg c36] at hs2
                  by_cases c41 : x2 = 7
                  · rw [if_pos c41] at hs2
                    refine aw_tsw (t := 137) at_370_43 (by rw [c41]; rfl) ?_
                    refine aw_vload_n (pc1 := 138) at_370_137 l0 i0 rfl ?_
                    obtain ⟨v42, e43, hs17⟩ := am_bind hs2
                    clear hs2
                    refine aw_pG (pc1 := 141) at_370_138 (am_vR_s e43).1 rfl ?_
                    refine aw_iload_n (pc1 := 142) at_370_141 l1 rfl ?_
                    obtain ⟨v44, e45, hs18⟩ := am_bind hs17
                    clear hs17
                    refine aw_pA (pc1 := 143) at_370_142 (Or.inl ⟨rfl, rfl⟩) e45 rfl ?_
                    cases hs18
                    exact aw_iret at_370_143 (by rw [rt_370]; rfl) rfl
                  · rw [if_neg c41] at hs2
                    have tc6 : x2.toInt ≠ 0 := fun e9 => c6 (Int32.toInt_inj.mp e9)
                    have tc11 : x2.toInt ≠ 1 := fun e9 => c11 (Int32.toInt_inj.mp e9)
                    have tc16 : x2.toInt ≠ 2 := fun e9 => c16 (Int32.toInt_inj.mp e9)
                    have tc21 : x2.toInt ≠ 3 := fun e9 => c21 (Int32.toInt_inj.mp e9)
                    have tc26 : x2.toInt ≠ 4 := fun e9 => c26 (Int32.toInt_inj.mp e9)
                    have tc31 : x2.toInt ≠ 5 := fun e9 => c31 (Int32.toInt_inj.mp e9)
                    have tc36 : x2.toInt ≠ 6 := fun e9 => c36 (Int32.toInt_inj.mp e9)
                    have tc41 : x2.toInt ≠ 7 := fun e9 => c41 (Int32.toInt_inj.mp e9)
                    refine aw_tsw (t := 144) at_370_43 (am_tsw_d (by omega)) ?_
                    refine aw_vload_n (pc1 := 145) at_370_144 l0 i0 rfl ?_
                    obtain ⟨v46, e47, hs19⟩ := am_bind hs2
                    clear hs2
                    refine aw_pG (pc1 := 148) at_370_145 (am_vR_s e47).1 rfl ?_
                    refine aw_iload_n (pc1 := 149) at_370_148 l1 rfl ?_
                    obtain ⟨v48, e49, hs20⟩ := am_bind hs19
                    clear hs19
                    refine aw_pA (pc1 := 150) at_370_149 (Or.inl ⟨rfl, rfl⟩) e49 rfl ?_
                    by_cases c50 : ¬ v48 = 0
                    · rw [if_pos c50] at hs20
                      refine aw_ifne_t at_370_150 c50 ?_
                      refine aw_iconst (v := 0) (pc1 := 162) at_370_161 (by decide) rfl ?_
                      exact rg_370_162 0 h1 o   hs20
                    · rw [if_neg c50] at hs20
                      refine aw_ifne_f (pc1 := 153) at_370_150 c50 rfl ?_
                      refine aw_vload_n (pc1 := 154) at_370_153 l0 i0 rfl ?_
                      refine aw_iload_n (pc1 := 155) at_370_154 l1 rfl ?_
                      obtain ⟨z51, hs21⟩ := am_ift hs20
                      clear hs20
                      refine aw_call (F := fm_371 N x0 x1 h1) (t := true) (na := 2) (kd := 1) (as := [x0, (.int x1)]) at_370_155 (am_k3v kb_371) mn_371 mk_371 rfl rfl (am_ok_v mi_371 (am_hl rfl (am_ccR i0 (am_ccI am_cats_0)) rfl) z51) (am_hc am_cats_0 rfl) (fun _ => ⟨rfl, hh_370⟩) (fun o1 hz9 => rm_371 x0 x1 h1 o1 i0 hz9) ?_
                      rcases am_cI_s hs21 with ⟨v52, h53, f54, hs22⟩ | hs22
                      · clear hs21
                        refine Or.inl ⟨_, _, f54, ?_⟩
                        show am_W X _ 370 158 _ [(.int v52)] h53 _
                        refine aw_goto at_370_158 ?_
                        exact rg_370_162 v52 h53 o   hs22
                      · clear hs21
                        exact Or.inr hs22
  · rw [if_neg c5] at hs2
    refine aw_ifle_f (pc1 := 40) at_370_37 c5 rfl ?_
    refine aw_iconst (v := 0) (pc1 := 41) at_370_40 (by decide) rfl ?_
    cases hs2
    exact aw_iret at_370_41 (by rw [rt_370]; rfl) rfl
def fg_370_0 (N : Nat) (x0 : Value) (x1 : Int32) (x2 : Int32) (h : am_H) : Option am_O := (if am_pOk 12 x0 h then am_cI true (fm_358 x0 x1 h) (fun v2 h3 => (if ¬ v2 = 0 then am_cI false (fm_327 ((Int32.toInt64 x2)) 0 8 h3) (fun v6 h7 => (if ¬ v6 = 0 then (fg_370_30 N x0 x1 x2 x0 0 h7) else (fg_370_30 N x0 x1 x2 x0 2 h7))) else (fg_370_30 N x0 x1 x2 x0 1 h3))) else none)
theorem rg_370_0 {X : am_X} {d : Nat} {N : Nat} {lv : am_LV} (x0 : Value) (x1 : Int32) (x2 : Int32) (h : am_H) (o : am_O) (l0 : lv.lookup 0 = some x0) (l1 : lv.lookup 1 = some (.int x1)) (l2 : lv.lookup 2 = some (.int x2)) (i0 : am_isR x0 = true) (hs : fg_370_0 N x0 x1 x2 h = some o) : am_W X (d + 2) 370 0 lv [] h (fun q => q = o) := by
  unfold fg_370_0 at hs
  refine aw_vload_n (pc1 := 1) at_370_0 l0 i0 rfl ?_
  refine aw_vload_n (pc1 := 2) at_370_1 l0 i0 rfl ?_
  refine aw_iload_n (pc1 := 3) at_370_2 l1 rfl ?_
  obtain ⟨z1, hs1⟩ := am_ift hs
  clear hs
  refine aw_call (F := fm_358 x0 x1 h) (t := true) (na := 2) (kd := 1) (as := [x0, (.int x1)]) at_370_3 (am_k3v kb_358) mn_358 mk_358 rfl rfl (am_ok_v mi_358 (am_hl rfl (am_ccR i0 (am_ccI am_cats_0)) rfl) z1) (am_hc (am_ccR i0 am_cats_0) rfl) (fun _ => ⟨rfl, hh_370⟩) (fun o1 hz9 => rm_358 x0 x1 h o1 i0 hz9) ?_
  rcases am_cI_s hs1 with ⟨v2, h3, f4, hs2⟩ | hs2
  · clear hs1
    refine Or.inl ⟨_, _, f4, ?_⟩
    show am_W X _ 370 6 _ [(.int v2), x0] h3 _
    by_cases c5 : ¬ v2 = 0
    · rw [if_pos c5] at hs2
      refine aw_ifne_t at_370_6 c5 ?_
      refine aw_iload_n (pc1 := 14) at_370_13 l2 rfl ?_
      refine aw_i2l (v := (Int32.toInt64 x2)) (pc1 := 15) at_370_14 rfl rfl ?_
      refine aw_lconst (v := 0) (pc1 := 16) at_370_15 (by decide) rfl ?_
      refine aw_ldc2 (v := 8) (pc1 := 19) at_370_16 rfl rfl ?_
      refine aw_call (F := fm_327 ((Int32.toInt64 x2)) 0 8 h3) (t := false) (na := 3) (kd := 0) (as := [(.long (Int32.toInt64 x2)), (.long 0), (.long 8)]) at_370_19 (am_k3s kb_327) mn_327 mk_327 rfl rfl (am_ok_s mi_327 (am_hl rfl (am_ccL (am_ccL (am_ccL am_cats_0))) rfl)) (am_hc (am_ccR i0 am_cats_0) rfl) (fun hz9 => by cases hz9) (fun o1 hz9 => rm_327 ((Int32.toInt64 x2)) 0 8 h3 o1  hz9) ?_
      rcases am_cI_s hs2 with ⟨v6, h7, f8, hs3⟩ | hs3
      · clear hs2
        refine Or.inl ⟨_, _, f8, ?_⟩
        show am_W X _ 370 22 _ [(.int v6), x0] h7 _
        by_cases c9 : ¬ v6 = 0
        · rw [if_pos c9] at hs3
          refine aw_ifne_t at_370_22 c9 ?_
          refine aw_iconst (v := 0) (pc1 := 30) at_370_29 (by decide) rfl ?_
          exact rg_370_30 x0 x1 x2 x0 0 h7 o l0 l1 l2 i0 i0 hs3
        · rw [if_neg c9] at hs3
          refine aw_ifne_f (pc1 := 25) at_370_22 c9 rfl ?_
          refine aw_iconst (v := 2) (pc1 := 26) at_370_25 (by decide) rfl ?_
          refine aw_goto at_370_26 ?_
          exact rg_370_30 x0 x1 x2 x0 2 h7 o l0 l1 l2 i0 i0 hs3
      · clear hs2
        exact Or.inr hs3
    · rw [if_neg c5] at hs2
      refine aw_ifne_f (pc1 := 9) at_370_6 c5 rfl ?_
      refine aw_iconst (v := 1) (pc1 := 10) at_370_9 (by decide) rfl ?_
      refine aw_goto at_370_10 ?_
      exact rg_370_30 x0 x1 x2 x0 1 h3 o l0 l1 l2 i0 i0 hs2
  · clear hs1
    exact Or.inr hs2
def fm_370 (N : Nat) (y0 : Value) (y1 : Int32) (y2 : Int32) (h : am_H) : Option am_O := fg_370_0 N y0 y1 y2 h
theorem rm_370 {X : am_X} {d : Nat} {N : Nat} (y0 : Value) (y1 : Int32) (y2 : Int32) (h : am_H) (o : am_O) (i0 : am_isR y0 = true) (hs : fm_370 N y0 y1 y2 h = some o) : am_W X (d + 2) 370 0 (am_args 0 [y0, .int y1, .int y2]) [] h (fun q => q = o) := by
  rw [am_args_R i0, am_args_I, am_args_I]
  exact rg_370_0 y0 y1 y2 h o rfl rfl rfl i0 hs
def fg_81_0 (x0 : Value) (x1 : Int32) (h : am_H) : Option am_O := (if am_pOk 11 x0 h then am_cR true (fm_63 x0 x1 h) (fun v2 h3 => ((am_vL (am_pG 778 v2 h3)).bind fun v5 => some (.inl (some (.long v5), h3)))) else none)
theorem rg_81_0 {X : am_X} {d : Nat} {lv : am_LV} (x0 : Value) (x1 : Int32) (h : am_H) (o : am_O) (l0 : lv.lookup 0 = some x0) (l1 : lv.lookup 1 = some (.int x1)) (i0 : am_isR x0 = true) (hs : fg_81_0 x0 x1 h = some o) : am_W X (d + 1) 81 0 lv [] h (fun q => q = o) := by
  unfold fg_81_0 at hs
  refine aw_vload_n (pc1 := 1) at_81_0 l0 i0 rfl ?_
  refine aw_iload_n (pc1 := 2) at_81_1 l1 rfl ?_
  obtain ⟨z1, hs1⟩ := am_ift hs
  clear hs
  refine aw_call (F := fm_63 x0 x1 h) (t := true) (na := 2) (kd := 1) (as := [x0, (.int x1)]) at_81_2 (am_k3v kb_63) mn_63 mk_63 rfl rfl (am_ok_v mi_63 (am_hl rfl (am_ccR i0 (am_ccI am_cats_0)) rfl) z1) (am_hc am_cats_0 rfl) (fun _ => ⟨rfl, hh_81⟩) (fun o1 hz9 => rm_63 x0 x1 h o1 i0 hz9) ?_
  rcases am_cR_s hs1 with ⟨v2, h3, f4, iv2, hs2⟩ | hs2
  · clear hs1
    refine Or.inl ⟨_, _, f4, ?_⟩
    show am_W X _ 81 5 _ [v2] h3 _
    obtain ⟨v5, e6, hs3⟩ := am_bind hs2
    clear hs2
    refine aw_pG (pc1 := 8) at_81_5 (am_vL_s e6) rfl ?_
    cases hs3
    exact aw_lret at_81_8 rt_81 rfl
  · clear hs1
    exact Or.inr hs2
def fm_81 (y0 : Value) (y1 : Int32) (h : am_H) : Option am_O := fg_81_0 y0 y1 h
theorem rm_81 {X : am_X} {d : Nat} (y0 : Value) (y1 : Int32) (h : am_H) (o : am_O) (i0 : am_isR y0 = true) (hs : fm_81 y0 y1 h = some o) : am_W X (d + 1) 81 0 (am_args 0 [y0, .int y1]) [] h (fun q => q = o) := by
  rw [am_args_R i0, am_args_I]
  exact rg_81_0 y0 y1 h o rfl rfl i0 hs
def fg_80_12 (h : am_H) : Option am_O := some (.inl (some (.int 1), h))
theorem rg_80_12 {X : am_X} {d : Nat} {lv : am_LV} (h : am_H) (o : am_O) (hs : fg_80_12 h = some o) : am_W X (d + 2) 80 12 lv [] h (fun q => q = o) := by
  unfold fg_80_12 at hs
  refine aw_iconst (v := 1) (pc1 := 13) at_80_12 (by decide) rfl ?_
  cases hs
  exact aw_iret at_80_13 (by rw [rt_80]; rfl) rfl
def fg_80_0 (x0 : Value) (x1 : Int32) (x2 : Value) (h : am_H) : Option am_O := (if am_pOk 11 x0 h then (match fm_81 x0 x1 h with | some (.inl (some (.long v2), h3)) => ((am_pSL x2 0 v2 h3).bind fun h5 => some (.inl (some (.int 0), h5))) | some (.inr (2, h7)) => (fg_80_12 h7) | _ => none) else none)
theorem rg_80_0 {X : am_X} {d : Nat} {lv : am_LV} (x0 : Value) (x1 : Int32) (x2 : Value) (h : am_H) (o : am_O) (l0 : lv.lookup 0 = some x0) (l1 : lv.lookup 1 = some (.int x1)) (l2 : lv.lookup 2 = some x2) (i0 : am_isR x0 = true) (i2 : am_isR x2 = true) (hs : fg_80_0 x0 x1 x2 h = some o) : am_W X (d + 2) 80 0 lv [] h (fun q => q = o) := by
  unfold fg_80_0 at hs
  refine aw_vload_n (pc1 := 1) at_80_0 l2 i2 rfl ?_
  refine aw_iconst (v := 0) (pc1 := 2) at_80_1 (by decide) rfl ?_
  refine aw_vload_n (pc1 := 3) at_80_2 l0 i0 rfl ?_
  refine aw_iload_n (pc1 := 4) at_80_3 l1 rfl ?_
  obtain ⟨z1, hs1⟩ := am_ift hs
  clear hs
  refine aw_callH (F := fm_81 x0 x1 h) (na := 2) (kd := 1) (as := [x0, (.int x1)]) at_80_4 (am_k3v kb_81) mn_81 mk_81 rfl rfl (am_ok_v mi_81 (am_hl rfl (am_ccR i0 (am_ccI am_cats_0)) rfl) z1) (am_hc (am_ccI (am_ccR i2 am_cats_0)) rfl) (fun o1 hz9 => rm_81 x0 x1 h o1 i0 hz9) ?_
  split at hs1
  · rename_i v2 h3 f4
    refine Or.inl ⟨_, _, f4, ?_⟩
    show am_W X _ 80 7 _ [(.long v2), (.int 0), x2] h3 _
    obtain ⟨h5, e6, hs2⟩ := am_bind hs1
    clear hs1
    refine aw_pSL (pc1 := 8) at_80_7 e6 rfl ?_
    refine aw_goto at_80_8 ?_
    refine aw_iconst (v := 0) (pc1 := 15) at_80_14 (by decide) rfl ?_
    cases hs2
    exact aw_iret at_80_15 (by rw [rt_80]; rfl) rfl
  · rename_i h7 f8
    refine Or.inr ⟨_, _, 12, 3, f8, rfl, hn_80, hd_80_4_2, ?_⟩
    exact rg_80_12 h7 o   hs1
  · cases hs1
def fm_80 (y0 : Value) (y1 : Int32) (y2 : Value) (h : am_H) : Option am_O := fg_80_0 y0 y1 y2 h
theorem rm_80 {X : am_X} {d : Nat} (y0 : Value) (y1 : Int32) (y2 : Value) (h : am_H) (o : am_O) (i0 : am_isR y0 = true) (i2 : am_isR y2 = true) (hs : fm_80 y0 y1 y2 h = some o) : am_W X (d + 2) 80 0 (am_args 0 [y0, .int y1, y2]) [] h (fun q => q = o) := by
  rw [am_args_R i0, am_args_I, am_args_R i2]
  exact rg_80_0 y0 y1 y2 h o rfl rfl rfl i0 i2 hs
def fg_372_34 (s0 : Int64) (h : am_H) : Option am_O := some (.inl (some (.long s0), h))
theorem rg_372_34 {X : am_X} {d : Nat} {lv : am_LV} (s0 : Int64) (h : am_H) (o : am_O) (hs : fg_372_34 s0 h = some o) : am_W X (d + 2) 372 34 lv [(.long s0)] h (fun q => q = o) := by
  unfold fg_372_34 at hs
  cases hs
  exact aw_lret at_372_34 rt_372 rfl
def fg_372_14 (x0 : Value) (x1 : Int32) (s0 : Value) (s1 : Int32) (h : am_H) : Option am_O := ((am_pP 3072 s0 (.int s1) h).bind fun h1 => ((am_vI (am_pG 3072 x0 h1)).bind fun v3 => (if v3 ≤ 0 then ((am_vR (am_pG 3082 x0 h1)).bind fun v6 => ((am_pAL v6 x1 h1).bind fun v8 => (fg_372_34 v8 h1))) else (fg_372_34 0 h1))))
theorem rg_372_14 {X : am_X} {d : Nat} {lv : am_LV} (x0 : Value) (x1 : Int32) (s0 : Value) (s1 : Int32) (h : am_H) (o : am_O) (l0 : lv.lookup 0 = some x0) (l1 : lv.lookup 1 = some (.int x1)) (i0 : am_isR x0 = true) (j0 : am_isR s0 = true) (hs : fg_372_14 x0 x1 s0 s1 h = some o) : am_W X (d + 2) 372 14 lv [(.int s1), s0] h (fun q => q = o) := by
  unfold fg_372_14 at hs
  obtain ⟨h1, e2, hs1⟩ := am_bind hs
  clear hs
  refine aw_pP (pc1 := 17) at_372_14 e2 rfl ?_
  refine aw_vload_n (pc1 := 18) at_372_17 l0 i0 rfl ?_
  obtain ⟨v3, e4, hs2⟩ := am_bind hs1
  clear hs1
  refine aw_pG (pc1 := 21) at_372_18 (am_vI_s e4) rfl ?_
  by_cases c5 : v3 ≤ 0
  · rw [if_pos c5] at hs2
    refine aw_ifle_t at_372_21 c5 ?_
    refine aw_vload_n (pc1 := 29) at_372_28 l0 i0 rfl ?_
    obtain ⟨v6, e7, hs3⟩ := am_bind hs2
    clear hs2
    refine aw_pG (pc1 := 32) at_372_29 (am_vR_s e7).1 rfl ?_
    refine aw_iload_n (pc1 := 33) at_372_32 l1 rfl ?_
    obtain ⟨v8, e9, hs4⟩ := am_bind hs3
    clear hs3
    refine aw_pAL (pc1 := 34) at_372_33 e9 rfl ?_
    exact rg_372_34 v8 h1 o   hs4
  · rw [if_neg c5] at hs2
    refine aw_ifle_f (pc1 := 24) at_372_21 c5 rfl ?_
    refine aw_lconst (v := 0) (pc1 := 25) at_372_24 (by decide) rfl ?_
    refine aw_goto at_372_25 ?_
    exact rg_372_34 0 h1 o   hs2
def fg_372_0 (x0 : Value) (x1 : Int32) (h : am_H) : Option am_O := (if am_pOk 12 x0 h then am_cI true (fm_358 x0 x1 h) (fun v2 h3 => (if v2 = 0 then (fg_372_14 x0 x1 x0 1 h3) else (fg_372_14 x0 x1 x0 0 h3))) else none)
theorem rg_372_0 {X : am_X} {d : Nat} {lv : am_LV} (x0 : Value) (x1 : Int32) (h : am_H) (o : am_O) (l0 : lv.lookup 0 = some x0) (l1 : lv.lookup 1 = some (.int x1)) (i0 : am_isR x0 = true) (hs : fg_372_0 x0 x1 h = some o) : am_W X (d + 2) 372 0 lv [] h (fun q => q = o) := by
  unfold fg_372_0 at hs
  refine aw_vload_n (pc1 := 1) at_372_0 l0 i0 rfl ?_
  refine aw_vload_n (pc1 := 2) at_372_1 l0 i0 rfl ?_
  refine aw_iload_n (pc1 := 3) at_372_2 l1 rfl ?_
  obtain ⟨z1, hs1⟩ := am_ift hs
  clear hs
  refine aw_call (F := fm_358 x0 x1 h) (t := true) (na := 2) (kd := 1) (as := [x0, (.int x1)]) at_372_3 (am_k3v kb_358) mn_358 mk_358 rfl rfl (am_ok_v mi_358 (am_hl rfl (am_ccR i0 (am_ccI am_cats_0)) rfl) z1) (am_hc (am_ccR i0 am_cats_0) rfl) (fun _ => ⟨rfl, hh_372⟩) (fun o1 hz9 => rm_358 x0 x1 h o1 i0 hz9) ?_
  rcases am_cI_s hs1 with ⟨v2, h3, f4, hs2⟩ | hs2
  · clear hs1
    refine Or.inl ⟨_, _, f4, ?_⟩
    show am_W X _ 372 6 _ [(.int v2), x0] h3 _
    by_cases c5 : v2 = 0
    · rw [if_pos c5] at hs2
      refine aw_ifeq_t at_372_6 c5 ?_
      refine aw_iconst (v := 1) (pc1 := 14) at_372_13 (by decide) rfl ?_
      exact rg_372_14 x0 x1 x0 1 h3 o l0 l1 i0 i0 hs2
    · rw [if_neg c5] at hs2
      refine aw_ifeq_f (pc1 := 9) at_372_6 c5 rfl ?_
      refine aw_iconst (v := 0) (pc1 := 10) at_372_9 (by decide) rfl ?_
      refine aw_goto at_372_10 ?_
      exact rg_372_14 x0 x1 x0 0 h3 o l0 l1 i0 i0 hs2
  · clear hs1
    exact Or.inr hs2
def fm_372 (y0 : Value) (y1 : Int32) (h : am_H) : Option am_O := fg_372_0 y0 y1 h
theorem rm_372 {X : am_X} {d : Nat} (y0 : Value) (y1 : Int32) (h : am_H) (o : am_O) (i0 : am_isR y0 = true) (hs : fm_372 y0 y1 h = some o) : am_W X (d + 2) 372 0 (am_args 0 [y0, .int y1]) [] h (fun q => q = o) := by
  rw [am_args_R i0, am_args_I]
  exact rg_372_0 y0 y1 h o rfl rfl i0 hs
def fg_83_39 (h : am_H) : Option am_O := some (.inr (0, h ++ [am_dummy]))
theorem rg_83_39 {X : am_X} {d : Nat} {lv : am_LV} (h : am_H) (o : am_O) (hs : fg_83_39 h = some o) : am_W X (d + 1) 83 39 lv [] h (fun q => q = o) := by
  unfold fg_83_39 at hs
  cases hs
  exact aw_throw at_83_39 rfl th_83_39 (am_hc am_cats_0 rfl) rfl
def fg_83_20 (h : am_H) : Option am_O := some (.inr (2, h ++ [am_dummy]))
theorem rg_83_20 {X : am_X} {d : Nat} {lv : am_LV} (h : am_H) (o : am_O) (hs : fg_83_20 h = some o) : am_W X (d + 1) 83 20 lv [] h (fun q => q = o) := by
  unfold fg_83_20 at hs
  cases hs
  exact aw_throw at_83_20 rfl th_83_20 (am_hc am_cats_0 rfl) rfl
def fg_83_0 (x0 : Value) (x1 : Int32) (x2 : Int32) (x3 : Int32) (h : am_H) : Option am_O := (if am_pOk 11 x0 h then am_cR true (fm_63 x0 x1 h) (fun v2 h3 => (if x2 < 0 then (fg_83_20 h3) else ((am_vI (am_pG 771 v2 h3)).bind fun v6 => (if x2 < v6 then (if x3 < 0 then (fg_83_39 h3) else (if x3 ≤ 4 then (if am_pOk 3 v2 h3 then am_cI true (fm_54 v2 x2 x3 h3) (fun v12 h13 => some (.inl (some (.int v12), h13))) else none) else (fg_83_39 h3))) else (fg_83_20 h3))))) else none)
theorem rg_83_0 {X : am_X} {d : Nat} {lv : am_LV} (x0 : Value) (x1 : Int32) (x2 : Int32) (x3 : Int32) (h : am_H) (o : am_O) (l0 : lv.lookup 0 = some x0) (l1 : lv.lookup 1 = some (.int x1)) (l2 : lv.lookup 2 = some (.int x2)) (l3 : lv.lookup 3 = some (.int x3)) (i0 : am_isR x0 = true) (hs : fg_83_0 x0 x1 x2 x3 h = some o) : am_W X (d + 1) 83 0 lv [] h (fun q => q = o) := by
  unfold fg_83_0 at hs
  refine aw_vload_n (pc1 := 1) at_83_0 l0 i0 rfl ?_
  refine aw_iload_n (pc1 := 2) at_83_1 l1 rfl ?_
  obtain ⟨z1, hs1⟩ := am_ift hs
  clear hs
  refine aw_call (F := fm_63 x0 x1 h) (t := true) (na := 2) (kd := 1) (as := [x0, (.int x1)]) at_83_2 (am_k3v kb_63) mn_63 mk_63 rfl rfl (am_ok_v mi_63 (am_hl rfl (am_ccR i0 (am_ccI am_cats_0)) rfl) z1) (am_hc am_cats_0 rfl) (fun _ => ⟨rfl, hh_83⟩) (fun o1 hz9 => rm_63 x0 x1 h o1 i0 hz9) ?_
  rcases am_cR_s hs1 with ⟨v2, h3, f4, iv2, hs2⟩ | hs2
  · clear hs1
    refine Or.inl ⟨_, _, f4, ?_⟩
    show am_W X _ 83 5 _ [v2] h3 _
    refine aw_vstore (lv1 := am_put1 _ 4 _) (pc1 := 7) at_83_5 iv2 rfl rfl ?_
    refine aw_iload_n (pc1 := 8) at_83_7 (am_lk1 l2 rfl rfl) rfl ?_
    by_cases c5 : x2 < 0
    · rw [if_pos c5] at hs2
      refine aw_iflt_t at_83_8 c5 ?_
      exact rg_83_20 h3 o   hs2
    · rw [if_neg c5] at hs2
      refine aw_iflt_f (pc1 := 11) at_83_8 c5 rfl ?_
      refine aw_iload_n (pc1 := 12) at_83_11 (am_lk1 l2 rfl rfl) rfl ?_
      refine aw_vload (pc1 := 14) at_83_12 am_lk0 iv2 rfl ?_
      obtain ⟨v6, e7, hs3⟩ := am_bind hs2
      clear hs2
      refine aw_pG (pc1 := 17) at_83_14 (am_vI_s e7) rfl ?_
      by_cases c8 : x2 < v6
      · rw [if_pos c8] at hs3
        refine aw_iclt_t at_83_17 c8 ?_
        refine aw_iload_n (pc1 := 31) at_83_30 (am_lk1 l3 rfl rfl) rfl ?_
        by_cases c9 : x3 < 0
        · rw [if_pos c9] at hs3
          refine aw_iflt_t at_83_31 c9 ?_
          exact rg_83_39 h3 o   hs3
        · rw [if_neg c9] at hs3
          refine aw_iflt_f (pc1 := 34) at_83_31 c9 rfl ?_
          refine aw_iload_n (pc1 := 35) at_83_34 (am_lk1 l3 rfl rfl) rfl ?_
          refine aw_iconst (v := 4) (pc1 := 36) at_83_35 (by decide) rfl ?_
          by_cases c10 : x3 ≤ 4
          · rw [if_pos c10] at hs3
            refine aw_icle_t at_83_36 c10 ?_
            refine aw_vload (pc1 := 51) at_83_49 am_lk0 iv2 rfl ?_
            refine aw_iload_n (pc1 := 52) at_83_51 (am_lk1 l2 rfl rfl) rfl ?_
            refine aw_iload_n (pc1 := 53) at_83_52 (am_lk1 l3 rfl rfl) rfl ?_
            obtain ⟨z11, hs4⟩ := am_ift hs3
            clear hs3
            refine aw_call (F := fm_54 v2 x2 x3 h3) (t := true) (na := 3) (kd := 1) (as := [v2, (.int x2), (.int x3)]) at_83_53 (am_k3v kb_54) mn_54 mk_54 rfl rfl (am_ok_v mi_54 (am_hl rfl (am_ccR iv2 (am_ccI (am_ccI am_cats_0))) rfl) z11) (am_hc am_cats_0 rfl) (fun _ => ⟨rfl, hh_83⟩) (fun o1 hz9 => rm_54 v2 x2 x3 h3 o1 iv2 hz9) ?_
            rcases am_cI_s hs4 with ⟨v12, h13, f14, hs5⟩ | hs5
            · clear hs4
              refine Or.inl ⟨_, _, f14, ?_⟩
              show am_W X _ 83 56 _ [(.int v12)] h13 _
              cases hs5
              exact aw_iret at_83_56 (by rw [rt_83]; rfl) rfl
            · clear hs4
              exact Or.inr hs5
          · rw [if_neg c10] at hs3
            refine aw_icle_f (pc1 := 39) at_83_36 c10 rfl ?_
            exact rg_83_39 h3 o   hs3
      · rw [if_neg c8] at hs3
        refine aw_iclt_f (pc1 := 20) at_83_17 c8 rfl ?_
        exact rg_83_20 h3 o   hs3
  · clear hs1
    exact Or.inr hs2
def fm_83 (y0 : Value) (y1 : Int32) (y2 : Int32) (y3 : Int32) (h : am_H) : Option am_O := fg_83_0 y0 y1 y2 y3 h
theorem rm_83 {X : am_X} {d : Nat} (y0 : Value) (y1 : Int32) (y2 : Int32) (y3 : Int32) (h : am_H) (o : am_O) (i0 : am_isR y0 = true) (hs : fm_83 y0 y1 y2 y3 h = some o) : am_W X (d + 1) 83 0 (am_args 0 [y0, .int y1, .int y2, .int y3]) [] h (fun q => q = o) := by
  rw [am_args_R i0, am_args_I, am_args_I, am_args_I]
  exact rg_83_0 y0 y1 y2 y3 h o rfl rfl rfl rfl i0 hs
def fg_82_21 (h : am_H) : Option am_O := some (.inl (some (.int 2), h))
theorem rg_82_21 {X : am_X} {d : Nat} {lv : am_LV} (h : am_H) (o : am_O) (hs : fg_82_21 h = some o) : am_W X (d + 2) 82 21 lv [] h (fun q => q = o) := by
  unfold fg_82_21 at hs
  refine aw_iconst (v := 2) (pc1 := 22) at_82_21 (by decide) rfl ?_
  cases hs
  exact aw_iret at_82_22 (by rw [rt_82]; rfl) rfl
def fg_82_17 (h : am_H) : Option am_O := some (.inl (some (.int 1), h))
theorem rg_82_17 {X : am_X} {d : Nat} {lv : am_LV} (h : am_H) (o : am_O) (hs : fg_82_17 h = some o) : am_W X (d + 2) 82 17 lv [] h (fun q => q = o) := by
  unfold fg_82_17 at hs
  refine aw_iconst (v := 1) (pc1 := 18) at_82_17 (by decide) rfl ?_
  cases hs
  exact aw_iret at_82_18 (by rw [rt_82]; rfl) rfl
def fg_82_0 (x0 : Value) (x1 : Int32) (x2 : Int32) (x3 : Int32) (x4 : Value) (h : am_H) : Option am_O := (if am_pOk 11 x0 h then (match fm_83 x0 x1 x2 x3 h with | some (.inl (some (.int v2), h3)) => ((am_pSL x4 0 (Int32.toInt64 v2) h3).bind fun h5 => some (.inl (some (.int 0), h5))) | some (.inr (0, h7)) => (fg_82_21 h7) | some (.inr (2, h9)) => (fg_82_17 h9) | _ => none) else none)
theorem rg_82_0 {X : am_X} {d : Nat} {lv : am_LV} (x0 : Value) (x1 : Int32) (x2 : Int32) (x3 : Int32) (x4 : Value) (h : am_H) (o : am_O) (l0 : lv.lookup 0 = some x0) (l1 : lv.lookup 1 = some (.int x1)) (l2 : lv.lookup 2 = some (.int x2)) (l3 : lv.lookup 3 = some (.int x3)) (l4 : lv.lookup 4 = some x4) (i0 : am_isR x0 = true) (i4 : am_isR x4 = true) (hs : fg_82_0 x0 x1 x2 x3 x4 h = some o) : am_W X (d + 2) 82 0 lv [] h (fun q => q = o) := by
  unfold fg_82_0 at hs
  refine aw_vload (pc1 := 2) at_82_0 l4 i4 rfl ?_
  refine aw_iconst (v := 0) (pc1 := 3) at_82_2 (by decide) rfl ?_
  refine aw_vload_n (pc1 := 4) at_82_3 l0 i0 rfl ?_
  refine aw_iload_n (pc1 := 5) at_82_4 l1 rfl ?_
  refine aw_iload_n (pc1 := 6) at_82_5 l2 rfl ?_
  refine aw_iload_n (pc1 := 7) at_82_6 l3 rfl ?_
  obtain ⟨z1, hs1⟩ := am_ift hs
  clear hs
  refine aw_callH (F := fm_83 x0 x1 x2 x3 h) (na := 4) (kd := 1) (as := [x0, (.int x1), (.int x2), (.int x3)]) at_82_7 (am_k3v kb_83) mn_83 mk_83 rfl rfl (am_ok_v mi_83 (am_hl rfl (am_ccR i0 (am_ccI (am_ccI (am_ccI am_cats_0)))) rfl) z1) (am_hc (am_ccI (am_ccR i4 am_cats_0)) rfl) (fun o1 hz9 => rm_83 x0 x1 x2 x3 h o1 i0 hz9) ?_
  split at hs1
  · rename_i v2 h3 f4
    refine Or.inl ⟨_, _, f4, ?_⟩
    show am_W X _ 82 10 _ [(.int v2), (.int 0), x4] h3 _
    refine aw_i2l (v := (Int32.toInt64 v2)) (pc1 := 11) at_82_10 rfl rfl ?_
    obtain ⟨h5, e6, hs2⟩ := am_bind hs1
    clear hs1
    refine aw_pSL (pc1 := 12) at_82_11 e6 rfl ?_
    refine aw_goto at_82_12 ?_
    refine aw_iconst (v := 0) (pc1 := 24) at_82_23 (by decide) rfl ?_
    cases hs2
    exact aw_iret at_82_24 (by rw [rt_82]; rfl) rfl
  · rename_i h7 f8
    refine Or.inr ⟨_, _, 21, 5, f8, rfl, hn_82, hd_82_7_0, ?_⟩
    exact rg_82_21 h7 o   hs1
  · rename_i h9 f10
    refine Or.inr ⟨_, _, 17, 5, f10, rfl, hn_82, hd_82_7_2, ?_⟩
    exact rg_82_17 h9 o   hs1
  · cases hs1
def fm_82 (y0 : Value) (y1 : Int32) (y2 : Int32) (y3 : Int32) (y4 : Value) (h : am_H) : Option am_O := fg_82_0 y0 y1 y2 y3 y4 h
theorem rm_82 {X : am_X} {d : Nat} (y0 : Value) (y1 : Int32) (y2 : Int32) (y3 : Int32) (y4 : Value) (h : am_H) (o : am_O) (i0 : am_isR y0 = true) (i4 : am_isR y4 = true) (hs : fm_82 y0 y1 y2 y3 y4 h = some o) : am_W X (d + 2) 82 0 (am_args 0 [y0, .int y1, .int y2, .int y3, y4]) [] h (fun q => q = o) := by
  rw [am_args_R i0, am_args_I, am_args_I, am_args_I, am_args_R i4]
  exact rg_82_0 y0 y1 y2 y3 y4 h o rfl rfl rfl rfl rfl i0 i4 hs
def fg_373_135 (s0 : Int32) (h : am_H) : Option am_O := some (.inl (some (.int s0), h))
theorem rg_373_135 {X : am_X} {d : Nat} {lv : am_LV} (s0 : Int32) (h : am_H) (o : am_O) (hs : fg_373_135 s0 h = some o) : am_W X (d + 2) 373 135 lv [(.int s0)] h (fun q => q = o) := by
  unfold fg_373_135 at hs
  cases hs
  exact aw_iret at_373_135 (by rw [rt_373]; rfl) rfl
def fg_373_60 (x0 : Value) (x1 : Int32) (x2 : Int32) (x3 : Int32) (s0 : Value) (s1 : Int32) (h : am_H) : Option am_O := ((am_pP 3072 s0 (.int s1) h).bind fun h1 => ((am_vI (am_pG 3072 x0 h1)).bind fun v3 => (if v3 ≤ 0 then ((am_vR (am_pG 3083 x0 h1)).bind fun v6 => ((am_pA 0 v6 ((60 * x1) + x2) h1).bind fun v8 => ((am_vR (am_pG 3084 x0 h1)).bind fun v10 => ((am_pA 0 v10 ((60 * x1) + x2) h1).bind fun v12 => (if ¬ x3 = 0 then ((am_vR (am_pG 3074 x0 h1)).bind fun v15 => ((am_pA 0 v15 x1 h1).bind fun v17 => (if ¬ v17 = 2 then (if ¬ x3 = 1 then (fg_373_135 0 h1) else (fg_373_135 v12 h1)) else am_cI false (fm_367 v12 ((x3 - 1)) h1) (fun v21 h22 => some (.inl (some (.int v21), h22)))))) else some (.inl (some (.int v8), h1))))))) else some (.inl (some (.int 0), h1)))))
theorem rg_373_60 {X : am_X} {d : Nat} {lv : am_LV} (x0 : Value) (x1 : Int32) (x2 : Int32) (x3 : Int32) (s0 : Value) (s1 : Int32) (h : am_H) (o : am_O) (l0 : lv.lookup 0 = some x0) (l1 : lv.lookup 1 = some (.int x1)) (l2 : lv.lookup 2 = some (.int x2)) (l3 : lv.lookup 3 = some (.int x3)) (i0 : am_isR x0 = true) (j0 : am_isR s0 = true) (hs : fg_373_60 x0 x1 x2 x3 s0 s1 h = some o) : am_W X (d + 2) 373 60 lv [(.int s1), s0] h (fun q => q = o) := by
  unfold fg_373_60 at hs
  obtain ⟨h1, e2, hs1⟩ := am_bind hs
  clear hs
  refine aw_pP (pc1 := 63) at_373_60 e2 rfl ?_
  refine aw_vload_n (pc1 := 64) at_373_63 l0 i0 rfl ?_
  obtain ⟨v3, e4, hs2⟩ := am_bind hs1
  clear hs1
  refine aw_pG (pc1 := 67) at_373_64 (am_vI_s e4) rfl ?_
  by_cases c5 : v3 ≤ 0
  · rw [if_pos c5] at hs2
    refine aw_ifle_t at_373_67 c5 ?_
    refine aw_vload_n (pc1 := 73) at_373_72 l0 i0 rfl ?_
    obtain ⟨v6, e7, hs3⟩ := am_bind hs2
    clear hs2
    refine aw_pG (pc1 := 76) at_373_73 (am_vR_s e7).1 rfl ?_
    refine aw_bipush (v := 60) (pc1 := 78) at_373_76 (by decide) rfl ?_
    refine aw_iload_n (pc1 := 79) at_373_78 l1 rfl ?_
    refine aw_imul (v := (60 * x1)) (pc1 := 80) at_373_79 rfl rfl ?_
    refine aw_iload_n (pc1 := 81) at_373_80 l2 rfl ?_
    refine aw_iadd (v := ((60 * x1) + x2)) (pc1 := 82) at_373_81 rfl rfl ?_
    obtain ⟨v8, e9, hs4⟩ := am_bind hs3
    clear hs3
    refine aw_pA (pc1 := 83) at_373_82 (Or.inl ⟨rfl, rfl⟩) e9 rfl ?_
    refine aw_istore (lv1 := am_put1 _ 4 _) (pc1 := 85) at_373_83 rfl rfl ?_
    refine aw_vload_n (pc1 := 86) at_373_85 (am_lk1 l0 rfl rfl) i0 rfl ?_
    obtain ⟨v10, e11, hs5⟩ := am_bind hs4
    clear hs4
    refine aw_pG (pc1 := 89) at_373_86 (am_vR_s e11).1 rfl ?_
    refine aw_bipush (v := 60) (pc1 := 91) at_373_89 (by decide) rfl ?_
    refine aw_iload_n (pc1 := 92) at_373_91 (am_lk1 l1 rfl rfl) rfl ?_
    refine aw_imul (v := (60 * x1)) (pc1 := 93) at_373_92 rfl rfl ?_
    refine aw_iload_n (pc1 := 94) at_373_93 (am_lk1 l2 rfl rfl) rfl ?_
    refine aw_iadd (v := ((60 * x1) + x2)) (pc1 := 95) at_373_94 rfl rfl ?_
    obtain ⟨v12, e13, hs6⟩ := am_bind hs5
    clear hs5
    refine aw_pA (pc1 := 96) at_373_95 (Or.inl ⟨rfl, rfl⟩) e13 rfl ?_
    refine aw_istore (lv1 := am_put1 _ 5 _) (pc1 := 98) at_373_96 rfl rfl ?_
    refine aw_iload_n (pc1 := 99) at_373_98 (am_lk1 (am_lk1 l3 rfl rfl) rfl rfl) rfl ?_
    by_cases c14 : ¬ x3 = 0
    · rw [if_pos c14] at hs6
      refine aw_ifne_t at_373_99 c14 ?_
      refine aw_vload_n (pc1 := 106) at_373_105 (am_lk1 (am_lk1 l0 rfl rfl) rfl rfl) i0 rfl ?_
      obtain ⟨v15, e16, hs7⟩ := am_bind hs6
      clear hs6
      refine aw_pG (pc1 := 109) at_373_106 (am_vR_s e16).1 rfl ?_
      refine aw_iload_n (pc1 := 110) at_373_109 (am_lk1 (am_lk1 l1 rfl rfl) rfl rfl) rfl ?_
      obtain ⟨v17, e18, hs8⟩ := am_bind hs7
      clear hs7
      refine aw_pA (pc1 := 111) at_373_110 (Or.inl ⟨rfl, rfl⟩) e18 rfl ?_
      refine aw_iconst (v := 2) (pc1 := 112) at_373_111 (by decide) rfl ?_
      by_cases c19 : ¬ v17 = 2
      · rw [if_pos c19] at hs8
        refine aw_icne_t at_373_112 c19 ?_
        refine aw_iload_n (pc1 := 125) at_373_124 (am_lk1 (am_lk1 l3 rfl rfl) rfl rfl) rfl ?_
        refine aw_iconst (v := 1) (pc1 := 126) at_373_125 (by decide) rfl ?_
        by_cases c20 : ¬ x3 = 1
        · rw [if_pos c20] at hs8
          refine aw_icne_t at_373_126 c20 ?_
          refine aw_iconst (v := 0) (pc1 := 135) at_373_134 (by decide) rfl ?_
          exact rg_373_135 0 h1 o   hs8
        · rw [if_neg c20] at hs8
          refine aw_icne_f (pc1 := 129) at_373_126 c20 rfl ?_
          refine aw_iload (pc1 := 131) at_373_129 am_lk0 rfl ?_
          refine aw_goto at_373_131 ?_
          exact rg_373_135 v12 h1 o   hs8
      · rw [if_neg c19] at hs8
        refine aw_icne_f (pc1 := 115) at_373_112 c19 rfl ?_
        refine aw_iload (pc1 := 117) at_373_115 am_lk0 rfl ?_
        refine aw_iload_n (pc1 := 118) at_373_117 (am_lk1 (am_lk1 l3 rfl rfl) rfl rfl) rfl ?_
        refine aw_iconst (v := 1) (pc1 := 119) at_373_118 (by decide) rfl ?_
        refine aw_isub (v := (x3 - 1)) (pc1 := 120) at_373_119 rfl rfl ?_
        refine aw_call (F := fm_367 v12 ((x3 - 1)) h1) (t := false) (na := 2) (kd := 0) (as := [(.int v12), (.int (x3 - 1))]) at_373_120 (am_k3s kb_367) mn_367 mk_367 rfl rfl (am_ok_s mi_367 (am_hl rfl (am_ccI (am_ccI am_cats_0)) rfl)) (am_hc am_cats_0 rfl) (fun hz9 => by cases hz9) (fun o1 hz9 => rm_367 v12 ((x3 - 1)) h1 o1  hz9) ?_
        rcases am_cI_s hs8 with ⟨v21, h22, f23, hs9⟩ | hs9
        · clear hs8
          refine Or.inl ⟨_, _, f23, ?_⟩
          show am_W X _ 373 123 _ [(.int v21)] h22 _
          cases hs9
          exact aw_iret at_373_123 (by rw [rt_373]; rfl) rfl
        · clear hs8
          exact Or.inr hs9
    · rw [if_neg c14] at hs6
      refine aw_ifne_f (pc1 := 102) at_373_99 c14 rfl ?_
      refine aw_iload (pc1 := 104) at_373_102 (am_lk1 am_lk0 rfl rfl) rfl ?_
      cases hs6
      exact aw_iret at_373_104 (by rw [rt_373]; rfl) rfl
  · rw [if_neg c5] at hs2
    refine aw_ifle_f (pc1 := 70) at_373_67 c5 rfl ?_
    refine aw_iconst (v := 0) (pc1 := 71) at_373_70 (by decide) rfl ?_
    cases hs2
    exact aw_iret at_373_71 (by rw [rt_373]; rfl) rfl
def fg_373_39 (x0 : Value) (x1 : Int32) (x2 : Int32) (x3 : Int32) (s0 : Value) (h : am_H) : Option am_O := (fg_373_60 x0 x1 x2 x3 s0 1 h)
theorem rg_373_39 {X : am_X} {d : Nat} {lv : am_LV} (x0 : Value) (x1 : Int32) (x2 : Int32) (x3 : Int32) (s0 : Value) (h : am_H) (o : am_O) (l0 : lv.lookup 0 = some x0) (l1 : lv.lookup 1 = some (.int x1)) (l2 : lv.lookup 2 = some (.int x2)) (l3 : lv.lookup 3 = some (.int x3)) (i0 : am_isR x0 = true) (j0 : am_isR s0 = true) (hs : fg_373_39 x0 x1 x2 x3 s0 h = some o) : am_W X (d + 2) 373 39 lv [s0] h (fun q => q = o) := by
  unfold fg_373_39 at hs
  refine aw_iconst (v := 1) (pc1 := 40) at_373_39 (by decide) rfl ?_
  refine aw_goto at_373_40 ?_
  exact rg_373_60 x0 x1 x2 x3 s0 1 h o l0 l1 l2 l3 i0 j0 hs
def fg_373_29 (x0 : Value) (x1 : Int32) (x2 : Int32) (x3 : Int32) (s0 : Value) (s1 : Int64) (s2 : Int64) (s3 : Value) (s4 : Int32) (h : am_H) : Option am_O := ((am_pA 0 s3 s4 h).bind fun v1 => am_cI false (fm_327 s1 s2 (((Int32.toInt64 v1) - 1)) h) (fun v3 h4 => (if ¬ v3 = 0 then am_cI false (fm_327 ((Int32.toInt64 x3)) 0 4 h4) (fun v7 h8 => (if ¬ v7 = 0 then (fg_373_60 x0 x1 x2 x3 s0 0 h8) else (fg_373_60 x0 x1 x2 x3 s0 2 h8))) else (fg_373_39 x0 x1 x2 x3 s0 h4))))
theorem rg_373_29 {X : am_X} {d : Nat} {lv : am_LV} (x0 : Value) (x1 : Int32) (x2 : Int32) (x3 : Int32) (s0 : Value) (s1 : Int64) (s2 : Int64) (s3 : Value) (s4 : Int32) (h : am_H) (o : am_O) (l0 : lv.lookup 0 = some x0) (l1 : lv.lookup 1 = some (.int x1)) (l2 : lv.lookup 2 = some (.int x2)) (l3 : lv.lookup 3 = some (.int x3)) (i0 : am_isR x0 = true) (j0 : am_isR s0 = true) (j3 : am_isR s3 = true) (hs : fg_373_29 x0 x1 x2 x3 s0 s1 s2 s3 s4 h = some o) : am_W X (d + 2) 373 29 lv [(.int s4), s3, (.long s2), (.long s1), s0] h (fun q => q = o) := by
  unfold fg_373_29 at hs
  obtain ⟨v1, e2, hs1⟩ := am_bind hs
  clear hs
  refine aw_pA (pc1 := 30) at_373_29 (Or.inl ⟨rfl, rfl⟩) e2 rfl ?_
  refine aw_i2l (v := (Int32.toInt64 v1)) (pc1 := 31) at_373_30 rfl rfl ?_
  refine aw_lconst (v := 1) (pc1 := 32) at_373_31 (by decide) rfl ?_
  refine aw_lsub (v := ((Int32.toInt64 v1) - 1)) (pc1 := 33) at_373_32 rfl rfl ?_
  refine aw_call (F := fm_327 s1 s2 (((Int32.toInt64 v1) - 1)) h) (t := false) (na := 3) (kd := 0) (as := [(.long s1), (.long s2), (.long ((Int32.toInt64 v1) - 1))]) at_373_33 (am_k3s kb_327) mn_327 mk_327 rfl rfl (am_ok_s mi_327 (am_hl rfl (am_ccL (am_ccL (am_ccL am_cats_0))) rfl)) (am_hc (am_ccR j0 am_cats_0) rfl) (fun hz9 => by cases hz9) (fun o1 hz9 => rm_327 s1 s2 (((Int32.toInt64 v1) - 1)) h o1  hz9) ?_
  rcases am_cI_s hs1 with ⟨v3, h4, f5, hs2⟩ | hs2
  · clear hs1
    refine Or.inl ⟨_, _, f5, ?_⟩
    show am_W X _ 373 36 _ [(.int v3), s0] h4 _
    by_cases c6 : ¬ v3 = 0
    · rw [if_pos c6] at hs2
      refine aw_ifne_t at_373_36 c6 ?_
      refine aw_iload_n (pc1 := 44) at_373_43 l3 rfl ?_
      refine aw_i2l (v := (Int32.toInt64 x3)) (pc1 := 45) at_373_44 rfl rfl ?_
      refine aw_lconst (v := 0) (pc1 := 46) at_373_45 (by decide) rfl ?_
      refine aw_ldc2 (v := 4) (pc1 := 49) at_373_46 rfl rfl ?_
      refine aw_call (F := fm_327 ((Int32.toInt64 x3)) 0 4 h4) (t := false) (na := 3) (kd := 0) (as := [(.long (Int32.toInt64 x3)), (.long 0), (.long 4)]) at_373_49 (am_k3s kb_327) mn_327 mk_327 rfl rfl (am_ok_s mi_327 (am_hl rfl (am_ccL (am_ccL (am_ccL am_cats_0))) rfl)) (am_hc (am_ccR j0 am_cats_0) rfl) (fun hz9 => by cases hz9) (fun o1 hz9 => rm_327 ((Int32.toInt64 x3)) 0 4 h4 o1  hz9) ?_
      rcases am_cI_s hs2 with ⟨v7, h8, f9, hs3⟩ | hs3
      · clear hs2
        refine Or.inl ⟨_, _, f9, ?_⟩
        show am_W X _ 373 52 _ [(.int v7), s0] h8 _
        by_cases c10 : ¬ v7 = 0
        · rw [if_pos c10] at hs3
          refine aw_ifne_t at_373_52 c10 ?_
          refine aw_iconst (v := 0) (pc1 := 60) at_373_59 (by decide) rfl ?_
          exact rg_373_60 x0 x1 x2 x3 s0 0 h8 o l0 l1 l2 l3 i0 j0 hs3
        · rw [if_neg c10] at hs3
          refine aw_ifne_f (pc1 := 55) at_373_52 c10 rfl ?_
          refine aw_iconst (v := 2) (pc1 := 56) at_373_55 (by decide) rfl ?_
          refine aw_goto at_373_56 ?_
          exact rg_373_60 x0 x1 x2 x3 s0 2 h8 o l0 l1 l2 l3 i0 j0 hs3
      · clear hs2
        exact Or.inr hs3
    · rw [if_neg c6] at hs2
      refine aw_ifne_f (pc1 := 39) at_373_36 c6 rfl ?_
      exact rg_373_39 x0 x1 x2 x3 s0 h4 o l0 l1 l2 l3 i0 j0 hs2
  · clear hs1
    exact Or.inr hs2
def fg_373_0 (x0 : Value) (x1 : Int32) (x2 : Int32) (x3 : Int32) (h : am_H) : Option am_O := (if am_pOk 12 x0 h then am_cI true (fm_358 x0 x1 h) (fun v2 h3 => (if v2 = 0 then (fg_373_39 x0 x1 x2 x3 x0 h3) else ((am_vR (am_pG 3075 x0 h3)).bind fun v6 => (if am_pOk 12 x0 h3 then am_cI true (fm_358 x0 x1 h3) (fun v9 h10 => (if v9 = 0 then (fg_373_29 x0 x1 x2 x3 x0 ((Int32.toInt64 x2)) 0 v6 0 h10) else (fg_373_29 x0 x1 x2 x3 x0 ((Int32.toInt64 x2)) 0 v6 x1 h10))) else none)))) else none)
theorem rg_373_0 {X : am_X} {d : Nat} {lv : am_LV} (x0 : Value) (x1 : Int32) (x2 : Int32) (x3 : Int32) (h : am_H) (o : am_O) (l0 : lv.lookup 0 = some x0) (l1 : lv.lookup 1 = some (.int x1)) (l2 : lv.lookup 2 = some (.int x2)) (l3 : lv.lookup 3 = some (.int x3)) (i0 : am_isR x0 = true) (hs : fg_373_0 x0 x1 x2 x3 h = some o) : am_W X (d + 2) 373 0 lv [] h (fun q => q = o) := by
  unfold fg_373_0 at hs
  refine aw_vload_n (pc1 := 1) at_373_0 l0 i0 rfl ?_
  refine aw_vload_n (pc1 := 2) at_373_1 l0 i0 rfl ?_
  refine aw_iload_n (pc1 := 3) at_373_2 l1 rfl ?_
  obtain ⟨z1, hs1⟩ := am_ift hs
  clear hs
  refine aw_call (F := fm_358 x0 x1 h) (t := true) (na := 2) (kd := 1) (as := [x0, (.int x1)]) at_373_3 (am_k3v kb_358) mn_358 mk_358 rfl rfl (am_ok_v mi_358 (am_hl rfl (am_ccR i0 (am_ccI am_cats_0)) rfl) z1) (am_hc (am_ccR i0 am_cats_0) rfl) (fun _ => ⟨rfl, hh_373⟩) (fun o1 hz9 => rm_358 x0 x1 h o1 i0 hz9) ?_
  rcases am_cI_s hs1 with ⟨v2, h3, f4, hs2⟩ | hs2
  · clear hs1
    refine Or.inl ⟨_, _, f4, ?_⟩
    show am_W X _ 373 6 _ [(.int v2), x0] h3 _
    by_cases c5 : v2 = 0
    · rw [if_pos c5] at hs2
      refine aw_ifeq_t at_373_6 c5 ?_
      exact rg_373_39 x0 x1 x2 x3 x0 h3 o l0 l1 l2 l3 i0 i0 hs2
    · rw [if_neg c5] at hs2
      refine aw_ifeq_f (pc1 := 9) at_373_6 c5 rfl ?_
      refine aw_iload_n (pc1 := 10) at_373_9 l2 rfl ?_
      refine aw_i2l (v := (Int32.toInt64 x2)) (pc1 := 11) at_373_10 rfl rfl ?_
      refine aw_lconst (v := 0) (pc1 := 12) at_373_11 (by decide) rfl ?_
      refine aw_vload_n (pc1 := 13) at_373_12 l0 i0 rfl ?_
      obtain ⟨v6, e7, hs3⟩ := am_bind hs2
      clear hs2
      refine aw_pG (pc1 := 16) at_373_13 (am_vR_s e7).1 rfl ?_
      refine aw_vload_n (pc1 := 17) at_373_16 l0 i0 rfl ?_
      refine aw_iload_n (pc1 := 18) at_373_17 l1 rfl ?_
      obtain ⟨z8, hs4⟩ := am_ift hs3
      clear hs3
      refine aw_call (F := fm_358 x0 x1 h3) (t := true) (na := 2) (kd := 1) (as := [x0, (.int x1)]) at_373_18 (am_k3v kb_358) mn_358 mk_358 rfl rfl (am_ok_v mi_358 (am_hl rfl (am_ccR i0 (am_ccI am_cats_0)) rfl) z8) (am_hc (am_ccR (am_vR_s e7).2 (am_ccL (am_ccL (am_ccR i0 am_cats_0)))) rfl) (fun _ => ⟨rfl, hh_373⟩) (fun o1 hz9 => rm_358 x0 x1 h3 o1 i0 hz9) ?_
      rcases am_cI_s hs4 with ⟨v9, h10, f11, hs5⟩ | hs5
      · clear hs4
        refine Or.inl ⟨_, _, f11, ?_⟩
        show am_W X _ 373 21 _ [(.int v9), v6, (.long 0), (.long (Int32.toInt64 x2)), x0] h10 _
        by_cases c12 : v9 = 0
        · rw [if_pos c12] at hs5
          refine aw_ifeq_t at_373_21 c12 ?_
          refine aw_iconst (v := 0) (pc1 := 29) at_373_28 (by decide) rfl ?_
          exact rg_373_29 x0 x1 x2 x3 x0 ((Int32.toInt64 x2)) 0 v6 0 h10 o l0 l1 l2 l3 i0 i0 (am_vR_s e7).2 hs5
        · rw [if_neg c12] at hs5
          refine aw_ifeq_f (pc1 := 24) at_373_21 c12 rfl ?_
          refine aw_iload_n (pc1 := 25) at_373_24 l1 rfl ?_
          refine aw_goto at_373_25 ?_
          exact rg_373_29 x0 x1 x2 x3 x0 ((Int32.toInt64 x2)) 0 v6 x1 h10 o l0 l1 l2 l3 i0 i0 (am_vR_s e7).2 hs5
      · clear hs4
        exact Or.inr hs5
  · clear hs1
    exact Or.inr hs2
def fm_373 (y0 : Value) (y1 : Int32) (y2 : Int32) (y3 : Int32) (h : am_H) : Option am_O := fg_373_0 y0 y1 y2 y3 h
theorem rm_373 {X : am_X} {d : Nat} (y0 : Value) (y1 : Int32) (y2 : Int32) (y3 : Int32) (h : am_H) (o : am_O) (i0 : am_isR y0 = true) (hs : fm_373 y0 y1 y2 y3 h = some o) : am_W X (d + 2) 373 0 (am_args 0 [y0, .int y1, .int y2, .int y3]) [] h (fun q => q = o) := by
  rw [am_args_R i0, am_args_I, am_args_I, am_args_I]
  exact rg_373_0 y0 y1 y2 y3 h o rfl rfl rfl rfl i0 hs
def fg_86_37 (N : Nat) : Nat → Value → Value → Int32 → am_H → Option am_O
  | 0 => fun _ _ _ _ => none
  | K + 1 => fun x0 x1 x2 h => ((am_vI (am_pG 771 x0 h)).bind fun v1 => ((am_vI (am_pG 772 x0 h)).bind fun v3 => (if (v1 * v3) ≤ x2 then some (.inl (some (.int 1), h)) else ((am_vR (am_pG 768 x0 h)).bind fun v6 => ((am_pA 0 v6 x2 h).bind fun v8 => ((am_vR (am_pG 768 x1 h)).bind fun v10 => ((am_pA 0 v10 x2 h).bind fun v12 => (if v8 = v12 then (fg_86_37 N K x0 x1 ((x2 + 1)) h) else some (.inl (some (.int 0), h))))))))))
theorem rg_86_37 {X : am_X} {d : Nat} {N : Nat} : ∀ (K : Nat) (x0 : Value) (x1 : Value) (x2 : Int32) (h : am_H) (o : am_O), fg_86_37 N K x0 x1 x2 h = some o → ∀ lv : am_LV, (lv.lookup 0 = some x0) → (lv.lookup 1 = some x1) → (lv.lookup 2 = some (.int x2)) → (am_isR x0 = true) → (am_isR x1 = true) → am_W X (d) 86 37 lv [] h (fun q => q = o) := by
  intro K
  induction K with
  | zero => intro x0 x1 x2 h o hs; cases hs
  | succ K ih =>
    intro x0 x1 x2 h o hs lv l0 l1 l2 i0 i1
    unfold fg_86_37 at hs
    refine aw_iload_n (pc1 := 38) at_86_37 l2 rfl ?_
    refine aw_vload_n (pc1 := 39) at_86_38 l0 i0 rfl ?_
    obtain ⟨v1, e2, hs1⟩ := am_bind hs
    clear hs
    refine aw_pG (pc1 := 42) at_86_39 (am_vI_s e2) rfl ?_
    refine aw_vload_n (pc1 := 43) at_86_42 l0 i0 rfl ?_
    obtain ⟨v3, e4, hs2⟩ := am_bind hs1
    clear hs1
    refine aw_pG (pc1 := 46) at_86_43 (am_vI_s e4) rfl ?_
    refine aw_imul (v := (v1 * v3)) (pc1 := 47) at_86_46 rfl rfl ?_
    by_cases c5 : (v1 * v3) ≤ x2
    · rw [if_pos c5] at hs2
      refine aw_icge_t at_86_47 c5 ?_
      refine aw_iconst (v := 1) (pc1 := 74) at_86_73 (by decide) rfl ?_
      cases hs2
      exact aw_iret at_86_74 (by rw [rt_86]; decide) rfl
    · rw [if_neg c5] at hs2
      refine aw_icge_f (pc1 := 50) at_86_47 c5 rfl ?_
      refine aw_vload_n (pc1 := 51) at_86_50 l0 i0 rfl ?_
      obtain ⟨v6, e7, hs3⟩ := am_bind hs2
      clear hs2
      refine aw_pG (pc1 := 54) at_86_51 (am_vR_s e7).1 rfl ?_
      refine aw_iload_n (pc1 := 55) at_86_54 l2 rfl ?_
      obtain ⟨v8, e9, hs4⟩ := am_bind hs3
      clear hs3
      refine aw_pA (pc1 := 56) at_86_55 (Or.inl ⟨rfl, rfl⟩) e9 rfl ?_
      refine aw_vload_n (pc1 := 57) at_86_56 l1 i1 rfl ?_
      obtain ⟨v10, e11, hs5⟩ := am_bind hs4
      clear hs4
      refine aw_pG (pc1 := 60) at_86_57 (am_vR_s e11).1 rfl ?_
      refine aw_iload_n (pc1 := 61) at_86_60 l2 rfl ?_
      obtain ⟨v12, e13, hs6⟩ := am_bind hs5
      clear hs5
      refine aw_pA (pc1 := 62) at_86_61 (Or.inl ⟨rfl, rfl⟩) e13 rfl ?_
      by_cases c14 : v8 = v12
      · rw [if_pos c14] at hs6
        refine aw_iceq_t at_86_62 c14 ?_
        refine aw_iinc (v := (x2 + 1)) (c := 1) (lv1 := am_put1 _ 2 _) (pc1 := 70) at_86_67 l2 (by decide) rfl rfl rfl ?_
        refine aw_goto at_86_70 ?_
        exact ih x0 x1 ((x2 + 1)) h o hs6 _ (am_lk1 l0 rfl rfl) (am_lk1 l1 rfl (by rw [am_isRc i1]; rfl)) am_lk0 i0 i1
      · rw [if_neg c14] at hs6
        refine aw_iceq_f (pc1 := 65) at_86_62 c14 rfl ?_
        refine aw_iconst (v := 0) (pc1 := 66) at_86_65 (by decide) rfl ?_
        cases hs6
        exact aw_iret at_86_66 (by rw [rt_86]; decide) rfl
def fg_86_33 (N : Nat) (h : am_H) : Option am_O := some (.inl (some (.int 0), h))
theorem rg_86_33 {X : am_X} {d : Nat} {N : Nat} {lv : am_LV} (h : am_H) (o : am_O) (hs : fg_86_33 N h = some o) : am_W X (d) 86 33 lv [] h (fun q => q = o) := by
  unfold fg_86_33 at hs
  refine aw_iconst (v := 0) (pc1 := 34) at_86_33 (by decide) rfl ?_
  cases hs
  exact aw_iret at_86_34 (by rw [rt_86]; decide) rfl
def fg_86_0 (N : Nat) (x0 : Value) (x1 : Value) (h : am_H) : Option am_O := ((am_vI (am_pG 769 x0 h)).bind fun v1 => ((am_vI (am_pG 769 x1 h)).bind fun v3 => (if ¬ v1 = v3 then (fg_86_33 N h) else ((am_vI (am_pG 770 x0 h)).bind fun v6 => ((am_vI (am_pG 770 x1 h)).bind fun v8 => (if ¬ v6 = v8 then (fg_86_33 N h) else ((am_vI (am_pG 771 x0 h)).bind fun v11 => ((am_vI (am_pG 771 x1 h)).bind fun v13 => (if v11 = v13 then (fg_86_37 N N x0 x1 0 h) else (fg_86_33 N h))))))))))
theorem rg_86_0 {X : am_X} {d : Nat} {N : Nat} {lv : am_LV} (x0 : Value) (x1 : Value) (h : am_H) (o : am_O) (l0 : lv.lookup 0 = some x0) (l1 : lv.lookup 1 = some x1) (i0 : am_isR x0 = true) (i1 : am_isR x1 = true) (hs : fg_86_0 N x0 x1 h = some o) : am_W X (d) 86 0 lv [] h (fun q => q = o) := by
  unfold fg_86_0 at hs
  refine aw_vload_n (pc1 := 1) at_86_0 l0 i0 rfl ?_
  obtain ⟨v1, e2, hs1⟩ := am_bind hs
  clear hs
  refine aw_pG (pc1 := 4) at_86_1 (am_vI_s e2) rfl ?_
  refine aw_vload_n (pc1 := 5) at_86_4 l1 i1 rfl ?_
  obtain ⟨v3, e4, hs2⟩ := am_bind hs1
  clear hs1
  refine aw_pG (pc1 := 8) at_86_5 (am_vI_s e4) rfl ?_
  by_cases c5 : ¬ v1 = v3
  · rw [if_pos c5] at hs2
    refine aw_icne_t at_86_8 c5 ?_
    exact rg_86_33 h o   hs2
  · rw [if_neg c5] at hs2
    refine aw_icne_f (pc1 := 11) at_86_8 c5 rfl ?_
    refine aw_vload_n (pc1 := 12) at_86_11 l0 i0 rfl ?_
    obtain ⟨v6, e7, hs3⟩ := am_bind hs2
    clear hs2
    refine aw_pG (pc1 := 15) at_86_12 (am_vI_s e7) rfl ?_
    refine aw_vload_n (pc1 := 16) at_86_15 l1 i1 rfl ?_
    obtain ⟨v8, e9, hs4⟩ := am_bind hs3
    clear hs3
    refine aw_pG (pc1 := 19) at_86_16 (am_vI_s e9) rfl ?_
    by_cases c10 : ¬ v6 = v8
    · rw [if_pos c10] at hs4
      refine aw_icne_t at_86_19 c10 ?_
      exact rg_86_33 h o   hs4
    · rw [if_neg c10] at hs4
      refine aw_icne_f (pc1 := 22) at_86_19 c10 rfl ?_
      refine aw_vload_n (pc1 := 23) at_86_22 l0 i0 rfl ?_
      obtain ⟨v11, e12, hs5⟩ := am_bind hs4
      clear hs4
      refine aw_pG (pc1 := 26) at_86_23 (am_vI_s e12) rfl ?_
      refine aw_vload_n (pc1 := 27) at_86_26 l1 i1 rfl ?_
      obtain ⟨v13, e14, hs6⟩ := am_bind hs5
      clear hs5
      refine aw_pG (pc1 := 30) at_86_27 (am_vI_s e14) rfl ?_
      by_cases c15 : v11 = v13
      · rw [if_pos c15] at hs6
        refine aw_iceq_t at_86_30 c15 ?_
        refine aw_iconst (v := 0) (pc1 := 36) at_86_35 (by decide) rfl ?_
        refine aw_istore_n (lv1 := am_put1 _ 2 _) (pc1 := 37) at_86_36 rfl rfl ?_
        exact rg_86_37 N x0 x1 0 h o hs6 _ (am_lk1 l0 rfl rfl) (am_lk1 l1 rfl (by rw [am_isRc i1]; rfl)) am_lk0 i0 i1
      · rw [if_neg c15] at hs6
        refine aw_iceq_f (pc1 := 33) at_86_30 c15 rfl ?_
        exact rg_86_33 h o   hs6
def fm_86 (N : Nat) (y0 : Value) (y1 : Value) (h : am_H) : Option am_O := fg_86_0 N y0 y1 h
theorem rm_86 {X : am_X} {d : Nat} {N : Nat} (y0 : Value) (y1 : Value) (h : am_H) (o : am_O) (i0 : am_isR y0 = true) (i1 : am_isR y1 = true) (hs : fm_86 N y0 y1 h = some o) : am_W X (d) 86 0 (am_args 0 [y0, y1]) [] h (fun q => q = o) := by
  rw [am_args_R i0, am_args_R i1]
  exact rg_86_0 y0 y1 h o rfl rfl i0 i1 hs
def fg_85_0 (N : Nat) (x0 : Value) (x1 : Int32) (x2 : Int32) (h : am_H) : Option am_O := (if am_pOk 11 x0 h then am_cR true (fm_63 x0 x1 h) (fun v2 h3 => (if am_pOk 11 x0 h3 then am_cR true (fm_63 x0 x2 h3) (fun v6 h7 => (if am_pOk 3 v2 h7 then am_cI true (fm_86 N v2 v6 h7) (fun v10 h11 => (if am_rfit (some FieldType.boolean) v10 then some (.inl (some (.int v10), h11)) else none)) else none)) else none)) else none)
theorem rg_85_0 {X : am_X} {d : Nat} {N : Nat} {lv : am_LV} (x0 : Value) (x1 : Int32) (x2 : Int32) (h : am_H) (o : am_O) (l0 : lv.lookup 0 = some x0) (l1 : lv.lookup 1 = some (.int x1)) (l2 : lv.lookup 2 = some (.int x2)) (i0 : am_isR x0 = true) (hs : fg_85_0 N x0 x1 x2 h = some o) : am_W X (d + 1) 85 0 lv [] h (fun q => q = o) := by
  unfold fg_85_0 at hs
  refine aw_vload_n (pc1 := 1) at_85_0 l0 i0 rfl ?_
  refine aw_iload_n (pc1 := 2) at_85_1 l1 rfl ?_
  obtain ⟨z1, hs1⟩ := am_ift hs
  clear hs
  refine aw_call (F := fm_63 x0 x1 h) (t := true) (na := 2) (kd := 1) (as := [x0, (.int x1)]) at_85_2 (am_k3v kb_63) mn_63 mk_63 rfl rfl (am_ok_v mi_63 (am_hl rfl (am_ccR i0 (am_ccI am_cats_0)) rfl) z1) (am_hc am_cats_0 rfl) (fun _ => ⟨rfl, hh_85⟩) (fun o1 hz9 => rm_63 x0 x1 h o1 i0 hz9) ?_
  rcases am_cR_s hs1 with ⟨v2, h3, f4, iv2, hs2⟩ | hs2
  · clear hs1
    refine Or.inl ⟨_, _, f4, ?_⟩
    show am_W X _ 85 5 _ [v2] h3 _
    refine aw_vstore_n (lv1 := am_put1 _ 3 _) (pc1 := 6) at_85_5 iv2 rfl rfl ?_
    refine aw_vload_n (pc1 := 7) at_85_6 am_lk0 iv2 rfl ?_
    refine aw_vload_n (pc1 := 8) at_85_7 (am_lk1 l0 rfl rfl) i0 rfl ?_
    refine aw_iload_n (pc1 := 9) at_85_8 (am_lk1 l2 rfl rfl) rfl ?_
    obtain ⟨z5, hs3⟩ := am_ift hs2
    clear hs2
    refine aw_call (F := fm_63 x0 x2 h3) (t := true) (na := 2) (kd := 1) (as := [x0, (.int x2)]) at_85_9 (am_k3v kb_63) mn_63 mk_63 rfl rfl (am_ok_v mi_63 (am_hl rfl (am_ccR i0 (am_ccI am_cats_0)) rfl) z5) (am_hc (am_ccR iv2 am_cats_0) rfl) (fun _ => ⟨rfl, hh_85⟩) (fun o1 hz9 => rm_63 x0 x2 h3 o1 i0 hz9) ?_
    rcases am_cR_s hs3 with ⟨v6, h7, f8, iv6, hs4⟩ | hs4
    · clear hs3
      refine Or.inl ⟨_, _, f8, ?_⟩
      show am_W X _ 85 12 _ [v6, v2] h7 _
      obtain ⟨z9, hs5⟩ := am_ift hs4
      clear hs4
      refine aw_call (F := fm_86 N v2 v6 h7) (t := true) (na := 2) (kd := 1) (as := [v2, v6]) at_85_12 (am_k3v kb_86) mn_86 mk_86 rfl rfl (am_ok_v mi_86 (am_hl rfl (am_ccR iv2 (am_ccR iv6 am_cats_0)) rfl) z9) (am_hc am_cats_0 rfl) (fun _ => ⟨rfl, hh_85⟩) (fun o1 hz9 => rm_86 v2 v6 h7 o1 iv2 iv6 hz9) ?_
      rcases am_cI_s hs5 with ⟨v10, h11, f12, hs6⟩ | hs6
      · clear hs5
        refine Or.inl ⟨_, _, f12, ?_⟩
        show am_W X _ 85 15 _ [(.int v10)] h11 _
        obtain ⟨z13, hs7⟩ := am_ift hs6
        clear hs6
        cases hs7
        exact aw_iret at_85_15 (by rw [rt_85]; exact z13) rfl
      · clear hs5
        exact Or.inr hs6
    · clear hs3
      exact Or.inr hs4
  · clear hs1
    exact Or.inr hs2
def fm_85 (N : Nat) (y0 : Value) (y1 : Int32) (y2 : Int32) (h : am_H) : Option am_O := fg_85_0 N y0 y1 y2 h
theorem rm_85 {X : am_X} {d : Nat} {N : Nat} (y0 : Value) (y1 : Int32) (y2 : Int32) (h : am_H) (o : am_O) (i0 : am_isR y0 = true) (hs : fm_85 N y0 y1 y2 h = some o) : am_W X (d + 1) 85 0 (am_args 0 [y0, .int y1, .int y2]) [] h (fun q => q = o) := by
  rw [am_args_R i0, am_args_I, am_args_I]
  exact rg_85_0 y0 y1 y2 h o rfl rfl rfl i0 hs
def fg_84_22 (N : Nat) (h : am_H) : Option am_O := some (.inl (some (.int 1), h))
theorem rg_84_22 {X : am_X} {d : Nat} {N : Nat} {lv : am_LV} (h : am_H) (o : am_O) (hs : fg_84_22 N h = some o) : am_W X (d + 2) 84 22 lv [] h (fun q => q = o) := by
  unfold fg_84_22 at hs
  refine aw_iconst (v := 1) (pc1 := 23) at_84_22 (by decide) rfl ?_
  cases hs
  exact aw_iret at_84_23 (by rw [rt_84]; rfl) rfl
def fg_84_16 (N : Nat) (s0 : Value) (s1 : Int32) (s2 : Int64) (h : am_H) : Option am_O := ((am_pSL s0 s1 s2 h).bind fun h1 => some (.inl (some (.int 0), h1)))
theorem rg_84_16 {X : am_X} {d : Nat} {N : Nat} {lv : am_LV} (s0 : Value) (s1 : Int32) (s2 : Int64) (h : am_H) (o : am_O) (j0 : am_isR s0 = true) (hs : fg_84_16 N s0 s1 s2 h = some o) : am_W X (d + 2) 84 16 lv [(.long s2), (.int s1), s0] h (fun q => q = o) := by
  unfold fg_84_16 at hs
  obtain ⟨h1, e2, hs1⟩ := am_bind hs
  clear hs
  refine aw_pSL (pc1 := 17) at_84_16 e2 rfl ?_
  refine aw_goto at_84_17 ?_
  refine aw_iconst (v := 0) (pc1 := 25) at_84_24 (by decide) rfl ?_
  cases hs1
  exact aw_iret at_84_25 (by rw [rt_84]; rfl) rfl
def fg_84_0 (N : Nat) (x0 : Value) (x1 : Int32) (x2 : Int32) (x3 : Value) (h : am_H) : Option am_O := (if am_pOk 11 x0 h then (match fm_85 N x0 x1 x2 h with | some (.inl (some (.int v2), h3)) => (if v2 = 0 then (fg_84_16 N x3 0 0 h3) else (fg_84_16 N x3 0 1 h3)) | some (.inr (2, h6)) => (fg_84_22 N h6) | _ => none) else none)
theorem rg_84_0 {X : am_X} {d : Nat} {N : Nat} {lv : am_LV} (x0 : Value) (x1 : Int32) (x2 : Int32) (x3 : Value) (h : am_H) (o : am_O) (l0 : lv.lookup 0 = some x0) (l1 : lv.lookup 1 = some (.int x1)) (l2 : lv.lookup 2 = some (.int x2)) (l3 : lv.lookup 3 = some x3) (i0 : am_isR x0 = true) (i3 : am_isR x3 = true) (hs : fg_84_0 N x0 x1 x2 x3 h = some o) : am_W X (d + 2) 84 0 lv [] h (fun q => q = o) := by
  unfold fg_84_0 at hs
  refine aw_vload_n (pc1 := 1) at_84_0 l3 i3 rfl ?_
  refine aw_iconst (v := 0) (pc1 := 2) at_84_1 (by decide) rfl ?_
  refine aw_vload_n (pc1 := 3) at_84_2 l0 i0 rfl ?_
  refine aw_iload_n (pc1 := 4) at_84_3 l1 rfl ?_
  refine aw_iload_n (pc1 := 5) at_84_4 l2 rfl ?_
  obtain ⟨z1, hs1⟩ := am_ift hs
  clear hs
  refine aw_callH (F := fm_85 N x0 x1 x2 h) (na := 3) (kd := 1) (as := [x0, (.int x1), (.int x2)]) at_84_5 (am_k3v kb_85) mn_85 mk_85 rfl rfl (am_ok_v mi_85 (am_hl rfl (am_ccR i0 (am_ccI (am_ccI am_cats_0))) rfl) z1) (am_hc (am_ccI (am_ccR i3 am_cats_0)) rfl) (fun o1 hz9 => rm_85 x0 x1 x2 h o1 i0 hz9) ?_
  split at hs1
  · rename_i v2 h3 f4
    refine Or.inl ⟨_, _, f4, ?_⟩
    show am_W X _ 84 8 _ [(.int v2), (.int 0), x3] h3 _
    by_cases c5 : v2 = 0
    · rw [if_pos c5] at hs1
      refine aw_ifeq_t at_84_8 c5 ?_
      refine aw_lconst (v := 0) (pc1 := 16) at_84_15 (by decide) rfl ?_
      exact rg_84_16 x3 0 0 h3 o  i3 hs1
    · rw [if_neg c5] at hs1
      refine aw_ifeq_f (pc1 := 11) at_84_8 c5 rfl ?_
      refine aw_lconst (v := 1) (pc1 := 12) at_84_11 (by decide) rfl ?_
      refine aw_goto at_84_12 ?_
      exact rg_84_16 x3 0 1 h3 o  i3 hs1
  · rename_i h6 f7
    refine Or.inr ⟨_, _, 22, 4, f7, rfl, hn_84, hd_84_5_2, ?_⟩
    exact rg_84_22 h6 o   hs1
  · cases hs1
def fm_84 (N : Nat) (y0 : Value) (y1 : Int32) (y2 : Int32) (y3 : Value) (h : am_H) : Option am_O := fg_84_0 N y0 y1 y2 y3 h
theorem rm_84 {X : am_X} {d : Nat} {N : Nat} (y0 : Value) (y1 : Int32) (y2 : Int32) (y3 : Value) (h : am_H) (o : am_O) (i0 : am_isR y0 = true) (i3 : am_isR y3 = true) (hs : fm_84 N y0 y1 y2 y3 h = some o) : am_W X (d + 2) 84 0 (am_args 0 [y0, .int y1, .int y2, y3]) [] h (fun q => q = o) := by
  rw [am_args_R i0, am_args_I, am_args_I, am_args_R i3]
  exact rg_84_0 y0 y1 y2 y3 h o rfl rfl rfl rfl i0 i3 hs
def fg_375_119 (N : Nat) (x2 : Int32) (h : am_H) : Option am_O := (if am_rfit (some FieldType.boolean) x2 then some (.inl (some (.int x2), h)) else none)
theorem rg_375_119 {X : am_X} {d : Nat} {N : Nat} {lv : am_LV} (x2 : Int32) (h : am_H) (o : am_O) (l2 : lv.lookup 2 = some (.int x2)) (hs : fg_375_119 N x2 h = some o) : am_W X (d) 375 119 lv [] h (fun q => q = o) := by
  unfold fg_375_119 at hs
  refine aw_iload_n (pc1 := 120) at_375_119 l2 rfl ?_
  obtain ⟨z1, hs1⟩ := am_ift hs
  clear hs
  cases hs1
  exact aw_iret at_375_120 (by rw [rt_375]; exact z1) rfl
def fg_375_112 (N : Nat) (rec_55 : Value → Int32 → Int32 → Int32 → am_H → Option am_O) (x0 : Value) (x1 : Int32) (x3 : Int32) (s0 : Int32) (h : am_H) : Option am_O := (rec_55 x0 x1 s0 ((x3 + 1)) h)
theorem rg_375_112 {X : am_X} {d : Nat} {N : Nat} {rec_55 : Value → Int32 → Int32 → Int32 → am_H → Option am_O} (q_55 : ∀ (x0 : Value) (x1 : Int32) (x2 : Int32) (x3 : Int32) (h : am_H) (o : am_O), rec_55 x0 x1 x2 x3 h = some o → ∀ lv : am_LV, (lv.lookup 0 = some x0) → (lv.lookup 1 = some (.int x1)) → (lv.lookup 2 = some (.int x2)) → (lv.lookup 3 = some (.int x3)) → (am_isR x0 = true) → am_W X (d) 375 55 lv [] h (fun q => q = o)) {lv : am_LV} (x0 : Value) (x1 : Int32) (x3 : Int32) (s0 : Int32) (h : am_H) (o : am_O) (l0 : lv.lookup 0 = some x0) (l1 : lv.lookup 1 = some (.int x1)) (l3 : lv.lookup 3 = some (.int x3)) (i0 : am_isR x0 = true) (hs : fg_375_112 N rec_55 x0 x1 x3 s0 h = some o) : am_W X (d) 375 112 lv [(.int s0)] h (fun q => q = o) := by
  unfold fg_375_112 at hs
  refine aw_istore_n (lv1 := am_put1 _ 2 _) (pc1 := 113) at_375_112 rfl rfl ?_
  refine aw_iinc (v := (x3 + 1)) (c := 1) (lv1 := am_put1 _ 3 _) (pc1 := 116) at_375_113 (am_lk1 l3 rfl rfl) (by decide) rfl rfl rfl ?_
  refine aw_goto at_375_116 ?_
  exact q_55 x0 x1 s0 ((x3 + 1)) h o hs _ (am_lk1 (am_lk1 l0 rfl rfl) rfl rfl) (am_lk1 (am_lk1 l1 rfl rfl) rfl rfl) (am_lk1 am_lk0 rfl rfl) am_lk0 i0
def fg_375_111 (N : Nat) (rec_55 : Value → Int32 → Int32 → Int32 → am_H → Option am_O) (x0 : Value) (x1 : Int32) (x3 : Int32) (h : am_H) : Option am_O := (fg_375_112 N rec_55 x0 x1 x3 0 h)
theorem rg_375_111 {X : am_X} {d : Nat} {N : Nat} {rec_55 : Value → Int32 → Int32 → Int32 → am_H → Option am_O} (q_55 : ∀ (x0 : Value) (x1 : Int32) (x2 : Int32) (x3 : Int32) (h : am_H) (o : am_O), rec_55 x0 x1 x2 x3 h = some o → ∀ lv : am_LV, (lv.lookup 0 = some x0) → (lv.lookup 1 = some (.int x1)) → (lv.lookup 2 = some (.int x2)) → (lv.lookup 3 = some (.int x3)) → (am_isR x0 = true) → am_W X (d) 375 55 lv [] h (fun q => q = o)) {lv : am_LV} (x0 : Value) (x1 : Int32) (x3 : Int32) (h : am_H) (o : am_O) (l0 : lv.lookup 0 = some x0) (l1 : lv.lookup 1 = some (.int x1)) (l3 : lv.lookup 3 = some (.int x3)) (i0 : am_isR x0 = true) (hs : fg_375_111 N rec_55 x0 x1 x3 h = some o) : am_W X (d) 375 111 lv [] h (fun q => q = o) := by
  unfold fg_375_111 at hs
  refine aw_iconst (v := 0) (pc1 := 112) at_375_111 (by decide) rfl ?_
  exact rg_375_112 q_55 x0 x1 x3 0 h o l0 l1 l3 i0 hs
def fg_375_55 (N : Nat) : Nat → Value → Int32 → Int32 → Int32 → am_H → Option am_O
  | 0 => fun _ _ _ _ _ => none
  | K + 1 => fun x0 x1 x2 x3 h => ((am_vI (am_pG 3086 x0 h)).bind fun v1 => (if v1 ≤ x3 then (fg_375_119 N x2 h) else (if x2 = 0 then (fg_375_119 N x2 h) else ((am_vR (am_pG 3083 x0 h)).bind fun v5 => ((am_pA 0 v5 ((60 * x1) + x3) h).bind fun v7 => ((am_vR (am_pG 3088 x0 h)).bind fun v9 => ((am_pA 0 v9 x3 h).bind fun v11 => (if ¬ v7 = v11 then (fg_375_111 N (fg_375_55 N K) x0 x1 x3 h) else ((am_vR (am_pG 3084 x0 h)).bind fun v14 => ((am_pA 0 v14 ((60 * x1) + x3) h).bind fun v16 => ((am_vR (am_pG 3089 x0 h)).bind fun v18 => ((am_pA 0 v18 x3 h).bind fun v20 => (if ¬ v16 = v20 then (fg_375_111 N (fg_375_55 N K) x0 x1 x3 h) else (fg_375_112 N (fg_375_55 N K) x0 x1 x3 1 h))))))))))))))
theorem rg_375_55 {X : am_X} {d : Nat} {N : Nat} : ∀ (K : Nat) (x0 : Value) (x1 : Int32) (x2 : Int32) (x3 : Int32) (h : am_H) (o : am_O), fg_375_55 N K x0 x1 x2 x3 h = some o → ∀ lv : am_LV, (lv.lookup 0 = some x0) → (lv.lookup 1 = some (.int x1)) → (lv.lookup 2 = some (.int x2)) → (lv.lookup 3 = some (.int x3)) → (am_isR x0 = true) → am_W X (d) 375 55 lv [] h (fun q => q = o) := by
  intro K
  induction K with
  | zero => intro x0 x1 x2 x3 h o hs; cases hs
  | succ K ih =>
    intro x0 x1 x2 x3 h o hs lv l0 l1 l2 l3 i0
    unfold fg_375_55 at hs
    refine aw_iload_n (pc1 := 56) at_375_55 l3 rfl ?_
    refine aw_vload_n (pc1 := 57) at_375_56 l0 i0 rfl ?_
    obtain ⟨v1, e2, hs1⟩ := am_bind hs
    clear hs
    refine aw_pG (pc1 := 60) at_375_57 (am_vI_s e2) rfl ?_
    by_cases c3 : v1 ≤ x3
    · rw [if_pos c3] at hs1
      refine aw_icge_t at_375_60 c3 ?_
      exact rg_375_119 x2 h o l2  hs1
    · rw [if_neg c3] at hs1
      refine aw_icge_f (pc1 := 63) at_375_60 c3 rfl ?_
      refine aw_iload_n (pc1 := 64) at_375_63 l2 rfl ?_
      by_cases c4 : x2 = 0
      · rw [if_pos c4] at hs1
        refine aw_ifeq_t at_375_64 c4 ?_
        exact rg_375_119 x2 h o l2  hs1
      · rw [if_neg c4] at hs1
        refine aw_ifeq_f (pc1 := 67) at_375_64 c4 rfl ?_
        refine aw_vload_n (pc1 := 68) at_375_67 l0 i0 rfl ?_
        obtain ⟨v5, e6, hs2⟩ := am_bind hs1
        clear hs1
        refine aw_pG (pc1 := 71) at_375_68 (am_vR_s e6).1 rfl ?_
        refine aw_bipush (v := 60) (pc1 := 73) at_375_71 (by decide) rfl ?_
        refine aw_iload_n (pc1 := 74) at_375_73 l1 rfl ?_
        refine aw_imul (v := (60 * x1)) (pc1 := 75) at_375_74 rfl rfl ?_
        refine aw_iload_n (pc1 := 76) at_375_75 l3 rfl ?_
        refine aw_iadd (v := ((60 * x1) + x3)) (pc1 := 77) at_375_76 rfl rfl ?_
        obtain ⟨v7, e8, hs3⟩ := am_bind hs2
        clear hs2
        refine aw_pA (pc1 := 78) at_375_77 (Or.inl ⟨rfl, rfl⟩) e8 rfl ?_
        refine aw_vload_n (pc1 := 79) at_375_78 l0 i0 rfl ?_
        obtain ⟨v9, e10, hs4⟩ := am_bind hs3
        clear hs3
        refine aw_pG (pc1 := 82) at_375_79 (am_vR_s e10).1 rfl ?_
        refine aw_iload_n (pc1 := 83) at_375_82 l3 rfl ?_
        obtain ⟨v11, e12, hs5⟩ := am_bind hs4
        clear hs4
        refine aw_pA (pc1 := 84) at_375_83 (Or.inl ⟨rfl, rfl⟩) e12 rfl ?_
        by_cases c13 : ¬ v7 = v11
        · rw [if_pos c13] at hs5
          refine aw_icne_t at_375_84 c13 ?_
          exact rg_375_111 (fun z0 z1 z2 z3 h o hs5 => ih z0 z1 z2 z3 h o hs5) x0 x1 x3 h o l0 l1 l3 i0 hs5
        · rw [if_neg c13] at hs5
          refine aw_icne_f (pc1 := 87) at_375_84 c13 rfl ?_
          refine aw_vload_n (pc1 := 88) at_375_87 l0 i0 rfl ?_
          obtain ⟨v14, e15, hs6⟩ := am_bind hs5
          clear hs5
          refine aw_pG (pc1 := 91) at_375_88 (am_vR_s e15).1 rfl ?_
          refine aw_bipush (v := 60) (pc1 := 93) at_375_91 (by decide) rfl ?_
          refine aw_iload_n (pc1 := 94) at_375_93 l1 rfl ?_
          refine aw_imul (v := (60 * x1)) (pc1 := 95) at_375_94 rfl rfl ?_
          refine aw_iload_n (pc1 := 96) at_375_95 l3 rfl ?_
          refine aw_iadd (v := ((60 * x1) + x3)) (pc1 := 97) at_375_96 rfl rfl ?_
          obtain ⟨v16, e17, hs7⟩ := am_bind hs6
          clear hs6
          refine aw_pA (pc1 := 98) at_375_97 (Or.inl ⟨rfl, rfl⟩) e17 rfl ?_
          refine aw_vload_n (pc1 := 99) at_375_98 l0 i0 rfl ?_
          obtain ⟨v18, e19, hs8⟩ := am_bind hs7
          clear hs7
          refine aw_pG (pc1 := 102) at_375_99 (am_vR_s e19).1 rfl ?_
          refine aw_iload_n (pc1 := 103) at_375_102 l3 rfl ?_
          obtain ⟨v20, e21, hs9⟩ := am_bind hs8
          clear hs8
          refine aw_pA (pc1 := 104) at_375_103 (Or.inl ⟨rfl, rfl⟩) e21 rfl ?_
          by_cases c22 : ¬ v16 = v20
          · rw [if_pos c22] at hs9
            refine aw_icne_t at_375_104 c22 ?_
            exact rg_375_111 (fun z0 z1 z2 z3 h o hs9 => ih z0 z1 z2 z3 h o hs9) x0 x1 x3 h o l0 l1 l3 i0 hs9
          · rw [if_neg c22] at hs9
            refine aw_icne_f (pc1 := 107) at_375_104 c22 rfl ?_
            refine aw_iconst (v := 1) (pc1 := 108) at_375_107 (by decide) rfl ?_
            refine aw_goto at_375_108 ?_
            exact rg_375_112 (fun z0 z1 z2 z3 h o hs9 => ih z0 z1 z2 z3 h o hs9) x0 x1 x3 1 h o l0 l1 l3 i0 hs9
def fg_375_52 (N : Nat) (x0 : Value) (x1 : Int32) (s0 : Int32) (h : am_H) : Option am_O := (fg_375_55 N N x0 x1 s0 0 h)
theorem rg_375_52 {X : am_X} {d : Nat} {N : Nat} {lv : am_LV} (x0 : Value) (x1 : Int32) (s0 : Int32) (h : am_H) (o : am_O) (l0 : lv.lookup 0 = some x0) (l1 : lv.lookup 1 = some (.int x1)) (i0 : am_isR x0 = true) (hs : fg_375_52 N x0 x1 s0 h = some o) : am_W X (d) 375 52 lv [(.int s0)] h (fun q => q = o) := by
  unfold fg_375_52 at hs
  refine aw_istore_n (lv1 := am_put1 _ 2 _) (pc1 := 53) at_375_52 rfl rfl ?_
  refine aw_iconst (v := 0) (pc1 := 54) at_375_53 (by decide) rfl ?_
  refine aw_istore_n (lv1 := am_put1 _ 3 _) (pc1 := 55) at_375_54 rfl rfl ?_
  exact rg_375_55 N x0 x1 s0 0 h o hs _ (am_lk1 (am_lk1 l0 rfl rfl) rfl rfl) (am_lk1 (am_lk1 l1 rfl rfl) rfl rfl) (am_lk1 am_lk0 rfl rfl) am_lk0 i0
def fg_375_51 (N : Nat) (x0 : Value) (x1 : Int32) (h : am_H) : Option am_O := (fg_375_52 N x0 x1 0 h)
theorem rg_375_51 {X : am_X} {d : Nat} {N : Nat} {lv : am_LV} (x0 : Value) (x1 : Int32) (h : am_H) (o : am_O) (l0 : lv.lookup 0 = some x0) (l1 : lv.lookup 1 = some (.int x1)) (i0 : am_isR x0 = true) (hs : fg_375_51 N x0 x1 h = some o) : am_W X (d) 375 51 lv [] h (fun q => q = o) := by
  unfold fg_375_51 at hs
  refine aw_iconst (v := 0) (pc1 := 52) at_375_51 (by decide) rfl ?_
  exact rg_375_52 x0 x1 0 h o l0 l1 i0 hs
def fg_375_47 (N : Nat) (x0 : Value) (x1 : Int32) (h : am_H) : Option am_O := (fg_375_52 N x0 x1 1 h)
theorem rg_375_47 {X : am_X} {d : Nat} {N : Nat} {lv : am_LV} (x0 : Value) (x1 : Int32) (h : am_H) (o : am_O) (l0 : lv.lookup 0 = some x0) (l1 : lv.lookup 1 = some (.int x1)) (i0 : am_isR x0 = true) (hs : fg_375_47 N x0 x1 h = some o) : am_W X (d) 375 47 lv [] h (fun q => q = o) := by
  unfold fg_375_47 at hs
  refine aw_iconst (v := 1) (pc1 := 48) at_375_47 (by decide) rfl ?_
  refine aw_goto at_375_48 ?_
  exact rg_375_52 x0 x1 1 h o l0 l1 i0 hs
def fg_375_0 (N : Nat) (x0 : Value) (x1 : Int32) (h : am_H) : Option am_O := ((am_vR (am_pG 3074 x0 h)).bind fun v1 => ((am_pA 0 v1 x1 h).bind fun v3 => ((am_vI (am_pG 3085 x0 h)).bind fun v5 => (if ¬ v3 = v5 then (fg_375_51 N x0 x1 h) else ((am_vR (am_pG 3075 x0 h)).bind fun v8 => ((am_pA 0 v8 x1 h).bind fun v10 => ((am_vI (am_pG 3086 x0 h)).bind fun v12 => (if ¬ v10 = v12 then (fg_375_51 N x0 x1 h) else ((am_vI (am_pG 3085 x0 h)).bind fun v15 => (if ¬ v15 = 3 then (fg_375_47 N x0 x1 h) else ((am_vR (am_pG 3076 x0 h)).bind fun v18 => ((am_pA 0 v18 x1 h).bind fun v20 => ((am_vI (am_pG 3087 x0 h)).bind fun v22 => (if ¬ v20 = v22 then (fg_375_51 N x0 x1 h) else (fg_375_47 N x0 x1 h)))))))))))))))
theorem rg_375_0 {X : am_X} {d : Nat} {N : Nat} {lv : am_LV} (x0 : Value) (x1 : Int32) (h : am_H) (o : am_O) (l0 : lv.lookup 0 = some x0) (l1 : lv.lookup 1 = some (.int x1)) (i0 : am_isR x0 = true) (hs : fg_375_0 N x0 x1 h = some o) : am_W X (d) 375 0 lv [] h (fun q => q = o) := by
  unfold fg_375_0 at hs
  refine aw_vload_n (pc1 := 1) at_375_0 l0 i0 rfl ?_
  obtain ⟨v1, e2, hs1⟩ := am_bind hs
  clear hs
  refine aw_pG (pc1 := 4) at_375_1 (am_vR_s e2).1 rfl ?_
  refine aw_iload_n (pc1 := 5) at_375_4 l1 rfl ?_
  obtain ⟨v3, e4, hs2⟩ := am_bind hs1
  clear hs1
  refine aw_pA (pc1 := 6) at_375_5 (Or.inl ⟨rfl, rfl⟩) e4 rfl ?_
  refine aw_vload_n (pc1 := 7) at_375_6 l0 i0 rfl ?_
  obtain ⟨v5, e6, hs3⟩ := am_bind hs2
  clear hs2
  refine aw_pG (pc1 := 10) at_375_7 (am_vI_s e6) rfl ?_
  by_cases c7 : ¬ v3 = v5
  · rw [if_pos c7] at hs3
    refine aw_icne_t at_375_10 c7 ?_
    exact rg_375_51 x0 x1 h o l0 l1 i0 hs3
  · rw [if_neg c7] at hs3
    refine aw_icne_f (pc1 := 13) at_375_10 c7 rfl ?_
    refine aw_vload_n (pc1 := 14) at_375_13 l0 i0 rfl ?_
    obtain ⟨v8, e9, hs4⟩ := am_bind hs3
    clear hs3
    refine aw_pG (pc1 := 17) at_375_14 (am_vR_s e9).1 rfl ?_
    refine aw_iload_n (pc1 := 18) at_375_17 l1 rfl ?_
    obtain ⟨v10, e11, hs5⟩ := am_bind hs4
    clear hs4
    refine aw_pA (pc1 := 19) at_375_18 (Or.inl ⟨rfl, rfl⟩) e11 rfl ?_
    refine aw_vload_n (pc1 := 20) at_375_19 l0 i0 rfl ?_
    obtain ⟨v12, e13, hs6⟩ := am_bind hs5
    clear hs5
    refine aw_pG (pc1 := 23) at_375_20 (am_vI_s e13) rfl ?_
    by_cases c14 : ¬ v10 = v12
    · rw [if_pos c14] at hs6
      refine aw_icne_t at_375_23 c14 ?_
      exact rg_375_51 x0 x1 h o l0 l1 i0 hs6
    · rw [if_neg c14] at hs6
      refine aw_icne_f (pc1 := 26) at_375_23 c14 rfl ?_
      refine aw_vload_n (pc1 := 27) at_375_26 l0 i0 rfl ?_
      obtain ⟨v15, e16, hs7⟩ := am_bind hs6
      clear hs6
      refine aw_pG (pc1 := 30) at_375_27 (am_vI_s e16) rfl ?_
      refine aw_iconst (v := 3) (pc1 := 31) at_375_30 (by decide) rfl ?_
      by_cases c17 : ¬ v15 = 3
      · rw [if_pos c17] at hs7
        refine aw_icne_t at_375_31 c17 ?_
        exact rg_375_47 x0 x1 h o l0 l1 i0 hs7
      · rw [if_neg c17] at hs7
        refine aw_icne_f (pc1 := 34) at_375_31 c17 rfl ?_
        refine aw_vload_n (pc1 := 35) at_375_34 l0 i0 rfl ?_
        obtain ⟨v18, e19, hs8⟩ := am_bind hs7
        clear hs7
        refine aw_pG (pc1 := 38) at_375_35 (am_vR_s e19).1 rfl ?_
        refine aw_iload_n (pc1 := 39) at_375_38 l1 rfl ?_
        obtain ⟨v20, e21, hs9⟩ := am_bind hs8
        clear hs8
        refine aw_pA (pc1 := 40) at_375_39 (Or.inl ⟨rfl, rfl⟩) e21 rfl ?_
        refine aw_vload_n (pc1 := 41) at_375_40 l0 i0 rfl ?_
        obtain ⟨v22, e23, hs10⟩ := am_bind hs9
        clear hs9
        refine aw_pG (pc1 := 44) at_375_41 (am_vI_s e23) rfl ?_
        by_cases c24 : ¬ v20 = v22
        · rw [if_pos c24] at hs10
          refine aw_icne_t at_375_44 c24 ?_
          exact rg_375_51 x0 x1 h o l0 l1 i0 hs10
        · rw [if_neg c24] at hs10
          refine aw_icne_f (pc1 := 47) at_375_44 c24 rfl ?_
          exact rg_375_47 x0 x1 h o l0 l1 i0 hs10
def fm_375 (N : Nat) (y0 : Value) (y1 : Int32) (h : am_H) : Option am_O := fg_375_0 N y0 y1 h
theorem rm_375 {X : am_X} {d : Nat} {N : Nat} (y0 : Value) (y1 : Int32) (h : am_H) (o : am_O) (i0 : am_isR y0 = true) (hs : fm_375 N y0 y1 h = some o) : am_W X (d) 375 0 (am_args 0 [y0, .int y1]) [] h (fun q => q = o) := by
  rw [am_args_R i0, am_args_I]
  exact rg_375_0 y0 y1 h o rfl rfl i0 hs
def fg_374_22 (N : Nat) (x0 : Value) (x1 : Int32) (x2 : Int32) (s0 : Value) (s1 : Int32) (h : am_H) : Option am_O := ((am_pP 3072 s0 (.int s1) h).bind fun h1 => ((am_vI (am_pG 3072 x0 h1)).bind fun v3 => (if v3 ≤ 0 then (if am_pOk 12 x0 h1 then am_cV true (fm_359 N x0 x1 h1) (fun h8 => (if am_pOk 12 x0 h8 then am_cI true (fm_375 N x0 x2 h8) (fun v11 h12 => (if am_rfit (some FieldType.boolean) v11 then some (.inl (some (.int v11), h12)) else none)) else none)) else none) else some (.inl (some (.int 0), h1)))))
theorem rg_374_22 {X : am_X} {d : Nat} {N : Nat} {lv : am_LV} (x0 : Value) (x1 : Int32) (x2 : Int32) (s0 : Value) (s1 : Int32) (h : am_H) (o : am_O) (l0 : lv.lookup 0 = some x0) (l1 : lv.lookup 1 = some (.int x1)) (l2 : lv.lookup 2 = some (.int x2)) (i0 : am_isR x0 = true) (j0 : am_isR s0 = true) (hs : fg_374_22 N x0 x1 x2 s0 s1 h = some o) : am_W X (d + 2) 374 22 lv [(.int s1), s0] h (fun q => q = o) := by
  unfold fg_374_22 at hs
  obtain ⟨h1, e2, hs1⟩ := am_bind hs
  clear hs
  refine aw_pP (pc1 := 25) at_374_22 e2 rfl ?_
  refine aw_vload_n (pc1 := 26) at_374_25 l0 i0 rfl ?_
  obtain ⟨v3, e4, hs2⟩ := am_bind hs1
  clear hs1
  refine aw_pG (pc1 := 29) at_374_26 (am_vI_s e4) rfl ?_
  by_cases c5 : v3 ≤ 0
  · rw [if_pos c5] at hs2
    refine aw_ifle_t at_374_29 c5 ?_
    refine aw_vload_n (pc1 := 35) at_374_34 l0 i0 rfl ?_
    refine aw_iload_n (pc1 := 36) at_374_35 l1 rfl ?_
    obtain ⟨z6, hs3⟩ := am_ift hs2
    clear hs2
    refine aw_call (F := fm_359 N x0 x1 h1) (t := true) (na := 2) (kd := 1) (as := [x0, (.int x1)]) at_374_36 (am_k3v kb_359) mn_359 mk_359 rfl rfl (am_ok_v mi_359 (am_hl rfl (am_ccR i0 (am_ccI am_cats_0)) rfl) z6) (am_hc am_cats_0 rfl) (fun _ => ⟨rfl, hh_374⟩) (fun o1 hz9 => rm_359 x0 x1 h1 o1 i0 hz9) ?_
    rcases am_cV_s hs3 with ⟨h8, f9, hs4⟩ | hs4
    · clear hs3
      refine Or.inl ⟨_, _, f9, ?_⟩
      show am_W X _ 374 39 _ [] h8 _
      refine aw_vload_n (pc1 := 40) at_374_39 l0 i0 rfl ?_
      refine aw_iload_n (pc1 := 41) at_374_40 l2 rfl ?_
      obtain ⟨z10, hs5⟩ := am_ift hs4
      clear hs4
      refine aw_call (F := fm_375 N x0 x2 h8) (t := true) (na := 2) (kd := 1) (as := [x0, (.int x2)]) at_374_41 (am_k3v kb_375) mn_375 mk_375 rfl rfl (am_ok_v mi_375 (am_hl rfl (am_ccR i0 (am_ccI am_cats_0)) rfl) z10) (am_hc am_cats_0 rfl) (fun _ => ⟨rfl, hh_374⟩) (fun o1 hz9 => rm_375 x0 x2 h8 o1 i0 hz9) ?_
      rcases am_cI_s hs5 with ⟨v11, h12, f13, hs6⟩ | hs6
      · clear hs5
        refine Or.inl ⟨_, _, f13, ?_⟩
        show am_W X _ 374 44 _ [(.int v11)] h12 _
        obtain ⟨z14, hs7⟩ := am_ift hs6
        clear hs6
        cases hs7
        exact aw_iret at_374_44 (by rw [rt_374]; exact z14) rfl
      · clear hs5
        exact Or.inr hs6
    · clear hs3
      exact Or.inr hs4
  · rw [if_neg c5] at hs2
    refine aw_ifle_f (pc1 := 32) at_374_29 c5 rfl ?_
    refine aw_iconst (v := 0) (pc1 := 33) at_374_32 (by decide) rfl ?_
    cases hs2
    exact aw_iret at_374_33 (by rw [rt_374]; decide) rfl
def fg_374_21 (N : Nat) (x0 : Value) (x1 : Int32) (x2 : Int32) (s0 : Value) (h : am_H) : Option am_O := (fg_374_22 N x0 x1 x2 s0 1 h)
theorem rg_374_21 {X : am_X} {d : Nat} {N : Nat} {lv : am_LV} (x0 : Value) (x1 : Int32) (x2 : Int32) (s0 : Value) (h : am_H) (o : am_O) (l0 : lv.lookup 0 = some x0) (l1 : lv.lookup 1 = some (.int x1)) (l2 : lv.lookup 2 = some (.int x2)) (i0 : am_isR x0 = true) (j0 : am_isR s0 = true) (hs : fg_374_21 N x0 x1 x2 s0 h = some o) : am_W X (d + 2) 374 21 lv [s0] h (fun q => q = o) := by
  unfold fg_374_21 at hs
  refine aw_iconst (v := 1) (pc1 := 22) at_374_21 (by decide) rfl ?_
  exact rg_374_22 x0 x1 x2 s0 1 h o l0 l1 l2 i0 j0 hs
def fg_374_0 (N : Nat) (x0 : Value) (x1 : Int32) (x2 : Int32) (h : am_H) : Option am_O := (if am_pOk 12 x0 h then am_cI true (fm_358 x0 x1 h) (fun v2 h3 => (if v2 = 0 then (fg_374_21 N x0 x1 x2 x0 h3) else (if am_pOk 12 x0 h3 then am_cI true (fm_358 x0 x2 h3) (fun v7 h8 => (if v7 = 0 then (fg_374_21 N x0 x1 x2 x0 h8) else (fg_374_22 N x0 x1 x2 x0 0 h8))) else none))) else none)
theorem rg_374_0 {X : am_X} {d : Nat} {N : Nat} {lv : am_LV} (x0 : Value) (x1 : Int32) (x2 : Int32) (h : am_H) (o : am_O) (l0 : lv.lookup 0 = some x0) (l1 : lv.lookup 1 = some (.int x1)) (l2 : lv.lookup 2 = some (.int x2)) (i0 : am_isR x0 = true) (hs : fg_374_0 N x0 x1 x2 h = some o) : am_W X (d + 2) 374 0 lv [] h (fun q => q = o) := by
  unfold fg_374_0 at hs
  refine aw_vload_n (pc1 := 1) at_374_0 l0 i0 rfl ?_
  refine aw_vload_n (pc1 := 2) at_374_1 l0 i0 rfl ?_
  refine aw_iload_n (pc1 := 3) at_374_2 l1 rfl ?_
  obtain ⟨z1, hs1⟩ := am_ift hs
  clear hs
  refine aw_call (F := fm_358 x0 x1 h) (t := true) (na := 2) (kd := 1) (as := [x0, (.int x1)]) at_374_3 (am_k3v kb_358) mn_358 mk_358 rfl rfl (am_ok_v mi_358 (am_hl rfl (am_ccR i0 (am_ccI am_cats_0)) rfl) z1) (am_hc (am_ccR i0 am_cats_0) rfl) (fun _ => ⟨rfl, hh_374⟩) (fun o1 hz9 => rm_358 x0 x1 h o1 i0 hz9) ?_
  rcases am_cI_s hs1 with ⟨v2, h3, f4, hs2⟩ | hs2
  · clear hs1
    refine Or.inl ⟨_, _, f4, ?_⟩
    show am_W X _ 374 6 _ [(.int v2), x0] h3 _
    by_cases c5 : v2 = 0
    · rw [if_pos c5] at hs2
      refine aw_ifeq_t at_374_6 c5 ?_
      exact rg_374_21 x0 x1 x2 x0 h3 o l0 l1 l2 i0 i0 hs2
    · rw [if_neg c5] at hs2
      refine aw_ifeq_f (pc1 := 9) at_374_6 c5 rfl ?_
      refine aw_vload_n (pc1 := 10) at_374_9 l0 i0 rfl ?_
      refine aw_iload_n (pc1 := 11) at_374_10 l2 rfl ?_
      obtain ⟨z6, hs3⟩ := am_ift hs2
      clear hs2
      refine aw_call (F := fm_358 x0 x2 h3) (t := true) (na := 2) (kd := 1) (as := [x0, (.int x2)]) at_374_11 (am_k3v kb_358) mn_358 mk_358 rfl rfl (am_ok_v mi_358 (am_hl rfl (am_ccR i0 (am_ccI am_cats_0)) rfl) z6) (am_hc (am_ccR i0 am_cats_0) rfl) (fun _ => ⟨rfl, hh_374⟩) (fun o1 hz9 => rm_358 x0 x2 h3 o1 i0 hz9) ?_
      rcases am_cI_s hs3 with ⟨v7, h8, f9, hs4⟩ | hs4
      · clear hs3
        refine Or.inl ⟨_, _, f9, ?_⟩
        show am_W X _ 374 14 _ [(.int v7), x0] h8 _
        by_cases c10 : v7 = 0
        · rw [if_pos c10] at hs4
          refine aw_ifeq_t at_374_14 c10 ?_
          exact rg_374_21 x0 x1 x2 x0 h8 o l0 l1 l2 i0 i0 hs4
        · rw [if_neg c10] at hs4
          refine aw_ifeq_f (pc1 := 17) at_374_14 c10 rfl ?_
          refine aw_iconst (v := 0) (pc1 := 18) at_374_17 (by decide) rfl ?_
          refine aw_goto at_374_18 ?_
          exact rg_374_22 x0 x1 x2 x0 0 h8 o l0 l1 l2 i0 i0 hs4
      · clear hs3
        exact Or.inr hs4
  · clear hs1
    exact Or.inr hs2
def fm_374 (N : Nat) (y0 : Value) (y1 : Int32) (y2 : Int32) (h : am_H) : Option am_O := fg_374_0 N y0 y1 y2 h
theorem rm_374 {X : am_X} {d : Nat} {N : Nat} (y0 : Value) (y1 : Int32) (y2 : Int32) (h : am_H) (o : am_O) (i0 : am_isR y0 = true) (hs : fm_374 N y0 y1 y2 h = some o) : am_W X (d + 2) 374 0 (am_args 0 [y0, .int y1, .int y2]) [] h (fun q => q = o) := by
  rw [am_args_R i0, am_args_I, am_args_I]
  exact rg_374_0 y0 y1 y2 h o rfl rfl rfl i0 hs
def fg_88_11 (h : am_H) : Option am_O := some (.inr (0, h ++ [am_dummy]))
theorem rg_88_11 {X : am_X} {d : Nat} {lv : am_LV} (h : am_H) (o : am_O) (hs : fg_88_11 h = some o) : am_W X (d + 1) 88 11 lv [] h (fun q => q = o) := by
  unfold fg_88_11 at hs
  cases hs
  exact aw_throw at_88_11 rfl th_88_11 (am_hc am_cats_0 rfl) rfl
def fg_88_0 (x0 : Value) (x1 : Int32) (h : am_H) : Option am_O := (if x1 < 1 then (fg_88_11 h) else (if x1 ≤ 12 then ((am_vR (am_pG 2822 x0 h)).bind fun v3 => (if am_pOk 4 v3 h then am_cL true (fm_15 v3 0 x1 h) (fun v6 h7 => some (.inl (some (.long v6), h7))) else none)) else (fg_88_11 h)))
theorem rg_88_0 {X : am_X} {d : Nat} {lv : am_LV} (x0 : Value) (x1 : Int32) (h : am_H) (o : am_O) (l0 : lv.lookup 0 = some x0) (l1 : lv.lookup 1 = some (.int x1)) (i0 : am_isR x0 = true) (hs : fg_88_0 x0 x1 h = some o) : am_W X (d + 1) 88 0 lv [] h (fun q => q = o) := by
  unfold fg_88_0 at hs
  refine aw_iload_n (pc1 := 1) at_88_0 l1 rfl ?_
  refine aw_iconst (v := 1) (pc1 := 2) at_88_1 (by decide) rfl ?_
  by_cases c1 : x1 < 1
  · rw [if_pos c1] at hs
    refine aw_iclt_t at_88_2 c1 ?_
    exact rg_88_11 h o   hs
  · rw [if_neg c1] at hs
    refine aw_iclt_f (pc1 := 5) at_88_2 c1 rfl ?_
    refine aw_iload_n (pc1 := 6) at_88_5 l1 rfl ?_
    refine aw_bipush (v := 12) (pc1 := 8) at_88_6 (by decide) rfl ?_
    by_cases c2 : x1 ≤ 12
    · rw [if_pos c2] at hs
      refine aw_icle_t at_88_8 c2 ?_
      refine aw_vload_n (pc1 := 22) at_88_21 l0 i0 rfl ?_
      obtain ⟨v3, e4, hs1⟩ := am_bind hs
      clear hs
      refine aw_pG (pc1 := 25) at_88_22 (am_vR_s e4).1 rfl ?_
      refine aw_iconst (v := 0) (pc1 := 26) at_88_25 (by decide) rfl ?_
      refine aw_iload_n (pc1 := 27) at_88_26 l1 rfl ?_
      obtain ⟨z5, hs2⟩ := am_ift hs1
      clear hs1
      refine aw_call (F := fm_15 v3 0 x1 h) (t := true) (na := 3) (kd := 1) (as := [v3, (.int 0), (.int x1)]) at_88_27 (am_k3v kb_15) mn_15 mk_15 rfl rfl (am_ok_v mi_15 (am_hl rfl (am_ccR (am_vR_s e4).2 (am_ccI (am_ccI am_cats_0))) rfl) z5) (am_hc am_cats_0 rfl) (fun _ => ⟨rfl, hh_88⟩) (fun o1 hz9 => rm_15 v3 0 x1 h o1 (am_vR_s e4).2 hz9) ?_
      rcases am_cL_s hs2 with ⟨v6, h7, f8, hs3⟩ | hs3
      · clear hs2
        refine Or.inl ⟨_, _, f8, ?_⟩
        show am_W X _ 88 30 _ [(.long v6)] h7 _
        cases hs3
        exact aw_lret at_88_30 rt_88 rfl
      · clear hs2
        exact Or.inr hs3
    · rw [if_neg c2] at hs
      refine aw_icle_f (pc1 := 11) at_88_8 c2 rfl ?_
      exact rg_88_11 h o   hs
def fm_88 (y0 : Value) (y1 : Int32) (h : am_H) : Option am_O := fg_88_0 y0 y1 h
theorem rm_88 {X : am_X} {d : Nat} (y0 : Value) (y1 : Int32) (h : am_H) (o : am_O) (i0 : am_isR y0 = true) (hs : fm_88 y0 y1 h = some o) : am_W X (d + 1) 88 0 (am_args 0 [y0, .int y1]) [] h (fun q => q = o) := by
  rw [am_args_R i0, am_args_I]
  exact rg_88_0 y0 y1 h o rfl rfl i0 hs
def fg_87_12 (h : am_H) : Option am_O := some (.inl (some (.int 1), h))
theorem rg_87_12 {X : am_X} {d : Nat} {lv : am_LV} (h : am_H) (o : am_O) (hs : fg_87_12 h = some o) : am_W X (d + 2) 87 12 lv [] h (fun q => q = o) := by
  unfold fg_87_12 at hs
  refine aw_iconst (v := 1) (pc1 := 13) at_87_12 (by decide) rfl ?_
  cases hs
  exact aw_iret at_87_13 (by rw [rt_87]; rfl) rfl
def fg_87_0 (x0 : Value) (x1 : Int32) (x2 : Value) (h : am_H) : Option am_O := (if am_pOk 11 x0 h then (match fm_88 x0 x1 h with | some (.inl (some (.long v2), h3)) => ((am_pSL x2 0 v2 h3).bind fun h5 => some (.inl (some (.int 0), h5))) | some (.inr (0, h7)) => (fg_87_12 h7) | _ => none) else none)
theorem rg_87_0 {X : am_X} {d : Nat} {lv : am_LV} (x0 : Value) (x1 : Int32) (x2 : Value) (h : am_H) (o : am_O) (l0 : lv.lookup 0 = some x0) (l1 : lv.lookup 1 = some (.int x1)) (l2 : lv.lookup 2 = some x2) (i0 : am_isR x0 = true) (i2 : am_isR x2 = true) (hs : fg_87_0 x0 x1 x2 h = some o) : am_W X (d + 2) 87 0 lv [] h (fun q => q = o) := by
  unfold fg_87_0 at hs
  refine aw_vload_n (pc1 := 1) at_87_0 l2 i2 rfl ?_
  refine aw_iconst (v := 0) (pc1 := 2) at_87_1 (by decide) rfl ?_
  refine aw_vload_n (pc1 := 3) at_87_2 l0 i0 rfl ?_
  refine aw_iload_n (pc1 := 4) at_87_3 l1 rfl ?_
  obtain ⟨z1, hs1⟩ := am_ift hs
  clear hs
  refine aw_callH (F := fm_88 x0 x1 h) (na := 2) (kd := 1) (as := [x0, (.int x1)]) at_87_4 (am_k3v kb_88) mn_88 mk_88 rfl rfl (am_ok_v mi_88 (am_hl rfl (am_ccR i0 (am_ccI am_cats_0)) rfl) z1) (am_hc (am_ccI (am_ccR i2 am_cats_0)) rfl) (fun o1 hz9 => rm_88 x0 x1 h o1 i0 hz9) ?_
  split at hs1
  · rename_i v2 h3 f4
    refine Or.inl ⟨_, _, f4, ?_⟩
    show am_W X _ 87 7 _ [(.long v2), (.int 0), x2] h3 _
    obtain ⟨h5, e6, hs2⟩ := am_bind hs1
    clear hs1
    refine aw_pSL (pc1 := 8) at_87_7 e6 rfl ?_
    refine aw_goto at_87_8 ?_
    refine aw_iconst (v := 0) (pc1 := 15) at_87_14 (by decide) rfl ?_
    cases hs2
    exact aw_iret at_87_15 (by rw [rt_87]; rfl) rfl
  · rename_i h7 f8
    refine Or.inr ⟨_, _, 12, 3, f8, rfl, hn_87, hd_87_4_0, ?_⟩
    exact rg_87_12 h7 o   hs1
  · cases hs1
def fm_87 (y0 : Value) (y1 : Int32) (y2 : Value) (h : am_H) : Option am_O := fg_87_0 y0 y1 y2 h
theorem rm_87 {X : am_X} {d : Nat} (y0 : Value) (y1 : Int32) (y2 : Value) (h : am_H) (o : am_O) (i0 : am_isR y0 = true) (i2 : am_isR y2 = true) (hs : fm_87 y0 y1 y2 h = some o) : am_W X (d + 2) 87 0 (am_args 0 [y0, .int y1, y2]) [] h (fun q => q = o) := by
  rw [am_args_R i0, am_args_I, am_args_R i2]
  exact rg_87_0 y0 y1 y2 h o rfl rfl rfl i0 i2 hs
def fg_379_64 (s0 : Int32) (h : am_H) : Option am_O := (if am_rfit (some FieldType.boolean) s0 then some (.inl (some (.int s0), h)) else none)
theorem rg_379_64 {X : am_X} {d : Nat} {lv : am_LV} (s0 : Int32) (h : am_H) (o : am_O) (hs : fg_379_64 s0 h = some o) : am_W X (d) 379 64 lv [(.int s0)] h (fun q => q = o) := by
  unfold fg_379_64 at hs
  obtain ⟨z1, hs1⟩ := am_ift hs
  clear hs
  cases hs1
  exact aw_iret at_379_64 (by rw [rt_379]; exact z1) rfl
def fg_379_63 (h : am_H) : Option am_O := (fg_379_64 0 h)
theorem rg_379_63 {X : am_X} {d : Nat} {lv : am_LV} (h : am_H) (o : am_O) (hs : fg_379_63 h = some o) : am_W X (d) 379 63 lv [] h (fun q => q = o) := by
  unfold fg_379_63 at hs
  refine aw_iconst (v := 0) (pc1 := 64) at_379_63 (by decide) rfl ?_
  exact rg_379_64 0 h o   hs
def fg_379_19 (h : am_H) : Option am_O := (fg_379_64 0 h)
theorem rg_379_19 {X : am_X} {d : Nat} {lv : am_LV} (h : am_H) (o : am_O) (hs : fg_379_19 h = some o) : am_W X (d) 379 19 lv [] h (fun q => q = o) := by
  unfold fg_379_19 at hs
  refine aw_iconst (v := 0) (pc1 := 20) at_379_19 (by decide) rfl ?_
  refine aw_goto at_379_20 ?_
  exact rg_379_64 0 h o   hs
def fg_379_0 (x0 : Int32) (x1 : Int32) (h : am_H) : Option am_O := (if ¬ x0 = 0 then (if ¬ x0 = 1 then (if x1 = 5 then (fg_379_63 h) else (if x1 = 6 then (fg_379_63 h) else (if x1 = 19 then (fg_379_63 h) else (fg_379_64 1 h)))) else (if x1 = 19 then (fg_379_64 0 h) else (fg_379_64 1 h))) else (if x1 = 5 then (fg_379_19 h) else (if x1 = 6 then (fg_379_19 h) else (fg_379_64 1 h))))
theorem rg_379_0 {X : am_X} {d : Nat} {lv : am_LV} (x0 : Int32) (x1 : Int32) (h : am_H) (o : am_O) (l0 : lv.lookup 0 = some (.int x0)) (l1 : lv.lookup 1 = some (.int x1)) (hs : fg_379_0 x0 x1 h = some o) : am_W X (d) 379 0 lv [] h (fun q => q = o) := by
  unfold fg_379_0 at hs
  refine aw_iload_n (pc1 := 1) at_379_0 l0 rfl ?_
  by_cases c1 : ¬ x0 = 0
  · rw [if_pos c1] at hs
    refine aw_ifne_t at_379_1 c1 ?_
    refine aw_iload_n (pc1 := 24) at_379_23 l0 rfl ?_
    refine aw_iconst (v := 1) (pc1 := 25) at_379_24 (by decide) rfl ?_
    by_cases c2 : ¬ x0 = 1
    · rw [if_pos c2] at hs
      refine aw_icne_t at_379_25 c2 ?_
      refine aw_iload_n (pc1 := 43) at_379_42 l1 rfl ?_
      refine aw_iconst (v := 5) (pc1 := 44) at_379_43 (by decide) rfl ?_
      by_cases c3 : x1 = 5
      · rw [if_pos c3] at hs
        refine aw_iceq_t at_379_44 c3 ?_
        exact rg_379_63 h o   hs
      · rw [if_neg c3] at hs
        refine aw_iceq_f (pc1 := 47) at_379_44 c3 rfl ?_
        refine aw_iload_n (pc1 := 48) at_379_47 l1 rfl ?_
        refine aw_bipush (v := 6) (pc1 := 50) at_379_48 (by decide) rfl ?_
        by_cases c4 : x1 = 6
        · rw [if_pos c4] at hs
          refine aw_iceq_t at_379_50 c4 ?_
          exact rg_379_63 h o   hs
        · rw [if_neg c4] at hs
          refine aw_iceq_f (pc1 := 53) at_379_50 c4 rfl ?_
          refine aw_iload_n (pc1 := 54) at_379_53 l1 rfl ?_
          refine aw_bipush (v := 19) (pc1 := 56) at_379_54 (by decide) rfl ?_
          by_cases c5 : x1 = 19
          · rw [if_pos c5] at hs
            refine aw_iceq_t at_379_56 c5 ?_
            exact rg_379_63 h o   hs
          · rw [if_neg c5] at hs
            refine aw_iceq_f (pc1 := 59) at_379_56 c5 rfl ?_
            refine aw_iconst (v := 1) (pc1 := 60) at_379_59 (by decide) rfl ?_
            refine aw_goto at_379_60 ?_
            exact rg_379_64 1 h o   hs
    · rw [if_neg c2] at hs
      refine aw_icne_f (pc1 := 28) at_379_25 c2 rfl ?_
      refine aw_iload_n (pc1 := 29) at_379_28 l1 rfl ?_
      refine aw_bipush (v := 19) (pc1 := 31) at_379_29 (by decide) rfl ?_
      by_cases c6 : x1 = 19
      · rw [if_pos c6] at hs
        refine aw_iceq_t at_379_31 c6 ?_
        refine aw_iconst (v := 0) (pc1 := 39) at_379_38 (by decide) rfl ?_
        refine aw_goto at_379_39 ?_
        exact rg_379_64 0 h o   hs
      · rw [if_neg c6] at hs
        refine aw_iceq_f (pc1 := 34) at_379_31 c6 rfl ?_
        refine aw_iconst (v := 1) (pc1 := 35) at_379_34 (by decide) rfl ?_
        refine aw_goto at_379_35 ?_
        exact rg_379_64 1 h o   hs
  · rw [if_neg c1] at hs
    refine aw_ifne_f (pc1 := 4) at_379_1 c1 rfl ?_
    refine aw_iload_n (pc1 := 5) at_379_4 l1 rfl ?_
    refine aw_iconst (v := 5) (pc1 := 6) at_379_5 (by decide) rfl ?_
    by_cases c7 : x1 = 5
    · rw [if_pos c7] at hs
      refine aw_iceq_t at_379_6 c7 ?_
      exact rg_379_19 h o   hs
    · rw [if_neg c7] at hs
      refine aw_iceq_f (pc1 := 9) at_379_6 c7 rfl ?_
      refine aw_iload_n (pc1 := 10) at_379_9 l1 rfl ?_
      refine aw_bipush (v := 6) (pc1 := 12) at_379_10 (by decide) rfl ?_
      by_cases c8 : x1 = 6
      · rw [if_pos c8] at hs
        refine aw_iceq_t at_379_12 c8 ?_
        exact rg_379_19 h o   hs
      · rw [if_neg c8] at hs
        refine aw_iceq_f (pc1 := 15) at_379_12 c8 rfl ?_
        refine aw_iconst (v := 1) (pc1 := 16) at_379_15 (by decide) rfl ?_
        refine aw_goto at_379_16 ?_
        exact rg_379_64 1 h o   hs
def fm_379 (y0 : Int32) (y1 : Int32) (h : am_H) : Option am_O := fg_379_0 y0 y1 h
theorem rm_379 {X : am_X} {d : Nat} (y0 : Int32) (y1 : Int32) (h : am_H) (o : am_O) (hs : fm_379 y0 y1 h = some o) : am_W X (d) 379 0 (am_args 0 [.int y0, .int y1]) [] h (fun q => q = o) := by
  rw [am_args_I, am_args_I]
  exact rg_379_0 y0 y1 h o rfl rfl  hs
def fg_381_16 (s0 : Int32) (h : am_H) : Option am_O := some (.inl (some (.int s0), h))
theorem rg_381_16 {X : am_X} {d : Nat} {lv : am_LV} (s0 : Int32) (h : am_H) (o : am_O) (hs : fg_381_16 s0 h = some o) : am_W X (d) 381 16 lv [(.int s0)] h (fun q => q = o) := by
  unfold fg_381_16 at hs
  cases hs
  exact aw_iret at_381_16 (by rw [rt_381]; rfl) rfl
def fg_381_15 (x0 : Int32) (h : am_H) : Option am_O := (fg_381_16 x0 h)
theorem rg_381_15 {X : am_X} {d : Nat} {lv : am_LV} (x0 : Int32) (h : am_H) (o : am_O) (l0 : lv.lookup 0 = some (.int x0)) (hs : fg_381_15 x0 h = some o) : am_W X (d) 381 15 lv [] h (fun q => q = o) := by
  unfold fg_381_15 at hs
  refine aw_iload_n (pc1 := 16) at_381_15 l0 rfl ?_
  exact rg_381_16 x0 h o   hs
def fg_381_0 (x0 : Int32) (x1 : Int32) (x2 : Int32) (h : am_H) : Option am_O := (if ¬ x1 = 19 then (fg_381_15 x0 h) else (if ¬ x2 = 1 then (fg_381_15 x0 h) else (fg_381_16 1 h)))
theorem rg_381_0 {X : am_X} {d : Nat} {lv : am_LV} (x0 : Int32) (x1 : Int32) (x2 : Int32) (h : am_H) (o : am_O) (l0 : lv.lookup 0 = some (.int x0)) (l1 : lv.lookup 1 = some (.int x1)) (l2 : lv.lookup 2 = some (.int x2)) (hs : fg_381_0 x0 x1 x2 h = some o) : am_W X (d) 381 0 lv [] h (fun q => q = o) := by
  unfold fg_381_0 at hs
  refine aw_iload_n (pc1 := 1) at_381_0 l1 rfl ?_
  refine aw_bipush (v := 19) (pc1 := 3) at_381_1 (by decide) rfl ?_
  by_cases c1 : ¬ x1 = 19
  · rw [if_pos c1] at hs
    refine aw_icne_t at_381_3 c1 ?_
    exact rg_381_15 x0 h o l0  hs
  · rw [if_neg c1] at hs
    refine aw_icne_f (pc1 := 6) at_381_3 c1 rfl ?_
    refine aw_iload_n (pc1 := 7) at_381_6 l2 rfl ?_
    refine aw_iconst (v := 1) (pc1 := 8) at_381_7 (by decide) rfl ?_
    by_cases c2 : ¬ x2 = 1
    · rw [if_pos c2] at hs
      refine aw_icne_t at_381_8 c2 ?_
      exact rg_381_15 x0 h o l0  hs
    · rw [if_neg c2] at hs
      refine aw_icne_f (pc1 := 11) at_381_8 c2 rfl ?_
      refine aw_iconst (v := 1) (pc1 := 12) at_381_11 (by decide) rfl ?_
      refine aw_goto at_381_12 ?_
      exact rg_381_16 1 h o   hs
def fm_381 (y0 : Int32) (y1 : Int32) (y2 : Int32) (h : am_H) : Option am_O := fg_381_0 y0 y1 y2 h
theorem rm_381 {X : am_X} {d : Nat} (y0 : Int32) (y1 : Int32) (y2 : Int32) (h : am_H) (o : am_O) (hs : fm_381 y0 y1 y2 h = some o) : am_W X (d) 381 0 (am_args 0 [.int y0, .int y1, .int y2]) [] h (fun q => q = o) := by
  rw [am_args_I, am_args_I, am_args_I]
  exact rg_381_0 y0 y1 y2 h o rfl rfl rfl  hs
def fg_382_13 (s0 : Int32) (h : am_H) : Option am_O := some (.inl (some (.int s0), h))
theorem rg_382_13 {X : am_X} {d : Nat} {lv : am_LV} (s0 : Int32) (h : am_H) (o : am_O) (hs : fg_382_13 s0 h = some o) : am_W X (d + 1) 382 13 lv [(.int s0)] h (fun q => q = o) := by
  unfold fg_382_13 at hs
  cases hs
  exact aw_iret at_382_13 (by rw [rt_382]; rfl) rfl
def fg_382_0 (x0 : Int32) (x1 : Int32) (h : am_H) : Option am_O := am_cI false (fm_330 x0 x1 h) (fun v1 h2 => (if v1 = 0 then (fg_382_13 0 h2) else (fg_382_13 1 h2)))
theorem rg_382_0 {X : am_X} {d : Nat} {lv : am_LV} (x0 : Int32) (x1 : Int32) (h : am_H) (o : am_O) (l0 : lv.lookup 0 = some (.int x0)) (l1 : lv.lookup 1 = some (.int x1)) (hs : fg_382_0 x0 x1 h = some o) : am_W X (d + 1) 382 0 lv [] h (fun q => q = o) := by
  unfold fg_382_0 at hs
  refine aw_iload_n (pc1 := 1) at_382_0 l0 rfl ?_
  refine aw_iload_n (pc1 := 2) at_382_1 l1 rfl ?_
  refine aw_call (F := fm_330 x0 x1 h) (t := false) (na := 2) (kd := 0) (as := [(.int x0), (.int x1)]) at_382_2 (am_k3s kb_330) mn_330 mk_330 rfl rfl (am_ok_s mi_330 (am_hl rfl (am_ccI (am_ccI am_cats_0)) rfl)) (am_hc am_cats_0 rfl) (fun hz9 => by cases hz9) (fun o1 hz9 => rm_330 x0 x1 h o1  hz9) ?_
  rcases am_cI_s hs with ⟨v1, h2, f3, hs1⟩ | hs1
  · clear hs
    refine Or.inl ⟨_, _, f3, ?_⟩
    show am_W X _ 382 5 _ [(.int v1)] h2 _
    by_cases c4 : v1 = 0
    · rw [if_pos c4] at hs1
      refine aw_ifeq_t at_382_5 c4 ?_
      refine aw_iconst (v := 0) (pc1 := 13) at_382_12 (by decide) rfl ?_
      exact rg_382_13 0 h2 o   hs1
    · rw [if_neg c4] at hs1
      refine aw_ifeq_f (pc1 := 8) at_382_5 c4 rfl ?_
      refine aw_iconst (v := 1) (pc1 := 9) at_382_8 (by decide) rfl ?_
      refine aw_goto at_382_9 ?_
      exact rg_382_13 1 h2 o   hs1
  · clear hs
    exact Or.inr hs1
def fm_382 (y0 : Int32) (y1 : Int32) (h : am_H) : Option am_O := fg_382_0 y0 y1 h
theorem rm_382 {X : am_X} {d : Nat} (y0 : Int32) (y1 : Int32) (h : am_H) (o : am_O) (hs : fm_382 y0 y1 h = some o) : am_W X (d + 1) 382 0 (am_args 0 [.int y0, .int y1]) [] h (fun q => q = o) := by
  rw [am_args_I, am_args_I]
  exact rg_382_0 y0 y1 h o rfl rfl  hs
def fg_383_25 (s0 : Int64) (h : am_H) : Option am_O := some (.inl (some (.long s0), h))
theorem rg_383_25 {X : am_X} {d : Nat} {lv : am_LV} (s0 : Int64) (h : am_H) (o : am_O) (hs : fg_383_25 s0 h = some o) : am_W X (d) 383 25 lv [(.long s0)] h (fun q => q = o) := by
  unfold fg_383_25 at hs
  cases hs
  exact aw_lret at_383_25 rt_383 rfl
def fg_383_0 (x0 : Value) (x1 : Int32) (x2 : Int32) (x3 : Int32) (h : am_H) : Option am_O := (if 1 ≤ x3 then ((am_vR (am_pG 3153 x0 h)).bind fun v2 => ((am_pAL v2 (((28 * x1) + (14 * x2)) + x3) h).bind fun v4 => (fg_383_25 v4 h))) else (fg_383_25 0 h))
theorem rg_383_0 {X : am_X} {d : Nat} {lv : am_LV} (x0 : Value) (x1 : Int32) (x2 : Int32) (x3 : Int32) (h : am_H) (o : am_O) (l0 : lv.lookup 0 = some x0) (l1 : lv.lookup 1 = some (.int x1)) (l2 : lv.lookup 2 = some (.int x2)) (l3 : lv.lookup 3 = some (.int x3)) (i0 : am_isR x0 = true) (hs : fg_383_0 x0 x1 x2 x3 h = some o) : am_W X (d) 383 0 lv [] h (fun q => q = o) := by
  unfold fg_383_0 at hs
  refine aw_iload_n (pc1 := 1) at_383_0 l3 rfl ?_
  refine aw_iconst (v := 1) (pc1 := 2) at_383_1 (by decide) rfl ?_
  by_cases c1 : 1 ≤ x3
  · rw [if_pos c1] at hs
    refine aw_icge_t at_383_2 c1 ?_
    refine aw_vload_n (pc1 := 10) at_383_9 l0 i0 rfl ?_
    obtain ⟨v2, e3, hs1⟩ := am_bind hs
    clear hs
    refine aw_pG (pc1 := 13) at_383_10 (am_vR_s e3).1 rfl ?_
    refine aw_bipush (v := 28) (pc1 := 15) at_383_13 (by decide) rfl ?_
    refine aw_iload_n (pc1 := 16) at_383_15 l1 rfl ?_
    refine aw_imul (v := (28 * x1)) (pc1 := 17) at_383_16 rfl rfl ?_
    refine aw_bipush (v := 14) (pc1 := 19) at_383_17 (by decide) rfl ?_
    refine aw_iload_n (pc1 := 20) at_383_19 l2 rfl ?_
    refine aw_imul (v := (14 * x2)) (pc1 := 21) at_383_20 rfl rfl ?_
    refine aw_iadd (v := ((28 * x1) + (14 * x2))) (pc1 := 22) at_383_21 rfl rfl ?_
    refine aw_iload_n (pc1 := 23) at_383_22 l3 rfl ?_
    refine aw_iadd (v := (((28 * x1) + (14 * x2)) + x3)) (pc1 := 24) at_383_23 rfl rfl ?_
    obtain ⟨v4, e5, hs2⟩ := am_bind hs1
    clear hs1
    refine aw_pAL (pc1 := 25) at_383_24 e5 rfl ?_
    exact rg_383_25 v4 h o   hs2
  · rw [if_neg c1] at hs
    refine aw_icge_f (pc1 := 5) at_383_2 c1 rfl ?_
    refine aw_lconst (v := 0) (pc1 := 6) at_383_5 (by decide) rfl ?_
    refine aw_goto at_383_6 ?_
    exact rg_383_25 0 h o   hs
def fm_383 (y0 : Value) (y1 : Int32) (y2 : Int32) (y3 : Int32) (h : am_H) : Option am_O := fg_383_0 y0 y1 y2 y3 h
theorem rm_383 {X : am_X} {d : Nat} (y0 : Value) (y1 : Int32) (y2 : Int32) (y3 : Int32) (h : am_H) (o : am_O) (i0 : am_isR y0 = true) (hs : fm_383 y0 y1 y2 y3 h = some o) : am_W X (d) 383 0 (am_args 0 [y0, .int y1, .int y2, .int y3]) [] h (fun q => q = o) := by
  rw [am_args_R i0, am_args_I, am_args_I, am_args_I]
  exact rg_383_0 y0 y1 y2 y3 h o rfl rfl rfl rfl i0 hs
def fg_380_117 (s0 : Int64) (h : am_H) : Option am_O := some (.inl (some (.long s0), h))
theorem rg_380_117 {X : am_X} {d : Nat} {lv : am_LV} (s0 : Int64) (h : am_H) (o : am_O) (hs : fg_380_117 s0 h = some o) : am_W X (d + 2) 380 117 lv [(.long s0)] h (fun q => q = o) := by
  unfold fg_380_117 at hs
  cases hs
  exact aw_lret at_380_117 rt_380 rfl
def fg_380_89 (x0 : Value) (x1 : Int32) (x2 : Int32) (x6 : Int32) (x7 : Int32) (s0 : Int64) (h : am_H) : Option am_O := (if x6 ≤ 2 then (fg_380_117 s0 h) else am_cI false (fm_382 x2 2 h) (fun v2 h3 => (if am_pOk 12 x0 h3 then am_cL true (fm_383 x0 x1 v2 x7 h3) (fun v6 h7 => (fg_380_117 ((s0 * v6)) h7)) else none)))
theorem rg_380_89 {X : am_X} {d : Nat} {lv : am_LV} (x0 : Value) (x1 : Int32) (x2 : Int32) (x6 : Int32) (x7 : Int32) (s0 : Int64) (h : am_H) (o : am_O) (l0 : lv.lookup 0 = some x0) (l1 : lv.lookup 1 = some (.int x1)) (l2 : lv.lookup 2 = some (.int x2)) (l6 : lv.lookup 6 = some (.int x6)) (l7 : lv.lookup 7 = some (.int x7)) (i0 : am_isR x0 = true) (hs : fg_380_89 x0 x1 x2 x6 x7 s0 h = some o) : am_W X (d + 2) 380 89 lv [(.long s0)] h (fun q => q = o) := by
  unfold fg_380_89 at hs
  refine aw_lstore (lv1 := am_put2 _ 8 _) (pc1 := 91) at_380_89 rfl rfl ?_
  refine aw_iload (pc1 := 93) at_380_91 (am_lk2 l6 rfl rfl) rfl ?_
  refine aw_iconst (v := 2) (pc1 := 94) at_380_93 (by decide) rfl ?_
  by_cases c1 : x6 ≤ 2
  · rw [if_pos c1] at hs
    refine aw_icle_t at_380_94 c1 ?_
    refine aw_lload (pc1 := 117) at_380_115 am_lk02 rfl ?_
    exact rg_380_117 s0 h o   hs
  · rw [if_neg c1] at hs
    refine aw_icle_f (pc1 := 97) at_380_94 c1 rfl ?_
    refine aw_lload (pc1 := 99) at_380_97 am_lk02 rfl ?_
    refine aw_vload_n (pc1 := 100) at_380_99 (am_lk2 l0 rfl rfl) i0 rfl ?_
    refine aw_iload_n (pc1 := 101) at_380_100 (am_lk2 l1 rfl rfl) rfl ?_
    refine aw_iload_n (pc1 := 102) at_380_101 (am_lk2 l2 rfl rfl) rfl ?_
    refine aw_iconst (v := 2) (pc1 := 103) at_380_102 (by decide) rfl ?_
    refine aw_call (F := fm_382 x2 2 h) (t := false) (na := 2) (kd := 0) (as := [(.int x2), (.int 2)]) at_380_103 (am_k3s kb_382) mn_382 mk_382 rfl rfl (am_ok_s mi_382 (am_hl rfl (am_ccI (am_ccI am_cats_0)) rfl)) (am_hc (am_ccI (am_ccR i0 (am_ccL am_cats_0))) rfl) (fun hz9 => by cases hz9) (fun o1 hz9 => rm_382 x2 2 h o1  hz9) ?_
    rcases am_cI_s hs with ⟨v2, h3, f4, hs1⟩ | hs1
    · clear hs
      refine Or.inl ⟨_, _, f4, ?_⟩
      show am_W X _ 380 106 _ [(.int v2), (.int x1), x0, (.long s0)] h3 _
      refine aw_iload (pc1 := 108) at_380_106 (am_lk2 l7 rfl rfl) rfl ?_
      obtain ⟨z5, hs2⟩ := am_ift hs1
      clear hs1
      refine aw_call (F := fm_383 x0 x1 v2 x7 h3) (t := true) (na := 4) (kd := 1) (as := [x0, (.int x1), (.int v2), (.int x7)]) at_380_108 (am_k3v kb_383) mn_383 mk_383 rfl rfl (am_ok_v mi_383 (am_hl rfl (am_ccR i0 (am_ccI (am_ccI (am_ccI am_cats_0)))) rfl) z5) (am_hc (am_ccL am_cats_0) rfl) (fun _ => ⟨rfl, hh_380⟩) (fun o1 hz9 => rm_383 x0 x1 v2 x7 h3 o1 i0 hz9) ?_
      rcases am_cL_s hs2 with ⟨v6, h7, f8, hs3⟩ | hs3
      · clear hs2
        refine Or.inl ⟨_, _, f8, ?_⟩
        show am_W X _ 380 111 _ [(.long v6), (.long s0)] h7 _
        refine aw_lmul (v := (s0 * v6)) (pc1 := 112) at_380_111 rfl rfl ?_
        refine aw_goto at_380_112 ?_
        exact rg_380_117 ((s0 * v6)) h7 o   hs3
      · clear hs2
        exact Or.inr hs3
    · clear hs
      exact Or.inr hs1
def fg_380_39 (x0 : Value) (x1 : Int32) (x2 : Int32) (x4 : Int32) (x5 : Int32) (x6 : Int32) (x7 : Int32) (h : am_H) : Option am_O := am_cI false (fm_381 x1 x2 0 h) (fun v1 h2 => am_cI false (fm_382 x2 0 h2) (fun v4 h5 => (if am_pOk 12 x0 h5 then am_cL true (fm_383 x0 v1 v4 x4 h5) (fun v8 h9 => (if x6 ≤ 1 then (fg_380_89 x0 x1 x2 x6 x7 v8 h9) else am_cI false (fm_381 x1 x2 1 h9) (fun v12 h13 => am_cI false (fm_382 x2 1 h13) (fun v15 h16 => (if am_pOk 12 x0 h16 then am_cL true (fm_383 x0 v12 v15 x5 h16) (fun v19 h20 => (fg_380_89 x0 x1 x2 x6 x7 ((v8 * v19)) h20)) else none))))) else none)))
theorem rg_380_39 {X : am_X} {d : Nat} {lv : am_LV} (x0 : Value) (x1 : Int32) (x2 : Int32) (x4 : Int32) (x5 : Int32) (x6 : Int32) (x7 : Int32) (h : am_H) (o : am_O) (l0 : lv.lookup 0 = some x0) (l1 : lv.lookup 1 = some (.int x1)) (l2 : lv.lookup 2 = some (.int x2)) (l4 : lv.lookup 4 = some (.int x4)) (l5 : lv.lookup 5 = some (.int x5)) (l6 : lv.lookup 6 = some (.int x6)) (l7 : lv.lookup 7 = some (.int x7)) (i0 : am_isR x0 = true) (hs : fg_380_39 x0 x1 x2 x4 x5 x6 x7 h = some o) : am_W X (d + 2) 380 39 lv [] h (fun q => q = o) := by
  unfold fg_380_39 at hs
  refine aw_vload_n (pc1 := 40) at_380_39 l0 i0 rfl ?_
  refine aw_iload_n (pc1 := 41) at_380_40 l1 rfl ?_
  refine aw_iload_n (pc1 := 42) at_380_41 l2 rfl ?_
  refine aw_iconst (v := 0) (pc1 := 43) at_380_42 (by decide) rfl ?_
  refine aw_call (F := fm_381 x1 x2 0 h) (t := false) (na := 3) (kd := 0) (as := [(.int x1), (.int x2), (.int 0)]) at_380_43 (am_k3s kb_381) mn_381 mk_381 rfl rfl (am_ok_s mi_381 (am_hl rfl (am_ccI (am_ccI (am_ccI am_cats_0))) rfl)) (am_hc (am_ccR i0 am_cats_0) rfl) (fun hz9 => by cases hz9) (fun o1 hz9 => rm_381 x1 x2 0 h o1  hz9) ?_
  rcases am_cI_s hs with ⟨v1, h2, f3, hs1⟩ | hs1
  · clear hs
    refine Or.inl ⟨_, _, f3, ?_⟩
    show am_W X _ 380 46 _ [(.int v1), x0] h2 _
    refine aw_iload_n (pc1 := 47) at_380_46 l2 rfl ?_
    refine aw_iconst (v := 0) (pc1 := 48) at_380_47 (by decide) rfl ?_
    refine aw_call (F := fm_382 x2 0 h2) (t := false) (na := 2) (kd := 0) (as := [(.int x2), (.int 0)]) at_380_48 (am_k3s kb_382) mn_382 mk_382 rfl rfl (am_ok_s mi_382 (am_hl rfl (am_ccI (am_ccI am_cats_0)) rfl)) (am_hc (am_ccI (am_ccR i0 am_cats_0)) rfl) (fun hz9 => by cases hz9) (fun o1 hz9 => rm_382 x2 0 h2 o1  hz9) ?_
    rcases am_cI_s hs1 with ⟨v4, h5, f6, hs2⟩ | hs2
    · clear hs1
      refine Or.inl ⟨_, _, f6, ?_⟩
      show am_W X _ 380 51 _ [(.int v4), (.int v1), x0] h5 _
      refine aw_iload (pc1 := 53) at_380_51 l4 rfl ?_
      obtain ⟨z7, hs3⟩ := am_ift hs2
      clear hs2
      refine aw_call (F := fm_383 x0 v1 v4 x4 h5) (t := true) (na := 4) (kd := 1) (as := [x0, (.int v1), (.int v4), (.int x4)]) at_380_53 (am_k3v kb_383) mn_383 mk_383 rfl rfl (am_ok_v mi_383 (am_hl rfl (am_ccR i0 (am_ccI (am_ccI (am_ccI am_cats_0)))) rfl) z7) (am_hc am_cats_0 rfl) (fun _ => ⟨rfl, hh_380⟩) (fun o1 hz9 => rm_383 x0 v1 v4 x4 h5 o1 i0 hz9) ?_
      rcases am_cL_s hs3 with ⟨v8, h9, f10, hs4⟩ | hs4
      · clear hs3
        refine Or.inl ⟨_, _, f10, ?_⟩
        show am_W X _ 380 56 _ [(.long v8)] h9 _
        refine aw_lstore (lv1 := am_put2 _ 8 _) (pc1 := 58) at_380_56 rfl rfl ?_
        refine aw_iload (pc1 := 60) at_380_58 (am_lk2 l6 rfl rfl) rfl ?_
        refine aw_iconst (v := 1) (pc1 := 61) at_380_60 (by decide) rfl ?_
        by_cases c11 : x6 ≤ 1
        · rw [if_pos c11] at hs4
          refine aw_icle_t at_380_61 c11 ?_
          refine aw_lload (pc1 := 89) at_380_87 am_lk02 rfl ?_
          exact rg_380_89 x0 x1 x2 x6 x7 v8 h9 o (am_lk2 l0 rfl rfl) (am_lk2 l1 rfl rfl) (am_lk2 l2 rfl rfl) (am_lk2 l6 rfl rfl) (am_lk2 l7 rfl rfl) i0 hs4
        · rw [if_neg c11] at hs4
          refine aw_icle_f (pc1 := 64) at_380_61 c11 rfl ?_
          refine aw_lload (pc1 := 66) at_380_64 am_lk02 rfl ?_
          refine aw_vload_n (pc1 := 67) at_380_66 (am_lk2 l0 rfl rfl) i0 rfl ?_
          refine aw_iload_n (pc1 := 68) at_380_67 (am_lk2 l1 rfl rfl) rfl ?_
          refine aw_iload_n (pc1 := 69) at_380_68 (am_lk2 l2 rfl rfl) rfl ?_
          refine aw_iconst (v := 1) (pc1 := 70) at_380_69 (by decide) rfl ?_
          refine aw_call (F := fm_381 x1 x2 1 h9) (t := false) (na := 3) (kd := 0) (as := [(.int x1), (.int x2), (.int 1)]) at_380_70 (am_k3s kb_381) mn_381 mk_381 rfl rfl (am_ok_s mi_381 (am_hl rfl (am_ccI (am_ccI (am_ccI am_cats_0))) rfl)) (am_hc (am_ccR i0 (am_ccL am_cats_0)) rfl) (fun hz9 => by cases hz9) (fun o1 hz9 => rm_381 x1 x2 1 h9 o1  hz9) ?_
          rcases am_cI_s hs4 with ⟨v12, h13, f14, hs5⟩ | hs5
          · clear hs4
            refine Or.inl ⟨_, _, f14, ?_⟩
            show am_W X _ 380 73 _ [(.int v12), x0, (.long v8)] h13 _
            refine aw_iload_n (pc1 := 74) at_380_73 (am_lk2 l2 rfl rfl) rfl ?_
            refine aw_iconst (v := 1) (pc1 := 75) at_380_74 (by decide) rfl ?_
            refine aw_call (F := fm_382 x2 1 h13) (t := false) (na := 2) (kd := 0) (as := [(.int x2), (.int 1)]) at_380_75 (am_k3s kb_382) mn_382 mk_382 rfl rfl (am_ok_s mi_382 (am_hl rfl (am_ccI (am_ccI am_cats_0)) rfl)) (am_hc (am_ccI (am_ccR i0 (am_ccL am_cats_0))) rfl) (fun hz9 => by cases hz9) (fun o1 hz9 => rm_382 x2 1 h13 o1  hz9) ?_
            rcases am_cI_s hs5 with ⟨v15, h16, f17, hs6⟩ | hs6
            · clear hs5
              refine Or.inl ⟨_, _, f17, ?_⟩
              show am_W X _ 380 78 _ [(.int v15), (.int v12), x0, (.long v8)] h16 _
              refine aw_iload (pc1 := 80) at_380_78 (am_lk2 l5 rfl rfl) rfl ?_
              obtain ⟨z18, hs7⟩ := am_ift hs6
              clear hs6
              refine aw_call (F := fm_383 x0 v12 v15 x5 h16) (t := true) (na := 4) (kd := 1) (as := [x0, (.int v12), (.int v15), (.int x5)]) at_380_80 (am_k3v kb_383) mn_383 mk_383 rfl rfl (am_ok_v mi_383 (am_hl rfl (am_ccR i0 (am_ccI (am_ccI (am_ccI am_cats_0)))) rfl) z18) (am_hc (am_ccL am_cats_0) rfl) (fun _ => ⟨rfl, hh_380⟩) (fun o1 hz9 => rm_383 x0 v12 v15 x5 h16 o1 i0 hz9) ?_
              rcases am_cL_s hs7 with ⟨v19, h20, f21, hs8⟩ | hs8
              · clear hs7
                refine Or.inl ⟨_, _, f21, ?_⟩
                show am_W X _ 380 83 _ [(.long v19), (.long v8)] h20 _
                refine aw_lmul (v := (v8 * v19)) (pc1 := 84) at_380_83 rfl rfl ?_
                refine aw_goto at_380_84 ?_
                exact rg_380_89 x0 x1 x2 x6 x7 ((v8 * v19)) h20 o (am_lk2 l0 rfl rfl) (am_lk2 l1 rfl rfl) (am_lk2 l2 rfl rfl) (am_lk2 l6 rfl rfl) (am_lk2 l7 rfl rfl) i0 hs8
              · clear hs7
                exact Or.inr hs8
            · clear hs5
              exact Or.inr hs6
          · clear hs4
            exact Or.inr hs5
      · clear hs3
        exact Or.inr hs4
    · clear hs1
      exact Or.inr hs2
  · clear hs
    exact Or.inr hs1
def fg_380_37 (h : am_H) : Option am_O := some (.inl (some (.long 0), h))
theorem rg_380_37 {X : am_X} {d : Nat} {lv : am_LV} (h : am_H) (o : am_O) (hs : fg_380_37 h = some o) : am_W X (d + 2) 380 37 lv [] h (fun q => q = o) := by
  unfold fg_380_37 at hs
  refine aw_lconst (v := 0) (pc1 := 38) at_380_37 (by decide) rfl ?_
  cases hs
  exact aw_lret at_380_38 rt_380 rfl
def fg_380_0 (x0 : Value) (x1 : Int32) (x2 : Int32) (x3 : Int32) (x4 : Int32) (x5 : Int32) (h : am_H) : Option am_O := am_cI false (fm_343 x2 h) (fun v1 h2 => (if 3 ≤ v1 then (if 1 ≤ (((x3 - 1) - x4) - x5) then (fg_380_39 x0 x1 x2 x4 x5 v1 ((((x3 - 1) - x4) - x5)) h2) else (fg_380_37 h2)) else (if (((x3 - 1) - x4) - x5) = 0 then (fg_380_39 x0 x1 x2 x4 x5 v1 ((((x3 - 1) - x4) - x5)) h2) else (fg_380_37 h2))))
theorem rg_380_0 {X : am_X} {d : Nat} {lv : am_LV} (x0 : Value) (x1 : Int32) (x2 : Int32) (x3 : Int32) (x4 : Int32) (x5 : Int32) (h : am_H) (o : am_O) (l0 : lv.lookup 0 = some x0) (l1 : lv.lookup 1 = some (.int x1)) (l2 : lv.lookup 2 = some (.int x2)) (l3 : lv.lookup 3 = some (.int x3)) (l4 : lv.lookup 4 = some (.int x4)) (l5 : lv.lookup 5 = some (.int x5)) (i0 : am_isR x0 = true) (hs : fg_380_0 x0 x1 x2 x3 x4 x5 h = some o) : am_W X (d + 2) 380 0 lv [] h (fun q => q = o) := by
  unfold fg_380_0 at hs
  refine aw_iload_n (pc1 := 1) at_380_0 l2 rfl ?_
  refine aw_call (F := fm_343 x2 h) (t := false) (na := 1) (kd := 0) (as := [(.int x2)]) at_380_1 (am_k3s kb_343) mn_343 mk_343 rfl rfl (am_ok_s mi_343 (am_hl rfl (am_ccI am_cats_0) rfl)) (am_hc am_cats_0 rfl) (fun hz9 => by cases hz9) (fun o1 hz9 => rm_343 x2 h o1  hz9) ?_
  rcases am_cI_s hs with ⟨v1, h2, f3, hs1⟩ | hs1
  · clear hs
    refine Or.inl ⟨_, _, f3, ?_⟩
    show am_W X _ 380 4 _ [(.int v1)] h2 _
    refine aw_istore (lv1 := am_put1 _ 6 _) (pc1 := 6) at_380_4 rfl rfl ?_
    refine aw_iload_n (pc1 := 7) at_380_6 (am_lk1 l3 rfl rfl) rfl ?_
    refine aw_iconst (v := 1) (pc1 := 8) at_380_7 (by decide) rfl ?_
    refine aw_isub (v := (x3 - 1)) (pc1 := 9) at_380_8 rfl rfl ?_
    refine aw_iload (pc1 := 11) at_380_9 (am_lk1 l4 rfl rfl) rfl ?_
    refine aw_isub (v := ((x3 - 1) - x4)) (pc1 := 12) at_380_11 rfl rfl ?_
    refine aw_iload (pc1 := 14) at_380_12 (am_lk1 l5 rfl rfl) rfl ?_
    refine aw_isub (v := (((x3 - 1) - x4) - x5)) (pc1 := 15) at_380_14 rfl rfl ?_
    refine aw_istore (lv1 := am_put1 _ 7 _) (pc1 := 17) at_380_15 rfl rfl ?_
    refine aw_iload (pc1 := 19) at_380_17 (am_lk1 am_lk0 rfl rfl) rfl ?_
    refine aw_iconst (v := 3) (pc1 := 20) at_380_19 (by decide) rfl ?_
    by_cases c4 : 3 ≤ v1
    · rw [if_pos c4] at hs1
      refine aw_icge_t at_380_20 c4 ?_
      refine aw_iload (pc1 := 33) at_380_31 am_lk0 rfl ?_
      refine aw_iconst (v := 1) (pc1 := 34) at_380_33 (by decide) rfl ?_
      by_cases c5 : 1 ≤ (((x3 - 1) - x4) - x5)
      · rw [if_pos c5] at hs1
        refine aw_icge_t at_380_34 c5 ?_
        exact rg_380_39 x0 x1 x2 x4 x5 v1 ((((x3 - 1) - x4) - x5)) h2 o (am_lk1 (am_lk1 l0 rfl rfl) rfl rfl) (am_lk1 (am_lk1 l1 rfl rfl) rfl rfl) (am_lk1 (am_lk1 l2 rfl rfl) rfl rfl) (am_lk1 (am_lk1 l4 rfl rfl) rfl rfl) (am_lk1 (am_lk1 l5 rfl rfl) rfl rfl) (am_lk1 am_lk0 rfl rfl) am_lk0 i0 hs1
      · rw [if_neg c5] at hs1
        refine aw_icge_f (pc1 := 37) at_380_34 c5 rfl ?_
        exact rg_380_37 h2 o   hs1
    · rw [if_neg c4] at hs1
      refine aw_icge_f (pc1 := 23) at_380_20 c4 rfl ?_
      refine aw_iload (pc1 := 25) at_380_23 am_lk0 rfl ?_
      by_cases c6 : (((x3 - 1) - x4) - x5) = 0
      · rw [if_pos c6] at hs1
        refine aw_ifeq_t at_380_25 c6 ?_
        exact rg_380_39 x0 x1 x2 x4 x5 v1 ((((x3 - 1) - x4) - x5)) h2 o (am_lk1 (am_lk1 l0 rfl rfl) rfl rfl) (am_lk1 (am_lk1 l1 rfl rfl) rfl rfl) (am_lk1 (am_lk1 l2 rfl rfl) rfl rfl) (am_lk1 (am_lk1 l4 rfl rfl) rfl rfl) (am_lk1 (am_lk1 l5 rfl rfl) rfl rfl) (am_lk1 am_lk0 rfl rfl) am_lk0 i0 hs1
      · rw [if_neg c6] at hs1
        refine aw_ifeq_f (pc1 := 28) at_380_25 c6 rfl ?_
        refine aw_goto at_380_28 ?_
        exact rg_380_37 h2 o   hs1
  · clear hs
    exact Or.inr hs1
def fm_380 (y0 : Value) (y1 : Int32) (y2 : Int32) (y3 : Int32) (y4 : Int32) (y5 : Int32) (h : am_H) : Option am_O := fg_380_0 y0 y1 y2 y3 y4 y5 h
theorem rm_380 {X : am_X} {d : Nat} (y0 : Value) (y1 : Int32) (y2 : Int32) (y3 : Int32) (y4 : Int32) (y5 : Int32) (h : am_H) (o : am_O) (i0 : am_isR y0 = true) (hs : fm_380 y0 y1 y2 y3 y4 y5 h = some o) : am_W X (d + 2) 380 0 (am_args 0 [y0, .int y1, .int y2, .int y3, .int y4, .int y5]) [] h (fun q => q = o) := by
  rw [am_args_R i0, am_args_I, am_args_I, am_args_I, am_args_I, am_args_I]
  exact rg_380_0 y0 y1 y2 y3 y4 y5 h o rfl rfl rfl rfl rfl rfl i0 hs
def fg_378_80 (N : Nat) (rec_48 : Value → Int32 → Int32 → Int32 → Int32 → Int64 → Int32 → am_H → Option am_O) (rec_67 : Value → Int32 → Int32 → Int32 → Int32 → Int64 → Int32 → Int32 → am_H → Option am_O) (x0 : Value) (x1 : Int32) (x2 : Int32) (x3 : Int32) (x4 : Int32) (x5 : Int64) (x7 : Int32) (x8 : Int32) (s0 : Int32) (s1 : Int32) (h : am_H) : Option am_O := (if s1 ≤ s0 then (rec_48 x0 x1 x2 x3 x4 x5 ((x7 + 1)) h) else (if am_pOk 12 x0 h then am_cL true (fm_380 x0 x1 x2 x3 x7 x8 h) (fun v3 h4 => (rec_67 x0 x1 x2 x3 x4 ((x5 + v3)) x7 ((x8 + 1)) h4)) else none))
theorem rg_378_80 {X : am_X} {d : Nat} {N : Nat} {rec_48 : Value → Int32 → Int32 → Int32 → Int32 → Int64 → Int32 → am_H → Option am_O} {rec_67 : Value → Int32 → Int32 → Int32 → Int32 → Int64 → Int32 → Int32 → am_H → Option am_O} (q_48 : ∀ (x0 : Value) (x1 : Int32) (x2 : Int32) (x3 : Int32) (x4 : Int32) (x5 : Int64) (x7 : Int32) (h : am_H) (o : am_O), rec_48 x0 x1 x2 x3 x4 x5 x7 h = some o → ∀ lv : am_LV, (lv.lookup 0 = some x0) → (lv.lookup 1 = some (.int x1)) → (lv.lookup 2 = some (.int x2)) → (lv.lookup 3 = some (.int x3)) → (lv.lookup 4 = some (.int x4)) → (lv.lookup 5 = some (.long x5)) → (lv.lookup 7 = some (.int x7)) → (am_isR x0 = true) → am_W X (d + 3) 378 48 lv [] h (fun q => q = o)) (q_67 : ∀ (x0 : Value) (x1 : Int32) (x2 : Int32) (x3 : Int32) (x4 : Int32) (x5 : Int64) (x7 : Int32) (x8 : Int32) (h : am_H) (o : am_O), rec_67 x0 x1 x2 x3 x4 x5 x7 x8 h = some o → ∀ lv : am_LV, (lv.lookup 0 = some x0) → (lv.lookup 1 = some (.int x1)) → (lv.lookup 2 = some (.int x2)) → (lv.lookup 3 = some (.int x3)) → (lv.lookup 4 = some (.int x4)) → (lv.lookup 5 = some (.long x5)) → (lv.lookup 7 = some (.int x7)) → (lv.lookup 8 = some (.int x8)) → (am_isR x0 = true) → am_W X (d + 3) 378 67 lv [] h (fun q => q = o)) {lv : am_LV} (x0 : Value) (x1 : Int32) (x2 : Int32) (x3 : Int32) (x4 : Int32) (x5 : Int64) (x7 : Int32) (x8 : Int32) (s0 : Int32) (s1 : Int32) (h : am_H) (o : am_O) (l0 : lv.lookup 0 = some x0) (l1 : lv.lookup 1 = some (.int x1)) (l2 : lv.lookup 2 = some (.int x2)) (l3 : lv.lookup 3 = some (.int x3)) (l4 : lv.lookup 4 = some (.int x4)) (l5 : lv.lookup 5 = some (.long x5)) (l7 : lv.lookup 7 = some (.int x7)) (l8 : lv.lookup 8 = some (.int x8)) (i0 : am_isR x0 = true) (hs : fg_378_80 N rec_48 rec_67 x0 x1 x2 x3 x4 x5 x7 x8 s0 s1 h = some o) : am_W X (d + 3) 378 80 lv [(.int s1), (.int s0)] h (fun q => q = o) := by
  unfold fg_378_80 at hs
  by_cases c1 : s1 ≤ s0
  · rw [if_pos c1] at hs
    refine aw_icge_t at_378_80 c1 ?_
    refine aw_iinc (v := (x7 + 1)) (c := 1) (lv1 := am_put1 _ 7 _) (pc1 := 108) at_378_105 l7 (by decide) rfl rfl rfl ?_
    refine aw_goto at_378_108 ?_
    exact q_48 x0 x1 x2 x3 x4 x5 ((x7 + 1)) h o hs _ (am_lk1 l0 rfl rfl) (am_lk1 l1 rfl rfl) (am_lk1 l2 rfl rfl) (am_lk1 l3 rfl rfl) (am_lk1 l4 rfl rfl) (am_lk1 l5 rfl rfl) am_lk0 i0
  · rw [if_neg c1] at hs
    refine aw_icge_f (pc1 := 83) at_378_80 c1 rfl ?_
    refine aw_lload (pc1 := 85) at_378_83 l5 rfl ?_
    refine aw_vload_n (pc1 := 86) at_378_85 l0 i0 rfl ?_
    refine aw_iload_n (pc1 := 87) at_378_86 l1 rfl ?_
    refine aw_iload_n (pc1 := 88) at_378_87 l2 rfl ?_
    refine aw_iload_n (pc1 := 89) at_378_88 l3 rfl ?_
    refine aw_iload (pc1 := 91) at_378_89 l7 rfl ?_
    refine aw_iload (pc1 := 93) at_378_91 l8 rfl ?_
    obtain ⟨z2, hs1⟩ := am_ift hs
    clear hs
    refine aw_call (F := fm_380 x0 x1 x2 x3 x7 x8 h) (t := true) (na := 6) (kd := 1) (as := [x0, (.int x1), (.int x2), (.int x3), (.int x7), (.int x8)]) at_378_93 (am_k3v kb_380) mn_380 mk_380 rfl rfl (am_ok_v mi_380 (am_hl rfl (am_ccR i0 (am_ccI (am_ccI (am_ccI (am_ccI (am_ccI am_cats_0)))))) rfl) z2) (am_hc (am_ccL am_cats_0) rfl) (fun _ => ⟨rfl, hh_378⟩) (fun o1 hz9 => rm_380 x0 x1 x2 x3 x7 x8 h o1 i0 hz9) ?_
    rcases am_cL_s hs1 with ⟨v3, h4, f5, hs2⟩ | hs2
    · clear hs1
      refine Or.inl ⟨_, _, f5, ?_⟩
      show am_W X _ 378 96 _ [(.long v3), (.long x5)] h4 _
      refine aw_ladd (v := (x5 + v3)) (pc1 := 97) at_378_96 rfl rfl ?_
      refine aw_lstore (lv1 := am_put2 _ 5 _) (pc1 := 99) at_378_97 rfl rfl ?_
      refine aw_iinc (v := (x8 + 1)) (c := 1) (lv1 := am_put1 _ 8 _) (pc1 := 102) at_378_99 (am_lk2 l8 rfl rfl) (by decide) rfl rfl rfl ?_
      refine aw_goto at_378_102 ?_
      exact q_67 x0 x1 x2 x3 x4 ((x5 + v3)) x7 ((x8 + 1)) h4 o hs2 _ (am_lk1 (am_lk2 l0 rfl rfl) rfl rfl) (am_lk1 (am_lk2 l1 rfl rfl) rfl rfl) (am_lk1 (am_lk2 l2 rfl rfl) rfl rfl) (am_lk1 (am_lk2 l3 rfl rfl) rfl rfl) (am_lk1 (am_lk2 l4 rfl rfl) rfl rfl) (am_lk1 am_lk02 rfl rfl) (am_lk1 (am_lk2 l7 rfl rfl) rfl rfl) am_lk0 i0
    · clear hs1
      exact Or.inr hs2
def fg_378_67 (N : Nat) (rec_48 : Value → Int32 → Int32 → Int32 → Int32 → Int64 → Int32 → am_H → Option am_O) : Nat → Value → Int32 → Int32 → Int32 → Int32 → Int64 → Int32 → Int32 → am_H → Option am_O
  | 0 => fun _ _ _ _ _ _ _ _ _ => none
  | K + 1 => fun x0 x1 x2 x3 x4 x5 x7 x8 h => (if x4 ≤ 1 then (fg_378_80 N rec_48 (fg_378_67 N rec_48 K) x0 x1 x2 x3 x4 x5 x7 x8 x8 1 h) else (fg_378_80 N rec_48 (fg_378_67 N rec_48 K) x0 x1 x2 x3 x4 x5 x7 x8 x8 x3 h))
theorem rg_378_67 {X : am_X} {d : Nat} {N : Nat} {rec_48 : Value → Int32 → Int32 → Int32 → Int32 → Int64 → Int32 → am_H → Option am_O} (q_48 : ∀ (x0 : Value) (x1 : Int32) (x2 : Int32) (x3 : Int32) (x4 : Int32) (x5 : Int64) (x7 : Int32) (h : am_H) (o : am_O), rec_48 x0 x1 x2 x3 x4 x5 x7 h = some o → ∀ lv : am_LV, (lv.lookup 0 = some x0) → (lv.lookup 1 = some (.int x1)) → (lv.lookup 2 = some (.int x2)) → (lv.lookup 3 = some (.int x3)) → (lv.lookup 4 = some (.int x4)) → (lv.lookup 5 = some (.long x5)) → (lv.lookup 7 = some (.int x7)) → (am_isR x0 = true) → am_W X (d + 3) 378 48 lv [] h (fun q => q = o)) : ∀ (K : Nat) (x0 : Value) (x1 : Int32) (x2 : Int32) (x3 : Int32) (x4 : Int32) (x5 : Int64) (x7 : Int32) (x8 : Int32) (h : am_H) (o : am_O), fg_378_67 N rec_48 K x0 x1 x2 x3 x4 x5 x7 x8 h = some o → ∀ lv : am_LV, (lv.lookup 0 = some x0) → (lv.lookup 1 = some (.int x1)) → (lv.lookup 2 = some (.int x2)) → (lv.lookup 3 = some (.int x3)) → (lv.lookup 4 = some (.int x4)) → (lv.lookup 5 = some (.long x5)) → (lv.lookup 7 = some (.int x7)) → (lv.lookup 8 = some (.int x8)) → (am_isR x0 = true) → am_W X (d + 3) 378 67 lv [] h (fun q => q = o) := by
  intro K
  induction K with
  | zero => intro x0 x1 x2 x3 x4 x5 x7 x8 h o hs; cases hs
  | succ K ih =>
    intro x0 x1 x2 x3 x4 x5 x7 x8 h o hs lv l0 l1 l2 l3 l4 l5 l7 l8 i0
    unfold fg_378_67 at hs
    refine aw_iload (pc1 := 69) at_378_67 l8 rfl ?_
    refine aw_iload (pc1 := 71) at_378_69 l4 rfl ?_
    refine aw_iconst (v := 1) (pc1 := 72) at_378_71 (by decide) rfl ?_
    by_cases c1 : x4 ≤ 1
    · rw [if_pos c1] at hs
      refine aw_icle_t at_378_72 c1 ?_
      refine aw_iconst (v := 1) (pc1 := 80) at_378_79 (by decide) rfl ?_
      exact rg_378_80 q_48 (fun z0 z1 z2 z3 z4 z5 z6 z7 h o hs => ih z0 z1 z2 z3 z4 z5 z6 z7 h o hs) x0 x1 x2 x3 x4 x5 x7 x8 x8 1 h o l0 l1 l2 l3 l4 l5 l7 l8 i0 hs
    · rw [if_neg c1] at hs
      refine aw_icle_f (pc1 := 75) at_378_72 c1 rfl ?_
      refine aw_iload_n (pc1 := 76) at_378_75 l3 rfl ?_
      refine aw_goto at_378_76 ?_
      exact rg_378_80 q_48 (fun z0 z1 z2 z3 z4 z5 z6 z7 h o hs => ih z0 z1 z2 z3 z4 z5 z6 z7 h o hs) x0 x1 x2 x3 x4 x5 x7 x8 x8 x3 h o l0 l1 l2 l3 l4 l5 l7 l8 i0 hs
def fg_378_65 (N : Nat) (rec_48 : Value → Int32 → Int32 → Int32 → Int32 → Int64 → Int32 → am_H → Option am_O) (x0 : Value) (x1 : Int32) (x2 : Int32) (x3 : Int32) (x4 : Int32) (x5 : Int64) (x7 : Int32) (s0 : Int32) (h : am_H) : Option am_O := (fg_378_67 N rec_48 N x0 x1 x2 x3 x4 x5 x7 s0 h)
theorem rg_378_65 {X : am_X} {d : Nat} {N : Nat} {rec_48 : Value → Int32 → Int32 → Int32 → Int32 → Int64 → Int32 → am_H → Option am_O} (q_48 : ∀ (x0 : Value) (x1 : Int32) (x2 : Int32) (x3 : Int32) (x4 : Int32) (x5 : Int64) (x7 : Int32) (h : am_H) (o : am_O), rec_48 x0 x1 x2 x3 x4 x5 x7 h = some o → ∀ lv : am_LV, (lv.lookup 0 = some x0) → (lv.lookup 1 = some (.int x1)) → (lv.lookup 2 = some (.int x2)) → (lv.lookup 3 = some (.int x3)) → (lv.lookup 4 = some (.int x4)) → (lv.lookup 5 = some (.long x5)) → (lv.lookup 7 = some (.int x7)) → (am_isR x0 = true) → am_W X (d + 3) 378 48 lv [] h (fun q => q = o)) {lv : am_LV} (x0 : Value) (x1 : Int32) (x2 : Int32) (x3 : Int32) (x4 : Int32) (x5 : Int64) (x7 : Int32) (s0 : Int32) (h : am_H) (o : am_O) (l0 : lv.lookup 0 = some x0) (l1 : lv.lookup 1 = some (.int x1)) (l2 : lv.lookup 2 = some (.int x2)) (l3 : lv.lookup 3 = some (.int x3)) (l4 : lv.lookup 4 = some (.int x4)) (l5 : lv.lookup 5 = some (.long x5)) (l7 : lv.lookup 7 = some (.int x7)) (i0 : am_isR x0 = true) (hs : fg_378_65 N rec_48 x0 x1 x2 x3 x4 x5 x7 s0 h = some o) : am_W X (d + 3) 378 65 lv [(.int s0)] h (fun q => q = o) := by
  unfold fg_378_65 at hs
  refine aw_istore (lv1 := am_put1 _ 8 _) (pc1 := 67) at_378_65 rfl rfl ?_
  exact rg_378_67 q_48 N x0 x1 x2 x3 x4 x5 x7 s0 h o hs _ (am_lk1 l0 rfl rfl) (am_lk1 l1 rfl rfl) (am_lk1 l2 rfl rfl) (am_lk1 l3 rfl rfl) (am_lk1 l4 rfl rfl) (am_lk1 l5 rfl rfl) (am_lk1 l7 rfl rfl) am_lk0 i0
def fg_378_48 (N : Nat) : Nat → Value → Int32 → Int32 → Int32 → Int32 → Int64 → Int32 → am_H → Option am_O
  | 0 => fun _ _ _ _ _ _ _ _ => none
  | K + 1 => fun x0 x1 x2 x3 x4 x5 x7 h => (if x3 ≤ x7 then some (.inl (some (.long x5), h)) else (if x4 ≤ 1 then (fg_378_65 N (fg_378_48 N K) x0 x1 x2 x3 x4 x5 x7 0 h) else (fg_378_65 N (fg_378_48 N K) x0 x1 x2 x3 x4 x5 x7 1 h)))
theorem rg_378_48 {X : am_X} {d : Nat} {N : Nat} : ∀ (K : Nat) (x0 : Value) (x1 : Int32) (x2 : Int32) (x3 : Int32) (x4 : Int32) (x5 : Int64) (x7 : Int32) (h : am_H) (o : am_O), fg_378_48 N K x0 x1 x2 x3 x4 x5 x7 h = some o → ∀ lv : am_LV, (lv.lookup 0 = some x0) → (lv.lookup 1 = some (.int x1)) → (lv.lookup 2 = some (.int x2)) → (lv.lookup 3 = some (.int x3)) → (lv.lookup 4 = some (.int x4)) → (lv.lookup 5 = some (.long x5)) → (lv.lookup 7 = some (.int x7)) → (am_isR x0 = true) → am_W X (d + 3) 378 48 lv [] h (fun q => q = o) := by
  intro K
  induction K with
  | zero => intro x0 x1 x2 x3 x4 x5 x7 h o hs; cases hs
  | succ K ih =>
    intro x0 x1 x2 x3 x4 x5 x7 h o hs lv l0 l1 l2 l3 l4 l5 l7 i0
    unfold fg_378_48 at hs
    refine aw_iload (pc1 := 50) at_378_48 l7 rfl ?_
    refine aw_iload_n (pc1 := 51) at_378_50 l3 rfl ?_
    by_cases c1 : x3 ≤ x7
    · rw [if_pos c1] at hs
      refine aw_icge_t at_378_51 c1 ?_
      refine aw_lload (pc1 := 113) at_378_111 l5 rfl ?_
      cases hs
      exact aw_lret at_378_113 rt_378 rfl
    · rw [if_neg c1] at hs
      refine aw_icge_f (pc1 := 54) at_378_51 c1 rfl ?_
      refine aw_iload (pc1 := 56) at_378_54 l4 rfl ?_
      refine aw_iconst (v := 1) (pc1 := 57) at_378_56 (by decide) rfl ?_
      by_cases c2 : x4 ≤ 1
      · rw [if_pos c2] at hs
        refine aw_icle_t at_378_57 c2 ?_
        refine aw_iconst (v := 0) (pc1 := 65) at_378_64 (by decide) rfl ?_
        exact rg_378_65 (fun z0 z1 z2 z3 z4 z5 z6 h o hs => ih z0 z1 z2 z3 z4 z5 z6 h o hs) x0 x1 x2 x3 x4 x5 x7 0 h o l0 l1 l2 l3 l4 l5 l7 i0 hs
      · rw [if_neg c2] at hs
        refine aw_icle_f (pc1 := 60) at_378_57 c2 rfl ?_
        refine aw_iconst (v := 1) (pc1 := 61) at_378_60 (by decide) rfl ?_
        refine aw_goto at_378_61 ?_
        exact rg_378_65 (fun z0 z1 z2 z3 z4 z5 z6 h o hs => ih z0 z1 z2 z3 z4 z5 z6 h o hs) x0 x1 x2 x3 x4 x5 x7 1 h o l0 l1 l2 l3 l4 l5 l7 i0 hs
def fg_378_41 (N : Nat) (s0 : Int64) (h : am_H) : Option am_O := some (.inl (some (.long s0), h))
theorem rg_378_41 {X : am_X} {d : Nat} {N : Nat} {lv : am_LV} (s0 : Int64) (h : am_H) (o : am_O) (hs : fg_378_41 N s0 h = some o) : am_W X (d + 3) 378 41 lv [(.long s0)] h (fun q => q = o) := by
  unfold fg_378_41 at hs
  cases hs
  exact aw_lret at_378_41 rt_378 rfl
def fg_378_0 (N : Nat) (x0 : Value) (x1 : Int32) (x2 : Int32) (x3 : Int32) (h : am_H) : Option am_O := am_cI false (fm_379 x1 x2 h) (fun v1 h2 => (if ¬ v1 = 0 then am_cI false (fm_343 x2 h2) (fun v5 h6 => (if ¬ v5 = 0 then (fg_378_48 N N x0 x1 x2 x3 v5 0 1 h6) else (if x3 = 1 then (if ¬ x2 = 0 then (fg_378_41 N 1 h6) else (fg_378_41 N 10 h6)) else (fg_378_41 N 0 h6)))) else some (.inl (some (.long 0), h2))))
theorem rg_378_0 {X : am_X} {d : Nat} {N : Nat} {lv : am_LV} (x0 : Value) (x1 : Int32) (x2 : Int32) (x3 : Int32) (h : am_H) (o : am_O) (l0 : lv.lookup 0 = some x0) (l1 : lv.lookup 1 = some (.int x1)) (l2 : lv.lookup 2 = some (.int x2)) (l3 : lv.lookup 3 = some (.int x3)) (i0 : am_isR x0 = true) (hs : fg_378_0 N x0 x1 x2 x3 h = some o) : am_W X (d + 3) 378 0 lv [] h (fun q => q = o) := by
  unfold fg_378_0 at hs
  refine aw_iload_n (pc1 := 1) at_378_0 l1 rfl ?_
  refine aw_iload_n (pc1 := 2) at_378_1 l2 rfl ?_
  refine aw_call (F := fm_379 x1 x2 h) (t := false) (na := 2) (kd := 0) (as := [(.int x1), (.int x2)]) at_378_2 (am_k3s kb_379) mn_379 mk_379 rfl rfl (am_ok_s mi_379 (am_hl rfl (am_ccI (am_ccI am_cats_0)) rfl)) (am_hc am_cats_0 rfl) (fun hz9 => by cases hz9) (fun o1 hz9 => rm_379 x1 x2 h o1  hz9) ?_
  rcases am_cI_s hs with ⟨v1, h2, f3, hs1⟩ | hs1
  · clear hs
    refine Or.inl ⟨_, _, f3, ?_⟩
    show am_W X _ 378 5 _ [(.int v1)] h2 _
    by_cases c4 : ¬ v1 = 0
    · rw [if_pos c4] at hs1
      refine aw_ifne_t at_378_5 c4 ?_
      refine aw_iload_n (pc1 := 11) at_378_10 l2 rfl ?_
      refine aw_call (F := fm_343 x2 h2) (t := false) (na := 1) (kd := 0) (as := [(.int x2)]) at_378_11 (am_k3s kb_343) mn_343 mk_343 rfl rfl (am_ok_s mi_343 (am_hl rfl (am_ccI am_cats_0) rfl)) (am_hc am_cats_0 rfl) (fun hz9 => by cases hz9) (fun o1 hz9 => rm_343 x2 h2 o1  hz9) ?_
      rcases am_cI_s hs1 with ⟨v5, h6, f7, hs2⟩ | hs2
      · clear hs1
        refine Or.inl ⟨_, _, f7, ?_⟩
        show am_W X _ 378 14 _ [(.int v5)] h6 _
        refine aw_istore (lv1 := am_put1 _ 4 _) (pc1 := 16) at_378_14 rfl rfl ?_
        refine aw_iload (pc1 := 18) at_378_16 am_lk0 rfl ?_
        by_cases c8 : ¬ v5 = 0
        · rw [if_pos c8] at hs2
          refine aw_ifne_t at_378_18 c8 ?_
          refine aw_lconst (v := 0) (pc1 := 43) at_378_42 (by decide) rfl ?_
          refine aw_lstore (lv1 := am_put2 _ 5 _) (pc1 := 45) at_378_43 rfl rfl ?_
          refine aw_iconst (v := 1) (pc1 := 46) at_378_45 (by decide) rfl ?_
          refine aw_istore (lv1 := am_put1 _ 7 _) (pc1 := 48) at_378_46 rfl rfl ?_
          exact rg_378_48 N x0 x1 x2 x3 v5 0 1 h6 o hs2 _ (am_lk1 (am_lk2 (am_lk1 l0 rfl rfl) rfl rfl) rfl rfl) (am_lk1 (am_lk2 (am_lk1 l1 rfl rfl) rfl rfl) rfl rfl) (am_lk1 (am_lk2 (am_lk1 l2 rfl rfl) rfl rfl) rfl rfl) (am_lk1 (am_lk2 (am_lk1 l3 rfl rfl) rfl rfl) rfl rfl) (am_lk1 (am_lk2 am_lk0 rfl rfl) rfl rfl) (am_lk1 am_lk02 rfl rfl) am_lk0 i0
        · rw [if_neg c8] at hs2
          refine aw_ifne_f (pc1 := 21) at_378_18 c8 rfl ?_
          refine aw_iload_n (pc1 := 22) at_378_21 (am_lk1 l3 rfl rfl) rfl ?_
          refine aw_iconst (v := 1) (pc1 := 23) at_378_22 (by decide) rfl ?_
          by_cases c9 : x3 = 1
          · rw [if_pos c9] at hs2
            refine aw_iceq_t at_378_23 c9 ?_
            refine aw_iload_n (pc1 := 31) at_378_30 (am_lk1 l2 rfl rfl) rfl ?_
            by_cases c10 : ¬ x2 = 0
            · rw [if_pos c10] at hs2
              refine aw_ifne_t at_378_31 c10 ?_
              refine aw_lconst (v := 1) (pc1 := 41) at_378_40 (by decide) rfl ?_
              exact rg_378_41 1 h6 o   hs2
            · rw [if_neg c10] at hs2
              refine aw_ifne_f (pc1 := 34) at_378_31 c10 rfl ?_
              refine aw_ldc2 (v := 10) (pc1 := 37) at_378_34 rfl rfl ?_
              refine aw_goto at_378_37 ?_
              exact rg_378_41 10 h6 o   hs2
          · rw [if_neg c9] at hs2
            refine aw_iceq_f (pc1 := 26) at_378_23 c9 rfl ?_
            refine aw_lconst (v := 0) (pc1 := 27) at_378_26 (by decide) rfl ?_
            refine aw_goto at_378_27 ?_
            exact rg_378_41 0 h6 o   hs2
      · clear hs1
        exact Or.inr hs2
    · rw [if_neg c4] at hs1
      refine aw_ifne_f (pc1 := 8) at_378_5 c4 rfl ?_
      refine aw_lconst (v := 0) (pc1 := 9) at_378_8 (by decide) rfl ?_
      cases hs1
      exact aw_lret at_378_9 rt_378 rfl
  · clear hs
    exact Or.inr hs1
def fm_378 (N : Nat) (y0 : Value) (y1 : Int32) (y2 : Int32) (y3 : Int32) (h : am_H) : Option am_O := fg_378_0 N y0 y1 y2 y3 h
theorem rm_378 {X : am_X} {d : Nat} {N : Nat} (y0 : Value) (y1 : Int32) (y2 : Int32) (y3 : Int32) (h : am_H) (o : am_O) (i0 : am_isR y0 = true) (hs : fm_378 N y0 y1 y2 y3 h = some o) : am_W X (d + 3) 378 0 (am_args 0 [y0, .int y1, .int y2, .int y3]) [] h (fun q => q = o) := by
  rw [am_args_R i0, am_args_I, am_args_I, am_args_I]
  exact rg_378_0 y0 y1 y2 y3 h o rfl rfl rfl rfl i0 hs
def fg_384_0 (x0 : Value) (x1 : Int32) (x2 : Int32) (x3 : Int32) (h : am_H) : Option am_O := ((am_vR (am_pG 3154 x0 h)).bind fun v1 => ((am_pAL v1 (((273 * x1) + (13 * x2)) + x3) h).bind fun v3 => some (.inl (some (.long v3), h))))
theorem rg_384_0 {X : am_X} {d : Nat} {lv : am_LV} (x0 : Value) (x1 : Int32) (x2 : Int32) (x3 : Int32) (h : am_H) (o : am_O) (l0 : lv.lookup 0 = some x0) (l1 : lv.lookup 1 = some (.int x1)) (l2 : lv.lookup 2 = some (.int x2)) (l3 : lv.lookup 3 = some (.int x3)) (i0 : am_isR x0 = true) (hs : fg_384_0 x0 x1 x2 x3 h = some o) : am_W X (d) 384 0 lv [] h (fun q => q = o) := by
  unfold fg_384_0 at hs
  refine aw_vload_n (pc1 := 1) at_384_0 l0 i0 rfl ?_
  obtain ⟨v1, e2, hs1⟩ := am_bind hs
  clear hs
  refine aw_pG (pc1 := 4) at_384_1 (am_vR_s e2).1 rfl ?_
  refine aw_sipush (v := 273) (pc1 := 7) at_384_4 (by decide) rfl ?_
  refine aw_iload_n (pc1 := 8) at_384_7 l1 rfl ?_
  refine aw_imul (v := (273 * x1)) (pc1 := 9) at_384_8 rfl rfl ?_
  refine aw_bipush (v := 13) (pc1 := 11) at_384_9 (by decide) rfl ?_
  refine aw_iload_n (pc1 := 12) at_384_11 l2 rfl ?_
  refine aw_imul (v := (13 * x2)) (pc1 := 13) at_384_12 rfl rfl ?_
  refine aw_iadd (v := ((273 * x1) + (13 * x2))) (pc1 := 14) at_384_13 rfl rfl ?_
  refine aw_iload_n (pc1 := 15) at_384_14 l3 rfl ?_
  refine aw_iadd (v := (((273 * x1) + (13 * x2)) + x3)) (pc1 := 16) at_384_15 rfl rfl ?_
  obtain ⟨v3, e4, hs2⟩ := am_bind hs1
  clear hs1
  refine aw_pAL (pc1 := 17) at_384_16 e4 rfl ?_
  cases hs2
  exact aw_lret at_384_17 rt_384 rfl
def fm_384 (y0 : Value) (y1 : Int32) (y2 : Int32) (y3 : Int32) (h : am_H) : Option am_O := fg_384_0 y0 y1 y2 y3 h
theorem rm_384 {X : am_X} {d : Nat} (y0 : Value) (y1 : Int32) (y2 : Int32) (y3 : Int32) (h : am_H) (o : am_O) (i0 : am_isR y0 = true) (hs : fm_384 y0 y1 y2 y3 h = some o) : am_W X (d) 384 0 (am_args 0 [y0, .int y1, .int y2, .int y3]) [] h (fun q => q = o) := by
  rw [am_args_R i0, am_args_I, am_args_I, am_args_I]
  exact rg_384_0 y0 y1 y2 y3 h o rfl rfl rfl rfl i0 hs
def fg_377_139 (N : Nat) (rec_15 : Value → Int32 → am_H → Option am_O) : Nat → Value → Int32 → Int32 → am_H → Option am_O
  | 0 => fun _ _ _ _ => none
  | K + 1 => fun x0 x1 x2 h => (if 6 ≤ x2 then (rec_15 x0 ((x1 + 1)) h) else ((am_vR (am_pG 3153 x0 h)).bind fun v2 => ((am_vR (am_pG 3155 x0 h)).bind fun v4 => ((am_pAL v4 x2 h).bind fun v6 => ((am_pSL v2 (((28 * (x2 / 2)) + (14 * (x2 - x2 / 2 * 2))) + x1) v6 h).bind fun h8 => (fg_377_139 N rec_15 K x0 x1 ((x2 + 1)) h8))))))
theorem rg_377_139 {X : am_X} {d : Nat} {N : Nat} {rec_15 : Value → Int32 → am_H → Option am_O} (q_15 : ∀ (x0 : Value) (x1 : Int32) (h : am_H) (o : am_O), rec_15 x0 x1 h = some o → ∀ lv : am_LV, (lv.lookup 0 = some x0) → (lv.lookup 1 = some (.int x1)) → (am_isR x0 = true) → am_W X (d + 4) 377 15 lv [] h (fun q => q = o)) : ∀ (K : Nat) (x0 : Value) (x1 : Int32) (x2 : Int32) (h : am_H) (o : am_O), fg_377_139 N rec_15 K x0 x1 x2 h = some o → ∀ lv : am_LV, (lv.lookup 0 = some x0) → (lv.lookup 1 = some (.int x1)) → (lv.lookup 2 = some (.int x2)) → (am_isR x0 = true) → am_W X (d + 4) 377 139 lv [] h (fun q => q = o) := by
  intro K
  induction K with
  | zero => intro x0 x1 x2 h o hs; cases hs
  | succ K ih =>
    intro x0 x1 x2 h o hs lv l0 l1 l2 i0
    unfold fg_377_139 at hs
    refine aw_iload_n (pc1 := 140) at_377_139 l2 rfl ?_
    refine aw_bipush (v := 6) (pc1 := 142) at_377_140 (by decide) rfl ?_
    by_cases c1 : 6 ≤ x2
    · rw [if_pos c1] at hs
      refine aw_icge_t at_377_142 c1 ?_
      refine aw_iinc (v := (x1 + 1)) (c := 1) (lv1 := am_put1 _ 1 _) (pc1 := 180) at_377_177 l1 (by decide) rfl rfl rfl ?_
      refine aw_goto at_377_180 ?_
      exact q_15 x0 ((x1 + 1)) h o hs _ (am_lk1 l0 rfl (by rw [am_isRc i0]; rfl)) am_lk0 i0
    · rw [if_neg c1] at hs
      refine aw_icge_f (pc1 := 145) at_377_142 c1 rfl ?_
      refine aw_vload_n (pc1 := 146) at_377_145 l0 i0 rfl ?_
      obtain ⟨v2, e3, hs1⟩ := am_bind hs
      clear hs
      refine aw_pG (pc1 := 149) at_377_146 (am_vR_s e3).1 rfl ?_
      refine aw_bipush (v := 28) (pc1 := 151) at_377_149 (by decide) rfl ?_
      refine aw_iload_n (pc1 := 152) at_377_151 l2 rfl ?_
      refine aw_iconst (v := 2) (pc1 := 153) at_377_152 (by decide) rfl ?_
      refine aw_idiv (v := (x2 / 2)) (pc1 := 154) at_377_153 (by decide) rfl rfl ?_
      refine aw_imul (v := (28 * (x2 / 2))) (pc1 := 155) at_377_154 rfl rfl ?_
      refine aw_bipush (v := 14) (pc1 := 157) at_377_155 (by decide) rfl ?_
      refine aw_iload_n (pc1 := 158) at_377_157 l2 rfl ?_
      refine aw_iconst (v := 2) (pc1 := 159) at_377_158 (by decide) rfl ?_
      refine aw_irem (v := (x2 - x2 / 2 * 2)) (pc1 := 160) at_377_159 (by decide) rfl rfl ?_
      refine aw_imul (v := (14 * (x2 - x2 / 2 * 2))) (pc1 := 161) at_377_160 rfl rfl ?_
      refine aw_iadd (v := ((28 * (x2 / 2)) + (14 * (x2 - x2 / 2 * 2)))) (pc1 := 162) at_377_161 rfl rfl ?_
      refine aw_iload_n (pc1 := 163) at_377_162 l1 rfl ?_
      refine aw_iadd (v := (((28 * (x2 / 2)) + (14 * (x2 - x2 / 2 * 2))) + x1)) (pc1 := 164) at_377_163 rfl rfl ?_
      refine aw_vload_n (pc1 := 165) at_377_164 l0 i0 rfl ?_
      obtain ⟨v4, e5, hs2⟩ := am_bind hs1
      clear hs1
      refine aw_pG (pc1 := 168) at_377_165 (am_vR_s e5).1 rfl ?_
      refine aw_iload_n (pc1 := 169) at_377_168 l2 rfl ?_
      obtain ⟨v6, e7, hs3⟩ := am_bind hs2
      clear hs2
      refine aw_pAL (pc1 := 170) at_377_169 e7 rfl ?_
      obtain ⟨h8, e9, hs4⟩ := am_bind hs3
      clear hs3
      refine aw_pSL (pc1 := 171) at_377_170 e9 rfl ?_
      refine aw_iinc (v := (x2 + 1)) (c := 1) (lv1 := am_put1 _ 2 _) (pc1 := 174) at_377_171 l2 (by decide) rfl rfl rfl ?_
      refine aw_goto at_377_174 ?_
      exact ih x0 x1 ((x2 + 1)) h8 o hs4 _ (am_lk1 l0 rfl rfl) (am_lk1 l1 rfl rfl) am_lk0 i0
def fg_377_104 (N : Nat) (rec_15 : Value → Int32 → am_H → Option am_O) (rec_23 : Value → Int32 → Int32 → am_H → Option am_O) (rec_36 : Value → Int32 → Int32 → Int64 → Int64 → Int32 → am_H → Option am_O) (x0 : Value) (x1 : Int32) (x2 : Int32) (x3 : Int64) (x5 : Int64) (x7 : Int32) (h : am_H) : Option am_O := (rec_36 x0 x1 x2 x3 x5 ((x7 + 1)) h)
theorem rg_377_104 {X : am_X} {d : Nat} {N : Nat} {rec_15 : Value → Int32 → am_H → Option am_O} {rec_23 : Value → Int32 → Int32 → am_H → Option am_O} {rec_36 : Value → Int32 → Int32 → Int64 → Int64 → Int32 → am_H → Option am_O} (q_15 : ∀ (x0 : Value) (x1 : Int32) (h : am_H) (o : am_O), rec_15 x0 x1 h = some o → ∀ lv : am_LV, (lv.lookup 0 = some x0) → (lv.lookup 1 = some (.int x1)) → (am_isR x0 = true) → am_W X (d + 4) 377 15 lv [] h (fun q => q = o)) (q_23 : ∀ (x0 : Value) (x1 : Int32) (x2 : Int32) (h : am_H) (o : am_O), rec_23 x0 x1 x2 h = some o → ∀ lv : am_LV, (lv.lookup 0 = some x0) → (lv.lookup 1 = some (.int x1)) → (lv.lookup 2 = some (.int x2)) → (am_isR x0 = true) → am_W X (d + 4) 377 23 lv [] h (fun q => q = o)) (q_36 : ∀ (x0 : Value) (x1 : Int32) (x2 : Int32) (x3 : Int64) (x5 : Int64) (x7 : Int32) (h : am_H) (o : am_O), rec_36 x0 x1 x2 x3 x5 x7 h = some o → ∀ lv : am_LV, (lv.lookup 0 = some x0) → (lv.lookup 1 = some (.int x1)) → (lv.lookup 2 = some (.int x2)) → (lv.lookup 3 = some (.long x3)) → (lv.lookup 5 = some (.long x5)) → (lv.lookup 7 = some (.int x7)) → (am_isR x0 = true) → am_W X (d + 4) 377 36 lv [] h (fun q => q = o)) {lv : am_LV} (x0 : Value) (x1 : Int32) (x2 : Int32) (x3 : Int64) (x5 : Int64) (x7 : Int32) (h : am_H) (o : am_O) (l0 : lv.lookup 0 = some x0) (l1 : lv.lookup 1 = some (.int x1)) (l2 : lv.lookup 2 = some (.int x2)) (l3 : lv.lookup 3 = some (.long x3)) (l5 : lv.lookup 5 = some (.long x5)) (l7 : lv.lookup 7 = some (.int x7)) (i0 : am_isR x0 = true) (hs : fg_377_104 N rec_15 rec_23 rec_36 x0 x1 x2 x3 x5 x7 h = some o) : am_W X (d + 4) 377 104 lv [] h (fun q => q = o) := by
  unfold fg_377_104 at hs
  refine aw_iinc (v := (x7 + 1)) (c := 1) (lv1 := am_put1 _ 7 _) (pc1 := 107) at_377_104 l7 (by decide) rfl rfl rfl ?_
  refine aw_goto at_377_107 ?_
  exact q_36 x0 x1 x2 x3 x5 ((x7 + 1)) h o hs _ (am_lk1 l0 rfl rfl) (am_lk1 l1 rfl rfl) (am_lk1 l2 rfl rfl) (am_lk1 l3 rfl rfl) (am_lk1 l5 rfl rfl) am_lk0 i0
def fg_377_36 (N : Nat) (rec_15 : Value → Int32 → am_H → Option am_O) (rec_23 : Value → Int32 → Int32 → am_H → Option am_O) : Nat → Value → Int32 → Int32 → Int64 → Int64 → Int32 → am_H → Option am_O
  | 0 => fun _ _ _ _ _ _ _ => none
  | K + 1 => fun x0 x1 x2 x3 x5 x7 h => (if 21 ≤ x7 then ((am_vR (am_pG 3155 x0 h)).bind fun v2 => ((am_pSL v2 (2 * x2) x3 h).bind fun h4 => ((am_vR (am_pG 3155 x0 h4)).bind fun v6 => ((am_pSL v6 ((2 * x2) + 1) x5 h4).bind fun h8 => (rec_23 x0 x1 ((x2 + 1)) h8))))) else ((am_vR (am_pG 3154 x0 h)).bind fun v10 => (if am_pOk 12 x0 h then am_cL true (fm_378 N x0 x2 x7 x1 h) (fun v13 h14 => ((am_pSL v10 (((273 * x2) + (13 * x7)) + x1) v13 h14).bind fun h16 => am_cI false (fm_334 x7 h16) (fun v18 h19 => (if v18 = 0 then (if am_pOk 12 x0 h19 then am_cL true (fm_384 x0 x2 x7 x1 h19) (fun v23 h24 => (fg_377_104 N rec_15 rec_23 (fg_377_36 N rec_15 rec_23 K) x0 x1 x2 ((x3 + v23)) x5 x7 h24)) else none) else (if am_pOk 12 x0 h19 then am_cL true (fm_384 x0 x2 x7 x1 h19) (fun v27 h28 => (fg_377_104 N rec_15 rec_23 (fg_377_36 N rec_15 rec_23 K) x0 x1 x2 x3 ((x5 + v27)) x7 h28)) else none))))) else none)))
theorem rg_377_36 {X : am_X} {d : Nat} {N : Nat} {rec_15 : Value → Int32 → am_H → Option am_O} {rec_23 : Value → Int32 → Int32 → am_H → Option am_O} (q_15 : ∀ (x0 : Value) (x1 : Int32) (h : am_H) (o : am_O), rec_15 x0 x1 h = some o → ∀ lv : am_LV, (lv.lookup 0 = some x0) → (lv.lookup 1 = some (.int x1)) → (am_isR x0 = true) → am_W X (d + 4) 377 15 lv [] h (fun q => q = o)) (q_23 : ∀ (x0 : Value) (x1 : Int32) (x2 : Int32) (h : am_H) (o : am_O), rec_23 x0 x1 x2 h = some o → ∀ lv : am_LV, (lv.lookup 0 = some x0) → (lv.lookup 1 = some (.int x1)) → (lv.lookup 2 = some (.int x2)) → (am_isR x0 = true) → am_W X (d + 4) 377 23 lv [] h (fun q => q = o)) : ∀ (K : Nat) (x0 : Value) (x1 : Int32) (x2 : Int32) (x3 : Int64) (x5 : Int64) (x7 : Int32) (h : am_H) (o : am_O), fg_377_36 N rec_15 rec_23 K x0 x1 x2 x3 x5 x7 h = some o → ∀ lv : am_LV, (lv.lookup 0 = some x0) → (lv.lookup 1 = some (.int x1)) → (lv.lookup 2 = some (.int x2)) → (lv.lookup 3 = some (.long x3)) → (lv.lookup 5 = some (.long x5)) → (lv.lookup 7 = some (.int x7)) → (am_isR x0 = true) → am_W X (d + 4) 377 36 lv [] h (fun q => q = o) := by
  intro K
  induction K with
  | zero => intro x0 x1 x2 x3 x5 x7 h o hs; cases hs
  | succ K ih =>
    intro x0 x1 x2 x3 x5 x7 h o hs lv l0 l1 l2 l3 l5 l7 i0
    unfold fg_377_36 at hs
    refine aw_iload (pc1 := 38) at_377_36 l7 rfl ?_
    refine aw_bipush (v := 21) (pc1 := 40) at_377_38 (by decide) rfl ?_
    by_cases c1 : 21 ≤ x7
    · rw [if_pos c1] at hs
      refine aw_icge_t at_377_40 c1 ?_
      refine aw_vload_n (pc1 := 111) at_377_110 l0 i0 rfl ?_
      obtain ⟨v2, e3, hs1⟩ := am_bind hs
      clear hs
      refine aw_pG (pc1 := 114) at_377_111 (am_vR_s e3).1 rfl ?_
      refine aw_iconst (v := 2) (pc1 := 115) at_377_114 (by decide) rfl ?_
      refine aw_iload_n (pc1 := 116) at_377_115 l2 rfl ?_
      refine aw_imul (v := (2 * x2)) (pc1 := 117) at_377_116 rfl rfl ?_
      refine aw_lload_n (pc1 := 118) at_377_117 l3 rfl ?_
      obtain ⟨h4, e5, hs2⟩ := am_bind hs1
      clear hs1
      refine aw_pSL (pc1 := 119) at_377_118 e5 rfl ?_
      refine aw_vload_n (pc1 := 120) at_377_119 l0 i0 rfl ?_
      obtain ⟨v6, e7, hs3⟩ := am_bind hs2
      clear hs2
      refine aw_pG (pc1 := 123) at_377_120 (am_vR_s e7).1 rfl ?_
      refine aw_iconst (v := 2) (pc1 := 124) at_377_123 (by decide) rfl ?_
      refine aw_iload_n (pc1 := 125) at_377_124 l2 rfl ?_
      refine aw_imul (v := (2 * x2)) (pc1 := 126) at_377_125 rfl rfl ?_
      refine aw_iconst (v := 1) (pc1 := 127) at_377_126 (by decide) rfl ?_
      refine aw_iadd (v := ((2 * x2) + 1)) (pc1 := 128) at_377_127 rfl rfl ?_
      refine aw_lload (pc1 := 130) at_377_128 l5 rfl ?_
      obtain ⟨h8, e9, hs4⟩ := am_bind hs3
      clear hs3
      refine aw_pSL (pc1 := 131) at_377_130 e9 rfl ?_
      refine aw_iinc (v := (x2 + 1)) (c := 1) (lv1 := am_put1 _ 2 _) (pc1 := 134) at_377_131 l2 (by decide) rfl rfl rfl ?_
      refine aw_goto at_377_134 ?_
      exact q_23 x0 x1 ((x2 + 1)) h8 o hs4 _ (am_lk1 l0 rfl rfl) (am_lk1 l1 rfl rfl) am_lk0 i0
    · rw [if_neg c1] at hs
      refine aw_icge_f (pc1 := 43) at_377_40 c1 rfl ?_
      refine aw_vload_n (pc1 := 44) at_377_43 l0 i0 rfl ?_
      obtain ⟨v10, e11, hs5⟩ := am_bind hs
      clear hs
      refine aw_pG (pc1 := 47) at_377_44 (am_vR_s e11).1 rfl ?_
      refine aw_sipush (v := 273) (pc1 := 50) at_377_47 (by decide) rfl ?_
      refine aw_iload_n (pc1 := 51) at_377_50 l2 rfl ?_
      refine aw_imul (v := (273 * x2)) (pc1 := 52) at_377_51 rfl rfl ?_
      refine aw_bipush (v := 13) (pc1 := 54) at_377_52 (by decide) rfl ?_
      refine aw_iload (pc1 := 56) at_377_54 l7 rfl ?_
      refine aw_imul (v := (13 * x7)) (pc1 := 57) at_377_56 rfl rfl ?_
      refine aw_iadd (v := ((273 * x2) + (13 * x7))) (pc1 := 58) at_377_57 rfl rfl ?_
      refine aw_iload_n (pc1 := 59) at_377_58 l1 rfl ?_
      refine aw_iadd (v := (((273 * x2) + (13 * x7)) + x1)) (pc1 := 60) at_377_59 rfl rfl ?_
      refine aw_vload_n (pc1 := 61) at_377_60 l0 i0 rfl ?_
      refine aw_iload_n (pc1 := 62) at_377_61 l2 rfl ?_
      refine aw_iload (pc1 := 64) at_377_62 l7 rfl ?_
      refine aw_iload_n (pc1 := 65) at_377_64 l1 rfl ?_
      obtain ⟨z12, hs6⟩ := am_ift hs5
      clear hs5
      refine aw_call (F := fm_378 N x0 x2 x7 x1 h) (t := true) (na := 4) (kd := 1) (as := [x0, (.int x2), (.int x7), (.int x1)]) at_377_65 (am_k3v kb_378) mn_378 mk_378 rfl rfl (am_ok_v mi_378 (am_hl rfl (am_ccR i0 (am_ccI (am_ccI (am_ccI am_cats_0)))) rfl) z12) (am_hc (am_ccI (am_ccR (am_vR_s e11).2 am_cats_0)) rfl) (fun _ => ⟨rfl, hh_377⟩) (fun o1 hz9 => rm_378 x0 x2 x7 x1 h o1 i0 hz9) ?_
      rcases am_cL_s hs6 with ⟨v13, h14, f15, hs7⟩ | hs7
      · clear hs6
        refine Or.inl ⟨_, _, f15, ?_⟩
        show am_W X _ 377 68 _ [(.long v13), (.int (((273 * x2) + (13 * x7)) + x1)), v10] h14 _
        obtain ⟨h16, e17, hs8⟩ := am_bind hs7
        clear hs7
        refine aw_pSL (pc1 := 69) at_377_68 e17 rfl ?_
        refine aw_iload (pc1 := 71) at_377_69 l7 rfl ?_
        refine aw_call (F := fm_334 x7 h16) (t := false) (na := 1) (kd := 0) (as := [(.int x7)]) at_377_71 (am_k3s kb_334) mn_334 mk_334 rfl rfl (am_ok_s mi_334 (am_hl rfl (am_ccI am_cats_0) rfl)) (am_hc am_cats_0 rfl) (fun hz9 => by cases hz9) (fun o1 hz9 => rm_334 x7 h16 o1  hz9) ?_
        rcases am_cI_s hs8 with ⟨v18, h19, f20, hs9⟩ | hs9
        · clear hs8
          refine Or.inl ⟨_, _, f20, ?_⟩
          show am_W X _ 377 74 _ [(.int v18)] h19 _
          by_cases c21 : v18 = 0
          · rw [if_pos c21] at hs9
            refine aw_ifeq_t at_377_74 c21 ?_
            refine aw_lload_n (pc1 := 94) at_377_93 l3 rfl ?_
            refine aw_vload_n (pc1 := 95) at_377_94 l0 i0 rfl ?_
            refine aw_iload_n (pc1 := 96) at_377_95 l2 rfl ?_
            refine aw_iload (pc1 := 98) at_377_96 l7 rfl ?_
            refine aw_iload_n (pc1 := 99) at_377_98 l1 rfl ?_
            obtain ⟨z22, hs10⟩ := am_ift hs9
            clear hs9
            refine aw_call (F := fm_384 x0 x2 x7 x1 h19) (t := true) (na := 4) (kd := 1) (as := [x0, (.int x2), (.int x7), (.int x1)]) at_377_99 (am_k3v kb_384) mn_384 mk_384 rfl rfl (am_ok_v mi_384 (am_hl rfl (am_ccR i0 (am_ccI (am_ccI (am_ccI am_cats_0)))) rfl) z22) (am_hc (am_ccL am_cats_0) rfl) (fun _ => ⟨rfl, hh_377⟩) (fun o1 hz9 => rm_384 x0 x2 x7 x1 h19 o1 i0 hz9) ?_
            rcases am_cL_s hs10 with ⟨v23, h24, f25, hs11⟩ | hs11
            · clear hs10
              refine Or.inl ⟨_, _, f25, ?_⟩
              show am_W X _ 377 102 _ [(.long v23), (.long x3)] h24 _
              refine aw_ladd (v := (x3 + v23)) (pc1 := 103) at_377_102 rfl rfl ?_
              refine aw_lstore_n (lv1 := am_put2 _ 3 _) (pc1 := 104) at_377_103 rfl rfl ?_
              exact rg_377_104 q_15 q_23 (fun z0 z1 z2 z3 z4 z5 h o hs11 => ih z0 z1 z2 z3 z4 z5 h o hs11) x0 x1 x2 ((x3 + v23)) x5 x7 h24 o (am_lk2 l0 rfl rfl) (am_lk2 l1 rfl rfl) (am_lk2 l2 rfl rfl) am_lk02 (am_lk2 l5 rfl rfl) (am_lk2 l7 rfl rfl) i0 hs11
            · clear hs10
              exact Or.inr hs11
          · rw [if_neg c21] at hs9
            refine aw_ifeq_f (pc1 := 77) at_377_74 c21 rfl ?_
            refine aw_lload (pc1 := 79) at_377_77 l5 rfl ?_
            refine aw_vload_n (pc1 := 80) at_377_79 l0 i0 rfl ?_
            refine aw_iload_n (pc1 := 81) at_377_80 l2 rfl ?_
            refine aw_iload (pc1 := 83) at_377_81 l7 rfl ?_
            refine aw_iload_n (pc1 := 84) at_377_83 l1 rfl ?_
            obtain ⟨z26, hs12⟩ := am_ift hs9
            clear hs9
            refine aw_call (F := fm_384 x0 x2 x7 x1 h19) (t := true) (na := 4) (kd := 1) (as := [x0, (.int x2), (.int x7), (.int x1)]) at_377_84 (am_k3v kb_384) mn_384 mk_384 rfl rfl (am_ok_v mi_384 (am_hl rfl (am_ccR i0 (am_ccI (am_ccI (am_ccI am_cats_0)))) rfl) z26) (am_hc (am_ccL am_cats_0) rfl) (fun _ => ⟨rfl, hh_377⟩) (fun o1 hz9 => rm_384 x0 x2 x7 x1 h19 o1 i0 hz9) ?_
            rcases am_cL_s hs12 with ⟨v27, h28, f29, hs13⟩ | hs13
            · clear hs12
              refine Or.inl ⟨_, _, f29, ?_⟩
              show am_W X _ 377 87 _ [(.long v27), (.long x5)] h28 _
              refine aw_ladd (v := (x5 + v27)) (pc1 := 88) at_377_87 rfl rfl ?_
              refine aw_lstore (lv1 := am_put2 _ 5 _) (pc1 := 90) at_377_88 rfl rfl ?_
              refine aw_goto at_377_90 ?_
              exact rg_377_104 q_15 q_23 (fun z0 z1 z2 z3 z4 z5 h o hs13 => ih z0 z1 z2 z3 z4 z5 h o hs13) x0 x1 x2 x3 ((x5 + v27)) x7 h28 o (am_lk2 l0 rfl rfl) (am_lk2 l1 rfl rfl) (am_lk2 l2 rfl rfl) (am_lk2 l3 rfl rfl) am_lk02 (am_lk2 l7 rfl rfl) i0 hs13
            · clear hs12
              exact Or.inr hs13
        · clear hs8
          exact Or.inr hs9
      · clear hs6
        exact Or.inr hs7
def fg_377_23 (N : Nat) (rec_15 : Value → Int32 → am_H → Option am_O) : Nat → Value → Int32 → Int32 → am_H → Option am_O
  | 0 => fun _ _ _ _ => none
  | K + 1 => fun x0 x1 x2 h => (if 3 ≤ x2 then (fg_377_139 N rec_15 N x0 x1 0 h) else (fg_377_36 N rec_15 (fg_377_23 N rec_15 K) N x0 x1 x2 0 0 0 h))
theorem rg_377_23 {X : am_X} {d : Nat} {N : Nat} {rec_15 : Value → Int32 → am_H → Option am_O} (q_15 : ∀ (x0 : Value) (x1 : Int32) (h : am_H) (o : am_O), rec_15 x0 x1 h = some o → ∀ lv : am_LV, (lv.lookup 0 = some x0) → (lv.lookup 1 = some (.int x1)) → (am_isR x0 = true) → am_W X (d + 4) 377 15 lv [] h (fun q => q = o)) : ∀ (K : Nat) (x0 : Value) (x1 : Int32) (x2 : Int32) (h : am_H) (o : am_O), fg_377_23 N rec_15 K x0 x1 x2 h = some o → ∀ lv : am_LV, (lv.lookup 0 = some x0) → (lv.lookup 1 = some (.int x1)) → (lv.lookup 2 = some (.int x2)) → (am_isR x0 = true) → am_W X (d + 4) 377 23 lv [] h (fun q => q = o) := by
  intro K
  induction K with
  | zero => intro x0 x1 x2 h o hs; cases hs
  | succ K ih =>
    intro x0 x1 x2 h o hs lv l0 l1 l2 i0
    unfold fg_377_23 at hs
    refine aw_iload_n (pc1 := 24) at_377_23 l2 rfl ?_
    refine aw_iconst (v := 3) (pc1 := 25) at_377_24 (by decide) rfl ?_
    by_cases c1 : 3 ≤ x2
    · rw [if_pos c1] at hs
      refine aw_icge_t at_377_25 c1 ?_
      refine aw_iconst (v := 0) (pc1 := 138) at_377_137 (by decide) rfl ?_
      refine aw_istore_n (lv1 := am_put1 _ 2 _) (pc1 := 139) at_377_138 rfl rfl ?_
      exact rg_377_139 q_15 N x0 x1 0 h o hs _ (am_lk1 l0 rfl rfl) (am_lk1 l1 rfl rfl) am_lk0 i0
    · rw [if_neg c1] at hs
      refine aw_icge_f (pc1 := 28) at_377_25 c1 rfl ?_
      refine aw_lconst (v := 0) (pc1 := 29) at_377_28 (by decide) rfl ?_
      refine aw_lstore_n (lv1 := am_put2 _ 3 _) (pc1 := 30) at_377_29 rfl rfl ?_
      refine aw_lconst (v := 0) (pc1 := 31) at_377_30 (by decide) rfl ?_
      refine aw_lstore (lv1 := am_put2 _ 5 _) (pc1 := 33) at_377_31 rfl rfl ?_
      refine aw_iconst (v := 0) (pc1 := 34) at_377_33 (by decide) rfl ?_
      refine aw_istore (lv1 := am_put1 _ 7 _) (pc1 := 36) at_377_34 rfl rfl ?_
      exact rg_377_36 q_15 (fun z0 z1 z2 h o hs => ih z0 z1 z2 h o hs) N x0 x1 x2 0 0 0 h o hs _ (am_lk1 (am_lk2 (am_lk2 l0 rfl rfl) rfl rfl) rfl rfl) (am_lk1 (am_lk2 (am_lk2 l1 rfl rfl) rfl rfl) rfl rfl) (am_lk1 (am_lk2 (am_lk2 l2 rfl rfl) rfl rfl) rfl rfl) (am_lk1 (am_lk2 am_lk02 rfl rfl) rfl rfl) (am_lk1 am_lk02 rfl rfl) am_lk0 i0
def fg_377_15 (N : Nat) : Nat → Value → Int32 → am_H → Option am_O
  | 0 => fun _ _ _ => none
  | K + 1 => fun x0 x1 h => (if 13 ≤ x1 then some (.inl (none, h)) else (fg_377_23 N (fg_377_15 N K) N x0 x1 0 h))
theorem rg_377_15 {X : am_X} {d : Nat} {N : Nat} : ∀ (K : Nat) (x0 : Value) (x1 : Int32) (h : am_H) (o : am_O), fg_377_15 N K x0 x1 h = some o → ∀ lv : am_LV, (lv.lookup 0 = some x0) → (lv.lookup 1 = some (.int x1)) → (am_isR x0 = true) → am_W X (d + 4) 377 15 lv [] h (fun q => q = o) := by
  intro K
  induction K with
  | zero => intro x0 x1 h o hs; cases hs
  | succ K ih =>
    intro x0 x1 h o hs lv l0 l1 i0
    unfold fg_377_15 at hs
    refine aw_iload_n (pc1 := 16) at_377_15 l1 rfl ?_
    refine aw_bipush (v := 13) (pc1 := 18) at_377_16 (by decide) rfl ?_
    by_cases c1 : 13 ≤ x1
    · rw [if_pos c1] at hs
      refine aw_icge_t at_377_18 c1 ?_
      cases hs
      exact aw_vret at_377_183 rt_377 rfl
    · rw [if_neg c1] at hs
      refine aw_icge_f (pc1 := 21) at_377_18 c1 rfl ?_
      refine aw_iconst (v := 0) (pc1 := 22) at_377_21 (by decide) rfl ?_
      refine aw_istore_n (lv1 := am_put1 _ 2 _) (pc1 := 23) at_377_22 rfl rfl ?_
      exact rg_377_23 (fun z0 z1 h o hs => ih z0 z1 h o hs) N x0 x1 0 h o hs _ (am_lk1 l0 rfl rfl) (am_lk1 l1 rfl rfl) am_lk0 i0
def fg_377_0 (N : Nat) (x0 : Value) (h : am_H) : Option am_O := ((am_vI (am_pG 3152 x0 h)).bind fun v1 => (if v1 = 0 then ((am_pP 3152 x0 (.int 1) h).bind fun h4 => (fg_377_15 N N x0 1 h4)) else some (.inl (none, h))))
theorem rg_377_0 {X : am_X} {d : Nat} {N : Nat} {lv : am_LV} (x0 : Value) (h : am_H) (o : am_O) (l0 : lv.lookup 0 = some x0) (i0 : am_isR x0 = true) (hs : fg_377_0 N x0 h = some o) : am_W X (d + 4) 377 0 lv [] h (fun q => q = o) := by
  unfold fg_377_0 at hs
  refine aw_vload_n (pc1 := 1) at_377_0 l0 i0 rfl ?_
  obtain ⟨v1, e2, hs1⟩ := am_bind hs
  clear hs
  refine aw_pG (pc1 := 4) at_377_1 (am_vI_s e2) rfl ?_
  by_cases c3 : v1 = 0
  · rw [if_pos c3] at hs1
    refine aw_ifeq_t at_377_4 c3 ?_
    refine aw_vload_n (pc1 := 9) at_377_8 l0 i0 rfl ?_
    refine aw_iconst (v := 1) (pc1 := 10) at_377_9 (by decide) rfl ?_
    obtain ⟨h4, e5, hs2⟩ := am_bind hs1
    clear hs1
    refine aw_pP (pc1 := 13) at_377_10 e5 rfl ?_
    refine aw_iconst (v := 1) (pc1 := 14) at_377_13 (by decide) rfl ?_
    refine aw_istore_n (lv1 := am_put1 _ 1 _) (pc1 := 15) at_377_14 rfl rfl ?_
    exact rg_377_15 N x0 1 h4 o hs2 _ (am_lk1 l0 rfl (by rw [am_isRc i0]; rfl)) am_lk0 i0
  · rw [if_neg c3] at hs1
    refine aw_ifeq_f (pc1 := 7) at_377_4 c3 rfl ?_
    cases hs1
    exact aw_vret at_377_7 rt_377 rfl
def fm_377 (N : Nat) (y0 : Value) (h : am_H) : Option am_O := fg_377_0 N y0 h
theorem rm_377 {X : am_X} {d : Nat} {N : Nat} (y0 : Value) (h : am_H) (o : am_O) (i0 : am_isR y0 = true) (hs : fm_377 N y0 h = some o) : am_W X (d + 4) 377 0 (am_args 0 [y0]) [] h (fun q => q = o) := by
  rw [am_args_R i0]
  exact rg_377_0 y0 h o rfl i0 hs
def fg_376_18 (N : Nat) (x0 : Value) (x1 : Int32) (s0 : Value) (s1 : Int32) (h : am_H) : Option am_O := ((am_pP 3072 s0 (.int s1) h).bind fun h1 => ((am_vI (am_pG 3072 x0 h1)).bind fun v3 => (if v3 ≤ 0 then (if am_pOk 12 x0 h1 then am_cV true (fm_377 N x0 h1) (fun h8 => (if am_pOk 12 x0 h8 then am_cL true (fm_383 x0 0 0 x1 h8) (fun v11 h12 => some (.inl (some (.long v11), h12))) else none)) else none) else some (.inl (some (.long 0), h1)))))
theorem rg_376_18 {X : am_X} {d : Nat} {N : Nat} {lv : am_LV} (x0 : Value) (x1 : Int32) (s0 : Value) (s1 : Int32) (h : am_H) (o : am_O) (l0 : lv.lookup 0 = some x0) (l1 : lv.lookup 1 = some (.int x1)) (i0 : am_isR x0 = true) (j0 : am_isR s0 = true) (hs : fg_376_18 N x0 x1 s0 s1 h = some o) : am_W X (d + 5) 376 18 lv [(.int s1), s0] h (fun q => q = o) := by
  unfold fg_376_18 at hs
  obtain ⟨h1, e2, hs1⟩ := am_bind hs
  clear hs
  refine aw_pP (pc1 := 21) at_376_18 e2 rfl ?_
  refine aw_vload_n (pc1 := 22) at_376_21 l0 i0 rfl ?_
  obtain ⟨v3, e4, hs2⟩ := am_bind hs1
  clear hs1
  refine aw_pG (pc1 := 25) at_376_22 (am_vI_s e4) rfl ?_
  by_cases c5 : v3 ≤ 0
  · rw [if_pos c5] at hs2
    refine aw_ifle_t at_376_25 c5 ?_
    refine aw_vload_n (pc1 := 31) at_376_30 l0 i0 rfl ?_
    obtain ⟨z6, hs3⟩ := am_ift hs2
    clear hs2
    refine aw_call (F := fm_377 N x0 h1) (t := true) (na := 1) (kd := 1) (as := [x0]) at_376_31 (am_k3v kb_377) mn_377 mk_377 rfl rfl (am_ok_v mi_377 (am_hl rfl (am_ccR i0 am_cats_0) rfl) z6) (am_hc am_cats_0 rfl) (fun _ => ⟨rfl, hh_376⟩) (fun o1 hz9 => rm_377 x0 h1 o1 i0 hz9) ?_
    rcases am_cV_s hs3 with ⟨h8, f9, hs4⟩ | hs4
    · clear hs3
      refine Or.inl ⟨_, _, f9, ?_⟩
      show am_W X _ 376 34 _ [] h8 _
      refine aw_vload_n (pc1 := 35) at_376_34 l0 i0 rfl ?_
      refine aw_iconst (v := 0) (pc1 := 36) at_376_35 (by decide) rfl ?_
      refine aw_iconst (v := 0) (pc1 := 37) at_376_36 (by decide) rfl ?_
      refine aw_iload_n (pc1 := 38) at_376_37 l1 rfl ?_
      obtain ⟨z10, hs5⟩ := am_ift hs4
      clear hs4
      refine aw_call (F := fm_383 x0 0 0 x1 h8) (t := true) (na := 4) (kd := 1) (as := [x0, (.int 0), (.int 0), (.int x1)]) at_376_38 (am_k3v kb_383) mn_383 mk_383 rfl rfl (am_ok_v mi_383 (am_hl rfl (am_ccR i0 (am_ccI (am_ccI (am_ccI am_cats_0)))) rfl) z10) (am_hc am_cats_0 rfl) (fun _ => ⟨rfl, hh_376⟩) (fun o1 hz9 => rm_383 x0 0 0 x1 h8 o1 i0 hz9) ?_
      rcases am_cL_s hs5 with ⟨v11, h12, f13, hs6⟩ | hs6
      · clear hs5
        refine Or.inl ⟨_, _, f13, ?_⟩
        show am_W X _ 376 41 _ [(.long v11)] h12 _
        cases hs6
        exact aw_lret at_376_41 rt_376 rfl
      · clear hs5
        exact Or.inr hs6
    · clear hs3
      exact Or.inr hs4
  · rw [if_neg c5] at hs2
    refine aw_ifle_f (pc1 := 28) at_376_25 c5 rfl ?_
    refine aw_lconst (v := 0) (pc1 := 29) at_376_28 (by decide) rfl ?_
    cases hs2
    exact aw_lret at_376_29 rt_376 rfl
def fg_376_0 (N : Nat) (x0 : Value) (x1 : Int32) (h : am_H) : Option am_O := am_cI false (fm_327 ((Int32.toInt64 x1)) 1 12 h) (fun v1 h2 => (if v1 = 0 then (fg_376_18 N x0 x1 x0 1 h2) else (fg_376_18 N x0 x1 x0 0 h2)))
theorem rg_376_0 {X : am_X} {d : Nat} {N : Nat} {lv : am_LV} (x0 : Value) (x1 : Int32) (h : am_H) (o : am_O) (l0 : lv.lookup 0 = some x0) (l1 : lv.lookup 1 = some (.int x1)) (i0 : am_isR x0 = true) (hs : fg_376_0 N x0 x1 h = some o) : am_W X (d + 5) 376 0 lv [] h (fun q => q = o) := by
  unfold fg_376_0 at hs
  refine aw_vload_n (pc1 := 1) at_376_0 l0 i0 rfl ?_
  refine aw_iload_n (pc1 := 2) at_376_1 l1 rfl ?_
  refine aw_i2l (v := (Int32.toInt64 x1)) (pc1 := 3) at_376_2 rfl rfl ?_
  refine aw_lconst (v := 1) (pc1 := 4) at_376_3 (by decide) rfl ?_
  refine aw_ldc2 (v := 12) (pc1 := 7) at_376_4 rfl rfl ?_
  refine aw_call (F := fm_327 ((Int32.toInt64 x1)) 1 12 h) (t := false) (na := 3) (kd := 0) (as := [(.long (Int32.toInt64 x1)), (.long 1), (.long 12)]) at_376_7 (am_k3s kb_327) mn_327 mk_327 rfl rfl (am_ok_s mi_327 (am_hl rfl (am_ccL (am_ccL (am_ccL am_cats_0))) rfl)) (am_hc (am_ccR i0 am_cats_0) rfl) (fun hz9 => by cases hz9) (fun o1 hz9 => rm_327 ((Int32.toInt64 x1)) 1 12 h o1  hz9) ?_
  rcases am_cI_s hs with ⟨v1, h2, f3, hs1⟩ | hs1
  · clear hs
    refine Or.inl ⟨_, _, f3, ?_⟩
    show am_W X _ 376 10 _ [(.int v1), x0] h2 _
    by_cases c4 : v1 = 0
    · rw [if_pos c4] at hs1
      refine aw_ifeq_t at_376_10 c4 ?_
      refine aw_iconst (v := 1) (pc1 := 18) at_376_17 (by decide) rfl ?_
      exact rg_376_18 x0 x1 x0 1 h2 o l0 l1 i0 i0 hs1
    · rw [if_neg c4] at hs1
      refine aw_ifeq_f (pc1 := 13) at_376_10 c4 rfl ?_
      refine aw_iconst (v := 0) (pc1 := 14) at_376_13 (by decide) rfl ?_
      refine aw_goto at_376_14 ?_
      exact rg_376_18 x0 x1 x0 0 h2 o l0 l1 i0 i0 hs1
  · clear hs
    exact Or.inr hs1
def fm_376 (N : Nat) (y0 : Value) (y1 : Int32) (h : am_H) : Option am_O := fg_376_0 N y0 y1 h
theorem rm_376 {X : am_X} {d : Nat} {N : Nat} (y0 : Value) (y1 : Int32) (h : am_H) (o : am_O) (i0 : am_isR y0 = true) (hs : fm_376 N y0 y1 h = some o) : am_W X (d + 5) 376 0 (am_args 0 [y0, .int y1]) [] h (fun q => q = o) := by
  rw [am_args_R i0, am_args_I]
  exact rg_376_0 y0 y1 h o rfl rfl i0 hs
def fg_93_30 (s0 : Int64) (h : am_H) : Option am_O := some (.inl (some (.long s0), h))
theorem rg_93_30 {X : am_X} {d : Nat} {lv : am_LV} (s0 : Int64) (h : am_H) (o : am_O) (hs : fg_93_30 s0 h = some o) : am_W X (d) 93 30 lv [(.long s0)] h (fun q => q = o) := by
  unfold fg_93_30 at hs
  cases hs
  exact aw_lret at_93_30 rt_93 rfl
def fg_93_29 (h : am_H) : Option am_O := (fg_93_30 0 h)
theorem rg_93_29 {X : am_X} {d : Nat} {lv : am_LV} (h : am_H) (o : am_O) (hs : fg_93_29 h = some o) : am_W X (d) 93 29 lv [] h (fun q => q = o) := by
  unfold fg_93_29 at hs
  refine aw_lconst (v := 0) (pc1 := 30) at_93_29 (by decide) rfl ?_
  exact rg_93_30 0 h o   hs
def fg_93_0 (x0 : Value) (x1 : Int32) (x2 : Int32) (x3 : Int32) (h : am_H) : Option am_O := (if x3 ≤ 0 then (fg_93_29 h) else (if 13 ≤ x3 then (fg_93_29 h) else ((am_vR (am_pG 1024 x0 h)).bind fun v3 => ((am_pAL v3 ((((x1 * 21) + x2) * 13) + x3) h).bind fun v5 => (fg_93_30 v5 h)))))
theorem rg_93_0 {X : am_X} {d : Nat} {lv : am_LV} (x0 : Value) (x1 : Int32) (x2 : Int32) (x3 : Int32) (h : am_H) (o : am_O) (l0 : lv.lookup 0 = some x0) (l1 : lv.lookup 1 = some (.int x1)) (l2 : lv.lookup 2 = some (.int x2)) (l3 : lv.lookup 3 = some (.int x3)) (i0 : am_isR x0 = true) (hs : fg_93_0 x0 x1 x2 x3 h = some o) : am_W X (d) 93 0 lv [] h (fun q => q = o) := by
  unfold fg_93_0 at hs
  refine aw_iload_n (pc1 := 1) at_93_0 l3 rfl ?_
  by_cases c1 : x3 ≤ 0
  · rw [if_pos c1] at hs
    refine aw_ifle_t at_93_1 c1 ?_
    exact rg_93_29 h o   hs
  · rw [if_neg c1] at hs
    refine aw_ifle_f (pc1 := 4) at_93_1 c1 rfl ?_
    refine aw_iload_n (pc1 := 5) at_93_4 l3 rfl ?_
    refine aw_bipush (v := 13) (pc1 := 7) at_93_5 (by decide) rfl ?_
    by_cases c2 : 13 ≤ x3
    · rw [if_pos c2] at hs
      refine aw_icge_t at_93_7 c2 ?_
      exact rg_93_29 h o   hs
    · rw [if_neg c2] at hs
      refine aw_icge_f (pc1 := 10) at_93_7 c2 rfl ?_
      refine aw_vload_n (pc1 := 11) at_93_10 l0 i0 rfl ?_
      obtain ⟨v3, e4, hs1⟩ := am_bind hs
      clear hs
      refine aw_pG (pc1 := 14) at_93_11 (am_vR_s e4).1 rfl ?_
      refine aw_iload_n (pc1 := 15) at_93_14 l1 rfl ?_
      refine aw_bipush (v := 21) (pc1 := 17) at_93_15 (by decide) rfl ?_
      refine aw_imul (v := (x1 * 21)) (pc1 := 18) at_93_17 rfl rfl ?_
      refine aw_iload_n (pc1 := 19) at_93_18 l2 rfl ?_
      refine aw_iadd (v := ((x1 * 21) + x2)) (pc1 := 20) at_93_19 rfl rfl ?_
      refine aw_bipush (v := 13) (pc1 := 22) at_93_20 (by decide) rfl ?_
      refine aw_imul (v := (((x1 * 21) + x2) * 13)) (pc1 := 23) at_93_22 rfl rfl ?_
      refine aw_iload_n (pc1 := 24) at_93_23 l3 rfl ?_
      refine aw_iadd (v := ((((x1 * 21) + x2) * 13) + x3)) (pc1 := 25) at_93_24 rfl rfl ?_
      obtain ⟨v5, e6, hs2⟩ := am_bind hs1
      clear hs1
      refine aw_pAL (pc1 := 26) at_93_25 e6 rfl ?_
      refine aw_goto at_93_26 ?_
      exact rg_93_30 v5 h o   hs2
def fm_93 (y0 : Value) (y1 : Int32) (y2 : Int32) (y3 : Int32) (h : am_H) : Option am_O := fg_93_0 y0 y1 y2 y3 h
theorem rm_93 {X : am_X} {d : Nat} (y0 : Value) (y1 : Int32) (y2 : Int32) (y3 : Int32) (h : am_H) (o : am_O) (i0 : am_isR y0 = true) (hs : fm_93 y0 y1 y2 y3 h = some o) : am_W X (d) 93 0 (am_args 0 [y0, .int y1, .int y2, .int y3]) [] h (fun q => q = o) := by
  rw [am_args_R i0, am_args_I, am_args_I, am_args_I]
  exact rg_93_0 y0 y1 y2 y3 h o rfl rfl rfl rfl i0 hs
def fg_92_177 (N : Nat) (rc_92 : Value → Int32 → Int32 → Int64 → Int32 → am_H → Option am_O) (rc_94 : Value → Int32 → Int32 → Int32 → Int64 → Int32 → am_H → Option am_O) (rc_95 : Value → Int32 → Int32 → Int32 → Int64 → Int32 → am_H → Option am_O) (h : am_H) : Option am_O := some (.inl (none, h))
theorem rg_92_177 {X : am_X} {d : Nat} {N : Nat} {rc_92 : Value → Int32 → Int32 → Int64 → Int32 → am_H → Option am_O} {rc_94 : Value → Int32 → Int32 → Int32 → Int64 → Int32 → am_H → Option am_O} {rc_95 : Value → Int32 → Int32 → Int32 → Int64 → Int32 → am_H → Option am_O} (qc_92 : ∀ (y0 : Value) (y1 : Int32) (y2 : Int32) (y3 : Int64) (y4 : Int32) (h : am_H) (o : am_O), (am_isR y0 = true) → rc_92 y0 y1 y2 y3 y4 h = some o → am_W X (d + 2) 92 0 (am_args 0 [y0, .int y1, .int y2, .long y3, .int y4]) [] h (fun q => q = o)) (qc_94 : ∀ (y0 : Value) (y1 : Int32) (y2 : Int32) (y3 : Int32) (y4 : Int64) (y5 : Int32) (h : am_H) (o : am_O), (am_isR y0 = true) → rc_94 y0 y1 y2 y3 y4 y5 h = some o → am_W X (d + 2) 94 0 (am_args 0 [y0, .int y1, .int y2, .int y3, .long y4, .int y5]) [] h (fun q => q = o)) (qc_95 : ∀ (y0 : Value) (y1 : Int32) (y2 : Int32) (y3 : Int32) (y4 : Int64) (y5 : Int32) (h : am_H) (o : am_O), (am_isR y0 = true) → rc_95 y0 y1 y2 y3 y4 y5 h = some o → am_W X (d + 2) 95 0 (am_args 0 [y0, .int y1, .int y2, .int y3, .long y4, .int y5]) [] h (fun q => q = o)) {lv : am_LV} (h : am_H) (o : am_O) (hs : fg_92_177 N rc_92 rc_94 rc_95 h = some o) : am_W X (d + 3) 92 177 lv [] h (fun q => q = o) := by
  unfold fg_92_177 at hs
  cases hs
  exact aw_vret at_92_177 rt_92 rfl
def fg_92_72 (N : Nat) (rc_92 : Value → Int32 → Int32 → Int64 → Int32 → am_H → Option am_O) (rc_94 : Value → Int32 → Int32 → Int32 → Int64 → Int32 → am_H → Option am_O) (rc_95 : Value → Int32 → Int32 → Int32 → Int64 → Int32 → am_H → Option am_O) (x0 : Value) (x1 : Int32) (x2 : Int32) (x5 : Int32) (x6 : Int32) (x7 : Int64) (s0 : Value) (s1 : Int32) (s2 : Int32) (h : am_H) : Option am_O := (if am_pOk 3 s0 h then am_cI true (fm_41 N s0 s1 s2 h) (fun v2 h3 => am_cI false (fm_12 x1 x6 0 h3) (fun v5 h6 => am_cI false (fm_14 x6 h6) (fun v8 h9 => (if ¬ v8 = 1 then am_cI false (fm_14 x6 h9) (fun v12 h13 => (if ¬ v12 = 2 then am_cI false (fm_14 x6 h13) (fun v16 h17 => (if ¬ v16 = 3 then (fg_92_177 N rc_92 rc_94 rc_95 h17) else am_cI false (fm_12 x1 x6 1 h17) (fun v20 h21 => (if am_pOk 4 x0 h21 then am_cV true (rc_95 x0 v5 v20 ((x2 - 1)) x7 ((x5 + 1)) h21) (fun h25 => (fg_92_177 N rc_92 rc_94 rc_95 h25)) else none)))) else am_cI false (fm_12 x1 x6 1 h13) (fun v27 h28 => (if am_pOk 4 x0 h28 then am_cV true (rc_94 x0 v5 v27 ((x2 - 1)) x7 ((x5 + 1)) h28) (fun h32 => (fg_92_177 N rc_92 rc_94 rc_95 h32)) else none)))) else (if am_pOk 4 x0 h9 then am_cV true (rc_92 x0 v5 ((x2 - 1)) x7 ((x5 + 1)) h9) (fun h36 => (fg_92_177 N rc_92 rc_94 rc_95 h36)) else none))))) else none)
theorem rg_92_72 {X : am_X} {d : Nat} {N : Nat} {rc_92 : Value → Int32 → Int32 → Int64 → Int32 → am_H → Option am_O} {rc_94 : Value → Int32 → Int32 → Int32 → Int64 → Int32 → am_H → Option am_O} {rc_95 : Value → Int32 → Int32 → Int32 → Int64 → Int32 → am_H → Option am_O} (qc_92 : ∀ (y0 : Value) (y1 : Int32) (y2 : Int32) (y3 : Int64) (y4 : Int32) (h : am_H) (o : am_O), (am_isR y0 = true) → rc_92 y0 y1 y2 y3 y4 h = some o → am_W X (d + 2) 92 0 (am_args 0 [y0, .int y1, .int y2, .long y3, .int y4]) [] h (fun q => q = o)) (qc_94 : ∀ (y0 : Value) (y1 : Int32) (y2 : Int32) (y3 : Int32) (y4 : Int64) (y5 : Int32) (h : am_H) (o : am_O), (am_isR y0 = true) → rc_94 y0 y1 y2 y3 y4 y5 h = some o → am_W X (d + 2) 94 0 (am_args 0 [y0, .int y1, .int y2, .int y3, .long y4, .int y5]) [] h (fun q => q = o)) (qc_95 : ∀ (y0 : Value) (y1 : Int32) (y2 : Int32) (y3 : Int32) (y4 : Int64) (y5 : Int32) (h : am_H) (o : am_O), (am_isR y0 = true) → rc_95 y0 y1 y2 y3 y4 y5 h = some o → am_W X (d + 2) 95 0 (am_args 0 [y0, .int y1, .int y2, .int y3, .long y4, .int y5]) [] h (fun q => q = o)) {lv : am_LV} (x0 : Value) (x1 : Int32) (x2 : Int32) (x5 : Int32) (x6 : Int32) (x7 : Int64) (s0 : Value) (s1 : Int32) (s2 : Int32) (h : am_H) (o : am_O) (l0 : lv.lookup 0 = some x0) (l1 : lv.lookup 1 = some (.int x1)) (l2 : lv.lookup 2 = some (.int x2)) (l5 : lv.lookup 5 = some (.int x5)) (l6 : lv.lookup 6 = some (.int x6)) (l7 : lv.lookup 7 = some (.long x7)) (i0 : am_isR x0 = true) (j0 : am_isR s0 = true) (hs : fg_92_72 N rc_92 rc_94 rc_95 x0 x1 x2 x5 x6 x7 s0 s1 s2 h = some o) : am_W X (d + 3) 92 72 lv [(.int s2), (.int s1), s0] h (fun q => q = o) := by
  unfold fg_92_72 at hs
  obtain ⟨z1, hs1⟩ := am_ift hs
  clear hs
  refine aw_call (F := fm_41 N s0 s1 s2 h) (t := true) (na := 3) (kd := 1) (as := [s0, (.int s1), (.int s2)]) at_92_72 (am_k3v kb_41) mn_41 mk_41 rfl rfl (am_ok_v mi_41 (am_hl rfl (am_ccR j0 (am_ccI (am_ccI am_cats_0))) rfl) z1) (am_hc am_cats_0 rfl) (fun _ => ⟨rfl, hh_92⟩) (fun o1 hz9 => rm_41 s0 s1 s2 h o1 j0 hz9) ?_
  rcases am_cI_s hs1 with ⟨v2, h3, f4, hs2⟩ | hs2
  · clear hs1
    refine Or.inl ⟨_, _, f4, ?_⟩
    show am_W X _ 92 75 _ [(.int v2)] h3 _
    refine aw_popi (pc1 := 76) at_92_75 rfl ?_
    refine aw_iload_n (pc1 := 77) at_92_76 l1 rfl ?_
    refine aw_iload (pc1 := 79) at_92_77 l6 rfl ?_
    refine aw_iconst (v := 0) (pc1 := 80) at_92_79 (by decide) rfl ?_
    refine aw_call (F := fm_12 x1 x6 0 h3) (t := false) (na := 3) (kd := 0) (as := [(.int x1), (.int x6), (.int 0)]) at_92_80 (am_k3s kb_12) mn_12 mk_12 rfl rfl (am_ok_s mi_12 (am_hl rfl (am_ccI (am_ccI (am_ccI am_cats_0))) rfl)) (am_hc am_cats_0 rfl) (fun hz9 => by cases hz9) (fun o1 hz9 => rm_12 x1 x6 0 h3 o1  hz9) ?_
    rcases am_cI_s hs2 with ⟨v5, h6, f7, hs3⟩ | hs3
    · clear hs2
      refine Or.inl ⟨_, _, f7, ?_⟩
      show am_W X _ 92 83 _ [(.int v5)] h6 _
      refine aw_istore (lv1 := am_put1 _ 9 _) (pc1 := 85) at_92_83 rfl rfl ?_
      refine aw_iload (pc1 := 87) at_92_85 (am_lk1 l6 rfl rfl) rfl ?_
      refine aw_call (F := fm_14 x6 h6) (t := false) (na := 1) (kd := 0) (as := [(.int x6)]) at_92_87 (am_k3s kb_14) mn_14 mk_14 rfl rfl (am_ok_s mi_14 (am_hl rfl (am_ccI am_cats_0) rfl)) (am_hc am_cats_0 rfl) (fun hz9 => by cases hz9) (fun o1 hz9 => rm_14 x6 h6 o1  hz9) ?_
      rcases am_cI_s hs3 with ⟨v8, h9, f10, hs4⟩ | hs4
      · clear hs3
        refine Or.inl ⟨_, _, f10, ?_⟩
        show am_W X _ 92 90 _ [(.int v8)] h9 _
        refine aw_iconst (v := 1) (pc1 := 91) at_92_90 (by decide) rfl ?_
        by_cases c11 : ¬ v8 = 1
        · rw [if_pos c11] at hs4
          refine aw_icne_t at_92_91 c11 ?_
          refine aw_iload (pc1 := 114) at_92_112 (am_lk1 l6 rfl rfl) rfl ?_
          refine aw_call (F := fm_14 x6 h9) (t := false) (na := 1) (kd := 0) (as := [(.int x6)]) at_92_114 (am_k3s kb_14) mn_14 mk_14 rfl rfl (am_ok_s mi_14 (am_hl rfl (am_ccI am_cats_0) rfl)) (am_hc am_cats_0 rfl) (fun hz9 => by cases hz9) (fun o1 hz9 => rm_14 x6 h9 o1  hz9) ?_
          rcases am_cI_s hs4 with ⟨v12, h13, f14, hs5⟩ | hs5
          · clear hs4
            refine Or.inl ⟨_, _, f14, ?_⟩
            show am_W X _ 92 117 _ [(.int v12)] h13 _
            refine aw_iconst (v := 2) (pc1 := 118) at_92_117 (by decide) rfl ?_
            by_cases c15 : ¬ v12 = 2
            · rw [if_pos c15] at hs5
              refine aw_icne_t at_92_118 c15 ?_
              refine aw_iload (pc1 := 148) at_92_146 (am_lk1 l6 rfl rfl) rfl ?_
              refine aw_call (F := fm_14 x6 h13) (t := false) (na := 1) (kd := 0) (as := [(.int x6)]) at_92_148 (am_k3s kb_14) mn_14 mk_14 rfl rfl (am_ok_s mi_14 (am_hl rfl (am_ccI am_cats_0) rfl)) (am_hc am_cats_0 rfl) (fun hz9 => by cases hz9) (fun o1 hz9 => rm_14 x6 h13 o1  hz9) ?_
              rcases am_cI_s hs5 with ⟨v16, h17, f18, hs6⟩ | hs6
              · clear hs5
                refine Or.inl ⟨_, _, f18, ?_⟩
                show am_W X _ 92 151 _ [(.int v16)] h17 _
                refine aw_iconst (v := 3) (pc1 := 152) at_92_151 (by decide) rfl ?_
                by_cases c19 : ¬ v16 = 3
                · rw [if_pos c19] at hs6
                  refine aw_icne_t at_92_152 c19 ?_
                  exact rg_92_177 qc_92 qc_94 qc_95 h17 o   hs6
                · rw [if_neg c19] at hs6
                  refine aw_icne_f (pc1 := 155) at_92_152 c19 rfl ?_
                  refine aw_vload_n (pc1 := 156) at_92_155 (am_lk1 l0 rfl rfl) i0 rfl ?_
                  refine aw_iload (pc1 := 158) at_92_156 am_lk0 rfl ?_
                  refine aw_iload_n (pc1 := 159) at_92_158 (am_lk1 l1 rfl rfl) rfl ?_
                  refine aw_iload (pc1 := 161) at_92_159 (am_lk1 l6 rfl rfl) rfl ?_
                  refine aw_iconst (v := 1) (pc1 := 162) at_92_161 (by decide) rfl ?_
                  refine aw_call (F := fm_12 x1 x6 1 h17) (t := false) (na := 3) (kd := 0) (as := [(.int x1), (.int x6), (.int 1)]) at_92_162 (am_k3s kb_12) mn_12 mk_12 rfl rfl (am_ok_s mi_12 (am_hl rfl (am_ccI (am_ccI (am_ccI am_cats_0))) rfl)) (am_hc (am_ccI (am_ccR i0 am_cats_0)) rfl) (fun hz9 => by cases hz9) (fun o1 hz9 => rm_12 x1 x6 1 h17 o1  hz9) ?_
                  rcases am_cI_s hs6 with ⟨v20, h21, f22, hs7⟩ | hs7
                  · clear hs6
                    refine Or.inl ⟨_, _, f22, ?_⟩
                    show am_W X _ 92 165 _ [(.int v20), (.int v5), x0] h21 _
                    refine aw_iload_n (pc1 := 166) at_92_165 (am_lk1 l2 rfl rfl) rfl ?_
                    refine aw_iconst (v := 1) (pc1 := 167) at_92_166 (by decide) rfl ?_
                    refine aw_isub (v := (x2 - 1)) (pc1 := 168) at_92_167 rfl rfl ?_
                    refine aw_lload (pc1 := 170) at_92_168 (am_lk1 l7 rfl rfl) rfl ?_
                    refine aw_iload (pc1 := 172) at_92_170 (am_lk1 l5 rfl rfl) rfl ?_
                    refine aw_iconst (v := 1) (pc1 := 173) at_92_172 (by decide) rfl ?_
                    refine aw_iadd (v := (x5 + 1)) (pc1 := 174) at_92_173 rfl rfl ?_
                    obtain ⟨z23, hs8⟩ := am_ift hs7
                    clear hs7
                    refine aw_call (F := rc_95 x0 v5 v20 ((x2 - 1)) x7 ((x5 + 1)) h21) (t := true) (na := 6) (kd := 1) (as := [x0, (.int v5), (.int v20), (.int (x2 - 1)), (.long x7), (.int (x5 + 1))]) at_92_174 (am_k3v kb_95) mn_95 mk_95 rfl rfl (am_ok_v mi_95 (am_hl rfl (am_ccR i0 (am_ccI (am_ccI (am_ccI (am_ccL (am_ccI am_cats_0)))))) rfl) z23) (am_hc am_cats_0 rfl) (fun _ => ⟨rfl, hh_92⟩) (fun o1 hz9 => qc_95 x0 v5 v20 ((x2 - 1)) x7 ((x5 + 1)) h21 o1 i0 hz9) ?_
                    rcases am_cV_s hs8 with ⟨h25, f26, hs9⟩ | hs9
                    · clear hs8
                      refine Or.inl ⟨_, _, f26, ?_⟩
                      show am_W X _ 92 177 _ [] h25 _
                      exact rg_92_177 qc_92 qc_94 qc_95 h25 o   hs9
                    · clear hs8
                      exact Or.inr hs9
                  · clear hs6
                    exact Or.inr hs7
              · clear hs5
                exact Or.inr hs6
            · rw [if_neg c15] at hs5
              refine aw_icne_f (pc1 := 121) at_92_118 c15 rfl ?_
              refine aw_vload_n (pc1 := 122) at_92_121 (am_lk1 l0 rfl rfl) i0 rfl ?_
              refine aw_iload (pc1 := 124) at_92_122 am_lk0 rfl ?_
              refine aw_iload_n (pc1 := 125) at_92_124 (am_lk1 l1 rfl rfl) rfl ?_
              refine aw_iload (pc1 := 127) at_92_125 (am_lk1 l6 rfl rfl) rfl ?_
              refine aw_iconst (v := 1) (pc1 := 128) at_92_127 (by decide) rfl ?_
              refine aw_call (F := fm_12 x1 x6 1 h13) (t := false) (na := 3) (kd := 0) (as := [(.int x1), (.int x6), (.int 1)]) at_92_128 (am_k3s kb_12) mn_12 mk_12 rfl rfl (am_ok_s mi_12 (am_hl rfl (am_ccI (am_ccI (am_ccI am_cats_0))) rfl)) (am_hc (am_ccI (am_ccR i0 am_cats_0)) rfl) (fun hz9 => by cases hz9) (fun o1 hz9 => rm_12 x1 x6 1 h13 o1  hz9) ?_
              rcases am_cI_s hs5 with ⟨v27, h28, f29, hs10⟩ | hs10
              · clear hs5
                refine Or.inl ⟨_, _, f29, ?_⟩
                show am_W X _ 92 131 _ [(.int v27), (.int v5), x0] h28 _
                refine aw_iload_n (pc1 := 132) at_92_131 (am_lk1 l2 rfl rfl) rfl ?_
                refine aw_iconst (v := 1) (pc1 := 133) at_92_132 (by decide) rfl ?_
                refine aw_isub (v := (x2 - 1)) (pc1 := 134) at_92_133 rfl rfl ?_
                refine aw_lload (pc1 := 136) at_92_134 (am_lk1 l7 rfl rfl) rfl ?_
                refine aw_iload (pc1 := 138) at_92_136 (am_lk1 l5 rfl rfl) rfl ?_
                refine aw_iconst (v := 1) (pc1 := 139) at_92_138 (by decide) rfl ?_
                refine aw_iadd (v := (x5 + 1)) (pc1 := 140) at_92_139 rfl rfl ?_
                obtain ⟨z30, hs11⟩ := am_ift hs10
                clear hs10
                refine aw_call (F := rc_94 x0 v5 v27 ((x2 - 1)) x7 ((x5 + 1)) h28) (t := true) (na := 6) (kd := 1) (as := [x0, (.int v5), (.int v27), (.int (x2 - 1)), (.long x7), (.int (x5 + 1))]) at_92_140 (am_k3v kb_94) mn_94 mk_94 rfl rfl (am_ok_v mi_94 (am_hl rfl (am_ccR i0 (am_ccI (am_ccI (am_ccI (am_ccL (am_ccI am_cats_0)))))) rfl) z30) (am_hc am_cats_0 rfl) (fun _ => ⟨rfl, hh_92⟩) (fun o1 hz9 => qc_94 x0 v5 v27 ((x2 - 1)) x7 ((x5 + 1)) h28 o1 i0 hz9) ?_
                rcases am_cV_s hs11 with ⟨h32, f33, hs12⟩ | hs12
                · clear hs11
                  refine Or.inl ⟨_, _, f33, ?_⟩
                  show am_W X _ 92 143 _ [] h32 _
                  refine aw_goto at_92_143 ?_
                  exact rg_92_177 qc_92 qc_94 qc_95 h32 o   hs12
                · clear hs11
                  exact Or.inr hs12
              · clear hs5
                exact Or.inr hs10
          · clear hs4
            exact Or.inr hs5
        · rw [if_neg c11] at hs4
          refine aw_icne_f (pc1 := 94) at_92_91 c11 rfl ?_
          refine aw_vload_n (pc1 := 95) at_92_94 (am_lk1 l0 rfl rfl) i0 rfl ?_
          refine aw_iload (pc1 := 97) at_92_95 am_lk0 rfl ?_
          refine aw_iload_n (pc1 := 98) at_92_97 (am_lk1 l2 rfl rfl) rfl ?_
          refine aw_iconst (v := 1) (pc1 := 99) at_92_98 (by decide) rfl ?_
          refine aw_isub (v := (x2 - 1)) (pc1 := 100) at_92_99 rfl rfl ?_
          refine aw_lload (pc1 := 102) at_92_100 (am_lk1 l7 rfl rfl) rfl ?_
          refine aw_iload (pc1 := 104) at_92_102 (am_lk1 l5 rfl rfl) rfl ?_
          refine aw_iconst (v := 1) (pc1 := 105) at_92_104 (by decide) rfl ?_
          refine aw_iadd (v := (x5 + 1)) (pc1 := 106) at_92_105 rfl rfl ?_
          obtain ⟨z34, hs13⟩ := am_ift hs4
          clear hs4
          refine aw_call (F := rc_92 x0 v5 ((x2 - 1)) x7 ((x5 + 1)) h9) (t := true) (na := 5) (kd := 1) (as := [x0, (.int v5), (.int (x2 - 1)), (.long x7), (.int (x5 + 1))]) at_92_106 (am_k3v kb_92) mn_92 mk_92 rfl rfl (am_ok_v mi_92 (am_hl rfl (am_ccR i0 (am_ccI (am_ccI (am_ccL (am_ccI am_cats_0))))) rfl) z34) (am_hc am_cats_0 rfl) (fun _ => ⟨rfl, hh_92⟩) (fun o1 hz9 => qc_92 x0 v5 ((x2 - 1)) x7 ((x5 + 1)) h9 o1 i0 hz9) ?_
          rcases am_cV_s hs13 with ⟨h36, f37, hs14⟩ | hs14
          · clear hs13
            refine Or.inl ⟨_, _, f37, ?_⟩
            show am_W X _ 92 109 _ [] h36 _
            refine aw_goto at_92_109 ?_
            exact rg_92_177 qc_92 qc_94 qc_95 h36 o   hs14
          · clear hs13
            exact Or.inr hs14
      · clear hs3
        exact Or.inr hs4
    · clear hs2
      exact Or.inr hs3
  · clear hs1
    exact Or.inr hs2
def fg_92_54 (N : Nat) (rc_92 : Value → Int32 → Int32 → Int64 → Int32 → am_H → Option am_O) (rc_94 : Value → Int32 → Int32 → Int32 → Int64 → Int32 → am_H → Option am_O) (rc_95 : Value → Int32 → Int32 → Int32 → Int64 → Int32 → am_H → Option am_O) (x0 : Value) (x1 : Int32) (x2 : Int32) (x5 : Int32) (x6 : Int32) (x7 : Int64) (h : am_H) : Option am_O := ((am_vR (am_pG 1027 x0 h)).bind fun v1 => (if ¬ x6 = 0 then (fg_92_72 N rc_92 rc_94 rc_95 x0 x1 x2 x5 x6 x7 v1 x6 0 h) else (fg_92_72 N rc_92 rc_94 rc_95 x0 x1 x2 x5 x6 x7 v1 x6 ((Int64.toInt32 x7)) h)))
theorem rg_92_54 {X : am_X} {d : Nat} {N : Nat} {rc_92 : Value → Int32 → Int32 → Int64 → Int32 → am_H → Option am_O} {rc_94 : Value → Int32 → Int32 → Int32 → Int64 → Int32 → am_H → Option am_O} {rc_95 : Value → Int32 → Int32 → Int32 → Int64 → Int32 → am_H → Option am_O} (qc_92 : ∀ (y0 : Value) (y1 : Int32) (y2 : Int32) (y3 : Int64) (y4 : Int32) (h : am_H) (o : am_O), (am_isR y0 = true) → rc_92 y0 y1 y2 y3 y4 h = some o → am_W X (d + 2) 92 0 (am_args 0 [y0, .int y1, .int y2, .long y3, .int y4]) [] h (fun q => q = o)) (qc_94 : ∀ (y0 : Value) (y1 : Int32) (y2 : Int32) (y3 : Int32) (y4 : Int64) (y5 : Int32) (h : am_H) (o : am_O), (am_isR y0 = true) → rc_94 y0 y1 y2 y3 y4 y5 h = some o → am_W X (d + 2) 94 0 (am_args 0 [y0, .int y1, .int y2, .int y3, .long y4, .int y5]) [] h (fun q => q = o)) (qc_95 : ∀ (y0 : Value) (y1 : Int32) (y2 : Int32) (y3 : Int32) (y4 : Int64) (y5 : Int32) (h : am_H) (o : am_O), (am_isR y0 = true) → rc_95 y0 y1 y2 y3 y4 y5 h = some o → am_W X (d + 2) 95 0 (am_args 0 [y0, .int y1, .int y2, .int y3, .long y4, .int y5]) [] h (fun q => q = o)) {lv : am_LV} (x0 : Value) (x1 : Int32) (x2 : Int32) (x5 : Int32) (x6 : Int32) (x7 : Int64) (h : am_H) (o : am_O) (l0 : lv.lookup 0 = some x0) (l1 : lv.lookup 1 = some (.int x1)) (l2 : lv.lookup 2 = some (.int x2)) (l5 : lv.lookup 5 = some (.int x5)) (l6 : lv.lookup 6 = some (.int x6)) (l7 : lv.lookup 7 = some (.long x7)) (i0 : am_isR x0 = true) (hs : fg_92_54 N rc_92 rc_94 rc_95 x0 x1 x2 x5 x6 x7 h = some o) : am_W X (d + 3) 92 54 lv [] h (fun q => q = o) := by
  unfold fg_92_54 at hs
  refine aw_vload_n (pc1 := 55) at_92_54 l0 i0 rfl ?_
  obtain ⟨v1, e2, hs1⟩ := am_bind hs
  clear hs
  refine aw_pG (pc1 := 58) at_92_55 (am_vR_s e2).1 rfl ?_
  refine aw_iload (pc1 := 60) at_92_58 l6 rfl ?_
  refine aw_iload (pc1 := 62) at_92_60 l6 rfl ?_
  by_cases c3 : ¬ x6 = 0
  · rw [if_pos c3] at hs1
    refine aw_ifne_t at_92_62 c3 ?_
    refine aw_iconst (v := 0) (pc1 := 72) at_92_71 (by decide) rfl ?_
    exact rg_92_72 qc_92 qc_94 qc_95 x0 x1 x2 x5 x6 x7 v1 x6 0 h o l0 l1 l2 l5 l6 l7 i0 (am_vR_s e2).2 hs1
  · rw [if_neg c3] at hs1
    refine aw_ifne_f (pc1 := 65) at_92_62 c3 rfl ?_
    refine aw_lload (pc1 := 67) at_92_65 l7 rfl ?_
    refine aw_l2i (v := (Int64.toInt32 x7)) (pc1 := 68) at_92_67 rfl rfl ?_
    refine aw_goto at_92_68 ?_
    exact rg_92_72 qc_92 qc_94 qc_95 x0 x1 x2 x5 x6 x7 v1 x6 ((Int64.toInt32 x7)) h o l0 l1 l2 l5 l6 l7 i0 (am_vR_s e2).2 hs1
def fg_92_14 (N : Nat) (rc_92 : Value → Int32 → Int32 → Int64 → Int32 → am_H → Option am_O) (rc_94 : Value → Int32 → Int32 → Int32 → Int64 → Int32 → am_H → Option am_O) (rc_95 : Value → Int32 → Int32 → Int32 → Int64 → Int32 → am_H → Option am_O) : Nat → Value → Int32 → Int32 → Int32 → Int32 → Int64 → am_H → Option am_O
  | 0 => fun _ _ _ _ _ _ _ => none
  | K + 1 => fun x0 x1 x2 x5 x6 x7 h => (if 20 ≤ x6 then (fg_92_54 N rc_92 rc_94 rc_95 x0 x1 x2 x5 x6 x7 h) else (if am_pOk 4 x0 h then am_cL true (fm_93 x0 x1 x6 x2 h) (fun v3 h4 => (if (lg_cmp x7 v3) < 0 then (fg_92_54 N rc_92 rc_94 rc_95 x0 x1 x2 x5 x6 x7 h4) else (if am_pOk 4 x0 h4 then am_cL true (fm_93 x0 x1 x6 x2 h4) (fun v8 h9 => (fg_92_14 N rc_92 rc_94 rc_95 K x0 x1 x2 x5 ((x6 + 1)) ((x7 - v8)) h9)) else none))) else none))
theorem rg_92_14 {X : am_X} {d : Nat} {N : Nat} {rc_92 : Value → Int32 → Int32 → Int64 → Int32 → am_H → Option am_O} {rc_94 : Value → Int32 → Int32 → Int32 → Int64 → Int32 → am_H → Option am_O} {rc_95 : Value → Int32 → Int32 → Int32 → Int64 → Int32 → am_H → Option am_O} (qc_92 : ∀ (y0 : Value) (y1 : Int32) (y2 : Int32) (y3 : Int64) (y4 : Int32) (h : am_H) (o : am_O), (am_isR y0 = true) → rc_92 y0 y1 y2 y3 y4 h = some o → am_W X (d + 2) 92 0 (am_args 0 [y0, .int y1, .int y2, .long y3, .int y4]) [] h (fun q => q = o)) (qc_94 : ∀ (y0 : Value) (y1 : Int32) (y2 : Int32) (y3 : Int32) (y4 : Int64) (y5 : Int32) (h : am_H) (o : am_O), (am_isR y0 = true) → rc_94 y0 y1 y2 y3 y4 y5 h = some o → am_W X (d + 2) 94 0 (am_args 0 [y0, .int y1, .int y2, .int y3, .long y4, .int y5]) [] h (fun q => q = o)) (qc_95 : ∀ (y0 : Value) (y1 : Int32) (y2 : Int32) (y3 : Int32) (y4 : Int64) (y5 : Int32) (h : am_H) (o : am_O), (am_isR y0 = true) → rc_95 y0 y1 y2 y3 y4 y5 h = some o → am_W X (d + 2) 95 0 (am_args 0 [y0, .int y1, .int y2, .int y3, .long y4, .int y5]) [] h (fun q => q = o)) : ∀ (K : Nat) (x0 : Value) (x1 : Int32) (x2 : Int32) (x5 : Int32) (x6 : Int32) (x7 : Int64) (h : am_H) (o : am_O), fg_92_14 N rc_92 rc_94 rc_95 K x0 x1 x2 x5 x6 x7 h = some o → ∀ lv : am_LV, (lv.lookup 0 = some x0) → (lv.lookup 1 = some (.int x1)) → (lv.lookup 2 = some (.int x2)) → (lv.lookup 5 = some (.int x5)) → (lv.lookup 6 = some (.int x6)) → (lv.lookup 7 = some (.long x7)) → (am_isR x0 = true) → am_W X (d + 3) 92 14 lv [] h (fun q => q = o) := by
  intro K
  induction K with
  | zero => intro x0 x1 x2 x5 x6 x7 h o hs; cases hs
  | succ K ih =>
    intro x0 x1 x2 x5 x6 x7 h o hs lv l0 l1 l2 l5 l6 l7 i0
    unfold fg_92_14 at hs
    refine aw_iload (pc1 := 16) at_92_14 l6 rfl ?_
    refine aw_bipush (v := 20) (pc1 := 18) at_92_16 (by decide) rfl ?_
    by_cases c1 : 20 ≤ x6
    · rw [if_pos c1] at hs
      refine aw_icge_t at_92_18 c1 ?_
      exact rg_92_54 qc_92 qc_94 qc_95 x0 x1 x2 x5 x6 x7 h o l0 l1 l2 l5 l6 l7 i0 hs
    · rw [if_neg c1] at hs
      refine aw_icge_f (pc1 := 21) at_92_18 c1 rfl ?_
      refine aw_lload (pc1 := 23) at_92_21 l7 rfl ?_
      refine aw_vload_n (pc1 := 24) at_92_23 l0 i0 rfl ?_
      refine aw_iload_n (pc1 := 25) at_92_24 l1 rfl ?_
      refine aw_iload (pc1 := 27) at_92_25 l6 rfl ?_
      refine aw_iload_n (pc1 := 28) at_92_27 l2 rfl ?_
      obtain ⟨z2, hs1⟩ := am_ift hs
      clear hs
      refine aw_call (F := fm_93 x0 x1 x6 x2 h) (t := true) (na := 4) (kd := 1) (as := [x0, (.int x1), (.int x6), (.int x2)]) at_92_28 (am_k3v kb_93) mn_93 mk_93 rfl rfl (am_ok_v mi_93 (am_hl rfl (am_ccR i0 (am_ccI (am_ccI (am_ccI am_cats_0)))) rfl) z2) (am_hc (am_ccL am_cats_0) rfl) (fun _ => ⟨rfl, hh_92⟩) (fun o1 hz9 => rm_93 x0 x1 x6 x2 h o1 i0 hz9) ?_
      rcases am_cL_s hs1 with ⟨v3, h4, f5, hs2⟩ | hs2
      · clear hs1
        refine Or.inl ⟨_, _, f5, ?_⟩
        show am_W X _ 92 31 _ [(.long v3), (.long x7)] h4 _
        refine aw_lcmp (v := (lg_cmp x7 v3)) (pc1 := 32) at_92_31 rfl rfl ?_
        by_cases c6 : (lg_cmp x7 v3) < 0
        · rw [if_pos c6] at hs2
          refine aw_iflt_t at_92_32 c6 ?_
          exact rg_92_54 qc_92 qc_94 qc_95 x0 x1 x2 x5 x6 x7 h4 o l0 l1 l2 l5 l6 l7 i0 hs2
        · rw [if_neg c6] at hs2
          refine aw_iflt_f (pc1 := 35) at_92_32 c6 rfl ?_
          refine aw_lload (pc1 := 37) at_92_35 l7 rfl ?_
          refine aw_vload_n (pc1 := 38) at_92_37 l0 i0 rfl ?_
          refine aw_iload_n (pc1 := 39) at_92_38 l1 rfl ?_
          refine aw_iload (pc1 := 41) at_92_39 l6 rfl ?_
          refine aw_iload_n (pc1 := 42) at_92_41 l2 rfl ?_
          obtain ⟨z7, hs3⟩ := am_ift hs2
          clear hs2
          refine aw_call (F := fm_93 x0 x1 x6 x2 h4) (t := true) (na := 4) (kd := 1) (as := [x0, (.int x1), (.int x6), (.int x2)]) at_92_42 (am_k3v kb_93) mn_93 mk_93 rfl rfl (am_ok_v mi_93 (am_hl rfl (am_ccR i0 (am_ccI (am_ccI (am_ccI am_cats_0)))) rfl) z7) (am_hc (am_ccL am_cats_0) rfl) (fun _ => ⟨rfl, hh_92⟩) (fun o1 hz9 => rm_93 x0 x1 x6 x2 h4 o1 i0 hz9) ?_
          rcases am_cL_s hs3 with ⟨v8, h9, f10, hs4⟩ | hs4
          · clear hs3
            refine Or.inl ⟨_, _, f10, ?_⟩
            show am_W X _ 92 45 _ [(.long v8), (.long x7)] h9 _
            refine aw_lsub (v := (x7 - v8)) (pc1 := 46) at_92_45 rfl rfl ?_
            refine aw_lstore (lv1 := am_put2 _ 7 _) (pc1 := 48) at_92_46 rfl rfl ?_
            refine aw_iinc (v := (x6 + 1)) (c := 1) (lv1 := am_put1 _ 6 _) (pc1 := 51) at_92_48 (am_lk2 l6 rfl rfl) (by decide) rfl rfl rfl ?_
            refine aw_goto at_92_51 ?_
            exact ih x0 x1 x2 x5 ((x6 + 1)) ((x7 - v8)) h9 o hs4 _ (am_lk1 (am_lk2 l0 rfl rfl) rfl rfl) (am_lk1 (am_lk2 l1 rfl rfl) rfl rfl) (am_lk1 (am_lk2 l2 rfl rfl) rfl rfl) (am_lk1 (am_lk2 l5 rfl rfl) rfl rfl) am_lk0 (am_lk1 am_lk02 rfl rfl) i0
          · clear hs3
            exact Or.inr hs4
      · clear hs1
        exact Or.inr hs2
def fg_92_0 (N : Nat) (rc_92 : Value → Int32 → Int32 → Int64 → Int32 → am_H → Option am_O) (rc_94 : Value → Int32 → Int32 → Int32 → Int64 → Int32 → am_H → Option am_O) (rc_95 : Value → Int32 → Int32 → Int32 → Int64 → Int32 → am_H → Option am_O) (x0 : Value) (x1 : Int32) (x2 : Int32) (x3 : Int64) (x5 : Int32) (h : am_H) : Option am_O := (if x5 ≤ 12 then (fg_92_14 N rc_92 rc_94 rc_95 N x0 x1 x2 x5 0 x3 h) else some (.inl (none, h)))
theorem rg_92_0 {X : am_X} {d : Nat} {N : Nat} {rc_92 : Value → Int32 → Int32 → Int64 → Int32 → am_H → Option am_O} {rc_94 : Value → Int32 → Int32 → Int32 → Int64 → Int32 → am_H → Option am_O} {rc_95 : Value → Int32 → Int32 → Int32 → Int64 → Int32 → am_H → Option am_O} (qc_92 : ∀ (y0 : Value) (y1 : Int32) (y2 : Int32) (y3 : Int64) (y4 : Int32) (h : am_H) (o : am_O), (am_isR y0 = true) → rc_92 y0 y1 y2 y3 y4 h = some o → am_W X (d + 2) 92 0 (am_args 0 [y0, .int y1, .int y2, .long y3, .int y4]) [] h (fun q => q = o)) (qc_94 : ∀ (y0 : Value) (y1 : Int32) (y2 : Int32) (y3 : Int32) (y4 : Int64) (y5 : Int32) (h : am_H) (o : am_O), (am_isR y0 = true) → rc_94 y0 y1 y2 y3 y4 y5 h = some o → am_W X (d + 2) 94 0 (am_args 0 [y0, .int y1, .int y2, .int y3, .long y4, .int y5]) [] h (fun q => q = o)) (qc_95 : ∀ (y0 : Value) (y1 : Int32) (y2 : Int32) (y3 : Int32) (y4 : Int64) (y5 : Int32) (h : am_H) (o : am_O), (am_isR y0 = true) → rc_95 y0 y1 y2 y3 y4 y5 h = some o → am_W X (d + 2) 95 0 (am_args 0 [y0, .int y1, .int y2, .int y3, .long y4, .int y5]) [] h (fun q => q = o)) {lv : am_LV} (x0 : Value) (x1 : Int32) (x2 : Int32) (x3 : Int64) (x5 : Int32) (h : am_H) (o : am_O) (l0 : lv.lookup 0 = some x0) (l1 : lv.lookup 1 = some (.int x1)) (l2 : lv.lookup 2 = some (.int x2)) (l3 : lv.lookup 3 = some (.long x3)) (l5 : lv.lookup 5 = some (.int x5)) (i0 : am_isR x0 = true) (hs : fg_92_0 N rc_92 rc_94 rc_95 x0 x1 x2 x3 x5 h = some o) : am_W X (d + 3) 92 0 lv [] h (fun q => q = o) := by
  unfold fg_92_0 at hs
  refine aw_iload (pc1 := 2) at_92_0 l5 rfl ?_
  refine aw_bipush (v := 12) (pc1 := 4) at_92_2 (by decide) rfl ?_
  by_cases c1 : x5 ≤ 12
  · rw [if_pos c1] at hs
    refine aw_icle_t at_92_4 c1 ?_
    refine aw_iconst (v := 0) (pc1 := 9) at_92_8 (by decide) rfl ?_
    refine aw_istore (lv1 := am_put1 _ 6 _) (pc1 := 11) at_92_9 rfl rfl ?_
    refine aw_lload_n (pc1 := 12) at_92_11 (am_lk1 l3 rfl rfl) rfl ?_
    refine aw_lstore (lv1 := am_put2 _ 7 _) (pc1 := 14) at_92_12 rfl rfl ?_
    exact rg_92_14 qc_92 qc_94 qc_95 N x0 x1 x2 x5 0 x3 h o hs _ (am_lk2 (am_lk1 l0 rfl rfl) rfl rfl) (am_lk2 (am_lk1 l1 rfl rfl) rfl rfl) (am_lk2 (am_lk1 l2 rfl rfl) rfl rfl) (am_lk2 (am_lk1 l5 rfl rfl) rfl rfl) (am_lk2 am_lk0 rfl rfl) am_lk02 i0
  · rw [if_neg c1] at hs
    refine aw_icle_f (pc1 := 7) at_92_4 c1 rfl ?_
    cases hs
    exact aw_vret at_92_7 rt_92 rfl
def fo_92 (N : Nat) (rc_92 : Value → Int32 → Int32 → Int64 → Int32 → am_H → Option am_O) (rc_94 : Value → Int32 → Int32 → Int32 → Int64 → Int32 → am_H → Option am_O) (rc_95 : Value → Int32 → Int32 → Int32 → Int64 → Int32 → am_H → Option am_O) (y0 : Value) (y1 : Int32) (y2 : Int32) (y3 : Int64) (y4 : Int32) (h : am_H) : Option am_O := fg_92_0 N rc_92 rc_94 rc_95 y0 y1 y2 y3 y4 h
theorem ro_92 {X : am_X} {d : Nat} {N : Nat} {rc_92 : Value → Int32 → Int32 → Int64 → Int32 → am_H → Option am_O} {rc_94 : Value → Int32 → Int32 → Int32 → Int64 → Int32 → am_H → Option am_O} {rc_95 : Value → Int32 → Int32 → Int32 → Int64 → Int32 → am_H → Option am_O} (qc_92 : ∀ (y0 : Value) (y1 : Int32) (y2 : Int32) (y3 : Int64) (y4 : Int32) (h : am_H) (o : am_O), (am_isR y0 = true) → rc_92 y0 y1 y2 y3 y4 h = some o → am_W X (d + 2) 92 0 (am_args 0 [y0, .int y1, .int y2, .long y3, .int y4]) [] h (fun q => q = o)) (qc_94 : ∀ (y0 : Value) (y1 : Int32) (y2 : Int32) (y3 : Int32) (y4 : Int64) (y5 : Int32) (h : am_H) (o : am_O), (am_isR y0 = true) → rc_94 y0 y1 y2 y3 y4 y5 h = some o → am_W X (d + 2) 94 0 (am_args 0 [y0, .int y1, .int y2, .int y3, .long y4, .int y5]) [] h (fun q => q = o)) (qc_95 : ∀ (y0 : Value) (y1 : Int32) (y2 : Int32) (y3 : Int32) (y4 : Int64) (y5 : Int32) (h : am_H) (o : am_O), (am_isR y0 = true) → rc_95 y0 y1 y2 y3 y4 y5 h = some o → am_W X (d + 2) 95 0 (am_args 0 [y0, .int y1, .int y2, .int y3, .long y4, .int y5]) [] h (fun q => q = o)) (y0 : Value) (y1 : Int32) (y2 : Int32) (y3 : Int64) (y4 : Int32) (h : am_H) (o : am_O) (i0 : am_isR y0 = true) (hs : fo_92 N rc_92 rc_94 rc_95 y0 y1 y2 y3 y4 h = some o) : am_W X (d + 3) 92 0 (am_args 0 [y0, .int y1, .int y2, .long y3, .int y4]) [] h (fun q => q = o) := by
  rw [am_args_R i0, am_args_I, am_args_I, am_args_L, am_args_I]
  exact rg_92_0 qc_92 qc_94 qc_95 y0 y1 y2 y3 y4 h o rfl rfl rfl rfl rfl i0 hs
def fg_94_82 (N : Nat) (rc_92 : Value → Int32 → Int32 → Int64 → Int32 → am_H → Option am_O) (rc_94 : Value → Int32 → Int32 → Int32 → Int64 → Int32 → am_H → Option am_O) (rc_95 : Value → Int32 → Int32 → Int32 → Int64 → Int32 → am_H → Option am_O) (rec_7 : Value → Int32 → Int32 → Int32 → Int32 → Int64 → Int32 → am_H → Option am_O) (x0 : Value) (x1 : Int32) (x2 : Int32) (x3 : Int32) (x6 : Int32) (x7 : Int64) (x9 : Int32) (x12 : Int64) (h : am_H) : Option am_O := (rec_7 x0 x1 x2 x3 x6 ((x7 - x12)) ((x9 + 1)) h)
theorem rg_94_82 {X : am_X} {d : Nat} {N : Nat} {rc_92 : Value → Int32 → Int32 → Int64 → Int32 → am_H → Option am_O} {rc_94 : Value → Int32 → Int32 → Int32 → Int64 → Int32 → am_H → Option am_O} {rc_95 : Value → Int32 → Int32 → Int32 → Int64 → Int32 → am_H → Option am_O} {rec_7 : Value → Int32 → Int32 → Int32 → Int32 → Int64 → Int32 → am_H → Option am_O} (q_7 : ∀ (x0 : Value) (x1 : Int32) (x2 : Int32) (x3 : Int32) (x6 : Int32) (x7 : Int64) (x9 : Int32) (h : am_H) (o : am_O), rec_7 x0 x1 x2 x3 x6 x7 x9 h = some o → ∀ lv : am_LV, (lv.lookup 0 = some x0) → (lv.lookup 1 = some (.int x1)) → (lv.lookup 2 = some (.int x2)) → (lv.lookup 3 = some (.int x3)) → (lv.lookup 6 = some (.int x6)) → (lv.lookup 7 = some (.long x7)) → (lv.lookup 9 = some (.int x9)) → (am_isR x0 = true) → am_W X (d + 3) 94 7 lv [] h (fun q => q = o)) (qc_92 : ∀ (y0 : Value) (y1 : Int32) (y2 : Int32) (y3 : Int64) (y4 : Int32) (h : am_H) (o : am_O), (am_isR y0 = true) → rc_92 y0 y1 y2 y3 y4 h = some o → am_W X (d + 2) 92 0 (am_args 0 [y0, .int y1, .int y2, .long y3, .int y4]) [] h (fun q => q = o)) (qc_94 : ∀ (y0 : Value) (y1 : Int32) (y2 : Int32) (y3 : Int32) (y4 : Int64) (y5 : Int32) (h : am_H) (o : am_O), (am_isR y0 = true) → rc_94 y0 y1 y2 y3 y4 y5 h = some o → am_W X (d + 2) 94 0 (am_args 0 [y0, .int y1, .int y2, .int y3, .long y4, .int y5]) [] h (fun q => q = o)) (qc_95 : ∀ (y0 : Value) (y1 : Int32) (y2 : Int32) (y3 : Int32) (y4 : Int64) (y5 : Int32) (h : am_H) (o : am_O), (am_isR y0 = true) → rc_95 y0 y1 y2 y3 y4 y5 h = some o → am_W X (d + 2) 95 0 (am_args 0 [y0, .int y1, .int y2, .int y3, .long y4, .int y5]) [] h (fun q => q = o)) {lv : am_LV} (x0 : Value) (x1 : Int32) (x2 : Int32) (x3 : Int32) (x6 : Int32) (x7 : Int64) (x9 : Int32) (x12 : Int64) (h : am_H) (o : am_O) (l0 : lv.lookup 0 = some x0) (l1 : lv.lookup 1 = some (.int x1)) (l2 : lv.lookup 2 = some (.int x2)) (l3 : lv.lookup 3 = some (.int x3)) (l6 : lv.lookup 6 = some (.int x6)) (l7 : lv.lookup 7 = some (.long x7)) (l9 : lv.lookup 9 = some (.int x9)) (l12 : lv.lookup 12 = some (.long x12)) (i0 : am_isR x0 = true) (hs : fg_94_82 N rc_92 rc_94 rc_95 rec_7 x0 x1 x2 x3 x6 x7 x9 x12 h = some o) : am_W X (d + 3) 94 82 lv [] h (fun q => q = o) := by
  unfold fg_94_82 at hs
  refine aw_lload (pc1 := 84) at_94_82 l7 rfl ?_
  refine aw_lload (pc1 := 86) at_94_84 l12 rfl ?_
  refine aw_lsub (v := (x7 - x12)) (pc1 := 87) at_94_86 rfl rfl ?_
  refine aw_lstore (lv1 := am_put2 _ 7 _) (pc1 := 89) at_94_87 rfl rfl ?_
  refine aw_iinc (v := (x9 + 1)) (c := 1) (lv1 := am_put1 _ 9 _) (pc1 := 92) at_94_89 (am_lk2 l9 rfl rfl) (by decide) rfl rfl rfl ?_
  refine aw_goto at_94_92 ?_
  exact q_7 x0 x1 x2 x3 x6 ((x7 - x12)) ((x9 + 1)) h o hs _ (am_lk1 (am_lk2 l0 rfl rfl) rfl rfl) (am_lk1 (am_lk2 l1 rfl rfl) rfl rfl) (am_lk1 (am_lk2 l2 rfl rfl) rfl rfl) (am_lk1 (am_lk2 l3 rfl rfl) rfl rfl) (am_lk1 (am_lk2 l6 rfl rfl) rfl rfl) (am_lk1 am_lk02 rfl rfl) am_lk0 i0
def fg_94_7 (N : Nat) (rc_92 : Value → Int32 → Int32 → Int64 → Int32 → am_H → Option am_O) (rc_94 : Value → Int32 → Int32 → Int32 → Int64 → Int32 → am_H → Option am_O) (rc_95 : Value → Int32 → Int32 → Int32 → Int64 → Int32 → am_H → Option am_O) : Nat → Value → Int32 → Int32 → Int32 → Int32 → Int64 → Int32 → am_H → Option am_O
  | 0 => fun _ _ _ _ _ _ _ _ => none
  | K + 1 => fun x0 x1 x2 x3 x6 x7 x9 h => (if x3 ≤ x9 then some (.inl (none, h)) else (if am_pOk 4 x0 h then am_cL true (fm_15 x0 x2 ((x3 - x9)) h) (fun v3 h4 => (if am_pOk 4 x0 h4 then am_cL true (fm_15 x0 x1 x9 h4) (fun v7 h8 => (if 0 ≤ (lg_cmp x7 (v7 * v3)) then (fg_94_82 N rc_92 rc_94 rc_95 (fg_94_7 N rc_92 rc_94 rc_95 K) x0 x1 x2 x3 x6 x7 x9 ((v7 * v3)) h8) else (if (lg_cmp v3 0) ≤ 0 then (fg_94_82 N rc_92 rc_94 rc_95 (fg_94_7 N rc_92 rc_94 rc_95 K) x0 x1 x2 x3 x6 x7 x9 ((v7 * v3)) h8) else (if (v3 : Int64) ≠ 0 then (if am_pOk 4 x0 h8 then am_cV true (rc_92 x0 x1 x9 ((x7 / v3)) x6 h8) (fun h15 => (if (v3 : Int64) ≠ 0 then (if am_pOk 4 x0 h15 then am_cV true (rc_92 x0 x2 ((x3 - x9)) ((x7 - x7 / v3 * v3)) x6 h15) (fun h20 => some (.inl (none, h20))) else none) else none)) else none) else none)))) else none)) else none))
theorem rg_94_7 {X : am_X} {d : Nat} {N : Nat} {rc_92 : Value → Int32 → Int32 → Int64 → Int32 → am_H → Option am_O} {rc_94 : Value → Int32 → Int32 → Int32 → Int64 → Int32 → am_H → Option am_O} {rc_95 : Value → Int32 → Int32 → Int32 → Int64 → Int32 → am_H → Option am_O} (qc_92 : ∀ (y0 : Value) (y1 : Int32) (y2 : Int32) (y3 : Int64) (y4 : Int32) (h : am_H) (o : am_O), (am_isR y0 = true) → rc_92 y0 y1 y2 y3 y4 h = some o → am_W X (d + 2) 92 0 (am_args 0 [y0, .int y1, .int y2, .long y3, .int y4]) [] h (fun q => q = o)) (qc_94 : ∀ (y0 : Value) (y1 : Int32) (y2 : Int32) (y3 : Int32) (y4 : Int64) (y5 : Int32) (h : am_H) (o : am_O), (am_isR y0 = true) → rc_94 y0 y1 y2 y3 y4 y5 h = some o → am_W X (d + 2) 94 0 (am_args 0 [y0, .int y1, .int y2, .int y3, .long y4, .int y5]) [] h (fun q => q = o)) (qc_95 : ∀ (y0 : Value) (y1 : Int32) (y2 : Int32) (y3 : Int32) (y4 : Int64) (y5 : Int32) (h : am_H) (o : am_O), (am_isR y0 = true) → rc_95 y0 y1 y2 y3 y4 y5 h = some o → am_W X (d + 2) 95 0 (am_args 0 [y0, .int y1, .int y2, .int y3, .long y4, .int y5]) [] h (fun q => q = o)) : ∀ (K : Nat) (x0 : Value) (x1 : Int32) (x2 : Int32) (x3 : Int32) (x6 : Int32) (x7 : Int64) (x9 : Int32) (h : am_H) (o : am_O), fg_94_7 N rc_92 rc_94 rc_95 K x0 x1 x2 x3 x6 x7 x9 h = some o → ∀ lv : am_LV, (lv.lookup 0 = some x0) → (lv.lookup 1 = some (.int x1)) → (lv.lookup 2 = some (.int x2)) → (lv.lookup 3 = some (.int x3)) → (lv.lookup 6 = some (.int x6)) → (lv.lookup 7 = some (.long x7)) → (lv.lookup 9 = some (.int x9)) → (am_isR x0 = true) → am_W X (d + 3) 94 7 lv [] h (fun q => q = o) := by
  intro K
  induction K with
  | zero => intro x0 x1 x2 x3 x6 x7 x9 h o hs; cases hs
  | succ K ih =>
    intro x0 x1 x2 x3 x6 x7 x9 h o hs lv l0 l1 l2 l3 l6 l7 l9 i0
    unfold fg_94_7 at hs
    refine aw_iload (pc1 := 9) at_94_7 l9 rfl ?_
    refine aw_iload_n (pc1 := 10) at_94_9 l3 rfl ?_
    by_cases c1 : x3 ≤ x9
    · rw [if_pos c1] at hs
      refine aw_icge_t at_94_10 c1 ?_
      cases hs
      exact aw_vret at_94_95 rt_94 rfl
    · rw [if_neg c1] at hs
      refine aw_icge_f (pc1 := 13) at_94_10 c1 rfl ?_
      refine aw_vload_n (pc1 := 14) at_94_13 l0 i0 rfl ?_
      refine aw_iload_n (pc1 := 15) at_94_14 l2 rfl ?_
      refine aw_iload_n (pc1 := 16) at_94_15 l3 rfl ?_
      refine aw_iload (pc1 := 18) at_94_16 l9 rfl ?_
      refine aw_isub (v := (x3 - x9)) (pc1 := 19) at_94_18 rfl rfl ?_
      obtain ⟨z2, hs1⟩ := am_ift hs
      clear hs
      refine aw_call (F := fm_15 x0 x2 ((x3 - x9)) h) (t := true) (na := 3) (kd := 1) (as := [x0, (.int x2), (.int (x3 - x9))]) at_94_19 (am_k3v kb_15) mn_15 mk_15 rfl rfl (am_ok_v mi_15 (am_hl rfl (am_ccR i0 (am_ccI (am_ccI am_cats_0))) rfl) z2) (am_hc am_cats_0 rfl) (fun _ => ⟨rfl, hh_94⟩) (fun o1 hz9 => rm_15 x0 x2 ((x3 - x9)) h o1 i0 hz9) ?_
      rcases am_cL_s hs1 with ⟨v3, h4, f5, hs2⟩ | hs2
      · clear hs1
        refine Or.inl ⟨_, _, f5, ?_⟩
        show am_W X _ 94 22 _ [(.long v3)] h4 _
        refine aw_lstore (lv1 := am_put2 _ 10 _) (pc1 := 24) at_94_22 rfl rfl ?_
        refine aw_vload_n (pc1 := 25) at_94_24 (am_lk2 l0 rfl rfl) i0 rfl ?_
        refine aw_iload_n (pc1 := 26) at_94_25 (am_lk2 l1 rfl rfl) rfl ?_
        refine aw_iload (pc1 := 28) at_94_26 (am_lk2 l9 rfl rfl) rfl ?_
        obtain ⟨z6, hs3⟩ := am_ift hs2
        clear hs2
        refine aw_call (F := fm_15 x0 x1 x9 h4) (t := true) (na := 3) (kd := 1) (as := [x0, (.int x1), (.int x9)]) at_94_28 (am_k3v kb_15) mn_15 mk_15 rfl rfl (am_ok_v mi_15 (am_hl rfl (am_ccR i0 (am_ccI (am_ccI am_cats_0))) rfl) z6) (am_hc am_cats_0 rfl) (fun _ => ⟨rfl, hh_94⟩) (fun o1 hz9 => rm_15 x0 x1 x9 h4 o1 i0 hz9) ?_
        rcases am_cL_s hs3 with ⟨v7, h8, f9, hs4⟩ | hs4
        · clear hs3
          refine Or.inl ⟨_, _, f9, ?_⟩
          show am_W X _ 94 31 _ [(.long v7)] h8 _
          refine aw_lload (pc1 := 33) at_94_31 am_lk02 rfl ?_
          refine aw_lmul (v := (v7 * v3)) (pc1 := 34) at_94_33 rfl rfl ?_
          refine aw_lstore (lv1 := am_put2 _ 12 _) (pc1 := 36) at_94_34 rfl rfl ?_
          refine aw_lload (pc1 := 38) at_94_36 (am_lk2 (am_lk2 l7 rfl rfl) rfl rfl) rfl ?_
          refine aw_lload (pc1 := 40) at_94_38 am_lk02 rfl ?_
          refine aw_lcmp (v := (lg_cmp x7 (v7 * v3))) (pc1 := 41) at_94_40 rfl rfl ?_
          by_cases c10 : 0 ≤ (lg_cmp x7 (v7 * v3))
          · rw [if_pos c10] at hs4
            refine aw_ifge_t at_94_41 c10 ?_
            exact rg_94_82 (fun z0 z1 z2 z3 z4 z5 z6 h o hs4 => ih z0 z1 z2 z3 z4 z5 z6 h o hs4) qc_92 qc_94 qc_95 x0 x1 x2 x3 x6 x7 x9 ((v7 * v3)) h8 o (am_lk2 (am_lk2 l0 rfl rfl) rfl rfl) (am_lk2 (am_lk2 l1 rfl rfl) rfl rfl) (am_lk2 (am_lk2 l2 rfl rfl) rfl rfl) (am_lk2 (am_lk2 l3 rfl rfl) rfl rfl) (am_lk2 (am_lk2 l6 rfl rfl) rfl rfl) (am_lk2 (am_lk2 l7 rfl rfl) rfl rfl) (am_lk2 (am_lk2 l9 rfl rfl) rfl rfl) am_lk02 i0 hs4
          · rw [if_neg c10] at hs4
            refine aw_ifge_f (pc1 := 44) at_94_41 c10 rfl ?_
            refine aw_lload (pc1 := 46) at_94_44 (am_lk2 am_lk02 rfl rfl) rfl ?_
            refine aw_lconst (v := 0) (pc1 := 47) at_94_46 (by decide) rfl ?_
            refine aw_lcmp (v := (lg_cmp v3 0)) (pc1 := 48) at_94_47 rfl rfl ?_
            by_cases c11 : (lg_cmp v3 0) ≤ 0
            · rw [if_pos c11] at hs4
              refine aw_ifle_t at_94_48 c11 ?_
              exact rg_94_82 (fun z0 z1 z2 z3 z4 z5 z6 h o hs4 => ih z0 z1 z2 z3 z4 z5 z6 h o hs4) qc_92 qc_94 qc_95 x0 x1 x2 x3 x6 x7 x9 ((v7 * v3)) h8 o (am_lk2 (am_lk2 l0 rfl rfl) rfl rfl) (am_lk2 (am_lk2 l1 rfl rfl) rfl rfl) (am_lk2 (am_lk2 l2 rfl rfl) rfl rfl) (am_lk2 (am_lk2 l3 rfl rfl) rfl rfl) (am_lk2 (am_lk2 l6 rfl rfl) rfl rfl) (am_lk2 (am_lk2 l7 rfl rfl) rfl rfl) (am_lk2 (am_lk2 l9 rfl rfl) rfl rfl) am_lk02 i0 hs4
            · rw [if_neg c11] at hs4
              refine aw_ifle_f (pc1 := 51) at_94_48 c11 rfl ?_
              refine aw_vload_n (pc1 := 52) at_94_51 (am_lk2 (am_lk2 l0 rfl rfl) rfl rfl) i0 rfl ?_
              refine aw_iload_n (pc1 := 53) at_94_52 (am_lk2 (am_lk2 l1 rfl rfl) rfl rfl) rfl ?_
              refine aw_iload (pc1 := 55) at_94_53 (am_lk2 (am_lk2 l9 rfl rfl) rfl rfl) rfl ?_
              refine aw_lload (pc1 := 57) at_94_55 (am_lk2 (am_lk2 l7 rfl rfl) rfl rfl) rfl ?_
              refine aw_lload (pc1 := 59) at_94_57 (am_lk2 am_lk02 rfl rfl) rfl ?_
              obtain ⟨z12, hs5⟩ := am_ift hs4
              clear hs4
              refine aw_ldiv (v := (x7 / v3)) (pc1 := 60) at_94_59 z12 rfl rfl ?_
              refine aw_iload (pc1 := 62) at_94_60 (am_lk2 (am_lk2 l6 rfl rfl) rfl rfl) rfl ?_
              obtain ⟨z13, hs6⟩ := am_ift hs5
              clear hs5
              refine aw_call (F := rc_92 x0 x1 x9 ((x7 / v3)) x6 h8) (t := true) (na := 5) (kd := 1) (as := [x0, (.int x1), (.int x9), (.long (x7 / v3)), (.int x6)]) at_94_62 (am_k3v kb_92) mn_92 mk_92 rfl rfl (am_ok_v mi_92 (am_hl rfl (am_ccR i0 (am_ccI (am_ccI (am_ccL (am_ccI am_cats_0))))) rfl) z13) (am_hc am_cats_0 rfl) (fun _ => ⟨rfl, hh_94⟩) (fun o1 hz9 => qc_92 x0 x1 x9 ((x7 / v3)) x6 h8 o1 i0 hz9) ?_
              rcases am_cV_s hs6 with ⟨h15, f16, hs7⟩ | hs7
              · clear hs6
                refine Or.inl ⟨_, _, f16, ?_⟩
                show am_W X _ 94 65 _ [] h15 _
                refine aw_vload_n (pc1 := 66) at_94_65 (am_lk2 (am_lk2 l0 rfl rfl) rfl rfl) i0 rfl ?_
                refine aw_iload_n (pc1 := 67) at_94_66 (am_lk2 (am_lk2 l2 rfl rfl) rfl rfl) rfl ?_
                refine aw_iload_n (pc1 := 68) at_94_67 (am_lk2 (am_lk2 l3 rfl rfl) rfl rfl) rfl ?_
                refine aw_iload (pc1 := 70) at_94_68 (am_lk2 (am_lk2 l9 rfl rfl) rfl rfl) rfl ?_
                refine aw_isub (v := (x3 - x9)) (pc1 := 71) at_94_70 rfl rfl ?_
                refine aw_lload (pc1 := 73) at_94_71 (am_lk2 (am_lk2 l7 rfl rfl) rfl rfl) rfl ?_
                refine aw_lload (pc1 := 75) at_94_73 (am_lk2 am_lk02 rfl rfl) rfl ?_
                obtain ⟨z17, hs8⟩ := am_ift hs7
                clear hs7
                refine aw_lrem (v := (x7 - x7 / v3 * v3)) (pc1 := 76) at_94_75 z17 rfl rfl ?_
                refine aw_iload (pc1 := 78) at_94_76 (am_lk2 (am_lk2 l6 rfl rfl) rfl rfl) rfl ?_
                obtain ⟨z18, hs9⟩ := am_ift hs8
                clear hs8
                refine aw_call (F := rc_92 x0 x2 ((x3 - x9)) ((x7 - x7 / v3 * v3)) x6 h15) (t := true) (na := 5) (kd := 1) (as := [x0, (.int x2), (.int (x3 - x9)), (.long (x7 - x7 / v3 * v3)), (.int x6)]) at_94_78 (am_k3v kb_92) mn_92 mk_92 rfl rfl (am_ok_v mi_92 (am_hl rfl (am_ccR i0 (am_ccI (am_ccI (am_ccL (am_ccI am_cats_0))))) rfl) z18) (am_hc am_cats_0 rfl) (fun _ => ⟨rfl, hh_94⟩) (fun o1 hz9 => qc_92 x0 x2 ((x3 - x9)) ((x7 - x7 / v3 * v3)) x6 h15 o1 i0 hz9) ?_
                rcases am_cV_s hs9 with ⟨h20, f21, hs10⟩ | hs10
                · clear hs9
                  refine Or.inl ⟨_, _, f21, ?_⟩
                  show am_W X _ 94 81 _ [] h20 _
                  cases hs10
                  exact aw_vret at_94_81 rt_94 rfl
                · clear hs9
                  exact Or.inr hs10
              · clear hs6
                exact Or.inr hs7
        · clear hs3
          exact Or.inr hs4
      · clear hs1
        exact Or.inr hs2
def fg_94_0 (N : Nat) (rc_92 : Value → Int32 → Int32 → Int64 → Int32 → am_H → Option am_O) (rc_94 : Value → Int32 → Int32 → Int32 → Int64 → Int32 → am_H → Option am_O) (rc_95 : Value → Int32 → Int32 → Int32 → Int64 → Int32 → am_H → Option am_O) (x0 : Value) (x1 : Int32) (x2 : Int32) (x3 : Int32) (x4 : Int64) (x6 : Int32) (h : am_H) : Option am_O := (fg_94_7 N rc_92 rc_94 rc_95 N x0 x1 x2 x3 x6 x4 1 h)
theorem rg_94_0 {X : am_X} {d : Nat} {N : Nat} {rc_92 : Value → Int32 → Int32 → Int64 → Int32 → am_H → Option am_O} {rc_94 : Value → Int32 → Int32 → Int32 → Int64 → Int32 → am_H → Option am_O} {rc_95 : Value → Int32 → Int32 → Int32 → Int64 → Int32 → am_H → Option am_O} (qc_92 : ∀ (y0 : Value) (y1 : Int32) (y2 : Int32) (y3 : Int64) (y4 : Int32) (h : am_H) (o : am_O), (am_isR y0 = true) → rc_92 y0 y1 y2 y3 y4 h = some o → am_W X (d + 2) 92 0 (am_args 0 [y0, .int y1, .int y2, .long y3, .int y4]) [] h (fun q => q = o)) (qc_94 : ∀ (y0 : Value) (y1 : Int32) (y2 : Int32) (y3 : Int32) (y4 : Int64) (y5 : Int32) (h : am_H) (o : am_O), (am_isR y0 = true) → rc_94 y0 y1 y2 y3 y4 y5 h = some o → am_W X (d + 2) 94 0 (am_args 0 [y0, .int y1, .int y2, .int y3, .long y4, .int y5]) [] h (fun q => q = o)) (qc_95 : ∀ (y0 : Value) (y1 : Int32) (y2 : Int32) (y3 : Int32) (y4 : Int64) (y5 : Int32) (h : am_H) (o : am_O), (am_isR y0 = true) → rc_95 y0 y1 y2 y3 y4 y5 h = some o → am_W X (d + 2) 95 0 (am_args 0 [y0, .int y1, .int y2, .int y3, .long y4, .int y5]) [] h (fun q => q = o)) {lv : am_LV} (x0 : Value) (x1 : Int32) (x2 : Int32) (x3 : Int32) (x4 : Int64) (x6 : Int32) (h : am_H) (o : am_O) (l0 : lv.lookup 0 = some x0) (l1 : lv.lookup 1 = some (.int x1)) (l2 : lv.lookup 2 = some (.int x2)) (l3 : lv.lookup 3 = some (.int x3)) (l4 : lv.lookup 4 = some (.long x4)) (l6 : lv.lookup 6 = some (.int x6)) (i0 : am_isR x0 = true) (hs : fg_94_0 N rc_92 rc_94 rc_95 x0 x1 x2 x3 x4 x6 h = some o) : am_W X (d + 3) 94 0 lv [] h (fun q => q = o) := by
  unfold fg_94_0 at hs
  refine aw_lload (pc1 := 2) at_94_0 l4 rfl ?_
  refine aw_lstore (lv1 := am_put2 _ 7 _) (pc1 := 4) at_94_2 rfl rfl ?_
  refine aw_iconst (v := 1) (pc1 := 5) at_94_4 (by decide) rfl ?_
  refine aw_istore (lv1 := am_put1 _ 9 _) (pc1 := 7) at_94_5 rfl rfl ?_
  exact rg_94_7 qc_92 qc_94 qc_95 N x0 x1 x2 x3 x6 x4 1 h o hs _ (am_lk1 (am_lk2 l0 rfl rfl) rfl rfl) (am_lk1 (am_lk2 l1 rfl rfl) rfl rfl) (am_lk1 (am_lk2 l2 rfl rfl) rfl rfl) (am_lk1 (am_lk2 l3 rfl rfl) rfl rfl) (am_lk1 (am_lk2 l6 rfl rfl) rfl rfl) (am_lk1 am_lk02 rfl rfl) am_lk0 i0
def fo_94 (N : Nat) (rc_92 : Value → Int32 → Int32 → Int64 → Int32 → am_H → Option am_O) (rc_94 : Value → Int32 → Int32 → Int32 → Int64 → Int32 → am_H → Option am_O) (rc_95 : Value → Int32 → Int32 → Int32 → Int64 → Int32 → am_H → Option am_O) (y0 : Value) (y1 : Int32) (y2 : Int32) (y3 : Int32) (y4 : Int64) (y5 : Int32) (h : am_H) : Option am_O := fg_94_0 N rc_92 rc_94 rc_95 y0 y1 y2 y3 y4 y5 h
theorem ro_94 {X : am_X} {d : Nat} {N : Nat} {rc_92 : Value → Int32 → Int32 → Int64 → Int32 → am_H → Option am_O} {rc_94 : Value → Int32 → Int32 → Int32 → Int64 → Int32 → am_H → Option am_O} {rc_95 : Value → Int32 → Int32 → Int32 → Int64 → Int32 → am_H → Option am_O} (qc_92 : ∀ (y0 : Value) (y1 : Int32) (y2 : Int32) (y3 : Int64) (y4 : Int32) (h : am_H) (o : am_O), (am_isR y0 = true) → rc_92 y0 y1 y2 y3 y4 h = some o → am_W X (d + 2) 92 0 (am_args 0 [y0, .int y1, .int y2, .long y3, .int y4]) [] h (fun q => q = o)) (qc_94 : ∀ (y0 : Value) (y1 : Int32) (y2 : Int32) (y3 : Int32) (y4 : Int64) (y5 : Int32) (h : am_H) (o : am_O), (am_isR y0 = true) → rc_94 y0 y1 y2 y3 y4 y5 h = some o → am_W X (d + 2) 94 0 (am_args 0 [y0, .int y1, .int y2, .int y3, .long y4, .int y5]) [] h (fun q => q = o)) (qc_95 : ∀ (y0 : Value) (y1 : Int32) (y2 : Int32) (y3 : Int32) (y4 : Int64) (y5 : Int32) (h : am_H) (o : am_O), (am_isR y0 = true) → rc_95 y0 y1 y2 y3 y4 y5 h = some o → am_W X (d + 2) 95 0 (am_args 0 [y0, .int y1, .int y2, .int y3, .long y4, .int y5]) [] h (fun q => q = o)) (y0 : Value) (y1 : Int32) (y2 : Int32) (y3 : Int32) (y4 : Int64) (y5 : Int32) (h : am_H) (o : am_O) (i0 : am_isR y0 = true) (hs : fo_94 N rc_92 rc_94 rc_95 y0 y1 y2 y3 y4 y5 h = some o) : am_W X (d + 3) 94 0 (am_args 0 [y0, .int y1, .int y2, .int y3, .long y4, .int y5]) [] h (fun q => q = o) := by
  rw [am_args_R i0, am_args_I, am_args_I, am_args_I, am_args_L, am_args_I]
  exact rg_94_0 qc_92 qc_94 qc_95 y0 y1 y2 y3 y4 y5 h o rfl rfl rfl rfl rfl rfl i0 hs
def fg_95_138 (N : Nat) (rc_92 : Value → Int32 → Int32 → Int64 → Int32 → am_H → Option am_O) (rc_94 : Value → Int32 → Int32 → Int32 → Int64 → Int32 → am_H → Option am_O) (rc_95 : Value → Int32 → Int32 → Int32 → Int64 → Int32 → am_H → Option am_O) (rec_7 : Value → Int32 → Int32 → Int32 → Int32 → Int64 → Int32 → am_H → Option am_O) (rec_18 : Value → Int32 → Int32 → Int32 → Int32 → Int64 → Int32 → Int32 → am_H → Option am_O) (x0 : Value) (x1 : Int32) (x2 : Int32) (x3 : Int32) (x6 : Int32) (x7 : Int64) (x9 : Int32) (x10 : Int32) (x15 : Int64) (h : am_H) : Option am_O := (rec_18 x0 x1 x2 x3 x6 ((x7 - x15)) x9 ((x10 + 1)) h)
theorem rg_95_138 {X : am_X} {d : Nat} {N : Nat} {rc_92 : Value → Int32 → Int32 → Int64 → Int32 → am_H → Option am_O} {rc_94 : Value → Int32 → Int32 → Int32 → Int64 → Int32 → am_H → Option am_O} {rc_95 : Value → Int32 → Int32 → Int32 → Int64 → Int32 → am_H → Option am_O} {rec_7 : Value → Int32 → Int32 → Int32 → Int32 → Int64 → Int32 → am_H → Option am_O} {rec_18 : Value → Int32 → Int32 → Int32 → Int32 → Int64 → Int32 → Int32 → am_H → Option am_O} (q_7 : ∀ (x0 : Value) (x1 : Int32) (x2 : Int32) (x3 : Int32) (x6 : Int32) (x7 : Int64) (x9 : Int32) (h : am_H) (o : am_O), rec_7 x0 x1 x2 x3 x6 x7 x9 h = some o → ∀ lv : am_LV, (lv.lookup 0 = some x0) → (lv.lookup 1 = some (.int x1)) → (lv.lookup 2 = some (.int x2)) → (lv.lookup 3 = some (.int x3)) → (lv.lookup 6 = some (.int x6)) → (lv.lookup 7 = some (.long x7)) → (lv.lookup 9 = some (.int x9)) → (am_isR x0 = true) → am_W X (d + 3) 95 7 lv [] h (fun q => q = o)) (q_18 : ∀ (x0 : Value) (x1 : Int32) (x2 : Int32) (x3 : Int32) (x6 : Int32) (x7 : Int64) (x9 : Int32) (x10 : Int32) (h : am_H) (o : am_O), rec_18 x0 x1 x2 x3 x6 x7 x9 x10 h = some o → ∀ lv : am_LV, (lv.lookup 0 = some x0) → (lv.lookup 1 = some (.int x1)) → (lv.lookup 2 = some (.int x2)) → (lv.lookup 3 = some (.int x3)) → (lv.lookup 6 = some (.int x6)) → (lv.lookup 7 = some (.long x7)) → (lv.lookup 9 = some (.int x9)) → (lv.lookup 10 = some (.int x10)) → (am_isR x0 = true) → am_W X (d + 3) 95 18 lv [] h (fun q => q = o)) (qc_92 : ∀ (y0 : Value) (y1 : Int32) (y2 : Int32) (y3 : Int64) (y4 : Int32) (h : am_H) (o : am_O), (am_isR y0 = true) → rc_92 y0 y1 y2 y3 y4 h = some o → am_W X (d + 2) 92 0 (am_args 0 [y0, .int y1, .int y2, .long y3, .int y4]) [] h (fun q => q = o)) (qc_94 : ∀ (y0 : Value) (y1 : Int32) (y2 : Int32) (y3 : Int32) (y4 : Int64) (y5 : Int32) (h : am_H) (o : am_O), (am_isR y0 = true) → rc_94 y0 y1 y2 y3 y4 y5 h = some o → am_W X (d + 2) 94 0 (am_args 0 [y0, .int y1, .int y2, .int y3, .long y4, .int y5]) [] h (fun q => q = o)) (qc_95 : ∀ (y0 : Value) (y1 : Int32) (y2 : Int32) (y3 : Int32) (y4 : Int64) (y5 : Int32) (h : am_H) (o : am_O), (am_isR y0 = true) → rc_95 y0 y1 y2 y3 y4 y5 h = some o → am_W X (d + 2) 95 0 (am_args 0 [y0, .int y1, .int y2, .int y3, .long y4, .int y5]) [] h (fun q => q = o)) {lv : am_LV} (x0 : Value) (x1 : Int32) (x2 : Int32) (x3 : Int32) (x6 : Int32) (x7 : Int64) (x9 : Int32) (x10 : Int32) (x15 : Int64) (h : am_H) (o : am_O) (l0 : lv.lookup 0 = some x0) (l1 : lv.lookup 1 = some (.int x1)) (l2 : lv.lookup 2 = some (.int x2)) (l3 : lv.lookup 3 = some (.int x3)) (l6 : lv.lookup 6 = some (.int x6)) (l7 : lv.lookup 7 = some (.long x7)) (l9 : lv.lookup 9 = some (.int x9)) (l10 : lv.lookup 10 = some (.int x10)) (l15 : lv.lookup 15 = some (.long x15)) (i0 : am_isR x0 = true) (hs : fg_95_138 N rc_92 rc_94 rc_95 rec_7 rec_18 x0 x1 x2 x3 x6 x7 x9 x10 x15 h = some o) : am_W X (d + 3) 95 138 lv [] h (fun q => q = o) := by
  unfold fg_95_138 at hs
  refine aw_lload (pc1 := 140) at_95_138 l7 rfl ?_
  refine aw_lload (pc1 := 142) at_95_140 l15 rfl ?_
  refine aw_lsub (v := (x7 - x15)) (pc1 := 143) at_95_142 rfl rfl ?_
  refine aw_lstore (lv1 := am_put2 _ 7 _) (pc1 := 145) at_95_143 rfl rfl ?_
  refine aw_iinc (v := (x10 + 1)) (c := 1) (lv1 := am_put1 _ 10 _) (pc1 := 148) at_95_145 (am_lk2 l10 rfl rfl) (by decide) rfl rfl rfl ?_
  refine aw_goto at_95_148 ?_
  exact q_18 x0 x1 x2 x3 x6 ((x7 - x15)) x9 ((x10 + 1)) h o hs _ (am_lk1 (am_lk2 l0 rfl rfl) rfl rfl) (am_lk1 (am_lk2 l1 rfl rfl) rfl rfl) (am_lk1 (am_lk2 l2 rfl rfl) rfl rfl) (am_lk1 (am_lk2 l3 rfl rfl) rfl rfl) (am_lk1 (am_lk2 l6 rfl rfl) rfl rfl) (am_lk1 am_lk02 rfl rfl) (am_lk1 (am_lk2 l9 rfl rfl) rfl rfl) am_lk0 i0
def fg_95_18 (N : Nat) (rc_92 : Value → Int32 → Int32 → Int64 → Int32 → am_H → Option am_O) (rc_94 : Value → Int32 → Int32 → Int32 → Int64 → Int32 → am_H → Option am_O) (rc_95 : Value → Int32 → Int32 → Int32 → Int64 → Int32 → am_H → Option am_O) (rec_7 : Value → Int32 → Int32 → Int32 → Int32 → Int64 → Int32 → am_H → Option am_O) : Nat → Value → Int32 → Int32 → Int32 → Int32 → Int64 → Int32 → Int32 → am_H → Option am_O
  | 0 => fun _ _ _ _ _ _ _ _ _ => none
  | K + 1 => fun x0 x1 x2 x3 x6 x7 x9 x10 h => (if (x3 - x9) ≤ x10 then (rec_7 x0 x1 x2 x3 x6 x7 ((x9 + 1)) h) else (if am_pOk 4 x0 h then am_cL true (fm_15 x0 x2 (((x3 - x9) - x10)) h) (fun v3 h4 => (if am_pOk 4 x0 h4 then am_cL true (fm_15 x0 x2 x10 h4) (fun v7 h8 => (if am_pOk 4 x0 h8 then am_cL true (fm_15 x0 x1 x9 h8) (fun v11 h12 => (if 0 ≤ (lg_cmp x7 (v11 * (v7 * v3))) then (fg_95_138 N rc_92 rc_94 rc_95 rec_7 (fg_95_18 N rc_92 rc_94 rc_95 rec_7 K) x0 x1 x2 x3 x6 x7 x9 x10 ((v11 * (v7 * v3))) h12) else (if (lg_cmp v3 0) ≤ 0 then (fg_95_138 N rc_92 rc_94 rc_95 rec_7 (fg_95_18 N rc_92 rc_94 rc_95 rec_7 K) x0 x1 x2 x3 x6 x7 x9 x10 ((v11 * (v7 * v3))) h12) else (if (lg_cmp (v7 * v3) 0) ≤ 0 then (fg_95_138 N rc_92 rc_94 rc_95 rec_7 (fg_95_18 N rc_92 rc_94 rc_95 rec_7 K) x0 x1 x2 x3 x6 x7 x9 x10 ((v11 * (v7 * v3))) h12) else (if ((v7 * v3) : Int64) ≠ 0 then (if am_pOk 4 x0 h12 then am_cV true (rc_92 x0 x1 x9 ((x7 / (v7 * v3))) x6 h12) (fun h20 => (if ((v7 * v3) : Int64) ≠ 0 then (if (v3 : Int64) ≠ 0 then (if am_pOk 4 x0 h20 then am_cV true (rc_92 x0 x2 x10 (((x7 - x7 / (v7 * v3) * (v7 * v3)) / v3)) x6 h20) (fun h26 => (if (v3 : Int64) ≠ 0 then (if am_pOk 4 x0 h26 then am_cV true (rc_92 x0 x2 (((x3 - x9) - x10)) ((x7 - x7 / v3 * v3)) x6 h26) (fun h31 => some (.inl (none, h31))) else none) else none)) else none) else none) else none)) else none) else none))))) else none)) else none)) else none))
theorem rg_95_18 {X : am_X} {d : Nat} {N : Nat} {rc_92 : Value → Int32 → Int32 → Int64 → Int32 → am_H → Option am_O} {rc_94 : Value → Int32 → Int32 → Int32 → Int64 → Int32 → am_H → Option am_O} {rc_95 : Value → Int32 → Int32 → Int32 → Int64 → Int32 → am_H → Option am_O} {rec_7 : Value → Int32 → Int32 → Int32 → Int32 → Int64 → Int32 → am_H → Option am_O} (q_7 : ∀ (x0 : Value) (x1 : Int32) (x2 : Int32) (x3 : Int32) (x6 : Int32) (x7 : Int64) (x9 : Int32) (h : am_H) (o : am_O), rec_7 x0 x1 x2 x3 x6 x7 x9 h = some o → ∀ lv : am_LV, (lv.lookup 0 = some x0) → (lv.lookup 1 = some (.int x1)) → (lv.lookup 2 = some (.int x2)) → (lv.lookup 3 = some (.int x3)) → (lv.lookup 6 = some (.int x6)) → (lv.lookup 7 = some (.long x7)) → (lv.lookup 9 = some (.int x9)) → (am_isR x0 = true) → am_W X (d + 3) 95 7 lv [] h (fun q => q = o)) (qc_92 : ∀ (y0 : Value) (y1 : Int32) (y2 : Int32) (y3 : Int64) (y4 : Int32) (h : am_H) (o : am_O), (am_isR y0 = true) → rc_92 y0 y1 y2 y3 y4 h = some o → am_W X (d + 2) 92 0 (am_args 0 [y0, .int y1, .int y2, .long y3, .int y4]) [] h (fun q => q = o)) (qc_94 : ∀ (y0 : Value) (y1 : Int32) (y2 : Int32) (y3 : Int32) (y4 : Int64) (y5 : Int32) (h : am_H) (o : am_O), (am_isR y0 = true) → rc_94 y0 y1 y2 y3 y4 y5 h = some o → am_W X (d + 2) 94 0 (am_args 0 [y0, .int y1, .int y2, .int y3, .long y4, .int y5]) [] h (fun q => q = o)) (qc_95 : ∀ (y0 : Value) (y1 : Int32) (y2 : Int32) (y3 : Int32) (y4 : Int64) (y5 : Int32) (h : am_H) (o : am_O), (am_isR y0 = true) → rc_95 y0 y1 y2 y3 y4 y5 h = some o → am_W X (d + 2) 95 0 (am_args 0 [y0, .int y1, .int y2, .int y3, .long y4, .int y5]) [] h (fun q => q = o)) : ∀ (K : Nat) (x0 : Value) (x1 : Int32) (x2 : Int32) (x3 : Int32) (x6 : Int32) (x7 : Int64) (x9 : Int32) (x10 : Int32) (h : am_H) (o : am_O), fg_95_18 N rc_92 rc_94 rc_95 rec_7 K x0 x1 x2 x3 x6 x7 x9 x10 h = some o → ∀ lv : am_LV, (lv.lookup 0 = some x0) → (lv.lookup 1 = some (.int x1)) → (lv.lookup 2 = some (.int x2)) → (lv.lookup 3 = some (.int x3)) → (lv.lookup 6 = some (.int x6)) → (lv.lookup 7 = some (.long x7)) → (lv.lookup 9 = some (.int x9)) → (lv.lookup 10 = some (.int x10)) → (am_isR x0 = true) → am_W X (d + 3) 95 18 lv [] h (fun q => q = o) := by
  intro K
  induction K with
  | zero => intro x0 x1 x2 x3 x6 x7 x9 x10 h o hs; cases hs
  | succ K ih =>
    intro x0 x1 x2 x3 x6 x7 x9 x10 h o hs lv l0 l1 l2 l3 l6 l7 l9 l10 i0
    unfold fg_95_18 at hs
    refine aw_iload (pc1 := 20) at_95_18 l10 rfl ?_
    refine aw_iload_n (pc1 := 21) at_95_20 l3 rfl ?_
    refine aw_iload (pc1 := 23) at_95_21 l9 rfl ?_
    refine aw_isub (v := (x3 - x9)) (pc1 := 24) at_95_23 rfl rfl ?_
    by_cases c1 : (x3 - x9) ≤ x10
    · rw [if_pos c1] at hs
      refine aw_icge_t at_95_24 c1 ?_
      refine aw_iinc (v := (x9 + 1)) (c := 1) (lv1 := am_put1 _ 9 _) (pc1 := 154) at_95_151 l9 (by decide) rfl rfl rfl ?_
      refine aw_goto at_95_154 ?_
      exact q_7 x0 x1 x2 x3 x6 x7 ((x9 + 1)) h o hs _ (am_lk1 l0 rfl rfl) (am_lk1 l1 rfl rfl) (am_lk1 l2 rfl rfl) (am_lk1 l3 rfl rfl) (am_lk1 l6 rfl rfl) (am_lk1 l7 rfl rfl) am_lk0 i0
    · rw [if_neg c1] at hs
      refine aw_icge_f (pc1 := 27) at_95_24 c1 rfl ?_
      refine aw_vload_n (pc1 := 28) at_95_27 l0 i0 rfl ?_
      refine aw_iload_n (pc1 := 29) at_95_28 l2 rfl ?_
      refine aw_iload_n (pc1 := 30) at_95_29 l3 rfl ?_
      refine aw_iload (pc1 := 32) at_95_30 l9 rfl ?_
      refine aw_isub (v := (x3 - x9)) (pc1 := 33) at_95_32 rfl rfl ?_
      refine aw_iload (pc1 := 35) at_95_33 l10 rfl ?_
      refine aw_isub (v := ((x3 - x9) - x10)) (pc1 := 36) at_95_35 rfl rfl ?_
      obtain ⟨z2, hs1⟩ := am_ift hs
      clear hs
      refine aw_call (F := fm_15 x0 x2 (((x3 - x9) - x10)) h) (t := true) (na := 3) (kd := 1) (as := [x0, (.int x2), (.int ((x3 - x9) - x10))]) at_95_36 (am_k3v kb_15) mn_15 mk_15 rfl rfl (am_ok_v mi_15 (am_hl rfl (am_ccR i0 (am_ccI (am_ccI am_cats_0))) rfl) z2) (am_hc am_cats_0 rfl) (fun _ => ⟨rfl, hh_95⟩) (fun o1 hz9 => rm_15 x0 x2 (((x3 - x9) - x10)) h o1 i0 hz9) ?_
      rcases am_cL_s hs1 with ⟨v3, h4, f5, hs2⟩ | hs2
      · clear hs1
        refine Or.inl ⟨_, _, f5, ?_⟩
        show am_W X _ 95 39 _ [(.long v3)] h4 _
        refine aw_lstore (lv1 := am_put2 _ 11 _) (pc1 := 41) at_95_39 rfl rfl ?_
        refine aw_vload_n (pc1 := 42) at_95_41 (am_lk2 l0 rfl rfl) i0 rfl ?_
        refine aw_iload_n (pc1 := 43) at_95_42 (am_lk2 l2 rfl rfl) rfl ?_
        refine aw_iload (pc1 := 45) at_95_43 (am_lk2 l10 rfl rfl) rfl ?_
        obtain ⟨z6, hs3⟩ := am_ift hs2
        clear hs2
        refine aw_call (F := fm_15 x0 x2 x10 h4) (t := true) (na := 3) (kd := 1) (as := [x0, (.int x2), (.int x10)]) at_95_45 (am_k3v kb_15) mn_15 mk_15 rfl rfl (am_ok_v mi_15 (am_hl rfl (am_ccR i0 (am_ccI (am_ccI am_cats_0))) rfl) z6) (am_hc am_cats_0 rfl) (fun _ => ⟨rfl, hh_95⟩) (fun o1 hz9 => rm_15 x0 x2 x10 h4 o1 i0 hz9) ?_
        rcases am_cL_s hs3 with ⟨v7, h8, f9, hs4⟩ | hs4
        · clear hs3
          refine Or.inl ⟨_, _, f9, ?_⟩
          show am_W X _ 95 48 _ [(.long v7)] h8 _
          refine aw_lload (pc1 := 50) at_95_48 am_lk02 rfl ?_
          refine aw_lmul (v := (v7 * v3)) (pc1 := 51) at_95_50 rfl rfl ?_
          refine aw_lstore (lv1 := am_put2 _ 13 _) (pc1 := 53) at_95_51 rfl rfl ?_
          refine aw_vload_n (pc1 := 54) at_95_53 (am_lk2 (am_lk2 l0 rfl rfl) rfl rfl) i0 rfl ?_
          refine aw_iload_n (pc1 := 55) at_95_54 (am_lk2 (am_lk2 l1 rfl rfl) rfl rfl) rfl ?_
          refine aw_iload (pc1 := 57) at_95_55 (am_lk2 (am_lk2 l9 rfl rfl) rfl rfl) rfl ?_
          obtain ⟨z10, hs5⟩ := am_ift hs4
          clear hs4
          refine aw_call (F := fm_15 x0 x1 x9 h8) (t := true) (na := 3) (kd := 1) (as := [x0, (.int x1), (.int x9)]) at_95_57 (am_k3v kb_15) mn_15 mk_15 rfl rfl (am_ok_v mi_15 (am_hl rfl (am_ccR i0 (am_ccI (am_ccI am_cats_0))) rfl) z10) (am_hc am_cats_0 rfl) (fun _ => ⟨rfl, hh_95⟩) (fun o1 hz9 => rm_15 x0 x1 x9 h8 o1 i0 hz9) ?_
          rcases am_cL_s hs5 with ⟨v11, h12, f13, hs6⟩ | hs6
          · clear hs5
            refine Or.inl ⟨_, _, f13, ?_⟩
            show am_W X _ 95 60 _ [(.long v11)] h12 _
            refine aw_lload (pc1 := 62) at_95_60 am_lk02 rfl ?_
            refine aw_lmul (v := (v11 * (v7 * v3))) (pc1 := 63) at_95_62 rfl rfl ?_
            refine aw_lstore (lv1 := am_put2 _ 15 _) (pc1 := 65) at_95_63 rfl rfl ?_
            refine aw_lload (pc1 := 67) at_95_65 (am_lk2 (am_lk2 (am_lk2 l7 rfl rfl) rfl rfl) rfl rfl) rfl ?_
            refine aw_lload (pc1 := 69) at_95_67 am_lk02 rfl ?_
            refine aw_lcmp (v := (lg_cmp x7 (v11 * (v7 * v3)))) (pc1 := 70) at_95_69 rfl rfl ?_
            by_cases c14 : 0 ≤ (lg_cmp x7 (v11 * (v7 * v3)))
            · rw [if_pos c14] at hs6
              refine aw_ifge_t at_95_70 c14 ?_
              exact rg_95_138 q_7 (fun z0 z1 z2 z3 z4 z5 z6 z7 h o hs6 => ih z0 z1 z2 z3 z4 z5 z6 z7 h o hs6) qc_92 qc_94 qc_95 x0 x1 x2 x3 x6 x7 x9 x10 ((v11 * (v7 * v3))) h12 o (am_lk2 (am_lk2 (am_lk2 l0 rfl rfl) rfl rfl) rfl rfl) (am_lk2 (am_lk2 (am_lk2 l1 rfl rfl) rfl rfl) rfl rfl) (am_lk2 (am_lk2 (am_lk2 l2 rfl rfl) rfl rfl) rfl rfl) (am_lk2 (am_lk2 (am_lk2 l3 rfl rfl) rfl rfl) rfl rfl) (am_lk2 (am_lk2 (am_lk2 l6 rfl rfl) rfl rfl) rfl rfl) (am_lk2 (am_lk2 (am_lk2 l7 rfl rfl) rfl rfl) rfl rfl) (am_lk2 (am_lk2 (am_lk2 l9 rfl rfl) rfl rfl) rfl rfl) (am_lk2 (am_lk2 (am_lk2 l10 rfl rfl) rfl rfl) rfl rfl) am_lk02 i0 hs6
            · rw [if_neg c14] at hs6
              refine aw_ifge_f (pc1 := 73) at_95_70 c14 rfl ?_
              refine aw_lload (pc1 := 75) at_95_73 (am_lk2 (am_lk2 am_lk02 rfl rfl) rfl rfl) rfl ?_
              refine aw_lconst (v := 0) (pc1 := 76) at_95_75 (by decide) rfl ?_
              refine aw_lcmp (v := (lg_cmp v3 0)) (pc1 := 77) at_95_76 rfl rfl ?_
              by_cases c15 : (lg_cmp v3 0) ≤ 0
              · rw [if_pos c15] at hs6
                refine aw_ifle_t at_95_77 c15 ?_
                exact rg_95_138 q_7 (fun z0 z1 z2 z3 z4 z5 z6 z7 h o hs6 => ih z0 z1 z2 z3 z4 z5 z6 z7 h o hs6) qc_92 qc_94 qc_95 x0 x1 x2 x3 x6 x7 x9 x10 ((v11 * (v7 * v3))) h12 o (am_lk2 (am_lk2 (am_lk2 l0 rfl rfl) rfl rfl) rfl rfl) (am_lk2 (am_lk2 (am_lk2 l1 rfl rfl) rfl rfl) rfl rfl) (am_lk2 (am_lk2 (am_lk2 l2 rfl rfl) rfl rfl) rfl rfl) (am_lk2 (am_lk2 (am_lk2 l3 rfl rfl) rfl rfl) rfl rfl) (am_lk2 (am_lk2 (am_lk2 l6 rfl rfl) rfl rfl) rfl rfl) (am_lk2 (am_lk2 (am_lk2 l7 rfl rfl) rfl rfl) rfl rfl) (am_lk2 (am_lk2 (am_lk2 l9 rfl rfl) rfl rfl) rfl rfl) (am_lk2 (am_lk2 (am_lk2 l10 rfl rfl) rfl rfl) rfl rfl) am_lk02 i0 hs6
              · rw [if_neg c15] at hs6
                refine aw_ifle_f (pc1 := 80) at_95_77 c15 rfl ?_
                refine aw_lload (pc1 := 82) at_95_80 (am_lk2 am_lk02 rfl rfl) rfl ?_
                refine aw_lconst (v := 0) (pc1 := 83) at_95_82 (by decide) rfl ?_
                refine aw_lcmp (v := (lg_cmp (v7 * v3) 0)) (pc1 := 84) at_95_83 rfl rfl ?_
                by_cases c16 : (lg_cmp (v7 * v3) 0) ≤ 0
                · rw [if_pos c16] at hs6
                  refine aw_ifle_t at_95_84 c16 ?_
                  exact rg_95_138 q_7 (fun z0 z1 z2 z3 z4 z5 z6 z7 h o hs6 => ih z0 z1 z2 z3 z4 z5 z6 z7 h o hs6) qc_92 qc_94 qc_95 x0 x1 x2 x3 x6 x7 x9 x10 ((v11 * (v7 * v3))) h12 o (am_lk2 (am_lk2 (am_lk2 l0 rfl rfl) rfl rfl) rfl rfl) (am_lk2 (am_lk2 (am_lk2 l1 rfl rfl) rfl rfl) rfl rfl) (am_lk2 (am_lk2 (am_lk2 l2 rfl rfl) rfl rfl) rfl rfl) (am_lk2 (am_lk2 (am_lk2 l3 rfl rfl) rfl rfl) rfl rfl) (am_lk2 (am_lk2 (am_lk2 l6 rfl rfl) rfl rfl) rfl rfl) (am_lk2 (am_lk2 (am_lk2 l7 rfl rfl) rfl rfl) rfl rfl) (am_lk2 (am_lk2 (am_lk2 l9 rfl rfl) rfl rfl) rfl rfl) (am_lk2 (am_lk2 (am_lk2 l10 rfl rfl) rfl rfl) rfl rfl) am_lk02 i0 hs6
                · rw [if_neg c16] at hs6
                  refine aw_ifle_f (pc1 := 87) at_95_84 c16 rfl ?_
                  refine aw_vload_n (pc1 := 88) at_95_87 (am_lk2 (am_lk2 (am_lk2 l0 rfl rfl) rfl rfl) rfl rfl) i0 rfl ?_
                  refine aw_iload_n (pc1 := 89) at_95_88 (am_lk2 (am_lk2 (am_lk2 l1 rfl rfl) rfl rfl) rfl rfl) rfl ?_
                  refine aw_iload (pc1 := 91) at_95_89 (am_lk2 (am_lk2 (am_lk2 l9 rfl rfl) rfl rfl) rfl rfl) rfl ?_
                  refine aw_lload (pc1 := 93) at_95_91 (am_lk2 (am_lk2 (am_lk2 l7 rfl rfl) rfl rfl) rfl rfl) rfl ?_
                  refine aw_lload (pc1 := 95) at_95_93 (am_lk2 am_lk02 rfl rfl) rfl ?_
                  obtain ⟨z17, hs7⟩ := am_ift hs6
                  clear hs6
                  refine aw_ldiv (v := (x7 / (v7 * v3))) (pc1 := 96) at_95_95 z17 rfl rfl ?_
                  refine aw_iload (pc1 := 98) at_95_96 (am_lk2 (am_lk2 (am_lk2 l6 rfl rfl) rfl rfl) rfl rfl) rfl ?_
                  obtain ⟨z18, hs8⟩ := am_ift hs7
                  clear hs7
                  refine aw_call (F := rc_92 x0 x1 x9 ((x7 / (v7 * v3))) x6 h12) (t := true) (na := 5) (kd := 1) (as := [x0, (.int x1), (.int x9), (.long (x7 / (v7 * v3))), (.int x6)]) at_95_98 (am_k3v kb_92) mn_92 mk_92 rfl rfl (am_ok_v mi_92 (am_hl rfl (am_ccR i0 (am_ccI (am_ccI (am_ccL (am_ccI am_cats_0))))) rfl) z18) (am_hc am_cats_0 rfl) (fun _ => ⟨rfl, hh_95⟩) (fun o1 hz9 => qc_92 x0 x1 x9 ((x7 / (v7 * v3))) x6 h12 o1 i0 hz9) ?_
                  rcases am_cV_s hs8 with ⟨h20, f21, hs9⟩ | hs9
                  · clear hs8
                    refine Or.inl ⟨_, _, f21, ?_⟩
                    show am_W X _ 95 101 _ [] h20 _
                    refine aw_vload_n (pc1 := 102) at_95_101 (am_lk2 (am_lk2 (am_lk2 l0 rfl rfl) rfl rfl) rfl rfl) i0 rfl ?_
                    refine aw_iload_n (pc1 := 103) at_95_102 (am_lk2 (am_lk2 (am_lk2 l2 rfl rfl) rfl rfl) rfl rfl) rfl ?_
                    refine aw_iload (pc1 := 105) at_95_103 (am_lk2 (am_lk2 (am_lk2 l10 rfl rfl) rfl rfl) rfl rfl) rfl ?_
                    refine aw_lload (pc1 := 107) at_95_105 (am_lk2 (am_lk2 (am_lk2 l7 rfl rfl) rfl rfl) rfl rfl) rfl ?_
                    refine aw_lload (pc1 := 109) at_95_107 (am_lk2 am_lk02 rfl rfl) rfl ?_
                    obtain ⟨z22, hs10⟩ := am_ift hs9
                    clear hs9
                    refine aw_lrem (v := (x7 - x7 / (v7 * v3) * (v7 * v3))) (pc1 := 110) at_95_109 z22 rfl rfl ?_
                    refine aw_lload (pc1 := 112) at_95_110 (am_lk2 (am_lk2 am_lk02 rfl rfl) rfl rfl) rfl ?_
                    obtain ⟨z23, hs11⟩ := am_ift hs10
                    clear hs10
                    refine aw_ldiv (v := ((x7 - x7 / (v7 * v3) * (v7 * v3)) / v3)) (pc1 := 113) at_95_112 z23 rfl rfl ?_
                    refine aw_iload (pc1 := 115) at_95_113 (am_lk2 (am_lk2 (am_lk2 l6 rfl rfl) rfl rfl) rfl rfl) rfl ?_
                    obtain ⟨z24, hs12⟩ := am_ift hs11
                    clear hs11
                    refine aw_call (F := rc_92 x0 x2 x10 (((x7 - x7 / (v7 * v3) * (v7 * v3)) / v3)) x6 h20) (t := true) (na := 5) (kd := 1) (as := [x0, (.int x2), (.int x10), (.long ((x7 - x7 / (v7 * v3) * (v7 * v3)) / v3)), (.int x6)]) at_95_115 (am_k3v kb_92) mn_92 mk_92 rfl rfl (am_ok_v mi_92 (am_hl rfl (am_ccR i0 (am_ccI (am_ccI (am_ccL (am_ccI am_cats_0))))) rfl) z24) (am_hc am_cats_0 rfl) (fun _ => ⟨rfl, hh_95⟩) (fun o1 hz9 => qc_92 x0 x2 x10 (((x7 - x7 / (v7 * v3) * (v7 * v3)) / v3)) x6 h20 o1 i0 hz9) ?_
                    rcases am_cV_s hs12 with ⟨h26, f27, hs13⟩ | hs13
                    · clear hs12
                      refine Or.inl ⟨_, _, f27, ?_⟩
                      show am_W X _ 95 118 _ [] h26 _
                      refine aw_vload_n (pc1 := 119) at_95_118 (am_lk2 (am_lk2 (am_lk2 l0 rfl rfl) rfl rfl) rfl rfl) i0 rfl ?_
                      refine aw_iload_n (pc1 := 120) at_95_119 (am_lk2 (am_lk2 (am_lk2 l2 rfl rfl) rfl rfl) rfl rfl) rfl ?_
                      refine aw_iload_n (pc1 := 121) at_95_120 (am_lk2 (am_lk2 (am_lk2 l3 rfl rfl) rfl rfl) rfl rfl) rfl ?_
                      refine aw_iload (pc1 := 123) at_95_121 (am_lk2 (am_lk2 (am_lk2 l9 rfl rfl) rfl rfl) rfl rfl) rfl ?_
                      refine aw_isub (v := (x3 - x9)) (pc1 := 124) at_95_123 rfl rfl ?_
                      refine aw_iload (pc1 := 126) at_95_124 (am_lk2 (am_lk2 (am_lk2 l10 rfl rfl) rfl rfl) rfl rfl) rfl ?_
                      refine aw_isub (v := ((x3 - x9) - x10)) (pc1 := 127) at_95_126 rfl rfl ?_
                      refine aw_lload (pc1 := 129) at_95_127 (am_lk2 (am_lk2 (am_lk2 l7 rfl rfl) rfl rfl) rfl rfl) rfl ?_
                      refine aw_lload (pc1 := 131) at_95_129 (am_lk2 (am_lk2 am_lk02 rfl rfl) rfl rfl) rfl ?_
                      obtain ⟨z28, hs14⟩ := am_ift hs13
                      clear hs13
                      refine aw_lrem (v := (x7 - x7 / v3 * v3)) (pc1 := 132) at_95_131 z28 rfl rfl ?_
                      refine aw_iload (pc1 := 134) at_95_132 (am_lk2 (am_lk2 (am_lk2 l6 rfl rfl) rfl rfl) rfl rfl) rfl ?_
                      obtain ⟨z29, hs15⟩ := am_ift hs14
                      clear hs14
                      refine aw_call (F := rc_92 x0 x2 (((x3 - x9) - x10)) ((x7 - x7 / v3 * v3)) x6 h26) (t := true) (na := 5) (kd := 1) (as := [x0, (.int x2), (.int ((x3 - x9) - x10)), (.long (x7 - x7 / v3 * v3)), (.int x6)]) at_95_134 (am_k3v kb_92) mn_92 mk_92 rfl rfl (am_ok_v mi_92 (am_hl rfl (am_ccR i0 (am_ccI (am_ccI (am_ccL (am_ccI am_cats_0))))) rfl) z29) (am_hc am_cats_0 rfl) (fun _ => ⟨rfl, hh_95⟩) (fun o1 hz9 => qc_92 x0 x2 (((x3 - x9) - x10)) ((x7 - x7 / v3 * v3)) x6 h26 o1 i0 hz9) ?_
                      rcases am_cV_s hs15 with ⟨h31, f32, hs16⟩ | hs16
                      · clear hs15
                        refine Or.inl ⟨_, _, f32, ?_⟩
                        show am_W X _ 95 137 _ [] h31 _
                        cases hs16
                        exact aw_vret at_95_137 rt_95 rfl
                      · clear hs15
                        exact Or.inr hs16
                    · clear hs12
                      exact Or.inr hs13
                  · clear hs8
                    exact Or.inr hs9
          · clear hs5
            exact Or.inr hs6
        · clear hs3
          exact Or.inr hs4
      · clear hs1
        exact Or.inr hs2
def fg_95_7 (N : Nat) (rc_92 : Value → Int32 → Int32 → Int64 → Int32 → am_H → Option am_O) (rc_94 : Value → Int32 → Int32 → Int32 → Int64 → Int32 → am_H → Option am_O) (rc_95 : Value → Int32 → Int32 → Int32 → Int64 → Int32 → am_H → Option am_O) : Nat → Value → Int32 → Int32 → Int32 → Int32 → Int64 → Int32 → am_H → Option am_O
  | 0 => fun _ _ _ _ _ _ _ _ => none
  | K + 1 => fun x0 x1 x2 x3 x6 x7 x9 h => (if (x3 - 1) ≤ x9 then some (.inl (none, h)) else (fg_95_18 N rc_92 rc_94 rc_95 (fg_95_7 N rc_92 rc_94 rc_95 K) N x0 x1 x2 x3 x6 x7 x9 1 h))
theorem rg_95_7 {X : am_X} {d : Nat} {N : Nat} {rc_92 : Value → Int32 → Int32 → Int64 → Int32 → am_H → Option am_O} {rc_94 : Value → Int32 → Int32 → Int32 → Int64 → Int32 → am_H → Option am_O} {rc_95 : Value → Int32 → Int32 → Int32 → Int64 → Int32 → am_H → Option am_O} (qc_92 : ∀ (y0 : Value) (y1 : Int32) (y2 : Int32) (y3 : Int64) (y4 : Int32) (h : am_H) (o : am_O), (am_isR y0 = true) → rc_92 y0 y1 y2 y3 y4 h = some o → am_W X (d + 2) 92 0 (am_args 0 [y0, .int y1, .int y2, .long y3, .int y4]) [] h (fun q => q = o)) (qc_94 : ∀ (y0 : Value) (y1 : Int32) (y2 : Int32) (y3 : Int32) (y4 : Int64) (y5 : Int32) (h : am_H) (o : am_O), (am_isR y0 = true) → rc_94 y0 y1 y2 y3 y4 y5 h = some o → am_W X (d + 2) 94 0 (am_args 0 [y0, .int y1, .int y2, .int y3, .long y4, .int y5]) [] h (fun q => q = o)) (qc_95 : ∀ (y0 : Value) (y1 : Int32) (y2 : Int32) (y3 : Int32) (y4 : Int64) (y5 : Int32) (h : am_H) (o : am_O), (am_isR y0 = true) → rc_95 y0 y1 y2 y3 y4 y5 h = some o → am_W X (d + 2) 95 0 (am_args 0 [y0, .int y1, .int y2, .int y3, .long y4, .int y5]) [] h (fun q => q = o)) : ∀ (K : Nat) (x0 : Value) (x1 : Int32) (x2 : Int32) (x3 : Int32) (x6 : Int32) (x7 : Int64) (x9 : Int32) (h : am_H) (o : am_O), fg_95_7 N rc_92 rc_94 rc_95 K x0 x1 x2 x3 x6 x7 x9 h = some o → ∀ lv : am_LV, (lv.lookup 0 = some x0) → (lv.lookup 1 = some (.int x1)) → (lv.lookup 2 = some (.int x2)) → (lv.lookup 3 = some (.int x3)) → (lv.lookup 6 = some (.int x6)) → (lv.lookup 7 = some (.long x7)) → (lv.lookup 9 = some (.int x9)) → (am_isR x0 = true) → am_W X (d + 3) 95 7 lv [] h (fun q => q = o) := by
  intro K
  induction K with
  | zero => intro x0 x1 x2 x3 x6 x7 x9 h o hs; cases hs
  | succ K ih =>
    intro x0 x1 x2 x3 x6 x7 x9 h o hs lv l0 l1 l2 l3 l6 l7 l9 i0
    unfold fg_95_7 at hs
    refine aw_iload (pc1 := 9) at_95_7 l9 rfl ?_
    refine aw_iload_n (pc1 := 10) at_95_9 l3 rfl ?_
    refine aw_iconst (v := 1) (pc1 := 11) at_95_10 (by decide) rfl ?_
    refine aw_isub (v := (x3 - 1)) (pc1 := 12) at_95_11 rfl rfl ?_
    by_cases c1 : (x3 - 1) ≤ x9
    · rw [if_pos c1] at hs
      refine aw_icge_t at_95_12 c1 ?_
      cases hs
      exact aw_vret at_95_157 rt_95 rfl
    · rw [if_neg c1] at hs
      refine aw_icge_f (pc1 := 15) at_95_12 c1 rfl ?_
      refine aw_iconst (v := 1) (pc1 := 16) at_95_15 (by decide) rfl ?_
      refine aw_istore (lv1 := am_put1 _ 10 _) (pc1 := 18) at_95_16 rfl rfl ?_
      exact rg_95_18 (fun z0 z1 z2 z3 z4 z5 z6 h o hs => ih z0 z1 z2 z3 z4 z5 z6 h o hs) qc_92 qc_94 qc_95 N x0 x1 x2 x3 x6 x7 x9 1 h o hs _ (am_lk1 l0 rfl rfl) (am_lk1 l1 rfl rfl) (am_lk1 l2 rfl rfl) (am_lk1 l3 rfl rfl) (am_lk1 l6 rfl rfl) (am_lk1 l7 rfl rfl) (am_lk1 l9 rfl rfl) am_lk0 i0
def fg_95_0 (N : Nat) (rc_92 : Value → Int32 → Int32 → Int64 → Int32 → am_H → Option am_O) (rc_94 : Value → Int32 → Int32 → Int32 → Int64 → Int32 → am_H → Option am_O) (rc_95 : Value → Int32 → Int32 → Int32 → Int64 → Int32 → am_H → Option am_O) (x0 : Value) (x1 : Int32) (x2 : Int32) (x3 : Int32) (x4 : Int64) (x6 : Int32) (h : am_H) : Option am_O := (fg_95_7 N rc_92 rc_94 rc_95 N x0 x1 x2 x3 x6 x4 1 h)
theorem rg_95_0 {X : am_X} {d : Nat} {N : Nat} {rc_92 : Value → Int32 → Int32 → Int64 → Int32 → am_H → Option am_O} {rc_94 : Value → Int32 → Int32 → Int32 → Int64 → Int32 → am_H → Option am_O} {rc_95 : Value → Int32 → Int32 → Int32 → Int64 → Int32 → am_H → Option am_O} (qc_92 : ∀ (y0 : Value) (y1 : Int32) (y2 : Int32) (y3 : Int64) (y4 : Int32) (h : am_H) (o : am_O), (am_isR y0 = true) → rc_92 y0 y1 y2 y3 y4 h = some o → am_W X (d + 2) 92 0 (am_args 0 [y0, .int y1, .int y2, .long y3, .int y4]) [] h (fun q => q = o)) (qc_94 : ∀ (y0 : Value) (y1 : Int32) (y2 : Int32) (y3 : Int32) (y4 : Int64) (y5 : Int32) (h : am_H) (o : am_O), (am_isR y0 = true) → rc_94 y0 y1 y2 y3 y4 y5 h = some o → am_W X (d + 2) 94 0 (am_args 0 [y0, .int y1, .int y2, .int y3, .long y4, .int y5]) [] h (fun q => q = o)) (qc_95 : ∀ (y0 : Value) (y1 : Int32) (y2 : Int32) (y3 : Int32) (y4 : Int64) (y5 : Int32) (h : am_H) (o : am_O), (am_isR y0 = true) → rc_95 y0 y1 y2 y3 y4 y5 h = some o → am_W X (d + 2) 95 0 (am_args 0 [y0, .int y1, .int y2, .int y3, .long y4, .int y5]) [] h (fun q => q = o)) {lv : am_LV} (x0 : Value) (x1 : Int32) (x2 : Int32) (x3 : Int32) (x4 : Int64) (x6 : Int32) (h : am_H) (o : am_O) (l0 : lv.lookup 0 = some x0) (l1 : lv.lookup 1 = some (.int x1)) (l2 : lv.lookup 2 = some (.int x2)) (l3 : lv.lookup 3 = some (.int x3)) (l4 : lv.lookup 4 = some (.long x4)) (l6 : lv.lookup 6 = some (.int x6)) (i0 : am_isR x0 = true) (hs : fg_95_0 N rc_92 rc_94 rc_95 x0 x1 x2 x3 x4 x6 h = some o) : am_W X (d + 3) 95 0 lv [] h (fun q => q = o) := by
  unfold fg_95_0 at hs
  refine aw_lload (pc1 := 2) at_95_0 l4 rfl ?_
  refine aw_lstore (lv1 := am_put2 _ 7 _) (pc1 := 4) at_95_2 rfl rfl ?_
  refine aw_iconst (v := 1) (pc1 := 5) at_95_4 (by decide) rfl ?_
  refine aw_istore (lv1 := am_put1 _ 9 _) (pc1 := 7) at_95_5 rfl rfl ?_
  exact rg_95_7 qc_92 qc_94 qc_95 N x0 x1 x2 x3 x6 x4 1 h o hs _ (am_lk1 (am_lk2 l0 rfl rfl) rfl rfl) (am_lk1 (am_lk2 l1 rfl rfl) rfl rfl) (am_lk1 (am_lk2 l2 rfl rfl) rfl rfl) (am_lk1 (am_lk2 l3 rfl rfl) rfl rfl) (am_lk1 (am_lk2 l6 rfl rfl) rfl rfl) (am_lk1 am_lk02 rfl rfl) am_lk0 i0
def fo_95 (N : Nat) (rc_92 : Value → Int32 → Int32 → Int64 → Int32 → am_H → Option am_O) (rc_94 : Value → Int32 → Int32 → Int32 → Int64 → Int32 → am_H → Option am_O) (rc_95 : Value → Int32 → Int32 → Int32 → Int64 → Int32 → am_H → Option am_O) (y0 : Value) (y1 : Int32) (y2 : Int32) (y3 : Int32) (y4 : Int64) (y5 : Int32) (h : am_H) : Option am_O := fg_95_0 N rc_92 rc_94 rc_95 y0 y1 y2 y3 y4 y5 h
theorem ro_95 {X : am_X} {d : Nat} {N : Nat} {rc_92 : Value → Int32 → Int32 → Int64 → Int32 → am_H → Option am_O} {rc_94 : Value → Int32 → Int32 → Int32 → Int64 → Int32 → am_H → Option am_O} {rc_95 : Value → Int32 → Int32 → Int32 → Int64 → Int32 → am_H → Option am_O} (qc_92 : ∀ (y0 : Value) (y1 : Int32) (y2 : Int32) (y3 : Int64) (y4 : Int32) (h : am_H) (o : am_O), (am_isR y0 = true) → rc_92 y0 y1 y2 y3 y4 h = some o → am_W X (d + 2) 92 0 (am_args 0 [y0, .int y1, .int y2, .long y3, .int y4]) [] h (fun q => q = o)) (qc_94 : ∀ (y0 : Value) (y1 : Int32) (y2 : Int32) (y3 : Int32) (y4 : Int64) (y5 : Int32) (h : am_H) (o : am_O), (am_isR y0 = true) → rc_94 y0 y1 y2 y3 y4 y5 h = some o → am_W X (d + 2) 94 0 (am_args 0 [y0, .int y1, .int y2, .int y3, .long y4, .int y5]) [] h (fun q => q = o)) (qc_95 : ∀ (y0 : Value) (y1 : Int32) (y2 : Int32) (y3 : Int32) (y4 : Int64) (y5 : Int32) (h : am_H) (o : am_O), (am_isR y0 = true) → rc_95 y0 y1 y2 y3 y4 y5 h = some o → am_W X (d + 2) 95 0 (am_args 0 [y0, .int y1, .int y2, .int y3, .long y4, .int y5]) [] h (fun q => q = o)) (y0 : Value) (y1 : Int32) (y2 : Int32) (y3 : Int32) (y4 : Int64) (y5 : Int32) (h : am_H) (o : am_O) (i0 : am_isR y0 = true) (hs : fo_95 N rc_92 rc_94 rc_95 y0 y1 y2 y3 y4 y5 h = some o) : am_W X (d + 3) 95 0 (am_args 0 [y0, .int y1, .int y2, .int y3, .long y4, .int y5]) [] h (fun q => q = o) := by
  rw [am_args_R i0, am_args_I, am_args_I, am_args_I, am_args_L, am_args_I]
  exact rg_95_0 qc_92 qc_94 qc_95 y0 y1 y2 y3 y4 y5 h o rfl rfl rfl rfl rfl rfl i0 hs
def gr_92 (N : Nat) : Nat → Nat → List Value → am_H → Option am_O
  | 0 => fun _ _ _ => none
  | K + 1 => fun w as h => match w, as with
    | 92, [y0, .int y1, .int y2, .long y3, .int y4] => fo_92 N (fun y0 y1 y2 y3 y4 h => gr_92 N K 92 [y0, .int y1, .int y2, .long y3, .int y4] h) (fun y0 y1 y2 y3 y4 y5 h => gr_92 N K 94 [y0, .int y1, .int y2, .int y3, .long y4, .int y5] h) (fun y0 y1 y2 y3 y4 y5 h => gr_92 N K 95 [y0, .int y1, .int y2, .int y3, .long y4, .int y5] h) y0 y1 y2 y3 y4 h
    | 94, [y0, .int y1, .int y2, .int y3, .long y4, .int y5] => fo_94 N (fun y0 y1 y2 y3 y4 h => gr_92 N K 92 [y0, .int y1, .int y2, .long y3, .int y4] h) (fun y0 y1 y2 y3 y4 y5 h => gr_92 N K 94 [y0, .int y1, .int y2, .int y3, .long y4, .int y5] h) (fun y0 y1 y2 y3 y4 y5 h => gr_92 N K 95 [y0, .int y1, .int y2, .int y3, .long y4, .int y5] h) y0 y1 y2 y3 y4 y5 h
    | 95, [y0, .int y1, .int y2, .int y3, .long y4, .int y5] => fo_95 N (fun y0 y1 y2 y3 y4 h => gr_92 N K 92 [y0, .int y1, .int y2, .long y3, .int y4] h) (fun y0 y1 y2 y3 y4 y5 h => gr_92 N K 94 [y0, .int y1, .int y2, .int y3, .long y4, .int y5] h) (fun y0 y1 y2 y3 y4 y5 h => gr_92 N K 95 [y0, .int y1, .int y2, .int y3, .long y4, .int y5] h) y0 y1 y2 y3 y4 y5 h
    | _, _ => none
theorem gs_92 {X : am_X} {d N : Nat} : ∀ K : Nat, (∀ (y0 : Value) (y1 : Int32) (y2 : Int32) (y3 : Int64) (y4 : Int32) (h : am_H) (o : am_O), (am_isR y0 = true) → gr_92 N K 92 [y0, .int y1, .int y2, .long y3, .int y4] h = some o → am_W X (d + 3 * K) 92 0 (am_args 0 [y0, .int y1, .int y2, .long y3, .int y4]) [] h (fun q => q = o)) ∧ (∀ (y0 : Value) (y1 : Int32) (y2 : Int32) (y3 : Int32) (y4 : Int64) (y5 : Int32) (h : am_H) (o : am_O), (am_isR y0 = true) → gr_92 N K 94 [y0, .int y1, .int y2, .int y3, .long y4, .int y5] h = some o → am_W X (d + 3 * K) 94 0 (am_args 0 [y0, .int y1, .int y2, .int y3, .long y4, .int y5]) [] h (fun q => q = o)) ∧ (∀ (y0 : Value) (y1 : Int32) (y2 : Int32) (y3 : Int32) (y4 : Int64) (y5 : Int32) (h : am_H) (o : am_O), (am_isR y0 = true) → gr_92 N K 95 [y0, .int y1, .int y2, .int y3, .long y4, .int y5] h = some o → am_W X (d + 3 * K) 95 0 (am_args 0 [y0, .int y1, .int y2, .int y3, .long y4, .int y5]) [] h (fun q => q = o)) := by
  intro K
  induction K with
  | zero => exact ⟨fun _ _ _ _ _ h o _ hs => (by cases hs), fun _ _ _ _ _ _ h o _ hs => (by cases hs), fun _ _ _ _ _ _ h o _ hs => (by cases hs)⟩
  | succ K ih =>
    obtain ⟨q92, q94, q95⟩ := ih
    have up : d + 3 * K ≤ d + 3 * K + 2 := Nat.le_add_right _ _
    have eD : d + 3 * (K + 1) = d + 3 * K + 3 := by rw [Nat.mul_succ, Nat.add_assoc]
    rw [eD]
    refine ⟨?_, ?_, ?_⟩
    · intro y0 y1 y2 y3 y4 h o i0 hs
      exact ro_92 (fun w0 w1 w2 w3 w4 h o k0 hs => (q92 w0 w1 w2 w3 w4 h o k0 hs).up up) (fun w0 w1 w2 w3 w4 w5 h o k0 hs => (q94 w0 w1 w2 w3 w4 w5 h o k0 hs).up up) (fun w0 w1 w2 w3 w4 w5 h o k0 hs => (q95 w0 w1 w2 w3 w4 w5 h o k0 hs).up up) y0 y1 y2 y3 y4 h o i0 hs
    · intro y0 y1 y2 y3 y4 y5 h o i0 hs
      exact ro_94 (fun w0 w1 w2 w3 w4 h o k0 hs => (q92 w0 w1 w2 w3 w4 h o k0 hs).up up) (fun w0 w1 w2 w3 w4 w5 h o k0 hs => (q94 w0 w1 w2 w3 w4 w5 h o k0 hs).up up) (fun w0 w1 w2 w3 w4 w5 h o k0 hs => (q95 w0 w1 w2 w3 w4 w5 h o k0 hs).up up) y0 y1 y2 y3 y4 y5 h o i0 hs
    · intro y0 y1 y2 y3 y4 y5 h o i0 hs
      exact ro_95 (fun w0 w1 w2 w3 w4 h o k0 hs => (q92 w0 w1 w2 w3 w4 h o k0 hs).up up) (fun w0 w1 w2 w3 w4 w5 h o k0 hs => (q94 w0 w1 w2 w3 w4 w5 h o k0 hs).up up) (fun w0 w1 w2 w3 w4 w5 h o k0 hs => (q95 w0 w1 w2 w3 w4 w5 h o k0 hs).up up) y0 y1 y2 y3 y4 y5 h o i0 hs
def fm_92 (N : Nat) (y0 : Value) (y1 : Int32) (y2 : Int32) (y3 : Int64) (y4 : Int32) (h : am_H) : Option am_O := gr_92 N 40 92 [y0, .int y1, .int y2, .long y3, .int y4] h
theorem rm_92 {X : am_X} {d : Nat} {N : Nat} (y0 : Value) (y1 : Int32) (y2 : Int32) (y3 : Int64) (y4 : Int32) (h : am_H) (o : am_O) (i0 : am_isR y0 = true) (hs : fm_92 N y0 y1 y2 y3 y4 h = some o) : am_W X (d + 120) 92 0 (am_args 0 [y0, .int y1, .int y2, .long y3, .int y4]) [] h (fun q => q = o) := (gs_92 (X := X) (d := d) (N := N) 40).1 y0 y1 y2 y3 y4 h o i0 hs
def fm_94 (N : Nat) (y0 : Value) (y1 : Int32) (y2 : Int32) (y3 : Int32) (y4 : Int64) (y5 : Int32) (h : am_H) : Option am_O := gr_92 N 40 94 [y0, .int y1, .int y2, .int y3, .long y4, .int y5] h
theorem rm_94 {X : am_X} {d : Nat} {N : Nat} (y0 : Value) (y1 : Int32) (y2 : Int32) (y3 : Int32) (y4 : Int64) (y5 : Int32) (h : am_H) (o : am_O) (i0 : am_isR y0 = true) (hs : fm_94 N y0 y1 y2 y3 y4 y5 h = some o) : am_W X (d + 120) 94 0 (am_args 0 [y0, .int y1, .int y2, .int y3, .long y4, .int y5]) [] h (fun q => q = o) := (gs_92 (X := X) (d := d) (N := N) 40).2.1 y0 y1 y2 y3 y4 y5 h o i0 hs
def fm_95 (N : Nat) (y0 : Value) (y1 : Int32) (y2 : Int32) (y3 : Int32) (y4 : Int64) (y5 : Int32) (h : am_H) : Option am_O := gr_92 N 40 95 [y0, .int y1, .int y2, .int y3, .long y4, .int y5] h
theorem rm_95 {X : am_X} {d : Nat} {N : Nat} (y0 : Value) (y1 : Int32) (y2 : Int32) (y3 : Int32) (y4 : Int64) (y5 : Int32) (h : am_H) (o : am_O) (i0 : am_isR y0 = true) (hs : fm_95 N y0 y1 y2 y3 y4 y5 h = some o) : am_W X (d + 120) 95 0 (am_args 0 [y0, .int y1, .int y2, .int y3, .long y4, .int y5]) [] h (fun q => q = o) := (gs_92 (X := X) (d := d) (N := N) 40).2.2 y0 y1 y2 y3 y4 y5 h o i0 hs
def fg_91_0 (N : Nat) (x0 : Value) (x1 : Int32) (x2 : Int32) (x3 : Int64) (x5 : Value) (h : am_H) : Option am_O := ((am_pP 1027 x0 x5 h).bind fun h1 => ((am_vR (am_pG 1027 x0 h1)).bind fun v3 => (if am_pOk 3 v3 h1 then am_cV true (fm_34 v3 0 0 h1) (fun h7 => (if am_pOk 4 x0 h7 then am_cV true (fm_92 N x0 x1 x2 x3 1 h7) (fun h11 => some (.inl (none, h11))) else none)) else none)))
theorem rg_91_0 {X : am_X} {d : Nat} {N : Nat} {lv : am_LV} (x0 : Value) (x1 : Int32) (x2 : Int32) (x3 : Int64) (x5 : Value) (h : am_H) (o : am_O) (l0 : lv.lookup 0 = some x0) (l1 : lv.lookup 1 = some (.int x1)) (l2 : lv.lookup 2 = some (.int x2)) (l3 : lv.lookup 3 = some (.long x3)) (l5 : lv.lookup 5 = some x5) (i0 : am_isR x0 = true) (i5 : am_isR x5 = true) (hs : fg_91_0 N x0 x1 x2 x3 x5 h = some o) : am_W X (d + 121) 91 0 lv [] h (fun q => q = o) := by
  unfold fg_91_0 at hs
  refine aw_vload_n (pc1 := 1) at_91_0 l0 i0 rfl ?_
  refine aw_vload (pc1 := 3) at_91_1 l5 i5 rfl ?_
  obtain ⟨h1, e2, hs1⟩ := am_bind hs
  clear hs
  refine aw_pP (pc1 := 6) at_91_3 e2 rfl ?_
  refine aw_vload_n (pc1 := 7) at_91_6 l0 i0 rfl ?_
  obtain ⟨v3, e4, hs2⟩ := am_bind hs1
  clear hs1
  refine aw_pG (pc1 := 10) at_91_7 (am_vR_s e4).1 rfl ?_
  refine aw_iconst (v := 0) (pc1 := 11) at_91_10 (by decide) rfl ?_
  refine aw_iconst (v := 0) (pc1 := 12) at_91_11 (by decide) rfl ?_
  obtain ⟨z5, hs3⟩ := am_ift hs2
  clear hs2
  refine aw_call (F := fm_34 v3 0 0 h1) (t := true) (na := 3) (kd := 1) (as := [v3, (.int 0), (.int 0)]) at_91_12 (am_k3v kb_34) mn_34 mk_34 rfl rfl (am_ok_v mi_34 (am_hl rfl (am_ccR (am_vR_s e4).2 (am_ccI (am_ccI am_cats_0))) rfl) z5) (am_hc am_cats_0 rfl) (fun _ => ⟨rfl, hh_91⟩) (fun o1 hz9 => rm_34 v3 0 0 h1 o1 (am_vR_s e4).2 hz9) ?_
  rcases am_cV_s hs3 with ⟨h7, f8, hs4⟩ | hs4
  · clear hs3
    refine Or.inl ⟨_, _, f8, ?_⟩
    show am_W X _ 91 15 _ [] h7 _
    refine aw_vload_n (pc1 := 16) at_91_15 l0 i0 rfl ?_
    refine aw_iload_n (pc1 := 17) at_91_16 l1 rfl ?_
    refine aw_iload_n (pc1 := 18) at_91_17 l2 rfl ?_
    refine aw_lload_n (pc1 := 19) at_91_18 l3 rfl ?_
    refine aw_iconst (v := 1) (pc1 := 20) at_91_19 (by decide) rfl ?_
    obtain ⟨z9, hs5⟩ := am_ift hs4
    clear hs4
    refine aw_call (F := fm_92 N x0 x1 x2 x3 1 h7) (t := true) (na := 5) (kd := 1) (as := [x0, (.int x1), (.int x2), (.long x3), (.int 1)]) at_91_20 (am_k3v kb_92) mn_92 mk_92 rfl rfl (am_ok_v mi_92 (am_hl rfl (am_ccR i0 (am_ccI (am_ccI (am_ccL (am_ccI am_cats_0))))) rfl) z9) (am_hc am_cats_0 rfl) (fun _ => ⟨rfl, hh_91⟩) (fun o1 hz9 => rm_92 x0 x1 x2 x3 1 h7 o1 i0 hz9) ?_
    rcases am_cV_s hs5 with ⟨h11, f12, hs6⟩ | hs6
    · clear hs5
      refine Or.inl ⟨_, _, f12, ?_⟩
      show am_W X _ 91 23 _ [] h11 _
      cases hs6
      exact aw_vret at_91_23 rt_91 rfl
    · clear hs5
      exact Or.inr hs6
  · clear hs3
    exact Or.inr hs4
def fm_91 (N : Nat) (y0 : Value) (y1 : Int32) (y2 : Int32) (y3 : Int64) (y4 : Value) (h : am_H) : Option am_O := fg_91_0 N y0 y1 y2 y3 y4 h
theorem rm_91 {X : am_X} {d : Nat} {N : Nat} (y0 : Value) (y1 : Int32) (y2 : Int32) (y3 : Int64) (y4 : Value) (h : am_H) (o : am_O) (i0 : am_isR y0 = true) (i4 : am_isR y4 = true) (hs : fm_91 N y0 y1 y2 y3 y4 h = some o) : am_W X (d + 121) 91 0 (am_args 0 [y0, .int y1, .int y2, .long y3, y4]) [] h (fun q => q = o) := by
  rw [am_args_R i0, am_args_I, am_args_I, am_args_L, am_args_R i4]
  exact rg_91_0 y0 y1 y2 y3 y4 h o rfl rfl rfl rfl rfl i0 i4 hs
def fg_90_31 (N : Nat) (h : am_H) : Option am_O := some (.inr (0, h ++ [am_dummy]))
theorem rg_90_31 {X : am_X} {d : Nat} {N : Nat} {lv : am_LV} (h : am_H) (o : am_O) (hs : fg_90_31 N h = some o) : am_W X (d + 122) 90 31 lv [] h (fun q => q = o) := by
  unfold fg_90_31 at hs
  cases hs
  exact aw_throw at_90_31 rfl th_90_31 (am_hc am_cats_0 rfl) rfl
def fg_90_0 (N : Nat) (x0 : Value) (x1 : Int32) (x2 : Int64) (h : am_H) : Option am_O := (if x1 < 1 then (fg_90_31 N h) else (if 12 < x1 then (fg_90_31 N h) else (if (lg_cmp x2 0) < 0 then (fg_90_31 N h) else ((am_vR (am_pG 2822 x0 h)).bind fun v4 => (if am_pOk 4 v4 h then am_cL true (fm_15 v4 0 x1 h) (fun v7 h8 => (if (lg_cmp x2 v7) < 0 then (if am_pOk 11 x0 h8 then am_cV true (fm_32 x0 1 h8) (fun h13 => ((am_vR (am_pG 2822 x0 h13)).bind fun v15 => ((am_vR (am_pG 2831 x0 h13)).bind fun v17 => (if am_pOk 4 v15 h13 then am_cV true (fm_91 N v15 0 x1 x2 v17 h13) (fun h21 => ((am_vR (am_pG 2831 x0 h21)).bind fun v23 => (if am_pOk 11 x0 h21 then am_cI true (fm_59 x0 v23 1 ((-1)) ((-1)) ((-1)) ((-1)) 0 h21) (fun v26 h27 => some (.inl (some (.int v26), h27))) else none))) else none)))) else none) else (fg_90_31 N h8))) else none)))))
theorem rg_90_0 {X : am_X} {d : Nat} {N : Nat} {lv : am_LV} (x0 : Value) (x1 : Int32) (x2 : Int64) (h : am_H) (o : am_O) (l0 : lv.lookup 0 = some x0) (l1 : lv.lookup 1 = some (.int x1)) (l2 : lv.lookup 2 = some (.long x2)) (i0 : am_isR x0 = true) (hs : fg_90_0 N x0 x1 x2 h = some o) : am_W X (d + 122) 90 0 lv [] h (fun q => q = o) := by
  unfold fg_90_0 at hs
  refine aw_iload_n (pc1 := 1) at_90_0 l1 rfl ?_
  refine aw_iconst (v := 1) (pc1 := 2) at_90_1 (by decide) rfl ?_
  by_cases c1 : x1 < 1
  · rw [if_pos c1] at hs
    refine aw_iclt_t at_90_2 c1 ?_
    exact rg_90_31 h o   hs
  · rw [if_neg c1] at hs
    refine aw_iclt_f (pc1 := 5) at_90_2 c1 rfl ?_
    refine aw_iload_n (pc1 := 6) at_90_5 l1 rfl ?_
    refine aw_bipush (v := 12) (pc1 := 8) at_90_6 (by decide) rfl ?_
    by_cases c2 : 12 < x1
    · rw [if_pos c2] at hs
      refine aw_icgt_t at_90_8 c2 ?_
      exact rg_90_31 h o   hs
    · rw [if_neg c2] at hs
      refine aw_icgt_f (pc1 := 11) at_90_8 c2 rfl ?_
      refine aw_lload_n (pc1 := 12) at_90_11 l2 rfl ?_
      refine aw_lconst (v := 0) (pc1 := 13) at_90_12 (by decide) rfl ?_
      refine aw_lcmp (v := (lg_cmp x2 0)) (pc1 := 14) at_90_13 rfl rfl ?_
      by_cases c3 : (lg_cmp x2 0) < 0
      · rw [if_pos c3] at hs
        refine aw_iflt_t at_90_14 c3 ?_
        exact rg_90_31 h o   hs
      · rw [if_neg c3] at hs
        refine aw_iflt_f (pc1 := 17) at_90_14 c3 rfl ?_
        refine aw_lload_n (pc1 := 18) at_90_17 l2 rfl ?_
        refine aw_vload_n (pc1 := 19) at_90_18 l0 i0 rfl ?_
        obtain ⟨v4, e5, hs1⟩ := am_bind hs
        clear hs
        refine aw_pG (pc1 := 22) at_90_19 (am_vR_s e5).1 rfl ?_
        refine aw_iconst (v := 0) (pc1 := 23) at_90_22 (by decide) rfl ?_
        refine aw_iload_n (pc1 := 24) at_90_23 l1 rfl ?_
        obtain ⟨z6, hs2⟩ := am_ift hs1
        clear hs1
        refine aw_call (F := fm_15 v4 0 x1 h) (t := true) (na := 3) (kd := 1) (as := [v4, (.int 0), (.int x1)]) at_90_24 (am_k3v kb_15) mn_15 mk_15 rfl rfl (am_ok_v mi_15 (am_hl rfl (am_ccR (am_vR_s e5).2 (am_ccI (am_ccI am_cats_0))) rfl) z6) (am_hc (am_ccL am_cats_0) rfl) (fun _ => ⟨rfl, hh_90⟩) (fun o1 hz9 => rm_15 v4 0 x1 h o1 (am_vR_s e5).2 hz9) ?_
        rcases am_cL_s hs2 with ⟨v7, h8, f9, hs3⟩ | hs3
        · clear hs2
          refine Or.inl ⟨_, _, f9, ?_⟩
          show am_W X _ 90 27 _ [(.long v7), (.long x2)] h8 _
          refine aw_lcmp (v := (lg_cmp x2 v7)) (pc1 := 28) at_90_27 rfl rfl ?_
          by_cases c10 : (lg_cmp x2 v7) < 0
          · rw [if_pos c10] at hs3
            refine aw_iflt_t at_90_28 c10 ?_
            refine aw_vload_n (pc1 := 42) at_90_41 l0 i0 rfl ?_
            refine aw_iconst (v := 1) (pc1 := 43) at_90_42 (by decide) rfl ?_
            obtain ⟨z11, hs4⟩ := am_ift hs3
            clear hs3
            refine aw_call (F := fm_32 x0 1 h8) (t := true) (na := 2) (kd := 1) (as := [x0, (.int 1)]) at_90_43 (am_k3v kb_32) mn_32 mk_32 rfl rfl (am_ok_v mi_32 (am_hl rfl (am_ccR i0 (am_ccI am_cats_0)) rfl) z11) (am_hc am_cats_0 rfl) (fun _ => ⟨rfl, hh_90⟩) (fun o1 hz9 => rm_32 x0 1 h8 o1 i0 hz9) ?_
            rcases am_cV_s hs4 with ⟨h13, f14, hs5⟩ | hs5
            · clear hs4
              refine Or.inl ⟨_, _, f14, ?_⟩
              show am_W X _ 90 46 _ [] h13 _
              refine aw_vload_n (pc1 := 47) at_90_46 l0 i0 rfl ?_
              obtain ⟨v15, e16, hs6⟩ := am_bind hs5
              clear hs5
              refine aw_pG (pc1 := 50) at_90_47 (am_vR_s e16).1 rfl ?_
              refine aw_iconst (v := 0) (pc1 := 51) at_90_50 (by decide) rfl ?_
              refine aw_iload_n (pc1 := 52) at_90_51 l1 rfl ?_
              refine aw_lload_n (pc1 := 53) at_90_52 l2 rfl ?_
              refine aw_vload_n (pc1 := 54) at_90_53 l0 i0 rfl ?_
              obtain ⟨v17, e18, hs7⟩ := am_bind hs6
              clear hs6
              refine aw_pG (pc1 := 57) at_90_54 (am_vR_s e18).1 rfl ?_
              obtain ⟨z19, hs8⟩ := am_ift hs7
              clear hs7
              refine aw_call (F := fm_91 N v15 0 x1 x2 v17 h13) (t := true) (na := 5) (kd := 1) (as := [v15, (.int 0), (.int x1), (.long x2), v17]) at_90_57 (am_k3v kb_91) mn_91 mk_91 rfl rfl (am_ok_v mi_91 (am_hl rfl (am_ccR (am_vR_s e16).2 (am_ccI (am_ccI (am_ccL (am_ccR (am_vR_s e18).2 am_cats_0))))) rfl) z19) (am_hc am_cats_0 rfl) (fun _ => ⟨rfl, hh_90⟩) (fun o1 hz9 => rm_91 v15 0 x1 x2 v17 h13 o1 (am_vR_s e16).2 (am_vR_s e18).2 hz9) ?_
              rcases am_cV_s hs8 with ⟨h21, f22, hs9⟩ | hs9
              · clear hs8
                refine Or.inl ⟨_, _, f22, ?_⟩
                show am_W X _ 90 60 _ [] h21 _
                refine aw_vload_n (pc1 := 61) at_90_60 l0 i0 rfl ?_
                refine aw_vload_n (pc1 := 62) at_90_61 l0 i0 rfl ?_
                obtain ⟨v23, e24, hs10⟩ := am_bind hs9
                clear hs9
                refine aw_pG (pc1 := 65) at_90_62 (am_vR_s e24).1 rfl ?_
                refine aw_iconst (v := 1) (pc1 := 66) at_90_65 (by decide) rfl ?_
                refine aw_iconst (v := (-1)) (pc1 := 67) at_90_66 (by decide) rfl ?_
                refine aw_iconst (v := (-1)) (pc1 := 68) at_90_67 (by decide) rfl ?_
                refine aw_iconst (v := (-1)) (pc1 := 69) at_90_68 (by decide) rfl ?_
                refine aw_iconst (v := (-1)) (pc1 := 70) at_90_69 (by decide) rfl ?_
                refine aw_lconst (v := 0) (pc1 := 71) at_90_70 (by decide) rfl ?_
                obtain ⟨z25, hs11⟩ := am_ift hs10
                clear hs10
                refine aw_call (F := fm_59 x0 v23 1 ((-1)) ((-1)) ((-1)) ((-1)) 0 h21) (t := true) (na := 8) (kd := 1) (as := [x0, v23, (.int 1), (.int (-1)), (.int (-1)), (.int (-1)), (.int (-1)), (.long 0)]) at_90_71 (am_k3v kb_59) mn_59 mk_59 rfl rfl (am_ok_v mi_59 (am_hl rfl (am_ccR i0 (am_ccR (am_vR_s e24).2 (am_ccI (am_ccI (am_ccI (am_ccI (am_ccI (am_ccL am_cats_0)))))))) rfl) z25) (am_hc am_cats_0 rfl) (fun _ => ⟨rfl, hh_90⟩) (fun o1 hz9 => rm_59 x0 v23 1 ((-1)) ((-1)) ((-1)) ((-1)) 0 h21 o1 i0 (am_vR_s e24).2 hz9) ?_
                rcases am_cI_s hs11 with ⟨v26, h27, f28, hs12⟩ | hs12
                · clear hs11
                  refine Or.inl ⟨_, _, f28, ?_⟩
                  show am_W X _ 90 74 _ [(.int v26)] h27 _
                  cases hs12
                  exact aw_iret at_90_74 (by rw [rt_90]; rfl) rfl
                · clear hs11
                  exact Or.inr hs12
              · clear hs8
                exact Or.inr hs9
            · clear hs4
              exact Or.inr hs5
          · rw [if_neg c10] at hs3
            refine aw_iflt_f (pc1 := 31) at_90_28 c10 rfl ?_
            exact rg_90_31 h8 o   hs3
        · clear hs2
          exact Or.inr hs3
def fm_90 (N : Nat) (y0 : Value) (y1 : Int32) (y2 : Int64) (h : am_H) : Option am_O := fg_90_0 N y0 y1 y2 h
theorem rm_90 {X : am_X} {d : Nat} {N : Nat} (y0 : Value) (y1 : Int32) (y2 : Int64) (h : am_H) (o : am_O) (i0 : am_isR y0 = true) (hs : fm_90 N y0 y1 y2 h = some o) : am_W X (d + 122) 90 0 (am_args 0 [y0, .int y1, .long y2]) [] h (fun q => q = o) := by
  rw [am_args_R i0, am_args_I, am_args_L]
  exact rg_90_0 y0 y1 y2 h o rfl rfl rfl i0 hs
def fg_89_20 (N : Nat) (h : am_H) : Option am_O := some (.inl (some (.int 2), h))
theorem rg_89_20 {X : am_X} {d : Nat} {N : Nat} {lv : am_LV} (h : am_H) (o : am_O) (hs : fg_89_20 N h = some o) : am_W X (d + 123) 89 20 lv [] h (fun q => q = o) := by
  unfold fg_89_20 at hs
  refine aw_iconst (v := 2) (pc1 := 21) at_89_20 (by decide) rfl ?_
  cases hs
  exact aw_iret at_89_21 (by rw [rt_89]; rfl) rfl
def fg_89_16 (N : Nat) (h : am_H) : Option am_O := some (.inl (some (.int 1), h))
theorem rg_89_16 {X : am_X} {d : Nat} {N : Nat} {lv : am_LV} (h : am_H) (o : am_O) (hs : fg_89_16 N h = some o) : am_W X (d + 123) 89 16 lv [] h (fun q => q = o) := by
  unfold fg_89_16 at hs
  refine aw_iconst (v := 1) (pc1 := 17) at_89_16 (by decide) rfl ?_
  cases hs
  exact aw_iret at_89_17 (by rw [rt_89]; rfl) rfl
def fg_89_0 (N : Nat) (x0 : Value) (x1 : Int32) (x2 : Int64) (x4 : Value) (h : am_H) : Option am_O := (if am_pOk 11 x0 h then (match fm_90 N x0 x1 x2 h with | some (.inl (some (.int v2), h3)) => ((am_pSL x4 0 (Int32.toInt64 v2) h3).bind fun h5 => some (.inl (some (.int 0), h5))) | some (.inr (0, h7)) => (fg_89_16 N h7) | some (.inr (1, h9)) => (fg_89_20 N h9) | _ => none) else none)
theorem rg_89_0 {X : am_X} {d : Nat} {N : Nat} {lv : am_LV} (x0 : Value) (x1 : Int32) (x2 : Int64) (x4 : Value) (h : am_H) (o : am_O) (l0 : lv.lookup 0 = some x0) (l1 : lv.lookup 1 = some (.int x1)) (l2 : lv.lookup 2 = some (.long x2)) (l4 : lv.lookup 4 = some x4) (i0 : am_isR x0 = true) (i4 : am_isR x4 = true) (hs : fg_89_0 N x0 x1 x2 x4 h = some o) : am_W X (d + 123) 89 0 lv [] h (fun q => q = o) := by
  unfold fg_89_0 at hs
  refine aw_vload (pc1 := 2) at_89_0 l4 i4 rfl ?_
  refine aw_iconst (v := 0) (pc1 := 3) at_89_2 (by decide) rfl ?_
  refine aw_vload_n (pc1 := 4) at_89_3 l0 i0 rfl ?_
  refine aw_iload_n (pc1 := 5) at_89_4 l1 rfl ?_
  refine aw_lload_n (pc1 := 6) at_89_5 l2 rfl ?_
  obtain ⟨z1, hs1⟩ := am_ift hs
  clear hs
  refine aw_callH (F := fm_90 N x0 x1 x2 h) (na := 3) (kd := 1) (as := [x0, (.int x1), (.long x2)]) at_89_6 (am_k3v kb_90) mn_90 mk_90 rfl rfl (am_ok_v mi_90 (am_hl rfl (am_ccR i0 (am_ccI (am_ccL am_cats_0))) rfl) z1) (am_hc (am_ccI (am_ccR i4 am_cats_0)) rfl) (fun o1 hz9 => rm_90 x0 x1 x2 h o1 i0 hz9) ?_
  split at hs1
  · rename_i v2 h3 f4
    refine Or.inl ⟨_, _, f4, ?_⟩
    show am_W X _ 89 9 _ [(.int v2), (.int 0), x4] h3 _
    refine aw_i2l (v := (Int32.toInt64 v2)) (pc1 := 10) at_89_9 rfl rfl ?_
    obtain ⟨h5, e6, hs2⟩ := am_bind hs1
    clear hs1
    refine aw_pSL (pc1 := 11) at_89_10 e6 rfl ?_
    refine aw_goto at_89_11 ?_
    refine aw_iconst (v := 0) (pc1 := 23) at_89_22 (by decide) rfl ?_
    cases hs2
    exact aw_iret at_89_23 (by rw [rt_89]; rfl) rfl
  · rename_i h7 f8
    refine Or.inr ⟨_, _, 16, 5, f8, rfl, hn_89, hd_89_6_0, ?_⟩
    exact rg_89_16 h7 o   hs1
  · rename_i h9 f10
    refine Or.inr ⟨_, _, 20, 5, f10, rfl, hn_89, hd_89_6_1, ?_⟩
    exact rg_89_20 h9 o   hs1
  · cases hs1
def fm_89 (N : Nat) (y0 : Value) (y1 : Int32) (y2 : Int64) (y3 : Value) (h : am_H) : Option am_O := fg_89_0 N y0 y1 y2 y3 h
theorem rm_89 {X : am_X} {d : Nat} {N : Nat} (y0 : Value) (y1 : Int32) (y2 : Int64) (y3 : Value) (h : am_H) (o : am_O) (i0 : am_isR y0 = true) (i3 : am_isR y3 = true) (hs : fm_89 N y0 y1 y2 y3 h = some o) : am_W X (d + 123) 89 0 (am_args 0 [y0, .int y1, .long y2, y3]) [] h (fun q => q = o) := by
  rw [am_args_R i0, am_args_I, am_args_L, am_args_R i3]
  exact rg_89_0 y0 y1 y2 y3 h o rfl rfl rfl rfl i0 i3 hs
def fg_387_0 (x0 : Value) (x1 : Int32) (x2 : Int32) (x3 : Int32) (x4 : Int64) (h : am_H) : Option am_O := ((am_vR (am_pG 3156 x0 h)).bind fun v1 => ((am_vI (am_pG 3160 x0 h)).bind fun v3 => ((am_pS 0 v1 v3 x1 h).bind fun h5 => ((am_vR (am_pG 3157 x0 h5)).bind fun v7 => ((am_vI (am_pG 3160 x0 h5)).bind fun v9 => ((am_pS 0 v7 v9 x2 h5).bind fun h11 => ((am_vR (am_pG 3158 x0 h11)).bind fun v13 => ((am_vI (am_pG 3160 x0 h11)).bind fun v15 => ((am_pS 0 v13 v15 x3 h11).bind fun h17 => ((am_vR (am_pG 3159 x0 h17)).bind fun v19 => ((am_vI (am_pG 3160 x0 h17)).bind fun v21 => ((am_pSL v19 v21 x4 h17).bind fun h23 => ((am_vI (am_pG 3160 x0 h23)).bind fun v25 => ((am_pP 3160 x0 (.int (v25 + 1)) h23).bind fun h27 => some (.inl (none, h27))))))))))))))))
theorem rg_387_0 {X : am_X} {d : Nat} {lv : am_LV} (x0 : Value) (x1 : Int32) (x2 : Int32) (x3 : Int32) (x4 : Int64) (h : am_H) (o : am_O) (l0 : lv.lookup 0 = some x0) (l1 : lv.lookup 1 = some (.int x1)) (l2 : lv.lookup 2 = some (.int x2)) (l3 : lv.lookup 3 = some (.int x3)) (l4 : lv.lookup 4 = some (.long x4)) (i0 : am_isR x0 = true) (hs : fg_387_0 x0 x1 x2 x3 x4 h = some o) : am_W X (d) 387 0 lv [] h (fun q => q = o) := by
  unfold fg_387_0 at hs
  refine aw_vload_n (pc1 := 1) at_387_0 l0 i0 rfl ?_
  obtain ⟨v1, e2, hs1⟩ := am_bind hs
  clear hs
  refine aw_pG (pc1 := 4) at_387_1 (am_vR_s e2).1 rfl ?_
  refine aw_vload_n (pc1 := 5) at_387_4 l0 i0 rfl ?_
  obtain ⟨v3, e4, hs2⟩ := am_bind hs1
  clear hs1
  refine aw_pG (pc1 := 8) at_387_5 (am_vI_s e4) rfl ?_
  refine aw_iload_n (pc1 := 9) at_387_8 l1 rfl ?_
  obtain ⟨h5, e6, hs3⟩ := am_bind hs2
  clear hs2
  refine aw_pS (pc1 := 10) at_387_9 (Or.inl ⟨rfl, rfl⟩) e6 rfl ?_
  refine aw_vload_n (pc1 := 11) at_387_10 l0 i0 rfl ?_
  obtain ⟨v7, e8, hs4⟩ := am_bind hs3
  clear hs3
  refine aw_pG (pc1 := 14) at_387_11 (am_vR_s e8).1 rfl ?_
  refine aw_vload_n (pc1 := 15) at_387_14 l0 i0 rfl ?_
  obtain ⟨v9, e10, hs5⟩ := am_bind hs4
  clear hs4
  refine aw_pG (pc1 := 18) at_387_15 (am_vI_s e10) rfl ?_
  refine aw_iload_n (pc1 := 19) at_387_18 l2 rfl ?_
  obtain ⟨h11, e12, hs6⟩ := am_bind hs5
  clear hs5
  refine aw_pS (pc1 := 20) at_387_19 (Or.inl ⟨rfl, rfl⟩) e12 rfl ?_
  refine aw_vload_n (pc1 := 21) at_387_20 l0 i0 rfl ?_
  obtain ⟨v13, e14, hs7⟩ := am_bind hs6
  clear hs6
  refine aw_pG (pc1 := 24) at_387_21 (am_vR_s e14).1 rfl ?_
  refine aw_vload_n (pc1 := 25) at_387_24 l0 i0 rfl ?_
  obtain ⟨v15, e16, hs8⟩ := am_bind hs7
  clear hs7
  refine aw_pG (pc1 := 28) at_387_25 (am_vI_s e16) rfl ?_
  refine aw_iload_n (pc1 := 29) at_387_28 l3 rfl ?_
  obtain ⟨h17, e18, hs9⟩ := am_bind hs8
  clear hs8
  refine aw_pS (pc1 := 30) at_387_29 (Or.inl ⟨rfl, rfl⟩) e18 rfl ?_
  refine aw_vload_n (pc1 := 31) at_387_30 l0 i0 rfl ?_
  obtain ⟨v19, e20, hs10⟩ := am_bind hs9
  clear hs9
  refine aw_pG (pc1 := 34) at_387_31 (am_vR_s e20).1 rfl ?_
  refine aw_vload_n (pc1 := 35) at_387_34 l0 i0 rfl ?_
  obtain ⟨v21, e22, hs11⟩ := am_bind hs10
  clear hs10
  refine aw_pG (pc1 := 38) at_387_35 (am_vI_s e22) rfl ?_
  refine aw_lload (pc1 := 40) at_387_38 l4 rfl ?_
  obtain ⟨h23, e24, hs12⟩ := am_bind hs11
  clear hs11
  refine aw_pSL (pc1 := 41) at_387_40 e24 rfl ?_
  refine aw_vload_n (pc1 := 42) at_387_41 l0 i0 rfl ?_
  refine aw_vdup (pc1 := 43) at_387_42 i0 rfl ?_
  obtain ⟨v25, e26, hs13⟩ := am_bind hs12
  clear hs12
  refine aw_pG (pc1 := 46) at_387_43 (am_vI_s e26) rfl ?_
  refine aw_iconst (v := 1) (pc1 := 47) at_387_46 (by decide) rfl ?_
  refine aw_iadd (v := (v25 + 1)) (pc1 := 48) at_387_47 rfl rfl ?_
  obtain ⟨h27, e28, hs14⟩ := am_bind hs13
  clear hs13
  refine aw_pP (pc1 := 51) at_387_48 e28 rfl ?_
  cases hs14
  exact aw_vret at_387_51 rt_387 rfl
def fm_387 (y0 : Value) (y1 : Int32) (y2 : Int32) (y3 : Int32) (y4 : Int64) (h : am_H) : Option am_O := fg_387_0 y0 y1 y2 y3 y4 h
theorem rm_387 {X : am_X} {d : Nat} (y0 : Value) (y1 : Int32) (y2 : Int32) (y3 : Int32) (y4 : Int64) (h : am_H) (o : am_O) (i0 : am_isR y0 = true) (hs : fm_387 y0 y1 y2 y3 y4 h = some o) : am_W X (d) 387 0 (am_args 0 [y0, .int y1, .int y2, .int y3, .long y4]) [] h (fun q => q = o) := by
  rw [am_args_R i0, am_args_I, am_args_I, am_args_I, am_args_L]
  exact rg_387_0 y0 y1 y2 y3 y4 h o rfl rfl rfl rfl rfl i0 hs
def fg_389_124 (x0 : Value) (x1 : Int32) (x2 : Int32) (x4 : Int32) (x6 : Int64) (x10 : Int64) (x12 : Int64) (h : am_H) : Option am_O := am_cI false (fm_381 x1 x2 0 h) (fun v1 h2 => am_cI false (fm_382 x2 0 h2) (fun v4 h5 => (if (x10 : Int64) ≠ 0 then (if (x12 : Int64) ≠ 0 then (if am_pOk 12 x0 h5 then am_cV true (fm_387 x0 v1 v4 x4 (((x6 / x10) / x12)) h5) (fun h11 => some (.inl (none, h11))) else none) else none) else none)))
theorem rg_389_124 {X : am_X} {d : Nat} {lv : am_LV} (x0 : Value) (x1 : Int32) (x2 : Int32) (x4 : Int32) (x6 : Int64) (x10 : Int64) (x12 : Int64) (h : am_H) (o : am_O) (l0 : lv.lookup 0 = some x0) (l1 : lv.lookup 1 = some (.int x1)) (l2 : lv.lookup 2 = some (.int x2)) (l4 : lv.lookup 4 = some (.int x4)) (l6 : lv.lookup 6 = some (.long x6)) (l10 : lv.lookup 10 = some (.long x10)) (l12 : lv.lookup 12 = some (.long x12)) (i0 : am_isR x0 = true) (hs : fg_389_124 x0 x1 x2 x4 x6 x10 x12 h = some o) : am_W X (d + 2) 389 124 lv [] h (fun q => q = o) := by
  unfold fg_389_124 at hs
  refine aw_vload_n (pc1 := 125) at_389_124 l0 i0 rfl ?_
  refine aw_iload_n (pc1 := 126) at_389_125 l1 rfl ?_
  refine aw_iload_n (pc1 := 127) at_389_126 l2 rfl ?_
  refine aw_iconst (v := 0) (pc1 := 128) at_389_127 (by decide) rfl ?_
  refine aw_call (F := fm_381 x1 x2 0 h) (t := false) (na := 3) (kd := 0) (as := [(.int x1), (.int x2), (.int 0)]) at_389_128 (am_k3s kb_381) mn_381 mk_381 rfl rfl (am_ok_s mi_381 (am_hl rfl (am_ccI (am_ccI (am_ccI am_cats_0))) rfl)) (am_hc (am_ccR i0 am_cats_0) rfl) (fun hz9 => by cases hz9) (fun o1 hz9 => rm_381 x1 x2 0 h o1  hz9) ?_
  rcases am_cI_s hs with ⟨v1, h2, f3, hs1⟩ | hs1
  · clear hs
    refine Or.inl ⟨_, _, f3, ?_⟩
    show am_W X _ 389 131 _ [(.int v1), x0] h2 _
    refine aw_iload_n (pc1 := 132) at_389_131 l2 rfl ?_
    refine aw_iconst (v := 0) (pc1 := 133) at_389_132 (by decide) rfl ?_
    refine aw_call (F := fm_382 x2 0 h2) (t := false) (na := 2) (kd := 0) (as := [(.int x2), (.int 0)]) at_389_133 (am_k3s kb_382) mn_382 mk_382 rfl rfl (am_ok_s mi_382 (am_hl rfl (am_ccI (am_ccI am_cats_0)) rfl)) (am_hc (am_ccI (am_ccR i0 am_cats_0)) rfl) (fun hz9 => by cases hz9) (fun o1 hz9 => rm_382 x2 0 h2 o1  hz9) ?_
    rcases am_cI_s hs1 with ⟨v4, h5, f6, hs2⟩ | hs2
    · clear hs1
      refine Or.inl ⟨_, _, f6, ?_⟩
      show am_W X _ 389 136 _ [(.int v4), (.int v1), x0] h5 _
      refine aw_iload (pc1 := 138) at_389_136 l4 rfl ?_
      refine aw_lload (pc1 := 140) at_389_138 l6 rfl ?_
      refine aw_lload (pc1 := 142) at_389_140 l10 rfl ?_
      obtain ⟨z7, hs3⟩ := am_ift hs2
      clear hs2
      refine aw_ldiv (v := (x6 / x10)) (pc1 := 143) at_389_142 z7 rfl rfl ?_
      refine aw_lload (pc1 := 145) at_389_143 l12 rfl ?_
      obtain ⟨z8, hs4⟩ := am_ift hs3
      clear hs3
      refine aw_ldiv (v := ((x6 / x10) / x12)) (pc1 := 146) at_389_145 z8 rfl rfl ?_
      obtain ⟨z9, hs5⟩ := am_ift hs4
      clear hs4
      refine aw_call (F := fm_387 x0 v1 v4 x4 (((x6 / x10) / x12)) h5) (t := true) (na := 5) (kd := 1) (as := [x0, (.int v1), (.int v4), (.int x4), (.long ((x6 / x10) / x12))]) at_389_146 (am_k3v kb_387) mn_387 mk_387 rfl rfl (am_ok_v mi_387 (am_hl rfl (am_ccR i0 (am_ccI (am_ccI (am_ccI (am_ccL am_cats_0))))) rfl) z9) (am_hc am_cats_0 rfl) (fun _ => ⟨rfl, hh_389⟩) (fun o1 hz9 => rm_387 x0 v1 v4 x4 (((x6 / x10) / x12)) h5 o1 i0 hz9) ?_
      rcases am_cV_s hs5 with ⟨h11, f12, hs6⟩ | hs6
      · clear hs5
        refine Or.inl ⟨_, _, f12, ?_⟩
        show am_W X _ 389 149 _ [] h11 _
        cases hs6
        exact aw_vret at_389_149 rt_389 rfl
      · clear hs5
        exact Or.inr hs6
    · clear hs1
      exact Or.inr hs2
  · clear hs
    exact Or.inr hs1
def fg_389_93 (x0 : Value) (x1 : Int32) (x2 : Int32) (x4 : Int32) (x5 : Int32) (x6 : Int64) (x8 : Int32) (x10 : Int64) (x12 : Int64) (h : am_H) : Option am_O := (if x8 ≤ 1 then (fg_389_124 x0 x1 x2 x4 x6 x10 x12 h) else am_cI false (fm_381 x1 x2 1 h) (fun v2 h3 => am_cI false (fm_382 x2 1 h3) (fun v5 h6 => (if (x10 : Int64) ≠ 0 then (if (x12 : Int64) ≠ 0 then (if am_pOk 12 x0 h6 then am_cV true (fm_387 x0 v2 v5 x5 (((x6 / x10) - (x6 / x10) / x12 * x12)) h6) (fun h12 => (fg_389_124 x0 x1 x2 x4 x6 x10 x12 h12)) else none) else none) else none))))
theorem rg_389_93 {X : am_X} {d : Nat} {lv : am_LV} (x0 : Value) (x1 : Int32) (x2 : Int32) (x4 : Int32) (x5 : Int32) (x6 : Int64) (x8 : Int32) (x10 : Int64) (x12 : Int64) (h : am_H) (o : am_O) (l0 : lv.lookup 0 = some x0) (l1 : lv.lookup 1 = some (.int x1)) (l2 : lv.lookup 2 = some (.int x2)) (l4 : lv.lookup 4 = some (.int x4)) (l5 : lv.lookup 5 = some (.int x5)) (l6 : lv.lookup 6 = some (.long x6)) (l8 : lv.lookup 8 = some (.int x8)) (l10 : lv.lookup 10 = some (.long x10)) (l12 : lv.lookup 12 = some (.long x12)) (i0 : am_isR x0 = true) (hs : fg_389_93 x0 x1 x2 x4 x5 x6 x8 x10 x12 h = some o) : am_W X (d + 2) 389 93 lv [] h (fun q => q = o) := by
  unfold fg_389_93 at hs
  refine aw_iload (pc1 := 95) at_389_93 l8 rfl ?_
  refine aw_iconst (v := 1) (pc1 := 96) at_389_95 (by decide) rfl ?_
  by_cases c1 : x8 ≤ 1
  · rw [if_pos c1] at hs
    refine aw_icle_t at_389_96 c1 ?_
    exact rg_389_124 x0 x1 x2 x4 x6 x10 x12 h o l0 l1 l2 l4 l6 l10 l12 i0 hs
  · rw [if_neg c1] at hs
    refine aw_icle_f (pc1 := 99) at_389_96 c1 rfl ?_
    refine aw_vload_n (pc1 := 100) at_389_99 l0 i0 rfl ?_
    refine aw_iload_n (pc1 := 101) at_389_100 l1 rfl ?_
    refine aw_iload_n (pc1 := 102) at_389_101 l2 rfl ?_
    refine aw_iconst (v := 1) (pc1 := 103) at_389_102 (by decide) rfl ?_
    refine aw_call (F := fm_381 x1 x2 1 h) (t := false) (na := 3) (kd := 0) (as := [(.int x1), (.int x2), (.int 1)]) at_389_103 (am_k3s kb_381) mn_381 mk_381 rfl rfl (am_ok_s mi_381 (am_hl rfl (am_ccI (am_ccI (am_ccI am_cats_0))) rfl)) (am_hc (am_ccR i0 am_cats_0) rfl) (fun hz9 => by cases hz9) (fun o1 hz9 => rm_381 x1 x2 1 h o1  hz9) ?_
    rcases am_cI_s hs with ⟨v2, h3, f4, hs1⟩ | hs1
    · clear hs
      refine Or.inl ⟨_, _, f4, ?_⟩
      show am_W X _ 389 106 _ [(.int v2), x0] h3 _
      refine aw_iload_n (pc1 := 107) at_389_106 l2 rfl ?_
      refine aw_iconst (v := 1) (pc1 := 108) at_389_107 (by decide) rfl ?_
      refine aw_call (F := fm_382 x2 1 h3) (t := false) (na := 2) (kd := 0) (as := [(.int x2), (.int 1)]) at_389_108 (am_k3s kb_382) mn_382 mk_382 rfl rfl (am_ok_s mi_382 (am_hl rfl (am_ccI (am_ccI am_cats_0)) rfl)) (am_hc (am_ccI (am_ccR i0 am_cats_0)) rfl) (fun hz9 => by cases hz9) (fun o1 hz9 => rm_382 x2 1 h3 o1  hz9) ?_
      rcases am_cI_s hs1 with ⟨v5, h6, f7, hs2⟩ | hs2
      · clear hs1
        refine Or.inl ⟨_, _, f7, ?_⟩
        show am_W X _ 389 111 _ [(.int v5), (.int v2), x0] h6 _
        refine aw_iload (pc1 := 113) at_389_111 l5 rfl ?_
        refine aw_lload (pc1 := 115) at_389_113 l6 rfl ?_
        refine aw_lload (pc1 := 117) at_389_115 l10 rfl ?_
        obtain ⟨z8, hs3⟩ := am_ift hs2
        clear hs2
        refine aw_ldiv (v := (x6 / x10)) (pc1 := 118) at_389_117 z8 rfl rfl ?_
        refine aw_lload (pc1 := 120) at_389_118 l12 rfl ?_
        obtain ⟨z9, hs4⟩ := am_ift hs3
        clear hs3
        refine aw_lrem (v := ((x6 / x10) - (x6 / x10) / x12 * x12)) (pc1 := 121) at_389_120 z9 rfl rfl ?_
        obtain ⟨z10, hs5⟩ := am_ift hs4
        clear hs4
        refine aw_call (F := fm_387 x0 v2 v5 x5 (((x6 / x10) - (x6 / x10) / x12 * x12)) h6) (t := true) (na := 5) (kd := 1) (as := [x0, (.int v2), (.int v5), (.int x5), (.long ((x6 / x10) - (x6 / x10) / x12 * x12))]) at_389_121 (am_k3v kb_387) mn_387 mk_387 rfl rfl (am_ok_v mi_387 (am_hl rfl (am_ccR i0 (am_ccI (am_ccI (am_ccI (am_ccL am_cats_0))))) rfl) z10) (am_hc am_cats_0 rfl) (fun _ => ⟨rfl, hh_389⟩) (fun o1 hz9 => rm_387 x0 v2 v5 x5 (((x6 / x10) - (x6 / x10) / x12 * x12)) h6 o1 i0 hz9) ?_
        rcases am_cV_s hs5 with ⟨h12, f13, hs6⟩ | hs6
        · clear hs5
          refine Or.inl ⟨_, _, f13, ?_⟩
          show am_W X _ 389 124 _ [] h12 _
          exact rg_389_124 x0 x1 x2 x4 x6 x10 x12 h12 o l0 l1 l2 l4 l6 l10 l12 i0 hs6
        · clear hs5
          exact Or.inr hs6
      · clear hs1
        exact Or.inr hs2
    · clear hs
      exact Or.inr hs1
def fg_389_68 (x0 : Value) (x1 : Int32) (x2 : Int32) (x4 : Int32) (x5 : Int32) (x6 : Int64) (x8 : Int32) (x9 : Int32) (x10 : Int64) (s0 : Int64) (h : am_H) : Option am_O := (if x8 ≤ 2 then (fg_389_93 x0 x1 x2 x4 x5 x6 x8 x10 s0 h) else am_cI false (fm_382 x2 2 h) (fun v2 h3 => (if (x10 : Int64) ≠ 0 then (if am_pOk 12 x0 h3 then am_cV true (fm_387 x0 x1 v2 x9 ((x6 - x6 / x10 * x10)) h3) (fun h8 => (fg_389_93 x0 x1 x2 x4 x5 x6 x8 x10 s0 h8)) else none) else none)))
theorem rg_389_68 {X : am_X} {d : Nat} {lv : am_LV} (x0 : Value) (x1 : Int32) (x2 : Int32) (x4 : Int32) (x5 : Int32) (x6 : Int64) (x8 : Int32) (x9 : Int32) (x10 : Int64) (s0 : Int64) (h : am_H) (o : am_O) (l0 : lv.lookup 0 = some x0) (l1 : lv.lookup 1 = some (.int x1)) (l2 : lv.lookup 2 = some (.int x2)) (l4 : lv.lookup 4 = some (.int x4)) (l5 : lv.lookup 5 = some (.int x5)) (l6 : lv.lookup 6 = some (.long x6)) (l8 : lv.lookup 8 = some (.int x8)) (l9 : lv.lookup 9 = some (.int x9)) (l10 : lv.lookup 10 = some (.long x10)) (i0 : am_isR x0 = true) (hs : fg_389_68 x0 x1 x2 x4 x5 x6 x8 x9 x10 s0 h = some o) : am_W X (d + 2) 389 68 lv [(.long s0)] h (fun q => q = o) := by
  unfold fg_389_68 at hs
  refine aw_lstore (lv1 := am_put2 _ 12 _) (pc1 := 70) at_389_68 rfl rfl ?_
  refine aw_iload (pc1 := 72) at_389_70 (am_lk2 l8 rfl rfl) rfl ?_
  refine aw_iconst (v := 2) (pc1 := 73) at_389_72 (by decide) rfl ?_
  by_cases c1 : x8 ≤ 2
  · rw [if_pos c1] at hs
    refine aw_icle_t at_389_73 c1 ?_
    exact rg_389_93 x0 x1 x2 x4 x5 x6 x8 x10 s0 h o (am_lk2 l0 rfl rfl) (am_lk2 l1 rfl rfl) (am_lk2 l2 rfl rfl) (am_lk2 l4 rfl rfl) (am_lk2 l5 rfl rfl) (am_lk2 l6 rfl rfl) (am_lk2 l8 rfl rfl) (am_lk2 l10 rfl rfl) am_lk02 i0 hs
  · rw [if_neg c1] at hs
    refine aw_icle_f (pc1 := 76) at_389_73 c1 rfl ?_
    refine aw_vload_n (pc1 := 77) at_389_76 (am_lk2 l0 rfl rfl) i0 rfl ?_
    refine aw_iload_n (pc1 := 78) at_389_77 (am_lk2 l1 rfl rfl) rfl ?_
    refine aw_iload_n (pc1 := 79) at_389_78 (am_lk2 l2 rfl rfl) rfl ?_
    refine aw_iconst (v := 2) (pc1 := 80) at_389_79 (by decide) rfl ?_
    refine aw_call (F := fm_382 x2 2 h) (t := false) (na := 2) (kd := 0) (as := [(.int x2), (.int 2)]) at_389_80 (am_k3s kb_382) mn_382 mk_382 rfl rfl (am_ok_s mi_382 (am_hl rfl (am_ccI (am_ccI am_cats_0)) rfl)) (am_hc (am_ccI (am_ccR i0 am_cats_0)) rfl) (fun hz9 => by cases hz9) (fun o1 hz9 => rm_382 x2 2 h o1  hz9) ?_
    rcases am_cI_s hs with ⟨v2, h3, f4, hs1⟩ | hs1
    · clear hs
      refine Or.inl ⟨_, _, f4, ?_⟩
      show am_W X _ 389 83 _ [(.int v2), (.int x1), x0] h3 _
      refine aw_iload (pc1 := 85) at_389_83 (am_lk2 l9 rfl rfl) rfl ?_
      refine aw_lload (pc1 := 87) at_389_85 (am_lk2 l6 rfl rfl) rfl ?_
      refine aw_lload (pc1 := 89) at_389_87 (am_lk2 l10 rfl rfl) rfl ?_
      obtain ⟨z5, hs2⟩ := am_ift hs1
      clear hs1
      refine aw_lrem (v := (x6 - x6 / x10 * x10)) (pc1 := 90) at_389_89 z5 rfl rfl ?_
      obtain ⟨z6, hs3⟩ := am_ift hs2
      clear hs2
      refine aw_call (F := fm_387 x0 x1 v2 x9 ((x6 - x6 / x10 * x10)) h3) (t := true) (na := 5) (kd := 1) (as := [x0, (.int x1), (.int v2), (.int x9), (.long (x6 - x6 / x10 * x10))]) at_389_90 (am_k3v kb_387) mn_387 mk_387 rfl rfl (am_ok_v mi_387 (am_hl rfl (am_ccR i0 (am_ccI (am_ccI (am_ccI (am_ccL am_cats_0))))) rfl) z6) (am_hc am_cats_0 rfl) (fun _ => ⟨rfl, hh_389⟩) (fun o1 hz9 => rm_387 x0 x1 v2 x9 ((x6 - x6 / x10 * x10)) h3 o1 i0 hz9) ?_
      rcases am_cV_s hs3 with ⟨h8, f9, hs4⟩ | hs4
      · clear hs3
        refine Or.inl ⟨_, _, f9, ?_⟩
        show am_W X _ 389 93 _ [] h8 _
        exact rg_389_93 x0 x1 x2 x4 x5 x6 x8 x10 s0 h8 o (am_lk2 l0 rfl rfl) (am_lk2 l1 rfl rfl) (am_lk2 l2 rfl rfl) (am_lk2 l4 rfl rfl) (am_lk2 l5 rfl rfl) (am_lk2 l6 rfl rfl) (am_lk2 l8 rfl rfl) (am_lk2 l10 rfl rfl) am_lk02 i0 hs4
      · clear hs3
        exact Or.inr hs4
    · clear hs
      exact Or.inr hs1
def fg_389_39 (x0 : Value) (x1 : Int32) (x2 : Int32) (x4 : Int32) (x5 : Int32) (x6 : Int64) (x8 : Int32) (x9 : Int32) (s0 : Int64) (h : am_H) : Option am_O := (if x8 ≤ 1 then (fg_389_68 x0 x1 x2 x4 x5 x6 x8 x9 s0 1 h) else am_cI false (fm_381 x1 x2 1 h) (fun v2 h3 => am_cI false (fm_382 x2 1 h3) (fun v5 h6 => (if am_pOk 12 x0 h6 then am_cL true (fm_383 x0 v2 v5 x5 h6) (fun v9 h10 => (fg_389_68 x0 x1 x2 x4 x5 x6 x8 x9 s0 v9 h10)) else none))))
theorem rg_389_39 {X : am_X} {d : Nat} {lv : am_LV} (x0 : Value) (x1 : Int32) (x2 : Int32) (x4 : Int32) (x5 : Int32) (x6 : Int64) (x8 : Int32) (x9 : Int32) (s0 : Int64) (h : am_H) (o : am_O) (l0 : lv.lookup 0 = some x0) (l1 : lv.lookup 1 = some (.int x1)) (l2 : lv.lookup 2 = some (.int x2)) (l4 : lv.lookup 4 = some (.int x4)) (l5 : lv.lookup 5 = some (.int x5)) (l6 : lv.lookup 6 = some (.long x6)) (l8 : lv.lookup 8 = some (.int x8)) (l9 : lv.lookup 9 = some (.int x9)) (i0 : am_isR x0 = true) (hs : fg_389_39 x0 x1 x2 x4 x5 x6 x8 x9 s0 h = some o) : am_W X (d + 2) 389 39 lv [(.long s0)] h (fun q => q = o) := by
  unfold fg_389_39 at hs
  refine aw_lstore (lv1 := am_put2 _ 10 _) (pc1 := 41) at_389_39 rfl rfl ?_
  refine aw_iload (pc1 := 43) at_389_41 (am_lk2 l8 rfl rfl) rfl ?_
  refine aw_iconst (v := 1) (pc1 := 44) at_389_43 (by decide) rfl ?_
  by_cases c1 : x8 ≤ 1
  · rw [if_pos c1] at hs
    refine aw_icle_t at_389_44 c1 ?_
    refine aw_lconst (v := 1) (pc1 := 68) at_389_67 (by decide) rfl ?_
    exact rg_389_68 x0 x1 x2 x4 x5 x6 x8 x9 s0 1 h o (am_lk2 l0 rfl rfl) (am_lk2 l1 rfl rfl) (am_lk2 l2 rfl rfl) (am_lk2 l4 rfl rfl) (am_lk2 l5 rfl rfl) (am_lk2 l6 rfl rfl) (am_lk2 l8 rfl rfl) (am_lk2 l9 rfl rfl) am_lk02 i0 hs
  · rw [if_neg c1] at hs
    refine aw_icle_f (pc1 := 47) at_389_44 c1 rfl ?_
    refine aw_vload_n (pc1 := 48) at_389_47 (am_lk2 l0 rfl rfl) i0 rfl ?_
    refine aw_iload_n (pc1 := 49) at_389_48 (am_lk2 l1 rfl rfl) rfl ?_
    refine aw_iload_n (pc1 := 50) at_389_49 (am_lk2 l2 rfl rfl) rfl ?_
    refine aw_iconst (v := 1) (pc1 := 51) at_389_50 (by decide) rfl ?_
    refine aw_call (F := fm_381 x1 x2 1 h) (t := false) (na := 3) (kd := 0) (as := [(.int x1), (.int x2), (.int 1)]) at_389_51 (am_k3s kb_381) mn_381 mk_381 rfl rfl (am_ok_s mi_381 (am_hl rfl (am_ccI (am_ccI (am_ccI am_cats_0))) rfl)) (am_hc (am_ccR i0 am_cats_0) rfl) (fun hz9 => by cases hz9) (fun o1 hz9 => rm_381 x1 x2 1 h o1  hz9) ?_
    rcases am_cI_s hs with ⟨v2, h3, f4, hs1⟩ | hs1
    · clear hs
      refine Or.inl ⟨_, _, f4, ?_⟩
      show am_W X _ 389 54 _ [(.int v2), x0] h3 _
      refine aw_iload_n (pc1 := 55) at_389_54 (am_lk2 l2 rfl rfl) rfl ?_
      refine aw_iconst (v := 1) (pc1 := 56) at_389_55 (by decide) rfl ?_
      refine aw_call (F := fm_382 x2 1 h3) (t := false) (na := 2) (kd := 0) (as := [(.int x2), (.int 1)]) at_389_56 (am_k3s kb_382) mn_382 mk_382 rfl rfl (am_ok_s mi_382 (am_hl rfl (am_ccI (am_ccI am_cats_0)) rfl)) (am_hc (am_ccI (am_ccR i0 am_cats_0)) rfl) (fun hz9 => by cases hz9) (fun o1 hz9 => rm_382 x2 1 h3 o1  hz9) ?_
      rcases am_cI_s hs1 with ⟨v5, h6, f7, hs2⟩ | hs2
      · clear hs1
        refine Or.inl ⟨_, _, f7, ?_⟩
        show am_W X _ 389 59 _ [(.int v5), (.int v2), x0] h6 _
        refine aw_iload (pc1 := 61) at_389_59 (am_lk2 l5 rfl rfl) rfl ?_
        obtain ⟨z8, hs3⟩ := am_ift hs2
        clear hs2
        refine aw_call (F := fm_383 x0 v2 v5 x5 h6) (t := true) (na := 4) (kd := 1) (as := [x0, (.int v2), (.int v5), (.int x5)]) at_389_61 (am_k3v kb_383) mn_383 mk_383 rfl rfl (am_ok_v mi_383 (am_hl rfl (am_ccR i0 (am_ccI (am_ccI (am_ccI am_cats_0)))) rfl) z8) (am_hc am_cats_0 rfl) (fun _ => ⟨rfl, hh_389⟩) (fun o1 hz9 => rm_383 x0 v2 v5 x5 h6 o1 i0 hz9) ?_
        rcases am_cL_s hs3 with ⟨v9, h10, f11, hs4⟩ | hs4
        · clear hs3
          refine Or.inl ⟨_, _, f11, ?_⟩
          show am_W X _ 389 64 _ [(.long v9)] h10 _
          refine aw_goto at_389_64 ?_
          exact rg_389_68 x0 x1 x2 x4 x5 x6 x8 x9 s0 v9 h10 o (am_lk2 l0 rfl rfl) (am_lk2 l1 rfl rfl) (am_lk2 l2 rfl rfl) (am_lk2 l4 rfl rfl) (am_lk2 l5 rfl rfl) (am_lk2 l6 rfl rfl) (am_lk2 l8 rfl rfl) (am_lk2 l9 rfl rfl) am_lk02 i0 hs4
        · clear hs3
          exact Or.inr hs4
      · clear hs1
        exact Or.inr hs2
    · clear hs
      exact Or.inr hs1
def fg_389_0 (x0 : Value) (x1 : Int32) (x2 : Int32) (x3 : Int32) (x4 : Int32) (x5 : Int32) (x6 : Int64) (h : am_H) : Option am_O := am_cI false (fm_343 x2 h) (fun v1 h2 => (if v1 ≤ 2 then (fg_389_39 x0 x1 x2 x4 x5 x6 v1 ((((x3 - 1) - x4) - x5)) 1 h2) else am_cI false (fm_382 x2 2 h2) (fun v5 h6 => (if am_pOk 12 x0 h6 then am_cL true (fm_383 x0 x1 v5 ((((x3 - 1) - x4) - x5)) h6) (fun v9 h10 => (fg_389_39 x0 x1 x2 x4 x5 x6 v1 ((((x3 - 1) - x4) - x5)) v9 h10)) else none))))
theorem rg_389_0 {X : am_X} {d : Nat} {lv : am_LV} (x0 : Value) (x1 : Int32) (x2 : Int32) (x3 : Int32) (x4 : Int32) (x5 : Int32) (x6 : Int64) (h : am_H) (o : am_O) (l0 : lv.lookup 0 = some x0) (l1 : lv.lookup 1 = some (.int x1)) (l2 : lv.lookup 2 = some (.int x2)) (l3 : lv.lookup 3 = some (.int x3)) (l4 : lv.lookup 4 = some (.int x4)) (l5 : lv.lookup 5 = some (.int x5)) (l6 : lv.lookup 6 = some (.long x6)) (i0 : am_isR x0 = true) (hs : fg_389_0 x0 x1 x2 x3 x4 x5 x6 h = some o) : am_W X (d + 2) 389 0 lv [] h (fun q => q = o) := by
  unfold fg_389_0 at hs
  refine aw_iload_n (pc1 := 1) at_389_0 l2 rfl ?_
  refine aw_call (F := fm_343 x2 h) (t := false) (na := 1) (kd := 0) (as := [(.int x2)]) at_389_1 (am_k3s kb_343) mn_343 mk_343 rfl rfl (am_ok_s mi_343 (am_hl rfl (am_ccI am_cats_0) rfl)) (am_hc am_cats_0 rfl) (fun hz9 => by cases hz9) (fun o1 hz9 => rm_343 x2 h o1  hz9) ?_
  rcases am_cI_s hs with ⟨v1, h2, f3, hs1⟩ | hs1
  · clear hs
    refine Or.inl ⟨_, _, f3, ?_⟩
    show am_W X _ 389 4 _ [(.int v1)] h2 _
    refine aw_istore (lv1 := am_put1 _ 8 _) (pc1 := 6) at_389_4 rfl rfl ?_
    refine aw_iload_n (pc1 := 7) at_389_6 (am_lk1 l3 rfl rfl) rfl ?_
    refine aw_iconst (v := 1) (pc1 := 8) at_389_7 (by decide) rfl ?_
    refine aw_isub (v := (x3 - 1)) (pc1 := 9) at_389_8 rfl rfl ?_
    refine aw_iload (pc1 := 11) at_389_9 (am_lk1 l4 rfl rfl) rfl ?_
    refine aw_isub (v := ((x3 - 1) - x4)) (pc1 := 12) at_389_11 rfl rfl ?_
    refine aw_iload (pc1 := 14) at_389_12 (am_lk1 l5 rfl rfl) rfl ?_
    refine aw_isub (v := (((x3 - 1) - x4) - x5)) (pc1 := 15) at_389_14 rfl rfl ?_
    refine aw_istore (lv1 := am_put1 _ 9 _) (pc1 := 17) at_389_15 rfl rfl ?_
    refine aw_iload (pc1 := 19) at_389_17 (am_lk1 am_lk0 rfl rfl) rfl ?_
    refine aw_iconst (v := 2) (pc1 := 20) at_389_19 (by decide) rfl ?_
    by_cases c4 : v1 ≤ 2
    · rw [if_pos c4] at hs1
      refine aw_icle_t at_389_20 c4 ?_
      refine aw_lconst (v := 1) (pc1 := 39) at_389_38 (by decide) rfl ?_
      exact rg_389_39 x0 x1 x2 x4 x5 x6 v1 ((((x3 - 1) - x4) - x5)) 1 h2 o (am_lk1 (am_lk1 l0 rfl rfl) rfl rfl) (am_lk1 (am_lk1 l1 rfl rfl) rfl rfl) (am_lk1 (am_lk1 l2 rfl rfl) rfl rfl) (am_lk1 (am_lk1 l4 rfl rfl) rfl rfl) (am_lk1 (am_lk1 l5 rfl rfl) rfl rfl) (am_lk1 (am_lk1 l6 rfl rfl) rfl rfl) (am_lk1 am_lk0 rfl rfl) am_lk0 i0 hs1
    · rw [if_neg c4] at hs1
      refine aw_icle_f (pc1 := 23) at_389_20 c4 rfl ?_
      refine aw_vload_n (pc1 := 24) at_389_23 (am_lk1 (am_lk1 l0 rfl rfl) rfl rfl) i0 rfl ?_
      refine aw_iload_n (pc1 := 25) at_389_24 (am_lk1 (am_lk1 l1 rfl rfl) rfl rfl) rfl ?_
      refine aw_iload_n (pc1 := 26) at_389_25 (am_lk1 (am_lk1 l2 rfl rfl) rfl rfl) rfl ?_
      refine aw_iconst (v := 2) (pc1 := 27) at_389_26 (by decide) rfl ?_
      refine aw_call (F := fm_382 x2 2 h2) (t := false) (na := 2) (kd := 0) (as := [(.int x2), (.int 2)]) at_389_27 (am_k3s kb_382) mn_382 mk_382 rfl rfl (am_ok_s mi_382 (am_hl rfl (am_ccI (am_ccI am_cats_0)) rfl)) (am_hc (am_ccI (am_ccR i0 am_cats_0)) rfl) (fun hz9 => by cases hz9) (fun o1 hz9 => rm_382 x2 2 h2 o1  hz9) ?_
      rcases am_cI_s hs1 with ⟨v5, h6, f7, hs2⟩ | hs2
      · clear hs1
        refine Or.inl ⟨_, _, f7, ?_⟩
        show am_W X _ 389 30 _ [(.int v5), (.int x1), x0] h6 _
        refine aw_iload (pc1 := 32) at_389_30 am_lk0 rfl ?_
        obtain ⟨z8, hs3⟩ := am_ift hs2
        clear hs2
        refine aw_call (F := fm_383 x0 x1 v5 ((((x3 - 1) - x4) - x5)) h6) (t := true) (na := 4) (kd := 1) (as := [x0, (.int x1), (.int v5), (.int (((x3 - 1) - x4) - x5))]) at_389_32 (am_k3v kb_383) mn_383 mk_383 rfl rfl (am_ok_v mi_383 (am_hl rfl (am_ccR i0 (am_ccI (am_ccI (am_ccI am_cats_0)))) rfl) z8) (am_hc am_cats_0 rfl) (fun _ => ⟨rfl, hh_389⟩) (fun o1 hz9 => rm_383 x0 x1 v5 ((((x3 - 1) - x4) - x5)) h6 o1 i0 hz9) ?_
        rcases am_cL_s hs3 with ⟨v9, h10, f11, hs4⟩ | hs4
        · clear hs3
          refine Or.inl ⟨_, _, f11, ?_⟩
          show am_W X _ 389 35 _ [(.long v9)] h10 _
          refine aw_goto at_389_35 ?_
          exact rg_389_39 x0 x1 x2 x4 x5 x6 v1 ((((x3 - 1) - x4) - x5)) v9 h10 o (am_lk1 (am_lk1 l0 rfl rfl) rfl rfl) (am_lk1 (am_lk1 l1 rfl rfl) rfl rfl) (am_lk1 (am_lk1 l2 rfl rfl) rfl rfl) (am_lk1 (am_lk1 l4 rfl rfl) rfl rfl) (am_lk1 (am_lk1 l5 rfl rfl) rfl rfl) (am_lk1 (am_lk1 l6 rfl rfl) rfl rfl) (am_lk1 am_lk0 rfl rfl) am_lk0 i0 hs4
        · clear hs3
          exact Or.inr hs4
      · clear hs1
        exact Or.inr hs2
  · clear hs
    exact Or.inr hs1
def fm_389 (y0 : Value) (y1 : Int32) (y2 : Int32) (y3 : Int32) (y4 : Int32) (y5 : Int32) (y6 : Int64) (h : am_H) : Option am_O := fg_389_0 y0 y1 y2 y3 y4 y5 y6 h
theorem rm_389 {X : am_X} {d : Nat} (y0 : Value) (y1 : Int32) (y2 : Int32) (y3 : Int32) (y4 : Int32) (y5 : Int32) (y6 : Int64) (h : am_H) (o : am_O) (i0 : am_isR y0 = true) (hs : fm_389 y0 y1 y2 y3 y4 y5 y6 h = some o) : am_W X (d + 2) 389 0 (am_args 0 [y0, .int y1, .int y2, .int y3, .int y4, .int y5, .long y6]) [] h (fun q => q = o) := by
  rw [am_args_R i0, am_args_I, am_args_I, am_args_I, am_args_I, am_args_I, am_args_L]
  exact rg_389_0 y0 y1 y2 y3 y4 y5 y6 h o rfl rfl rfl rfl rfl rfl rfl i0 hs
def fg_388_164 (N : Nat) (rec_132 : Value → Int32 → Int32 → Int64 → Int32 → Int32 → Int32 → am_H → Option am_O) (rec_151 : Value → Int32 → Int32 → Int64 → Int32 → Int32 → Int32 → Int32 → am_H → Option am_O) (x0 : Value) (x1 : Int32) (x3 : Int32) (x6 : Int64) (x8 : Int32) (x10 : Int32) (x11 : Int32) (x12 : Int32) (s0 : Int32) (s1 : Int32) (h : am_H) : Option am_O := (if s1 ≤ s0 then (rec_132 x0 x1 x3 x6 x8 x10 ((x11 + 1)) h) else (if am_pOk 12 x0 h then am_cL true (fm_380 x0 x1 x8 x3 x11 x12 h) (fun v3 h4 => (if 0 ≤ (lg_cmp x6 v3) then (rec_151 x0 x1 x3 ((x6 - v3)) x8 x10 x11 ((x12 + 1)) h4) else (if am_pOk 12 x0 h4 then am_cV true (fm_389 x0 x1 x8 x3 x11 x12 x6 h4) (fun h9 => some (.inl (none, h9))) else none))) else none))
theorem rg_388_164 {X : am_X} {d : Nat} {N : Nat} {rec_132 : Value → Int32 → Int32 → Int64 → Int32 → Int32 → Int32 → am_H → Option am_O} {rec_151 : Value → Int32 → Int32 → Int64 → Int32 → Int32 → Int32 → Int32 → am_H → Option am_O} (q_132 : ∀ (x0 : Value) (x1 : Int32) (x3 : Int32) (x6 : Int64) (x8 : Int32) (x10 : Int32) (x11 : Int32) (h : am_H) (o : am_O), rec_132 x0 x1 x3 x6 x8 x10 x11 h = some o → ∀ lv : am_LV, (lv.lookup 0 = some x0) → (lv.lookup 1 = some (.int x1)) → (lv.lookup 3 = some (.int x3)) → (lv.lookup 6 = some (.long x6)) → (lv.lookup 8 = some (.int x8)) → (lv.lookup 10 = some (.int x10)) → (lv.lookup 11 = some (.int x11)) → (am_isR x0 = true) → am_W X (d + 3) 388 132 lv [] h (fun q => q = o)) (q_151 : ∀ (x0 : Value) (x1 : Int32) (x3 : Int32) (x6 : Int64) (x8 : Int32) (x10 : Int32) (x11 : Int32) (x12 : Int32) (h : am_H) (o : am_O), rec_151 x0 x1 x3 x6 x8 x10 x11 x12 h = some o → ∀ lv : am_LV, (lv.lookup 0 = some x0) → (lv.lookup 1 = some (.int x1)) → (lv.lookup 3 = some (.int x3)) → (lv.lookup 6 = some (.long x6)) → (lv.lookup 8 = some (.int x8)) → (lv.lookup 10 = some (.int x10)) → (lv.lookup 11 = some (.int x11)) → (lv.lookup 12 = some (.int x12)) → (am_isR x0 = true) → am_W X (d + 3) 388 151 lv [] h (fun q => q = o)) {lv : am_LV} (x0 : Value) (x1 : Int32) (x3 : Int32) (x6 : Int64) (x8 : Int32) (x10 : Int32) (x11 : Int32) (x12 : Int32) (s0 : Int32) (s1 : Int32) (h : am_H) (o : am_O) (l0 : lv.lookup 0 = some x0) (l1 : lv.lookup 1 = some (.int x1)) (l3 : lv.lookup 3 = some (.int x3)) (l6 : lv.lookup 6 = some (.long x6)) (l8 : lv.lookup 8 = some (.int x8)) (l10 : lv.lookup 10 = some (.int x10)) (l11 : lv.lookup 11 = some (.int x11)) (l12 : lv.lookup 12 = some (.int x12)) (i0 : am_isR x0 = true) (hs : fg_388_164 N rec_132 rec_151 x0 x1 x3 x6 x8 x10 x11 x12 s0 s1 h = some o) : am_W X (d + 3) 388 164 lv [(.int s1), (.int s0)] h (fun q => q = o) := by
  unfold fg_388_164 at hs
  by_cases c1 : s1 ≤ s0
  · rw [if_pos c1] at hs
    refine aw_icge_t at_388_164 c1 ?_
    refine aw_iinc (v := (x11 + 1)) (c := 1) (lv1 := am_put1 _ 11 _) (pc1 := 220) at_388_217 l11 (by decide) rfl rfl rfl ?_
    refine aw_goto at_388_220 ?_
    exact q_132 x0 x1 x3 x6 x8 x10 ((x11 + 1)) h o hs _ (am_lk1 l0 rfl rfl) (am_lk1 l1 rfl rfl) (am_lk1 l3 rfl rfl) (am_lk1 l6 rfl rfl) (am_lk1 l8 rfl rfl) (am_lk1 l10 rfl rfl) am_lk0 i0
  · rw [if_neg c1] at hs
    refine aw_icge_f (pc1 := 167) at_388_164 c1 rfl ?_
    refine aw_vload_n (pc1 := 168) at_388_167 l0 i0 rfl ?_
    refine aw_iload_n (pc1 := 169) at_388_168 l1 rfl ?_
    refine aw_iload (pc1 := 171) at_388_169 l8 rfl ?_
    refine aw_iload_n (pc1 := 172) at_388_171 l3 rfl ?_
    refine aw_iload (pc1 := 174) at_388_172 l11 rfl ?_
    refine aw_iload (pc1 := 176) at_388_174 l12 rfl ?_
    obtain ⟨z2, hs1⟩ := am_ift hs
    clear hs
    refine aw_call (F := fm_380 x0 x1 x8 x3 x11 x12 h) (t := true) (na := 6) (kd := 1) (as := [x0, (.int x1), (.int x8), (.int x3), (.int x11), (.int x12)]) at_388_176 (am_k3v kb_380) mn_380 mk_380 rfl rfl (am_ok_v mi_380 (am_hl rfl (am_ccR i0 (am_ccI (am_ccI (am_ccI (am_ccI (am_ccI am_cats_0)))))) rfl) z2) (am_hc am_cats_0 rfl) (fun _ => ⟨rfl, hh_388⟩) (fun o1 hz9 => rm_380 x0 x1 x8 x3 x11 x12 h o1 i0 hz9) ?_
    rcases am_cL_s hs1 with ⟨v3, h4, f5, hs2⟩ | hs2
    · clear hs1
      refine Or.inl ⟨_, _, f5, ?_⟩
      show am_W X _ 388 179 _ [(.long v3)] h4 _
      refine aw_lstore (lv1 := am_put2 _ 13 _) (pc1 := 181) at_388_179 rfl rfl ?_
      refine aw_lload (pc1 := 183) at_388_181 (am_lk2 l6 rfl rfl) rfl ?_
      refine aw_lload (pc1 := 185) at_388_183 am_lk02 rfl ?_
      refine aw_lcmp (v := (lg_cmp x6 v3)) (pc1 := 186) at_388_185 rfl rfl ?_
      by_cases c6 : 0 ≤ (lg_cmp x6 v3)
      · rw [if_pos c6] at hs2
        refine aw_ifge_t at_388_186 c6 ?_
        refine aw_lload (pc1 := 206) at_388_204 (am_lk2 l6 rfl rfl) rfl ?_
        refine aw_lload (pc1 := 208) at_388_206 am_lk02 rfl ?_
        refine aw_lsub (v := (x6 - v3)) (pc1 := 209) at_388_208 rfl rfl ?_
        refine aw_lstore (lv1 := am_put2 _ 6 _) (pc1 := 211) at_388_209 rfl rfl ?_
        refine aw_iinc (v := (x12 + 1)) (c := 1) (lv1 := am_put1 _ 12 _) (pc1 := 214) at_388_211 (am_lk2 (am_lk2 l12 rfl rfl) rfl rfl) (by decide) rfl rfl rfl ?_
        refine aw_goto at_388_214 ?_
        exact q_151 x0 x1 x3 ((x6 - v3)) x8 x10 x11 ((x12 + 1)) h4 o hs2 _ (am_lk1 (am_lk2 (am_lk2 l0 rfl rfl) rfl rfl) rfl rfl) (am_lk1 (am_lk2 (am_lk2 l1 rfl rfl) rfl rfl) rfl rfl) (am_lk1 (am_lk2 (am_lk2 l3 rfl rfl) rfl rfl) rfl rfl) (am_lk1 am_lk02 rfl rfl) (am_lk1 (am_lk2 (am_lk2 l8 rfl rfl) rfl rfl) rfl rfl) (am_lk1 (am_lk2 (am_lk2 l10 rfl rfl) rfl rfl) rfl rfl) (am_lk1 (am_lk2 (am_lk2 l11 rfl rfl) rfl rfl) rfl rfl) am_lk0 i0
      · rw [if_neg c6] at hs2
        refine aw_ifge_f (pc1 := 189) at_388_186 c6 rfl ?_
        refine aw_vload_n (pc1 := 190) at_388_189 (am_lk2 l0 rfl rfl) i0 rfl ?_
        refine aw_iload_n (pc1 := 191) at_388_190 (am_lk2 l1 rfl rfl) rfl ?_
        refine aw_iload (pc1 := 193) at_388_191 (am_lk2 l8 rfl rfl) rfl ?_
        refine aw_iload_n (pc1 := 194) at_388_193 (am_lk2 l3 rfl rfl) rfl ?_
        refine aw_iload (pc1 := 196) at_388_194 (am_lk2 l11 rfl rfl) rfl ?_
        refine aw_iload (pc1 := 198) at_388_196 (am_lk2 l12 rfl rfl) rfl ?_
        refine aw_lload (pc1 := 200) at_388_198 (am_lk2 l6 rfl rfl) rfl ?_
        obtain ⟨z7, hs3⟩ := am_ift hs2
        clear hs2
        refine aw_call (F := fm_389 x0 x1 x8 x3 x11 x12 x6 h4) (t := true) (na := 7) (kd := 1) (as := [x0, (.int x1), (.int x8), (.int x3), (.int x11), (.int x12), (.long x6)]) at_388_200 (am_k3v kb_389) mn_389 mk_389 rfl rfl (am_ok_v mi_389 (am_hl rfl (am_ccR i0 (am_ccI (am_ccI (am_ccI (am_ccI (am_ccI (am_ccL am_cats_0))))))) rfl) z7) (am_hc am_cats_0 rfl) (fun _ => ⟨rfl, hh_388⟩) (fun o1 hz9 => rm_389 x0 x1 x8 x3 x11 x12 x6 h4 o1 i0 hz9) ?_
        rcases am_cV_s hs3 with ⟨h9, f10, hs4⟩ | hs4
        · clear hs3
          refine Or.inl ⟨_, _, f10, ?_⟩
          show am_W X _ 388 203 _ [] h9 _
          cases hs4
          exact aw_vret at_388_203 rt_388 rfl
        · clear hs3
          exact Or.inr hs4
    · clear hs1
      exact Or.inr hs2
def fg_388_151 (N : Nat) (rec_132 : Value → Int32 → Int32 → Int64 → Int32 → Int32 → Int32 → am_H → Option am_O) : Nat → Value → Int32 → Int32 → Int64 → Int32 → Int32 → Int32 → Int32 → am_H → Option am_O
  | 0 => fun _ _ _ _ _ _ _ _ _ => none
  | K + 1 => fun x0 x1 x3 x6 x8 x10 x11 x12 h => (if x10 ≤ 1 then (fg_388_164 N rec_132 (fg_388_151 N rec_132 K) x0 x1 x3 x6 x8 x10 x11 x12 x12 1 h) else (fg_388_164 N rec_132 (fg_388_151 N rec_132 K) x0 x1 x3 x6 x8 x10 x11 x12 x12 x3 h))
theorem rg_388_151 {X : am_X} {d : Nat} {N : Nat} {rec_132 : Value → Int32 → Int32 → Int64 → Int32 → Int32 → Int32 → am_H → Option am_O} (q_132 : ∀ (x0 : Value) (x1 : Int32) (x3 : Int32) (x6 : Int64) (x8 : Int32) (x10 : Int32) (x11 : Int32) (h : am_H) (o : am_O), rec_132 x0 x1 x3 x6 x8 x10 x11 h = some o → ∀ lv : am_LV, (lv.lookup 0 = some x0) → (lv.lookup 1 = some (.int x1)) → (lv.lookup 3 = some (.int x3)) → (lv.lookup 6 = some (.long x6)) → (lv.lookup 8 = some (.int x8)) → (lv.lookup 10 = some (.int x10)) → (lv.lookup 11 = some (.int x11)) → (am_isR x0 = true) → am_W X (d + 3) 388 132 lv [] h (fun q => q = o)) : ∀ (K : Nat) (x0 : Value) (x1 : Int32) (x3 : Int32) (x6 : Int64) (x8 : Int32) (x10 : Int32) (x11 : Int32) (x12 : Int32) (h : am_H) (o : am_O), fg_388_151 N rec_132 K x0 x1 x3 x6 x8 x10 x11 x12 h = some o → ∀ lv : am_LV, (lv.lookup 0 = some x0) → (lv.lookup 1 = some (.int x1)) → (lv.lookup 3 = some (.int x3)) → (lv.lookup 6 = some (.long x6)) → (lv.lookup 8 = some (.int x8)) → (lv.lookup 10 = some (.int x10)) → (lv.lookup 11 = some (.int x11)) → (lv.lookup 12 = some (.int x12)) → (am_isR x0 = true) → am_W X (d + 3) 388 151 lv [] h (fun q => q = o) := by
  intro K
  induction K with
  | zero => intro x0 x1 x3 x6 x8 x10 x11 x12 h o hs; cases hs
  | succ K ih =>
    intro x0 x1 x3 x6 x8 x10 x11 x12 h o hs lv l0 l1 l3 l6 l8 l10 l11 l12 i0
    unfold fg_388_151 at hs
    refine aw_iload (pc1 := 153) at_388_151 l12 rfl ?_
    refine aw_iload (pc1 := 155) at_388_153 l10 rfl ?_
    refine aw_iconst (v := 1) (pc1 := 156) at_388_155 (by decide) rfl ?_
    by_cases c1 : x10 ≤ 1
    · rw [if_pos c1] at hs
      refine aw_icle_t at_388_156 c1 ?_
      refine aw_iconst (v := 1) (pc1 := 164) at_388_163 (by decide) rfl ?_
      exact rg_388_164 q_132 (fun z0 z1 z2 z3 z4 z5 z6 z7 h o hs => ih z0 z1 z2 z3 z4 z5 z6 z7 h o hs) x0 x1 x3 x6 x8 x10 x11 x12 x12 1 h o l0 l1 l3 l6 l8 l10 l11 l12 i0 hs
    · rw [if_neg c1] at hs
      refine aw_icle_f (pc1 := 159) at_388_156 c1 rfl ?_
      refine aw_iload_n (pc1 := 160) at_388_159 l3 rfl ?_
      refine aw_goto at_388_160 ?_
      exact rg_388_164 q_132 (fun z0 z1 z2 z3 z4 z5 z6 z7 h o hs => ih z0 z1 z2 z3 z4 z5 z6 z7 h o hs) x0 x1 x3 x6 x8 x10 x11 x12 x12 x3 h o l0 l1 l3 l6 l8 l10 l11 l12 i0 hs
def fg_388_149 (N : Nat) (rec_132 : Value → Int32 → Int32 → Int64 → Int32 → Int32 → Int32 → am_H → Option am_O) (x0 : Value) (x1 : Int32) (x3 : Int32) (x6 : Int64) (x8 : Int32) (x10 : Int32) (x11 : Int32) (s0 : Int32) (h : am_H) : Option am_O := (fg_388_151 N rec_132 N x0 x1 x3 x6 x8 x10 x11 s0 h)
theorem rg_388_149 {X : am_X} {d : Nat} {N : Nat} {rec_132 : Value → Int32 → Int32 → Int64 → Int32 → Int32 → Int32 → am_H → Option am_O} (q_132 : ∀ (x0 : Value) (x1 : Int32) (x3 : Int32) (x6 : Int64) (x8 : Int32) (x10 : Int32) (x11 : Int32) (h : am_H) (o : am_O), rec_132 x0 x1 x3 x6 x8 x10 x11 h = some o → ∀ lv : am_LV, (lv.lookup 0 = some x0) → (lv.lookup 1 = some (.int x1)) → (lv.lookup 3 = some (.int x3)) → (lv.lookup 6 = some (.long x6)) → (lv.lookup 8 = some (.int x8)) → (lv.lookup 10 = some (.int x10)) → (lv.lookup 11 = some (.int x11)) → (am_isR x0 = true) → am_W X (d + 3) 388 132 lv [] h (fun q => q = o)) {lv : am_LV} (x0 : Value) (x1 : Int32) (x3 : Int32) (x6 : Int64) (x8 : Int32) (x10 : Int32) (x11 : Int32) (s0 : Int32) (h : am_H) (o : am_O) (l0 : lv.lookup 0 = some x0) (l1 : lv.lookup 1 = some (.int x1)) (l3 : lv.lookup 3 = some (.int x3)) (l6 : lv.lookup 6 = some (.long x6)) (l8 : lv.lookup 8 = some (.int x8)) (l10 : lv.lookup 10 = some (.int x10)) (l11 : lv.lookup 11 = some (.int x11)) (i0 : am_isR x0 = true) (hs : fg_388_149 N rec_132 x0 x1 x3 x6 x8 x10 x11 s0 h = some o) : am_W X (d + 3) 388 149 lv [(.int s0)] h (fun q => q = o) := by
  unfold fg_388_149 at hs
  refine aw_istore (lv1 := am_put1 _ 12 _) (pc1 := 151) at_388_149 rfl rfl ?_
  exact rg_388_151 q_132 N x0 x1 x3 x6 x8 x10 x11 s0 h o hs _ (am_lk1 l0 rfl rfl) (am_lk1 l1 rfl rfl) (am_lk1 l3 rfl rfl) (am_lk1 l6 rfl rfl) (am_lk1 l8 rfl rfl) (am_lk1 l10 rfl rfl) (am_lk1 l11 rfl rfl) am_lk0 i0
def fg_388_132 (N : Nat) : Nat → Value → Int32 → Int32 → Int64 → Int32 → Int32 → Int32 → am_H → Option am_O
  | 0 => fun _ _ _ _ _ _ _ _ => none
  | K + 1 => fun x0 x1 x3 x6 x8 x10 x11 h => (if x3 ≤ x11 then some (.inl (none, h)) else (if x10 ≤ 1 then (fg_388_149 N (fg_388_132 N K) x0 x1 x3 x6 x8 x10 x11 0 h) else (fg_388_149 N (fg_388_132 N K) x0 x1 x3 x6 x8 x10 x11 1 h)))
theorem rg_388_132 {X : am_X} {d : Nat} {N : Nat} : ∀ (K : Nat) (x0 : Value) (x1 : Int32) (x3 : Int32) (x6 : Int64) (x8 : Int32) (x10 : Int32) (x11 : Int32) (h : am_H) (o : am_O), fg_388_132 N K x0 x1 x3 x6 x8 x10 x11 h = some o → ∀ lv : am_LV, (lv.lookup 0 = some x0) → (lv.lookup 1 = some (.int x1)) → (lv.lookup 3 = some (.int x3)) → (lv.lookup 6 = some (.long x6)) → (lv.lookup 8 = some (.int x8)) → (lv.lookup 10 = some (.int x10)) → (lv.lookup 11 = some (.int x11)) → (am_isR x0 = true) → am_W X (d + 3) 388 132 lv [] h (fun q => q = o) := by
  intro K
  induction K with
  | zero => intro x0 x1 x3 x6 x8 x10 x11 h o hs; cases hs
  | succ K ih =>
    intro x0 x1 x3 x6 x8 x10 x11 h o hs lv l0 l1 l3 l6 l8 l10 l11 i0
    unfold fg_388_132 at hs
    refine aw_iload (pc1 := 134) at_388_132 l11 rfl ?_
    refine aw_iload_n (pc1 := 135) at_388_134 l3 rfl ?_
    by_cases c1 : x3 ≤ x11
    · rw [if_pos c1] at hs
      refine aw_icge_t at_388_135 c1 ?_
      cases hs
      exact aw_vret at_388_223 rt_388 rfl
    · rw [if_neg c1] at hs
      refine aw_icge_f (pc1 := 138) at_388_135 c1 rfl ?_
      refine aw_iload (pc1 := 140) at_388_138 l10 rfl ?_
      refine aw_iconst (v := 1) (pc1 := 141) at_388_140 (by decide) rfl ?_
      by_cases c2 : x10 ≤ 1
      · rw [if_pos c2] at hs
        refine aw_icle_t at_388_141 c2 ?_
        refine aw_iconst (v := 0) (pc1 := 149) at_388_148 (by decide) rfl ?_
        exact rg_388_149 (fun z0 z1 z2 z3 z4 z5 z6 h o hs => ih z0 z1 z2 z3 z4 z5 z6 h o hs) x0 x1 x3 x6 x8 x10 x11 0 h o l0 l1 l3 l6 l8 l10 l11 i0 hs
      · rw [if_neg c2] at hs
        refine aw_icle_f (pc1 := 144) at_388_141 c2 rfl ?_
        refine aw_iconst (v := 1) (pc1 := 145) at_388_144 (by decide) rfl ?_
        refine aw_goto at_388_145 ?_
        exact rg_388_149 (fun z0 z1 z2 z3 z4 z5 z6 h o hs => ih z0 z1 z2 z3 z4 z5 z6 h o hs) x0 x1 x3 x6 x8 x10 x11 1 h o l0 l1 l3 l6 l8 l10 l11 i0 hs
def fg_388_120 (N : Nat) (x0 : Value) (x1 : Int32) (x3 : Int32) (x6 : Int64) (x8 : Int32) (x10 : Int32) (s0 : Value) (s1 : Int32) (s2 : Int32) (h : am_H) : Option am_O := (if am_pOk 12 s0 h then am_cV true (fm_335 s0 s1 s2 h) (fun h3 => (if ¬ x10 = 0 then (fg_388_132 N N x0 x1 x3 x6 x8 x10 1 h3) else some (.inl (none, h3)))) else none)
theorem rg_388_120 {X : am_X} {d : Nat} {N : Nat} {lv : am_LV} (x0 : Value) (x1 : Int32) (x3 : Int32) (x6 : Int64) (x8 : Int32) (x10 : Int32) (s0 : Value) (s1 : Int32) (s2 : Int32) (h : am_H) (o : am_O) (l0 : lv.lookup 0 = some x0) (l1 : lv.lookup 1 = some (.int x1)) (l3 : lv.lookup 3 = some (.int x3)) (l6 : lv.lookup 6 = some (.long x6)) (l8 : lv.lookup 8 = some (.int x8)) (l10 : lv.lookup 10 = some (.int x10)) (i0 : am_isR x0 = true) (j0 : am_isR s0 = true) (hs : fg_388_120 N x0 x1 x3 x6 x8 x10 s0 s1 s2 h = some o) : am_W X (d + 3) 388 120 lv [(.int s2), (.int s1), s0] h (fun q => q = o) := by
  unfold fg_388_120 at hs
  obtain ⟨z1, hs1⟩ := am_ift hs
  clear hs
  refine aw_call (F := fm_335 s0 s1 s2 h) (t := true) (na := 3) (kd := 1) (as := [s0, (.int s1), (.int s2)]) at_388_120 (am_k3v kb_335) mn_335 mk_335 rfl rfl (am_ok_v mi_335 (am_hl rfl (am_ccR j0 (am_ccI (am_ccI am_cats_0))) rfl) z1) (am_hc am_cats_0 rfl) (fun _ => ⟨rfl, hh_388⟩) (fun o1 hz9 => rm_335 s0 s1 s2 h o1 j0 hz9) ?_
  rcases am_cV_s hs1 with ⟨h3, f4, hs2⟩ | hs2
  · clear hs1
    refine Or.inl ⟨_, _, f4, ?_⟩
    show am_W X _ 388 123 _ [] h3 _
    refine aw_iload (pc1 := 125) at_388_123 l10 rfl ?_
    by_cases c5 : ¬ x10 = 0
    · rw [if_pos c5] at hs2
      refine aw_ifne_t at_388_125 c5 ?_
      refine aw_iconst (v := 1) (pc1 := 130) at_388_129 (by decide) rfl ?_
      refine aw_istore (lv1 := am_put1 _ 11 _) (pc1 := 132) at_388_130 rfl rfl ?_
      exact rg_388_132 N x0 x1 x3 x6 x8 x10 1 h3 o hs2 _ (am_lk1 l0 rfl rfl) (am_lk1 l1 rfl rfl) (am_lk1 l3 rfl rfl) (am_lk1 l6 rfl rfl) (am_lk1 l8 rfl rfl) (am_lk1 l10 rfl rfl) am_lk0 i0
    · rw [if_neg c5] at hs2
      refine aw_ifne_f (pc1 := 128) at_388_125 c5 rfl ?_
      cases hs2
      exact aw_vret at_388_128 rt_388 rfl
  · clear hs1
    exact Or.inr hs2
def fg_388_93 (N : Nat) (rec_10 : Value → Int32 → Int32 → Int32 → Int64 → Int32 → Int32 → am_H → Option am_O) (x0 : Value) (x1 : Int32) (x2 : Int32) (x3 : Int32) (x6 : Int64) (x9 : Int32) (s0 : Int32) (h : am_H) : Option am_O := (rec_10 x0 x1 x2 x3 x6 s0 x9 h)
theorem rg_388_93 {X : am_X} {d : Nat} {N : Nat} {rec_10 : Value → Int32 → Int32 → Int32 → Int64 → Int32 → Int32 → am_H → Option am_O} (q_10 : ∀ (x0 : Value) (x1 : Int32) (x2 : Int32) (x3 : Int32) (x6 : Int64) (x8 : Int32) (x9 : Int32) (h : am_H) (o : am_O), rec_10 x0 x1 x2 x3 x6 x8 x9 h = some o → ∀ lv : am_LV, (lv.lookup 0 = some x0) → (lv.lookup 1 = some (.int x1)) → (lv.lookup 2 = some (.int x2)) → (lv.lookup 3 = some (.int x3)) → (lv.lookup 6 = some (.long x6)) → (lv.lookup 8 = some (.int x8)) → (lv.lookup 9 = some (.int x9)) → (am_isR x0 = true) → am_W X (d + 3) 388 10 lv [] h (fun q => q = o)) {lv : am_LV} (x0 : Value) (x1 : Int32) (x2 : Int32) (x3 : Int32) (x6 : Int64) (x9 : Int32) (s0 : Int32) (h : am_H) (o : am_O) (l0 : lv.lookup 0 = some x0) (l1 : lv.lookup 1 = some (.int x1)) (l2 : lv.lookup 2 = some (.int x2)) (l3 : lv.lookup 3 = some (.int x3)) (l6 : lv.lookup 6 = some (.long x6)) (l9 : lv.lookup 9 = some (.int x9)) (i0 : am_isR x0 = true) (hs : fg_388_93 N rec_10 x0 x1 x2 x3 x6 x9 s0 h = some o) : am_W X (d + 3) 388 93 lv [(.int s0)] h (fun q => q = o) := by
  unfold fg_388_93 at hs
  refine aw_istore (lv1 := am_put1 _ 8 _) (pc1 := 95) at_388_93 rfl rfl ?_
  refine aw_goto at_388_95 ?_
  exact q_10 x0 x1 x2 x3 x6 s0 x9 h o hs _ (am_lk1 l0 rfl rfl) (am_lk1 l1 rfl rfl) (am_lk1 l2 rfl rfl) (am_lk1 l3 rfl rfl) (am_lk1 l6 rfl rfl) am_lk0 (am_lk1 l9 rfl rfl) i0
def fg_388_77 (N : Nat) (rec_10 : Value → Int32 → Int32 → Int32 → Int64 → Int32 → Int32 → am_H → Option am_O) (x0 : Value) (x1 : Int32) (x2 : Int32) (x3 : Int32) (x8 : Int32) (x9 : Int32) (s0 : Int64) (h : am_H) : Option am_O := (if x9 = 0 then (fg_388_93 N rec_10 x0 x1 x2 x3 s0 x9 ((x8 + 1)) h) else (fg_388_93 N rec_10 x0 x1 x2 x3 s0 x9 x8 h))
theorem rg_388_77 {X : am_X} {d : Nat} {N : Nat} {rec_10 : Value → Int32 → Int32 → Int32 → Int64 → Int32 → Int32 → am_H → Option am_O} (q_10 : ∀ (x0 : Value) (x1 : Int32) (x2 : Int32) (x3 : Int32) (x6 : Int64) (x8 : Int32) (x9 : Int32) (h : am_H) (o : am_O), rec_10 x0 x1 x2 x3 x6 x8 x9 h = some o → ∀ lv : am_LV, (lv.lookup 0 = some x0) → (lv.lookup 1 = some (.int x1)) → (lv.lookup 2 = some (.int x2)) → (lv.lookup 3 = some (.int x3)) → (lv.lookup 6 = some (.long x6)) → (lv.lookup 8 = some (.int x8)) → (lv.lookup 9 = some (.int x9)) → (am_isR x0 = true) → am_W X (d + 3) 388 10 lv [] h (fun q => q = o)) {lv : am_LV} (x0 : Value) (x1 : Int32) (x2 : Int32) (x3 : Int32) (x8 : Int32) (x9 : Int32) (s0 : Int64) (h : am_H) (o : am_O) (l0 : lv.lookup 0 = some x0) (l1 : lv.lookup 1 = some (.int x1)) (l2 : lv.lookup 2 = some (.int x2)) (l3 : lv.lookup 3 = some (.int x3)) (l8 : lv.lookup 8 = some (.int x8)) (l9 : lv.lookup 9 = some (.int x9)) (i0 : am_isR x0 = true) (hs : fg_388_77 N rec_10 x0 x1 x2 x3 x8 x9 s0 h = some o) : am_W X (d + 3) 388 77 lv [(.long s0)] h (fun q => q = o) := by
  unfold fg_388_77 at hs
  refine aw_lstore (lv1 := am_put2 _ 6 _) (pc1 := 79) at_388_77 rfl rfl ?_
  refine aw_iload (pc1 := 81) at_388_79 (am_lk2 l9 rfl rfl) rfl ?_
  by_cases c1 : x9 = 0
  · rw [if_pos c1] at hs
    refine aw_ifeq_t at_388_81 c1 ?_
    refine aw_iload (pc1 := 91) at_388_89 (am_lk2 l8 rfl rfl) rfl ?_
    refine aw_iconst (v := 1) (pc1 := 92) at_388_91 (by decide) rfl ?_
    refine aw_iadd (v := (x8 + 1)) (pc1 := 93) at_388_92 rfl rfl ?_
    exact rg_388_93 q_10 x0 x1 x2 x3 s0 x9 ((x8 + 1)) h o (am_lk2 l0 rfl rfl) (am_lk2 l1 rfl rfl) (am_lk2 l2 rfl rfl) (am_lk2 l3 rfl rfl) am_lk02 (am_lk2 l9 rfl rfl) i0 hs
  · rw [if_neg c1] at hs
    refine aw_ifeq_f (pc1 := 84) at_388_81 c1 rfl ?_
    refine aw_iload (pc1 := 86) at_388_84 (am_lk2 l8 rfl rfl) rfl ?_
    refine aw_goto at_388_86 ?_
    exact rg_388_93 q_10 x0 x1 x2 x3 s0 x9 x8 h o (am_lk2 l0 rfl rfl) (am_lk2 l1 rfl rfl) (am_lk2 l2 rfl rfl) (am_lk2 l3 rfl rfl) am_lk02 (am_lk2 l9 rfl rfl) i0 hs
def fg_388_60 (N : Nat) (rec_10 : Value → Int32 → Int32 → Int32 → Int64 → Int32 → Int32 → am_H → Option am_O) (x0 : Value) (x1 : Int32) (x2 : Int32) (x3 : Int32) (x6 : Int64) (x8 : Int32) (x10 : Int64) (s0 : Int32) (h : am_H) : Option am_O := (if s0 = 0 then (fg_388_77 N rec_10 x0 x1 x2 x3 x8 s0 ((x6 - x10)) h) else (fg_388_77 N rec_10 x0 x1 x2 x3 x8 s0 x6 h))
theorem rg_388_60 {X : am_X} {d : Nat} {N : Nat} {rec_10 : Value → Int32 → Int32 → Int32 → Int64 → Int32 → Int32 → am_H → Option am_O} (q_10 : ∀ (x0 : Value) (x1 : Int32) (x2 : Int32) (x3 : Int32) (x6 : Int64) (x8 : Int32) (x9 : Int32) (h : am_H) (o : am_O), rec_10 x0 x1 x2 x3 x6 x8 x9 h = some o → ∀ lv : am_LV, (lv.lookup 0 = some x0) → (lv.lookup 1 = some (.int x1)) → (lv.lookup 2 = some (.int x2)) → (lv.lookup 3 = some (.int x3)) → (lv.lookup 6 = some (.long x6)) → (lv.lookup 8 = some (.int x8)) → (lv.lookup 9 = some (.int x9)) → (am_isR x0 = true) → am_W X (d + 3) 388 10 lv [] h (fun q => q = o)) {lv : am_LV} (x0 : Value) (x1 : Int32) (x2 : Int32) (x3 : Int32) (x6 : Int64) (x8 : Int32) (x10 : Int64) (s0 : Int32) (h : am_H) (o : am_O) (l0 : lv.lookup 0 = some x0) (l1 : lv.lookup 1 = some (.int x1)) (l2 : lv.lookup 2 = some (.int x2)) (l3 : lv.lookup 3 = some (.int x3)) (l6 : lv.lookup 6 = some (.long x6)) (l8 : lv.lookup 8 = some (.int x8)) (l10 : lv.lookup 10 = some (.long x10)) (i0 : am_isR x0 = true) (hs : fg_388_60 N rec_10 x0 x1 x2 x3 x6 x8 x10 s0 h = some o) : am_W X (d + 3) 388 60 lv [(.int s0)] h (fun q => q = o) := by
  unfold fg_388_60 at hs
  refine aw_istore (lv1 := am_put1 _ 9 _) (pc1 := 62) at_388_60 rfl rfl ?_
  refine aw_iload (pc1 := 64) at_388_62 am_lk0 rfl ?_
  by_cases c1 : s0 = 0
  · rw [if_pos c1] at hs
    refine aw_ifeq_t at_388_64 c1 ?_
    refine aw_lload (pc1 := 74) at_388_72 (am_lk1 l6 rfl rfl) rfl ?_
    refine aw_lload (pc1 := 76) at_388_74 (am_lk1 l10 rfl rfl) rfl ?_
    refine aw_lsub (v := (x6 - x10)) (pc1 := 77) at_388_76 rfl rfl ?_
    exact rg_388_77 q_10 x0 x1 x2 x3 x8 s0 ((x6 - x10)) h o (am_lk1 l0 rfl rfl) (am_lk1 l1 rfl rfl) (am_lk1 l2 rfl rfl) (am_lk1 l3 rfl rfl) (am_lk1 l8 rfl rfl) am_lk0 i0 hs
  · rw [if_neg c1] at hs
    refine aw_ifeq_f (pc1 := 67) at_388_64 c1 rfl ?_
    refine aw_lload (pc1 := 69) at_388_67 (am_lk1 l6 rfl rfl) rfl ?_
    refine aw_goto at_388_69 ?_
    exact rg_388_77 q_10 x0 x1 x2 x3 x8 s0 x6 h o (am_lk1 l0 rfl rfl) (am_lk1 l1 rfl rfl) (am_lk1 l2 rfl rfl) (am_lk1 l3 rfl rfl) (am_lk1 l8 rfl rfl) am_lk0 i0 hs
def fg_388_45 (N : Nat) (rec_10 : Value → Int32 → Int32 → Int32 → Int64 → Int32 → Int32 → am_H → Option am_O) (x0 : Value) (x1 : Int32) (x2 : Int32) (x3 : Int32) (x6 : Int64) (x8 : Int32) (s0 : Int64) (h : am_H) : Option am_O := (if 0 ≤ (lg_cmp x6 s0) then (fg_388_60 N rec_10 x0 x1 x2 x3 x6 x8 s0 0 h) else (fg_388_60 N rec_10 x0 x1 x2 x3 x6 x8 s0 1 h))
theorem rg_388_45 {X : am_X} {d : Nat} {N : Nat} {rec_10 : Value → Int32 → Int32 → Int32 → Int64 → Int32 → Int32 → am_H → Option am_O} (q_10 : ∀ (x0 : Value) (x1 : Int32) (x2 : Int32) (x3 : Int32) (x6 : Int64) (x8 : Int32) (x9 : Int32) (h : am_H) (o : am_O), rec_10 x0 x1 x2 x3 x6 x8 x9 h = some o → ∀ lv : am_LV, (lv.lookup 0 = some x0) → (lv.lookup 1 = some (.int x1)) → (lv.lookup 2 = some (.int x2)) → (lv.lookup 3 = some (.int x3)) → (lv.lookup 6 = some (.long x6)) → (lv.lookup 8 = some (.int x8)) → (lv.lookup 9 = some (.int x9)) → (am_isR x0 = true) → am_W X (d + 3) 388 10 lv [] h (fun q => q = o)) {lv : am_LV} (x0 : Value) (x1 : Int32) (x2 : Int32) (x3 : Int32) (x6 : Int64) (x8 : Int32) (s0 : Int64) (h : am_H) (o : am_O) (l0 : lv.lookup 0 = some x0) (l1 : lv.lookup 1 = some (.int x1)) (l2 : lv.lookup 2 = some (.int x2)) (l3 : lv.lookup 3 = some (.int x3)) (l6 : lv.lookup 6 = some (.long x6)) (l8 : lv.lookup 8 = some (.int x8)) (i0 : am_isR x0 = true) (hs : fg_388_45 N rec_10 x0 x1 x2 x3 x6 x8 s0 h = some o) : am_W X (d + 3) 388 45 lv [(.long s0)] h (fun q => q = o) := by
  unfold fg_388_45 at hs
  refine aw_lstore (lv1 := am_put2 _ 10 _) (pc1 := 47) at_388_45 rfl rfl ?_
  refine aw_lload (pc1 := 49) at_388_47 (am_lk2 l6 rfl rfl) rfl ?_
  refine aw_lload (pc1 := 51) at_388_49 am_lk02 rfl ?_
  refine aw_lcmp (v := (lg_cmp x6 s0)) (pc1 := 52) at_388_51 rfl rfl ?_
  by_cases c1 : 0 ≤ (lg_cmp x6 s0)
  · rw [if_pos c1] at hs
    refine aw_ifge_t at_388_52 c1 ?_
    refine aw_iconst (v := 0) (pc1 := 60) at_388_59 (by decide) rfl ?_
    exact rg_388_60 q_10 x0 x1 x2 x3 x6 x8 s0 0 h o (am_lk2 l0 rfl rfl) (am_lk2 l1 rfl rfl) (am_lk2 l2 rfl rfl) (am_lk2 l3 rfl rfl) (am_lk2 l6 rfl rfl) (am_lk2 l8 rfl rfl) am_lk02 i0 hs
  · rw [if_neg c1] at hs
    refine aw_ifge_f (pc1 := 55) at_388_52 c1 rfl ?_
    refine aw_iconst (v := 1) (pc1 := 56) at_388_55 (by decide) rfl ?_
    refine aw_goto at_388_56 ?_
    exact rg_388_60 q_10 x0 x1 x2 x3 x6 x8 s0 1 h o (am_lk2 l0 rfl rfl) (am_lk2 l1 rfl rfl) (am_lk2 l2 rfl rfl) (am_lk2 l3 rfl rfl) (am_lk2 l6 rfl rfl) (am_lk2 l8 rfl rfl) am_lk02 i0 hs
def fg_388_30 (N : Nat) (rec_10 : Value → Int32 → Int32 → Int32 → Int64 → Int32 → Int32 → am_H → Option am_O) (x0 : Value) (x1 : Int32) (x2 : Int32) (x3 : Int32) (x6 : Int64) (x8 : Int32) (s0 : Int32) (s1 : Int32) (h : am_H) : Option am_O := (if ¬ s0 = s1 then (fg_388_45 N rec_10 x0 x1 x2 x3 x6 x8 0 h) else (if am_pOk 12 x0 h then am_cL true (fm_384 x0 x1 x8 x3 h) (fun v3 h4 => (fg_388_45 N rec_10 x0 x1 x2 x3 x6 x8 v3 h4)) else none))
theorem rg_388_30 {X : am_X} {d : Nat} {N : Nat} {rec_10 : Value → Int32 → Int32 → Int32 → Int64 → Int32 → Int32 → am_H → Option am_O} (q_10 : ∀ (x0 : Value) (x1 : Int32) (x2 : Int32) (x3 : Int32) (x6 : Int64) (x8 : Int32) (x9 : Int32) (h : am_H) (o : am_O), rec_10 x0 x1 x2 x3 x6 x8 x9 h = some o → ∀ lv : am_LV, (lv.lookup 0 = some x0) → (lv.lookup 1 = some (.int x1)) → (lv.lookup 2 = some (.int x2)) → (lv.lookup 3 = some (.int x3)) → (lv.lookup 6 = some (.long x6)) → (lv.lookup 8 = some (.int x8)) → (lv.lookup 9 = some (.int x9)) → (am_isR x0 = true) → am_W X (d + 3) 388 10 lv [] h (fun q => q = o)) {lv : am_LV} (x0 : Value) (x1 : Int32) (x2 : Int32) (x3 : Int32) (x6 : Int64) (x8 : Int32) (s0 : Int32) (s1 : Int32) (h : am_H) (o : am_O) (l0 : lv.lookup 0 = some x0) (l1 : lv.lookup 1 = some (.int x1)) (l2 : lv.lookup 2 = some (.int x2)) (l3 : lv.lookup 3 = some (.int x3)) (l6 : lv.lookup 6 = some (.long x6)) (l8 : lv.lookup 8 = some (.int x8)) (i0 : am_isR x0 = true) (hs : fg_388_30 N rec_10 x0 x1 x2 x3 x6 x8 s0 s1 h = some o) : am_W X (d + 3) 388 30 lv [(.int s1), (.int s0)] h (fun q => q = o) := by
  unfold fg_388_30 at hs
  by_cases c1 : ¬ s0 = s1
  · rw [if_pos c1] at hs
    refine aw_icne_t at_388_30 c1 ?_
    refine aw_lconst (v := 0) (pc1 := 45) at_388_44 (by decide) rfl ?_
    exact rg_388_45 q_10 x0 x1 x2 x3 x6 x8 0 h o l0 l1 l2 l3 l6 l8 i0 hs
  · rw [if_neg c1] at hs
    refine aw_icne_f (pc1 := 33) at_388_30 c1 rfl ?_
    refine aw_vload_n (pc1 := 34) at_388_33 l0 i0 rfl ?_
    refine aw_iload_n (pc1 := 35) at_388_34 l1 rfl ?_
    refine aw_iload (pc1 := 37) at_388_35 l8 rfl ?_
    refine aw_iload_n (pc1 := 38) at_388_37 l3 rfl ?_
    obtain ⟨z2, hs1⟩ := am_ift hs
    clear hs
    refine aw_call (F := fm_384 x0 x1 x8 x3 h) (t := true) (na := 4) (kd := 1) (as := [x0, (.int x1), (.int x8), (.int x3)]) at_388_38 (am_k3v kb_384) mn_384 mk_384 rfl rfl (am_ok_v mi_384 (am_hl rfl (am_ccR i0 (am_ccI (am_ccI (am_ccI am_cats_0)))) rfl) z2) (am_hc am_cats_0 rfl) (fun _ => ⟨rfl, hh_388⟩) (fun o1 hz9 => rm_384 x0 x1 x8 x3 h o1 i0 hz9) ?_
    rcases am_cL_s hs1 with ⟨v3, h4, f5, hs2⟩ | hs2
    · clear hs1
      refine Or.inl ⟨_, _, f5, ?_⟩
      show am_W X _ 388 41 _ [(.long v3)] h4 _
      refine aw_goto at_388_41 ?_
      exact rg_388_45 q_10 x0 x1 x2 x3 x6 x8 v3 h4 o l0 l1 l2 l3 l6 l8 i0 hs2
    · clear hs1
      exact Or.inr hs2
def fg_388_10 (N : Nat) : Nat → Value → Int32 → Int32 → Int32 → Int64 → Int32 → Int32 → am_H → Option am_O
  | 0 => fun _ _ _ _ _ _ _ _ => none
  | K + 1 => fun x0 x1 x2 x3 x6 x8 x9 h => (if ¬ x9 = 0 then am_cI false (fm_343 x8 h) (fun v2 h3 => (if ¬ x8 = 0 then (fg_388_120 N x0 x1 x3 x6 x8 v2 x0 x8 0 h3) else (fg_388_120 N x0 x1 x3 x6 x8 v2 x0 x8 ((Int64.toInt32 x6)) h3))) else am_cI false (fm_334 x8 h) (fun v6 h7 => (if ¬ x2 = 1 then (fg_388_30 N (fg_388_10 N K) x0 x1 x2 x3 x6 x8 v6 0 h7) else (fg_388_30 N (fg_388_10 N K) x0 x1 x2 x3 x6 x8 v6 1 h7))))
theorem rg_388_10 {X : am_X} {d : Nat} {N : Nat} : ∀ (K : Nat) (x0 : Value) (x1 : Int32) (x2 : Int32) (x3 : Int32) (x6 : Int64) (x8 : Int32) (x9 : Int32) (h : am_H) (o : am_O), fg_388_10 N K x0 x1 x2 x3 x6 x8 x9 h = some o → ∀ lv : am_LV, (lv.lookup 0 = some x0) → (lv.lookup 1 = some (.int x1)) → (lv.lookup 2 = some (.int x2)) → (lv.lookup 3 = some (.int x3)) → (lv.lookup 6 = some (.long x6)) → (lv.lookup 8 = some (.int x8)) → (lv.lookup 9 = some (.int x9)) → (am_isR x0 = true) → am_W X (d + 3) 388 10 lv [] h (fun q => q = o) := by
  intro K
  induction K with
  | zero => intro x0 x1 x2 x3 x6 x8 x9 h o hs; cases hs
  | succ K ih =>
    intro x0 x1 x2 x3 x6 x8 x9 h o hs lv l0 l1 l2 l3 l6 l8 l9 i0
    unfold fg_388_10 at hs
    refine aw_iload (pc1 := 12) at_388_10 l9 rfl ?_
    by_cases c1 : ¬ x9 = 0
    · rw [if_pos c1] at hs
      refine aw_ifne_t at_388_12 c1 ?_
      refine aw_iload (pc1 := 100) at_388_98 l8 rfl ?_
      refine aw_call (F := fm_343 x8 h) (t := false) (na := 1) (kd := 0) (as := [(.int x8)]) at_388_100 (am_k3s kb_343) mn_343 mk_343 rfl rfl (am_ok_s mi_343 (am_hl rfl (am_ccI am_cats_0) rfl)) (am_hc am_cats_0 rfl) (fun hz9 => by cases hz9) (fun o1 hz9 => rm_343 x8 h o1  hz9) ?_
      rcases am_cI_s hs with ⟨v2, h3, f4, hs1⟩ | hs1
      · clear hs
        refine Or.inl ⟨_, _, f4, ?_⟩
        show am_W X _ 388 103 _ [(.int v2)] h3 _
        refine aw_istore (lv1 := am_put1 _ 10 _) (pc1 := 105) at_388_103 rfl rfl ?_
        refine aw_vload_n (pc1 := 106) at_388_105 (am_lk1 l0 rfl rfl) i0 rfl ?_
        refine aw_iload (pc1 := 108) at_388_106 (am_lk1 l8 rfl rfl) rfl ?_
        refine aw_iload (pc1 := 110) at_388_108 (am_lk1 l8 rfl rfl) rfl ?_
        by_cases c5 : ¬ x8 = 0
        · rw [if_pos c5] at hs1
          refine aw_ifne_t at_388_110 c5 ?_
          refine aw_iconst (v := 0) (pc1 := 120) at_388_119 (by decide) rfl ?_
          exact rg_388_120 x0 x1 x3 x6 x8 v2 x0 x8 0 h3 o (am_lk1 l0 rfl rfl) (am_lk1 l1 rfl rfl) (am_lk1 l3 rfl rfl) (am_lk1 l6 rfl rfl) (am_lk1 l8 rfl rfl) am_lk0 i0 i0 hs1
        · rw [if_neg c5] at hs1
          refine aw_ifne_f (pc1 := 113) at_388_110 c5 rfl ?_
          refine aw_lload (pc1 := 115) at_388_113 (am_lk1 l6 rfl rfl) rfl ?_
          refine aw_l2i (v := (Int64.toInt32 x6)) (pc1 := 116) at_388_115 rfl rfl ?_
          refine aw_goto at_388_116 ?_
          exact rg_388_120 x0 x1 x3 x6 x8 v2 x0 x8 ((Int64.toInt32 x6)) h3 o (am_lk1 l0 rfl rfl) (am_lk1 l1 rfl rfl) (am_lk1 l3 rfl rfl) (am_lk1 l6 rfl rfl) (am_lk1 l8 rfl rfl) am_lk0 i0 i0 hs1
      · clear hs
        exact Or.inr hs1
    · rw [if_neg c1] at hs
      refine aw_ifne_f (pc1 := 15) at_388_12 c1 rfl ?_
      refine aw_iload (pc1 := 17) at_388_15 l8 rfl ?_
      refine aw_call (F := fm_334 x8 h) (t := false) (na := 1) (kd := 0) (as := [(.int x8)]) at_388_17 (am_k3s kb_334) mn_334 mk_334 rfl rfl (am_ok_s mi_334 (am_hl rfl (am_ccI am_cats_0) rfl)) (am_hc am_cats_0 rfl) (fun hz9 => by cases hz9) (fun o1 hz9 => rm_334 x8 h o1  hz9) ?_
      rcases am_cI_s hs with ⟨v6, h7, f8, hs2⟩ | hs2
      · clear hs
        refine Or.inl ⟨_, _, f8, ?_⟩
        show am_W X _ 388 20 _ [(.int v6)] h7 _
        refine aw_iload_n (pc1 := 21) at_388_20 l2 rfl ?_
        refine aw_iconst (v := 1) (pc1 := 22) at_388_21 (by decide) rfl ?_
        by_cases c9 : ¬ x2 = 1
        · rw [if_pos c9] at hs2
          refine aw_icne_t at_388_22 c9 ?_
          refine aw_iconst (v := 0) (pc1 := 30) at_388_29 (by decide) rfl ?_
          exact rg_388_30 (fun z0 z1 z2 z3 z4 z5 z6 h o hs2 => ih z0 z1 z2 z3 z4 z5 z6 h o hs2) x0 x1 x2 x3 x6 x8 v6 0 h7 o l0 l1 l2 l3 l6 l8 i0 hs2
        · rw [if_neg c9] at hs2
          refine aw_icne_f (pc1 := 25) at_388_22 c9 rfl ?_
          refine aw_iconst (v := 1) (pc1 := 26) at_388_25 (by decide) rfl ?_
          refine aw_goto at_388_26 ?_
          exact rg_388_30 (fun z0 z1 z2 z3 z4 z5 z6 h o hs2 => ih z0 z1 z2 z3 z4 z5 z6 h o hs2) x0 x1 x2 x3 x6 x8 v6 1 h7 o l0 l1 l2 l3 l6 l8 i0 hs2
      · clear hs
        exact Or.inr hs2
def fg_388_0 (N : Nat) (x0 : Value) (x1 : Int32) (x2 : Int32) (x3 : Int32) (x4 : Int64) (h : am_H) : Option am_O := (fg_388_10 N N x0 x1 x2 x3 x4 0 0 h)
theorem rg_388_0 {X : am_X} {d : Nat} {N : Nat} {lv : am_LV} (x0 : Value) (x1 : Int32) (x2 : Int32) (x3 : Int32) (x4 : Int64) (h : am_H) (o : am_O) (l0 : lv.lookup 0 = some x0) (l1 : lv.lookup 1 = some (.int x1)) (l2 : lv.lookup 2 = some (.int x2)) (l3 : lv.lookup 3 = some (.int x3)) (l4 : lv.lookup 4 = some (.long x4)) (i0 : am_isR x0 = true) (hs : fg_388_0 N x0 x1 x2 x3 x4 h = some o) : am_W X (d + 3) 388 0 lv [] h (fun q => q = o) := by
  unfold fg_388_0 at hs
  refine aw_lload (pc1 := 2) at_388_0 l4 rfl ?_
  refine aw_lstore (lv1 := am_put2 _ 6 _) (pc1 := 4) at_388_2 rfl rfl ?_
  refine aw_iconst (v := 0) (pc1 := 5) at_388_4 (by decide) rfl ?_
  refine aw_istore (lv1 := am_put1 _ 8 _) (pc1 := 7) at_388_5 rfl rfl ?_
  refine aw_iconst (v := 0) (pc1 := 8) at_388_7 (by decide) rfl ?_
  refine aw_istore (lv1 := am_put1 _ 9 _) (pc1 := 10) at_388_8 rfl rfl ?_
  exact rg_388_10 N x0 x1 x2 x3 x4 0 0 h o hs _ (am_lk1 (am_lk1 (am_lk2 l0 rfl rfl) rfl rfl) rfl rfl) (am_lk1 (am_lk1 (am_lk2 l1 rfl rfl) rfl rfl) rfl rfl) (am_lk1 (am_lk1 (am_lk2 l2 rfl rfl) rfl rfl) rfl rfl) (am_lk1 (am_lk1 (am_lk2 l3 rfl rfl) rfl rfl) rfl rfl) (am_lk1 (am_lk1 am_lk02 rfl rfl) rfl rfl) (am_lk1 am_lk0 rfl rfl) am_lk0 i0
def fm_388 (N : Nat) (y0 : Value) (y1 : Int32) (y2 : Int32) (y3 : Int32) (y4 : Int64) (h : am_H) : Option am_O := fg_388_0 N y0 y1 y2 y3 y4 h
theorem rm_388 {X : am_X} {d : Nat} {N : Nat} (y0 : Value) (y1 : Int32) (y2 : Int32) (y3 : Int32) (y4 : Int64) (h : am_H) (o : am_O) (i0 : am_isR y0 = true) (hs : fm_388 N y0 y1 y2 y3 y4 h = some o) : am_W X (d + 3) 388 0 (am_args 0 [y0, .int y1, .int y2, .int y3, .long y4]) [] h (fun q => q = o) := by
  rw [am_args_R i0, am_args_I, am_args_I, am_args_I, am_args_L]
  exact rg_388_0 y0 y1 y2 y3 y4 h o rfl rfl rfl rfl rfl i0 hs
def fg_386_18 (N : Nat) : Nat → Value → am_H → Option am_O
  | 0 => fun _ _ => none
  | K + 1 => fun x0 h => ((am_vI (am_pG 3160 x0 h)).bind fun v1 => (if v1 ≤ 0 then some (.inl (none, h)) else ((am_vI (am_pG 3160 x0 h)).bind fun v4 => ((am_pP 3160 x0 (.int (v4 - 1)) h).bind fun h6 => ((am_vR (am_pG 3156 x0 h6)).bind fun v8 => ((am_vI (am_pG 3160 x0 h6)).bind fun v10 => ((am_pA 0 v8 v10 h6).bind fun v12 => ((am_vR (am_pG 3157 x0 h6)).bind fun v14 => ((am_vI (am_pG 3160 x0 h6)).bind fun v16 => ((am_pA 0 v14 v16 h6).bind fun v18 => ((am_vR (am_pG 3158 x0 h6)).bind fun v20 => ((am_vI (am_pG 3160 x0 h6)).bind fun v22 => ((am_pA 0 v20 v22 h6).bind fun v24 => ((am_vR (am_pG 3159 x0 h6)).bind fun v26 => ((am_vI (am_pG 3160 x0 h6)).bind fun v28 => ((am_pAL v26 v28 h6).bind fun v30 => (if am_pOk 12 x0 h6 then am_cV true (fm_388 N x0 v12 v18 v24 v30 h6) (fun h34 => (fg_386_18 N K x0 h34)) else none)))))))))))))))))
theorem rg_386_18 {X : am_X} {d : Nat} {N : Nat} : ∀ (K : Nat) (x0 : Value) (h : am_H) (o : am_O), fg_386_18 N K x0 h = some o → ∀ lv : am_LV, (lv.lookup 0 = some x0) → (am_isR x0 = true) → am_W X (d + 5) 386 18 lv [] h (fun q => q = o) := by
  intro K
  induction K with
  | zero => intro x0 h o hs; cases hs
  | succ K ih =>
    intro x0 h o hs lv l0 i0
    unfold fg_386_18 at hs
    refine aw_vload_n (pc1 := 19) at_386_18 l0 i0 rfl ?_
    obtain ⟨v1, e2, hs1⟩ := am_bind hs
    clear hs
    refine aw_pG (pc1 := 22) at_386_19 (am_vI_s e2) rfl ?_
    by_cases c3 : v1 ≤ 0
    · rw [if_pos c3] at hs1
      refine aw_ifle_t at_386_22 c3 ?_
      cases hs1
      exact aw_vret at_386_78 rt_386 rfl
    · rw [if_neg c3] at hs1
      refine aw_ifle_f (pc1 := 25) at_386_22 c3 rfl ?_
      refine aw_vload_n (pc1 := 26) at_386_25 l0 i0 rfl ?_
      refine aw_vdup (pc1 := 27) at_386_26 i0 rfl ?_
      obtain ⟨v4, e5, hs2⟩ := am_bind hs1
      clear hs1
      refine aw_pG (pc1 := 30) at_386_27 (am_vI_s e5) rfl ?_
      refine aw_iconst (v := 1) (pc1 := 31) at_386_30 (by decide) rfl ?_
      refine aw_isub (v := (v4 - 1)) (pc1 := 32) at_386_31 rfl rfl ?_
      obtain ⟨h6, e7, hs3⟩ := am_bind hs2
      clear hs2
      refine aw_pP (pc1 := 35) at_386_32 e7 rfl ?_
      refine aw_vload_n (pc1 := 36) at_386_35 l0 i0 rfl ?_
      refine aw_vload_n (pc1 := 37) at_386_36 l0 i0 rfl ?_
      obtain ⟨v8, e9, hs4⟩ := am_bind hs3
      clear hs3
      refine aw_pG (pc1 := 40) at_386_37 (am_vR_s e9).1 rfl ?_
      refine aw_vload_n (pc1 := 41) at_386_40 l0 i0 rfl ?_
      obtain ⟨v10, e11, hs5⟩ := am_bind hs4
      clear hs4
      refine aw_pG (pc1 := 44) at_386_41 (am_vI_s e11) rfl ?_
      obtain ⟨v12, e13, hs6⟩ := am_bind hs5
      clear hs5
      refine aw_pA (pc1 := 45) at_386_44 (Or.inl ⟨rfl, rfl⟩) e13 rfl ?_
      refine aw_vload_n (pc1 := 46) at_386_45 l0 i0 rfl ?_
      obtain ⟨v14, e15, hs7⟩ := am_bind hs6
      clear hs6
      refine aw_pG (pc1 := 49) at_386_46 (am_vR_s e15).1 rfl ?_
      refine aw_vload_n (pc1 := 50) at_386_49 l0 i0 rfl ?_
      obtain ⟨v16, e17, hs8⟩ := am_bind hs7
      clear hs7
      refine aw_pG (pc1 := 53) at_386_50 (am_vI_s e17) rfl ?_
      obtain ⟨v18, e19, hs9⟩ := am_bind hs8
      clear hs8
      refine aw_pA (pc1 := 54) at_386_53 (Or.inl ⟨rfl, rfl⟩) e19 rfl ?_
      refine aw_vload_n (pc1 := 55) at_386_54 l0 i0 rfl ?_
      obtain ⟨v20, e21, hs10⟩ := am_bind hs9
      clear hs9
      refine aw_pG (pc1 := 58) at_386_55 (am_vR_s e21).1 rfl ?_
      refine aw_vload_n (pc1 := 59) at_386_58 l0 i0 rfl ?_
      obtain ⟨v22, e23, hs11⟩ := am_bind hs10
      clear hs10
      refine aw_pG (pc1 := 62) at_386_59 (am_vI_s e23) rfl ?_
      obtain ⟨v24, e25, hs12⟩ := am_bind hs11
      clear hs11
      refine aw_pA (pc1 := 63) at_386_62 (Or.inl ⟨rfl, rfl⟩) e25 rfl ?_
      refine aw_vload_n (pc1 := 64) at_386_63 l0 i0 rfl ?_
      obtain ⟨v26, e27, hs13⟩ := am_bind hs12
      clear hs12
      refine aw_pG (pc1 := 67) at_386_64 (am_vR_s e27).1 rfl ?_
      refine aw_vload_n (pc1 := 68) at_386_67 l0 i0 rfl ?_
      obtain ⟨v28, e29, hs14⟩ := am_bind hs13
      clear hs13
      refine aw_pG (pc1 := 71) at_386_68 (am_vI_s e29) rfl ?_
      obtain ⟨v30, e31, hs15⟩ := am_bind hs14
      clear hs14
      refine aw_pAL (pc1 := 72) at_386_71 e31 rfl ?_
      obtain ⟨z32, hs16⟩ := am_ift hs15
      clear hs15
      refine aw_call (F := fm_388 N x0 v12 v18 v24 v30 h6) (t := true) (na := 5) (kd := 1) (as := [x0, (.int v12), (.int v18), (.int v24), (.long v30)]) at_386_72 (am_k3v kb_388) mn_388 mk_388 rfl rfl (am_ok_v mi_388 (am_hl rfl (am_ccR i0 (am_ccI (am_ccI (am_ccI (am_ccL am_cats_0))))) rfl) z32) (am_hc am_cats_0 rfl) (fun _ => ⟨rfl, hh_386⟩) (fun o1 hz9 => rm_388 x0 v12 v18 v24 v30 h6 o1 i0 hz9) ?_
      rcases am_cV_s hs16 with ⟨h34, f35, hs17⟩ | hs17
      · clear hs16
        refine Or.inl ⟨_, _, f35, ?_⟩
        show am_W X _ 386 75 _ [] h34 _
        refine aw_goto at_386_75 ?_
        exact ih x0 h34 o hs17 _ l0 i0
      · clear hs16
        exact Or.inr hs17
def fg_386_0 (N : Nat) (x0 : Value) (x1 : Int32) (x2 : Int32) (x3 : Int32) (x4 : Int64) (h : am_H) : Option am_O := (if am_pOk 12 x0 h then am_cV true (fm_377 N x0 h) (fun h3 => ((am_pP 3160 x0 (.int 0) h3).bind fun h5 => (if am_pOk 12 x0 h5 then am_cV true (fm_387 x0 x1 x2 x3 x4 h5) (fun h9 => (fg_386_18 N N x0 h9)) else none))) else none)
theorem rg_386_0 {X : am_X} {d : Nat} {N : Nat} {lv : am_LV} (x0 : Value) (x1 : Int32) (x2 : Int32) (x3 : Int32) (x4 : Int64) (h : am_H) (o : am_O) (l0 : lv.lookup 0 = some x0) (l1 : lv.lookup 1 = some (.int x1)) (l2 : lv.lookup 2 = some (.int x2)) (l3 : lv.lookup 3 = some (.int x3)) (l4 : lv.lookup 4 = some (.long x4)) (i0 : am_isR x0 = true) (hs : fg_386_0 N x0 x1 x2 x3 x4 h = some o) : am_W X (d + 5) 386 0 lv [] h (fun q => q = o) := by
  unfold fg_386_0 at hs
  refine aw_vload_n (pc1 := 1) at_386_0 l0 i0 rfl ?_
  obtain ⟨z1, hs1⟩ := am_ift hs
  clear hs
  refine aw_call (F := fm_377 N x0 h) (t := true) (na := 1) (kd := 1) (as := [x0]) at_386_1 (am_k3v kb_377) mn_377 mk_377 rfl rfl (am_ok_v mi_377 (am_hl rfl (am_ccR i0 am_cats_0) rfl) z1) (am_hc am_cats_0 rfl) (fun _ => ⟨rfl, hh_386⟩) (fun o1 hz9 => rm_377 x0 h o1 i0 hz9) ?_
  rcases am_cV_s hs1 with ⟨h3, f4, hs2⟩ | hs2
  · clear hs1
    refine Or.inl ⟨_, _, f4, ?_⟩
    show am_W X _ 386 4 _ [] h3 _
    refine aw_vload_n (pc1 := 5) at_386_4 l0 i0 rfl ?_
    refine aw_iconst (v := 0) (pc1 := 6) at_386_5 (by decide) rfl ?_
    obtain ⟨h5, e6, hs3⟩ := am_bind hs2
    clear hs2
    refine aw_pP (pc1 := 9) at_386_6 e6 rfl ?_
    refine aw_vload_n (pc1 := 10) at_386_9 l0 i0 rfl ?_
    refine aw_iload_n (pc1 := 11) at_386_10 l1 rfl ?_
    refine aw_iload_n (pc1 := 12) at_386_11 l2 rfl ?_
    refine aw_iload_n (pc1 := 13) at_386_12 l3 rfl ?_
    refine aw_lload (pc1 := 15) at_386_13 l4 rfl ?_
    obtain ⟨z7, hs4⟩ := am_ift hs3
    clear hs3
    refine aw_call (F := fm_387 x0 x1 x2 x3 x4 h5) (t := true) (na := 5) (kd := 1) (as := [x0, (.int x1), (.int x2), (.int x3), (.long x4)]) at_386_15 (am_k3v kb_387) mn_387 mk_387 rfl rfl (am_ok_v mi_387 (am_hl rfl (am_ccR i0 (am_ccI (am_ccI (am_ccI (am_ccL am_cats_0))))) rfl) z7) (am_hc am_cats_0 rfl) (fun _ => ⟨rfl, hh_386⟩) (fun o1 hz9 => rm_387 x0 x1 x2 x3 x4 h5 o1 i0 hz9) ?_
    rcases am_cV_s hs4 with ⟨h9, f10, hs5⟩ | hs5
    · clear hs4
      refine Or.inl ⟨_, _, f10, ?_⟩
      show am_W X _ 386 18 _ [] h9 _
      exact rg_386_18 N x0 h9 o hs5 _ l0 i0
    · clear hs4
      exact Or.inr hs5
  · clear hs1
    exact Or.inr hs2
def fm_386 (N : Nat) (y0 : Value) (y1 : Int32) (y2 : Int32) (y3 : Int32) (y4 : Int64) (h : am_H) : Option am_O := fg_386_0 N y0 y1 y2 y3 y4 h
theorem rm_386 {X : am_X} {d : Nat} {N : Nat} (y0 : Value) (y1 : Int32) (y2 : Int32) (y3 : Int32) (y4 : Int64) (h : am_H) (o : am_O) (i0 : am_isR y0 = true) (hs : fm_386 N y0 y1 y2 y3 y4 h = some o) : am_W X (d + 5) 386 0 (am_args 0 [y0, .int y1, .int y2, .int y3, .long y4]) [] h (fun q => q = o) := by
  rw [am_args_R i0, am_args_I, am_args_I, am_args_I, am_args_L]
  exact rg_386_0 y0 y1 y2 y3 y4 h o rfl rfl rfl rfl rfl i0 hs
def fg_385_69 (N : Nat) (x0 : Value) (x1 : Int32) (x2 : Int64) (s0 : Value) (s1 : Int32) (h : am_H) : Option am_O := ((am_pP 3072 s0 (.int s1) h).bind fun h1 => ((am_vI (am_pG 3072 x0 h1)).bind fun v3 => (if v3 ≤ 0 then ((am_pP 3085 x0 (.int 0) h1).bind fun h6 => ((am_pP 3086 x0 (.int 0) h6).bind fun h8 => (if am_pOk 12 x0 h8 then am_cV true (fm_386 N x0 0 0 x1 x2 h8) (fun h12 => (if am_pOk 12 x0 h12 then am_cI true (fm_356 N x0 1 ((-1)) ((-1)) ((-1)) ((-1)) 0 h12) (fun v15 h16 => some (.inl (some (.int v15), h16))) else none)) else none))) else some (.inl (some (.int 0), h1)))))
theorem rg_385_69 {X : am_X} {d : Nat} {N : Nat} {lv : am_LV} (x0 : Value) (x1 : Int32) (x2 : Int64) (s0 : Value) (s1 : Int32) (h : am_H) (o : am_O) (l0 : lv.lookup 0 = some x0) (l1 : lv.lookup 1 = some (.int x1)) (l2 : lv.lookup 2 = some (.long x2)) (i0 : am_isR x0 = true) (j0 : am_isR s0 = true) (hs : fg_385_69 N x0 x1 x2 s0 s1 h = some o) : am_W X (d + 6) 385 69 lv [(.int s1), s0] h (fun q => q = o) := by
  unfold fg_385_69 at hs
  obtain ⟨h1, e2, hs1⟩ := am_bind hs
  clear hs
  refine aw_pP (pc1 := 72) at_385_69 e2 rfl ?_
  refine aw_vload_n (pc1 := 73) at_385_72 l0 i0 rfl ?_
  obtain ⟨v3, e4, hs2⟩ := am_bind hs1
  clear hs1
  refine aw_pG (pc1 := 76) at_385_73 (am_vI_s e4) rfl ?_
  by_cases c5 : v3 ≤ 0
  · rw [if_pos c5] at hs2
    refine aw_ifle_t at_385_76 c5 ?_
    refine aw_vload_n (pc1 := 82) at_385_81 l0 i0 rfl ?_
    refine aw_iconst (v := 0) (pc1 := 83) at_385_82 (by decide) rfl ?_
    obtain ⟨h6, e7, hs3⟩ := am_bind hs2
    clear hs2
    refine aw_pP (pc1 := 86) at_385_83 e7 rfl ?_
    refine aw_vload_n (pc1 := 87) at_385_86 l0 i0 rfl ?_
    refine aw_iconst (v := 0) (pc1 := 88) at_385_87 (by decide) rfl ?_
    obtain ⟨h8, e9, hs4⟩ := am_bind hs3
    clear hs3
    refine aw_pP (pc1 := 91) at_385_88 e9 rfl ?_
    refine aw_vload_n (pc1 := 92) at_385_91 l0 i0 rfl ?_
    refine aw_iconst (v := 0) (pc1 := 93) at_385_92 (by decide) rfl ?_
    refine aw_iconst (v := 0) (pc1 := 94) at_385_93 (by decide) rfl ?_
    refine aw_iload_n (pc1 := 95) at_385_94 l1 rfl ?_
    refine aw_lload_n (pc1 := 96) at_385_95 l2 rfl ?_
    obtain ⟨z10, hs5⟩ := am_ift hs4
    clear hs4
    refine aw_call (F := fm_386 N x0 0 0 x1 x2 h8) (t := true) (na := 5) (kd := 1) (as := [x0, (.int 0), (.int 0), (.int x1), (.long x2)]) at_385_96 (am_k3v kb_386) mn_386 mk_386 rfl rfl (am_ok_v mi_386 (am_hl rfl (am_ccR i0 (am_ccI (am_ccI (am_ccI (am_ccL am_cats_0))))) rfl) z10) (am_hc am_cats_0 rfl) (fun _ => ⟨rfl, hh_385⟩) (fun o1 hz9 => rm_386 x0 0 0 x1 x2 h8 o1 i0 hz9) ?_
    rcases am_cV_s hs5 with ⟨h12, f13, hs6⟩ | hs6
    · clear hs5
      refine Or.inl ⟨_, _, f13, ?_⟩
      show am_W X _ 385 99 _ [] h12 _
      refine aw_vload_n (pc1 := 100) at_385_99 l0 i0 rfl ?_
      refine aw_iconst (v := 1) (pc1 := 101) at_385_100 (by decide) rfl ?_
      refine aw_iconst (v := (-1)) (pc1 := 102) at_385_101 (by decide) rfl ?_
      refine aw_iconst (v := (-1)) (pc1 := 103) at_385_102 (by decide) rfl ?_
      refine aw_iconst (v := (-1)) (pc1 := 104) at_385_103 (by decide) rfl ?_
      refine aw_iconst (v := (-1)) (pc1 := 105) at_385_104 (by decide) rfl ?_
      refine aw_lconst (v := 0) (pc1 := 106) at_385_105 (by decide) rfl ?_
      obtain ⟨z14, hs7⟩ := am_ift hs6
      clear hs6
      refine aw_call (F := fm_356 N x0 1 ((-1)) ((-1)) ((-1)) ((-1)) 0 h12) (t := true) (na := 7) (kd := 1) (as := [x0, (.int 1), (.int (-1)), (.int (-1)), (.int (-1)), (.int (-1)), (.long 0)]) at_385_106 (am_k3v kb_356) mn_356 mk_356 rfl rfl (am_ok_v mi_356 (am_hl rfl (am_ccR i0 (am_ccI (am_ccI (am_ccI (am_ccI (am_ccI (am_ccL am_cats_0))))))) rfl) z14) (am_hc am_cats_0 rfl) (fun _ => ⟨rfl, hh_385⟩) (fun o1 hz9 => rm_356 x0 1 ((-1)) ((-1)) ((-1)) ((-1)) 0 h12 o1 i0 hz9) ?_
      rcases am_cI_s hs7 with ⟨v15, h16, f17, hs8⟩ | hs8
      · clear hs7
        refine Or.inl ⟨_, _, f17, ?_⟩
        show am_W X _ 385 109 _ [(.int v15)] h16 _
        cases hs8
        exact aw_iret at_385_109 (by rw [rt_385]; rfl) rfl
      · clear hs7
        exact Or.inr hs8
    · clear hs5
      exact Or.inr hs6
  · rw [if_neg c5] at hs2
    refine aw_ifle_f (pc1 := 79) at_385_76 c5 rfl ?_
    refine aw_iconst (v := 0) (pc1 := 80) at_385_79 (by decide) rfl ?_
    cases hs2
    exact aw_iret at_385_80 (by rw [rt_385]; rfl) rfl
def fg_385_50 (N : Nat) (x0 : Value) (x1 : Int32) (x2 : Int64) (s0 : Value) (h : am_H) : Option am_O := (fg_385_69 N x0 x1 x2 s0 1 h)
theorem rg_385_50 {X : am_X} {d : Nat} {N : Nat} {lv : am_LV} (x0 : Value) (x1 : Int32) (x2 : Int64) (s0 : Value) (h : am_H) (o : am_O) (l0 : lv.lookup 0 = some x0) (l1 : lv.lookup 1 = some (.int x1)) (l2 : lv.lookup 2 = some (.long x2)) (i0 : am_isR x0 = true) (j0 : am_isR s0 = true) (hs : fg_385_50 N x0 x1 x2 s0 h = some o) : am_W X (d + 6) 385 50 lv [s0] h (fun q => q = o) := by
  unfold fg_385_50 at hs
  refine aw_iconst (v := 1) (pc1 := 51) at_385_50 (by decide) rfl ?_
  refine aw_goto at_385_51 ?_
  exact rg_385_69 x0 x1 x2 s0 1 h o l0 l1 l2 i0 j0 hs
def fg_385_39 (N : Nat) (x0 : Value) (x1 : Int32) (x2 : Int64) (s0 : Value) (s1 : Int64) (s2 : Int64) (s3 : Value) (s4 : Int32) (s5 : Int32) (s6 : Int32) (h : am_H) : Option am_O := (if am_pOk 12 s3 h then am_cL true (fm_383 s3 s4 s5 s6 h) (fun v2 h3 => am_cI false (fm_327 s1 s2 ((v2 - 1)) h3) (fun v5 h6 => (if ¬ v5 = 0 then ((am_vI (am_pG 3073 x0 h6)).bind fun v9 => (if ¬ v9 = 600 then (fg_385_69 N x0 x1 x2 s0 0 h6) else (fg_385_69 N x0 x1 x2 s0 2 h6))) else (fg_385_50 N x0 x1 x2 s0 h6)))) else none)
theorem rg_385_39 {X : am_X} {d : Nat} {N : Nat} {lv : am_LV} (x0 : Value) (x1 : Int32) (x2 : Int64) (s0 : Value) (s1 : Int64) (s2 : Int64) (s3 : Value) (s4 : Int32) (s5 : Int32) (s6 : Int32) (h : am_H) (o : am_O) (l0 : lv.lookup 0 = some x0) (l1 : lv.lookup 1 = some (.int x1)) (l2 : lv.lookup 2 = some (.long x2)) (i0 : am_isR x0 = true) (j0 : am_isR s0 = true) (j3 : am_isR s3 = true) (hs : fg_385_39 N x0 x1 x2 s0 s1 s2 s3 s4 s5 s6 h = some o) : am_W X (d + 6) 385 39 lv [(.int s6), (.int s5), (.int s4), s3, (.long s2), (.long s1), s0] h (fun q => q = o) := by
  unfold fg_385_39 at hs
  obtain ⟨z1, hs1⟩ := am_ift hs
  clear hs
  refine aw_call (F := fm_383 s3 s4 s5 s6 h) (t := true) (na := 4) (kd := 1) (as := [s3, (.int s4), (.int s5), (.int s6)]) at_385_39 (am_k3v kb_383) mn_383 mk_383 rfl rfl (am_ok_v mi_383 (am_hl rfl (am_ccR j3 (am_ccI (am_ccI (am_ccI am_cats_0)))) rfl) z1) (am_hc (am_ccL (am_ccL (am_ccR j0 am_cats_0))) rfl) (fun _ => ⟨rfl, hh_385⟩) (fun o1 hz9 => rm_383 s3 s4 s5 s6 h o1 j3 hz9) ?_
  rcases am_cL_s hs1 with ⟨v2, h3, f4, hs2⟩ | hs2
  · clear hs1
    refine Or.inl ⟨_, _, f4, ?_⟩
    show am_W X _ 385 42 _ [(.long v2), (.long s2), (.long s1), s0] h3 _
    refine aw_lconst (v := 1) (pc1 := 43) at_385_42 (by decide) rfl ?_
    refine aw_lsub (v := (v2 - 1)) (pc1 := 44) at_385_43 rfl rfl ?_
    refine aw_call (F := fm_327 s1 s2 ((v2 - 1)) h3) (t := false) (na := 3) (kd := 0) (as := [(.long s1), (.long s2), (.long (v2 - 1))]) at_385_44 (am_k3s kb_327) mn_327 mk_327 rfl rfl (am_ok_s mi_327 (am_hl rfl (am_ccL (am_ccL (am_ccL am_cats_0))) rfl)) (am_hc (am_ccR j0 am_cats_0) rfl) (fun hz9 => by cases hz9) (fun o1 hz9 => rm_327 s1 s2 ((v2 - 1)) h3 o1  hz9) ?_
    rcases am_cI_s hs2 with ⟨v5, h6, f7, hs3⟩ | hs3
    · clear hs2
      refine Or.inl ⟨_, _, f7, ?_⟩
      show am_W X _ 385 47 _ [(.int v5), s0] h6 _
      by_cases c8 : ¬ v5 = 0
      · rw [if_pos c8] at hs3
        refine aw_ifne_t at_385_47 c8 ?_
        refine aw_vload_n (pc1 := 55) at_385_54 l0 i0 rfl ?_
        obtain ⟨v9, e10, hs4⟩ := am_bind hs3
        clear hs3
        refine aw_pG (pc1 := 58) at_385_55 (am_vI_s e10) rfl ?_
        refine aw_sipush (v := 600) (pc1 := 61) at_385_58 (by decide) rfl ?_
        by_cases c11 : ¬ v9 = 600
        · rw [if_pos c11] at hs4
          refine aw_icne_t at_385_61 c11 ?_
          refine aw_iconst (v := 0) (pc1 := 69) at_385_68 (by decide) rfl ?_
          exact rg_385_69 x0 x1 x2 s0 0 h6 o l0 l1 l2 i0 j0 hs4
        · rw [if_neg c11] at hs4
          refine aw_icne_f (pc1 := 64) at_385_61 c11 rfl ?_
          refine aw_iconst (v := 2) (pc1 := 65) at_385_64 (by decide) rfl ?_
          refine aw_goto at_385_65 ?_
          exact rg_385_69 x0 x1 x2 s0 2 h6 o l0 l1 l2 i0 j0 hs4
      · rw [if_neg c8] at hs3
        refine aw_ifne_f (pc1 := 50) at_385_47 c8 rfl ?_
        exact rg_385_50 x0 x1 x2 s0 h6 o l0 l1 l2 i0 j0 hs3
    · clear hs2
      exact Or.inr hs3
  · clear hs1
    exact Or.inr hs2
def fg_385_0 (N : Nat) (x0 : Value) (x1 : Int32) (x2 : Int64) (h : am_H) : Option am_O := (if am_pOk 12 x0 h then am_cV true (fm_377 N x0 h) (fun h3 => am_cI false (fm_327 ((Int32.toInt64 x1)) 1 12 h3) (fun v5 h6 => (if v5 = 0 then (fg_385_50 N x0 x1 x2 x0 h6) else am_cI false (fm_327 ((Int32.toInt64 x1)) 1 12 h6) (fun v9 h10 => (if v9 = 0 then (fg_385_39 N x0 x1 x2 x0 x2 0 x0 0 0 1 h10) else (fg_385_39 N x0 x1 x2 x0 x2 0 x0 0 0 x1 h10)))))) else none)
theorem rg_385_0 {X : am_X} {d : Nat} {N : Nat} {lv : am_LV} (x0 : Value) (x1 : Int32) (x2 : Int64) (h : am_H) (o : am_O) (l0 : lv.lookup 0 = some x0) (l1 : lv.lookup 1 = some (.int x1)) (l2 : lv.lookup 2 = some (.long x2)) (i0 : am_isR x0 = true) (hs : fg_385_0 N x0 x1 x2 h = some o) : am_W X (d + 6) 385 0 lv [] h (fun q => q = o) := by
  unfold fg_385_0 at hs
  refine aw_vload_n (pc1 := 1) at_385_0 l0 i0 rfl ?_
  obtain ⟨z1, hs1⟩ := am_ift hs
  clear hs
  refine aw_call (F := fm_377 N x0 h) (t := true) (na := 1) (kd := 1) (as := [x0]) at_385_1 (am_k3v kb_377) mn_377 mk_377 rfl rfl (am_ok_v mi_377 (am_hl rfl (am_ccR i0 am_cats_0) rfl) z1) (am_hc am_cats_0 rfl) (fun _ => ⟨rfl, hh_385⟩) (fun o1 hz9 => rm_377 x0 h o1 i0 hz9) ?_
  rcases am_cV_s hs1 with ⟨h3, f4, hs2⟩ | hs2
  · clear hs1
    refine Or.inl ⟨_, _, f4, ?_⟩
    show am_W X _ 385 4 _ [] h3 _
    refine aw_vload_n (pc1 := 5) at_385_4 l0 i0 rfl ?_
    refine aw_iload_n (pc1 := 6) at_385_5 l1 rfl ?_
    refine aw_i2l (v := (Int32.toInt64 x1)) (pc1 := 7) at_385_6 rfl rfl ?_
    refine aw_lconst (v := 1) (pc1 := 8) at_385_7 (by decide) rfl ?_
    refine aw_ldc2 (v := 12) (pc1 := 11) at_385_8 rfl rfl ?_
    refine aw_call (F := fm_327 ((Int32.toInt64 x1)) 1 12 h3) (t := false) (na := 3) (kd := 0) (as := [(.long (Int32.toInt64 x1)), (.long 1), (.long 12)]) at_385_11 (am_k3s kb_327) mn_327 mk_327 rfl rfl (am_ok_s mi_327 (am_hl rfl (am_ccL (am_ccL (am_ccL am_cats_0))) rfl)) (am_hc (am_ccR i0 am_cats_0) rfl) (fun hz9 => by cases hz9) (fun o1 hz9 => rm_327 ((Int32.toInt64 x1)) 1 12 h3 o1  hz9) ?_
    rcases am_cI_s hs2 with ⟨v5, h6, f7, hs3⟩ | hs3
    · clear hs2
      refine Or.inl ⟨_, _, f7, ?_⟩
      show am_W X _ 385 14 _ [(.int v5), x0] h6 _
      by_cases c8 : v5 = 0
      · rw [if_pos c8] at hs3
        refine aw_ifeq_t at_385_14 c8 ?_
        exact rg_385_50 x0 x1 x2 x0 h6 o l0 l1 l2 i0 i0 hs3
      · rw [if_neg c8] at hs3
        refine aw_ifeq_f (pc1 := 17) at_385_14 c8 rfl ?_
        refine aw_lload_n (pc1 := 18) at_385_17 l2 rfl ?_
        refine aw_lconst (v := 0) (pc1 := 19) at_385_18 (by decide) rfl ?_
        refine aw_vload_n (pc1 := 20) at_385_19 l0 i0 rfl ?_
        refine aw_iconst (v := 0) (pc1 := 21) at_385_20 (by decide) rfl ?_
        refine aw_iconst (v := 0) (pc1 := 22) at_385_21 (by decide) rfl ?_
        refine aw_iload_n (pc1 := 23) at_385_22 l1 rfl ?_
        refine aw_i2l (v := (Int32.toInt64 x1)) (pc1 := 24) at_385_23 rfl rfl ?_
        refine aw_lconst (v := 1) (pc1 := 25) at_385_24 (by decide) rfl ?_
        refine aw_ldc2 (v := 12) (pc1 := 28) at_385_25 rfl rfl ?_
        refine aw_call (F := fm_327 ((Int32.toInt64 x1)) 1 12 h6) (t := false) (na := 3) (kd := 0) (as := [(.long (Int32.toInt64 x1)), (.long 1), (.long 12)]) at_385_28 (am_k3s kb_327) mn_327 mk_327 rfl rfl (am_ok_s mi_327 (am_hl rfl (am_ccL (am_ccL (am_ccL am_cats_0))) rfl)) (am_hc (am_ccI (am_ccI (am_ccR i0 (am_ccL (am_ccL (am_ccR i0 am_cats_0)))))) rfl) (fun hz9 => by cases hz9) (fun o1 hz9 => rm_327 ((Int32.toInt64 x1)) 1 12 h6 o1  hz9) ?_
        rcases am_cI_s hs3 with ⟨v9, h10, f11, hs4⟩ | hs4
        · clear hs3
          refine Or.inl ⟨_, _, f11, ?_⟩
          show am_W X _ 385 31 _ [(.int v9), (.int 0), (.int 0), x0, (.long 0), (.long x2), x0] h10 _
          by_cases c12 : v9 = 0
          · rw [if_pos c12] at hs4
            refine aw_ifeq_t at_385_31 c12 ?_
            refine aw_iconst (v := 1) (pc1 := 39) at_385_38 (by decide) rfl ?_
            exact rg_385_39 x0 x1 x2 x0 x2 0 x0 0 0 1 h10 o l0 l1 l2 i0 i0 i0 hs4
          · rw [if_neg c12] at hs4
            refine aw_ifeq_f (pc1 := 34) at_385_31 c12 rfl ?_
            refine aw_iload_n (pc1 := 35) at_385_34 l1 rfl ?_
            refine aw_goto at_385_35 ?_
            exact rg_385_39 x0 x1 x2 x0 x2 0 x0 0 0 x1 h10 o l0 l1 l2 i0 i0 i0 hs4
        · clear hs3
          exact Or.inr hs4
    · clear hs2
      exact Or.inr hs3
  · clear hs1
    exact Or.inr hs2
def fm_385 (N : Nat) (y0 : Value) (y1 : Int32) (y2 : Int64) (h : am_H) : Option am_O := fg_385_0 N y0 y1 y2 h
theorem rm_385 {X : am_X} {d : Nat} {N : Nat} (y0 : Value) (y1 : Int32) (y2 : Int64) (h : am_H) (o : am_O) (i0 : am_isR y0 = true) (hs : fm_385 N y0 y1 y2 h = some o) : am_W X (d + 6) 385 0 (am_args 0 [y0, .int y1, .long y2]) [] h (fun q => q = o) := by
  rw [am_args_R i0, am_args_I, am_args_L]
  exact rg_385_0 y0 y1 y2 h o rfl rfl rfl i0 hs
def fg_100_25 (s0 : Int32) (h : am_H) : Option am_O := some (.inl (some (.int s0), h))
theorem rg_100_25 {X : am_X} {d : Nat} {lv : am_LV} (s0 : Int32) (h : am_H) (o : am_O) (hs : fg_100_25 s0 h = some o) : am_W X (d) 100 25 lv [(.int s0)] h (fun q => q = o) := by
  unfold fg_100_25 at hs
  cases hs
  exact aw_iret at_100_25 (by rw [rt_100]; rfl) rfl
def fg_100_21 (x0 : Value) (h : am_H) : Option am_O := ((am_vI (am_pG 1799 x0 h)).bind fun v1 => (fg_100_25 v1 h))
theorem rg_100_21 {X : am_X} {d : Nat} {lv : am_LV} (x0 : Value) (h : am_H) (o : am_O) (l0 : lv.lookup 0 = some x0) (i0 : am_isR x0 = true) (hs : fg_100_21 x0 h = some o) : am_W X (d) 100 21 lv [] h (fun q => q = o) := by
  unfold fg_100_21 at hs
  refine aw_vload_n (pc1 := 22) at_100_21 l0 i0 rfl ?_
  obtain ⟨v1, e2, hs1⟩ := am_bind hs
  clear hs
  refine aw_pG (pc1 := 25) at_100_22 (am_vI_s e2) rfl ?_
  exact rg_100_25 v1 h o   hs1
def fg_100_0 (x0 : Value) (x1 : Int32) (h : am_H) : Option am_O := (if x1 < 0 then (fg_100_21 x0 h) else ((am_vI (am_pG 1799 x0 h)).bind fun v2 => (if v2 ≤ x1 then (fg_100_21 x0 h) else ((am_vR (am_pG 1792 x0 h)).bind fun v5 => ((am_pA 0 v5 x1 h).bind fun v7 => (fg_100_25 v7 h))))))
theorem rg_100_0 {X : am_X} {d : Nat} {lv : am_LV} (x0 : Value) (x1 : Int32) (h : am_H) (o : am_O) (l0 : lv.lookup 0 = some x0) (l1 : lv.lookup 1 = some (.int x1)) (i0 : am_isR x0 = true) (hs : fg_100_0 x0 x1 h = some o) : am_W X (d) 100 0 lv [] h (fun q => q = o) := by
  unfold fg_100_0 at hs
  refine aw_iload_n (pc1 := 1) at_100_0 l1 rfl ?_
  by_cases c1 : x1 < 0
  · rw [if_pos c1] at hs
    refine aw_iflt_t at_100_1 c1 ?_
    exact rg_100_21 x0 h o l0 i0 hs
  · rw [if_neg c1] at hs
    refine aw_iflt_f (pc1 := 4) at_100_1 c1 rfl ?_
    refine aw_iload_n (pc1 := 5) at_100_4 l1 rfl ?_
    refine aw_vload_n (pc1 := 6) at_100_5 l0 i0 rfl ?_
    obtain ⟨v2, e3, hs1⟩ := am_bind hs
    clear hs
    refine aw_pG (pc1 := 9) at_100_6 (am_vI_s e3) rfl ?_
    by_cases c4 : v2 ≤ x1
    · rw [if_pos c4] at hs1
      refine aw_icge_t at_100_9 c4 ?_
      exact rg_100_21 x0 h o l0 i0 hs1
    · rw [if_neg c4] at hs1
      refine aw_icge_f (pc1 := 12) at_100_9 c4 rfl ?_
      refine aw_vload_n (pc1 := 13) at_100_12 l0 i0 rfl ?_
      obtain ⟨v5, e6, hs2⟩ := am_bind hs1
      clear hs1
      refine aw_pG (pc1 := 16) at_100_13 (am_vR_s e6).1 rfl ?_
      refine aw_iload_n (pc1 := 17) at_100_16 l1 rfl ?_
      obtain ⟨v7, e8, hs3⟩ := am_bind hs2
      clear hs2
      refine aw_pA (pc1 := 18) at_100_17 (Or.inl ⟨rfl, rfl⟩) e8 rfl ?_
      refine aw_goto at_100_18 ?_
      exact rg_100_25 v7 h o   hs3
def fm_100 (y0 : Value) (y1 : Int32) (h : am_H) : Option am_O := fg_100_0 y0 y1 h
theorem rm_100 {X : am_X} {d : Nat} (y0 : Value) (y1 : Int32) (h : am_H) (o : am_O) (i0 : am_isR y0 = true) (hs : fm_100 y0 y1 h = some o) : am_W X (d) 100 0 (am_args 0 [y0, .int y1]) [] h (fun q => q = o) := by
  rw [am_args_R i0, am_args_I]
  exact rg_100_0 y0 y1 h o rfl rfl i0 hs
def fg_101_6 (N : Nat) : Nat → Value → Int32 → Int32 → Int32 → Int32 → Int64 → Int32 → am_H → Option am_O
  | 0 => fun _ _ _ _ _ _ _ _ => none
  | K + 1 => fun x0 x1 x2 x3 x4 x5 x7 h => (if x4 ≤ x7 then some (.inl (some (.long x5), h)) else (if am_pOk 4 x0 h then am_cL true (fm_15 x0 x1 x7 h) (fun v3 h4 => (if am_pOk 4 x0 h4 then am_cL true (fm_15 x0 x2 ((x3 - x7)) h4) (fun v7 h8 => (fg_101_6 N K x0 x1 x2 x3 x4 ((x5 + (v3 * v7))) ((x7 + 1)) h8)) else none)) else none))
theorem rg_101_6 {X : am_X} {d : Nat} {N : Nat} : ∀ (K : Nat) (x0 : Value) (x1 : Int32) (x2 : Int32) (x3 : Int32) (x4 : Int32) (x5 : Int64) (x7 : Int32) (h : am_H) (o : am_O), fg_101_6 N K x0 x1 x2 x3 x4 x5 x7 h = some o → ∀ lv : am_LV, (lv.lookup 0 = some x0) → (lv.lookup 1 = some (.int x1)) → (lv.lookup 2 = some (.int x2)) → (lv.lookup 3 = some (.int x3)) → (lv.lookup 4 = some (.int x4)) → (lv.lookup 5 = some (.long x5)) → (lv.lookup 7 = some (.int x7)) → (am_isR x0 = true) → am_W X (d + 1) 101 6 lv [] h (fun q => q = o) := by
  intro K
  induction K with
  | zero => intro x0 x1 x2 x3 x4 x5 x7 h o hs; cases hs
  | succ K ih =>
    intro x0 x1 x2 x3 x4 x5 x7 h o hs lv l0 l1 l2 l3 l4 l5 l7 i0
    unfold fg_101_6 at hs
    refine aw_iload (pc1 := 8) at_101_6 l7 rfl ?_
    refine aw_iload (pc1 := 10) at_101_8 l4 rfl ?_
    by_cases c1 : x4 ≤ x7
    · rw [if_pos c1] at hs
      refine aw_icge_t at_101_10 c1 ?_
      refine aw_lload (pc1 := 43) at_101_41 l5 rfl ?_
      cases hs
      exact aw_lret at_101_43 rt_101 rfl
    · rw [if_neg c1] at hs
      refine aw_icge_f (pc1 := 13) at_101_10 c1 rfl ?_
      refine aw_lload (pc1 := 15) at_101_13 l5 rfl ?_
      refine aw_vload_n (pc1 := 16) at_101_15 l0 i0 rfl ?_
      refine aw_iload_n (pc1 := 17) at_101_16 l1 rfl ?_
      refine aw_iload (pc1 := 19) at_101_17 l7 rfl ?_
      obtain ⟨z2, hs1⟩ := am_ift hs
      clear hs
      refine aw_call (F := fm_15 x0 x1 x7 h) (t := true) (na := 3) (kd := 1) (as := [x0, (.int x1), (.int x7)]) at_101_19 (am_k3v kb_15) mn_15 mk_15 rfl rfl (am_ok_v mi_15 (am_hl rfl (am_ccR i0 (am_ccI (am_ccI am_cats_0))) rfl) z2) (am_hc (am_ccL am_cats_0) rfl) (fun _ => ⟨rfl, hh_101⟩) (fun o1 hz9 => rm_15 x0 x1 x7 h o1 i0 hz9) ?_
      rcases am_cL_s hs1 with ⟨v3, h4, f5, hs2⟩ | hs2
      · clear hs1
        refine Or.inl ⟨_, _, f5, ?_⟩
        show am_W X _ 101 22 _ [(.long v3), (.long x5)] h4 _
        refine aw_vload_n (pc1 := 23) at_101_22 l0 i0 rfl ?_
        refine aw_iload_n (pc1 := 24) at_101_23 l2 rfl ?_
        refine aw_iload_n (pc1 := 25) at_101_24 l3 rfl ?_
        refine aw_iload (pc1 := 27) at_101_25 l7 rfl ?_
        refine aw_isub (v := (x3 - x7)) (pc1 := 28) at_101_27 rfl rfl ?_
        obtain ⟨z6, hs3⟩ := am_ift hs2
        clear hs2
        refine aw_call (F := fm_15 x0 x2 ((x3 - x7)) h4) (t := true) (na := 3) (kd := 1) (as := [x0, (.int x2), (.int (x3 - x7))]) at_101_28 (am_k3v kb_15) mn_15 mk_15 rfl rfl (am_ok_v mi_15 (am_hl rfl (am_ccR i0 (am_ccI (am_ccI am_cats_0))) rfl) z6) (am_hc (am_ccL (am_ccL am_cats_0)) rfl) (fun _ => ⟨rfl, hh_101⟩) (fun o1 hz9 => rm_15 x0 x2 ((x3 - x7)) h4 o1 i0 hz9) ?_
        rcases am_cL_s hs3 with ⟨v7, h8, f9, hs4⟩ | hs4
        · clear hs3
          refine Or.inl ⟨_, _, f9, ?_⟩
          show am_W X _ 101 31 _ [(.long v7), (.long v3), (.long x5)] h8 _
          refine aw_lmul (v := (v3 * v7)) (pc1 := 32) at_101_31 rfl rfl ?_
          refine aw_ladd (v := (x5 + (v3 * v7))) (pc1 := 33) at_101_32 rfl rfl ?_
          refine aw_lstore (lv1 := am_put2 _ 5 _) (pc1 := 35) at_101_33 rfl rfl ?_
          refine aw_iinc (v := (x7 + 1)) (c := 1) (lv1 := am_put1 _ 7 _) (pc1 := 38) at_101_35 (am_lk2 l7 rfl rfl) (by decide) rfl rfl rfl ?_
          refine aw_goto at_101_38 ?_
          exact ih x0 x1 x2 x3 x4 ((x5 + (v3 * v7))) ((x7 + 1)) h8 o hs4 _ (am_lk1 (am_lk2 l0 rfl rfl) rfl rfl) (am_lk1 (am_lk2 l1 rfl rfl) rfl rfl) (am_lk1 (am_lk2 l2 rfl rfl) rfl rfl) (am_lk1 (am_lk2 l3 rfl rfl) rfl rfl) (am_lk1 (am_lk2 l4 rfl rfl) rfl rfl) (am_lk1 am_lk02 rfl rfl) am_lk0 i0
        · clear hs3
          exact Or.inr hs4
      · clear hs1
        exact Or.inr hs2
def fg_101_0 (N : Nat) (x0 : Value) (x1 : Int32) (x2 : Int32) (x3 : Int32) (x4 : Int32) (h : am_H) : Option am_O := (fg_101_6 N N x0 x1 x2 x3 x4 0 1 h)
theorem rg_101_0 {X : am_X} {d : Nat} {N : Nat} {lv : am_LV} (x0 : Value) (x1 : Int32) (x2 : Int32) (x3 : Int32) (x4 : Int32) (h : am_H) (o : am_O) (l0 : lv.lookup 0 = some x0) (l1 : lv.lookup 1 = some (.int x1)) (l2 : lv.lookup 2 = some (.int x2)) (l3 : lv.lookup 3 = some (.int x3)) (l4 : lv.lookup 4 = some (.int x4)) (i0 : am_isR x0 = true) (hs : fg_101_0 N x0 x1 x2 x3 x4 h = some o) : am_W X (d + 1) 101 0 lv [] h (fun q => q = o) := by
  unfold fg_101_0 at hs
  refine aw_lconst (v := 0) (pc1 := 1) at_101_0 (by decide) rfl ?_
  refine aw_lstore (lv1 := am_put2 _ 5 _) (pc1 := 3) at_101_1 rfl rfl ?_
  refine aw_iconst (v := 1) (pc1 := 4) at_101_3 (by decide) rfl ?_
  refine aw_istore (lv1 := am_put1 _ 7 _) (pc1 := 6) at_101_4 rfl rfl ?_
  exact rg_101_6 N x0 x1 x2 x3 x4 0 1 h o hs _ (am_lk1 (am_lk2 l0 rfl rfl) rfl rfl) (am_lk1 (am_lk2 l1 rfl rfl) rfl rfl) (am_lk1 (am_lk2 l2 rfl rfl) rfl rfl) (am_lk1 (am_lk2 l3 rfl rfl) rfl rfl) (am_lk1 (am_lk2 l4 rfl rfl) rfl rfl) (am_lk1 am_lk02 rfl rfl) am_lk0 i0
def fm_101 (N : Nat) (y0 : Value) (y1 : Int32) (y2 : Int32) (y3 : Int32) (y4 : Int32) (h : am_H) : Option am_O := fg_101_0 N y0 y1 y2 y3 y4 h
theorem rm_101 {X : am_X} {d : Nat} {N : Nat} (y0 : Value) (y1 : Int32) (y2 : Int32) (y3 : Int32) (y4 : Int32) (h : am_H) (o : am_O) (i0 : am_isR y0 = true) (hs : fm_101 N y0 y1 y2 y3 y4 h = some o) : am_W X (d + 1) 101 0 (am_args 0 [y0, .int y1, .int y2, .int y3, .int y4]) [] h (fun q => q = o) := by
  rw [am_args_R i0, am_args_I, am_args_I, am_args_I, am_args_I]
  exact rg_101_0 y0 y1 y2 y3 y4 h o rfl rfl rfl rfl rfl i0 hs
def fg_102_6 (N : Nat) : Nat → Value → Int32 → Int32 → Int32 → Int32 → Int32 → Int64 → Int32 → am_H → Option am_O
  | 0 => fun _ _ _ _ _ _ _ _ _ => none
  | K + 1 => fun x0 x1 x2 x3 x4 x5 x6 x8 h => (if x4 ≤ x8 then (if am_pOk 4 x0 h then am_cL true (fm_15 x0 x1 x4 h) (fun v3 h4 => (if am_pOk 4 x0 h4 then am_cL true (fm_101 N x0 x2 x2 ((x3 - x4)) x5 h4) (fun v7 h8 => some (.inl (some (.long (x6 + (v3 * v7))), h8))) else none)) else none) else (if am_pOk 4 x0 h then am_cL true (fm_15 x0 x1 x8 h) (fun v11 h12 => (if am_pOk 4 x0 h12 then am_cL true (fm_16 N x0 x2 x2 ((x3 - x8)) h12) (fun v15 h16 => (fg_102_6 N K x0 x1 x2 x3 x4 x5 ((x6 + (v11 * v15))) ((x8 + 1)) h16)) else none)) else none))
theorem rg_102_6 {X : am_X} {d : Nat} {N : Nat} : ∀ (K : Nat) (x0 : Value) (x1 : Int32) (x2 : Int32) (x3 : Int32) (x4 : Int32) (x5 : Int32) (x6 : Int64) (x8 : Int32) (h : am_H) (o : am_O), fg_102_6 N K x0 x1 x2 x3 x4 x5 x6 x8 h = some o → ∀ lv : am_LV, (lv.lookup 0 = some x0) → (lv.lookup 1 = some (.int x1)) → (lv.lookup 2 = some (.int x2)) → (lv.lookup 3 = some (.int x3)) → (lv.lookup 4 = some (.int x4)) → (lv.lookup 5 = some (.int x5)) → (lv.lookup 6 = some (.long x6)) → (lv.lookup 8 = some (.int x8)) → (am_isR x0 = true) → am_W X (d + 2) 102 6 lv [] h (fun q => q = o) := by
  intro K
  induction K with
  | zero => intro x0 x1 x2 x3 x4 x5 x6 x8 h o hs; cases hs
  | succ K ih =>
    intro x0 x1 x2 x3 x4 x5 x6 x8 h o hs lv l0 l1 l2 l3 l4 l5 l6 l8 i0
    unfold fg_102_6 at hs
    refine aw_iload (pc1 := 8) at_102_6 l8 rfl ?_
    refine aw_iload (pc1 := 10) at_102_8 l4 rfl ?_
    by_cases c1 : x4 ≤ x8
    · rw [if_pos c1] at hs
      refine aw_icge_t at_102_10 c1 ?_
      refine aw_lload (pc1 := 44) at_102_42 l6 rfl ?_
      refine aw_vload_n (pc1 := 45) at_102_44 l0 i0 rfl ?_
      refine aw_iload_n (pc1 := 46) at_102_45 l1 rfl ?_
      refine aw_iload (pc1 := 48) at_102_46 l4 rfl ?_
      obtain ⟨z2, hs1⟩ := am_ift hs
      clear hs
      refine aw_call (F := fm_15 x0 x1 x4 h) (t := true) (na := 3) (kd := 1) (as := [x0, (.int x1), (.int x4)]) at_102_48 (am_k3v kb_15) mn_15 mk_15 rfl rfl (am_ok_v mi_15 (am_hl rfl (am_ccR i0 (am_ccI (am_ccI am_cats_0))) rfl) z2) (am_hc (am_ccL am_cats_0) rfl) (fun _ => ⟨rfl, hh_102⟩) (fun o1 hz9 => rm_15 x0 x1 x4 h o1 i0 hz9) ?_
      rcases am_cL_s hs1 with ⟨v3, h4, f5, hs2⟩ | hs2
      · clear hs1
        refine Or.inl ⟨_, _, f5, ?_⟩
        show am_W X _ 102 51 _ [(.long v3), (.long x6)] h4 _
        refine aw_vload_n (pc1 := 52) at_102_51 l0 i0 rfl ?_
        refine aw_iload_n (pc1 := 53) at_102_52 l2 rfl ?_
        refine aw_iload_n (pc1 := 54) at_102_53 l2 rfl ?_
        refine aw_iload_n (pc1 := 55) at_102_54 l3 rfl ?_
        refine aw_iload (pc1 := 57) at_102_55 l4 rfl ?_
        refine aw_isub (v := (x3 - x4)) (pc1 := 58) at_102_57 rfl rfl ?_
        refine aw_iload (pc1 := 60) at_102_58 l5 rfl ?_
        obtain ⟨z6, hs3⟩ := am_ift hs2
        clear hs2
        refine aw_call (F := fm_101 N x0 x2 x2 ((x3 - x4)) x5 h4) (t := true) (na := 5) (kd := 1) (as := [x0, (.int x2), (.int x2), (.int (x3 - x4)), (.int x5)]) at_102_60 (am_k3v kb_101) mn_101 mk_101 rfl rfl (am_ok_v mi_101 (am_hl rfl (am_ccR i0 (am_ccI (am_ccI (am_ccI (am_ccI am_cats_0))))) rfl) z6) (am_hc (am_ccL (am_ccL am_cats_0)) rfl) (fun _ => ⟨rfl, hh_102⟩) (fun o1 hz9 => rm_101 x0 x2 x2 ((x3 - x4)) x5 h4 o1 i0 hz9) ?_
        rcases am_cL_s hs3 with ⟨v7, h8, f9, hs4⟩ | hs4
        · clear hs3
          refine Or.inl ⟨_, _, f9, ?_⟩
          show am_W X _ 102 63 _ [(.long v7), (.long v3), (.long x6)] h8 _
          refine aw_lmul (v := (v3 * v7)) (pc1 := 64) at_102_63 rfl rfl ?_
          refine aw_ladd (v := (x6 + (v3 * v7))) (pc1 := 65) at_102_64 rfl rfl ?_
          cases hs4
          exact aw_lret at_102_65 rt_102 rfl
        · clear hs3
          exact Or.inr hs4
      · clear hs1
        exact Or.inr hs2
    · rw [if_neg c1] at hs
      refine aw_icge_f (pc1 := 13) at_102_10 c1 rfl ?_
      refine aw_lload (pc1 := 15) at_102_13 l6 rfl ?_
      refine aw_vload_n (pc1 := 16) at_102_15 l0 i0 rfl ?_
      refine aw_iload_n (pc1 := 17) at_102_16 l1 rfl ?_
      refine aw_iload (pc1 := 19) at_102_17 l8 rfl ?_
      obtain ⟨z10, hs5⟩ := am_ift hs
      clear hs
      refine aw_call (F := fm_15 x0 x1 x8 h) (t := true) (na := 3) (kd := 1) (as := [x0, (.int x1), (.int x8)]) at_102_19 (am_k3v kb_15) mn_15 mk_15 rfl rfl (am_ok_v mi_15 (am_hl rfl (am_ccR i0 (am_ccI (am_ccI am_cats_0))) rfl) z10) (am_hc (am_ccL am_cats_0) rfl) (fun _ => ⟨rfl, hh_102⟩) (fun o1 hz9 => rm_15 x0 x1 x8 h o1 i0 hz9) ?_
      rcases am_cL_s hs5 with ⟨v11, h12, f13, hs6⟩ | hs6
      · clear hs5
        refine Or.inl ⟨_, _, f13, ?_⟩
        show am_W X _ 102 22 _ [(.long v11), (.long x6)] h12 _
        refine aw_vload_n (pc1 := 23) at_102_22 l0 i0 rfl ?_
        refine aw_iload_n (pc1 := 24) at_102_23 l2 rfl ?_
        refine aw_iload_n (pc1 := 25) at_102_24 l2 rfl ?_
        refine aw_iload_n (pc1 := 26) at_102_25 l3 rfl ?_
        refine aw_iload (pc1 := 28) at_102_26 l8 rfl ?_
        refine aw_isub (v := (x3 - x8)) (pc1 := 29) at_102_28 rfl rfl ?_
        obtain ⟨z14, hs7⟩ := am_ift hs6
        clear hs6
        refine aw_call (F := fm_16 N x0 x2 x2 ((x3 - x8)) h12) (t := true) (na := 4) (kd := 1) (as := [x0, (.int x2), (.int x2), (.int (x3 - x8))]) at_102_29 (am_k3v kb_16) mn_16 mk_16 rfl rfl (am_ok_v mi_16 (am_hl rfl (am_ccR i0 (am_ccI (am_ccI (am_ccI am_cats_0)))) rfl) z14) (am_hc (am_ccL (am_ccL am_cats_0)) rfl) (fun _ => ⟨rfl, hh_102⟩) (fun o1 hz9 => rm_16 x0 x2 x2 ((x3 - x8)) h12 o1 i0 hz9) ?_
        rcases am_cL_s hs7 with ⟨v15, h16, f17, hs8⟩ | hs8
        · clear hs7
          refine Or.inl ⟨_, _, f17, ?_⟩
          show am_W X _ 102 32 _ [(.long v15), (.long v11), (.long x6)] h16 _
          refine aw_lmul (v := (v11 * v15)) (pc1 := 33) at_102_32 rfl rfl ?_
          refine aw_ladd (v := (x6 + (v11 * v15))) (pc1 := 34) at_102_33 rfl rfl ?_
          refine aw_lstore (lv1 := am_put2 _ 6 _) (pc1 := 36) at_102_34 rfl rfl ?_
          refine aw_iinc (v := (x8 + 1)) (c := 1) (lv1 := am_put1 _ 8 _) (pc1 := 39) at_102_36 (am_lk2 l8 rfl rfl) (by decide) rfl rfl rfl ?_
          refine aw_goto at_102_39 ?_
          exact ih x0 x1 x2 x3 x4 x5 ((x6 + (v11 * v15))) ((x8 + 1)) h16 o hs8 _ (am_lk1 (am_lk2 l0 rfl rfl) rfl rfl) (am_lk1 (am_lk2 l1 rfl rfl) rfl rfl) (am_lk1 (am_lk2 l2 rfl rfl) rfl rfl) (am_lk1 (am_lk2 l3 rfl rfl) rfl rfl) (am_lk1 (am_lk2 l4 rfl rfl) rfl rfl) (am_lk1 (am_lk2 l5 rfl rfl) rfl rfl) (am_lk1 am_lk02 rfl rfl) am_lk0 i0
        · clear hs7
          exact Or.inr hs8
      · clear hs5
        exact Or.inr hs6
def fg_102_0 (N : Nat) (x0 : Value) (x1 : Int32) (x2 : Int32) (x3 : Int32) (x4 : Int32) (x5 : Int32) (h : am_H) : Option am_O := (fg_102_6 N N x0 x1 x2 x3 x4 x5 0 1 h)
theorem rg_102_0 {X : am_X} {d : Nat} {N : Nat} {lv : am_LV} (x0 : Value) (x1 : Int32) (x2 : Int32) (x3 : Int32) (x4 : Int32) (x5 : Int32) (h : am_H) (o : am_O) (l0 : lv.lookup 0 = some x0) (l1 : lv.lookup 1 = some (.int x1)) (l2 : lv.lookup 2 = some (.int x2)) (l3 : lv.lookup 3 = some (.int x3)) (l4 : lv.lookup 4 = some (.int x4)) (l5 : lv.lookup 5 = some (.int x5)) (i0 : am_isR x0 = true) (hs : fg_102_0 N x0 x1 x2 x3 x4 x5 h = some o) : am_W X (d + 2) 102 0 lv [] h (fun q => q = o) := by
  unfold fg_102_0 at hs
  refine aw_lconst (v := 0) (pc1 := 1) at_102_0 (by decide) rfl ?_
  refine aw_lstore (lv1 := am_put2 _ 6 _) (pc1 := 3) at_102_1 rfl rfl ?_
  refine aw_iconst (v := 1) (pc1 := 4) at_102_3 (by decide) rfl ?_
  refine aw_istore (lv1 := am_put1 _ 8 _) (pc1 := 6) at_102_4 rfl rfl ?_
  exact rg_102_6 N x0 x1 x2 x3 x4 x5 0 1 h o hs _ (am_lk1 (am_lk2 l0 rfl rfl) rfl rfl) (am_lk1 (am_lk2 l1 rfl rfl) rfl rfl) (am_lk1 (am_lk2 l2 rfl rfl) rfl rfl) (am_lk1 (am_lk2 l3 rfl rfl) rfl rfl) (am_lk1 (am_lk2 l4 rfl rfl) rfl rfl) (am_lk1 (am_lk2 l5 rfl rfl) rfl rfl) (am_lk1 am_lk02 rfl rfl) am_lk0 i0
def fm_102 (N : Nat) (y0 : Value) (y1 : Int32) (y2 : Int32) (y3 : Int32) (y4 : Int32) (y5 : Int32) (h : am_H) : Option am_O := fg_102_0 N y0 y1 y2 y3 y4 y5 h
theorem rm_102 {X : am_X} {d : Nat} {N : Nat} (y0 : Value) (y1 : Int32) (y2 : Int32) (y3 : Int32) (y4 : Int32) (y5 : Int32) (h : am_H) (o : am_O) (i0 : am_isR y0 = true) (hs : fm_102 N y0 y1 y2 y3 y4 y5 h = some o) : am_W X (d + 2) 102 0 (am_args 0 [y0, .int y1, .int y2, .int y3, .int y4, .int y5]) [] h (fun q => q = o) := by
  rw [am_args_R i0, am_args_I, am_args_I, am_args_I, am_args_I, am_args_I]
  exact rg_102_0 y0 y1 y2 y3 y4 y5 h o rfl rfl rfl rfl rfl rfl i0 hs
