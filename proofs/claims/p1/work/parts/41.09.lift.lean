/-! ===== methods as functions ===== -/
def fg_253_23 (h : am_H) : Option am_O := some (.inl (none, h))
theorem rg_253_23 {X : am_X} {d : Nat} {lv : am_LV} (h : am_H) (o : am_O) (hs : fg_253_23 h = some o) : am_W X (d) 253 23 lv [] h (fun q => q = o) := by
  unfold fg_253_23 at hs
  cases hs
  exact aw_vret at_253_23 rt_253 rfl
def fg_253_0 (x0 : Value) (x1 : Int32) (x2 : Int32) (h : am_H) : Option am_O := (if x1 < 0 then (fg_253_23 h) else ((am_vR (am_pG 2833 x0 h)).bind fun v2 => ((am_pLen v2 h).bind fun v4 => (if v4 ≤ x1 then (fg_253_23 h) else ((am_vR (am_pG 2833 x0 h)).bind fun v7 => ((am_pA 0 v7 x1 h).bind fun v9 => ((am_pS 0 v7 x1 (v9 ||| x2) h).bind fun h11 => (fg_253_23 h11))))))))
theorem rg_253_0 {X : am_X} {d : Nat} {lv : am_LV} (x0 : Value) (x1 : Int32) (x2 : Int32) (h : am_H) (o : am_O) (l0 : lv.lookup 0 = some x0) (l1 : lv.lookup 1 = some (.int x1)) (l2 : lv.lookup 2 = some (.int x2)) (i0 : am_isR x0 = true) (hs : fg_253_0 x0 x1 x2 h = some o) : am_W X (d) 253 0 lv [] h (fun q => q = o) := by
  unfold fg_253_0 at hs
  refine aw_iload_n (pc1 := 1) at_253_0 l1 rfl ?_
  by_cases c1 : x1 < 0
  · rw [if_pos c1] at hs
    refine aw_iflt_t at_253_1 c1 ?_
    exact rg_253_23 h o   hs
  · rw [if_neg c1] at hs
    refine aw_iflt_f (pc1 := 4) at_253_1 c1 rfl ?_
    refine aw_iload_n (pc1 := 5) at_253_4 l1 rfl ?_
    refine aw_vload_n (pc1 := 6) at_253_5 l0 i0 rfl ?_
    obtain ⟨v2, e3, hs1⟩ := am_bind hs
    clear hs
    refine aw_pG (pc1 := 9) at_253_6 (am_vR_s e3).1 rfl ?_
    obtain ⟨v4, e5, hs2⟩ := am_bind hs1
    clear hs1
    refine aw_pLen (pc1 := 10) at_253_9 e5 rfl ?_
    by_cases c6 : v4 ≤ x1
    · rw [if_pos c6] at hs2
      refine aw_icge_t at_253_10 c6 ?_
      exact rg_253_23 h o   hs2
    · rw [if_neg c6] at hs2
      refine aw_icge_f (pc1 := 13) at_253_10 c6 rfl ?_
      refine aw_vload_n (pc1 := 14) at_253_13 l0 i0 rfl ?_
      obtain ⟨v7, e8, hs3⟩ := am_bind hs2
      clear hs2
      refine aw_pG (pc1 := 17) at_253_14 (am_vR_s e8).1 rfl ?_
      refine aw_iload_n (pc1 := 18) at_253_17 l1 rfl ?_
      refine aw_vdup2 (pc1 := 19) at_253_18 (am_vR_s e8).2 rfl ?_
      obtain ⟨v9, e10, hs4⟩ := am_bind hs3
      clear hs3
      refine aw_pA (pc1 := 20) at_253_19 (Or.inl ⟨rfl, rfl⟩) e10 rfl ?_
      refine aw_iload_n (pc1 := 21) at_253_20 l2 rfl ?_
      refine aw_ior (v := (v9 ||| x2)) (pc1 := 22) at_253_21 rfl rfl ?_
      obtain ⟨h11, e12, hs5⟩ := am_bind hs4
      clear hs4
      refine aw_pS (pc1 := 23) at_253_22 (Or.inl ⟨rfl, rfl⟩) e12 rfl ?_
      exact rg_253_23 h11 o   hs5
def fm_253 (y0 : Value) (y1 : Int32) (y2 : Int32) (h : am_H) : Option am_O := fg_253_0 y0 y1 y2 h
theorem rm_253 {X : am_X} {d : Nat} (y0 : Value) (y1 : Int32) (y2 : Int32) (h : am_H) (o : am_O) (i0 : am_isR y0 = true) (hs : fm_253 y0 y1 y2 h = some o) : am_W X (d) 253 0 (am_args 0 [y0, .int y1, .int y2]) [] h (fun q => q = o) := by
  rw [am_args_R i0, am_args_I, am_args_I]
  exact rg_253_0 y0 y1 y2 h o rfl rfl rfl i0 hs
def fg_252_50 (N : Nat) (rec_8 : Value → Int32 → Int32 → am_H → Option am_O) (x0 : Value) (x2 : Int32) (x3 : Int32) (h : am_H) : Option am_O := (rec_8 x0 x2 ((x3 + (-1))) h)
theorem rg_252_50 {X : am_X} {d : Nat} {N : Nat} {rec_8 : Value → Int32 → Int32 → am_H → Option am_O} (q_8 : ∀ (x0 : Value) (x2 : Int32) (x3 : Int32) (h : am_H) (o : am_O), rec_8 x0 x2 x3 h = some o → ∀ lv : am_LV, (lv.lookup 0 = some x0) → (lv.lookup 2 = some (.int x2)) → (lv.lookup 3 = some (.int x3)) → (am_isR x0 = true) → am_W X (d + 1) 252 8 lv [] h (fun q => q = o)) {lv : am_LV} (x0 : Value) (x2 : Int32) (x3 : Int32) (h : am_H) (o : am_O) (l0 : lv.lookup 0 = some x0) (l2 : lv.lookup 2 = some (.int x2)) (l3 : lv.lookup 3 = some (.int x3)) (i0 : am_isR x0 = true) (hs : fg_252_50 N rec_8 x0 x2 x3 h = some o) : am_W X (d + 1) 252 50 lv [] h (fun q => q = o) := by
  unfold fg_252_50 at hs
  refine aw_iinc (v := (x3 + (-1))) (c := (-1)) (lv1 := am_put1 _ 3 _) (pc1 := 53) at_252_50 l3 (by decide) rfl rfl rfl ?_
  refine aw_goto at_252_53 ?_
  exact q_8 x0 x2 ((x3 + (-1))) h o hs _ (am_lk1 l0 rfl rfl) (am_lk1 l2 rfl rfl) am_lk0 i0
def fg_252_8 (N : Nat) : Nat → Value → Int32 → Int32 → am_H → Option am_O
  | 0 => fun _ _ _ _ => none
  | K + 1 => fun x0 x2 x3 h => (if x3 < 0 then some (.inl (none, h)) else ((am_vR (am_pG 2833 x0 h)).bind fun v2 => ((am_pA 0 v2 x3 h).bind fun v4 => (if (v4 &&& x2) = 0 then (fg_252_50 N (fg_252_8 N K) x0 x2 x3 h) else (if am_pOk 11 x0 h then am_cR true (fm_63 x0 x3 h) (fun v8 h9 => ((am_vI (am_pG 774 v8 h9)).bind fun v11 => (if am_pOk 11 x0 h9 then am_cV true (fm_253 x0 v11 x2 h9) (fun h15 => ((am_vI (am_pG 775 v8 h15)).bind fun v17 => (if am_pOk 11 x0 h15 then am_cV true (fm_253 x0 v17 x2 h15) (fun h21 => (fg_252_50 N (fg_252_8 N K) x0 x2 x3 h21)) else none))) else none))) else none)))))
theorem rg_252_8 {X : am_X} {d : Nat} {N : Nat} : ∀ (K : Nat) (x0 : Value) (x2 : Int32) (x3 : Int32) (h : am_H) (o : am_O), fg_252_8 N K x0 x2 x3 h = some o → ∀ lv : am_LV, (lv.lookup 0 = some x0) → (lv.lookup 2 = some (.int x2)) → (lv.lookup 3 = some (.int x3)) → (am_isR x0 = true) → am_W X (d + 1) 252 8 lv [] h (fun q => q = o) := by
  intro K
  induction K with
  | zero => intro x0 x2 x3 h o hs; cases hs
  | succ K ih =>
    intro x0 x2 x3 h o hs lv l0 l2 l3 i0
    unfold fg_252_8 at hs
    refine aw_iload_n (pc1 := 9) at_252_8 l3 rfl ?_
    by_cases c1 : x3 < 0
    · rw [if_pos c1] at hs
      refine aw_iflt_t at_252_9 c1 ?_
      cases hs
      exact aw_vret at_252_56 rt_252 rfl
    · rw [if_neg c1] at hs
      refine aw_iflt_f (pc1 := 12) at_252_9 c1 rfl ?_
      refine aw_vload_n (pc1 := 13) at_252_12 l0 i0 rfl ?_
      obtain ⟨v2, e3, hs1⟩ := am_bind hs
      clear hs
      refine aw_pG (pc1 := 16) at_252_13 (am_vR_s e3).1 rfl ?_
      refine aw_iload_n (pc1 := 17) at_252_16 l3 rfl ?_
      obtain ⟨v4, e5, hs2⟩ := am_bind hs1
      clear hs1
      refine aw_pA (pc1 := 18) at_252_17 (Or.inl ⟨rfl, rfl⟩) e5 rfl ?_
      refine aw_iload_n (pc1 := 19) at_252_18 l2 rfl ?_
      refine aw_iand (v := (v4 &&& x2)) (pc1 := 20) at_252_19 rfl rfl ?_
      by_cases c6 : (v4 &&& x2) = 0
      · rw [if_pos c6] at hs2
        refine aw_ifeq_t at_252_20 c6 ?_
        exact rg_252_50 (fun z0 z1 z2 h o hs2 => ih z0 z1 z2 h o hs2) x0 x2 x3 h o l0 l2 l3 i0 hs2
      · rw [if_neg c6] at hs2
        refine aw_ifeq_f (pc1 := 23) at_252_20 c6 rfl ?_
        refine aw_vload_n (pc1 := 24) at_252_23 l0 i0 rfl ?_
        refine aw_iload_n (pc1 := 25) at_252_24 l3 rfl ?_
        obtain ⟨z7, hs3⟩ := am_ift hs2
        clear hs2
        refine aw_call (F := fm_63 x0 x3 h) (t := true) (na := 2) (kd := 1) (as := [x0, (.int x3)]) at_252_25 (am_k3v kb_63) mn_63 mk_63 rfl rfl (am_ok_v mi_63 (am_hl rfl (am_ccR i0 (am_ccI am_cats_0)) rfl) z7) (am_hc am_cats_0 rfl) (fun _ => ⟨rfl, hh_252⟩) (fun o1 hz9 => rm_63 x0 x3 h o1 i0 hz9) ?_
        rcases am_cR_s hs3 with ⟨v8, h9, f10, iv8, hs4⟩ | hs4
        · clear hs3
          refine Or.inl ⟨_, _, f10, ?_⟩
          show am_W X _ 252 28 _ [v8] h9 _
          refine aw_vstore (lv1 := am_put1 _ 4 _) (pc1 := 30) at_252_28 iv8 rfl rfl ?_
          refine aw_vload_n (pc1 := 31) at_252_30 (am_lk1 l0 rfl rfl) i0 rfl ?_
          refine aw_vload (pc1 := 33) at_252_31 am_lk0 iv8 rfl ?_
          obtain ⟨v11, e12, hs5⟩ := am_bind hs4
          clear hs4
          refine aw_pG (pc1 := 36) at_252_33 (am_vI_s e12) rfl ?_
          refine aw_iload_n (pc1 := 37) at_252_36 (am_lk1 l2 rfl rfl) rfl ?_
          obtain ⟨z13, hs6⟩ := am_ift hs5
          clear hs5
          refine aw_call (F := fm_253 x0 v11 x2 h9) (t := true) (na := 3) (kd := 1) (as := [x0, (.int v11), (.int x2)]) at_252_37 (am_k3v kb_253) mn_253 mk_253 rfl rfl (am_ok_v mi_253 (am_hl rfl (am_ccR i0 (am_ccI (am_ccI am_cats_0))) rfl) z13) (am_hc am_cats_0 rfl) (fun _ => ⟨rfl, hh_252⟩) (fun o1 hz9 => rm_253 x0 v11 x2 h9 o1 i0 hz9) ?_
          rcases am_cV_s hs6 with ⟨h15, f16, hs7⟩ | hs7
          · clear hs6
            refine Or.inl ⟨_, _, f16, ?_⟩
            show am_W X _ 252 40 _ [] h15 _
            refine aw_vload_n (pc1 := 41) at_252_40 (am_lk1 l0 rfl rfl) i0 rfl ?_
            refine aw_vload (pc1 := 43) at_252_41 am_lk0 iv8 rfl ?_
            obtain ⟨v17, e18, hs8⟩ := am_bind hs7
            clear hs7
            refine aw_pG (pc1 := 46) at_252_43 (am_vI_s e18) rfl ?_
            refine aw_iload_n (pc1 := 47) at_252_46 (am_lk1 l2 rfl rfl) rfl ?_
            obtain ⟨z19, hs9⟩ := am_ift hs8
            clear hs8
            refine aw_call (F := fm_253 x0 v17 x2 h15) (t := true) (na := 3) (kd := 1) (as := [x0, (.int v17), (.int x2)]) at_252_47 (am_k3v kb_253) mn_253 mk_253 rfl rfl (am_ok_v mi_253 (am_hl rfl (am_ccR i0 (am_ccI (am_ccI am_cats_0))) rfl) z19) (am_hc am_cats_0 rfl) (fun _ => ⟨rfl, hh_252⟩) (fun o1 hz9 => rm_253 x0 v17 x2 h15 o1 i0 hz9) ?_
            rcases am_cV_s hs9 with ⟨h21, f22, hs10⟩ | hs10
            · clear hs9
              refine Or.inl ⟨_, _, f22, ?_⟩
              show am_W X _ 252 50 _ [] h21 _
              exact rg_252_50 (fun z0 z1 z2 h o hs10 => ih z0 z1 z2 h o hs10) x0 x2 x3 h21 o (am_lk1 l0 rfl rfl) (am_lk1 l2 rfl rfl) (am_lk1 l3 rfl rfl) i0 hs10
            · clear hs9
              exact Or.inr hs10
          · clear hs6
            exact Or.inr hs7
        · clear hs3
          exact Or.inr hs4
def fg_252_0 (N : Nat) (x0 : Value) (x1 : Int32) (x2 : Int32) (h : am_H) : Option am_O := (if am_pOk 11 x0 h then am_cV true (fm_253 x0 x1 x2 h) (fun h3 => (fg_252_8 N N x0 x2 x1 h3)) else none)
theorem rg_252_0 {X : am_X} {d : Nat} {N : Nat} {lv : am_LV} (x0 : Value) (x1 : Int32) (x2 : Int32) (h : am_H) (o : am_O) (l0 : lv.lookup 0 = some x0) (l1 : lv.lookup 1 = some (.int x1)) (l2 : lv.lookup 2 = some (.int x2)) (i0 : am_isR x0 = true) (hs : fg_252_0 N x0 x1 x2 h = some o) : am_W X (d + 1) 252 0 lv [] h (fun q => q = o) := by
  unfold fg_252_0 at hs
  refine aw_vload_n (pc1 := 1) at_252_0 l0 i0 rfl ?_
  refine aw_iload_n (pc1 := 2) at_252_1 l1 rfl ?_
  refine aw_iload_n (pc1 := 3) at_252_2 l2 rfl ?_
  obtain ⟨z1, hs1⟩ := am_ift hs
  clear hs
  refine aw_call (F := fm_253 x0 x1 x2 h) (t := true) (na := 3) (kd := 1) (as := [x0, (.int x1), (.int x2)]) at_252_3 (am_k3v kb_253) mn_253 mk_253 rfl rfl (am_ok_v mi_253 (am_hl rfl (am_ccR i0 (am_ccI (am_ccI am_cats_0))) rfl) z1) (am_hc am_cats_0 rfl) (fun _ => ⟨rfl, hh_252⟩) (fun o1 hz9 => rm_253 x0 x1 x2 h o1 i0 hz9) ?_
  rcases am_cV_s hs1 with ⟨h3, f4, hs2⟩ | hs2
  · clear hs1
    refine Or.inl ⟨_, _, f4, ?_⟩
    show am_W X _ 252 6 _ [] h3 _
    refine aw_iload_n (pc1 := 7) at_252_6 l1 rfl ?_
    refine aw_istore_n (lv1 := am_put1 _ 3 _) (pc1 := 8) at_252_7 rfl rfl ?_
    exact rg_252_8 N x0 x2 x1 h3 o hs2 _ (am_lk1 l0 rfl rfl) (am_lk1 l2 rfl rfl) am_lk0 i0
  · clear hs1
    exact Or.inr hs2
def fm_252 (N : Nat) (y0 : Value) (y1 : Int32) (y2 : Int32) (h : am_H) : Option am_O := fg_252_0 N y0 y1 y2 h
theorem rm_252 {X : am_X} {d : Nat} {N : Nat} (y0 : Value) (y1 : Int32) (y2 : Int32) (h : am_H) (o : am_O) (i0 : am_isR y0 = true) (hs : fm_252 N y0 y1 y2 h = some o) : am_W X (d + 1) 252 0 (am_args 0 [y0, .int y1, .int y2]) [] h (fun q => q = o) := by
  rw [am_args_R i0, am_args_I, am_args_I]
  exact rg_252_0 y0 y1 y2 h o rfl rfl rfl i0 hs
def fg_251_24 (N : Nat) : Nat → Value → Int32 → Int32 → Int32 → am_H → Option am_O
  | 0 => fun _ _ _ _ _ => none
  | K + 1 => fun x0 x1 x2 x3 h => (if x1 ≤ x3 then some (.inl (some (.int x2), h)) else ((am_vR (am_pG 2833 x0 h)).bind fun v2 => ((am_pA 0 v2 x3 h).bind fun v4 => (fg_251_24 N K x0 x1 ((x2 + v4)) ((x3 + 1)) h))))
theorem rg_251_24 {X : am_X} {d : Nat} {N : Nat} : ∀ (K : Nat) (x0 : Value) (x1 : Int32) (x2 : Int32) (x3 : Int32) (h : am_H) (o : am_O), fg_251_24 N K x0 x1 x2 x3 h = some o → ∀ lv : am_LV, (lv.lookup 0 = some x0) → (lv.lookup 1 = some (.int x1)) → (lv.lookup 2 = some (.int x2)) → (lv.lookup 3 = some (.int x3)) → (am_isR x0 = true) → am_W X (d + 2) 251 24 lv [] h (fun q => q = o) := by
  intro K
  induction K with
  | zero => intro x0 x1 x2 x3 h o hs; cases hs
  | succ K ih =>
    intro x0 x1 x2 x3 h o hs lv l0 l1 l2 l3 i0
    unfold fg_251_24 at hs
    refine aw_iload_n (pc1 := 25) at_251_24 l3 rfl ?_
    refine aw_iload_n (pc1 := 26) at_251_25 l1 rfl ?_
    by_cases c1 : x1 ≤ x3
    · rw [if_pos c1] at hs
      refine aw_icge_t at_251_26 c1 ?_
      refine aw_iload_n (pc1 := 45) at_251_44 l2 rfl ?_
      cases hs
      exact aw_iret at_251_45 (by rw [rt_251]; rfl) rfl
    · rw [if_neg c1] at hs
      refine aw_icge_f (pc1 := 29) at_251_26 c1 rfl ?_
      refine aw_iload_n (pc1 := 30) at_251_29 l2 rfl ?_
      refine aw_vload_n (pc1 := 31) at_251_30 l0 i0 rfl ?_
      obtain ⟨v2, e3, hs1⟩ := am_bind hs
      clear hs
      refine aw_pG (pc1 := 34) at_251_31 (am_vR_s e3).1 rfl ?_
      refine aw_iload_n (pc1 := 35) at_251_34 l3 rfl ?_
      obtain ⟨v4, e5, hs2⟩ := am_bind hs1
      clear hs1
      refine aw_pA (pc1 := 36) at_251_35 (Or.inl ⟨rfl, rfl⟩) e5 rfl ?_
      refine aw_iadd (v := (x2 + v4)) (pc1 := 37) at_251_36 rfl rfl ?_
      refine aw_istore_n (lv1 := am_put1 _ 2 _) (pc1 := 38) at_251_37 rfl rfl ?_
      refine aw_iinc (v := (x3 + 1)) (c := 1) (lv1 := am_put1 _ 3 _) (pc1 := 41) at_251_38 (am_lk1 l3 rfl rfl) (by decide) rfl rfl rfl ?_
      refine aw_goto at_251_41 ?_
      exact ih x0 x1 ((x2 + v4)) ((x3 + 1)) h o hs2 _ (am_lk1 (am_lk1 l0 rfl rfl) rfl rfl) (am_lk1 (am_lk1 l1 rfl rfl) rfl rfl) (am_lk1 am_lk0 rfl rfl) am_lk0 i0
def fg_251_0 (N : Nat) (x0 : Value) (x1 : Int32) (h : am_H) : Option am_O := (if am_pOk 11 x0 h then am_cR true (fm_63 x0 x1 h) (fun v2 h3 => ((am_vR (am_pG 2833 x0 h3)).bind fun v5 => am_cV false (fm_53 N v5 0 h3) (fun h8 => (if am_pOk 11 x0 h8 then am_cV true (fm_252 N x0 x1 1 h8) (fun h12 => (fg_251_24 N N x0 x1 0 0 h12)) else none)))) else none)
theorem rg_251_0 {X : am_X} {d : Nat} {N : Nat} {lv : am_LV} (x0 : Value) (x1 : Int32) (h : am_H) (o : am_O) (l0 : lv.lookup 0 = some x0) (l1 : lv.lookup 1 = some (.int x1)) (i0 : am_isR x0 = true) (hs : fg_251_0 N x0 x1 h = some o) : am_W X (d + 2) 251 0 lv [] h (fun q => q = o) := by
  unfold fg_251_0 at hs
  refine aw_vload_n (pc1 := 1) at_251_0 l0 i0 rfl ?_
  refine aw_iload_n (pc1 := 2) at_251_1 l1 rfl ?_
  obtain ⟨z1, hs1⟩ := am_ift hs
  clear hs
  refine aw_call (F := fm_63 x0 x1 h) (t := true) (na := 2) (kd := 1) (as := [x0, (.int x1)]) at_251_2 (am_k3v kb_63) mn_63 mk_63 rfl rfl (am_ok_v mi_63 (am_hl rfl (am_ccR i0 (am_ccI am_cats_0)) rfl) z1) (am_hc am_cats_0 rfl) (fun _ => ⟨rfl, hh_251⟩) (fun o1 hz9 => rm_63 x0 x1 h o1 i0 hz9) ?_
  rcases am_cR_s hs1 with ⟨v2, h3, f4, iv2, hs2⟩ | hs2
  · clear hs1
    refine Or.inl ⟨_, _, f4, ?_⟩
    show am_W X _ 251 5 _ [v2] h3 _
    refine aw_vpop (pc1 := 6) at_251_5 iv2 rfl ?_
    refine aw_vload_n (pc1 := 7) at_251_6 l0 i0 rfl ?_
    obtain ⟨v5, e6, hs3⟩ := am_bind hs2
    clear hs2
    refine aw_pG (pc1 := 10) at_251_7 (am_vR_s e6).1 rfl ?_
    refine aw_iconst (v := 0) (pc1 := 11) at_251_10 (by decide) rfl ?_
    refine aw_call (F := fm_53 N v5 0 h3) (t := false) (na := 2) (kd := 0) (as := [v5, (.int 0)]) at_251_11 (am_k3s kb_53) mn_53 mk_53 rfl rfl (am_ok_s mi_53 (am_hl rfl (am_ccR (am_vR_s e6).2 (am_ccI am_cats_0)) rfl)) (am_hc am_cats_0 rfl) (fun hz9 => by cases hz9) (fun o1 hz9 => rm_53 v5 0 h3 o1 (am_vR_s e6).2 hz9) ?_
    rcases am_cV_s hs3 with ⟨h8, f9, hs4⟩ | hs4
    · clear hs3
      refine Or.inl ⟨_, _, f9, ?_⟩
      show am_W X _ 251 14 _ [] h8 _
      refine aw_vload_n (pc1 := 15) at_251_14 l0 i0 rfl ?_
      refine aw_iload_n (pc1 := 16) at_251_15 l1 rfl ?_
      refine aw_iconst (v := 1) (pc1 := 17) at_251_16 (by decide) rfl ?_
      obtain ⟨z10, hs5⟩ := am_ift hs4
      clear hs4
      refine aw_call (F := fm_252 N x0 x1 1 h8) (t := true) (na := 3) (kd := 1) (as := [x0, (.int x1), (.int 1)]) at_251_17 (am_k3v kb_252) mn_252 mk_252 rfl rfl (am_ok_v mi_252 (am_hl rfl (am_ccR i0 (am_ccI (am_ccI am_cats_0))) rfl) z10) (am_hc am_cats_0 rfl) (fun _ => ⟨rfl, hh_251⟩) (fun o1 hz9 => rm_252 x0 x1 1 h8 o1 i0 hz9) ?_
      rcases am_cV_s hs5 with ⟨h12, f13, hs6⟩ | hs6
      · clear hs5
        refine Or.inl ⟨_, _, f13, ?_⟩
        show am_W X _ 251 20 _ [] h12 _
        refine aw_iconst (v := 0) (pc1 := 21) at_251_20 (by decide) rfl ?_
        refine aw_istore_n (lv1 := am_put1 _ 2 _) (pc1 := 22) at_251_21 rfl rfl ?_
        refine aw_iconst (v := 0) (pc1 := 23) at_251_22 (by decide) rfl ?_
        refine aw_istore_n (lv1 := am_put1 _ 3 _) (pc1 := 24) at_251_23 rfl rfl ?_
        exact rg_251_24 N x0 x1 0 0 h12 o hs6 _ (am_lk1 (am_lk1 l0 rfl rfl) rfl rfl) (am_lk1 (am_lk1 l1 rfl rfl) rfl rfl) (am_lk1 am_lk0 rfl rfl) am_lk0 i0
      · clear hs5
        exact Or.inr hs6
    · clear hs3
      exact Or.inr hs4
  · clear hs1
    exact Or.inr hs2
def fm_251 (N : Nat) (y0 : Value) (y1 : Int32) (h : am_H) : Option am_O := fg_251_0 N y0 y1 h
theorem rm_251 {X : am_X} {d : Nat} {N : Nat} (y0 : Value) (y1 : Int32) (h : am_H) (o : am_O) (i0 : am_isR y0 = true) (hs : fm_251 N y0 y1 h = some o) : am_W X (d + 2) 251 0 (am_args 0 [y0, .int y1]) [] h (fun q => q = o) := by
  rw [am_args_R i0, am_args_I]
  exact rg_251_0 y0 y1 h o rfl rfl i0 hs
def fg_250_13 (N : Nat) (h : am_H) : Option am_O := some (.inl (some (.int 1), h))
theorem rg_250_13 {X : am_X} {d : Nat} {N : Nat} {lv : am_LV} (h : am_H) (o : am_O) (hs : fg_250_13 N h = some o) : am_W X (d + 3) 250 13 lv [] h (fun q => q = o) := by
  unfold fg_250_13 at hs
  refine aw_iconst (v := 1) (pc1 := 14) at_250_13 (by decide) rfl ?_
  cases hs
  exact aw_iret at_250_14 (by rw [rt_250]; rfl) rfl
def fg_250_0 (N : Nat) (x0 : Value) (x1 : Int32) (x2 : Value) (h : am_H) : Option am_O := (if am_pOk 11 x0 h then (match fm_251 N x0 x1 h with | some (.inl (some (.int v2), h3)) => ((am_pSL x2 0 (Int32.toInt64 v2) h3).bind fun h5 => some (.inl (some (.int 0), h5))) | some (.inr (2, h7)) => (fg_250_13 N h7) | _ => none) else none)
theorem rg_250_0 {X : am_X} {d : Nat} {N : Nat} {lv : am_LV} (x0 : Value) (x1 : Int32) (x2 : Value) (h : am_H) (o : am_O) (l0 : lv.lookup 0 = some x0) (l1 : lv.lookup 1 = some (.int x1)) (l2 : lv.lookup 2 = some x2) (i0 : am_isR x0 = true) (i2 : am_isR x2 = true) (hs : fg_250_0 N x0 x1 x2 h = some o) : am_W X (d + 3) 250 0 lv [] h (fun q => q = o) := by
  unfold fg_250_0 at hs
  refine aw_vload_n (pc1 := 1) at_250_0 l2 i2 rfl ?_
  refine aw_iconst (v := 0) (pc1 := 2) at_250_1 (by decide) rfl ?_
  refine aw_vload_n (pc1 := 3) at_250_2 l0 i0 rfl ?_
  refine aw_iload_n (pc1 := 4) at_250_3 l1 rfl ?_
  obtain ⟨z1, hs1⟩ := am_ift hs
  clear hs
  refine aw_callH (F := fm_251 N x0 x1 h) (na := 2) (kd := 1) (as := [x0, (.int x1)]) at_250_4 (am_k3v kb_251) mn_251 mk_251 rfl rfl (am_ok_v mi_251 (am_hl rfl (am_ccR i0 (am_ccI am_cats_0)) rfl) z1) (am_hc (am_ccI (am_ccR i2 am_cats_0)) rfl) (fun o1 hz9 => rm_251 x0 x1 h o1 i0 hz9) ?_
  split at hs1
  · rename_i v2 h3 f4
    refine Or.inl ⟨_, _, f4, ?_⟩
    show am_W X _ 250 7 _ [(.int v2), (.int 0), x2] h3 _
    refine aw_i2l (v := (Int32.toInt64 v2)) (pc1 := 8) at_250_7 rfl rfl ?_
    obtain ⟨h5, e6, hs2⟩ := am_bind hs1
    clear hs1
    refine aw_pSL (pc1 := 9) at_250_8 e6 rfl ?_
    refine aw_goto at_250_9 ?_
    refine aw_iconst (v := 0) (pc1 := 16) at_250_15 (by decide) rfl ?_
    cases hs2
    exact aw_iret at_250_16 (by rw [rt_250]; rfl) rfl
  · rename_i h7 f8
    refine Or.inr ⟨_, _, 13, 3, f8, rfl, hn_250, hd_250_4_2, ?_⟩
    exact rg_250_13 h7 o   hs1
  · cases hs1
def fm_250 (N : Nat) (y0 : Value) (y1 : Int32) (y2 : Value) (h : am_H) : Option am_O := fg_250_0 N y0 y1 y2 h
theorem rm_250 {X : am_X} {d : Nat} {N : Nat} (y0 : Value) (y1 : Int32) (y2 : Value) (h : am_H) (o : am_O) (i0 : am_isR y0 = true) (i2 : am_isR y2 = true) (hs : fm_250 N y0 y1 y2 h = some o) : am_W X (d + 3) 250 0 (am_args 0 [y0, .int y1, y2]) [] h (fun q => q = o) := by
  rw [am_args_R i0, am_args_I, am_args_R i2]
  exact rg_250_0 y0 y1 y2 h o rfl rfl rfl i0 i2 hs
def fg_529_26 (h : am_H) : Option am_O := some (.inl (none, h))
theorem rg_529_26 {X : am_X} {d : Nat} {lv : am_LV} (h : am_H) (o : am_O) (hs : fg_529_26 h = some o) : am_W X (d) 529 26 lv [] h (fun q => q = o) := by
  unfold fg_529_26 at hs
  cases hs
  exact aw_vret at_529_26 rt_529 rfl
def fg_529_0 (x0 : Value) (x1 : Int32) (x2 : Int32) (h : am_H) : Option am_O := (if 0 ≤ x1 then (if x2 = 0 then ((am_vR (am_pG 3185 x0 h)).bind fun v3 => ((am_pS 2 v3 x1 1 h).bind fun h5 => (fg_529_26 h5))) else ((am_vR (am_pG 3186 x0 h)).bind fun v7 => ((am_pS 2 v7 x1 1 h).bind fun h9 => (fg_529_26 h9)))) else some (.inl (none, h)))
theorem rg_529_0 {X : am_X} {d : Nat} {lv : am_LV} (x0 : Value) (x1 : Int32) (x2 : Int32) (h : am_H) (o : am_O) (l0 : lv.lookup 0 = some x0) (l1 : lv.lookup 1 = some (.int x1)) (l2 : lv.lookup 2 = some (.int x2)) (i0 : am_isR x0 = true) (hs : fg_529_0 x0 x1 x2 h = some o) : am_W X (d) 529 0 lv [] h (fun q => q = o) := by
  unfold fg_529_0 at hs
  refine aw_iload_n (pc1 := 1) at_529_0 l1 rfl ?_
  by_cases c1 : 0 ≤ x1
  · rw [if_pos c1] at hs
    refine aw_ifge_t at_529_1 c1 ?_
    refine aw_iload_n (pc1 := 6) at_529_5 l2 rfl ?_
    by_cases c2 : x2 = 0
    · rw [if_pos c2] at hs
      refine aw_ifeq_t at_529_6 c2 ?_
      refine aw_vload_n (pc1 := 20) at_529_19 l0 i0 rfl ?_
      obtain ⟨v3, e4, hs1⟩ := am_bind hs
      clear hs
      refine aw_pG (pc1 := 23) at_529_20 (am_vR_s e4).1 rfl ?_
      refine aw_iload_n (pc1 := 24) at_529_23 l1 rfl ?_
      refine aw_iconst (v := 1) (pc1 := 25) at_529_24 (by decide) rfl ?_
      obtain ⟨h5, e6, hs2⟩ := am_bind hs1
      clear hs1
      refine aw_pS (pc1 := 26) at_529_25 (Or.inr (Or.inl ⟨rfl, rfl⟩)) e6 rfl ?_
      exact rg_529_26 h5 o   hs2
    · rw [if_neg c2] at hs
      refine aw_ifeq_f (pc1 := 9) at_529_6 c2 rfl ?_
      refine aw_vload_n (pc1 := 10) at_529_9 l0 i0 rfl ?_
      obtain ⟨v7, e8, hs3⟩ := am_bind hs
      clear hs
      refine aw_pG (pc1 := 13) at_529_10 (am_vR_s e8).1 rfl ?_
      refine aw_iload_n (pc1 := 14) at_529_13 l1 rfl ?_
      refine aw_iconst (v := 1) (pc1 := 15) at_529_14 (by decide) rfl ?_
      obtain ⟨h9, e10, hs4⟩ := am_bind hs3
      clear hs3
      refine aw_pS (pc1 := 16) at_529_15 (Or.inr (Or.inl ⟨rfl, rfl⟩)) e10 rfl ?_
      refine aw_goto at_529_16 ?_
      exact rg_529_26 h9 o   hs4
  · rw [if_neg c1] at hs
    refine aw_ifge_f (pc1 := 4) at_529_1 c1 rfl ?_
    cases hs
    exact aw_vret at_529_4 rt_529 rfl
def fm_529 (y0 : Value) (y1 : Int32) (y2 : Int32) (h : am_H) : Option am_O := fg_529_0 y0 y1 y2 h
theorem rm_529 {X : am_X} {d : Nat} (y0 : Value) (y1 : Int32) (y2 : Int32) (h : am_H) (o : am_O) (i0 : am_isR y0 = true) (hs : fm_529 y0 y1 y2 h = some o) : am_W X (d) 529 0 (am_args 0 [y0, .int y1, .int y2]) [] h (fun q => q = o) := by
  rw [am_args_R i0, am_args_I, am_args_I]
  exact rg_529_0 y0 y1 y2 h o rfl rfl rfl i0 hs
def fg_528_111 (N : Nat) (rec_57 : Value → Int32 → Int32 → am_H → Option am_O) (x0 : Value) (x2 : Int32) (x3 : Int32) (h : am_H) : Option am_O := (rec_57 x0 x2 ((x3 + (-1))) h)
theorem rg_528_111 {X : am_X} {d : Nat} {N : Nat} {rec_57 : Value → Int32 → Int32 → am_H → Option am_O} (q_57 : ∀ (x0 : Value) (x2 : Int32) (x3 : Int32) (h : am_H) (o : am_O), rec_57 x0 x2 x3 h = some o → ∀ lv : am_LV, (lv.lookup 0 = some x0) → (lv.lookup 2 = some (.int x2)) → (lv.lookup 3 = some (.int x3)) → (am_isR x0 = true) → am_W X (d + 1) 528 57 lv [] h (fun q => q = o)) {lv : am_LV} (x0 : Value) (x2 : Int32) (x3 : Int32) (h : am_H) (o : am_O) (l0 : lv.lookup 0 = some x0) (l2 : lv.lookup 2 = some (.int x2)) (l3 : lv.lookup 3 = some (.int x3)) (i0 : am_isR x0 = true) (hs : fg_528_111 N rec_57 x0 x2 x3 h = some o) : am_W X (d + 1) 528 111 lv [] h (fun q => q = o) := by
  unfold fg_528_111 at hs
  refine aw_iinc (v := (x3 + (-1))) (c := (-1)) (lv1 := am_put1 _ 3 _) (pc1 := 114) at_528_111 l3 (by decide) rfl rfl rfl ?_
  refine aw_goto at_528_114 ?_
  exact q_57 x0 x2 ((x3 + (-1))) h o hs _ (am_lk1 l0 rfl rfl) (am_lk1 l2 rfl rfl) am_lk0 i0
def fg_528_89 (N : Nat) (rec_57 : Value → Int32 → Int32 → am_H → Option am_O) (x0 : Value) (x2 : Int32) (x3 : Int32) (h : am_H) : Option am_O := ((am_vR (am_pG 3078 x0 h)).bind fun v1 => ((am_pA 0 v1 x3 h).bind fun v3 => (if am_pOk 12 x0 h then am_cV true (fm_529 x0 v3 x2 h) (fun h7 => ((am_vR (am_pG 3079 x0 h7)).bind fun v9 => ((am_pA 0 v9 x3 h7).bind fun v11 => (if am_pOk 12 x0 h7 then am_cV true (fm_529 x0 v11 x2 h7) (fun h15 => (fg_528_111 N rec_57 x0 x2 x3 h15)) else none)))) else none)))
theorem rg_528_89 {X : am_X} {d : Nat} {N : Nat} {rec_57 : Value → Int32 → Int32 → am_H → Option am_O} (q_57 : ∀ (x0 : Value) (x2 : Int32) (x3 : Int32) (h : am_H) (o : am_O), rec_57 x0 x2 x3 h = some o → ∀ lv : am_LV, (lv.lookup 0 = some x0) → (lv.lookup 2 = some (.int x2)) → (lv.lookup 3 = some (.int x3)) → (am_isR x0 = true) → am_W X (d + 1) 528 57 lv [] h (fun q => q = o)) {lv : am_LV} (x0 : Value) (x2 : Int32) (x3 : Int32) (h : am_H) (o : am_O) (l0 : lv.lookup 0 = some x0) (l2 : lv.lookup 2 = some (.int x2)) (l3 : lv.lookup 3 = some (.int x3)) (i0 : am_isR x0 = true) (hs : fg_528_89 N rec_57 x0 x2 x3 h = some o) : am_W X (d + 1) 528 89 lv [] h (fun q => q = o) := by
  unfold fg_528_89 at hs
  refine aw_vload_n (pc1 := 90) at_528_89 l0 i0 rfl ?_
  refine aw_vload_n (pc1 := 91) at_528_90 l0 i0 rfl ?_
  obtain ⟨v1, e2, hs1⟩ := am_bind hs
  clear hs
  refine aw_pG (pc1 := 94) at_528_91 (am_vR_s e2).1 rfl ?_
  refine aw_iload_n (pc1 := 95) at_528_94 l3 rfl ?_
  obtain ⟨v3, e4, hs2⟩ := am_bind hs1
  clear hs1
  refine aw_pA (pc1 := 96) at_528_95 (Or.inl ⟨rfl, rfl⟩) e4 rfl ?_
  refine aw_iload_n (pc1 := 97) at_528_96 l2 rfl ?_
  obtain ⟨z5, hs3⟩ := am_ift hs2
  clear hs2
  refine aw_call (F := fm_529 x0 v3 x2 h) (t := true) (na := 3) (kd := 1) (as := [x0, (.int v3), (.int x2)]) at_528_97 (am_k3v kb_529) mn_529 mk_529 rfl rfl (am_ok_v mi_529 (am_hl rfl (am_ccR i0 (am_ccI (am_ccI am_cats_0))) rfl) z5) (am_hc am_cats_0 rfl) (fun _ => ⟨rfl, hh_528⟩) (fun o1 hz9 => rm_529 x0 v3 x2 h o1 i0 hz9) ?_
  rcases am_cV_s hs3 with ⟨h7, f8, hs4⟩ | hs4
  · clear hs3
    refine Or.inl ⟨_, _, f8, ?_⟩
    show am_W X _ 528 100 _ [] h7 _
    refine aw_vload_n (pc1 := 101) at_528_100 l0 i0 rfl ?_
    refine aw_vload_n (pc1 := 102) at_528_101 l0 i0 rfl ?_
    obtain ⟨v9, e10, hs5⟩ := am_bind hs4
    clear hs4
    refine aw_pG (pc1 := 105) at_528_102 (am_vR_s e10).1 rfl ?_
    refine aw_iload_n (pc1 := 106) at_528_105 l3 rfl ?_
    obtain ⟨v11, e12, hs6⟩ := am_bind hs5
    clear hs5
    refine aw_pA (pc1 := 107) at_528_106 (Or.inl ⟨rfl, rfl⟩) e12 rfl ?_
    refine aw_iload_n (pc1 := 108) at_528_107 l2 rfl ?_
    obtain ⟨z13, hs7⟩ := am_ift hs6
    clear hs6
    refine aw_call (F := fm_529 x0 v11 x2 h7) (t := true) (na := 3) (kd := 1) (as := [x0, (.int v11), (.int x2)]) at_528_108 (am_k3v kb_529) mn_529 mk_529 rfl rfl (am_ok_v mi_529 (am_hl rfl (am_ccR i0 (am_ccI (am_ccI am_cats_0))) rfl) z13) (am_hc am_cats_0 rfl) (fun _ => ⟨rfl, hh_528⟩) (fun o1 hz9 => rm_529 x0 v11 x2 h7 o1 i0 hz9) ?_
    rcases am_cV_s hs7 with ⟨h15, f16, hs8⟩ | hs8
    · clear hs7
      refine Or.inl ⟨_, _, f16, ?_⟩
      show am_W X _ 528 111 _ [] h15 _
      exact rg_528_111 q_57 x0 x2 x3 h15 o l0 l2 l3 i0 hs8
    · clear hs7
      exact Or.inr hs8
  · clear hs3
    exact Or.inr hs4
def fg_528_57 (N : Nat) : Nat → Value → Int32 → Int32 → am_H → Option am_O
  | 0 => fun _ _ _ _ => none
  | K + 1 => fun x0 x2 x3 h => (if x3 < 0 then some (.inl (none, h)) else (if x2 = 0 then ((am_vR (am_pG 3185 x0 h)).bind fun v3 => ((am_pA 2 v3 x3 h).bind fun v5 => (if ¬ v5 = 0 then (fg_528_89 N (fg_528_57 N K) x0 x2 x3 h) else (fg_528_111 N (fg_528_57 N K) x0 x2 x3 h)))) else ((am_vR (am_pG 3186 x0 h)).bind fun v8 => ((am_pA 2 v8 x3 h).bind fun v10 => (if v10 = 0 then (fg_528_111 N (fg_528_57 N K) x0 x2 x3 h) else (fg_528_89 N (fg_528_57 N K) x0 x2 x3 h))))))
theorem rg_528_57 {X : am_X} {d : Nat} {N : Nat} : ∀ (K : Nat) (x0 : Value) (x2 : Int32) (x3 : Int32) (h : am_H) (o : am_O), fg_528_57 N K x0 x2 x3 h = some o → ∀ lv : am_LV, (lv.lookup 0 = some x0) → (lv.lookup 2 = some (.int x2)) → (lv.lookup 3 = some (.int x3)) → (am_isR x0 = true) → am_W X (d + 1) 528 57 lv [] h (fun q => q = o) := by
  intro K
  induction K with
  | zero => intro x0 x2 x3 h o hs; cases hs
  | succ K ih =>
    intro x0 x2 x3 h o hs lv l0 l2 l3 i0
    unfold fg_528_57 at hs
    refine aw_iload_n (pc1 := 58) at_528_57 l3 rfl ?_
    by_cases c1 : x3 < 0
    · rw [if_pos c1] at hs
      refine aw_iflt_t at_528_58 c1 ?_
      cases hs
      exact aw_vret at_528_117 rt_528 rfl
    · rw [if_neg c1] at hs
      refine aw_iflt_f (pc1 := 61) at_528_58 c1 rfl ?_
      refine aw_iload_n (pc1 := 62) at_528_61 l2 rfl ?_
      by_cases c2 : x2 = 0
      · rw [if_pos c2] at hs
        refine aw_ifeq_t at_528_62 c2 ?_
        refine aw_vload_n (pc1 := 78) at_528_77 l0 i0 rfl ?_
        obtain ⟨v3, e4, hs1⟩ := am_bind hs
        clear hs
        refine aw_pG (pc1 := 81) at_528_78 (am_vR_s e4).1 rfl ?_
        refine aw_iload_n (pc1 := 82) at_528_81 l3 rfl ?_
        obtain ⟨v5, e6, hs2⟩ := am_bind hs1
        clear hs1
        refine aw_pA (pc1 := 83) at_528_82 (Or.inr (Or.inl ⟨rfl, rfl⟩)) e6 rfl ?_
        by_cases c7 : ¬ v5 = 0
        · rw [if_pos c7] at hs2
          refine aw_ifne_t at_528_83 c7 ?_
          exact rg_528_89 (fun z0 z1 z2 h o hs2 => ih z0 z1 z2 h o hs2) x0 x2 x3 h o l0 l2 l3 i0 hs2
        · rw [if_neg c7] at hs2
          refine aw_ifne_f (pc1 := 86) at_528_83 c7 rfl ?_
          refine aw_goto at_528_86 ?_
          exact rg_528_111 (fun z0 z1 z2 h o hs2 => ih z0 z1 z2 h o hs2) x0 x2 x3 h o l0 l2 l3 i0 hs2
      · rw [if_neg c2] at hs
        refine aw_ifeq_f (pc1 := 65) at_528_62 c2 rfl ?_
        refine aw_vload_n (pc1 := 66) at_528_65 l0 i0 rfl ?_
        obtain ⟨v8, e9, hs3⟩ := am_bind hs
        clear hs
        refine aw_pG (pc1 := 69) at_528_66 (am_vR_s e9).1 rfl ?_
        refine aw_iload_n (pc1 := 70) at_528_69 l3 rfl ?_
        obtain ⟨v10, e11, hs4⟩ := am_bind hs3
        clear hs3
        refine aw_pA (pc1 := 71) at_528_70 (Or.inr (Or.inl ⟨rfl, rfl⟩)) e11 rfl ?_
        by_cases c12 : v10 = 0
        · rw [if_pos c12] at hs4
          refine aw_ifeq_t at_528_71 c12 ?_
          exact rg_528_111 (fun z0 z1 z2 h o hs4 => ih z0 z1 z2 h o hs4) x0 x2 x3 h o l0 l2 l3 i0 hs4
        · rw [if_neg c12] at hs4
          refine aw_ifeq_f (pc1 := 74) at_528_71 c12 rfl ?_
          refine aw_goto at_528_74 ?_
          exact rg_528_89 (fun z0 z1 z2 h o hs4 => ih z0 z1 z2 h o hs4) x0 x2 x3 h o l0 l2 l3 i0 hs4
def fg_528_49 (N : Nat) (rec_2 : Value → Int32 → Int32 → Int32 → am_H → Option am_O) (x0 : Value) (x1 : Int32) (x2 : Int32) (x3 : Int32) (h : am_H) : Option am_O := (rec_2 x0 x1 x2 ((x3 + 1)) h)
theorem rg_528_49 {X : am_X} {d : Nat} {N : Nat} {rec_2 : Value → Int32 → Int32 → Int32 → am_H → Option am_O} (q_2 : ∀ (x0 : Value) (x1 : Int32) (x2 : Int32) (x3 : Int32) (h : am_H) (o : am_O), rec_2 x0 x1 x2 x3 h = some o → ∀ lv : am_LV, (lv.lookup 0 = some x0) → (lv.lookup 1 = some (.int x1)) → (lv.lookup 2 = some (.int x2)) → (lv.lookup 3 = some (.int x3)) → (am_isR x0 = true) → am_W X (d + 1) 528 2 lv [] h (fun q => q = o)) {lv : am_LV} (x0 : Value) (x1 : Int32) (x2 : Int32) (x3 : Int32) (h : am_H) (o : am_O) (l0 : lv.lookup 0 = some x0) (l1 : lv.lookup 1 = some (.int x1)) (l2 : lv.lookup 2 = some (.int x2)) (l3 : lv.lookup 3 = some (.int x3)) (i0 : am_isR x0 = true) (hs : fg_528_49 N rec_2 x0 x1 x2 x3 h = some o) : am_W X (d + 1) 528 49 lv [] h (fun q => q = o) := by
  unfold fg_528_49 at hs
  refine aw_iinc (v := (x3 + 1)) (c := 1) (lv1 := am_put1 _ 3 _) (pc1 := 52) at_528_49 l3 (by decide) rfl rfl rfl ?_
  refine aw_goto at_528_52 ?_
  exact q_2 x0 x1 x2 ((x3 + 1)) h o hs _ (am_lk1 l0 rfl rfl) (am_lk1 l1 rfl rfl) (am_lk1 l2 rfl rfl) am_lk0 i0
def fg_528_48 (N : Nat) (rec_2 : Value → Int32 → Int32 → Int32 → am_H → Option am_O) (x0 : Value) (x1 : Int32) (x2 : Int32) (x3 : Int32) (s0 : Value) (s1 : Int32) (s2 : Int32) (h : am_H) : Option am_O := ((am_pS 2 s0 s1 s2 h).bind fun h1 => (fg_528_49 N rec_2 x0 x1 x2 x3 h1))
theorem rg_528_48 {X : am_X} {d : Nat} {N : Nat} {rec_2 : Value → Int32 → Int32 → Int32 → am_H → Option am_O} (q_2 : ∀ (x0 : Value) (x1 : Int32) (x2 : Int32) (x3 : Int32) (h : am_H) (o : am_O), rec_2 x0 x1 x2 x3 h = some o → ∀ lv : am_LV, (lv.lookup 0 = some x0) → (lv.lookup 1 = some (.int x1)) → (lv.lookup 2 = some (.int x2)) → (lv.lookup 3 = some (.int x3)) → (am_isR x0 = true) → am_W X (d + 1) 528 2 lv [] h (fun q => q = o)) {lv : am_LV} (x0 : Value) (x1 : Int32) (x2 : Int32) (x3 : Int32) (s0 : Value) (s1 : Int32) (s2 : Int32) (h : am_H) (o : am_O) (l0 : lv.lookup 0 = some x0) (l1 : lv.lookup 1 = some (.int x1)) (l2 : lv.lookup 2 = some (.int x2)) (l3 : lv.lookup 3 = some (.int x3)) (i0 : am_isR x0 = true) (j0 : am_isR s0 = true) (hs : fg_528_48 N rec_2 x0 x1 x2 x3 s0 s1 s2 h = some o) : am_W X (d + 1) 528 48 lv [(.int s2), (.int s1), s0] h (fun q => q = o) := by
  unfold fg_528_48 at hs
  obtain ⟨h1, e2, hs1⟩ := am_bind hs
  clear hs
  refine aw_pS (pc1 := 49) at_528_48 (Or.inr (Or.inl ⟨rfl, rfl⟩)) e2 rfl ?_
  exact rg_528_49 q_2 x0 x1 x2 x3 h1 o l0 l1 l2 l3 i0 hs1
def fg_528_29 (N : Nat) (rec_2 : Value → Int32 → Int32 → Int32 → am_H → Option am_O) (x0 : Value) (x1 : Int32) (x2 : Int32) (x3 : Int32) (s0 : Value) (s1 : Int32) (s2 : Int32) (h : am_H) : Option am_O := ((am_pS 2 s0 s1 s2 h).bind fun h1 => (fg_528_49 N rec_2 x0 x1 x2 x3 h1))
theorem rg_528_29 {X : am_X} {d : Nat} {N : Nat} {rec_2 : Value → Int32 → Int32 → Int32 → am_H → Option am_O} (q_2 : ∀ (x0 : Value) (x1 : Int32) (x2 : Int32) (x3 : Int32) (h : am_H) (o : am_O), rec_2 x0 x1 x2 x3 h = some o → ∀ lv : am_LV, (lv.lookup 0 = some x0) → (lv.lookup 1 = some (.int x1)) → (lv.lookup 2 = some (.int x2)) → (lv.lookup 3 = some (.int x3)) → (am_isR x0 = true) → am_W X (d + 1) 528 2 lv [] h (fun q => q = o)) {lv : am_LV} (x0 : Value) (x1 : Int32) (x2 : Int32) (x3 : Int32) (s0 : Value) (s1 : Int32) (s2 : Int32) (h : am_H) (o : am_O) (l0 : lv.lookup 0 = some x0) (l1 : lv.lookup 1 = some (.int x1)) (l2 : lv.lookup 2 = some (.int x2)) (l3 : lv.lookup 3 = some (.int x3)) (i0 : am_isR x0 = true) (j0 : am_isR s0 = true) (hs : fg_528_29 N rec_2 x0 x1 x2 x3 s0 s1 s2 h = some o) : am_W X (d + 1) 528 29 lv [(.int s2), (.int s1), s0] h (fun q => q = o) := by
  unfold fg_528_29 at hs
  obtain ⟨h1, e2, hs1⟩ := am_bind hs
  clear hs
  refine aw_pS (pc1 := 30) at_528_29 (Or.inr (Or.inl ⟨rfl, rfl⟩)) e2 rfl ?_
  refine aw_goto at_528_30 ?_
  exact rg_528_49 q_2 x0 x1 x2 x3 h1 o l0 l1 l2 l3 i0 hs1
def fg_528_2 (N : Nat) : Nat → Value → Int32 → Int32 → Int32 → am_H → Option am_O
  | 0 => fun _ _ _ _ _ => none
  | K + 1 => fun x0 x1 x2 x3 h => ((am_vI (am_pG 3073 x0 h)).bind fun v1 => (if v1 ≤ x3 then (fg_528_57 N N x0 x2 x1 h) else (if x2 = 0 then ((am_vR (am_pG 3185 x0 h)).bind fun v5 => (if ¬ x3 = x1 then (fg_528_48 N (fg_528_2 N K) x0 x1 x2 x3 v5 x3 0 h) else (fg_528_48 N (fg_528_2 N K) x0 x1 x2 x3 v5 x3 1 h))) else ((am_vR (am_pG 3186 x0 h)).bind fun v8 => (if ¬ x3 = x1 then (fg_528_29 N (fg_528_2 N K) x0 x1 x2 x3 v8 x3 0 h) else (fg_528_29 N (fg_528_2 N K) x0 x1 x2 x3 v8 x3 1 h))))))
theorem rg_528_2 {X : am_X} {d : Nat} {N : Nat} : ∀ (K : Nat) (x0 : Value) (x1 : Int32) (x2 : Int32) (x3 : Int32) (h : am_H) (o : am_O), fg_528_2 N K x0 x1 x2 x3 h = some o → ∀ lv : am_LV, (lv.lookup 0 = some x0) → (lv.lookup 1 = some (.int x1)) → (lv.lookup 2 = some (.int x2)) → (lv.lookup 3 = some (.int x3)) → (am_isR x0 = true) → am_W X (d + 1) 528 2 lv [] h (fun q => q = o) := by
  intro K
  induction K with
  | zero => intro x0 x1 x2 x3 h o hs; cases hs
  | succ K ih =>
    intro x0 x1 x2 x3 h o hs lv l0 l1 l2 l3 i0
    unfold fg_528_2 at hs
    refine aw_iload_n (pc1 := 3) at_528_2 l3 rfl ?_
    refine aw_vload_n (pc1 := 4) at_528_3 l0 i0 rfl ?_
    obtain ⟨v1, e2, hs1⟩ := am_bind hs
    clear hs
    refine aw_pG (pc1 := 7) at_528_4 (am_vI_s e2) rfl ?_
    by_cases c3 : v1 ≤ x3
    · rw [if_pos c3] at hs1
      refine aw_icge_t at_528_7 c3 ?_
      refine aw_iload_n (pc1 := 56) at_528_55 l1 rfl ?_
      refine aw_istore_n (lv1 := am_put1 _ 3 _) (pc1 := 57) at_528_56 rfl rfl ?_
      exact rg_528_57 N x0 x2 x1 h o hs1 _ (am_lk1 l0 rfl rfl) (am_lk1 l2 rfl rfl) am_lk0 i0
    · rw [if_neg c3] at hs1
      refine aw_icge_f (pc1 := 10) at_528_7 c3 rfl ?_
      refine aw_iload_n (pc1 := 11) at_528_10 l2 rfl ?_
      by_cases c4 : x2 = 0
      · rw [if_pos c4] at hs1
        refine aw_ifeq_t at_528_11 c4 ?_
        refine aw_vload_n (pc1 := 34) at_528_33 l0 i0 rfl ?_
        obtain ⟨v5, e6, hs2⟩ := am_bind hs1
        clear hs1
        refine aw_pG (pc1 := 37) at_528_34 (am_vR_s e6).1 rfl ?_
        refine aw_iload_n (pc1 := 38) at_528_37 l3 rfl ?_
        refine aw_iload_n (pc1 := 39) at_528_38 l3 rfl ?_
        refine aw_iload_n (pc1 := 40) at_528_39 l1 rfl ?_
        by_cases c7 : ¬ x3 = x1
        · rw [if_pos c7] at hs2
          refine aw_icne_t at_528_40 c7 ?_
          refine aw_iconst (v := 0) (pc1 := 48) at_528_47 (by decide) rfl ?_
          exact rg_528_48 (fun z0 z1 z2 z3 h o hs2 => ih z0 z1 z2 z3 h o hs2) x0 x1 x2 x3 v5 x3 0 h o l0 l1 l2 l3 i0 (am_vR_s e6).2 hs2
        · rw [if_neg c7] at hs2
          refine aw_icne_f (pc1 := 43) at_528_40 c7 rfl ?_
          refine aw_iconst (v := 1) (pc1 := 44) at_528_43 (by decide) rfl ?_
          refine aw_goto at_528_44 ?_
          exact rg_528_48 (fun z0 z1 z2 z3 h o hs2 => ih z0 z1 z2 z3 h o hs2) x0 x1 x2 x3 v5 x3 1 h o l0 l1 l2 l3 i0 (am_vR_s e6).2 hs2
      · rw [if_neg c4] at hs1
        refine aw_ifeq_f (pc1 := 14) at_528_11 c4 rfl ?_
        refine aw_vload_n (pc1 := 15) at_528_14 l0 i0 rfl ?_
        obtain ⟨v8, e9, hs3⟩ := am_bind hs1
        clear hs1
        refine aw_pG (pc1 := 18) at_528_15 (am_vR_s e9).1 rfl ?_
        refine aw_iload_n (pc1 := 19) at_528_18 l3 rfl ?_
        refine aw_iload_n (pc1 := 20) at_528_19 l3 rfl ?_
        refine aw_iload_n (pc1 := 21) at_528_20 l1 rfl ?_
        by_cases c10 : ¬ x3 = x1
        · rw [if_pos c10] at hs3
          refine aw_icne_t at_528_21 c10 ?_
          refine aw_iconst (v := 0) (pc1 := 29) at_528_28 (by decide) rfl ?_
          exact rg_528_29 (fun z0 z1 z2 z3 h o hs3 => ih z0 z1 z2 z3 h o hs3) x0 x1 x2 x3 v8 x3 0 h o l0 l1 l2 l3 i0 (am_vR_s e9).2 hs3
        · rw [if_neg c10] at hs3
          refine aw_icne_f (pc1 := 24) at_528_21 c10 rfl ?_
          refine aw_iconst (v := 1) (pc1 := 25) at_528_24 (by decide) rfl ?_
          refine aw_goto at_528_25 ?_
          exact rg_528_29 (fun z0 z1 z2 z3 h o hs3 => ih z0 z1 z2 z3 h o hs3) x0 x1 x2 x3 v8 x3 1 h o l0 l1 l2 l3 i0 (am_vR_s e9).2 hs3
def fg_528_0 (N : Nat) (x0 : Value) (x1 : Int32) (x2 : Int32) (h : am_H) : Option am_O := (fg_528_2 N N x0 x1 x2 0 h)
theorem rg_528_0 {X : am_X} {d : Nat} {N : Nat} {lv : am_LV} (x0 : Value) (x1 : Int32) (x2 : Int32) (h : am_H) (o : am_O) (l0 : lv.lookup 0 = some x0) (l1 : lv.lookup 1 = some (.int x1)) (l2 : lv.lookup 2 = some (.int x2)) (i0 : am_isR x0 = true) (hs : fg_528_0 N x0 x1 x2 h = some o) : am_W X (d + 1) 528 0 lv [] h (fun q => q = o) := by
  unfold fg_528_0 at hs
  refine aw_iconst (v := 0) (pc1 := 1) at_528_0 (by decide) rfl ?_
  refine aw_istore_n (lv1 := am_put1 _ 3 _) (pc1 := 2) at_528_1 rfl rfl ?_
  exact rg_528_2 N x0 x1 x2 0 h o hs _ (am_lk1 l0 rfl rfl) (am_lk1 l1 rfl rfl) (am_lk1 l2 rfl rfl) am_lk0 i0
def fm_528 (N : Nat) (y0 : Value) (y1 : Int32) (y2 : Int32) (h : am_H) : Option am_O := fg_528_0 N y0 y1 y2 h
theorem rm_528 {X : am_X} {d : Nat} {N : Nat} (y0 : Value) (y1 : Int32) (y2 : Int32) (h : am_H) (o : am_O) (i0 : am_isR y0 = true) (hs : fm_528 N y0 y1 y2 h = some o) : am_W X (d + 1) 528 0 (am_args 0 [y0, .int y1, .int y2]) [] h (fun q => q = o) := by
  rw [am_args_R i0, am_args_I, am_args_I]
  exact rg_528_0 y0 y1 y2 h o rfl rfl rfl i0 hs
def fg_527_59 (N : Nat) (rec_36 : Value → Int32 → Int32 → am_H → Option am_O) (x0 : Value) (x3 : Int32) (s0 : Int32) (s1 : Int32) (h : am_H) : Option am_O := (rec_36 x0 ((s0 + s1)) ((x3 + 1)) h)
theorem rg_527_59 {X : am_X} {d : Nat} {N : Nat} {rec_36 : Value → Int32 → Int32 → am_H → Option am_O} (q_36 : ∀ (x0 : Value) (x2 : Int32) (x3 : Int32) (h : am_H) (o : am_O), rec_36 x0 x2 x3 h = some o → ∀ lv : am_LV, (lv.lookup 0 = some x0) → (lv.lookup 2 = some (.int x2)) → (lv.lookup 3 = some (.int x3)) → (am_isR x0 = true) → am_W X (d + 2) 527 36 lv [] h (fun q => q = o)) {lv : am_LV} (x0 : Value) (x3 : Int32) (s0 : Int32) (s1 : Int32) (h : am_H) (o : am_O) (l0 : lv.lookup 0 = some x0) (l3 : lv.lookup 3 = some (.int x3)) (i0 : am_isR x0 = true) (hs : fg_527_59 N rec_36 x0 x3 s0 s1 h = some o) : am_W X (d + 2) 527 59 lv [(.int s1), (.int s0)] h (fun q => q = o) := by
  unfold fg_527_59 at hs
  refine aw_iadd (v := (s0 + s1)) (pc1 := 60) at_527_59 rfl rfl ?_
  refine aw_istore_n (lv1 := am_put1 _ 2 _) (pc1 := 61) at_527_60 rfl rfl ?_
  refine aw_iinc (v := (x3 + 1)) (c := 1) (lv1 := am_put1 _ 3 _) (pc1 := 64) at_527_61 (am_lk1 l3 rfl rfl) (by decide) rfl rfl rfl ?_
  refine aw_goto at_527_64 ?_
  exact q_36 x0 ((s0 + s1)) ((x3 + 1)) h o hs _ (am_lk1 (am_lk1 l0 rfl rfl) rfl rfl) (am_lk1 am_lk0 rfl rfl) am_lk0 i0
def fg_527_36 (N : Nat) : Nat → Value → Int32 → Int32 → am_H → Option am_O
  | 0 => fun _ _ _ _ => none
  | K + 1 => fun x0 x2 x3 h => ((am_vI (am_pG 3073 x0 h)).bind fun v1 => (if v1 ≤ x3 then some (.inl (some (.int x2), h)) else ((am_vR (am_pG 3185 x0 h)).bind fun v4 => ((am_pA 2 v4 x3 h).bind fun v6 => (if v6 = 0 then (fg_527_59 N (fg_527_36 N K) x0 x3 x2 0 h) else (fg_527_59 N (fg_527_36 N K) x0 x3 x2 1 h))))))
theorem rg_527_36 {X : am_X} {d : Nat} {N : Nat} : ∀ (K : Nat) (x0 : Value) (x2 : Int32) (x3 : Int32) (h : am_H) (o : am_O), fg_527_36 N K x0 x2 x3 h = some o → ∀ lv : am_LV, (lv.lookup 0 = some x0) → (lv.lookup 2 = some (.int x2)) → (lv.lookup 3 = some (.int x3)) → (am_isR x0 = true) → am_W X (d + 2) 527 36 lv [] h (fun q => q = o) := by
  intro K
  induction K with
  | zero => intro x0 x2 x3 h o hs; cases hs
  | succ K ih =>
    intro x0 x2 x3 h o hs lv l0 l2 l3 i0
    unfold fg_527_36 at hs
    refine aw_iload_n (pc1 := 37) at_527_36 l3 rfl ?_
    refine aw_vload_n (pc1 := 38) at_527_37 l0 i0 rfl ?_
    obtain ⟨v1, e2, hs1⟩ := am_bind hs
    clear hs
    refine aw_pG (pc1 := 41) at_527_38 (am_vI_s e2) rfl ?_
    by_cases c3 : v1 ≤ x3
    · rw [if_pos c3] at hs1
      refine aw_icge_t at_527_41 c3 ?_
      refine aw_iload_n (pc1 := 68) at_527_67 l2 rfl ?_
      cases hs1
      exact aw_iret at_527_68 (by rw [rt_527]; rfl) rfl
    · rw [if_neg c3] at hs1
      refine aw_icge_f (pc1 := 44) at_527_41 c3 rfl ?_
      refine aw_iload_n (pc1 := 45) at_527_44 l2 rfl ?_
      refine aw_vload_n (pc1 := 46) at_527_45 l0 i0 rfl ?_
      obtain ⟨v4, e5, hs2⟩ := am_bind hs1
      clear hs1
      refine aw_pG (pc1 := 49) at_527_46 (am_vR_s e5).1 rfl ?_
      refine aw_iload_n (pc1 := 50) at_527_49 l3 rfl ?_
      obtain ⟨v6, e7, hs3⟩ := am_bind hs2
      clear hs2
      refine aw_pA (pc1 := 51) at_527_50 (Or.inr (Or.inl ⟨rfl, rfl⟩)) e7 rfl ?_
      by_cases c8 : v6 = 0
      · rw [if_pos c8] at hs3
        refine aw_ifeq_t at_527_51 c8 ?_
        refine aw_iconst (v := 0) (pc1 := 59) at_527_58 (by decide) rfl ?_
        exact rg_527_59 (fun z0 z1 z2 h o hs3 => ih z0 z1 z2 h o hs3) x0 x3 x2 0 h o l0 l3 i0 hs3
      · rw [if_neg c8] at hs3
        refine aw_ifeq_f (pc1 := 54) at_527_51 c8 rfl ?_
        refine aw_iconst (v := 1) (pc1 := 55) at_527_54 (by decide) rfl ?_
        refine aw_goto at_527_55 ?_
        exact rg_527_59 (fun z0 z1 z2 h o hs3 => ih z0 z1 z2 h o hs3) x0 x3 x2 1 h o l0 l3 i0 hs3
def fg_527_14 (N : Nat) (x0 : Value) (x1 : Int32) (s0 : Value) (s1 : Int32) (h : am_H) : Option am_O := ((am_pP 3072 s0 (.int s1) h).bind fun h1 => ((am_vI (am_pG 3072 x0 h1)).bind fun v3 => (if v3 ≤ 0 then (if am_pOk 12 x0 h1 then am_cV true (fm_528 N x0 x1 0 h1) (fun h8 => (fg_527_36 N N x0 ((-1)) 0 h8)) else none) else some (.inl (some (.int 0), h1)))))
theorem rg_527_14 {X : am_X} {d : Nat} {N : Nat} {lv : am_LV} (x0 : Value) (x1 : Int32) (s0 : Value) (s1 : Int32) (h : am_H) (o : am_O) (l0 : lv.lookup 0 = some x0) (l1 : lv.lookup 1 = some (.int x1)) (i0 : am_isR x0 = true) (j0 : am_isR s0 = true) (hs : fg_527_14 N x0 x1 s0 s1 h = some o) : am_W X (d + 2) 527 14 lv [(.int s1), s0] h (fun q => q = o) := by
  unfold fg_527_14 at hs
  obtain ⟨h1, e2, hs1⟩ := am_bind hs
  clear hs
  refine aw_pP (pc1 := 17) at_527_14 e2 rfl ?_
  refine aw_vload_n (pc1 := 18) at_527_17 l0 i0 rfl ?_
  obtain ⟨v3, e4, hs2⟩ := am_bind hs1
  clear hs1
  refine aw_pG (pc1 := 21) at_527_18 (am_vI_s e4) rfl ?_
  by_cases c5 : v3 ≤ 0
  · rw [if_pos c5] at hs2
    refine aw_ifle_t at_527_21 c5 ?_
    refine aw_vload_n (pc1 := 27) at_527_26 l0 i0 rfl ?_
    refine aw_iload_n (pc1 := 28) at_527_27 l1 rfl ?_
    refine aw_iconst (v := 0) (pc1 := 29) at_527_28 (by decide) rfl ?_
    obtain ⟨z6, hs3⟩ := am_ift hs2
    clear hs2
    refine aw_call (F := fm_528 N x0 x1 0 h1) (t := true) (na := 3) (kd := 1) (as := [x0, (.int x1), (.int 0)]) at_527_29 (am_k3v kb_528) mn_528 mk_528 rfl rfl (am_ok_v mi_528 (am_hl rfl (am_ccR i0 (am_ccI (am_ccI am_cats_0))) rfl) z6) (am_hc am_cats_0 rfl) (fun _ => ⟨rfl, hh_527⟩) (fun o1 hz9 => rm_528 x0 x1 0 h1 o1 i0 hz9) ?_
    rcases am_cV_s hs3 with ⟨h8, f9, hs4⟩ | hs4
    · clear hs3
      refine Or.inl ⟨_, _, f9, ?_⟩
      show am_W X _ 527 32 _ [] h8 _
      refine aw_iconst (v := (-1)) (pc1 := 33) at_527_32 (by decide) rfl ?_
      refine aw_istore_n (lv1 := am_put1 _ 2 _) (pc1 := 34) at_527_33 rfl rfl ?_
      refine aw_iconst (v := 0) (pc1 := 35) at_527_34 (by decide) rfl ?_
      refine aw_istore_n (lv1 := am_put1 _ 3 _) (pc1 := 36) at_527_35 rfl rfl ?_
      exact rg_527_36 N x0 ((-1)) 0 h8 o hs4 _ (am_lk1 (am_lk1 l0 rfl rfl) rfl rfl) (am_lk1 am_lk0 rfl rfl) am_lk0 i0
    · clear hs3
      exact Or.inr hs4
  · rw [if_neg c5] at hs2
    refine aw_ifle_f (pc1 := 24) at_527_21 c5 rfl ?_
    refine aw_iconst (v := 0) (pc1 := 25) at_527_24 (by decide) rfl ?_
    cases hs2
    exact aw_iret at_527_25 (by rw [rt_527]; rfl) rfl
def fg_527_0 (N : Nat) (x0 : Value) (x1 : Int32) (h : am_H) : Option am_O := (if am_pOk 12 x0 h then am_cI true (fm_358 x0 x1 h) (fun v2 h3 => (if v2 = 0 then (fg_527_14 N x0 x1 x0 1 h3) else (fg_527_14 N x0 x1 x0 0 h3))) else none)
theorem rg_527_0 {X : am_X} {d : Nat} {N : Nat} {lv : am_LV} (x0 : Value) (x1 : Int32) (h : am_H) (o : am_O) (l0 : lv.lookup 0 = some x0) (l1 : lv.lookup 1 = some (.int x1)) (i0 : am_isR x0 = true) (hs : fg_527_0 N x0 x1 h = some o) : am_W X (d + 2) 527 0 lv [] h (fun q => q = o) := by
  unfold fg_527_0 at hs
  refine aw_vload_n (pc1 := 1) at_527_0 l0 i0 rfl ?_
  refine aw_vload_n (pc1 := 2) at_527_1 l0 i0 rfl ?_
  refine aw_iload_n (pc1 := 3) at_527_2 l1 rfl ?_
  obtain ⟨z1, hs1⟩ := am_ift hs
  clear hs
  refine aw_call (F := fm_358 x0 x1 h) (t := true) (na := 2) (kd := 1) (as := [x0, (.int x1)]) at_527_3 (am_k3v kb_358) mn_358 mk_358 rfl rfl (am_ok_v mi_358 (am_hl rfl (am_ccR i0 (am_ccI am_cats_0)) rfl) z1) (am_hc (am_ccR i0 am_cats_0) rfl) (fun _ => ⟨rfl, hh_527⟩) (fun o1 hz9 => rm_358 x0 x1 h o1 i0 hz9) ?_
  rcases am_cI_s hs1 with ⟨v2, h3, f4, hs2⟩ | hs2
  · clear hs1
    refine Or.inl ⟨_, _, f4, ?_⟩
    show am_W X _ 527 6 _ [(.int v2), x0] h3 _
    by_cases c5 : v2 = 0
    · rw [if_pos c5] at hs2
      refine aw_ifeq_t at_527_6 c5 ?_
      refine aw_iconst (v := 1) (pc1 := 14) at_527_13 (by decide) rfl ?_
      exact rg_527_14 x0 x1 x0 1 h3 o l0 l1 i0 i0 hs2
    · rw [if_neg c5] at hs2
      refine aw_ifeq_f (pc1 := 9) at_527_6 c5 rfl ?_
      refine aw_iconst (v := 0) (pc1 := 10) at_527_9 (by decide) rfl ?_
      refine aw_goto at_527_10 ?_
      exact rg_527_14 x0 x1 x0 0 h3 o l0 l1 i0 i0 hs2
  · clear hs1
    exact Or.inr hs2
def fm_527 (N : Nat) (y0 : Value) (y1 : Int32) (h : am_H) : Option am_O := fg_527_0 N y0 y1 h
theorem rm_527 {X : am_X} {d : Nat} {N : Nat} (y0 : Value) (y1 : Int32) (h : am_H) (o : am_O) (i0 : am_isR y0 = true) (hs : fm_527 N y0 y1 h = some o) : am_W X (d + 2) 527 0 (am_args 0 [y0, .int y1]) [] h (fun q => q = o) := by
  rw [am_args_R i0, am_args_I]
  exact rg_527_0 y0 y1 h o rfl rfl i0 hs
def fg_255_38 (N : Nat) : Nat → Value → Int32 → am_H → Option am_O
  | 0 => fun _ _ _ => none
  | K + 1 => fun x0 x3 h => (if x3 < 0 then some (.inl (some (.int (-1)), h)) else ((am_vR (am_pG 2833 x0 h)).bind fun v2 => ((am_pA 0 v2 x3 h).bind fun v4 => (if ¬ v4 = 3 then (fg_255_38 N K x0 ((x3 + (-1))) h) else some (.inl (some (.int x3), h))))))
theorem rg_255_38 {X : am_X} {d : Nat} {N : Nat} : ∀ (K : Nat) (x0 : Value) (x3 : Int32) (h : am_H) (o : am_O), fg_255_38 N K x0 x3 h = some o → ∀ lv : am_LV, (lv.lookup 0 = some x0) → (lv.lookup 3 = some (.int x3)) → (am_isR x0 = true) → am_W X (d + 2) 255 38 lv [] h (fun q => q = o) := by
  intro K
  induction K with
  | zero => intro x0 x3 h o hs; cases hs
  | succ K ih =>
    intro x0 x3 h o hs lv l0 l3 i0
    unfold fg_255_38 at hs
    refine aw_iload_n (pc1 := 39) at_255_38 l3 rfl ?_
    by_cases c1 : x3 < 0
    · rw [if_pos c1] at hs
      refine aw_iflt_t at_255_39 c1 ?_
      refine aw_iconst (v := (-1)) (pc1 := 61) at_255_60 (by decide) rfl ?_
      cases hs
      exact aw_iret at_255_61 (by rw [rt_255]; rfl) rfl
    · rw [if_neg c1] at hs
      refine aw_iflt_f (pc1 := 42) at_255_39 c1 rfl ?_
      refine aw_vload_n (pc1 := 43) at_255_42 l0 i0 rfl ?_
      obtain ⟨v2, e3, hs1⟩ := am_bind hs
      clear hs
      refine aw_pG (pc1 := 46) at_255_43 (am_vR_s e3).1 rfl ?_
      refine aw_iload_n (pc1 := 47) at_255_46 l3 rfl ?_
      obtain ⟨v4, e5, hs2⟩ := am_bind hs1
      clear hs1
      refine aw_pA (pc1 := 48) at_255_47 (Or.inl ⟨rfl, rfl⟩) e5 rfl ?_
      refine aw_iconst (v := 3) (pc1 := 49) at_255_48 (by decide) rfl ?_
      by_cases c6 : ¬ v4 = 3
      · rw [if_pos c6] at hs2
        refine aw_icne_t at_255_49 c6 ?_
        refine aw_iinc (v := (x3 + (-1))) (c := (-1)) (lv1 := am_put1 _ 3 _) (pc1 := 57) at_255_54 l3 (by decide) rfl rfl rfl ?_
        refine aw_goto at_255_57 ?_
        exact ih x0 ((x3 + (-1))) h o hs2 _ (am_lk1 l0 rfl rfl) am_lk0 i0
      · rw [if_neg c6] at hs2
        refine aw_icne_f (pc1 := 52) at_255_49 c6 rfl ?_
        refine aw_iload_n (pc1 := 53) at_255_52 l3 rfl ?_
        cases hs2
        exact aw_iret at_255_53 (by rw [rt_255]; rfl) rfl
def fg_255_0 (N : Nat) (x0 : Value) (x1 : Int32) (x2 : Int32) (h : am_H) : Option am_O := (if am_pOk 11 x0 h then am_cR true (fm_63 x0 x1 h) (fun v2 h3 => (if am_pOk 11 x0 h3 then am_cR true (fm_63 x0 x2 h3) (fun v6 h7 => ((am_vR (am_pG 2833 x0 h7)).bind fun v9 => am_cV false (fm_53 N v9 0 h7) (fun h12 => (if am_pOk 11 x0 h12 then am_cV true (fm_252 N x0 x1 1 h12) (fun h16 => (if am_pOk 11 x0 h16 then am_cV true (fm_252 N x0 x2 2 h16) (fun h20 => am_cI false (fm_38 x1 x2 h20) (fun v22 h23 => (fg_255_38 N N x0 v22 h23))) else none)) else none)))) else none)) else none)
theorem rg_255_0 {X : am_X} {d : Nat} {N : Nat} {lv : am_LV} (x0 : Value) (x1 : Int32) (x2 : Int32) (h : am_H) (o : am_O) (l0 : lv.lookup 0 = some x0) (l1 : lv.lookup 1 = some (.int x1)) (l2 : lv.lookup 2 = some (.int x2)) (i0 : am_isR x0 = true) (hs : fg_255_0 N x0 x1 x2 h = some o) : am_W X (d + 2) 255 0 lv [] h (fun q => q = o) := by
  unfold fg_255_0 at hs
  refine aw_vload_n (pc1 := 1) at_255_0 l0 i0 rfl ?_
  refine aw_iload_n (pc1 := 2) at_255_1 l1 rfl ?_
  obtain ⟨z1, hs1⟩ := am_ift hs
  clear hs
  refine aw_call (F := fm_63 x0 x1 h) (t := true) (na := 2) (kd := 1) (as := [x0, (.int x1)]) at_255_2 (am_k3v kb_63) mn_63 mk_63 rfl rfl (am_ok_v mi_63 (am_hl rfl (am_ccR i0 (am_ccI am_cats_0)) rfl) z1) (am_hc am_cats_0 rfl) (fun _ => ⟨rfl, hh_255⟩) (fun o1 hz9 => rm_63 x0 x1 h o1 i0 hz9) ?_
  rcases am_cR_s hs1 with ⟨v2, h3, f4, iv2, hs2⟩ | hs2
  · clear hs1
    refine Or.inl ⟨_, _, f4, ?_⟩
    show am_W X _ 255 5 _ [v2] h3 _
    refine aw_vpop (pc1 := 6) at_255_5 iv2 rfl ?_
    refine aw_vload_n (pc1 := 7) at_255_6 l0 i0 rfl ?_
    refine aw_iload_n (pc1 := 8) at_255_7 l2 rfl ?_
    obtain ⟨z5, hs3⟩ := am_ift hs2
    clear hs2
    refine aw_call (F := fm_63 x0 x2 h3) (t := true) (na := 2) (kd := 1) (as := [x0, (.int x2)]) at_255_8 (am_k3v kb_63) mn_63 mk_63 rfl rfl (am_ok_v mi_63 (am_hl rfl (am_ccR i0 (am_ccI am_cats_0)) rfl) z5) (am_hc am_cats_0 rfl) (fun _ => ⟨rfl, hh_255⟩) (fun o1 hz9 => rm_63 x0 x2 h3 o1 i0 hz9) ?_
    rcases am_cR_s hs3 with ⟨v6, h7, f8, iv6, hs4⟩ | hs4
    · clear hs3
      refine Or.inl ⟨_, _, f8, ?_⟩
      show am_W X _ 255 11 _ [v6] h7 _
      refine aw_vpop (pc1 := 12) at_255_11 iv6 rfl ?_
      refine aw_vload_n (pc1 := 13) at_255_12 l0 i0 rfl ?_
      obtain ⟨v9, e10, hs5⟩ := am_bind hs4
      clear hs4
      refine aw_pG (pc1 := 16) at_255_13 (am_vR_s e10).1 rfl ?_
      refine aw_iconst (v := 0) (pc1 := 17) at_255_16 (by decide) rfl ?_
      refine aw_call (F := fm_53 N v9 0 h7) (t := false) (na := 2) (kd := 0) (as := [v9, (.int 0)]) at_255_17 (am_k3s kb_53) mn_53 mk_53 rfl rfl (am_ok_s mi_53 (am_hl rfl (am_ccR (am_vR_s e10).2 (am_ccI am_cats_0)) rfl)) (am_hc am_cats_0 rfl) (fun hz9 => by cases hz9) (fun o1 hz9 => rm_53 v9 0 h7 o1 (am_vR_s e10).2 hz9) ?_
      rcases am_cV_s hs5 with ⟨h12, f13, hs6⟩ | hs6
      · clear hs5
        refine Or.inl ⟨_, _, f13, ?_⟩
        show am_W X _ 255 20 _ [] h12 _
        refine aw_vload_n (pc1 := 21) at_255_20 l0 i0 rfl ?_
        refine aw_iload_n (pc1 := 22) at_255_21 l1 rfl ?_
        refine aw_iconst (v := 1) (pc1 := 23) at_255_22 (by decide) rfl ?_
        obtain ⟨z14, hs7⟩ := am_ift hs6
        clear hs6
        refine aw_call (F := fm_252 N x0 x1 1 h12) (t := true) (na := 3) (kd := 1) (as := [x0, (.int x1), (.int 1)]) at_255_23 (am_k3v kb_252) mn_252 mk_252 rfl rfl (am_ok_v mi_252 (am_hl rfl (am_ccR i0 (am_ccI (am_ccI am_cats_0))) rfl) z14) (am_hc am_cats_0 rfl) (fun _ => ⟨rfl, hh_255⟩) (fun o1 hz9 => rm_252 x0 x1 1 h12 o1 i0 hz9) ?_
        rcases am_cV_s hs7 with ⟨h16, f17, hs8⟩ | hs8
        · clear hs7
          refine Or.inl ⟨_, _, f17, ?_⟩
          show am_W X _ 255 26 _ [] h16 _
          refine aw_vload_n (pc1 := 27) at_255_26 l0 i0 rfl ?_
          refine aw_iload_n (pc1 := 28) at_255_27 l2 rfl ?_
          refine aw_iconst (v := 2) (pc1 := 29) at_255_28 (by decide) rfl ?_
          obtain ⟨z18, hs9⟩ := am_ift hs8
          clear hs8
          refine aw_call (F := fm_252 N x0 x2 2 h16) (t := true) (na := 3) (kd := 1) (as := [x0, (.int x2), (.int 2)]) at_255_29 (am_k3v kb_252) mn_252 mk_252 rfl rfl (am_ok_v mi_252 (am_hl rfl (am_ccR i0 (am_ccI (am_ccI am_cats_0))) rfl) z18) (am_hc am_cats_0 rfl) (fun _ => ⟨rfl, hh_255⟩) (fun o1 hz9 => rm_252 x0 x2 2 h16 o1 i0 hz9) ?_
          rcases am_cV_s hs9 with ⟨h20, f21, hs10⟩ | hs10
          · clear hs9
            refine Or.inl ⟨_, _, f21, ?_⟩
            show am_W X _ 255 32 _ [] h20 _
            refine aw_iload_n (pc1 := 33) at_255_32 l1 rfl ?_
            refine aw_iload_n (pc1 := 34) at_255_33 l2 rfl ?_
            refine aw_call (F := fm_38 x1 x2 h20) (t := false) (na := 2) (kd := 0) (as := [(.int x1), (.int x2)]) at_255_34 (am_k3s kb_38) mn_38 mk_38 rfl rfl (am_ok_s mi_38 (am_hl rfl (am_ccI (am_ccI am_cats_0)) rfl)) (am_hc am_cats_0 rfl) (fun hz9 => by cases hz9) (fun o1 hz9 => rm_38 x1 x2 h20 o1  hz9) ?_
            rcases am_cI_s hs10 with ⟨v22, h23, f24, hs11⟩ | hs11
            · clear hs10
              refine Or.inl ⟨_, _, f24, ?_⟩
              show am_W X _ 255 37 _ [(.int v22)] h23 _
              refine aw_istore_n (lv1 := am_put1 _ 3 _) (pc1 := 38) at_255_37 rfl rfl ?_
              exact rg_255_38 N x0 v22 h23 o hs11 _ (am_lk1 l0 rfl rfl) am_lk0 i0
            · clear hs10
              exact Or.inr hs11
          · clear hs9
            exact Or.inr hs10
        · clear hs7
          exact Or.inr hs8
      · clear hs5
        exact Or.inr hs6
    · clear hs3
      exact Or.inr hs4
  · clear hs1
    exact Or.inr hs2
def fm_255 (N : Nat) (y0 : Value) (y1 : Int32) (y2 : Int32) (h : am_H) : Option am_O := fg_255_0 N y0 y1 y2 h
theorem rm_255 {X : am_X} {d : Nat} {N : Nat} (y0 : Value) (y1 : Int32) (y2 : Int32) (h : am_H) (o : am_O) (i0 : am_isR y0 = true) (hs : fm_255 N y0 y1 y2 h = some o) : am_W X (d + 2) 255 0 (am_args 0 [y0, .int y1, .int y2]) [] h (fun q => q = o) := by
  rw [am_args_R i0, am_args_I, am_args_I]
  exact rg_255_0 y0 y1 y2 h o rfl rfl rfl i0 hs
def fg_254_15 (N : Nat) (h : am_H) : Option am_O := some (.inl (some (.int 1), h))
theorem rg_254_15 {X : am_X} {d : Nat} {N : Nat} {lv : am_LV} (h : am_H) (o : am_O) (hs : fg_254_15 N h = some o) : am_W X (d + 3) 254 15 lv [] h (fun q => q = o) := by
  unfold fg_254_15 at hs
  refine aw_iconst (v := 1) (pc1 := 16) at_254_15 (by decide) rfl ?_
  cases hs
  exact aw_iret at_254_16 (by rw [rt_254]; rfl) rfl
def fg_254_0 (N : Nat) (x0 : Value) (x1 : Int32) (x2 : Int32) (x3 : Value) (h : am_H) : Option am_O := (if am_pOk 11 x0 h then (match fm_255 N x0 x1 x2 h with | some (.inl (some (.int v2), h3)) => ((am_pSL x3 0 (Int32.toInt64 v2) h3).bind fun h5 => some (.inl (some (.int 0), h5))) | some (.inr (2, h7)) => (fg_254_15 N h7) | _ => none) else none)
theorem rg_254_0 {X : am_X} {d : Nat} {N : Nat} {lv : am_LV} (x0 : Value) (x1 : Int32) (x2 : Int32) (x3 : Value) (h : am_H) (o : am_O) (l0 : lv.lookup 0 = some x0) (l1 : lv.lookup 1 = some (.int x1)) (l2 : lv.lookup 2 = some (.int x2)) (l3 : lv.lookup 3 = some x3) (i0 : am_isR x0 = true) (i3 : am_isR x3 = true) (hs : fg_254_0 N x0 x1 x2 x3 h = some o) : am_W X (d + 3) 254 0 lv [] h (fun q => q = o) := by
  unfold fg_254_0 at hs
  refine aw_vload_n (pc1 := 1) at_254_0 l3 i3 rfl ?_
  refine aw_iconst (v := 0) (pc1 := 2) at_254_1 (by decide) rfl ?_
  refine aw_vload_n (pc1 := 3) at_254_2 l0 i0 rfl ?_
  refine aw_iload_n (pc1 := 4) at_254_3 l1 rfl ?_
  refine aw_iload_n (pc1 := 5) at_254_4 l2 rfl ?_
  obtain ⟨z1, hs1⟩ := am_ift hs
  clear hs
  refine aw_callH (F := fm_255 N x0 x1 x2 h) (na := 3) (kd := 1) (as := [x0, (.int x1), (.int x2)]) at_254_5 (am_k3v kb_255) mn_255 mk_255 rfl rfl (am_ok_v mi_255 (am_hl rfl (am_ccR i0 (am_ccI (am_ccI am_cats_0))) rfl) z1) (am_hc (am_ccI (am_ccR i3 am_cats_0)) rfl) (fun o1 hz9 => rm_255 x0 x1 x2 h o1 i0 hz9) ?_
  split at hs1
  · rename_i v2 h3 f4
    refine Or.inl ⟨_, _, f4, ?_⟩
    show am_W X _ 254 8 _ [(.int v2), (.int 0), x3] h3 _
    refine aw_i2l (v := (Int32.toInt64 v2)) (pc1 := 9) at_254_8 rfl rfl ?_
    obtain ⟨h5, e6, hs2⟩ := am_bind hs1
    clear hs1
    refine aw_pSL (pc1 := 10) at_254_9 e6 rfl ?_
    refine aw_goto at_254_10 ?_
    refine aw_iconst (v := 0) (pc1 := 18) at_254_17 (by decide) rfl ?_
    cases hs2
    exact aw_iret at_254_18 (by rw [rt_254]; rfl) rfl
  · rename_i h7 f8
    refine Or.inr ⟨_, _, 15, 4, f8, rfl, hn_254, hd_254_5_2, ?_⟩
    exact rg_254_15 h7 o   hs1
  · cases hs1
def fm_254 (N : Nat) (y0 : Value) (y1 : Int32) (y2 : Int32) (y3 : Value) (h : am_H) : Option am_O := fg_254_0 N y0 y1 y2 y3 h
theorem rm_254 {X : am_X} {d : Nat} {N : Nat} (y0 : Value) (y1 : Int32) (y2 : Int32) (y3 : Value) (h : am_H) (o : am_O) (i0 : am_isR y0 = true) (i3 : am_isR y3 = true) (hs : fm_254 N y0 y1 y2 y3 h = some o) : am_W X (d + 3) 254 0 (am_args 0 [y0, .int y1, .int y2, y3]) [] h (fun q => q = o) := by
  rw [am_args_R i0, am_args_I, am_args_I, am_args_R i3]
  exact rg_254_0 y0 y1 y2 y3 h o rfl rfl rfl rfl i0 i3 hs
def fg_530_86 (N : Nat) (rec_51 : Value → Int32 → Int32 → am_H → Option am_O) (x0 : Value) (x4 : Int32) (s0 : Int32) (h : am_H) : Option am_O := (rec_51 x0 s0 ((x4 + 1)) h)
theorem rg_530_86 {X : am_X} {d : Nat} {N : Nat} {rec_51 : Value → Int32 → Int32 → am_H → Option am_O} (q_51 : ∀ (x0 : Value) (x3 : Int32) (x4 : Int32) (h : am_H) (o : am_O), rec_51 x0 x3 x4 h = some o → ∀ lv : am_LV, (lv.lookup 0 = some x0) → (lv.lookup 3 = some (.int x3)) → (lv.lookup 4 = some (.int x4)) → (am_isR x0 = true) → am_W X (d + 2) 530 51 lv [] h (fun q => q = o)) {lv : am_LV} (x0 : Value) (x4 : Int32) (s0 : Int32) (h : am_H) (o : am_O) (l0 : lv.lookup 0 = some x0) (l4 : lv.lookup 4 = some (.int x4)) (i0 : am_isR x0 = true) (hs : fg_530_86 N rec_51 x0 x4 s0 h = some o) : am_W X (d + 2) 530 86 lv [(.int s0)] h (fun q => q = o) := by
  unfold fg_530_86 at hs
  refine aw_istore_n (lv1 := am_put1 _ 3 _) (pc1 := 87) at_530_86 rfl rfl ?_
  refine aw_iinc (v := (x4 + 1)) (c := 1) (lv1 := am_put1 _ 4 _) (pc1 := 90) at_530_87 (am_lk1 l4 rfl rfl) (by decide) rfl rfl rfl ?_
  refine aw_goto at_530_90 ?_
  exact q_51 x0 s0 ((x4 + 1)) h o hs _ (am_lk1 (am_lk1 l0 rfl rfl) rfl rfl) (am_lk1 am_lk0 rfl rfl) am_lk0 i0
def fg_530_85 (N : Nat) (rec_51 : Value → Int32 → Int32 → am_H → Option am_O) (x0 : Value) (x3 : Int32) (x4 : Int32) (h : am_H) : Option am_O := (fg_530_86 N rec_51 x0 x4 x3 h)
theorem rg_530_85 {X : am_X} {d : Nat} {N : Nat} {rec_51 : Value → Int32 → Int32 → am_H → Option am_O} (q_51 : ∀ (x0 : Value) (x3 : Int32) (x4 : Int32) (h : am_H) (o : am_O), rec_51 x0 x3 x4 h = some o → ∀ lv : am_LV, (lv.lookup 0 = some x0) → (lv.lookup 3 = some (.int x3)) → (lv.lookup 4 = some (.int x4)) → (am_isR x0 = true) → am_W X (d + 2) 530 51 lv [] h (fun q => q = o)) {lv : am_LV} (x0 : Value) (x3 : Int32) (x4 : Int32) (h : am_H) (o : am_O) (l0 : lv.lookup 0 = some x0) (l3 : lv.lookup 3 = some (.int x3)) (l4 : lv.lookup 4 = some (.int x4)) (i0 : am_isR x0 = true) (hs : fg_530_85 N rec_51 x0 x3 x4 h = some o) : am_W X (d + 2) 530 85 lv [] h (fun q => q = o) := by
  unfold fg_530_85 at hs
  refine aw_iload_n (pc1 := 86) at_530_85 l3 rfl ?_
  exact rg_530_86 q_51 x0 x4 x3 h o l0 l4 i0 hs
def fg_530_51 (N : Nat) : Nat → Value → Int32 → Int32 → am_H → Option am_O
  | 0 => fun _ _ _ _ => none
  | K + 1 => fun x0 x3 x4 h => ((am_vI (am_pG 3073 x0 h)).bind fun v1 => (if v1 ≤ x4 then some (.inl (some (.int x3), h)) else ((am_vR (am_pG 3185 x0 h)).bind fun v4 => ((am_pA 2 v4 x4 h).bind fun v6 => (if v6 = 0 then (fg_530_85 N (fg_530_51 N K) x0 x3 x4 h) else ((am_vR (am_pG 3186 x0 h)).bind fun v9 => ((am_pA 2 v9 x4 h).bind fun v11 => (if v11 = 0 then (fg_530_85 N (fg_530_51 N K) x0 x3 x4 h) else (fg_530_86 N (fg_530_51 N K) x0 x4 x4 h)))))))))
theorem rg_530_51 {X : am_X} {d : Nat} {N : Nat} : ∀ (K : Nat) (x0 : Value) (x3 : Int32) (x4 : Int32) (h : am_H) (o : am_O), fg_530_51 N K x0 x3 x4 h = some o → ∀ lv : am_LV, (lv.lookup 0 = some x0) → (lv.lookup 3 = some (.int x3)) → (lv.lookup 4 = some (.int x4)) → (am_isR x0 = true) → am_W X (d + 2) 530 51 lv [] h (fun q => q = o) := by
  intro K
  induction K with
  | zero => intro x0 x3 x4 h o hs; cases hs
  | succ K ih =>
    intro x0 x3 x4 h o hs lv l0 l3 l4 i0
    unfold fg_530_51 at hs
    refine aw_iload (pc1 := 53) at_530_51 l4 rfl ?_
    refine aw_vload_n (pc1 := 54) at_530_53 l0 i0 rfl ?_
    obtain ⟨v1, e2, hs1⟩ := am_bind hs
    clear hs
    refine aw_pG (pc1 := 57) at_530_54 (am_vI_s e2) rfl ?_
    by_cases c3 : v1 ≤ x4
    · rw [if_pos c3] at hs1
      refine aw_icge_t at_530_57 c3 ?_
      refine aw_iload_n (pc1 := 94) at_530_93 l3 rfl ?_
      cases hs1
      exact aw_iret at_530_94 (by rw [rt_530]; rfl) rfl
    · rw [if_neg c3] at hs1
      refine aw_icge_f (pc1 := 60) at_530_57 c3 rfl ?_
      refine aw_vload_n (pc1 := 61) at_530_60 l0 i0 rfl ?_
      obtain ⟨v4, e5, hs2⟩ := am_bind hs1
      clear hs1
      refine aw_pG (pc1 := 64) at_530_61 (am_vR_s e5).1 rfl ?_
      refine aw_iload (pc1 := 66) at_530_64 l4 rfl ?_
      obtain ⟨v6, e7, hs3⟩ := am_bind hs2
      clear hs2
      refine aw_pA (pc1 := 67) at_530_66 (Or.inr (Or.inl ⟨rfl, rfl⟩)) e7 rfl ?_
      by_cases c8 : v6 = 0
      · rw [if_pos c8] at hs3
        refine aw_ifeq_t at_530_67 c8 ?_
        exact rg_530_85 (fun z0 z1 z2 h o hs3 => ih z0 z1 z2 h o hs3) x0 x3 x4 h o l0 l3 l4 i0 hs3
      · rw [if_neg c8] at hs3
        refine aw_ifeq_f (pc1 := 70) at_530_67 c8 rfl ?_
        refine aw_vload_n (pc1 := 71) at_530_70 l0 i0 rfl ?_
        obtain ⟨v9, e10, hs4⟩ := am_bind hs3
        clear hs3
        refine aw_pG (pc1 := 74) at_530_71 (am_vR_s e10).1 rfl ?_
        refine aw_iload (pc1 := 76) at_530_74 l4 rfl ?_
        obtain ⟨v11, e12, hs5⟩ := am_bind hs4
        clear hs4
        refine aw_pA (pc1 := 77) at_530_76 (Or.inr (Or.inl ⟨rfl, rfl⟩)) e12 rfl ?_
        by_cases c13 : v11 = 0
        · rw [if_pos c13] at hs5
          refine aw_ifeq_t at_530_77 c13 ?_
          exact rg_530_85 (fun z0 z1 z2 h o hs5 => ih z0 z1 z2 h o hs5) x0 x3 x4 h o l0 l3 l4 i0 hs5
        · rw [if_neg c13] at hs5
          refine aw_ifeq_f (pc1 := 80) at_530_77 c13 rfl ?_
          refine aw_iload (pc1 := 82) at_530_80 l4 rfl ?_
          refine aw_goto at_530_82 ?_
          exact rg_530_86 (fun z0 z1 z2 h o hs5 => ih z0 z1 z2 h o hs5) x0 x4 x4 h o l0 l4 i0 hs5
def fg_530_22 (N : Nat) (x0 : Value) (x1 : Int32) (x2 : Int32) (s0 : Value) (s1 : Int32) (h : am_H) : Option am_O := ((am_pP 3072 s0 (.int s1) h).bind fun h1 => ((am_vI (am_pG 3072 x0 h1)).bind fun v3 => (if v3 ≤ 0 then (if am_pOk 12 x0 h1 then am_cV true (fm_528 N x0 x1 0 h1) (fun h8 => (if am_pOk 12 x0 h8 then am_cV true (fm_528 N x0 x2 1 h8) (fun h12 => (fg_530_51 N N x0 ((-1)) 0 h12)) else none)) else none) else some (.inl (some (.int 0), h1)))))
theorem rg_530_22 {X : am_X} {d : Nat} {N : Nat} {lv : am_LV} (x0 : Value) (x1 : Int32) (x2 : Int32) (s0 : Value) (s1 : Int32) (h : am_H) (o : am_O) (l0 : lv.lookup 0 = some x0) (l1 : lv.lookup 1 = some (.int x1)) (l2 : lv.lookup 2 = some (.int x2)) (i0 : am_isR x0 = true) (j0 : am_isR s0 = true) (hs : fg_530_22 N x0 x1 x2 s0 s1 h = some o) : am_W X (d + 2) 530 22 lv [(.int s1), s0] h (fun q => q = o) := by
  unfold fg_530_22 at hs
  obtain ⟨h1, e2, hs1⟩ := am_bind hs
  clear hs
  refine aw_pP (pc1 := 25) at_530_22 e2 rfl ?_
  refine aw_vload_n (pc1 := 26) at_530_25 l0 i0 rfl ?_
  obtain ⟨v3, e4, hs2⟩ := am_bind hs1
  clear hs1
  refine aw_pG (pc1 := 29) at_530_26 (am_vI_s e4) rfl ?_
  by_cases c5 : v3 ≤ 0
  · rw [if_pos c5] at hs2
    refine aw_ifle_t at_530_29 c5 ?_
    refine aw_vload_n (pc1 := 35) at_530_34 l0 i0 rfl ?_
    refine aw_iload_n (pc1 := 36) at_530_35 l1 rfl ?_
    refine aw_iconst (v := 0) (pc1 := 37) at_530_36 (by decide) rfl ?_
    obtain ⟨z6, hs3⟩ := am_ift hs2
    clear hs2
    refine aw_call (F := fm_528 N x0 x1 0 h1) (t := true) (na := 3) (kd := 1) (as := [x0, (.int x1), (.int 0)]) at_530_37 (am_k3v kb_528) mn_528 mk_528 rfl rfl (am_ok_v mi_528 (am_hl rfl (am_ccR i0 (am_ccI (am_ccI am_cats_0))) rfl) z6) (am_hc am_cats_0 rfl) (fun _ => ⟨rfl, hh_530⟩) (fun o1 hz9 => rm_528 x0 x1 0 h1 o1 i0 hz9) ?_
    rcases am_cV_s hs3 with ⟨h8, f9, hs4⟩ | hs4
    · clear hs3
      refine Or.inl ⟨_, _, f9, ?_⟩
      show am_W X _ 530 40 _ [] h8 _
      refine aw_vload_n (pc1 := 41) at_530_40 l0 i0 rfl ?_
      refine aw_iload_n (pc1 := 42) at_530_41 l2 rfl ?_
      refine aw_iconst (v := 1) (pc1 := 43) at_530_42 (by decide) rfl ?_
      obtain ⟨z10, hs5⟩ := am_ift hs4
      clear hs4
      refine aw_call (F := fm_528 N x0 x2 1 h8) (t := true) (na := 3) (kd := 1) (as := [x0, (.int x2), (.int 1)]) at_530_43 (am_k3v kb_528) mn_528 mk_528 rfl rfl (am_ok_v mi_528 (am_hl rfl (am_ccR i0 (am_ccI (am_ccI am_cats_0))) rfl) z10) (am_hc am_cats_0 rfl) (fun _ => ⟨rfl, hh_530⟩) (fun o1 hz9 => rm_528 x0 x2 1 h8 o1 i0 hz9) ?_
      rcases am_cV_s hs5 with ⟨h12, f13, hs6⟩ | hs6
      · clear hs5
        refine Or.inl ⟨_, _, f13, ?_⟩
        show am_W X _ 530 46 _ [] h12 _
        refine aw_iconst (v := (-1)) (pc1 := 47) at_530_46 (by decide) rfl ?_
        refine aw_istore_n (lv1 := am_put1 _ 3 _) (pc1 := 48) at_530_47 rfl rfl ?_
        refine aw_iconst (v := 0) (pc1 := 49) at_530_48 (by decide) rfl ?_
        refine aw_istore (lv1 := am_put1 _ 4 _) (pc1 := 51) at_530_49 rfl rfl ?_
        exact rg_530_51 N x0 ((-1)) 0 h12 o hs6 _ (am_lk1 (am_lk1 l0 rfl rfl) rfl rfl) (am_lk1 am_lk0 rfl rfl) am_lk0 i0
      · clear hs5
        exact Or.inr hs6
    · clear hs3
      exact Or.inr hs4
  · rw [if_neg c5] at hs2
    refine aw_ifle_f (pc1 := 32) at_530_29 c5 rfl ?_
    refine aw_iconst (v := 0) (pc1 := 33) at_530_32 (by decide) rfl ?_
    cases hs2
    exact aw_iret at_530_33 (by rw [rt_530]; rfl) rfl
def fg_530_21 (N : Nat) (x0 : Value) (x1 : Int32) (x2 : Int32) (s0 : Value) (h : am_H) : Option am_O := (fg_530_22 N x0 x1 x2 s0 1 h)
theorem rg_530_21 {X : am_X} {d : Nat} {N : Nat} {lv : am_LV} (x0 : Value) (x1 : Int32) (x2 : Int32) (s0 : Value) (h : am_H) (o : am_O) (l0 : lv.lookup 0 = some x0) (l1 : lv.lookup 1 = some (.int x1)) (l2 : lv.lookup 2 = some (.int x2)) (i0 : am_isR x0 = true) (j0 : am_isR s0 = true) (hs : fg_530_21 N x0 x1 x2 s0 h = some o) : am_W X (d + 2) 530 21 lv [s0] h (fun q => q = o) := by
  unfold fg_530_21 at hs
  refine aw_iconst (v := 1) (pc1 := 22) at_530_21 (by decide) rfl ?_
  exact rg_530_22 x0 x1 x2 s0 1 h o l0 l1 l2 i0 j0 hs
def fg_530_0 (N : Nat) (x0 : Value) (x1 : Int32) (x2 : Int32) (h : am_H) : Option am_O := (if am_pOk 12 x0 h then am_cI true (fm_358 x0 x1 h) (fun v2 h3 => (if v2 = 0 then (fg_530_21 N x0 x1 x2 x0 h3) else (if am_pOk 12 x0 h3 then am_cI true (fm_358 x0 x2 h3) (fun v7 h8 => (if v7 = 0 then (fg_530_21 N x0 x1 x2 x0 h8) else (fg_530_22 N x0 x1 x2 x0 0 h8))) else none))) else none)
theorem rg_530_0 {X : am_X} {d : Nat} {N : Nat} {lv : am_LV} (x0 : Value) (x1 : Int32) (x2 : Int32) (h : am_H) (o : am_O) (l0 : lv.lookup 0 = some x0) (l1 : lv.lookup 1 = some (.int x1)) (l2 : lv.lookup 2 = some (.int x2)) (i0 : am_isR x0 = true) (hs : fg_530_0 N x0 x1 x2 h = some o) : am_W X (d + 2) 530 0 lv [] h (fun q => q = o) := by
  unfold fg_530_0 at hs
  refine aw_vload_n (pc1 := 1) at_530_0 l0 i0 rfl ?_
  refine aw_vload_n (pc1 := 2) at_530_1 l0 i0 rfl ?_
  refine aw_iload_n (pc1 := 3) at_530_2 l1 rfl ?_
  obtain ⟨z1, hs1⟩ := am_ift hs
  clear hs
  refine aw_call (F := fm_358 x0 x1 h) (t := true) (na := 2) (kd := 1) (as := [x0, (.int x1)]) at_530_3 (am_k3v kb_358) mn_358 mk_358 rfl rfl (am_ok_v mi_358 (am_hl rfl (am_ccR i0 (am_ccI am_cats_0)) rfl) z1) (am_hc (am_ccR i0 am_cats_0) rfl) (fun _ => ⟨rfl, hh_530⟩) (fun o1 hz9 => rm_358 x0 x1 h o1 i0 hz9) ?_
  rcases am_cI_s hs1 with ⟨v2, h3, f4, hs2⟩ | hs2
  · clear hs1
    refine Or.inl ⟨_, _, f4, ?_⟩
    show am_W X _ 530 6 _ [(.int v2), x0] h3 _
    by_cases c5 : v2 = 0
    · rw [if_pos c5] at hs2
      refine aw_ifeq_t at_530_6 c5 ?_
      exact rg_530_21 x0 x1 x2 x0 h3 o l0 l1 l2 i0 i0 hs2
    · rw [if_neg c5] at hs2
      refine aw_ifeq_f (pc1 := 9) at_530_6 c5 rfl ?_
      refine aw_vload_n (pc1 := 10) at_530_9 l0 i0 rfl ?_
      refine aw_iload_n (pc1 := 11) at_530_10 l2 rfl ?_
      obtain ⟨z6, hs3⟩ := am_ift hs2
      clear hs2
      refine aw_call (F := fm_358 x0 x2 h3) (t := true) (na := 2) (kd := 1) (as := [x0, (.int x2)]) at_530_11 (am_k3v kb_358) mn_358 mk_358 rfl rfl (am_ok_v mi_358 (am_hl rfl (am_ccR i0 (am_ccI am_cats_0)) rfl) z6) (am_hc (am_ccR i0 am_cats_0) rfl) (fun _ => ⟨rfl, hh_530⟩) (fun o1 hz9 => rm_358 x0 x2 h3 o1 i0 hz9) ?_
      rcases am_cI_s hs3 with ⟨v7, h8, f9, hs4⟩ | hs4
      · clear hs3
        refine Or.inl ⟨_, _, f9, ?_⟩
        show am_W X _ 530 14 _ [(.int v7), x0] h8 _
        by_cases c10 : v7 = 0
        · rw [if_pos c10] at hs4
          refine aw_ifeq_t at_530_14 c10 ?_
          exact rg_530_21 x0 x1 x2 x0 h8 o l0 l1 l2 i0 i0 hs4
        · rw [if_neg c10] at hs4
          refine aw_ifeq_f (pc1 := 17) at_530_14 c10 rfl ?_
          refine aw_iconst (v := 0) (pc1 := 18) at_530_17 (by decide) rfl ?_
          refine aw_goto at_530_18 ?_
          exact rg_530_22 x0 x1 x2 x0 0 h8 o l0 l1 l2 i0 i0 hs4
      · clear hs3
        exact Or.inr hs4
  · clear hs1
    exact Or.inr hs2
def fm_530 (N : Nat) (y0 : Value) (y1 : Int32) (y2 : Int32) (h : am_H) : Option am_O := fg_530_0 N y0 y1 y2 h
theorem rm_530 {X : am_X} {d : Nat} {N : Nat} (y0 : Value) (y1 : Int32) (y2 : Int32) (h : am_H) (o : am_O) (i0 : am_isR y0 = true) (hs : fm_530 N y0 y1 y2 h = some o) : am_W X (d + 2) 530 0 (am_args 0 [y0, .int y1, .int y2]) [] h (fun q => q = o) := by
  rw [am_args_R i0, am_args_I, am_args_I]
  exact rg_530_0 y0 y1 y2 h o rfl rfl rfl i0 hs
def fg_257_0 (N : Nat) (x0 : Value) (x1 : Int32) (x2 : Int32) (h : am_H) : Option am_O := (if am_pOk 11 x0 h then am_cR true (fm_63 x0 x1 h) (fun v2 h3 => (if am_pOk 11 x0 h3 then am_cV true (fm_139 x0 x2 h3) (fun h7 => ((am_vI (am_pG 774 v2 h7)).bind fun v9 => (if 0 ≤ v9 then ((am_vR (am_pG 2819 x0 h7)).bind fun v12 => ((am_vI (am_pG 774 v2 h7)).bind fun v14 => (if am_pOk 11 x0 h7 then am_cR true (fm_63 x0 v14 h7) (fun v17 h18 => (if am_pOk 2 v12 h18 then am_cL true (fm_140 N v12 v17 0 h18) (fun v21 h22 => ((am_vR (am_pG 2819 x0 h22)).bind fun v24 => ((am_vR (am_pG 2819 x0 h22)).bind fun v26 => (if am_pOk 2 v26 h22 then am_cL true (fm_140 N v26 v2 0 h22) (fun v29 h30 => ((am_vR (am_pG 2819 x0 h30)).bind fun v32 => (if am_pOk 2 v32 h30 then am_cL true (fm_142 N v32 0 h30) (fun v35 h36 => (if am_pOk 2 v24 h36 then am_cV true (fm_143 N v24 ((v21 - v29)) v35 h36) (fun h40 => ((am_vR (am_pG 2819 x0 h40)).bind fun v42 => (if am_pOk 2 v42 h40 then am_cL true (fm_144 v42 x2 h40) (fun v45 h46 => some (.inl (some (.long v45), h46))) else none))) else none)) else none))) else none)))) else none)) else none))) else some (.inr (0, h7 ++ [am_dummy]))))) else none)) else none)
theorem rg_257_0 {X : am_X} {d : Nat} {N : Nat} {lv : am_LV} (x0 : Value) (x1 : Int32) (x2 : Int32) (h : am_H) (o : am_O) (l0 : lv.lookup 0 = some x0) (l1 : lv.lookup 1 = some (.int x1)) (l2 : lv.lookup 2 = some (.int x2)) (i0 : am_isR x0 = true) (hs : fg_257_0 N x0 x1 x2 h = some o) : am_W X (d + 84) 257 0 lv [] h (fun q => q = o) := by
  unfold fg_257_0 at hs
  refine aw_vload_n (pc1 := 1) at_257_0 l0 i0 rfl ?_
  refine aw_iload_n (pc1 := 2) at_257_1 l1 rfl ?_
  obtain ⟨z1, hs1⟩ := am_ift hs
  clear hs
  refine aw_call (F := fm_63 x0 x1 h) (t := true) (na := 2) (kd := 1) (as := [x0, (.int x1)]) at_257_2 (am_k3v kb_63) mn_63 mk_63 rfl rfl (am_ok_v mi_63 (am_hl rfl (am_ccR i0 (am_ccI am_cats_0)) rfl) z1) (am_hc am_cats_0 rfl) (fun _ => ⟨rfl, hh_257⟩) (fun o1 hz9 => rm_63 x0 x1 h o1 i0 hz9) ?_
  rcases am_cR_s hs1 with ⟨v2, h3, f4, iv2, hs2⟩ | hs2
  · clear hs1
    refine Or.inl ⟨_, _, f4, ?_⟩
    show am_W X _ 257 5 _ [v2] h3 _
    refine aw_vstore_n (lv1 := am_put1 _ 3 _) (pc1 := 6) at_257_5 iv2 rfl rfl ?_
    refine aw_vload_n (pc1 := 7) at_257_6 (am_lk1 l0 rfl rfl) i0 rfl ?_
    refine aw_iload_n (pc1 := 8) at_257_7 (am_lk1 l2 rfl rfl) rfl ?_
    obtain ⟨z5, hs3⟩ := am_ift hs2
    clear hs2
    refine aw_call (F := fm_139 x0 x2 h3) (t := true) (na := 2) (kd := 1) (as := [x0, (.int x2)]) at_257_8 (am_k3v kb_139) mn_139 mk_139 rfl rfl (am_ok_v mi_139 (am_hl rfl (am_ccR i0 (am_ccI am_cats_0)) rfl) z5) (am_hc am_cats_0 rfl) (fun _ => ⟨rfl, hh_257⟩) (fun o1 hz9 => rm_139 x0 x2 h3 o1 i0 hz9) ?_
    rcases am_cV_s hs3 with ⟨h7, f8, hs4⟩ | hs4
    · clear hs3
      refine Or.inl ⟨_, _, f8, ?_⟩
      show am_W X _ 257 11 _ [] h7 _
      refine aw_vload_n (pc1 := 12) at_257_11 am_lk0 iv2 rfl ?_
      obtain ⟨v9, e10, hs5⟩ := am_bind hs4
      clear hs4
      refine aw_pG (pc1 := 15) at_257_12 (am_vI_s e10) rfl ?_
      by_cases c11 : 0 ≤ v9
      · rw [if_pos c11] at hs5
        refine aw_ifge_t at_257_15 c11 ?_
        refine aw_vload_n (pc1 := 30) at_257_29 (am_lk1 l0 rfl rfl) i0 rfl ?_
        obtain ⟨v12, e13, hs6⟩ := am_bind hs5
        clear hs5
        refine aw_pG (pc1 := 33) at_257_30 (am_vR_s e13).1 rfl ?_
        refine aw_vload_n (pc1 := 34) at_257_33 (am_lk1 l0 rfl rfl) i0 rfl ?_
        refine aw_vload_n (pc1 := 35) at_257_34 am_lk0 iv2 rfl ?_
        obtain ⟨v14, e15, hs7⟩ := am_bind hs6
        clear hs6
        refine aw_pG (pc1 := 38) at_257_35 (am_vI_s e15) rfl ?_
        obtain ⟨z16, hs8⟩ := am_ift hs7
        clear hs7
        refine aw_call (F := fm_63 x0 v14 h7) (t := true) (na := 2) (kd := 1) (as := [x0, (.int v14)]) at_257_38 (am_k3v kb_63) mn_63 mk_63 rfl rfl (am_ok_v mi_63 (am_hl rfl (am_ccR i0 (am_ccI am_cats_0)) rfl) z16) (am_hc (am_ccR (am_vR_s e13).2 am_cats_0) rfl) (fun _ => ⟨rfl, hh_257⟩) (fun o1 hz9 => rm_63 x0 v14 h7 o1 i0 hz9) ?_
        rcases am_cR_s hs8 with ⟨v17, h18, f19, iv17, hs9⟩ | hs9
        · clear hs8
          refine Or.inl ⟨_, _, f19, ?_⟩
          show am_W X _ 257 41 _ [v17, v12] h18 _
          refine aw_iconst (v := 0) (pc1 := 42) at_257_41 (by decide) rfl ?_
          obtain ⟨z20, hs10⟩ := am_ift hs9
          clear hs9
          refine aw_call (F := fm_140 N v12 v17 0 h18) (t := true) (na := 3) (kd := 1) (as := [v12, v17, (.int 0)]) at_257_42 (am_k3v kb_140) mn_140 mk_140 rfl rfl (am_ok_v mi_140 (am_hl rfl (am_ccR (am_vR_s e13).2 (am_ccR iv17 (am_ccI am_cats_0))) rfl) z20) (am_hc am_cats_0 rfl) (fun _ => ⟨rfl, hh_257⟩) (fun o1 hz9 => rm_140 v12 v17 0 h18 o1 (am_vR_s e13).2 iv17 hz9) ?_
          rcases am_cL_s hs10 with ⟨v21, h22, f23, hs11⟩ | hs11
          · clear hs10
            refine Or.inl ⟨_, _, f23, ?_⟩
            show am_W X _ 257 45 _ [(.long v21)] h22 _
            refine aw_lstore (lv1 := am_put2 _ 4 _) (pc1 := 47) at_257_45 rfl rfl ?_
            refine aw_vload_n (pc1 := 48) at_257_47 (am_lk2 (am_lk1 l0 rfl rfl) rfl rfl) i0 rfl ?_
            obtain ⟨v24, e25, hs12⟩ := am_bind hs11
            clear hs11
            refine aw_pG (pc1 := 51) at_257_48 (am_vR_s e25).1 rfl ?_
            refine aw_lload (pc1 := 53) at_257_51 am_lk02 rfl ?_
            refine aw_vload_n (pc1 := 54) at_257_53 (am_lk2 (am_lk1 l0 rfl rfl) rfl rfl) i0 rfl ?_
            obtain ⟨v26, e27, hs13⟩ := am_bind hs12
            clear hs12
            refine aw_pG (pc1 := 57) at_257_54 (am_vR_s e27).1 rfl ?_
            refine aw_vload_n (pc1 := 58) at_257_57 (am_lk2 am_lk0 rfl (by rw [am_isRc iv2]; rfl)) iv2 rfl ?_
            refine aw_iconst (v := 0) (pc1 := 59) at_257_58 (by decide) rfl ?_
            obtain ⟨z28, hs14⟩ := am_ift hs13
            clear hs13
            refine aw_call (F := fm_140 N v26 v2 0 h22) (t := true) (na := 3) (kd := 1) (as := [v26, v2, (.int 0)]) at_257_59 (am_k3v kb_140) mn_140 mk_140 rfl rfl (am_ok_v mi_140 (am_hl rfl (am_ccR (am_vR_s e27).2 (am_ccR iv2 (am_ccI am_cats_0))) rfl) z28) (am_hc (am_ccL (am_ccR (am_vR_s e25).2 am_cats_0)) rfl) (fun _ => ⟨rfl, hh_257⟩) (fun o1 hz9 => rm_140 v26 v2 0 h22 o1 (am_vR_s e27).2 iv2 hz9) ?_
            rcases am_cL_s hs14 with ⟨v29, h30, f31, hs15⟩ | hs15
            · clear hs14
              refine Or.inl ⟨_, _, f31, ?_⟩
              show am_W X _ 257 62 _ [(.long v29), (.long v21), v24] h30 _
              refine aw_lsub (v := (v21 - v29)) (pc1 := 63) at_257_62 rfl rfl ?_
              refine aw_vload_n (pc1 := 64) at_257_63 (am_lk2 (am_lk1 l0 rfl rfl) rfl rfl) i0 rfl ?_
              obtain ⟨v32, e33, hs16⟩ := am_bind hs15
              clear hs15
              refine aw_pG (pc1 := 67) at_257_64 (am_vR_s e33).1 rfl ?_
              refine aw_iconst (v := 0) (pc1 := 68) at_257_67 (by decide) rfl ?_
              obtain ⟨z34, hs17⟩ := am_ift hs16
              clear hs16
              refine aw_call (F := fm_142 N v32 0 h30) (t := true) (na := 2) (kd := 1) (as := [v32, (.int 0)]) at_257_68 (am_k3v kb_142) mn_142 mk_142 rfl rfl (am_ok_v mi_142 (am_hl rfl (am_ccR (am_vR_s e33).2 (am_ccI am_cats_0)) rfl) z34) (am_hc (am_ccL (am_ccR (am_vR_s e25).2 am_cats_0)) rfl) (fun _ => ⟨rfl, hh_257⟩) (fun o1 hz9 => rm_142 v32 0 h30 o1 (am_vR_s e33).2 hz9) ?_
              rcases am_cL_s hs17 with ⟨v35, h36, f37, hs18⟩ | hs18
              · clear hs17
                refine Or.inl ⟨_, _, f37, ?_⟩
                show am_W X _ 257 71 _ [(.long v35), (.long (v21 - v29)), v24] h36 _
                obtain ⟨z38, hs19⟩ := am_ift hs18
                clear hs18
                refine aw_call (F := fm_143 N v24 ((v21 - v29)) v35 h36) (t := true) (na := 3) (kd := 1) (as := [v24, (.long (v21 - v29)), (.long v35)]) at_257_71 (am_k3v kb_143) mn_143 mk_143 rfl rfl (am_ok_v mi_143 (am_hl rfl (am_ccR (am_vR_s e25).2 (am_ccL (am_ccL am_cats_0))) rfl) z38) (am_hc am_cats_0 rfl) (fun _ => ⟨rfl, hh_257⟩) (fun o1 hz9 => rm_143 v24 ((v21 - v29)) v35 h36 o1 (am_vR_s e25).2 hz9) ?_
                rcases am_cV_s hs19 with ⟨h40, f41, hs20⟩ | hs20
                · clear hs19
                  refine Or.inl ⟨_, _, f41, ?_⟩
                  show am_W X _ 257 74 _ [] h40 _
                  refine aw_vload_n (pc1 := 75) at_257_74 (am_lk2 (am_lk1 l0 rfl rfl) rfl rfl) i0 rfl ?_
                  obtain ⟨v42, e43, hs21⟩ := am_bind hs20
                  clear hs20
                  refine aw_pG (pc1 := 78) at_257_75 (am_vR_s e43).1 rfl ?_
                  refine aw_iload_n (pc1 := 79) at_257_78 (am_lk2 (am_lk1 l2 rfl rfl) rfl rfl) rfl ?_
                  obtain ⟨z44, hs22⟩ := am_ift hs21
                  clear hs21
                  refine aw_call (F := fm_144 v42 x2 h40) (t := true) (na := 2) (kd := 1) (as := [v42, (.int x2)]) at_257_79 (am_k3v kb_144) mn_144 mk_144 rfl rfl (am_ok_v mi_144 (am_hl rfl (am_ccR (am_vR_s e43).2 (am_ccI am_cats_0)) rfl) z44) (am_hc am_cats_0 rfl) (fun _ => ⟨rfl, hh_257⟩) (fun o1 hz9 => rm_144 v42 x2 h40 o1 (am_vR_s e43).2 hz9) ?_
                  rcases am_cL_s hs22 with ⟨v45, h46, f47, hs23⟩ | hs23
                  · clear hs22
                    refine Or.inl ⟨_, _, f47, ?_⟩
                    show am_W X _ 257 82 _ [(.long v45)] h46 _
                    cases hs23
                    exact aw_lret at_257_82 rt_257 rfl
                  · clear hs22
                    exact Or.inr hs23
                · clear hs19
                  exact Or.inr hs20
              · clear hs17
                exact Or.inr hs18
            · clear hs14
              exact Or.inr hs15
          · clear hs10
            exact Or.inr hs11
        · clear hs8
          exact Or.inr hs9
      · rw [if_neg c11] at hs5
        refine aw_ifge_f (pc1 := 18) at_257_15 c11 rfl ?_
        cases hs5
        exact aw_throw at_257_18 rfl th_257_18 (am_hc am_cats_0 rfl) rfl
    · clear hs3
      exact Or.inr hs4
  · clear hs1
    exact Or.inr hs2
def fm_257 (N : Nat) (y0 : Value) (y1 : Int32) (y2 : Int32) (h : am_H) : Option am_O := fg_257_0 N y0 y1 y2 h
theorem rm_257 {X : am_X} {d : Nat} {N : Nat} (y0 : Value) (y1 : Int32) (y2 : Int32) (h : am_H) (o : am_O) (i0 : am_isR y0 = true) (hs : fm_257 N y0 y1 y2 h = some o) : am_W X (d + 84) 257 0 (am_args 0 [y0, .int y1, .int y2]) [] h (fun q => q = o) := by
  rw [am_args_R i0, am_args_I, am_args_I]
  exact rg_257_0 y0 y1 y2 h o rfl rfl rfl i0 hs
def fg_256_18 (N : Nat) (h : am_H) : Option am_O := some (.inl (some (.int 2), h))
theorem rg_256_18 {X : am_X} {d : Nat} {N : Nat} {lv : am_LV} (h : am_H) (o : am_O) (hs : fg_256_18 N h = some o) : am_W X (d + 85) 256 18 lv [] h (fun q => q = o) := by
  unfold fg_256_18 at hs
  refine aw_iconst (v := 2) (pc1 := 19) at_256_18 (by decide) rfl ?_
  cases hs
  exact aw_iret at_256_19 (by rw [rt_256]; rfl) rfl
def fg_256_14 (N : Nat) (h : am_H) : Option am_O := some (.inl (some (.int 1), h))
theorem rg_256_14 {X : am_X} {d : Nat} {N : Nat} {lv : am_LV} (h : am_H) (o : am_O) (hs : fg_256_14 N h = some o) : am_W X (d + 85) 256 14 lv [] h (fun q => q = o) := by
  unfold fg_256_14 at hs
  refine aw_iconst (v := 1) (pc1 := 15) at_256_14 (by decide) rfl ?_
  cases hs
  exact aw_iret at_256_15 (by rw [rt_256]; rfl) rfl
def fg_256_0 (N : Nat) (x0 : Value) (x1 : Int32) (x2 : Int32) (x3 : Value) (h : am_H) : Option am_O := (if am_pOk 11 x0 h then (match fm_257 N x0 x1 x2 h with | some (.inl (some (.long v2), h3)) => ((am_pSL x3 0 v2 h3).bind fun h5 => some (.inl (some (.int 0), h5))) | some (.inr (0, h7)) => (fg_256_18 N h7) | some (.inr (2, h9)) => (fg_256_14 N h9) | _ => none) else none)
theorem rg_256_0 {X : am_X} {d : Nat} {N : Nat} {lv : am_LV} (x0 : Value) (x1 : Int32) (x2 : Int32) (x3 : Value) (h : am_H) (o : am_O) (l0 : lv.lookup 0 = some x0) (l1 : lv.lookup 1 = some (.int x1)) (l2 : lv.lookup 2 = some (.int x2)) (l3 : lv.lookup 3 = some x3) (i0 : am_isR x0 = true) (i3 : am_isR x3 = true) (hs : fg_256_0 N x0 x1 x2 x3 h = some o) : am_W X (d + 85) 256 0 lv [] h (fun q => q = o) := by
  unfold fg_256_0 at hs
  refine aw_vload_n (pc1 := 1) at_256_0 l3 i3 rfl ?_
  refine aw_iconst (v := 0) (pc1 := 2) at_256_1 (by decide) rfl ?_
  refine aw_vload_n (pc1 := 3) at_256_2 l0 i0 rfl ?_
  refine aw_iload_n (pc1 := 4) at_256_3 l1 rfl ?_
  refine aw_iload_n (pc1 := 5) at_256_4 l2 rfl ?_
  obtain ⟨z1, hs1⟩ := am_ift hs
  clear hs
  refine aw_callH (F := fm_257 N x0 x1 x2 h) (na := 3) (kd := 1) (as := [x0, (.int x1), (.int x2)]) at_256_5 (am_k3v kb_257) mn_257 mk_257 rfl rfl (am_ok_v mi_257 (am_hl rfl (am_ccR i0 (am_ccI (am_ccI am_cats_0))) rfl) z1) (am_hc (am_ccI (am_ccR i3 am_cats_0)) rfl) (fun o1 hz9 => rm_257 x0 x1 x2 h o1 i0 hz9) ?_
  split at hs1
  · rename_i v2 h3 f4
    refine Or.inl ⟨_, _, f4, ?_⟩
    show am_W X _ 256 8 _ [(.long v2), (.int 0), x3] h3 _
    obtain ⟨h5, e6, hs2⟩ := am_bind hs1
    clear hs1
    refine aw_pSL (pc1 := 9) at_256_8 e6 rfl ?_
    refine aw_goto at_256_9 ?_
    refine aw_iconst (v := 0) (pc1 := 21) at_256_20 (by decide) rfl ?_
    cases hs2
    exact aw_iret at_256_21 (by rw [rt_256]; rfl) rfl
  · rename_i h7 f8
    refine Or.inr ⟨_, _, 18, 4, f8, rfl, hn_256, hd_256_5_0, ?_⟩
    exact rg_256_18 h7 o   hs1
  · rename_i h9 f10
    refine Or.inr ⟨_, _, 14, 4, f10, rfl, hn_256, hd_256_5_2, ?_⟩
    exact rg_256_14 h9 o   hs1
  · cases hs1
def fm_256 (N : Nat) (y0 : Value) (y1 : Int32) (y2 : Int32) (y3 : Value) (h : am_H) : Option am_O := fg_256_0 N y0 y1 y2 y3 h
theorem rm_256 {X : am_X} {d : Nat} {N : Nat} (y0 : Value) (y1 : Int32) (y2 : Int32) (y3 : Value) (h : am_H) (o : am_O) (i0 : am_isR y0 = true) (i3 : am_isR y3 = true) (hs : fm_256 N y0 y1 y2 y3 h = some o) : am_W X (d + 85) 256 0 (am_args 0 [y0, .int y1, .int y2, y3]) [] h (fun q => q = o) := by
  rw [am_args_R i0, am_args_I, am_args_I, am_args_R i3]
  exact rg_256_0 y0 y1 y2 y3 h o rfl rfl rfl rfl i0 i3 hs
def fg_531_49 (N : Nat) (x0 : Value) (x1 : Int32) (x2 : Int32) (s0 : Value) (s1 : Int32) (h : am_H) : Option am_O := ((am_pP 3072 s0 (.int s1) h).bind fun h1 => ((am_vI (am_pG 3072 x0 h1)).bind fun v3 => (if v3 ≤ 0 then ((am_vR (am_pG 3078 x0 h1)).bind fun v6 => ((am_pA 0 v6 x1 h1).bind fun v8 => (if am_pOk 12 x0 h1 then am_cV true (fm_359 N x0 v8 h1) (fun h12 => (if am_pOk 12 x0 h12 then am_cV true (fm_428 N x0 0 h12) (fun h16 => ((am_vL (am_pG 3163 x0 h16)).bind fun v18 => ((am_vL (am_pG 3164 x0 h16)).bind fun v20 => (if am_pOk 12 x0 h16 then am_cV true (fm_359 N x0 x1 h16) (fun h24 => (if am_pOk 12 x0 h24 then am_cV true (fm_428 N x0 0 h24) (fun h28 => ((am_vL (am_pG 3163 x0 h28)).bind fun v30 => ((am_vL (am_pG 3164 x0 h28)).bind fun v32 => (if am_pOk 12 x0 h28 then am_cL true (fm_432 N x0 v18 v20 v30 v32 x2 h28) (fun v35 h36 => some (.inl (some (.long v35), h36))) else none)))) else none)) else none)))) else none)) else none))) else some (.inl (some (.long 0), h1)))))
theorem rg_531_49 {X : am_X} {d : Nat} {N : Nat} {lv : am_LV} (x0 : Value) (x1 : Int32) (x2 : Int32) (s0 : Value) (s1 : Int32) (h : am_H) (o : am_O) (l0 : lv.lookup 0 = some x0) (l1 : lv.lookup 1 = some (.int x1)) (l2 : lv.lookup 2 = some (.int x2)) (i0 : am_isR x0 = true) (j0 : am_isR s0 = true) (hs : fg_531_49 N x0 x1 x2 s0 s1 h = some o) : am_W X (d + 8) 531 49 lv [(.int s1), s0] h (fun q => q = o) := by
  unfold fg_531_49 at hs
  obtain ⟨h1, e2, hs1⟩ := am_bind hs
  clear hs
  refine aw_pP (pc1 := 52) at_531_49 e2 rfl ?_
  refine aw_vload_n (pc1 := 53) at_531_52 l0 i0 rfl ?_
  obtain ⟨v3, e4, hs2⟩ := am_bind hs1
  clear hs1
  refine aw_pG (pc1 := 56) at_531_53 (am_vI_s e4) rfl ?_
  by_cases c5 : v3 ≤ 0
  · rw [if_pos c5] at hs2
    refine aw_ifle_t at_531_56 c5 ?_
    refine aw_vload_n (pc1 := 62) at_531_61 l0 i0 rfl ?_
    refine aw_vload_n (pc1 := 63) at_531_62 l0 i0 rfl ?_
    obtain ⟨v6, e7, hs3⟩ := am_bind hs2
    clear hs2
    refine aw_pG (pc1 := 66) at_531_63 (am_vR_s e7).1 rfl ?_
    refine aw_iload_n (pc1 := 67) at_531_66 l1 rfl ?_
    obtain ⟨v8, e9, hs4⟩ := am_bind hs3
    clear hs3
    refine aw_pA (pc1 := 68) at_531_67 (Or.inl ⟨rfl, rfl⟩) e9 rfl ?_
    obtain ⟨z10, hs5⟩ := am_ift hs4
    clear hs4
    refine aw_call (F := fm_359 N x0 v8 h1) (t := true) (na := 2) (kd := 1) (as := [x0, (.int v8)]) at_531_68 (am_k3v kb_359) mn_359 mk_359 rfl rfl (am_ok_v mi_359 (am_hl rfl (am_ccR i0 (am_ccI am_cats_0)) rfl) z10) (am_hc am_cats_0 rfl) (fun _ => ⟨rfl, hh_531⟩) (fun o1 hz9 => rm_359 x0 v8 h1 o1 i0 hz9) ?_
    rcases am_cV_s hs5 with ⟨h12, f13, hs6⟩ | hs6
    · clear hs5
      refine Or.inl ⟨_, _, f13, ?_⟩
      show am_W X _ 531 71 _ [] h12 _
      refine aw_vload_n (pc1 := 72) at_531_71 l0 i0 rfl ?_
      refine aw_iconst (v := 0) (pc1 := 73) at_531_72 (by decide) rfl ?_
      obtain ⟨z14, hs7⟩ := am_ift hs6
      clear hs6
      refine aw_call (F := fm_428 N x0 0 h12) (t := true) (na := 2) (kd := 1) (as := [x0, (.int 0)]) at_531_73 (am_k3v kb_428) mn_428 mk_428 rfl rfl (am_ok_v mi_428 (am_hl rfl (am_ccR i0 (am_ccI am_cats_0)) rfl) z14) (am_hc am_cats_0 rfl) (fun _ => ⟨rfl, hh_531⟩) (fun o1 hz9 => rm_428 x0 0 h12 o1 i0 hz9) ?_
      rcases am_cV_s hs7 with ⟨h16, f17, hs8⟩ | hs8
      · clear hs7
        refine Or.inl ⟨_, _, f17, ?_⟩
        show am_W X _ 531 76 _ [] h16 _
        refine aw_vload_n (pc1 := 77) at_531_76 l0 i0 rfl ?_
        obtain ⟨v18, e19, hs9⟩ := am_bind hs8
        clear hs8
        refine aw_pG (pc1 := 80) at_531_77 (am_vL_s e19) rfl ?_
        refine aw_lstore_n (lv1 := am_put2 _ 3 _) (pc1 := 81) at_531_80 rfl rfl ?_
        refine aw_vload_n (pc1 := 82) at_531_81 (am_lk2 l0 rfl rfl) i0 rfl ?_
        obtain ⟨v20, e21, hs10⟩ := am_bind hs9
        clear hs9
        refine aw_pG (pc1 := 85) at_531_82 (am_vL_s e21) rfl ?_
        refine aw_lstore (lv1 := am_put2 _ 5 _) (pc1 := 87) at_531_85 rfl rfl ?_
        refine aw_vload_n (pc1 := 88) at_531_87 (am_lk2 (am_lk2 l0 rfl rfl) rfl rfl) i0 rfl ?_
        refine aw_iload_n (pc1 := 89) at_531_88 (am_lk2 (am_lk2 l1 rfl rfl) rfl rfl) rfl ?_
        obtain ⟨z22, hs11⟩ := am_ift hs10
        clear hs10
        refine aw_call (F := fm_359 N x0 x1 h16) (t := true) (na := 2) (kd := 1) (as := [x0, (.int x1)]) at_531_89 (am_k3v kb_359) mn_359 mk_359 rfl rfl (am_ok_v mi_359 (am_hl rfl (am_ccR i0 (am_ccI am_cats_0)) rfl) z22) (am_hc am_cats_0 rfl) (fun _ => ⟨rfl, hh_531⟩) (fun o1 hz9 => rm_359 x0 x1 h16 o1 i0 hz9) ?_
        rcases am_cV_s hs11 with ⟨h24, f25, hs12⟩ | hs12
        · clear hs11
          refine Or.inl ⟨_, _, f25, ?_⟩
          show am_W X _ 531 92 _ [] h24 _
          refine aw_vload_n (pc1 := 93) at_531_92 (am_lk2 (am_lk2 l0 rfl rfl) rfl rfl) i0 rfl ?_
          refine aw_iconst (v := 0) (pc1 := 94) at_531_93 (by decide) rfl ?_
          obtain ⟨z26, hs13⟩ := am_ift hs12
          clear hs12
          refine aw_call (F := fm_428 N x0 0 h24) (t := true) (na := 2) (kd := 1) (as := [x0, (.int 0)]) at_531_94 (am_k3v kb_428) mn_428 mk_428 rfl rfl (am_ok_v mi_428 (am_hl rfl (am_ccR i0 (am_ccI am_cats_0)) rfl) z26) (am_hc am_cats_0 rfl) (fun _ => ⟨rfl, hh_531⟩) (fun o1 hz9 => rm_428 x0 0 h24 o1 i0 hz9) ?_
          rcases am_cV_s hs13 with ⟨h28, f29, hs14⟩ | hs14
          · clear hs13
            refine Or.inl ⟨_, _, f29, ?_⟩
            show am_W X _ 531 97 _ [] h28 _
            refine aw_vload_n (pc1 := 98) at_531_97 (am_lk2 (am_lk2 l0 rfl rfl) rfl rfl) i0 rfl ?_
            refine aw_lload_n (pc1 := 99) at_531_98 (am_lk2 am_lk02 rfl rfl) rfl ?_
            refine aw_lload (pc1 := 101) at_531_99 am_lk02 rfl ?_
            refine aw_vload_n (pc1 := 102) at_531_101 (am_lk2 (am_lk2 l0 rfl rfl) rfl rfl) i0 rfl ?_
            obtain ⟨v30, e31, hs15⟩ := am_bind hs14
            clear hs14
            refine aw_pG (pc1 := 105) at_531_102 (am_vL_s e31) rfl ?_
            refine aw_vload_n (pc1 := 106) at_531_105 (am_lk2 (am_lk2 l0 rfl rfl) rfl rfl) i0 rfl ?_
            obtain ⟨v32, e33, hs16⟩ := am_bind hs15
            clear hs15
            refine aw_pG (pc1 := 109) at_531_106 (am_vL_s e33) rfl ?_
            refine aw_iload_n (pc1 := 110) at_531_109 (am_lk2 (am_lk2 l2 rfl rfl) rfl rfl) rfl ?_
            obtain ⟨z34, hs17⟩ := am_ift hs16
            clear hs16
            refine aw_call (F := fm_432 N x0 v18 v20 v30 v32 x2 h28) (t := true) (na := 6) (kd := 1) (as := [x0, (.long v18), (.long v20), (.long v30), (.long v32), (.int x2)]) at_531_110 (am_k3v kb_432) mn_432 mk_432 rfl rfl (am_ok_v mi_432 (am_hl rfl (am_ccR i0 (am_ccL (am_ccL (am_ccL (am_ccL (am_ccI am_cats_0)))))) rfl) z34) (am_hc am_cats_0 rfl) (fun _ => ⟨rfl, hh_531⟩) (fun o1 hz9 => rm_432 x0 v18 v20 v30 v32 x2 h28 o1 i0 hz9) ?_
            rcases am_cL_s hs17 with ⟨v35, h36, f37, hs18⟩ | hs18
            · clear hs17
              refine Or.inl ⟨_, _, f37, ?_⟩
              show am_W X _ 531 113 _ [(.long v35)] h36 _
              cases hs18
              exact aw_lret at_531_113 rt_531 rfl
            · clear hs17
              exact Or.inr hs18
          · clear hs13
            exact Or.inr hs14
        · clear hs11
          exact Or.inr hs12
      · clear hs7
        exact Or.inr hs8
    · clear hs5
      exact Or.inr hs6
  · rw [if_neg c5] at hs2
    refine aw_ifle_f (pc1 := 59) at_531_56 c5 rfl ?_
    refine aw_lconst (v := 0) (pc1 := 60) at_531_59 (by decide) rfl ?_
    cases hs2
    exact aw_lret at_531_60 rt_531 rfl
def fg_531_44 (N : Nat) (x0 : Value) (x1 : Int32) (x2 : Int32) (s0 : Value) (h : am_H) : Option am_O := (fg_531_49 N x0 x1 x2 s0 2 h)
theorem rg_531_44 {X : am_X} {d : Nat} {N : Nat} {lv : am_LV} (x0 : Value) (x1 : Int32) (x2 : Int32) (s0 : Value) (h : am_H) (o : am_O) (l0 : lv.lookup 0 = some x0) (l1 : lv.lookup 1 = some (.int x1)) (l2 : lv.lookup 2 = some (.int x2)) (i0 : am_isR x0 = true) (j0 : am_isR s0 = true) (hs : fg_531_44 N x0 x1 x2 s0 h = some o) : am_W X (d + 8) 531 44 lv [s0] h (fun q => q = o) := by
  unfold fg_531_44 at hs
  refine aw_iconst (v := 2) (pc1 := 45) at_531_44 (by decide) rfl ?_
  refine aw_goto at_531_45 ?_
  exact rg_531_49 x0 x1 x2 s0 2 h o l0 l1 l2 i0 j0 hs
def fg_531_40 (N : Nat) (x0 : Value) (x1 : Int32) (x2 : Int32) (s0 : Value) (s1 : Value) (s2 : Int32) (h : am_H) : Option am_O := ((am_pA 0 s1 s2 h).bind fun v1 => (if 0 ≤ v1 then (fg_531_49 N x0 x1 x2 s0 0 h) else (fg_531_44 N x0 x1 x2 s0 h)))
theorem rg_531_40 {X : am_X} {d : Nat} {N : Nat} {lv : am_LV} (x0 : Value) (x1 : Int32) (x2 : Int32) (s0 : Value) (s1 : Value) (s2 : Int32) (h : am_H) (o : am_O) (l0 : lv.lookup 0 = some x0) (l1 : lv.lookup 1 = some (.int x1)) (l2 : lv.lookup 2 = some (.int x2)) (i0 : am_isR x0 = true) (j0 : am_isR s0 = true) (j1 : am_isR s1 = true) (hs : fg_531_40 N x0 x1 x2 s0 s1 s2 h = some o) : am_W X (d + 8) 531 40 lv [(.int s2), s1, s0] h (fun q => q = o) := by
  unfold fg_531_40 at hs
  obtain ⟨v1, e2, hs1⟩ := am_bind hs
  clear hs
  refine aw_pA (pc1 := 41) at_531_40 (Or.inl ⟨rfl, rfl⟩) e2 rfl ?_
  by_cases c3 : 0 ≤ v1
  · rw [if_pos c3] at hs1
    refine aw_ifge_t at_531_41 c3 ?_
    refine aw_iconst (v := 0) (pc1 := 49) at_531_48 (by decide) rfl ?_
    exact rg_531_49 x0 x1 x2 s0 0 h o l0 l1 l2 i0 j0 hs1
  · rw [if_neg c3] at hs1
    refine aw_ifge_f (pc1 := 44) at_531_41 c3 rfl ?_
    exact rg_531_44 x0 x1 x2 s0 h o l0 l1 l2 i0 j0 hs1
def fg_531_0 (N : Nat) (x0 : Value) (x1 : Int32) (x2 : Int32) (h : am_H) : Option am_O := (if am_pOk 12 x0 h then am_cI true (fm_358 x0 x1 h) (fun v2 h3 => (if ¬ v2 = 0 then am_cI false (fm_327 ((Int32.toInt64 x2)) 0 1 h3) (fun v6 h7 => (if v6 = 0 then (fg_531_44 N x0 x1 x2 x0 h7) else ((am_vR (am_pG 3078 x0 h7)).bind fun v10 => (if am_pOk 12 x0 h7 then am_cI true (fm_358 x0 x1 h7) (fun v13 h14 => (if v13 = 0 then (fg_531_40 N x0 x1 x2 x0 v10 0 h14) else (fg_531_40 N x0 x1 x2 x0 v10 x1 h14))) else none)))) else (fg_531_49 N x0 x1 x2 x0 1 h3))) else none)
theorem rg_531_0 {X : am_X} {d : Nat} {N : Nat} {lv : am_LV} (x0 : Value) (x1 : Int32) (x2 : Int32) (h : am_H) (o : am_O) (l0 : lv.lookup 0 = some x0) (l1 : lv.lookup 1 = some (.int x1)) (l2 : lv.lookup 2 = some (.int x2)) (i0 : am_isR x0 = true) (hs : fg_531_0 N x0 x1 x2 h = some o) : am_W X (d + 8) 531 0 lv [] h (fun q => q = o) := by
  unfold fg_531_0 at hs
  refine aw_vload_n (pc1 := 1) at_531_0 l0 i0 rfl ?_
  refine aw_vload_n (pc1 := 2) at_531_1 l0 i0 rfl ?_
  refine aw_iload_n (pc1 := 3) at_531_2 l1 rfl ?_
  obtain ⟨z1, hs1⟩ := am_ift hs
  clear hs
  refine aw_call (F := fm_358 x0 x1 h) (t := true) (na := 2) (kd := 1) (as := [x0, (.int x1)]) at_531_3 (am_k3v kb_358) mn_358 mk_358 rfl rfl (am_ok_v mi_358 (am_hl rfl (am_ccR i0 (am_ccI am_cats_0)) rfl) z1) (am_hc (am_ccR i0 am_cats_0) rfl) (fun _ => ⟨rfl, hh_531⟩) (fun o1 hz9 => rm_358 x0 x1 h o1 i0 hz9) ?_
  rcases am_cI_s hs1 with ⟨v2, h3, f4, hs2⟩ | hs2
  · clear hs1
    refine Or.inl ⟨_, _, f4, ?_⟩
    show am_W X _ 531 6 _ [(.int v2), x0] h3 _
    by_cases c5 : ¬ v2 = 0
    · rw [if_pos c5] at hs2
      refine aw_ifne_t at_531_6 c5 ?_
      refine aw_iload_n (pc1 := 14) at_531_13 l2 rfl ?_
      refine aw_i2l (v := (Int32.toInt64 x2)) (pc1 := 15) at_531_14 rfl rfl ?_
      refine aw_lconst (v := 0) (pc1 := 16) at_531_15 (by decide) rfl ?_
      refine aw_lconst (v := 1) (pc1 := 17) at_531_16 (by decide) rfl ?_
      refine aw_call (F := fm_327 ((Int32.toInt64 x2)) 0 1 h3) (t := false) (na := 3) (kd := 0) (as := [(.long (Int32.toInt64 x2)), (.long 0), (.long 1)]) at_531_17 (am_k3s kb_327) mn_327 mk_327 rfl rfl (am_ok_s mi_327 (am_hl rfl (am_ccL (am_ccL (am_ccL am_cats_0))) rfl)) (am_hc (am_ccR i0 am_cats_0) rfl) (fun hz9 => by cases hz9) (fun o1 hz9 => rm_327 ((Int32.toInt64 x2)) 0 1 h3 o1  hz9) ?_
      rcases am_cI_s hs2 with ⟨v6, h7, f8, hs3⟩ | hs3
      · clear hs2
        refine Or.inl ⟨_, _, f8, ?_⟩
        show am_W X _ 531 20 _ [(.int v6), x0] h7 _
        by_cases c9 : v6 = 0
        · rw [if_pos c9] at hs3
          refine aw_ifeq_t at_531_20 c9 ?_
          exact rg_531_44 x0 x1 x2 x0 h7 o l0 l1 l2 i0 i0 hs3
        · rw [if_neg c9] at hs3
          refine aw_ifeq_f (pc1 := 23) at_531_20 c9 rfl ?_
          refine aw_vload_n (pc1 := 24) at_531_23 l0 i0 rfl ?_
          obtain ⟨v10, e11, hs4⟩ := am_bind hs3
          clear hs3
          refine aw_pG (pc1 := 27) at_531_24 (am_vR_s e11).1 rfl ?_
          refine aw_vload_n (pc1 := 28) at_531_27 l0 i0 rfl ?_
          refine aw_iload_n (pc1 := 29) at_531_28 l1 rfl ?_
          obtain ⟨z12, hs5⟩ := am_ift hs4
          clear hs4
          refine aw_call (F := fm_358 x0 x1 h7) (t := true) (na := 2) (kd := 1) (as := [x0, (.int x1)]) at_531_29 (am_k3v kb_358) mn_358 mk_358 rfl rfl (am_ok_v mi_358 (am_hl rfl (am_ccR i0 (am_ccI am_cats_0)) rfl) z12) (am_hc (am_ccR (am_vR_s e11).2 (am_ccR i0 am_cats_0)) rfl) (fun _ => ⟨rfl, hh_531⟩) (fun o1 hz9 => rm_358 x0 x1 h7 o1 i0 hz9) ?_
          rcases am_cI_s hs5 with ⟨v13, h14, f15, hs6⟩ | hs6
          · clear hs5
            refine Or.inl ⟨_, _, f15, ?_⟩
            show am_W X _ 531 32 _ [(.int v13), v10, x0] h14 _
            by_cases c16 : v13 = 0
            · rw [if_pos c16] at hs6
              refine aw_ifeq_t at_531_32 c16 ?_
              refine aw_iconst (v := 0) (pc1 := 40) at_531_39 (by decide) rfl ?_
              exact rg_531_40 x0 x1 x2 x0 v10 0 h14 o l0 l1 l2 i0 i0 (am_vR_s e11).2 hs6
            · rw [if_neg c16] at hs6
              refine aw_ifeq_f (pc1 := 35) at_531_32 c16 rfl ?_
              refine aw_iload_n (pc1 := 36) at_531_35 l1 rfl ?_
              refine aw_goto at_531_36 ?_
              exact rg_531_40 x0 x1 x2 x0 v10 x1 h14 o l0 l1 l2 i0 i0 (am_vR_s e11).2 hs6
          · clear hs5
            exact Or.inr hs6
      · clear hs2
        exact Or.inr hs3
    · rw [if_neg c5] at hs2
      refine aw_ifne_f (pc1 := 9) at_531_6 c5 rfl ?_
      refine aw_iconst (v := 1) (pc1 := 10) at_531_9 (by decide) rfl ?_
      refine aw_goto at_531_10 ?_
      exact rg_531_49 x0 x1 x2 x0 1 h3 o l0 l1 l2 i0 i0 hs2
  · clear hs1
    exact Or.inr hs2
def fm_531 (N : Nat) (y0 : Value) (y1 : Int32) (y2 : Int32) (h : am_H) : Option am_O := fg_531_0 N y0 y1 y2 h
theorem rm_531 {X : am_X} {d : Nat} {N : Nat} (y0 : Value) (y1 : Int32) (y2 : Int32) (h : am_H) (o : am_O) (i0 : am_isR y0 = true) (hs : fm_531 N y0 y1 y2 h = some o) : am_W X (d + 8) 531 0 (am_args 0 [y0, .int y1, .int y2]) [] h (fun q => q = o) := by
  rw [am_args_R i0, am_args_I, am_args_I]
  exact rg_531_0 y0 y1 y2 h o rfl rfl rfl i0 hs
def fg_259_150 (N : Nat) (x0 : Value) (x2 : Value) (h : am_H) : Option am_O := ((am_vR (am_pG 2823 x0 h)).bind fun v1 => ((am_vR (am_pG 0 v1 h)).bind fun v3 => (if am_pOk 3 v3 h then am_cI true (fm_86 N v3 x2 h) (fun v6 h7 => (if am_rfit (some FieldType.boolean) v6 then some (.inl (some (.int v6), h7)) else none)) else none)))
theorem rg_259_150 {X : am_X} {d : Nat} {N : Nat} {lv : am_LV} (x0 : Value) (x2 : Value) (h : am_H) (o : am_O) (l0 : lv.lookup 0 = some x0) (l2 : lv.lookup 2 = some x2) (i0 : am_isR x0 = true) (i2 : am_isR x2 = true) (hs : fg_259_150 N x0 x2 h = some o) : am_W X (d + 123) 259 150 lv [] h (fun q => q = o) := by
  unfold fg_259_150 at hs
  refine aw_vload_n (pc1 := 151) at_259_150 l0 i0 rfl ?_
  obtain ⟨v1, e2, hs1⟩ := am_bind hs
  clear hs
  refine aw_pG (pc1 := 154) at_259_151 (am_vR_s e2).1 rfl ?_
  obtain ⟨v3, e4, hs2⟩ := am_bind hs1
  clear hs1
  refine aw_pG (pc1 := 157) at_259_154 (am_vR_s e4).1 rfl ?_
  refine aw_vload_n (pc1 := 158) at_259_157 l2 i2 rfl ?_
  obtain ⟨z5, hs3⟩ := am_ift hs2
  clear hs2
  refine aw_call (F := fm_86 N v3 x2 h) (t := true) (na := 2) (kd := 1) (as := [v3, x2]) at_259_158 (am_k3v kb_86) mn_86 mk_86 rfl rfl (am_ok_v mi_86 (am_hl rfl (am_ccR (am_vR_s e4).2 (am_ccR i2 am_cats_0)) rfl) z5) (am_hc am_cats_0 rfl) (fun _ => ⟨rfl, hh_259⟩) (fun o1 hz9 => rm_86 v3 x2 h o1 (am_vR_s e4).2 i2 hz9) ?_
  rcases am_cI_s hs3 with ⟨v6, h7, f8, hs4⟩ | hs4
  · clear hs3
    refine Or.inl ⟨_, _, f8, ?_⟩
    show am_W X _ 259 161 _ [(.int v6)] h7 _
    obtain ⟨z9, hs5⟩ := am_ift hs4
    clear hs4
    cases hs5
    exact aw_iret at_259_161 (by rw [rt_259]; exact z9) rfl
  · clear hs3
    exact Or.inr hs4
def fg_259_126 (N : Nat) (x0 : Value) (x2 : Value) (s0 : Value) (s1 : Value) (s2 : Value) (h : am_H) : Option am_O := ((am_vI (am_pG 776 x2 h)).bind fun v1 => (if am_pOk 0 s0 h then am_cI true (fm_159 N s0 s1 s2 v1 h) (fun v4 h5 => ((am_vR (am_pG 2823 x0 h5)).bind fun v7 => ((am_vI (am_pG 777 x2 h5)).bind fun v9 => (if am_pOk 0 v7 h5 then am_cI true (fm_187 N v7 v9 h5) (fun v12 h13 => (if ¬ v12 = 0 then (fg_259_150 N x0 x2 h13) else some (.inl (some (.int 0), h13)))) else none)))) else none))
theorem rg_259_126 {X : am_X} {d : Nat} {N : Nat} {lv : am_LV} (x0 : Value) (x2 : Value) (s0 : Value) (s1 : Value) (s2 : Value) (h : am_H) (o : am_O) (l0 : lv.lookup 0 = some x0) (l2 : lv.lookup 2 = some x2) (i0 : am_isR x0 = true) (i2 : am_isR x2 = true) (j0 : am_isR s0 = true) (j1 : am_isR s1 = true) (j2 : am_isR s2 = true) (hs : fg_259_126 N x0 x2 s0 s1 s2 h = some o) : am_W X (d + 123) 259 126 lv [s2, s1, s0] h (fun q => q = o) := by
  unfold fg_259_126 at hs
  refine aw_vload_n (pc1 := 127) at_259_126 l2 i2 rfl ?_
  obtain ⟨v1, e2, hs1⟩ := am_bind hs
  clear hs
  refine aw_pG (pc1 := 130) at_259_127 (am_vI_s e2) rfl ?_
  obtain ⟨z3, hs2⟩ := am_ift hs1
  clear hs1
  refine aw_call (F := fm_159 N s0 s1 s2 v1 h) (t := true) (na := 4) (kd := 1) (as := [s0, s1, s2, (.int v1)]) at_259_130 (am_k3v kb_159) mn_159 mk_159 rfl rfl (am_ok_v mi_159 (am_hl rfl (am_ccR j0 (am_ccR j1 (am_ccR j2 (am_ccI am_cats_0)))) rfl) z3) (am_hc am_cats_0 rfl) (fun _ => ⟨rfl, hh_259⟩) (fun o1 hz9 => rm_159 s0 s1 s2 v1 h o1 j0 j1 j2 hz9) ?_
  rcases am_cI_s hs2 with ⟨v4, h5, f6, hs3⟩ | hs3
  · clear hs2
    refine Or.inl ⟨_, _, f6, ?_⟩
    show am_W X _ 259 133 _ [(.int v4)] h5 _
    refine aw_popi (pc1 := 134) at_259_133 rfl ?_
    refine aw_vload_n (pc1 := 135) at_259_134 l0 i0 rfl ?_
    obtain ⟨v7, e8, hs4⟩ := am_bind hs3
    clear hs3
    refine aw_pG (pc1 := 138) at_259_135 (am_vR_s e8).1 rfl ?_
    refine aw_vload_n (pc1 := 139) at_259_138 l2 i2 rfl ?_
    obtain ⟨v9, e10, hs5⟩ := am_bind hs4
    clear hs4
    refine aw_pG (pc1 := 142) at_259_139 (am_vI_s e10) rfl ?_
    obtain ⟨z11, hs6⟩ := am_ift hs5
    clear hs5
    refine aw_call (F := fm_187 N v7 v9 h5) (t := true) (na := 2) (kd := 1) (as := [v7, (.int v9)]) at_259_142 (am_k3v kb_187) mn_187 mk_187 rfl rfl (am_ok_v mi_187 (am_hl rfl (am_ccR (am_vR_s e8).2 (am_ccI am_cats_0)) rfl) z11) (am_hc am_cats_0 rfl) (fun _ => ⟨rfl, hh_259⟩) (fun o1 hz9 => rm_187 v7 v9 h5 o1 (am_vR_s e8).2 hz9) ?_
    rcases am_cI_s hs6 with ⟨v12, h13, f14, hs7⟩ | hs7
    · clear hs6
      refine Or.inl ⟨_, _, f14, ?_⟩
      show am_W X _ 259 145 _ [(.int v12)] h13 _
      by_cases c15 : ¬ v12 = 0
      · rw [if_pos c15] at hs7
        refine aw_ifne_t at_259_145 c15 ?_
        exact rg_259_150 x0 x2 h13 o l0 l2 i0 i2 hs7
      · rw [if_neg c15] at hs7
        refine aw_ifne_f (pc1 := 148) at_259_145 c15 rfl ?_
        refine aw_iconst (v := 0) (pc1 := 149) at_259_148 (by decide) rfl ?_
        cases hs7
        exact aw_iret at_259_149 (by rw [rt_259]; decide) rfl
    · clear hs6
      exact Or.inr hs7
  · clear hs2
    exact Or.inr hs3
def fg_259_33 (N : Nat) (x0 : Value) (x2 : Value) (h : am_H) : Option am_O := ((am_vI (am_pG 774 x2 h)).bind fun v1 => (if am_pOk 11 x0 h then am_cR true (fm_63 x0 v1 h) (fun v4 h5 => ((am_vI (am_pG 776 x2 h5)).bind fun v7 => (if ¬ v7 = 4 then ((am_vI (am_pG 777 x2 h5)).bind fun v10 => (if 0 ≤ v10 then ((am_vR (am_pG 2823 x0 h5)).bind fun v13 => ((am_vI (am_pG 773 x2 h5)).bind fun v15 => (if ¬ v15 = 4 then (fg_259_126 N x0 x2 v13 v4 Value.null h5) else ((am_vI (am_pG 775 x2 h5)).bind fun v18 => (if am_pOk 11 x0 h5 then am_cR true (fm_63 x0 v18 h5) (fun v21 h22 => (fg_259_126 N x0 x2 v13 v4 v21 h22)) else none))))) else ((am_vR (am_pG 2823 x0 h5)).bind fun v24 => ((am_vR (am_pG 0 v24 h5)).bind fun v26 => (if am_pOk 3 v26 h5 then am_cV true (fm_60 v26 v4 h5) (fun h30 => (fg_259_150 N x0 x2 h30)) else none))))) else ((am_vR (am_pG 2835 x0 h5)).bind fun v32 => ((am_vL (am_pG 778 x2 h5)).bind fun v34 => ((am_pP 2048 v32 (.long v34) h5).bind fun h36 => ((am_vR (am_pG 2823 x0 h36)).bind fun v38 => ((am_vR (am_pG 2835 x0 h36)).bind fun v40 => ((am_vR (am_pG 2822 x0 h36)).bind fun v42 => (if am_pOk 0 v38 h36 then am_cV true (fm_191 N v38 v4 v40 v42 h36) (fun h46 => (fg_259_150 N x0 x2 h46)) else none)))))))))) else none))
theorem rg_259_33 {X : am_X} {d : Nat} {N : Nat} {lv : am_LV} (x0 : Value) (x2 : Value) (h : am_H) (o : am_O) (l0 : lv.lookup 0 = some x0) (l2 : lv.lookup 2 = some x2) (i0 : am_isR x0 = true) (i2 : am_isR x2 = true) (hs : fg_259_33 N x0 x2 h = some o) : am_W X (d + 123) 259 33 lv [] h (fun q => q = o) := by
  unfold fg_259_33 at hs
  refine aw_vload_n (pc1 := 34) at_259_33 l0 i0 rfl ?_
  refine aw_vload_n (pc1 := 35) at_259_34 l2 i2 rfl ?_
  obtain ⟨v1, e2, hs1⟩ := am_bind hs
  clear hs
  refine aw_pG (pc1 := 38) at_259_35 (am_vI_s e2) rfl ?_
  obtain ⟨z3, hs2⟩ := am_ift hs1
  clear hs1
  refine aw_call (F := fm_63 x0 v1 h) (t := true) (na := 2) (kd := 1) (as := [x0, (.int v1)]) at_259_38 (am_k3v kb_63) mn_63 mk_63 rfl rfl (am_ok_v mi_63 (am_hl rfl (am_ccR i0 (am_ccI am_cats_0)) rfl) z3) (am_hc am_cats_0 rfl) (fun _ => ⟨rfl, hh_259⟩) (fun o1 hz9 => rm_63 x0 v1 h o1 i0 hz9) ?_
  rcases am_cR_s hs2 with ⟨v4, h5, f6, iv4, hs3⟩ | hs3
  · clear hs2
    refine Or.inl ⟨_, _, f6, ?_⟩
    show am_W X _ 259 41 _ [v4] h5 _
    refine aw_vstore_n (lv1 := am_put1 _ 3 _) (pc1 := 42) at_259_41 iv4 rfl rfl ?_
    refine aw_vload_n (pc1 := 43) at_259_42 (am_lk1 l2 rfl (by rw [am_isRc i2]; rfl)) i2 rfl ?_
    obtain ⟨v7, e8, hs4⟩ := am_bind hs3
    clear hs3
    refine aw_pG (pc1 := 46) at_259_43 (am_vI_s e8) rfl ?_
    refine aw_iconst (v := 4) (pc1 := 47) at_259_46 (by decide) rfl ?_
    by_cases c9 : ¬ v7 = 4
    · rw [if_pos c9] at hs4
      refine aw_icne_t at_259_47 c9 ?_
      refine aw_vload_n (pc1 := 81) at_259_80 (am_lk1 l2 rfl (by rw [am_isRc i2]; rfl)) i2 rfl ?_
      obtain ⟨v10, e11, hs5⟩ := am_bind hs4
      clear hs4
      refine aw_pG (pc1 := 84) at_259_81 (am_vI_s e11) rfl ?_
      by_cases c12 : 0 ≤ v10
      · rw [if_pos c12] at hs5
        refine aw_ifge_t at_259_84 c12 ?_
        refine aw_vload_n (pc1 := 102) at_259_101 (am_lk1 l0 rfl rfl) i0 rfl ?_
        obtain ⟨v13, e14, hs6⟩ := am_bind hs5
        clear hs5
        refine aw_pG (pc1 := 105) at_259_102 (am_vR_s e14).1 rfl ?_
        refine aw_vload_n (pc1 := 106) at_259_105 am_lk0 iv4 rfl ?_
        refine aw_vload_n (pc1 := 107) at_259_106 (am_lk1 l2 rfl (by rw [am_isRc i2]; rfl)) i2 rfl ?_
        obtain ⟨v15, e16, hs7⟩ := am_bind hs6
        clear hs6
        refine aw_pG (pc1 := 110) at_259_107 (am_vI_s e16) rfl ?_
        refine aw_iconst (v := 4) (pc1 := 111) at_259_110 (by decide) rfl ?_
        by_cases c17 : ¬ v15 = 4
        · rw [if_pos c17] at hs7
          refine aw_icne_t at_259_111 c17 ?_
          refine aw_null (pc1 := 126) at_259_125 rfl ?_
          exact rg_259_126 x0 x2 v13 v4 Value.null h5 o (am_lk1 l0 rfl rfl) (am_lk1 l2 rfl (by rw [am_isRc i2]; rfl)) i0 i2 (am_vR_s e14).2 iv4 rfl hs7
        · rw [if_neg c17] at hs7
          refine aw_icne_f (pc1 := 114) at_259_111 c17 rfl ?_
          refine aw_vload_n (pc1 := 115) at_259_114 (am_lk1 l0 rfl rfl) i0 rfl ?_
          refine aw_vload_n (pc1 := 116) at_259_115 (am_lk1 l2 rfl (by rw [am_isRc i2]; rfl)) i2 rfl ?_
          obtain ⟨v18, e19, hs8⟩ := am_bind hs7
          clear hs7
          refine aw_pG (pc1 := 119) at_259_116 (am_vI_s e19) rfl ?_
          obtain ⟨z20, hs9⟩ := am_ift hs8
          clear hs8
          refine aw_call (F := fm_63 x0 v18 h5) (t := true) (na := 2) (kd := 1) (as := [x0, (.int v18)]) at_259_119 (am_k3v kb_63) mn_63 mk_63 rfl rfl (am_ok_v mi_63 (am_hl rfl (am_ccR i0 (am_ccI am_cats_0)) rfl) z20) (am_hc (am_ccR iv4 (am_ccR (am_vR_s e14).2 am_cats_0)) rfl) (fun _ => ⟨rfl, hh_259⟩) (fun o1 hz9 => rm_63 x0 v18 h5 o1 i0 hz9) ?_
          rcases am_cR_s hs9 with ⟨v21, h22, f23, iv21, hs10⟩ | hs10
          · clear hs9
            refine Or.inl ⟨_, _, f23, ?_⟩
            show am_W X _ 259 122 _ [v21, v4, v13] h22 _
            refine aw_goto at_259_122 ?_
            exact rg_259_126 x0 x2 v13 v4 v21 h22 o (am_lk1 l0 rfl rfl) (am_lk1 l2 rfl (by rw [am_isRc i2]; rfl)) i0 i2 (am_vR_s e14).2 iv4 iv21 hs10
          · clear hs9
            exact Or.inr hs10
      · rw [if_neg c12] at hs5
        refine aw_ifge_f (pc1 := 87) at_259_84 c12 rfl ?_
        refine aw_vload_n (pc1 := 88) at_259_87 (am_lk1 l0 rfl rfl) i0 rfl ?_
        obtain ⟨v24, e25, hs11⟩ := am_bind hs5
        clear hs5
        refine aw_pG (pc1 := 91) at_259_88 (am_vR_s e25).1 rfl ?_
        obtain ⟨v26, e27, hs12⟩ := am_bind hs11
        clear hs11
        refine aw_pG (pc1 := 94) at_259_91 (am_vR_s e27).1 rfl ?_
        refine aw_vload_n (pc1 := 95) at_259_94 am_lk0 iv4 rfl ?_
        obtain ⟨z28, hs13⟩ := am_ift hs12
        clear hs12
        refine aw_call (F := fm_60 v26 v4 h5) (t := true) (na := 2) (kd := 1) (as := [v26, v4]) at_259_95 (am_k3v kb_60) mn_60 mk_60 rfl rfl (am_ok_v mi_60 (am_hl rfl (am_ccR (am_vR_s e27).2 (am_ccR iv4 am_cats_0)) rfl) z28) (am_hc am_cats_0 rfl) (fun _ => ⟨rfl, hh_259⟩) (fun o1 hz9 => rm_60 v26 v4 h5 o1 (am_vR_s e27).2 iv4 hz9) ?_
        rcases am_cV_s hs13 with ⟨h30, f31, hs14⟩ | hs14
        · clear hs13
          refine Or.inl ⟨_, _, f31, ?_⟩
          show am_W X _ 259 98 _ [] h30 _
          refine aw_goto at_259_98 ?_
          exact rg_259_150 x0 x2 h30 o (am_lk1 l0 rfl rfl) (am_lk1 l2 rfl (by rw [am_isRc i2]; rfl)) i0 i2 hs14
        · clear hs13
          exact Or.inr hs14
    · rw [if_neg c9] at hs4
      refine aw_icne_f (pc1 := 50) at_259_47 c9 rfl ?_
      refine aw_vload_n (pc1 := 51) at_259_50 (am_lk1 l0 rfl rfl) i0 rfl ?_
      obtain ⟨v32, e33, hs15⟩ := am_bind hs4
      clear hs4
      refine aw_pG (pc1 := 54) at_259_51 (am_vR_s e33).1 rfl ?_
      refine aw_vload_n (pc1 := 55) at_259_54 (am_lk1 l2 rfl (by rw [am_isRc i2]; rfl)) i2 rfl ?_
      obtain ⟨v34, e35, hs16⟩ := am_bind hs15
      clear hs15
      refine aw_pG (pc1 := 58) at_259_55 (am_vL_s e35) rfl ?_
      obtain ⟨h36, e37, hs17⟩ := am_bind hs16
      clear hs16
      refine aw_pP (pc1 := 61) at_259_58 e37 rfl ?_
      refine aw_vload_n (pc1 := 62) at_259_61 (am_lk1 l0 rfl rfl) i0 rfl ?_
      obtain ⟨v38, e39, hs18⟩ := am_bind hs17
      clear hs17
      refine aw_pG (pc1 := 65) at_259_62 (am_vR_s e39).1 rfl ?_
      refine aw_vload_n (pc1 := 66) at_259_65 am_lk0 iv4 rfl ?_
      refine aw_vload_n (pc1 := 67) at_259_66 (am_lk1 l0 rfl rfl) i0 rfl ?_
      obtain ⟨v40, e41, hs19⟩ := am_bind hs18
      clear hs18
      refine aw_pG (pc1 := 70) at_259_67 (am_vR_s e41).1 rfl ?_
      refine aw_vload_n (pc1 := 71) at_259_70 (am_lk1 l0 rfl rfl) i0 rfl ?_
      obtain ⟨v42, e43, hs20⟩ := am_bind hs19
      clear hs19
      refine aw_pG (pc1 := 74) at_259_71 (am_vR_s e43).1 rfl ?_
      obtain ⟨z44, hs21⟩ := am_ift hs20
      clear hs20
      refine aw_call (F := fm_191 N v38 v4 v40 v42 h36) (t := true) (na := 4) (kd := 1) (as := [v38, v4, v40, v42]) at_259_74 (am_k3v kb_191) mn_191 mk_191 rfl rfl (am_ok_v mi_191 (am_hl rfl (am_ccR (am_vR_s e39).2 (am_ccR iv4 (am_ccR (am_vR_s e41).2 (am_ccR (am_vR_s e43).2 am_cats_0)))) rfl) z44) (am_hc am_cats_0 rfl) (fun _ => ⟨rfl, hh_259⟩) (fun o1 hz9 => rm_191 v38 v4 v40 v42 h36 o1 (am_vR_s e39).2 iv4 (am_vR_s e41).2 (am_vR_s e43).2 hz9) ?_
      rcases am_cV_s hs21 with ⟨h46, f47, hs22⟩ | hs22
      · clear hs21
        refine Or.inl ⟨_, _, f47, ?_⟩
        show am_W X _ 259 77 _ [] h46 _
        refine aw_goto at_259_77 ?_
        exact rg_259_150 x0 x2 h46 o (am_lk1 l0 rfl rfl) (am_lk1 l2 rfl (by rw [am_isRc i2]; rfl)) i0 i2 hs22
      · clear hs21
        exact Or.inr hs22
  · clear hs2
    exact Or.inr hs3
def fg_259_0 (N : Nat) (x0 : Value) (x1 : Int32) (h : am_H) : Option am_O := (if am_pOk 11 x0 h then am_cR true (fm_63 x0 x1 h) (fun v2 h3 => ((am_vI (am_pG 773 v2 h3)).bind fun v5 => (if v5 = 3 then (fg_259_33 N x0 v2 h3) else ((am_vI (am_pG 773 v2 h3)).bind fun v8 => (if v8 = 4 then (fg_259_33 N x0 v2 h3) else some (.inr (0, h3 ++ [am_dummy]))))))) else none)
theorem rg_259_0 {X : am_X} {d : Nat} {N : Nat} {lv : am_LV} (x0 : Value) (x1 : Int32) (h : am_H) (o : am_O) (l0 : lv.lookup 0 = some x0) (l1 : lv.lookup 1 = some (.int x1)) (i0 : am_isR x0 = true) (hs : fg_259_0 N x0 x1 h = some o) : am_W X (d + 123) 259 0 lv [] h (fun q => q = o) := by
  unfold fg_259_0 at hs
  refine aw_vload_n (pc1 := 1) at_259_0 l0 i0 rfl ?_
  refine aw_iload_n (pc1 := 2) at_259_1 l1 rfl ?_
  obtain ⟨z1, hs1⟩ := am_ift hs
  clear hs
  refine aw_call (F := fm_63 x0 x1 h) (t := true) (na := 2) (kd := 1) (as := [x0, (.int x1)]) at_259_2 (am_k3v kb_63) mn_63 mk_63 rfl rfl (am_ok_v mi_63 (am_hl rfl (am_ccR i0 (am_ccI am_cats_0)) rfl) z1) (am_hc am_cats_0 rfl) (fun _ => ⟨rfl, hh_259⟩) (fun o1 hz9 => rm_63 x0 x1 h o1 i0 hz9) ?_
  rcases am_cR_s hs1 with ⟨v2, h3, f4, iv2, hs2⟩ | hs2
  · clear hs1
    refine Or.inl ⟨_, _, f4, ?_⟩
    show am_W X _ 259 5 _ [v2] h3 _
    refine aw_vstore_n (lv1 := am_put1 _ 2 _) (pc1 := 6) at_259_5 iv2 rfl rfl ?_
    refine aw_vload_n (pc1 := 7) at_259_6 am_lk0 iv2 rfl ?_
    obtain ⟨v5, e6, hs3⟩ := am_bind hs2
    clear hs2
    refine aw_pG (pc1 := 10) at_259_7 (am_vI_s e6) rfl ?_
    refine aw_iconst (v := 3) (pc1 := 11) at_259_10 (by decide) rfl ?_
    by_cases c7 : v5 = 3
    · rw [if_pos c7] at hs3
      refine aw_iceq_t at_259_11 c7 ?_
      exact rg_259_33 x0 v2 h3 o (am_lk1 l0 rfl rfl) am_lk0 i0 iv2 hs3
    · rw [if_neg c7] at hs3
      refine aw_iceq_f (pc1 := 14) at_259_11 c7 rfl ?_
      refine aw_vload_n (pc1 := 15) at_259_14 am_lk0 iv2 rfl ?_
      obtain ⟨v8, e9, hs4⟩ := am_bind hs3
      clear hs3
      refine aw_pG (pc1 := 18) at_259_15 (am_vI_s e9) rfl ?_
      refine aw_iconst (v := 4) (pc1 := 19) at_259_18 (by decide) rfl ?_
      by_cases c10 : v8 = 4
      · rw [if_pos c10] at hs4
        refine aw_iceq_t at_259_19 c10 ?_
        exact rg_259_33 x0 v2 h3 o (am_lk1 l0 rfl rfl) am_lk0 i0 iv2 hs4
      · rw [if_neg c10] at hs4
        refine aw_iceq_f (pc1 := 22) at_259_19 c10 rfl ?_
        cases hs4
        exact aw_throw at_259_22 rfl th_259_22 (am_hc am_cats_0 rfl) rfl
  · clear hs1
    exact Or.inr hs2
def fm_259 (N : Nat) (y0 : Value) (y1 : Int32) (h : am_H) : Option am_O := fg_259_0 N y0 y1 h
theorem rm_259 {X : am_X} {d : Nat} {N : Nat} (y0 : Value) (y1 : Int32) (h : am_H) (o : am_O) (i0 : am_isR y0 = true) (hs : fm_259 N y0 y1 h = some o) : am_W X (d + 123) 259 0 (am_args 0 [y0, .int y1]) [] h (fun q => q = o) := by
  rw [am_args_R i0, am_args_I]
  exact rg_259_0 y0 y1 h o rfl rfl i0 hs
def fg_258_23 (N : Nat) (h : am_H) : Option am_O := some (.inl (some (.int 2), h))
theorem rg_258_23 {X : am_X} {d : Nat} {N : Nat} {lv : am_LV} (h : am_H) (o : am_O) (hs : fg_258_23 N h = some o) : am_W X (d + 124) 258 23 lv [] h (fun q => q = o) := by
  unfold fg_258_23 at hs
  refine aw_iconst (v := 2) (pc1 := 24) at_258_23 (by decide) rfl ?_
  cases hs
  exact aw_iret at_258_24 (by rw [rt_258]; rfl) rfl
def fg_258_20 (N : Nat) (h : am_H) : Option am_O := some (.inl (some (.int 1), h))
theorem rg_258_20 {X : am_X} {d : Nat} {N : Nat} {lv : am_LV} (h : am_H) (o : am_O) (hs : fg_258_20 N h = some o) : am_W X (d + 124) 258 20 lv [] h (fun q => q = o) := by
  unfold fg_258_20 at hs
  refine aw_iconst (v := 1) (pc1 := 21) at_258_20 (by decide) rfl ?_
  cases hs
  exact aw_iret at_258_21 (by rw [rt_258]; rfl) rfl
def fg_258_15 (N : Nat) (s0 : Value) (s1 : Int32) (s2 : Int64) (h : am_H) : Option am_O := ((am_pSL s0 s1 s2 h).bind fun h1 => some (.inl (some (.int 0), h1)))
theorem rg_258_15 {X : am_X} {d : Nat} {N : Nat} {lv : am_LV} (s0 : Value) (s1 : Int32) (s2 : Int64) (h : am_H) (o : am_O) (j0 : am_isR s0 = true) (hs : fg_258_15 N s0 s1 s2 h = some o) : am_W X (d + 124) 258 15 lv [(.long s2), (.int s1), s0] h (fun q => q = o) := by
  unfold fg_258_15 at hs
  obtain ⟨h1, e2, hs1⟩ := am_bind hs
  clear hs
  refine aw_pSL (pc1 := 16) at_258_15 e2 rfl ?_
  refine aw_goto at_258_16 ?_
  refine aw_iconst (v := 0) (pc1 := 26) at_258_25 (by decide) rfl ?_
  cases hs1
  exact aw_iret at_258_26 (by rw [rt_258]; rfl) rfl
def fg_258_0 (N : Nat) (x0 : Value) (x1 : Int32) (x2 : Value) (h : am_H) : Option am_O := (if am_pOk 11 x0 h then (match fm_259 N x0 x1 h with | some (.inl (some (.int v2), h3)) => (if v2 = 0 then (fg_258_15 N x2 0 0 h3) else (fg_258_15 N x2 0 1 h3)) | some (.inr (0, h6)) => (fg_258_23 N h6) | some (.inr (2, h8)) => (fg_258_20 N h8) | _ => none) else none)
theorem rg_258_0 {X : am_X} {d : Nat} {N : Nat} {lv : am_LV} (x0 : Value) (x1 : Int32) (x2 : Value) (h : am_H) (o : am_O) (l0 : lv.lookup 0 = some x0) (l1 : lv.lookup 1 = some (.int x1)) (l2 : lv.lookup 2 = some x2) (i0 : am_isR x0 = true) (i2 : am_isR x2 = true) (hs : fg_258_0 N x0 x1 x2 h = some o) : am_W X (d + 124) 258 0 lv [] h (fun q => q = o) := by
  unfold fg_258_0 at hs
  refine aw_vload_n (pc1 := 1) at_258_0 l2 i2 rfl ?_
  refine aw_iconst (v := 0) (pc1 := 2) at_258_1 (by decide) rfl ?_
  refine aw_vload_n (pc1 := 3) at_258_2 l0 i0 rfl ?_
  refine aw_iload_n (pc1 := 4) at_258_3 l1 rfl ?_
  obtain ⟨z1, hs1⟩ := am_ift hs
  clear hs
  refine aw_callH (F := fm_259 N x0 x1 h) (na := 2) (kd := 1) (as := [x0, (.int x1)]) at_258_4 (am_k3v kb_259) mn_259 mk_259 rfl rfl (am_ok_v mi_259 (am_hl rfl (am_ccR i0 (am_ccI am_cats_0)) rfl) z1) (am_hc (am_ccI (am_ccR i2 am_cats_0)) rfl) (fun o1 hz9 => rm_259 x0 x1 h o1 i0 hz9) ?_
  split at hs1
  · rename_i v2 h3 f4
    refine Or.inl ⟨_, _, f4, ?_⟩
    show am_W X _ 258 7 _ [(.int v2), (.int 0), x2] h3 _
    by_cases c5 : v2 = 0
    · rw [if_pos c5] at hs1
      refine aw_ifeq_t at_258_7 c5 ?_
      refine aw_lconst (v := 0) (pc1 := 15) at_258_14 (by decide) rfl ?_
      exact rg_258_15 x2 0 0 h3 o  i2 hs1
    · rw [if_neg c5] at hs1
      refine aw_ifeq_f (pc1 := 10) at_258_7 c5 rfl ?_
      refine aw_lconst (v := 1) (pc1 := 11) at_258_10 (by decide) rfl ?_
      refine aw_goto at_258_11 ?_
      exact rg_258_15 x2 0 1 h3 o  i2 hs1
  · rename_i h6 f7
    refine Or.inr ⟨_, _, 23, 3, f7, rfl, hn_258, hd_258_4_0, ?_⟩
    exact rg_258_23 h6 o   hs1
  · rename_i h8 f9
    refine Or.inr ⟨_, _, 20, 3, f9, rfl, hn_258, hd_258_4_2, ?_⟩
    exact rg_258_20 h8 o   hs1
  · cases hs1
def fm_258 (N : Nat) (y0 : Value) (y1 : Int32) (y2 : Value) (h : am_H) : Option am_O := fg_258_0 N y0 y1 y2 h
theorem rm_258 {X : am_X} {d : Nat} {N : Nat} (y0 : Value) (y1 : Int32) (y2 : Value) (h : am_H) (o : am_O) (i0 : am_isR y0 = true) (i2 : am_isR y2 = true) (hs : fm_258 N y0 y1 y2 h = some o) : am_W X (d + 124) 258 0 (am_args 0 [y0, .int y1, y2]) [] h (fun q => q = o) := by
  rw [am_args_R i0, am_args_I, am_args_R i2]
  exact rg_258_0 y0 y1 y2 h o rfl rfl rfl i0 i2 hs
def fg_532_160 (N : Nat) (x0 : Value) (x1 : Int32) (h : am_H) : Option am_O := (if am_pOk 12 x0 h then am_cI true (fm_375 N x0 x1 h) (fun v2 h3 => (if am_rfit (some FieldType.boolean) v2 then some (.inl (some (.int v2), h3)) else none)) else none)
theorem rg_532_160 {X : am_X} {d : Nat} {N : Nat} {lv : am_LV} (x0 : Value) (x1 : Int32) (h : am_H) (o : am_O) (l0 : lv.lookup 0 = some x0) (l1 : lv.lookup 1 = some (.int x1)) (i0 : am_isR x0 = true) (hs : fg_532_160 N x0 x1 h = some o) : am_W X (d + 8) 532 160 lv [] h (fun q => q = o) := by
  unfold fg_532_160 at hs
  refine aw_vload_n (pc1 := 161) at_532_160 l0 i0 rfl ?_
  refine aw_iload_n (pc1 := 162) at_532_161 l1 rfl ?_
  obtain ⟨z1, hs1⟩ := am_ift hs
  clear hs
  refine aw_call (F := fm_375 N x0 x1 h) (t := true) (na := 2) (kd := 1) (as := [x0, (.int x1)]) at_532_162 (am_k3v kb_375) mn_375 mk_375 rfl rfl (am_ok_v mi_375 (am_hl rfl (am_ccR i0 (am_ccI am_cats_0)) rfl) z1) (am_hc am_cats_0 rfl) (fun _ => ⟨rfl, hh_532⟩) (fun o1 hz9 => rm_375 x0 x1 h o1 i0 hz9) ?_
  rcases am_cI_s hs1 with ⟨v2, h3, f4, hs2⟩ | hs2
  · clear hs1
    refine Or.inl ⟨_, _, f4, ?_⟩
    show am_W X _ 532 165 _ [(.int v2)] h3 _
    obtain ⟨z5, hs3⟩ := am_ift hs2
    clear hs2
    cases hs3
    exact aw_iret at_532_165 (by rw [rt_532]; exact z5) rfl
  · clear hs1
    exact Or.inr hs2
def fg_532_98 (N : Nat) (x0 : Value) (x1 : Int32) (x2 : Int32) (h : am_H) : Option am_O := ((am_vR (am_pG 3081 x0 h)).bind fun v1 => ((am_pA 0 v1 x1 h).bind fun v3 => (if 0 ≤ v3 then (if ¬ x2 = 3 then ((am_vR (am_pG 3079 x0 h)).bind fun v7 => ((am_pA 0 v7 x1 h).bind fun v9 => (if am_pOk 12 x0 h then am_cV true (fm_480 N x0 v9 h) (fun h13 => ((am_vR (am_pG 3081 x0 h13)).bind fun v15 => ((am_pA 0 v15 x1 h13).bind fun v17 => (if am_pOk 12 x0 h13 then am_cI true (fm_481 N x0 v17 h13) (fun v20 h21 => (fg_532_160 N x0 x1 h21)) else none)))) else none))) else ((am_vR (am_pG 3080 x0 h)).bind fun v23 => ((am_pA 0 v23 x1 h).bind fun v25 => ((am_vR (am_pG 3081 x0 h)).bind fun v27 => ((am_pA 0 v27 x1 h).bind fun v29 => (if am_pOk 12 x0 h then am_cI true (fm_439 N x0 v25 v29 h) (fun v32 h33 => (fg_532_160 N x0 x1 h33)) else none)))))) else (if am_pOk 12 x0 h then am_cV true (fm_442 N x0 h) (fun h37 => (fg_532_160 N x0 x1 h37)) else none))))
theorem rg_532_98 {X : am_X} {d : Nat} {N : Nat} {lv : am_LV} (x0 : Value) (x1 : Int32) (x2 : Int32) (h : am_H) (o : am_O) (l0 : lv.lookup 0 = some x0) (l1 : lv.lookup 1 = some (.int x1)) (l2 : lv.lookup 2 = some (.int x2)) (i0 : am_isR x0 = true) (hs : fg_532_98 N x0 x1 x2 h = some o) : am_W X (d + 8) 532 98 lv [] h (fun q => q = o) := by
  unfold fg_532_98 at hs
  refine aw_vload_n (pc1 := 99) at_532_98 l0 i0 rfl ?_
  obtain ⟨v1, e2, hs1⟩ := am_bind hs
  clear hs
  refine aw_pG (pc1 := 102) at_532_99 (am_vR_s e2).1 rfl ?_
  refine aw_iload_n (pc1 := 103) at_532_102 l1 rfl ?_
  obtain ⟨v3, e4, hs2⟩ := am_bind hs1
  clear hs1
  refine aw_pA (pc1 := 104) at_532_103 (Or.inl ⟨rfl, rfl⟩) e4 rfl ?_
  by_cases c5 : 0 ≤ v3
  · rw [if_pos c5] at hs2
    refine aw_ifge_t at_532_104 c5 ?_
    refine aw_iload_n (pc1 := 115) at_532_114 l2 rfl ?_
    refine aw_iconst (v := 3) (pc1 := 116) at_532_115 (by decide) rfl ?_
    by_cases c6 : ¬ x2 = 3
    · rw [if_pos c6] at hs2
      refine aw_icne_t at_532_116 c6 ?_
      refine aw_vload_n (pc1 := 140) at_532_139 l0 i0 rfl ?_
      refine aw_vload_n (pc1 := 141) at_532_140 l0 i0 rfl ?_
      obtain ⟨v7, e8, hs3⟩ := am_bind hs2
      clear hs2
      refine aw_pG (pc1 := 144) at_532_141 (am_vR_s e8).1 rfl ?_
      refine aw_iload_n (pc1 := 145) at_532_144 l1 rfl ?_
      obtain ⟨v9, e10, hs4⟩ := am_bind hs3
      clear hs3
      refine aw_pA (pc1 := 146) at_532_145 (Or.inl ⟨rfl, rfl⟩) e10 rfl ?_
      obtain ⟨z11, hs5⟩ := am_ift hs4
      clear hs4
      refine aw_call (F := fm_480 N x0 v9 h) (t := true) (na := 2) (kd := 1) (as := [x0, (.int v9)]) at_532_146 (am_k3v kb_480) mn_480 mk_480 rfl rfl (am_ok_v mi_480 (am_hl rfl (am_ccR i0 (am_ccI am_cats_0)) rfl) z11) (am_hc am_cats_0 rfl) (fun _ => ⟨rfl, hh_532⟩) (fun o1 hz9 => rm_480 x0 v9 h o1 i0 hz9) ?_
      rcases am_cV_s hs5 with ⟨h13, f14, hs6⟩ | hs6
      · clear hs5
        refine Or.inl ⟨_, _, f14, ?_⟩
        show am_W X _ 532 149 _ [] h13 _
        refine aw_vload_n (pc1 := 150) at_532_149 l0 i0 rfl ?_
        refine aw_vload_n (pc1 := 151) at_532_150 l0 i0 rfl ?_
        obtain ⟨v15, e16, hs7⟩ := am_bind hs6
        clear hs6
        refine aw_pG (pc1 := 154) at_532_151 (am_vR_s e16).1 rfl ?_
        refine aw_iload_n (pc1 := 155) at_532_154 l1 rfl ?_
        obtain ⟨v17, e18, hs8⟩ := am_bind hs7
        clear hs7
        refine aw_pA (pc1 := 156) at_532_155 (Or.inl ⟨rfl, rfl⟩) e18 rfl ?_
        obtain ⟨z19, hs9⟩ := am_ift hs8
        clear hs8
        refine aw_call (F := fm_481 N x0 v17 h13) (t := true) (na := 2) (kd := 1) (as := [x0, (.int v17)]) at_532_156 (am_k3v kb_481) mn_481 mk_481 rfl rfl (am_ok_v mi_481 (am_hl rfl (am_ccR i0 (am_ccI am_cats_0)) rfl) z19) (am_hc am_cats_0 rfl) (fun _ => ⟨rfl, hh_532⟩) (fun o1 hz9 => rm_481 x0 v17 h13 o1 i0 hz9) ?_
        rcases am_cI_s hs9 with ⟨v20, h21, f22, hs10⟩ | hs10
        · clear hs9
          refine Or.inl ⟨_, _, f22, ?_⟩
          show am_W X _ 532 159 _ [(.int v20)] h21 _
          refine aw_popi (pc1 := 160) at_532_159 rfl ?_
          exact rg_532_160 x0 x1 h21 o l0 l1 i0 hs10
        · clear hs9
          exact Or.inr hs10
      · clear hs5
        exact Or.inr hs6
    · rw [if_neg c6] at hs2
      refine aw_icne_f (pc1 := 119) at_532_116 c6 rfl ?_
      refine aw_vload_n (pc1 := 120) at_532_119 l0 i0 rfl ?_
      refine aw_vload_n (pc1 := 121) at_532_120 l0 i0 rfl ?_
      obtain ⟨v23, e24, hs11⟩ := am_bind hs2
      clear hs2
      refine aw_pG (pc1 := 124) at_532_121 (am_vR_s e24).1 rfl ?_
      refine aw_iload_n (pc1 := 125) at_532_124 l1 rfl ?_
      obtain ⟨v25, e26, hs12⟩ := am_bind hs11
      clear hs11
      refine aw_pA (pc1 := 126) at_532_125 (Or.inl ⟨rfl, rfl⟩) e26 rfl ?_
      refine aw_vload_n (pc1 := 127) at_532_126 l0 i0 rfl ?_
      obtain ⟨v27, e28, hs13⟩ := am_bind hs12
      clear hs12
      refine aw_pG (pc1 := 130) at_532_127 (am_vR_s e28).1 rfl ?_
      refine aw_iload_n (pc1 := 131) at_532_130 l1 rfl ?_
      obtain ⟨v29, e30, hs14⟩ := am_bind hs13
      clear hs13
      refine aw_pA (pc1 := 132) at_532_131 (Or.inl ⟨rfl, rfl⟩) e30 rfl ?_
      obtain ⟨z31, hs15⟩ := am_ift hs14
      clear hs14
      refine aw_call (F := fm_439 N x0 v25 v29 h) (t := true) (na := 3) (kd := 1) (as := [x0, (.int v25), (.int v29)]) at_532_132 (am_k3v kb_439) mn_439 mk_439 rfl rfl (am_ok_v mi_439 (am_hl rfl (am_ccR i0 (am_ccI (am_ccI am_cats_0))) rfl) z31) (am_hc am_cats_0 rfl) (fun _ => ⟨rfl, hh_532⟩) (fun o1 hz9 => rm_439 x0 v25 v29 h o1 i0 hz9) ?_
      rcases am_cI_s hs15 with ⟨v32, h33, f34, hs16⟩ | hs16
      · clear hs15
        refine Or.inl ⟨_, _, f34, ?_⟩
        show am_W X _ 532 135 _ [(.int v32)] h33 _
        refine aw_popi (pc1 := 136) at_532_135 rfl ?_
        refine aw_goto at_532_136 ?_
        exact rg_532_160 x0 x1 h33 o l0 l1 i0 hs16
      · clear hs15
        exact Or.inr hs16
  · rw [if_neg c5] at hs2
    refine aw_ifge_f (pc1 := 107) at_532_104 c5 rfl ?_
    refine aw_vload_n (pc1 := 108) at_532_107 l0 i0 rfl ?_
    obtain ⟨z35, hs17⟩ := am_ift hs2
    clear hs2
    refine aw_call (F := fm_442 N x0 h) (t := true) (na := 1) (kd := 1) (as := [x0]) at_532_108 (am_k3v kb_442) mn_442 mk_442 rfl rfl (am_ok_v mi_442 (am_hl rfl (am_ccR i0 am_cats_0) rfl) z35) (am_hc am_cats_0 rfl) (fun _ => ⟨rfl, hh_532⟩) (fun o1 hz9 => rm_442 x0 h o1 i0 hz9) ?_
    rcases am_cV_s hs17 with ⟨h37, f38, hs18⟩ | hs18
    · clear hs17
      refine Or.inl ⟨_, _, f38, ?_⟩
      show am_W X _ 532 111 _ [] h37 _
      refine aw_goto at_532_111 ?_
      exact rg_532_160 x0 x1 h37 o l0 l1 i0 hs18
    · clear hs17
      exact Or.inr hs18
def fg_532_47 (N : Nat) (x0 : Value) (x1 : Int32) (x2 : Int32) (s0 : Value) (s1 : Int32) (h : am_H) : Option am_O := ((am_pP 3072 s0 (.int s1) h).bind fun h1 => ((am_vI (am_pG 3072 x0 h1)).bind fun v3 => (if v3 ≤ 0 then ((am_vR (am_pG 3078 x0 h1)).bind fun v6 => ((am_pA 0 v6 x1 h1).bind fun v8 => (if am_pOk 12 x0 h1 then am_cV true (fm_391 N x0 v8 h1) (fun h12 => (if ¬ x2 = 3 then (fg_532_98 N x0 x1 x2 h12) else ((am_vR (am_pG 3080 x0 h12)).bind fun v15 => ((am_pA 0 v15 x1 h12).bind fun v17 => (if ¬ v17 = 4 then (fg_532_98 N x0 x1 x2 h12) else ((am_vR (am_pG 3082 x0 h12)).bind fun v20 => ((am_pAL v20 x1 h12).bind fun v22 => (if am_pOk 12 x0 h12 then am_cV true (fm_472 N x0 4 v22 h12) (fun h26 => (fg_532_160 N x0 x1 h26)) else none)))))))) else none))) else some (.inl (some (.int 0), h1)))))
theorem rg_532_47 {X : am_X} {d : Nat} {N : Nat} {lv : am_LV} (x0 : Value) (x1 : Int32) (x2 : Int32) (s0 : Value) (s1 : Int32) (h : am_H) (o : am_O) (l0 : lv.lookup 0 = some x0) (l1 : lv.lookup 1 = some (.int x1)) (l2 : lv.lookup 2 = some (.int x2)) (i0 : am_isR x0 = true) (j0 : am_isR s0 = true) (hs : fg_532_47 N x0 x1 x2 s0 s1 h = some o) : am_W X (d + 8) 532 47 lv [(.int s1), s0] h (fun q => q = o) := by
  unfold fg_532_47 at hs
  obtain ⟨h1, e2, hs1⟩ := am_bind hs
  clear hs
  refine aw_pP (pc1 := 50) at_532_47 e2 rfl ?_
  refine aw_vload_n (pc1 := 51) at_532_50 l0 i0 rfl ?_
  obtain ⟨v3, e4, hs2⟩ := am_bind hs1
  clear hs1
  refine aw_pG (pc1 := 54) at_532_51 (am_vI_s e4) rfl ?_
  by_cases c5 : v3 ≤ 0
  · rw [if_pos c5] at hs2
    refine aw_ifle_t at_532_54 c5 ?_
    refine aw_vload_n (pc1 := 60) at_532_59 l0 i0 rfl ?_
    refine aw_vload_n (pc1 := 61) at_532_60 l0 i0 rfl ?_
    obtain ⟨v6, e7, hs3⟩ := am_bind hs2
    clear hs2
    refine aw_pG (pc1 := 64) at_532_61 (am_vR_s e7).1 rfl ?_
    refine aw_iload_n (pc1 := 65) at_532_64 l1 rfl ?_
    obtain ⟨v8, e9, hs4⟩ := am_bind hs3
    clear hs3
    refine aw_pA (pc1 := 66) at_532_65 (Or.inl ⟨rfl, rfl⟩) e9 rfl ?_
    obtain ⟨z10, hs5⟩ := am_ift hs4
    clear hs4
    refine aw_call (F := fm_391 N x0 v8 h1) (t := true) (na := 2) (kd := 1) (as := [x0, (.int v8)]) at_532_66 (am_k3v kb_391) mn_391 mk_391 rfl rfl (am_ok_v mi_391 (am_hl rfl (am_ccR i0 (am_ccI am_cats_0)) rfl) z10) (am_hc am_cats_0 rfl) (fun _ => ⟨rfl, hh_532⟩) (fun o1 hz9 => rm_391 x0 v8 h1 o1 i0 hz9) ?_
    rcases am_cV_s hs5 with ⟨h12, f13, hs6⟩ | hs6
    · clear hs5
      refine Or.inl ⟨_, _, f13, ?_⟩
      show am_W X _ 532 69 _ [] h12 _
      refine aw_iload_n (pc1 := 70) at_532_69 l2 rfl ?_
      refine aw_iconst (v := 3) (pc1 := 71) at_532_70 (by decide) rfl ?_
      by_cases c14 : ¬ x2 = 3
      · rw [if_pos c14] at hs6
        refine aw_icne_t at_532_71 c14 ?_
        exact rg_532_98 x0 x1 x2 h12 o l0 l1 l2 i0 hs6
      · rw [if_neg c14] at hs6
        refine aw_icne_f (pc1 := 74) at_532_71 c14 rfl ?_
        refine aw_vload_n (pc1 := 75) at_532_74 l0 i0 rfl ?_
        obtain ⟨v15, e16, hs7⟩ := am_bind hs6
        clear hs6
        refine aw_pG (pc1 := 78) at_532_75 (am_vR_s e16).1 rfl ?_
        refine aw_iload_n (pc1 := 79) at_532_78 l1 rfl ?_
        obtain ⟨v17, e18, hs8⟩ := am_bind hs7
        clear hs7
        refine aw_pA (pc1 := 80) at_532_79 (Or.inl ⟨rfl, rfl⟩) e18 rfl ?_
        refine aw_iconst (v := 4) (pc1 := 81) at_532_80 (by decide) rfl ?_
        by_cases c19 : ¬ v17 = 4
        · rw [if_pos c19] at hs8
          refine aw_icne_t at_532_81 c19 ?_
          exact rg_532_98 x0 x1 x2 h12 o l0 l1 l2 i0 hs8
        · rw [if_neg c19] at hs8
          refine aw_icne_f (pc1 := 84) at_532_81 c19 rfl ?_
          refine aw_vload_n (pc1 := 85) at_532_84 l0 i0 rfl ?_
          refine aw_iconst (v := 4) (pc1 := 86) at_532_85 (by decide) rfl ?_
          refine aw_vload_n (pc1 := 87) at_532_86 l0 i0 rfl ?_
          obtain ⟨v20, e21, hs9⟩ := am_bind hs8
          clear hs8
          refine aw_pG (pc1 := 90) at_532_87 (am_vR_s e21).1 rfl ?_
          refine aw_iload_n (pc1 := 91) at_532_90 l1 rfl ?_
          obtain ⟨v22, e23, hs10⟩ := am_bind hs9
          clear hs9
          refine aw_pAL (pc1 := 92) at_532_91 e23 rfl ?_
          obtain ⟨z24, hs11⟩ := am_ift hs10
          clear hs10
          refine aw_call (F := fm_472 N x0 4 v22 h12) (t := true) (na := 3) (kd := 1) (as := [x0, (.int 4), (.long v22)]) at_532_92 (am_k3v kb_472) mn_472 mk_472 rfl rfl (am_ok_v mi_472 (am_hl rfl (am_ccR i0 (am_ccI (am_ccL am_cats_0))) rfl) z24) (am_hc am_cats_0 rfl) (fun _ => ⟨rfl, hh_532⟩) (fun o1 hz9 => rm_472 x0 4 v22 h12 o1 i0 hz9) ?_
          rcases am_cV_s hs11 with ⟨h26, f27, hs12⟩ | hs12
          · clear hs11
            refine Or.inl ⟨_, _, f27, ?_⟩
            show am_W X _ 532 95 _ [] h26 _
            refine aw_goto at_532_95 ?_
            exact rg_532_160 x0 x1 h26 o l0 l1 i0 hs12
          · clear hs11
            exact Or.inr hs12
    · clear hs5
      exact Or.inr hs6
  · rw [if_neg c5] at hs2
    refine aw_ifle_f (pc1 := 57) at_532_54 c5 rfl ?_
    refine aw_iconst (v := 0) (pc1 := 58) at_532_57 (by decide) rfl ?_
    cases hs2
    exact aw_iret at_532_58 (by rw [rt_532]; decide) rfl
def fg_532_46 (N : Nat) (x0 : Value) (x1 : Int32) (x2 : Int32) (s0 : Value) (h : am_H) : Option am_O := (fg_532_47 N x0 x1 x2 s0 0 h)
theorem rg_532_46 {X : am_X} {d : Nat} {N : Nat} {lv : am_LV} (x0 : Value) (x1 : Int32) (x2 : Int32) (s0 : Value) (h : am_H) (o : am_O) (l0 : lv.lookup 0 = some x0) (l1 : lv.lookup 1 = some (.int x1)) (l2 : lv.lookup 2 = some (.int x2)) (i0 : am_isR x0 = true) (j0 : am_isR s0 = true) (hs : fg_532_46 N x0 x1 x2 s0 h = some o) : am_W X (d + 8) 532 46 lv [s0] h (fun q => q = o) := by
  unfold fg_532_46 at hs
  refine aw_iconst (v := 0) (pc1 := 47) at_532_46 (by decide) rfl ?_
  exact rg_532_47 x0 x1 x2 s0 0 h o l0 l1 l2 i0 j0 hs
def fg_532_18 (N : Nat) (x0 : Value) (x1 : Int32) (s0 : Int32) (h : am_H) : Option am_O := (if am_pOk 12 x0 h then am_cI true (fm_358 x0 x1 h) (fun v2 h3 => (if ¬ v2 = 0 then (if s0 = 3 then (fg_532_46 N x0 x1 s0 x0 h3) else (if s0 = 4 then (fg_532_46 N x0 x1 s0 x0 h3) else (fg_532_47 N x0 x1 s0 x0 2 h3))) else (fg_532_47 N x0 x1 s0 x0 1 h3))) else none)
theorem rg_532_18 {X : am_X} {d : Nat} {N : Nat} {lv : am_LV} (x0 : Value) (x1 : Int32) (s0 : Int32) (h : am_H) (o : am_O) (l0 : lv.lookup 0 = some x0) (l1 : lv.lookup 1 = some (.int x1)) (i0 : am_isR x0 = true) (hs : fg_532_18 N x0 x1 s0 h = some o) : am_W X (d + 8) 532 18 lv [(.int s0)] h (fun q => q = o) := by
  unfold fg_532_18 at hs
  refine aw_istore_n (lv1 := am_put1 _ 2 _) (pc1 := 19) at_532_18 rfl rfl ?_
  refine aw_vload_n (pc1 := 20) at_532_19 (am_lk1 l0 rfl rfl) i0 rfl ?_
  refine aw_vload_n (pc1 := 21) at_532_20 (am_lk1 l0 rfl rfl) i0 rfl ?_
  refine aw_iload_n (pc1 := 22) at_532_21 (am_lk1 l1 rfl rfl) rfl ?_
  obtain ⟨z1, hs1⟩ := am_ift hs
  clear hs
  refine aw_call (F := fm_358 x0 x1 h) (t := true) (na := 2) (kd := 1) (as := [x0, (.int x1)]) at_532_22 (am_k3v kb_358) mn_358 mk_358 rfl rfl (am_ok_v mi_358 (am_hl rfl (am_ccR i0 (am_ccI am_cats_0)) rfl) z1) (am_hc (am_ccR i0 am_cats_0) rfl) (fun _ => ⟨rfl, hh_532⟩) (fun o1 hz9 => rm_358 x0 x1 h o1 i0 hz9) ?_
  rcases am_cI_s hs1 with ⟨v2, h3, f4, hs2⟩ | hs2
  · clear hs1
    refine Or.inl ⟨_, _, f4, ?_⟩
    show am_W X _ 532 25 _ [(.int v2), x0] h3 _
    by_cases c5 : ¬ v2 = 0
    · rw [if_pos c5] at hs2
      refine aw_ifne_t at_532_25 c5 ?_
      refine aw_iload_n (pc1 := 33) at_532_32 am_lk0 rfl ?_
      refine aw_iconst (v := 3) (pc1 := 34) at_532_33 (by decide) rfl ?_
      by_cases c6 : s0 = 3
      · rw [if_pos c6] at hs2
        refine aw_iceq_t at_532_34 c6 ?_
        exact rg_532_46 x0 x1 s0 x0 h3 o (am_lk1 l0 rfl rfl) (am_lk1 l1 rfl rfl) am_lk0 i0 i0 hs2
      · rw [if_neg c6] at hs2
        refine aw_iceq_f (pc1 := 37) at_532_34 c6 rfl ?_
        refine aw_iload_n (pc1 := 38) at_532_37 am_lk0 rfl ?_
        refine aw_iconst (v := 4) (pc1 := 39) at_532_38 (by decide) rfl ?_
        by_cases c7 : s0 = 4
        · rw [if_pos c7] at hs2
          refine aw_iceq_t at_532_39 c7 ?_
          exact rg_532_46 x0 x1 s0 x0 h3 o (am_lk1 l0 rfl rfl) (am_lk1 l1 rfl rfl) am_lk0 i0 i0 hs2
        · rw [if_neg c7] at hs2
          refine aw_iceq_f (pc1 := 42) at_532_39 c7 rfl ?_
          refine aw_iconst (v := 2) (pc1 := 43) at_532_42 (by decide) rfl ?_
          refine aw_goto at_532_43 ?_
          exact rg_532_47 x0 x1 s0 x0 2 h3 o (am_lk1 l0 rfl rfl) (am_lk1 l1 rfl rfl) am_lk0 i0 i0 hs2
    · rw [if_neg c5] at hs2
      refine aw_ifne_f (pc1 := 28) at_532_25 c5 rfl ?_
      refine aw_iconst (v := 1) (pc1 := 29) at_532_28 (by decide) rfl ?_
      refine aw_goto at_532_29 ?_
      exact rg_532_47 x0 x1 s0 x0 1 h3 o (am_lk1 l0 rfl rfl) (am_lk1 l1 rfl rfl) am_lk0 i0 i0 hs2
  · clear hs1
    exact Or.inr hs2
def fg_532_0 (N : Nat) (x0 : Value) (x1 : Int32) (h : am_H) : Option am_O := (if am_pOk 12 x0 h then am_cI true (fm_358 x0 x1 h) (fun v2 h3 => (if v2 = 0 then (fg_532_18 N x0 x1 0 h3) else ((am_vR (am_pG 3077 x0 h3)).bind fun v6 => ((am_pA 0 v6 x1 h3).bind fun v8 => (fg_532_18 N x0 x1 v8 h3))))) else none)
theorem rg_532_0 {X : am_X} {d : Nat} {N : Nat} {lv : am_LV} (x0 : Value) (x1 : Int32) (h : am_H) (o : am_O) (l0 : lv.lookup 0 = some x0) (l1 : lv.lookup 1 = some (.int x1)) (i0 : am_isR x0 = true) (hs : fg_532_0 N x0 x1 h = some o) : am_W X (d + 8) 532 0 lv [] h (fun q => q = o) := by
  unfold fg_532_0 at hs
  refine aw_vload_n (pc1 := 1) at_532_0 l0 i0 rfl ?_
  refine aw_iload_n (pc1 := 2) at_532_1 l1 rfl ?_
  obtain ⟨z1, hs1⟩ := am_ift hs
  clear hs
  refine aw_call (F := fm_358 x0 x1 h) (t := true) (na := 2) (kd := 1) (as := [x0, (.int x1)]) at_532_2 (am_k3v kb_358) mn_358 mk_358 rfl rfl (am_ok_v mi_358 (am_hl rfl (am_ccR i0 (am_ccI am_cats_0)) rfl) z1) (am_hc am_cats_0 rfl) (fun _ => ⟨rfl, hh_532⟩) (fun o1 hz9 => rm_358 x0 x1 h o1 i0 hz9) ?_
  rcases am_cI_s hs1 with ⟨v2, h3, f4, hs2⟩ | hs2
  · clear hs1
    refine Or.inl ⟨_, _, f4, ?_⟩
    show am_W X _ 532 5 _ [(.int v2)] h3 _
    by_cases c5 : v2 = 0
    · rw [if_pos c5] at hs2
      refine aw_ifeq_t at_532_5 c5 ?_
      refine aw_iconst (v := 0) (pc1 := 18) at_532_17 (by decide) rfl ?_
      exact rg_532_18 x0 x1 0 h3 o l0 l1 i0 hs2
    · rw [if_neg c5] at hs2
      refine aw_ifeq_f (pc1 := 8) at_532_5 c5 rfl ?_
      refine aw_vload_n (pc1 := 9) at_532_8 l0 i0 rfl ?_
      obtain ⟨v6, e7, hs3⟩ := am_bind hs2
      clear hs2
      refine aw_pG (pc1 := 12) at_532_9 (am_vR_s e7).1 rfl ?_
      refine aw_iload_n (pc1 := 13) at_532_12 l1 rfl ?_
      obtain ⟨v8, e9, hs4⟩ := am_bind hs3
      clear hs3
      refine aw_pA (pc1 := 14) at_532_13 (Or.inl ⟨rfl, rfl⟩) e9 rfl ?_
      refine aw_goto at_532_14 ?_
      exact rg_532_18 x0 x1 v8 h3 o l0 l1 i0 hs4
  · clear hs1
    exact Or.inr hs2
def fm_532 (N : Nat) (y0 : Value) (y1 : Int32) (h : am_H) : Option am_O := fg_532_0 N y0 y1 h
theorem rm_532 {X : am_X} {d : Nat} {N : Nat} (y0 : Value) (y1 : Int32) (h : am_H) (o : am_O) (i0 : am_isR y0 = true) (hs : fm_532 N y0 y1 h = some o) : am_W X (d + 8) 532 0 (am_args 0 [y0, .int y1]) [] h (fun q => q = o) := by
  rw [am_args_R i0, am_args_I]
  exact rg_532_0 y0 y1 h o rfl rfl i0 hs
def fg_265_212 (s0 : Int64) (h : am_H) : Option am_O := some (.inl (some (.long s0), h))
theorem rg_265_212 {X : am_X} {d : Nat} {lv : am_LV} (s0 : Int64) (h : am_H) (o : am_O) (hs : fg_265_212 s0 h = some o) : am_W X (d + 1) 265 212 lv [(.long s0)] h (fun q => q = o) := by
  unfold fg_265_212 at hs
  cases hs
  exact aw_lret at_265_212 rt_265 rfl
def fg_265_179 (s0 : Int64) (h : am_H) : Option am_O := some (.inl (some (.long s0), h))
theorem rg_265_179 {X : am_X} {d : Nat} {lv : am_LV} (s0 : Int64) (h : am_H) (o : am_O) (hs : fg_265_179 s0 h = some o) : am_W X (d + 1) 265 179 lv [(.long s0)] h (fun q => q = o) := by
  unfold fg_265_179 at hs
  cases hs
  exact aw_lret at_265_179 rt_265 rfl
def fg_265_157 (h : am_H) : Option am_O := (fg_265_179 1099511627776 h)
theorem rg_265_157 {X : am_X} {d : Nat} {lv : am_LV} (h : am_H) (o : am_O) (hs : fg_265_157 h = some o) : am_W X (d + 1) 265 157 lv [] h (fun q => q = o) := by
  unfold fg_265_157 at hs
  refine aw_ldc2 (v := 1099511627776) (pc1 := 160) at_265_157 rfl rfl ?_
  refine aw_goto at_265_160 ?_
  exact rg_265_179 1099511627776 h o   hs
def fg_265_135 (x0 : Value) (x1 : Int32) (x5 : Int32) (x6 : Int32) (x7 : Int64) (x9 : Int64) (h : am_H) : Option am_O := (if ¬ x1 = 8 then (if ¬ x1 = 7 then ((am_vR (am_pG 1031 x0 h)).bind fun v3 => ((am_vR (am_pG 514 v3 h)).bind fun v5 => (if am_pOk 6 v5 h then am_cI true (fm_122 v5 x1 ((Int64.toInt32 x7)) ((Int64.toInt32 x9)) h) (fun v8 h9 => (fg_265_212 ((Int32.toInt64 v8)) h9)) else none))) else (fg_265_212 ((Int32.toInt64 (-(Int64.toInt32 x7)))) h)) else (if (lg_cmp x7 0) < 0 then (fg_265_157 h) else (if (lg_cmp x7 (Int32.toInt64 x6)) < 0 then ((am_vR (am_pG 1031 x0 h)).bind fun v13 => (if am_pOk 2 v13 h then am_cI true (fm_112 v13 x5 ((7 + (Int64.toInt32 x7))) h) (fun v16 h17 => (fg_265_179 ((Int32.toInt64 v16)) h17)) else none)) else (fg_265_157 h))))
theorem rg_265_135 {X : am_X} {d : Nat} {lv : am_LV} (x0 : Value) (x1 : Int32) (x5 : Int32) (x6 : Int32) (x7 : Int64) (x9 : Int64) (h : am_H) (o : am_O) (l0 : lv.lookup 0 = some x0) (l1 : lv.lookup 1 = some (.int x1)) (l5 : lv.lookup 5 = some (.int x5)) (l6 : lv.lookup 6 = some (.int x6)) (l7 : lv.lookup 7 = some (.long x7)) (l9 : lv.lookup 9 = some (.long x9)) (i0 : am_isR x0 = true) (hs : fg_265_135 x0 x1 x5 x6 x7 x9 h = some o) : am_W X (d + 1) 265 135 lv [] h (fun q => q = o) := by
  unfold fg_265_135 at hs
  refine aw_iload_n (pc1 := 136) at_265_135 l1 rfl ?_
  refine aw_bipush (v := 8) (pc1 := 138) at_265_136 (by decide) rfl ?_
  by_cases c1 : ¬ x1 = 8
  · rw [if_pos c1] at hs
    refine aw_icne_t at_265_138 c1 ?_
    refine aw_iload_n (pc1 := 181) at_265_180 l1 rfl ?_
    refine aw_bipush (v := 7) (pc1 := 183) at_265_181 (by decide) rfl ?_
    by_cases c2 : ¬ x1 = 7
    · rw [if_pos c2] at hs
      refine aw_icne_t at_265_183 c2 ?_
      refine aw_vload_n (pc1 := 195) at_265_194 l0 i0 rfl ?_
      obtain ⟨v3, e4, hs1⟩ := am_bind hs
      clear hs
      refine aw_pG (pc1 := 198) at_265_195 (am_vR_s e4).1 rfl ?_
      obtain ⟨v5, e6, hs2⟩ := am_bind hs1
      clear hs1
      refine aw_pG (pc1 := 201) at_265_198 (am_vR_s e6).1 rfl ?_
      refine aw_iload_n (pc1 := 202) at_265_201 l1 rfl ?_
      refine aw_lload (pc1 := 204) at_265_202 l7 rfl ?_
      refine aw_l2i (v := (Int64.toInt32 x7)) (pc1 := 205) at_265_204 rfl rfl ?_
      refine aw_lload (pc1 := 207) at_265_205 l9 rfl ?_
      refine aw_l2i (v := (Int64.toInt32 x9)) (pc1 := 208) at_265_207 rfl rfl ?_
      obtain ⟨z7, hs3⟩ := am_ift hs2
      clear hs2
      refine aw_call (F := fm_122 v5 x1 ((Int64.toInt32 x7)) ((Int64.toInt32 x9)) h) (t := true) (na := 4) (kd := 1) (as := [v5, (.int x1), (.int (Int64.toInt32 x7)), (.int (Int64.toInt32 x9))]) at_265_208 (am_k3v kb_122) mn_122 mk_122 rfl rfl (am_ok_v mi_122 (am_hl rfl (am_ccR (am_vR_s e6).2 (am_ccI (am_ccI (am_ccI am_cats_0)))) rfl) z7) (am_hc am_cats_0 rfl) (fun _ => ⟨rfl, hh_265⟩) (fun o1 hz9 => rm_122 v5 x1 ((Int64.toInt32 x7)) ((Int64.toInt32 x9)) h o1 (am_vR_s e6).2 hz9) ?_
      rcases am_cI_s hs3 with ⟨v8, h9, f10, hs4⟩ | hs4
      · clear hs3
        refine Or.inl ⟨_, _, f10, ?_⟩
        show am_W X _ 265 211 _ [(.int v8)] h9 _
        refine aw_i2l (v := (Int32.toInt64 v8)) (pc1 := 212) at_265_211 rfl rfl ?_
        exact rg_265_212 ((Int32.toInt64 v8)) h9 o   hs4
      · clear hs3
        exact Or.inr hs4
    · rw [if_neg c2] at hs
      refine aw_icne_f (pc1 := 186) at_265_183 c2 rfl ?_
      refine aw_lload (pc1 := 188) at_265_186 l7 rfl ?_
      refine aw_l2i (v := (Int64.toInt32 x7)) (pc1 := 189) at_265_188 rfl rfl ?_
      refine aw_ineg (v := (-(Int64.toInt32 x7))) (pc1 := 190) at_265_189 rfl rfl ?_
      refine aw_i2l (v := (Int32.toInt64 (-(Int64.toInt32 x7)))) (pc1 := 191) at_265_190 rfl rfl ?_
      refine aw_goto at_265_191 ?_
      exact rg_265_212 ((Int32.toInt64 (-(Int64.toInt32 x7)))) h o   hs
  · rw [if_neg c1] at hs
    refine aw_icne_f (pc1 := 141) at_265_138 c1 rfl ?_
    refine aw_lload (pc1 := 143) at_265_141 l7 rfl ?_
    refine aw_lconst (v := 0) (pc1 := 144) at_265_143 (by decide) rfl ?_
    refine aw_lcmp (v := (lg_cmp x7 0)) (pc1 := 145) at_265_144 rfl rfl ?_
    by_cases c11 : (lg_cmp x7 0) < 0
    · rw [if_pos c11] at hs
      refine aw_iflt_t at_265_145 c11 ?_
      exact rg_265_157 h o   hs
    · rw [if_neg c11] at hs
      refine aw_iflt_f (pc1 := 148) at_265_145 c11 rfl ?_
      refine aw_lload (pc1 := 150) at_265_148 l7 rfl ?_
      refine aw_iload (pc1 := 152) at_265_150 l6 rfl ?_
      refine aw_i2l (v := (Int32.toInt64 x6)) (pc1 := 153) at_265_152 rfl rfl ?_
      refine aw_lcmp (v := (lg_cmp x7 (Int32.toInt64 x6))) (pc1 := 154) at_265_153 rfl rfl ?_
      by_cases c12 : (lg_cmp x7 (Int32.toInt64 x6)) < 0
      · rw [if_pos c12] at hs
        refine aw_iflt_t at_265_154 c12 ?_
        refine aw_vload_n (pc1 := 164) at_265_163 l0 i0 rfl ?_
        obtain ⟨v13, e14, hs5⟩ := am_bind hs
        clear hs
        refine aw_pG (pc1 := 167) at_265_164 (am_vR_s e14).1 rfl ?_
        refine aw_iload (pc1 := 169) at_265_167 l5 rfl ?_
        refine aw_bipush (v := 7) (pc1 := 171) at_265_169 (by decide) rfl ?_
        refine aw_lload (pc1 := 173) at_265_171 l7 rfl ?_
        refine aw_l2i (v := (Int64.toInt32 x7)) (pc1 := 174) at_265_173 rfl rfl ?_
        refine aw_iadd (v := (7 + (Int64.toInt32 x7))) (pc1 := 175) at_265_174 rfl rfl ?_
        obtain ⟨z15, hs6⟩ := am_ift hs5
        clear hs5
        refine aw_call (F := fm_112 v13 x5 ((7 + (Int64.toInt32 x7))) h) (t := true) (na := 3) (kd := 1) (as := [v13, (.int x5), (.int (7 + (Int64.toInt32 x7)))]) at_265_175 (am_k3v kb_112) mn_112 mk_112 rfl rfl (am_ok_v mi_112 (am_hl rfl (am_ccR (am_vR_s e14).2 (am_ccI (am_ccI am_cats_0))) rfl) z15) (am_hc am_cats_0 rfl) (fun _ => ⟨rfl, hh_265⟩) (fun o1 hz9 => rm_112 v13 x5 ((7 + (Int64.toInt32 x7))) h o1 (am_vR_s e14).2 hz9) ?_
        rcases am_cI_s hs6 with ⟨v16, h17, f18, hs7⟩ | hs7
        · clear hs6
          refine Or.inl ⟨_, _, f18, ?_⟩
          show am_W X _ 265 178 _ [(.int v16)] h17 _
          refine aw_i2l (v := (Int32.toInt64 v16)) (pc1 := 179) at_265_178 rfl rfl ?_
          exact rg_265_179 ((Int32.toInt64 v16)) h17 o   hs7
        · clear hs6
          exact Or.inr hs7
      · rw [if_neg c12] at hs
        refine aw_iflt_f (pc1 := 157) at_265_154 c12 rfl ?_
        exact rg_265_157 h o   hs
def fg_265_131 (h : am_H) : Option am_O := some (.inl (some (.long 1099511627776), h))
theorem rg_265_131 {X : am_X} {d : Nat} {lv : am_LV} (h : am_H) (o : am_O) (hs : fg_265_131 h = some o) : am_W X (d + 1) 265 131 lv [] h (fun q => q = o) := by
  unfold fg_265_131 at hs
  refine aw_ldc2 (v := 1099511627776) (pc1 := 134) at_265_131 rfl rfl ?_
  cases hs
  exact aw_lret at_265_134 rt_265 rfl
def fg_265_124 (x0 : Value) (x1 : Int32) (x5 : Int32) (x6 : Int32) (x7 : Int64) (x9 : Int64) (h : am_H) : Option am_O := (if ¬ (lg_cmp x9 0) = 0 then (fg_265_135 x0 x1 x5 x6 x7 x9 h) else (fg_265_131 h))
theorem rg_265_124 {X : am_X} {d : Nat} {lv : am_LV} (x0 : Value) (x1 : Int32) (x5 : Int32) (x6 : Int32) (x7 : Int64) (x9 : Int64) (h : am_H) (o : am_O) (l0 : lv.lookup 0 = some x0) (l1 : lv.lookup 1 = some (.int x1)) (l5 : lv.lookup 5 = some (.int x5)) (l6 : lv.lookup 6 = some (.int x6)) (l7 : lv.lookup 7 = some (.long x7)) (l9 : lv.lookup 9 = some (.long x9)) (i0 : am_isR x0 = true) (hs : fg_265_124 x0 x1 x5 x6 x7 x9 h = some o) : am_W X (d + 1) 265 124 lv [] h (fun q => q = o) := by
  unfold fg_265_124 at hs
  refine aw_lload (pc1 := 126) at_265_124 l9 rfl ?_
  refine aw_lconst (v := 0) (pc1 := 127) at_265_126 (by decide) rfl ?_
  refine aw_lcmp (v := (lg_cmp x9 0)) (pc1 := 128) at_265_127 rfl rfl ?_
  by_cases c1 : ¬ (lg_cmp x9 0) = 0
  · rw [if_pos c1] at hs
    refine aw_ifne_t at_265_128 c1 ?_
    exact rg_265_135 x0 x1 x5 x6 x7 x9 h o l0 l1 l5 l6 l7 l9 i0 hs
  · rw [if_neg c1] at hs
    refine aw_ifne_f (pc1 := 131) at_265_128 c1 rfl ?_
    exact rg_265_131 h o   hs
def fg_265_92 (x0 : Value) (x1 : Int32) (x5 : Int32) (x6 : Int32) (x7 : Int64) (s0 : Int64) (h : am_H) : Option am_O := (if (lg_cmp x7 1099511627776) = 0 then (fg_265_131 h) else (if (lg_cmp s0 1099511627776) = 0 then (fg_265_131 h) else (if x1 = 13 then (fg_265_124 x0 x1 x5 x6 x7 s0 h) else (if ¬ x1 = 14 then (fg_265_135 x0 x1 x5 x6 x7 s0 h) else (fg_265_124 x0 x1 x5 x6 x7 s0 h)))))
theorem rg_265_92 {X : am_X} {d : Nat} {lv : am_LV} (x0 : Value) (x1 : Int32) (x5 : Int32) (x6 : Int32) (x7 : Int64) (s0 : Int64) (h : am_H) (o : am_O) (l0 : lv.lookup 0 = some x0) (l1 : lv.lookup 1 = some (.int x1)) (l5 : lv.lookup 5 = some (.int x5)) (l6 : lv.lookup 6 = some (.int x6)) (l7 : lv.lookup 7 = some (.long x7)) (i0 : am_isR x0 = true) (hs : fg_265_92 x0 x1 x5 x6 x7 s0 h = some o) : am_W X (d + 1) 265 92 lv [(.long s0)] h (fun q => q = o) := by
  unfold fg_265_92 at hs
  refine aw_lstore (lv1 := am_put2 _ 9 _) (pc1 := 94) at_265_92 rfl rfl ?_
  refine aw_lload (pc1 := 96) at_265_94 (am_lk2 l7 rfl rfl) rfl ?_
  refine aw_ldc2 (v := 1099511627776) (pc1 := 99) at_265_96 rfl rfl ?_
  refine aw_lcmp (v := (lg_cmp x7 1099511627776)) (pc1 := 100) at_265_99 rfl rfl ?_
  by_cases c1 : (lg_cmp x7 1099511627776) = 0
  · rw [if_pos c1] at hs
    refine aw_ifeq_t at_265_100 c1 ?_
    exact rg_265_131 h o   hs
  · rw [if_neg c1] at hs
    refine aw_ifeq_f (pc1 := 103) at_265_100 c1 rfl ?_
    refine aw_lload (pc1 := 105) at_265_103 am_lk02 rfl ?_
    refine aw_ldc2 (v := 1099511627776) (pc1 := 108) at_265_105 rfl rfl ?_
    refine aw_lcmp (v := (lg_cmp s0 1099511627776)) (pc1 := 109) at_265_108 rfl rfl ?_
    by_cases c2 : (lg_cmp s0 1099511627776) = 0
    · rw [if_pos c2] at hs
      refine aw_ifeq_t at_265_109 c2 ?_
      exact rg_265_131 h o   hs
    · rw [if_neg c2] at hs
      refine aw_ifeq_f (pc1 := 112) at_265_109 c2 rfl ?_
      refine aw_iload_n (pc1 := 113) at_265_112 (am_lk2 l1 rfl rfl) rfl ?_
      refine aw_bipush (v := 13) (pc1 := 115) at_265_113 (by decide) rfl ?_
      by_cases c3 : x1 = 13
      · rw [if_pos c3] at hs
        refine aw_iceq_t at_265_115 c3 ?_
        exact rg_265_124 x0 x1 x5 x6 x7 s0 h o (am_lk2 l0 rfl rfl) (am_lk2 l1 rfl rfl) (am_lk2 l5 rfl rfl) (am_lk2 l6 rfl rfl) (am_lk2 l7 rfl rfl) am_lk02 i0 hs
      · rw [if_neg c3] at hs
        refine aw_iceq_f (pc1 := 118) at_265_115 c3 rfl ?_
        refine aw_iload_n (pc1 := 119) at_265_118 (am_lk2 l1 rfl rfl) rfl ?_
        refine aw_bipush (v := 14) (pc1 := 121) at_265_119 (by decide) rfl ?_
        by_cases c4 : ¬ x1 = 14
        · rw [if_pos c4] at hs
          refine aw_icne_t at_265_121 c4 ?_
          exact rg_265_135 x0 x1 x5 x6 x7 s0 h o (am_lk2 l0 rfl rfl) (am_lk2 l1 rfl rfl) (am_lk2 l5 rfl rfl) (am_lk2 l6 rfl rfl) (am_lk2 l7 rfl rfl) am_lk02 i0 hs
        · rw [if_neg c4] at hs
          refine aw_icne_f (pc1 := 124) at_265_121 c4 rfl ?_
          exact rg_265_124 x0 x1 x5 x6 x7 s0 h o (am_lk2 l0 rfl rfl) (am_lk2 l1 rfl rfl) (am_lk2 l5 rfl rfl) (am_lk2 l6 rfl rfl) (am_lk2 l7 rfl rfl) am_lk02 i0 hs
def fg_265_61 (s0 : Int64) (h : am_H) : Option am_O := some (.inl (some (.long s0), h))
theorem rg_265_61 {X : am_X} {d : Nat} {lv : am_LV} (s0 : Int64) (h : am_H) (o : am_O) (hs : fg_265_61 s0 h = some o) : am_W X (d + 1) 265 61 lv [(.long s0)] h (fun q => q = o) := by
  unfold fg_265_61 at hs
  cases hs
  exact aw_lret at_265_61 rt_265 rfl
def fg_265_0 (x0 : Value) (x1 : Int32) (x2 : Int32) (x3 : Int32) (x4 : Int32) (h : am_H) : Option am_O := ((am_vR (am_pG 1029 x0 h)).bind fun v1 => ((am_pA 0 v1 x4 h).bind fun v3 => ((am_vR (am_pG 1031 x0 h)).bind fun v5 => (if am_pOk 2 v5 h then am_cI true (fm_112 v5 v3 6 h) (fun v8 h9 => (if 7 ≤ x1 then ((am_vR (am_pG 1028 x0 h9)).bind fun v12 => ((am_pAA v12 x4 h9).bind fun v14 => ((am_pAL v14 x2 h9).bind fun v16 => (if 10 ≤ x1 then ((am_vR (am_pG 1028 x0 h9)).bind fun v19 => ((am_pAA v19 x4 h9).bind fun v21 => ((am_pAL v21 x3 h9).bind fun v23 => (fg_265_92 x0 x1 v3 v8 v16 v23 h9)))) else (fg_265_92 x0 x1 v3 v8 v16 0 h9))))) else (if ¬ x1 = 0 then (if ¬ x1 = 4 then ((am_vR (am_pG 1031 x0 h9)).bind fun v27 => (if am_pOk 2 v27 h9 then am_cI true (fm_112 v27 v3 ((x1 - 1)) h9) (fun v30 h31 => (fg_265_61 ((Int32.toInt64 v30)) h31)) else none)) else (fg_265_61 ((Int32.toInt64 v8)) h9)) else (fg_265_61 ((Int32.toInt64 x2)) h9)))) else none))))
theorem rg_265_0 {X : am_X} {d : Nat} {lv : am_LV} (x0 : Value) (x1 : Int32) (x2 : Int32) (x3 : Int32) (x4 : Int32) (h : am_H) (o : am_O) (l0 : lv.lookup 0 = some x0) (l1 : lv.lookup 1 = some (.int x1)) (l2 : lv.lookup 2 = some (.int x2)) (l3 : lv.lookup 3 = some (.int x3)) (l4 : lv.lookup 4 = some (.int x4)) (i0 : am_isR x0 = true) (hs : fg_265_0 x0 x1 x2 x3 x4 h = some o) : am_W X (d + 1) 265 0 lv [] h (fun q => q = o) := by
  unfold fg_265_0 at hs
  refine aw_vload_n (pc1 := 1) at_265_0 l0 i0 rfl ?_
  obtain ⟨v1, e2, hs1⟩ := am_bind hs
  clear hs
  refine aw_pG (pc1 := 4) at_265_1 (am_vR_s e2).1 rfl ?_
  refine aw_iload (pc1 := 6) at_265_4 l4 rfl ?_
  obtain ⟨v3, e4, hs2⟩ := am_bind hs1
  clear hs1
  refine aw_pA (pc1 := 7) at_265_6 (Or.inl ⟨rfl, rfl⟩) e4 rfl ?_
  refine aw_istore (lv1 := am_put1 _ 5 _) (pc1 := 9) at_265_7 rfl rfl ?_
  refine aw_vload_n (pc1 := 10) at_265_9 (am_lk1 l0 rfl rfl) i0 rfl ?_
  obtain ⟨v5, e6, hs3⟩ := am_bind hs2
  clear hs2
  refine aw_pG (pc1 := 13) at_265_10 (am_vR_s e6).1 rfl ?_
  refine aw_iload (pc1 := 15) at_265_13 am_lk0 rfl ?_
  refine aw_bipush (v := 6) (pc1 := 17) at_265_15 (by decide) rfl ?_
  obtain ⟨z7, hs4⟩ := am_ift hs3
  clear hs3
  refine aw_call (F := fm_112 v5 v3 6 h) (t := true) (na := 3) (kd := 1) (as := [v5, (.int v3), (.int 6)]) at_265_17 (am_k3v kb_112) mn_112 mk_112 rfl rfl (am_ok_v mi_112 (am_hl rfl (am_ccR (am_vR_s e6).2 (am_ccI (am_ccI am_cats_0))) rfl) z7) (am_hc am_cats_0 rfl) (fun _ => ⟨rfl, hh_265⟩) (fun o1 hz9 => rm_112 v5 v3 6 h o1 (am_vR_s e6).2 hz9) ?_
  rcases am_cI_s hs4 with ⟨v8, h9, f10, hs5⟩ | hs5
  · clear hs4
    refine Or.inl ⟨_, _, f10, ?_⟩
    show am_W X _ 265 20 _ [(.int v8)] h9 _
    refine aw_istore (lv1 := am_put1 _ 6 _) (pc1 := 22) at_265_20 rfl rfl ?_
    refine aw_iload_n (pc1 := 23) at_265_22 (am_lk1 (am_lk1 l1 rfl rfl) rfl rfl) rfl ?_
    refine aw_bipush (v := 7) (pc1 := 25) at_265_23 (by decide) rfl ?_
    by_cases c11 : 7 ≤ x1
    · rw [if_pos c11] at hs5
      refine aw_icge_t at_265_25 c11 ?_
      refine aw_vload_n (pc1 := 63) at_265_62 (am_lk1 (am_lk1 l0 rfl rfl) rfl rfl) i0 rfl ?_
      obtain ⟨v12, e13, hs6⟩ := am_bind hs5
      clear hs5
      refine aw_pG (pc1 := 66) at_265_63 (am_vR_s e13).1 rfl ?_
      refine aw_iload (pc1 := 68) at_265_66 (am_lk1 (am_lk1 l4 rfl rfl) rfl rfl) rfl ?_
      obtain ⟨v14, e15, hs7⟩ := am_bind hs6
      clear hs6
      refine aw_pAA (pc1 := 69) at_265_68 e15 rfl ?_
      refine aw_iload_n (pc1 := 70) at_265_69 (am_lk1 (am_lk1 l2 rfl rfl) rfl rfl) rfl ?_
      obtain ⟨v16, e17, hs8⟩ := am_bind hs7
      clear hs7
      refine aw_pAL (pc1 := 71) at_265_70 e17 rfl ?_
      refine aw_lstore (lv1 := am_put2 _ 7 _) (pc1 := 73) at_265_71 rfl rfl ?_
      refine aw_iload_n (pc1 := 74) at_265_73 (am_lk2 (am_lk1 (am_lk1 l1 rfl rfl) rfl rfl) rfl rfl) rfl ?_
      refine aw_bipush (v := 10) (pc1 := 76) at_265_74 (by decide) rfl ?_
      by_cases c18 : 10 ≤ x1
      · rw [if_pos c18] at hs8
        refine aw_icge_t at_265_76 c18 ?_
        refine aw_vload_n (pc1 := 84) at_265_83 (am_lk2 (am_lk1 (am_lk1 l0 rfl rfl) rfl rfl) rfl rfl) i0 rfl ?_
        obtain ⟨v19, e20, hs9⟩ := am_bind hs8
        clear hs8
        refine aw_pG (pc1 := 87) at_265_84 (am_vR_s e20).1 rfl ?_
        refine aw_iload (pc1 := 89) at_265_87 (am_lk2 (am_lk1 (am_lk1 l4 rfl rfl) rfl rfl) rfl rfl) rfl ?_
        obtain ⟨v21, e22, hs10⟩ := am_bind hs9
        clear hs9
        refine aw_pAA (pc1 := 90) at_265_89 e22 rfl ?_
        refine aw_iload_n (pc1 := 91) at_265_90 (am_lk2 (am_lk1 (am_lk1 l3 rfl rfl) rfl rfl) rfl rfl) rfl ?_
        obtain ⟨v23, e24, hs11⟩ := am_bind hs10
        clear hs10
        refine aw_pAL (pc1 := 92) at_265_91 e24 rfl ?_
        exact rg_265_92 x0 x1 v3 v8 v16 v23 h9 o (am_lk2 (am_lk1 (am_lk1 l0 rfl rfl) rfl rfl) rfl rfl) (am_lk2 (am_lk1 (am_lk1 l1 rfl rfl) rfl rfl) rfl rfl) (am_lk2 (am_lk1 am_lk0 rfl rfl) rfl rfl) (am_lk2 am_lk0 rfl rfl) am_lk02 i0 hs11
      · rw [if_neg c18] at hs8
        refine aw_icge_f (pc1 := 79) at_265_76 c18 rfl ?_
        refine aw_lconst (v := 0) (pc1 := 80) at_265_79 (by decide) rfl ?_
        refine aw_goto at_265_80 ?_
        exact rg_265_92 x0 x1 v3 v8 v16 0 h9 o (am_lk2 (am_lk1 (am_lk1 l0 rfl rfl) rfl rfl) rfl rfl) (am_lk2 (am_lk1 (am_lk1 l1 rfl rfl) rfl rfl) rfl rfl) (am_lk2 (am_lk1 am_lk0 rfl rfl) rfl rfl) (am_lk2 am_lk0 rfl rfl) am_lk02 i0 hs8
    · rw [if_neg c11] at hs5
      refine aw_icge_f (pc1 := 28) at_265_25 c11 rfl ?_
      refine aw_iload_n (pc1 := 29) at_265_28 (am_lk1 (am_lk1 l1 rfl rfl) rfl rfl) rfl ?_
      by_cases c25 : ¬ x1 = 0
      · rw [if_pos c25] at hs5
        refine aw_ifne_t at_265_29 c25 ?_
        refine aw_iload_n (pc1 := 38) at_265_37 (am_lk1 (am_lk1 l1 rfl rfl) rfl rfl) rfl ?_
        refine aw_iconst (v := 4) (pc1 := 39) at_265_38 (by decide) rfl ?_
        by_cases c26 : ¬ x1 = 4
        · rw [if_pos c26] at hs5
          refine aw_icne_t at_265_39 c26 ?_
          refine aw_vload_n (pc1 := 49) at_265_48 (am_lk1 (am_lk1 l0 rfl rfl) rfl rfl) i0 rfl ?_
          obtain ⟨v27, e28, hs12⟩ := am_bind hs5
          clear hs5
          refine aw_pG (pc1 := 52) at_265_49 (am_vR_s e28).1 rfl ?_
          refine aw_iload (pc1 := 54) at_265_52 (am_lk1 am_lk0 rfl rfl) rfl ?_
          refine aw_iload_n (pc1 := 55) at_265_54 (am_lk1 (am_lk1 l1 rfl rfl) rfl rfl) rfl ?_
          refine aw_iconst (v := 1) (pc1 := 56) at_265_55 (by decide) rfl ?_
          refine aw_isub (v := (x1 - 1)) (pc1 := 57) at_265_56 rfl rfl ?_
          obtain ⟨z29, hs13⟩ := am_ift hs12
          clear hs12
          refine aw_call (F := fm_112 v27 v3 ((x1 - 1)) h9) (t := true) (na := 3) (kd := 1) (as := [v27, (.int v3), (.int (x1 - 1))]) at_265_57 (am_k3v kb_112) mn_112 mk_112 rfl rfl (am_ok_v mi_112 (am_hl rfl (am_ccR (am_vR_s e28).2 (am_ccI (am_ccI am_cats_0))) rfl) z29) (am_hc am_cats_0 rfl) (fun _ => ⟨rfl, hh_265⟩) (fun o1 hz9 => rm_112 v27 v3 ((x1 - 1)) h9 o1 (am_vR_s e28).2 hz9) ?_
          rcases am_cI_s hs13 with ⟨v30, h31, f32, hs14⟩ | hs14
          · clear hs13
            refine Or.inl ⟨_, _, f32, ?_⟩
            show am_W X _ 265 60 _ [(.int v30)] h31 _
            refine aw_i2l (v := (Int32.toInt64 v30)) (pc1 := 61) at_265_60 rfl rfl ?_
            exact rg_265_61 ((Int32.toInt64 v30)) h31 o   hs14
          · clear hs13
            exact Or.inr hs14
        · rw [if_neg c26] at hs5
          refine aw_icne_f (pc1 := 42) at_265_39 c26 rfl ?_
          refine aw_iload (pc1 := 44) at_265_42 am_lk0 rfl ?_
          refine aw_i2l (v := (Int32.toInt64 v8)) (pc1 := 45) at_265_44 rfl rfl ?_
          refine aw_goto at_265_45 ?_
          exact rg_265_61 ((Int32.toInt64 v8)) h9 o   hs5
      · rw [if_neg c25] at hs5
        refine aw_ifne_f (pc1 := 32) at_265_29 c25 rfl ?_
        refine aw_iload_n (pc1 := 33) at_265_32 (am_lk1 (am_lk1 l2 rfl rfl) rfl rfl) rfl ?_
        refine aw_i2l (v := (Int32.toInt64 x2)) (pc1 := 34) at_265_33 rfl rfl ?_
        refine aw_goto at_265_34 ?_
        exact rg_265_61 ((Int32.toInt64 x2)) h9 o   hs5
  · clear hs4
    exact Or.inr hs5
def fm_265 (y0 : Value) (y1 : Int32) (y2 : Int32) (y3 : Int32) (y4 : Int32) (h : am_H) : Option am_O := fg_265_0 y0 y1 y2 y3 y4 h
theorem rm_265 {X : am_X} {d : Nat} (y0 : Value) (y1 : Int32) (y2 : Int32) (y3 : Int32) (y4 : Int32) (h : am_H) (o : am_O) (i0 : am_isR y0 = true) (hs : fm_265 y0 y1 y2 y3 y4 h = some o) : am_W X (d + 1) 265 0 (am_args 0 [y0, .int y1, .int y2, .int y3, .int y4]) [] h (fun q => q = o) := by
  rw [am_args_R i0, am_args_I, am_args_I, am_args_I, am_args_I]
  exact rg_265_0 y0 y1 y2 y3 y4 h o rfl rfl rfl rfl rfl i0 hs
def fg_264_97 (N : Nat) (rec_6 : Value → Int32 → Int32 → Int32 → Int32 → Int32 → Int32 → Int32 → am_H → Option am_O) (x0 : Value) (x1 : Int32) (x2 : Int32) (x3 : Int32) (x4 : Int32) (x5 : Int32) (x6 : Int32) (x7 : Int32) (h : am_H) : Option am_O := (rec_6 x0 x1 x2 x3 x4 x5 x6 ((x7 + 1)) h)
theorem rg_264_97 {X : am_X} {d : Nat} {N : Nat} {rec_6 : Value → Int32 → Int32 → Int32 → Int32 → Int32 → Int32 → Int32 → am_H → Option am_O} (q_6 : ∀ (x0 : Value) (x1 : Int32) (x2 : Int32) (x3 : Int32) (x4 : Int32) (x5 : Int32) (x6 : Int32) (x7 : Int32) (h : am_H) (o : am_O), rec_6 x0 x1 x2 x3 x4 x5 x6 x7 h = some o → ∀ lv : am_LV, (lv.lookup 0 = some x0) → (lv.lookup 1 = some (.int x1)) → (lv.lookup 2 = some (.int x2)) → (lv.lookup 3 = some (.int x3)) → (lv.lookup 4 = some (.int x4)) → (lv.lookup 5 = some (.int x5)) → (lv.lookup 6 = some (.int x6)) → (lv.lookup 7 = some (.int x7)) → (am_isR x0 = true) → am_W X (d + 2) 264 6 lv [] h (fun q => q = o)) {lv : am_LV} (x0 : Value) (x1 : Int32) (x2 : Int32) (x3 : Int32) (x4 : Int32) (x5 : Int32) (x6 : Int32) (x7 : Int32) (h : am_H) (o : am_O) (l0 : lv.lookup 0 = some x0) (l1 : lv.lookup 1 = some (.int x1)) (l2 : lv.lookup 2 = some (.int x2)) (l3 : lv.lookup 3 = some (.int x3)) (l4 : lv.lookup 4 = some (.int x4)) (l5 : lv.lookup 5 = some (.int x5)) (l6 : lv.lookup 6 = some (.int x6)) (l7 : lv.lookup 7 = some (.int x7)) (i0 : am_isR x0 = true) (hs : fg_264_97 N rec_6 x0 x1 x2 x3 x4 x5 x6 x7 h = some o) : am_W X (d + 2) 264 97 lv [] h (fun q => q = o) := by
  unfold fg_264_97 at hs
  refine aw_iinc (v := (x7 + 1)) (c := 1) (lv1 := am_put1 _ 7 _) (pc1 := 100) at_264_97 l7 (by decide) rfl rfl rfl ?_
  refine aw_goto at_264_100 ?_
  exact q_6 x0 x1 x2 x3 x4 x5 x6 ((x7 + 1)) h o hs _ (am_lk1 l0 rfl rfl) (am_lk1 l1 rfl rfl) (am_lk1 l2 rfl rfl) (am_lk1 l3 rfl rfl) (am_lk1 l4 rfl rfl) (am_lk1 l5 rfl rfl) (am_lk1 l6 rfl rfl) am_lk0 i0
def fg_264_83 (N : Nat) (rec_6 : Value → Int32 → Int32 → Int32 → Int32 → Int32 → Int32 → Int32 → am_H → Option am_O) (x0 : Value) (x1 : Int32) (x2 : Int32) (x3 : Int32) (x4 : Int32) (x5 : Int32) (x7 : Int32) (s0 : Int32) (h : am_H) : Option am_O := (if ¬ s0 = 0 then (fg_264_97 N rec_6 x0 x1 x2 x3 x4 x5 s0 x7 h) else (if ¬ x5 = 0 then (fg_264_97 N rec_6 x0 x1 x2 x3 x4 x5 s0 x7 h) else some (.inl (some (.int 0), h))))
theorem rg_264_83 {X : am_X} {d : Nat} {N : Nat} {rec_6 : Value → Int32 → Int32 → Int32 → Int32 → Int32 → Int32 → Int32 → am_H → Option am_O} (q_6 : ∀ (x0 : Value) (x1 : Int32) (x2 : Int32) (x3 : Int32) (x4 : Int32) (x5 : Int32) (x6 : Int32) (x7 : Int32) (h : am_H) (o : am_O), rec_6 x0 x1 x2 x3 x4 x5 x6 x7 h = some o → ∀ lv : am_LV, (lv.lookup 0 = some x0) → (lv.lookup 1 = some (.int x1)) → (lv.lookup 2 = some (.int x2)) → (lv.lookup 3 = some (.int x3)) → (lv.lookup 4 = some (.int x4)) → (lv.lookup 5 = some (.int x5)) → (lv.lookup 6 = some (.int x6)) → (lv.lookup 7 = some (.int x7)) → (am_isR x0 = true) → am_W X (d + 2) 264 6 lv [] h (fun q => q = o)) {lv : am_LV} (x0 : Value) (x1 : Int32) (x2 : Int32) (x3 : Int32) (x4 : Int32) (x5 : Int32) (x7 : Int32) (s0 : Int32) (h : am_H) (o : am_O) (l0 : lv.lookup 0 = some x0) (l1 : lv.lookup 1 = some (.int x1)) (l2 : lv.lookup 2 = some (.int x2)) (l3 : lv.lookup 3 = some (.int x3)) (l4 : lv.lookup 4 = some (.int x4)) (l5 : lv.lookup 5 = some (.int x5)) (l7 : lv.lookup 7 = some (.int x7)) (i0 : am_isR x0 = true) (hs : fg_264_83 N rec_6 x0 x1 x2 x3 x4 x5 x7 s0 h = some o) : am_W X (d + 2) 264 83 lv [(.int s0)] h (fun q => q = o) := by
  unfold fg_264_83 at hs
  refine aw_istore (lv1 := am_put1 _ 6 _) (pc1 := 85) at_264_83 rfl rfl ?_
  refine aw_iload (pc1 := 87) at_264_85 am_lk0 rfl ?_
  by_cases c1 : ¬ s0 = 0
  · rw [if_pos c1] at hs
    refine aw_ifne_t at_264_87 c1 ?_
    exact rg_264_97 q_6 x0 x1 x2 x3 x4 x5 s0 x7 h o (am_lk1 l0 rfl rfl) (am_lk1 l1 rfl rfl) (am_lk1 l2 rfl rfl) (am_lk1 l3 rfl rfl) (am_lk1 l4 rfl rfl) (am_lk1 l5 rfl rfl) am_lk0 (am_lk1 l7 rfl rfl) i0 hs
  · rw [if_neg c1] at hs
    refine aw_ifne_f (pc1 := 90) at_264_87 c1 rfl ?_
    refine aw_iload (pc1 := 92) at_264_90 (am_lk1 l5 rfl rfl) rfl ?_
    by_cases c2 : ¬ x5 = 0
    · rw [if_pos c2] at hs
      refine aw_ifne_t at_264_92 c2 ?_
      exact rg_264_97 q_6 x0 x1 x2 x3 x4 x5 s0 x7 h o (am_lk1 l0 rfl rfl) (am_lk1 l1 rfl rfl) (am_lk1 l2 rfl rfl) (am_lk1 l3 rfl rfl) (am_lk1 l4 rfl rfl) (am_lk1 l5 rfl rfl) am_lk0 (am_lk1 l7 rfl rfl) i0 hs
    · rw [if_neg c2] at hs
      refine aw_ifne_f (pc1 := 95) at_264_92 c2 rfl ?_
      refine aw_iconst (v := 0) (pc1 := 96) at_264_95 (by decide) rfl ?_
      cases hs
      exact aw_iret at_264_96 (by rw [rt_264]; decide) rfl
def fg_264_82 (N : Nat) (rec_6 : Value → Int32 → Int32 → Int32 → Int32 → Int32 → Int32 → Int32 → am_H → Option am_O) (x0 : Value) (x1 : Int32) (x2 : Int32) (x3 : Int32) (x4 : Int32) (x5 : Int32) (x7 : Int32) (h : am_H) : Option am_O := (fg_264_83 N rec_6 x0 x1 x2 x3 x4 x5 x7 0 h)
theorem rg_264_82 {X : am_X} {d : Nat} {N : Nat} {rec_6 : Value → Int32 → Int32 → Int32 → Int32 → Int32 → Int32 → Int32 → am_H → Option am_O} (q_6 : ∀ (x0 : Value) (x1 : Int32) (x2 : Int32) (x3 : Int32) (x4 : Int32) (x5 : Int32) (x6 : Int32) (x7 : Int32) (h : am_H) (o : am_O), rec_6 x0 x1 x2 x3 x4 x5 x6 x7 h = some o → ∀ lv : am_LV, (lv.lookup 0 = some x0) → (lv.lookup 1 = some (.int x1)) → (lv.lookup 2 = some (.int x2)) → (lv.lookup 3 = some (.int x3)) → (lv.lookup 4 = some (.int x4)) → (lv.lookup 5 = some (.int x5)) → (lv.lookup 6 = some (.int x6)) → (lv.lookup 7 = some (.int x7)) → (am_isR x0 = true) → am_W X (d + 2) 264 6 lv [] h (fun q => q = o)) {lv : am_LV} (x0 : Value) (x1 : Int32) (x2 : Int32) (x3 : Int32) (x4 : Int32) (x5 : Int32) (x7 : Int32) (h : am_H) (o : am_O) (l0 : lv.lookup 0 = some x0) (l1 : lv.lookup 1 = some (.int x1)) (l2 : lv.lookup 2 = some (.int x2)) (l3 : lv.lookup 3 = some (.int x3)) (l4 : lv.lookup 4 = some (.int x4)) (l5 : lv.lookup 5 = some (.int x5)) (l7 : lv.lookup 7 = some (.int x7)) (i0 : am_isR x0 = true) (hs : fg_264_82 N rec_6 x0 x1 x2 x3 x4 x5 x7 h = some o) : am_W X (d + 2) 264 82 lv [] h (fun q => q = o) := by
  unfold fg_264_82 at hs
  refine aw_iconst (v := 0) (pc1 := 83) at_264_82 (by decide) rfl ?_
  exact rg_264_83 q_6 x0 x1 x2 x3 x4 x5 x7 0 h o l0 l1 l2 l3 l4 l5 l7 i0 hs
def fg_264_51 (N : Nat) (rec_6 : Value → Int32 → Int32 → Int32 → Int32 → Int32 → Int32 → Int32 → am_H → Option am_O) (x0 : Value) (x1 : Int32) (x2 : Int32) (x3 : Int32) (x4 : Int32) (x5 : Int32) (x6 : Int32) (x7 : Int32) (x8 : Int64) (h : am_H) : Option am_O := (if x6 = 0 then (fg_264_82 N rec_6 x0 x1 x2 x3 x4 x5 x7 h) else ((am_vR (am_pG 1031 x0 h)).bind fun v2 => ((am_vR (am_pG 1029 x0 h)).bind fun v4 => ((am_pA 0 v4 x7 h).bind fun v6 => (if am_pOk 2 v2 h then am_cI true (fm_112 v2 v6 3 h) (fun v9 h10 => (if ¬ (lg_cmp x8 (Int32.toInt64 v9)) = 0 then (fg_264_82 N rec_6 x0 x1 x2 x3 x4 x5 x7 h10) else (fg_264_83 N rec_6 x0 x1 x2 x3 x4 x5 x7 1 h10))) else none)))))
theorem rg_264_51 {X : am_X} {d : Nat} {N : Nat} {rec_6 : Value → Int32 → Int32 → Int32 → Int32 → Int32 → Int32 → Int32 → am_H → Option am_O} (q_6 : ∀ (x0 : Value) (x1 : Int32) (x2 : Int32) (x3 : Int32) (x4 : Int32) (x5 : Int32) (x6 : Int32) (x7 : Int32) (h : am_H) (o : am_O), rec_6 x0 x1 x2 x3 x4 x5 x6 x7 h = some o → ∀ lv : am_LV, (lv.lookup 0 = some x0) → (lv.lookup 1 = some (.int x1)) → (lv.lookup 2 = some (.int x2)) → (lv.lookup 3 = some (.int x3)) → (lv.lookup 4 = some (.int x4)) → (lv.lookup 5 = some (.int x5)) → (lv.lookup 6 = some (.int x6)) → (lv.lookup 7 = some (.int x7)) → (am_isR x0 = true) → am_W X (d + 2) 264 6 lv [] h (fun q => q = o)) {lv : am_LV} (x0 : Value) (x1 : Int32) (x2 : Int32) (x3 : Int32) (x4 : Int32) (x5 : Int32) (x6 : Int32) (x7 : Int32) (x8 : Int64) (h : am_H) (o : am_O) (l0 : lv.lookup 0 = some x0) (l1 : lv.lookup 1 = some (.int x1)) (l2 : lv.lookup 2 = some (.int x2)) (l3 : lv.lookup 3 = some (.int x3)) (l4 : lv.lookup 4 = some (.int x4)) (l5 : lv.lookup 5 = some (.int x5)) (l6 : lv.lookup 6 = some (.int x6)) (l7 : lv.lookup 7 = some (.int x7)) (l8 : lv.lookup 8 = some (.long x8)) (i0 : am_isR x0 = true) (hs : fg_264_51 N rec_6 x0 x1 x2 x3 x4 x5 x6 x7 x8 h = some o) : am_W X (d + 2) 264 51 lv [] h (fun q => q = o) := by
  unfold fg_264_51 at hs
  refine aw_iload (pc1 := 53) at_264_51 l6 rfl ?_
  by_cases c1 : x6 = 0
  · rw [if_pos c1] at hs
    refine aw_ifeq_t at_264_53 c1 ?_
    exact rg_264_82 q_6 x0 x1 x2 x3 x4 x5 x7 h o l0 l1 l2 l3 l4 l5 l7 i0 hs
  · rw [if_neg c1] at hs
    refine aw_ifeq_f (pc1 := 56) at_264_53 c1 rfl ?_
    refine aw_lload (pc1 := 58) at_264_56 l8 rfl ?_
    refine aw_vload_n (pc1 := 59) at_264_58 l0 i0 rfl ?_
    obtain ⟨v2, e3, hs1⟩ := am_bind hs
    clear hs
    refine aw_pG (pc1 := 62) at_264_59 (am_vR_s e3).1 rfl ?_
    refine aw_vload_n (pc1 := 63) at_264_62 l0 i0 rfl ?_
    obtain ⟨v4, e5, hs2⟩ := am_bind hs1
    clear hs1
    refine aw_pG (pc1 := 66) at_264_63 (am_vR_s e5).1 rfl ?_
    refine aw_iload (pc1 := 68) at_264_66 l7 rfl ?_
    obtain ⟨v6, e7, hs3⟩ := am_bind hs2
    clear hs2
    refine aw_pA (pc1 := 69) at_264_68 (Or.inl ⟨rfl, rfl⟩) e7 rfl ?_
    refine aw_iconst (v := 3) (pc1 := 70) at_264_69 (by decide) rfl ?_
    obtain ⟨z8, hs4⟩ := am_ift hs3
    clear hs3
    refine aw_call (F := fm_112 v2 v6 3 h) (t := true) (na := 3) (kd := 1) (as := [v2, (.int v6), (.int 3)]) at_264_70 (am_k3v kb_112) mn_112 mk_112 rfl rfl (am_ok_v mi_112 (am_hl rfl (am_ccR (am_vR_s e3).2 (am_ccI (am_ccI am_cats_0))) rfl) z8) (am_hc (am_ccL am_cats_0) rfl) (fun _ => ⟨rfl, hh_264⟩) (fun o1 hz9 => rm_112 v2 v6 3 h o1 (am_vR_s e3).2 hz9) ?_
    rcases am_cI_s hs4 with ⟨v9, h10, f11, hs5⟩ | hs5
    · clear hs4
      refine Or.inl ⟨_, _, f11, ?_⟩
      show am_W X _ 264 73 _ [(.int v9), (.long x8)] h10 _
      refine aw_i2l (v := (Int32.toInt64 v9)) (pc1 := 74) at_264_73 rfl rfl ?_
      refine aw_lcmp (v := (lg_cmp x8 (Int32.toInt64 v9))) (pc1 := 75) at_264_74 rfl rfl ?_
      by_cases c12 : ¬ (lg_cmp x8 (Int32.toInt64 v9)) = 0
      · rw [if_pos c12] at hs5
        refine aw_ifne_t at_264_75 c12 ?_
        exact rg_264_82 q_6 x0 x1 x2 x3 x4 x5 x7 h10 o l0 l1 l2 l3 l4 l5 l7 i0 hs5
      · rw [if_neg c12] at hs5
        refine aw_ifne_f (pc1 := 78) at_264_75 c12 rfl ?_
        refine aw_iconst (v := 1) (pc1 := 79) at_264_78 (by decide) rfl ?_
        refine aw_goto at_264_79 ?_
        exact rg_264_83 q_6 x0 x1 x2 x3 x4 x5 x7 1 h10 o l0 l1 l2 l3 l4 l5 l7 i0 hs5
    · clear hs4
      exact Or.inr hs5
def fg_264_6 (N : Nat) : Nat → Value → Int32 → Int32 → Int32 → Int32 → Int32 → Int32 → Int32 → am_H → Option am_O
  | 0 => fun _ _ _ _ _ _ _ _ _ => none
  | K + 1 => fun x0 x1 x2 x3 x4 x5 x6 x7 h => ((am_vI (am_pG 1030 x0 h)).bind fun v1 => (if v1 ≤ x7 then (if am_rfit (some FieldType.boolean) x6 then some (.inl (some (.int x6), h)) else none) else (if am_pOk 4 x0 h then am_cL true (fm_265 x0 x1 x2 x3 x7 h) (fun v6 h7 => (if x5 = 0 then (fg_264_51 N (fg_264_6 N K) x0 x1 x2 x3 x4 x5 x6 x7 v6 h7) else (if 7070 ≤ x4 then (fg_264_51 N (fg_264_6 N K) x0 x1 x2 x3 x4 x5 x6 x7 v6 h7) else ((am_vR (am_pG 1028 x0 h7)).bind fun v11 => ((am_pAA v11 x7 h7).bind fun v13 => ((am_pSL v13 x4 v6 h7).bind fun h15 => (fg_264_51 N (fg_264_6 N K) x0 x1 x2 x3 x4 x5 x6 x7 v6 h15))))))) else none)))
theorem rg_264_6 {X : am_X} {d : Nat} {N : Nat} : ∀ (K : Nat) (x0 : Value) (x1 : Int32) (x2 : Int32) (x3 : Int32) (x4 : Int32) (x5 : Int32) (x6 : Int32) (x7 : Int32) (h : am_H) (o : am_O), fg_264_6 N K x0 x1 x2 x3 x4 x5 x6 x7 h = some o → ∀ lv : am_LV, (lv.lookup 0 = some x0) → (lv.lookup 1 = some (.int x1)) → (lv.lookup 2 = some (.int x2)) → (lv.lookup 3 = some (.int x3)) → (lv.lookup 4 = some (.int x4)) → (lv.lookup 5 = some (.int x5)) → (lv.lookup 6 = some (.int x6)) → (lv.lookup 7 = some (.int x7)) → (am_isR x0 = true) → am_W X (d + 2) 264 6 lv [] h (fun q => q = o) := by
  intro K
  induction K with
  | zero => intro x0 x1 x2 x3 x4 x5 x6 x7 h o hs; cases hs
  | succ K ih =>
    intro x0 x1 x2 x3 x4 x5 x6 x7 h o hs lv l0 l1 l2 l3 l4 l5 l6 l7 i0
    unfold fg_264_6 at hs
    refine aw_iload (pc1 := 8) at_264_6 l7 rfl ?_
    refine aw_vload_n (pc1 := 9) at_264_8 l0 i0 rfl ?_
    obtain ⟨v1, e2, hs1⟩ := am_bind hs
    clear hs
    refine aw_pG (pc1 := 12) at_264_9 (am_vI_s e2) rfl ?_
    by_cases c3 : v1 ≤ x7
    · rw [if_pos c3] at hs1
      refine aw_icge_t at_264_12 c3 ?_
      refine aw_iload (pc1 := 105) at_264_103 l6 rfl ?_
      obtain ⟨z4, hs2⟩ := am_ift hs1
      clear hs1
      cases hs2
      exact aw_iret at_264_105 (by rw [rt_264]; exact z4) rfl
    · rw [if_neg c3] at hs1
      refine aw_icge_f (pc1 := 15) at_264_12 c3 rfl ?_
      refine aw_vload_n (pc1 := 16) at_264_15 l0 i0 rfl ?_
      refine aw_iload_n (pc1 := 17) at_264_16 l1 rfl ?_
      refine aw_iload_n (pc1 := 18) at_264_17 l2 rfl ?_
      refine aw_iload_n (pc1 := 19) at_264_18 l3 rfl ?_
      refine aw_iload (pc1 := 21) at_264_19 l7 rfl ?_
      obtain ⟨z5, hs3⟩ := am_ift hs1
      clear hs1
      refine aw_call (F := fm_265 x0 x1 x2 x3 x7 h) (t := true) (na := 5) (kd := 1) (as := [x0, (.int x1), (.int x2), (.int x3), (.int x7)]) at_264_21 (am_k3v kb_265) mn_265 mk_265 rfl rfl (am_ok_v mi_265 (am_hl rfl (am_ccR i0 (am_ccI (am_ccI (am_ccI (am_ccI am_cats_0))))) rfl) z5) (am_hc am_cats_0 rfl) (fun _ => ⟨rfl, hh_264⟩) (fun o1 hz9 => rm_265 x0 x1 x2 x3 x7 h o1 i0 hz9) ?_
      rcases am_cL_s hs3 with ⟨v6, h7, f8, hs4⟩ | hs4
      · clear hs3
        refine Or.inl ⟨_, _, f8, ?_⟩
        show am_W X _ 264 24 _ [(.long v6)] h7 _
        refine aw_lstore (lv1 := am_put2 _ 8 _) (pc1 := 26) at_264_24 rfl rfl ?_
        refine aw_iload (pc1 := 28) at_264_26 (am_lk2 l5 rfl rfl) rfl ?_
        by_cases c9 : x5 = 0
        · rw [if_pos c9] at hs4
          refine aw_ifeq_t at_264_28 c9 ?_
          exact rg_264_51 (fun z0 z1 z2 z3 z4 z5 z6 z7 h o hs4 => ih z0 z1 z2 z3 z4 z5 z6 z7 h o hs4) x0 x1 x2 x3 x4 x5 x6 x7 v6 h7 o (am_lk2 l0 rfl rfl) (am_lk2 l1 rfl rfl) (am_lk2 l2 rfl rfl) (am_lk2 l3 rfl rfl) (am_lk2 l4 rfl rfl) (am_lk2 l5 rfl rfl) (am_lk2 l6 rfl rfl) (am_lk2 l7 rfl rfl) am_lk02 i0 hs4
        · rw [if_neg c9] at hs4
          refine aw_ifeq_f (pc1 := 31) at_264_28 c9 rfl ?_
          refine aw_iload (pc1 := 33) at_264_31 (am_lk2 l4 rfl rfl) rfl ?_
          refine aw_sipush (v := 7070) (pc1 := 36) at_264_33 (by decide) rfl ?_
          by_cases c10 : 7070 ≤ x4
          · rw [if_pos c10] at hs4
            refine aw_icge_t at_264_36 c10 ?_
            exact rg_264_51 (fun z0 z1 z2 z3 z4 z5 z6 z7 h o hs4 => ih z0 z1 z2 z3 z4 z5 z6 z7 h o hs4) x0 x1 x2 x3 x4 x5 x6 x7 v6 h7 o (am_lk2 l0 rfl rfl) (am_lk2 l1 rfl rfl) (am_lk2 l2 rfl rfl) (am_lk2 l3 rfl rfl) (am_lk2 l4 rfl rfl) (am_lk2 l5 rfl rfl) (am_lk2 l6 rfl rfl) (am_lk2 l7 rfl rfl) am_lk02 i0 hs4
          · rw [if_neg c10] at hs4
            refine aw_icge_f (pc1 := 39) at_264_36 c10 rfl ?_
            refine aw_vload_n (pc1 := 40) at_264_39 (am_lk2 l0 rfl rfl) i0 rfl ?_
            obtain ⟨v11, e12, hs5⟩ := am_bind hs4
            clear hs4
            refine aw_pG (pc1 := 43) at_264_40 (am_vR_s e12).1 rfl ?_
            refine aw_iload (pc1 := 45) at_264_43 (am_lk2 l7 rfl rfl) rfl ?_
            obtain ⟨v13, e14, hs6⟩ := am_bind hs5
            clear hs5
            refine aw_pAA (pc1 := 46) at_264_45 e14 rfl ?_
            refine aw_iload (pc1 := 48) at_264_46 (am_lk2 l4 rfl rfl) rfl ?_
            refine aw_lload (pc1 := 50) at_264_48 am_lk02 rfl ?_
            obtain ⟨h15, e16, hs7⟩ := am_bind hs6
            clear hs6
            refine aw_pSL (pc1 := 51) at_264_50 e16 rfl ?_
            exact rg_264_51 (fun z0 z1 z2 z3 z4 z5 z6 z7 h o hs7 => ih z0 z1 z2 z3 z4 z5 z6 z7 h o hs7) x0 x1 x2 x3 x4 x5 x6 x7 v6 h15 o (am_lk2 l0 rfl rfl) (am_lk2 l1 rfl rfl) (am_lk2 l2 rfl rfl) (am_lk2 l3 rfl rfl) (am_lk2 l4 rfl rfl) (am_lk2 l5 rfl rfl) (am_lk2 l6 rfl rfl) (am_lk2 l7 rfl rfl) am_lk02 i0 hs7
      · clear hs3
        exact Or.inr hs4
def fg_264_0 (N : Nat) (x0 : Value) (x1 : Int32) (x2 : Int32) (x3 : Int32) (x4 : Int32) (x5 : Int32) (h : am_H) : Option am_O := (fg_264_6 N N x0 x1 x2 x3 x4 x5 1 0 h)
theorem rg_264_0 {X : am_X} {d : Nat} {N : Nat} {lv : am_LV} (x0 : Value) (x1 : Int32) (x2 : Int32) (x3 : Int32) (x4 : Int32) (x5 : Int32) (h : am_H) (o : am_O) (l0 : lv.lookup 0 = some x0) (l1 : lv.lookup 1 = some (.int x1)) (l2 : lv.lookup 2 = some (.int x2)) (l3 : lv.lookup 3 = some (.int x3)) (l4 : lv.lookup 4 = some (.int x4)) (l5 : lv.lookup 5 = some (.int x5)) (i0 : am_isR x0 = true) (hs : fg_264_0 N x0 x1 x2 x3 x4 x5 h = some o) : am_W X (d + 2) 264 0 lv [] h (fun q => q = o) := by
  unfold fg_264_0 at hs
  refine aw_iconst (v := 1) (pc1 := 1) at_264_0 (by decide) rfl ?_
  refine aw_istore (lv1 := am_put1 _ 6 _) (pc1 := 3) at_264_1 rfl rfl ?_
  refine aw_iconst (v := 0) (pc1 := 4) at_264_3 (by decide) rfl ?_
  refine aw_istore (lv1 := am_put1 _ 7 _) (pc1 := 6) at_264_4 rfl rfl ?_
  exact rg_264_6 N x0 x1 x2 x3 x4 x5 1 0 h o hs _ (am_lk1 (am_lk1 l0 rfl rfl) rfl rfl) (am_lk1 (am_lk1 l1 rfl rfl) rfl rfl) (am_lk1 (am_lk1 l2 rfl rfl) rfl rfl) (am_lk1 (am_lk1 l3 rfl rfl) rfl rfl) (am_lk1 (am_lk1 l4 rfl rfl) rfl rfl) (am_lk1 (am_lk1 l5 rfl rfl) rfl rfl) (am_lk1 am_lk0 rfl rfl) am_lk0 i0
def fm_264 (N : Nat) (y0 : Value) (y1 : Int32) (y2 : Int32) (y3 : Int32) (y4 : Int32) (y5 : Int32) (h : am_H) : Option am_O := fg_264_0 N y0 y1 y2 y3 y4 y5 h
theorem rm_264 {X : am_X} {d : Nat} {N : Nat} (y0 : Value) (y1 : Int32) (y2 : Int32) (y3 : Int32) (y4 : Int32) (y5 : Int32) (h : am_H) (o : am_O) (i0 : am_isR y0 = true) (hs : fm_264 N y0 y1 y2 y3 y4 y5 h = some o) : am_W X (d + 2) 264 0 (am_args 0 [y0, .int y1, .int y2, .int y3, .int y4, .int y5]) [] h (fun q => q = o) := by
  rw [am_args_R i0, am_args_I, am_args_I, am_args_I, am_args_I, am_args_I]
  exact rg_264_0 y0 y1 y2 y3 y4 y5 h o rfl rfl rfl rfl rfl rfl i0 hs
def fg_263_23 (N : Nat) (rec_2 : Value → Int32 → Int32 → am_H → Option am_O) (x0 : Value) (x1 : Int32) (x2 : Int32) (s0 : Value) (s1 : Int32) (h : am_H) : Option am_O := (if am_pOk 4 s0 h then am_cI true (fm_264 N s0 s1 x2 0 x2 x1 h) (fun v2 h3 => (if v2 = 0 then (rec_2 x0 x1 ((x2 + 1)) h3) else some (.inl (some (.int x2), h3)))) else none)
theorem rg_263_23 {X : am_X} {d : Nat} {N : Nat} {rec_2 : Value → Int32 → Int32 → am_H → Option am_O} (q_2 : ∀ (x0 : Value) (x1 : Int32) (x2 : Int32) (h : am_H) (o : am_O), rec_2 x0 x1 x2 h = some o → ∀ lv : am_LV, (lv.lookup 0 = some x0) → (lv.lookup 1 = some (.int x1)) → (lv.lookup 2 = some (.int x2)) → (am_isR x0 = true) → am_W X (d + 3) 263 2 lv [] h (fun q => q = o)) {lv : am_LV} (x0 : Value) (x1 : Int32) (x2 : Int32) (s0 : Value) (s1 : Int32) (h : am_H) (o : am_O) (l0 : lv.lookup 0 = some x0) (l1 : lv.lookup 1 = some (.int x1)) (l2 : lv.lookup 2 = some (.int x2)) (i0 : am_isR x0 = true) (j0 : am_isR s0 = true) (hs : fg_263_23 N rec_2 x0 x1 x2 s0 s1 h = some o) : am_W X (d + 3) 263 23 lv [(.int s1), s0] h (fun q => q = o) := by
  unfold fg_263_23 at hs
  refine aw_iload_n (pc1 := 24) at_263_23 l2 rfl ?_
  refine aw_iconst (v := 0) (pc1 := 25) at_263_24 (by decide) rfl ?_
  refine aw_iload_n (pc1 := 26) at_263_25 l2 rfl ?_
  refine aw_iload_n (pc1 := 27) at_263_26 l1 rfl ?_
  obtain ⟨z1, hs1⟩ := am_ift hs
  clear hs
  refine aw_call (F := fm_264 N s0 s1 x2 0 x2 x1 h) (t := true) (na := 6) (kd := 1) (as := [s0, (.int s1), (.int x2), (.int 0), (.int x2), (.int x1)]) at_263_27 (am_k3v kb_264) mn_264 mk_264 rfl rfl (am_ok_v mi_264 (am_hl rfl (am_ccR j0 (am_ccI (am_ccI (am_ccI (am_ccI (am_ccI am_cats_0)))))) rfl) z1) (am_hc am_cats_0 rfl) (fun _ => ⟨rfl, hh_263⟩) (fun o1 hz9 => rm_264 s0 s1 x2 0 x2 x1 h o1 j0 hz9) ?_
  rcases am_cI_s hs1 with ⟨v2, h3, f4, hs2⟩ | hs2
  · clear hs1
    refine Or.inl ⟨_, _, f4, ?_⟩
    show am_W X _ 263 30 _ [(.int v2)] h3 _
    by_cases c5 : v2 = 0
    · rw [if_pos c5] at hs2
      refine aw_ifeq_t at_263_30 c5 ?_
      refine aw_iinc (v := (x2 + 1)) (c := 1) (lv1 := am_put1 _ 2 _) (pc1 := 38) at_263_35 l2 (by decide) rfl rfl rfl ?_
      refine aw_goto at_263_38 ?_
      exact q_2 x0 x1 ((x2 + 1)) h3 o hs2 _ (am_lk1 l0 rfl rfl) (am_lk1 l1 rfl rfl) am_lk0 i0
    · rw [if_neg c5] at hs2
      refine aw_ifeq_f (pc1 := 33) at_263_30 c5 rfl ?_
      refine aw_iload_n (pc1 := 34) at_263_33 l2 rfl ?_
      cases hs2
      exact aw_iret at_263_34 (by rw [rt_263]; rfl) rfl
  · clear hs1
    exact Or.inr hs2
def fg_263_2 (N : Nat) : Nat → Value → Int32 → Int32 → am_H → Option am_O
  | 0 => fun _ _ _ _ => none
  | K + 1 => fun x0 x1 x2 h => (if 14 ≤ x2 then some (.inl (some (.int (-1)), h)) else (if 10 ≤ x2 then (fg_263_23 N (fg_263_2 N K) x0 x1 x2 x0 ((x2 - 9)) h) else (fg_263_23 N (fg_263_2 N K) x0 x1 x2 x0 0 h)))
theorem rg_263_2 {X : am_X} {d : Nat} {N : Nat} : ∀ (K : Nat) (x0 : Value) (x1 : Int32) (x2 : Int32) (h : am_H) (o : am_O), fg_263_2 N K x0 x1 x2 h = some o → ∀ lv : am_LV, (lv.lookup 0 = some x0) → (lv.lookup 1 = some (.int x1)) → (lv.lookup 2 = some (.int x2)) → (am_isR x0 = true) → am_W X (d + 3) 263 2 lv [] h (fun q => q = o) := by
  intro K
  induction K with
  | zero => intro x0 x1 x2 h o hs; cases hs
  | succ K ih =>
    intro x0 x1 x2 h o hs lv l0 l1 l2 i0
    unfold fg_263_2 at hs
    refine aw_iload_n (pc1 := 3) at_263_2 l2 rfl ?_
    refine aw_bipush (v := 14) (pc1 := 5) at_263_3 (by decide) rfl ?_
    by_cases c1 : 14 ≤ x2
    · rw [if_pos c1] at hs
      refine aw_icge_t at_263_5 c1 ?_
      refine aw_iconst (v := (-1)) (pc1 := 42) at_263_41 (by decide) rfl ?_
      cases hs
      exact aw_iret at_263_42 (by rw [rt_263]; rfl) rfl
    · rw [if_neg c1] at hs
      refine aw_icge_f (pc1 := 8) at_263_5 c1 rfl ?_
      refine aw_vload_n (pc1 := 9) at_263_8 l0 i0 rfl ?_
      refine aw_iload_n (pc1 := 10) at_263_9 l2 rfl ?_
      refine aw_bipush (v := 10) (pc1 := 12) at_263_10 (by decide) rfl ?_
      by_cases c2 : 10 ≤ x2
      · rw [if_pos c2] at hs
        refine aw_icge_t at_263_12 c2 ?_
        refine aw_iload_n (pc1 := 20) at_263_19 l2 rfl ?_
        refine aw_bipush (v := 9) (pc1 := 22) at_263_20 (by decide) rfl ?_
        refine aw_isub (v := (x2 - 9)) (pc1 := 23) at_263_22 rfl rfl ?_
        exact rg_263_23 (fun z0 z1 z2 h o hs => ih z0 z1 z2 h o hs) x0 x1 x2 x0 ((x2 - 9)) h o l0 l1 l2 i0 i0 hs
      · rw [if_neg c2] at hs
        refine aw_icge_f (pc1 := 15) at_263_12 c2 rfl ?_
        refine aw_iconst (v := 0) (pc1 := 16) at_263_15 (by decide) rfl ?_
        refine aw_goto at_263_16 ?_
        exact rg_263_23 (fun z0 z1 z2 h o hs => ih z0 z1 z2 h o hs) x0 x1 x2 x0 0 h o l0 l1 l2 i0 i0 hs
def fg_263_0 (N : Nat) (x0 : Value) (x1 : Int32) (h : am_H) : Option am_O := (fg_263_2 N N x0 x1 0 h)
theorem rg_263_0 {X : am_X} {d : Nat} {N : Nat} {lv : am_LV} (x0 : Value) (x1 : Int32) (h : am_H) (o : am_O) (l0 : lv.lookup 0 = some x0) (l1 : lv.lookup 1 = some (.int x1)) (i0 : am_isR x0 = true) (hs : fg_263_0 N x0 x1 h = some o) : am_W X (d + 3) 263 0 lv [] h (fun q => q = o) := by
  unfold fg_263_0 at hs
  refine aw_iconst (v := 0) (pc1 := 1) at_263_0 (by decide) rfl ?_
  refine aw_istore_n (lv1 := am_put1 _ 2 _) (pc1 := 2) at_263_1 rfl rfl ?_
  exact rg_263_2 N x0 x1 0 h o hs _ (am_lk1 l0 rfl rfl) (am_lk1 l1 rfl rfl) am_lk0 i0
def fm_263 (N : Nat) (y0 : Value) (y1 : Int32) (h : am_H) : Option am_O := fg_263_0 N y0 y1 h
theorem rm_263 {X : am_X} {d : Nat} {N : Nat} (y0 : Value) (y1 : Int32) (h : am_H) (o : am_O) (i0 : am_isR y0 = true) (hs : fm_263 N y0 y1 h = some o) : am_W X (d + 3) 263 0 (am_args 0 [y0, .int y1]) [] h (fun q => q = o) := by
  rw [am_args_R i0, am_args_I]
  exact rg_263_0 y0 y1 h o rfl rfl i0 hs
def fg_266_136 (X : am_X) (N : Nat) (rec_13 : Value → Int32 → Int32 → Int32 → Int32 → Int32 → am_H → Option am_O) (rec_73 : Value → Int32 → Int32 → Int32 → Int32 → Int32 → Int32 → Int32 → Int32 → am_H → Option am_O) (rec_115 : Value → Int32 → Int32 → Int32 → Int32 → Int32 → Int32 → Int32 → Int32 → Int32 → Int32 → Int32 → am_H → Option am_O) : Nat → Value → Int32 → Int32 → Int32 → Int32 → Int32 → Int32 → Int32 → Int32 → Int32 → Int32 → Int32 → Int32 → am_H → Option am_O
  | 0 => fun _ _ _ _ _ _ _ _ _ _ _ _ _ _ => none
  | K + 1 => fun x0 x1 x2 x3 x4 x5 x6 x7 x8 x9 x10 x11 x12 h => (if x10 ≤ x12 then (rec_115 x0 x1 x2 x3 x4 x5 x6 x7 x8 x9 x10 ((x11 + 1)) h) else (if am_pOk 4 x0 h then am_cI true (fm_264 N x0 x5 x11 x12 x4 x2 h) (fun v3 h4 => (if v3 = 0 then (fg_266_136 X N rec_13 rec_73 rec_115 K x0 x1 x2 x3 ((x4 + 1)) x5 x6 x7 x8 x9 x10 x11 ((x12 + 1)) h4) else some (.inl (some (.int (x4 - x3)), h4)))) else none))
theorem rg_266_136 {X : am_X} {d : Nat} {N : Nat} {rec_13 : Value → Int32 → Int32 → Int32 → Int32 → Int32 → am_H → Option am_O} {rec_73 : Value → Int32 → Int32 → Int32 → Int32 → Int32 → Int32 → Int32 → Int32 → am_H → Option am_O} {rec_115 : Value → Int32 → Int32 → Int32 → Int32 → Int32 → Int32 → Int32 → Int32 → Int32 → Int32 → Int32 → am_H → Option am_O} (q_13 : ∀ (x0 : Value) (x1 : Int32) (x2 : Int32) (x3 : Int32) (x4 : Int32) (x5 : Int32) (h : am_H) (o : am_O), rec_13 x0 x1 x2 x3 x4 x5 h = some o → ∀ lv : am_LV, (lv.lookup 0 = some x0) → (lv.lookup 1 = some (.int x1)) → (lv.lookup 2 = some (.int x2)) → (lv.lookup 3 = some (.int x3)) → (lv.lookup 4 = some (.int x4)) → (lv.lookup 5 = some (.int x5)) → (am_isR x0 = true) → am_W X (d + 3) 266 13 lv [] h (fun q => q = o)) (q_73 : ∀ (x0 : Value) (x1 : Int32) (x2 : Int32) (x3 : Int32) (x4 : Int32) (x5 : Int32) (x6 : Int32) (x7 : Int32) (x8 : Int32) (h : am_H) (o : am_O), rec_73 x0 x1 x2 x3 x4 x5 x6 x7 x8 h = some o → ∀ lv : am_LV, (lv.lookup 0 = some x0) → (lv.lookup 1 = some (.int x1)) → (lv.lookup 2 = some (.int x2)) → (lv.lookup 3 = some (.int x3)) → (lv.lookup 4 = some (.int x4)) → (lv.lookup 5 = some (.int x5)) → (lv.lookup 6 = some (.int x6)) → (lv.lookup 7 = some (.int x7)) → (lv.lookup 8 = some (.int x8)) → (am_isR x0 = true) → am_W X (d + 3) 266 73 lv [] h (fun q => q = o)) (q_115 : ∀ (x0 : Value) (x1 : Int32) (x2 : Int32) (x3 : Int32) (x4 : Int32) (x5 : Int32) (x6 : Int32) (x7 : Int32) (x8 : Int32) (x9 : Int32) (x10 : Int32) (x11 : Int32) (h : am_H) (o : am_O), rec_115 x0 x1 x2 x3 x4 x5 x6 x7 x8 x9 x10 x11 h = some o → ∀ lv : am_LV, (lv.lookup 0 = some x0) → (lv.lookup 1 = some (.int x1)) → (lv.lookup 2 = some (.int x2)) → (lv.lookup 3 = some (.int x3)) → (lv.lookup 4 = some (.int x4)) → (lv.lookup 5 = some (.int x5)) → (lv.lookup 6 = some (.int x6)) → (lv.lookup 7 = some (.int x7)) → (lv.lookup 8 = some (.int x8)) → (lv.lookup 9 = some (.int x9)) → (lv.lookup 10 = some (.int x10)) → (lv.lookup 11 = some (.int x11)) → (am_isR x0 = true) → am_W X (d + 3) 266 115 lv [] h (fun q => q = o)) : ∀ (K : Nat) (x0 : Value) (x1 : Int32) (x2 : Int32) (x3 : Int32) (x4 : Int32) (x5 : Int32) (x6 : Int32) (x7 : Int32) (x8 : Int32) (x9 : Int32) (x10 : Int32) (x11 : Int32) (x12 : Int32) (h : am_H) (o : am_O), fg_266_136 X N rec_13 rec_73 rec_115 K x0 x1 x2 x3 x4 x5 x6 x7 x8 x9 x10 x11 x12 h = some o → ∀ lv : am_LV, (lv.lookup 0 = some x0) → (lv.lookup 1 = some (.int x1)) → (lv.lookup 2 = some (.int x2)) → (lv.lookup 3 = some (.int x3)) → (lv.lookup 4 = some (.int x4)) → (lv.lookup 5 = some (.int x5)) → (lv.lookup 6 = some (.int x6)) → (lv.lookup 7 = some (.int x7)) → (lv.lookup 8 = some (.int x8)) → (lv.lookup 9 = some (.int x9)) → (lv.lookup 10 = some (.int x10)) → (lv.lookup 11 = some (.int x11)) → (lv.lookup 12 = some (.int x12)) → (am_isR x0 = true) → am_W X (d + 3) 266 136 lv [] h (fun q => q = o) := by
  intro K
  induction K with
  | zero => intro x0 x1 x2 x3 x4 x5 x6 x7 x8 x9 x10 x11 x12 h o hs; cases hs
  | succ K ih =>
    intro x0 x1 x2 x3 x4 x5 x6 x7 x8 x9 x10 x11 x12 h o hs lv l0 l1 l2 l3 l4 l5 l6 l7 l8 l9 l10 l11 l12 i0
    unfold fg_266_136 at hs
    refine aw_iload (pc1 := 138) at_266_136 l12 rfl ?_
    refine aw_iload (pc1 := 140) at_266_138 l10 rfl ?_
    by_cases c1 : x10 ≤ x12
    · rw [if_pos c1] at hs
      refine aw_icge_t at_266_140 c1 ?_
      refine aw_iinc (v := (x11 + 1)) (c := 1) (lv1 := am_put1 _ 11 _) (pc1 := 176) at_266_173 l11 (by decide) rfl rfl rfl ?_
      refine aw_goto at_266_176 ?_
      exact q_115 x0 x1 x2 x3 x4 x5 x6 x7 x8 x9 x10 ((x11 + 1)) h o hs _ (am_lk1 l0 rfl rfl) (am_lk1 l1 rfl rfl) (am_lk1 l2 rfl rfl) (am_lk1 l3 rfl rfl) (am_lk1 l4 rfl rfl) (am_lk1 l5 rfl rfl) (am_lk1 l6 rfl rfl) (am_lk1 l7 rfl rfl) (am_lk1 l8 rfl rfl) (am_lk1 l9 rfl rfl) (am_lk1 l10 rfl rfl) am_lk0 i0
    · rw [if_neg c1] at hs
      refine aw_icge_f (pc1 := 143) at_266_140 c1 rfl ?_
      refine aw_vload_n (pc1 := 144) at_266_143 l0 i0 rfl ?_
      refine aw_iload (pc1 := 146) at_266_144 l5 rfl ?_
      refine aw_iload (pc1 := 148) at_266_146 l11 rfl ?_
      refine aw_iload (pc1 := 150) at_266_148 l12 rfl ?_
      refine aw_iload (pc1 := 152) at_266_150 l4 rfl ?_
      refine aw_iload_n (pc1 := 153) at_266_152 l2 rfl ?_
      obtain ⟨z2, hs1⟩ := am_ift hs
      clear hs
      refine aw_call (F := fm_264 N x0 x5 x11 x12 x4 x2 h) (t := true) (na := 6) (kd := 1) (as := [x0, (.int x5), (.int x11), (.int x12), (.int x4), (.int x2)]) at_266_153 (am_k3v kb_264) mn_264 mk_264 rfl rfl (am_ok_v mi_264 (am_hl rfl (am_ccR i0 (am_ccI (am_ccI (am_ccI (am_ccI (am_ccI am_cats_0)))))) rfl) z2) (am_hc am_cats_0 rfl) (fun _ => ⟨rfl, hh_266⟩) (fun o1 hz9 => rm_264 x0 x5 x11 x12 x4 x2 h o1 i0 hz9) ?_
      rcases am_cI_s hs1 with ⟨v3, h4, f5, hs2⟩ | hs2
      · clear hs1
        refine Or.inl ⟨_, _, f5, ?_⟩
        show am_W X _ 266 156 _ [(.int v3)] h4 _
        by_cases c6 : v3 = 0
        · rw [if_pos c6] at hs2
          refine aw_ifeq_t at_266_156 c6 ?_
          refine aw_iinc (v := (x4 + 1)) (c := 1) (lv1 := am_put1 _ 4 _) (pc1 := 167) at_266_164 l4 (by decide) rfl rfl rfl ?_
          refine aw_iinc (v := (x12 + 1)) (c := 1) (lv1 := am_put1 _ 12 _) (pc1 := 170) at_266_167 (am_lk1 l12 rfl rfl) (by decide) rfl rfl rfl ?_
          refine aw_goto at_266_170 ?_
          exact ih x0 x1 x2 x3 ((x4 + 1)) x5 x6 x7 x8 x9 x10 x11 ((x12 + 1)) h4 o hs2 _ (am_lk1 (am_lk1 l0 rfl rfl) rfl rfl) (am_lk1 (am_lk1 l1 rfl rfl) rfl rfl) (am_lk1 (am_lk1 l2 rfl rfl) rfl rfl) (am_lk1 (am_lk1 l3 rfl rfl) rfl rfl) (am_lk1 am_lk0 rfl rfl) (am_lk1 (am_lk1 l5 rfl rfl) rfl rfl) (am_lk1 (am_lk1 l6 rfl rfl) rfl rfl) (am_lk1 (am_lk1 l7 rfl rfl) rfl rfl) (am_lk1 (am_lk1 l8 rfl rfl) rfl rfl) (am_lk1 (am_lk1 l9 rfl rfl) rfl rfl) (am_lk1 (am_lk1 l10 rfl rfl) rfl rfl) (am_lk1 (am_lk1 l11 rfl rfl) rfl rfl) am_lk0 i0
        · rw [if_neg c6] at hs2
          refine aw_ifeq_f (pc1 := 159) at_266_156 c6 rfl ?_
          refine aw_iload (pc1 := 161) at_266_159 l4 rfl ?_
          refine aw_iload_n (pc1 := 162) at_266_161 l3 rfl ?_
          refine aw_isub (v := (x4 - x3)) (pc1 := 163) at_266_162 rfl rfl ?_
          cases hs2
          exact aw_iret at_266_163 (by rw [rt_266]; rfl) rfl
      · clear hs1
        exact Or.inr hs2
def fg_266_115 (X : am_X) (N : Nat) (rec_13 : Value → Int32 → Int32 → Int32 → Int32 → Int32 → am_H → Option am_O) (rec_73 : Value → Int32 → Int32 → Int32 → Int32 → Int32 → Int32 → Int32 → Int32 → am_H → Option am_O) : Nat → Value → Int32 → Int32 → Int32 → Int32 → Int32 → Int32 → Int32 → Int32 → Int32 → Int32 → Int32 → am_H → Option am_O
  | 0 => fun _ _ _ _ _ _ _ _ _ _ _ _ _ => none
  | K + 1 => fun x0 x1 x2 x3 x4 x5 x6 x7 x8 x9 x10 x11 h => ((am_pX X 30 (x8 + 1)).bind fun v1 => (if v1 ≤ x11 then (rec_73 x0 x1 x2 x3 x4 x5 x6 x7 ((x8 + 1)) h) else ((am_pX X 30 x9).bind fun v4 => (fg_266_136 X N rec_13 rec_73 (fg_266_115 X N rec_13 rec_73 K) N x0 x1 x2 x3 x4 x5 x6 x7 x8 x9 x10 x11 v4 h))))
theorem rg_266_115 {X : am_X} {d : Nat} {N : Nat} {rec_13 : Value → Int32 → Int32 → Int32 → Int32 → Int32 → am_H → Option am_O} {rec_73 : Value → Int32 → Int32 → Int32 → Int32 → Int32 → Int32 → Int32 → Int32 → am_H → Option am_O} (q_13 : ∀ (x0 : Value) (x1 : Int32) (x2 : Int32) (x3 : Int32) (x4 : Int32) (x5 : Int32) (h : am_H) (o : am_O), rec_13 x0 x1 x2 x3 x4 x5 h = some o → ∀ lv : am_LV, (lv.lookup 0 = some x0) → (lv.lookup 1 = some (.int x1)) → (lv.lookup 2 = some (.int x2)) → (lv.lookup 3 = some (.int x3)) → (lv.lookup 4 = some (.int x4)) → (lv.lookup 5 = some (.int x5)) → (am_isR x0 = true) → am_W X (d + 3) 266 13 lv [] h (fun q => q = o)) (q_73 : ∀ (x0 : Value) (x1 : Int32) (x2 : Int32) (x3 : Int32) (x4 : Int32) (x5 : Int32) (x6 : Int32) (x7 : Int32) (x8 : Int32) (h : am_H) (o : am_O), rec_73 x0 x1 x2 x3 x4 x5 x6 x7 x8 h = some o → ∀ lv : am_LV, (lv.lookup 0 = some x0) → (lv.lookup 1 = some (.int x1)) → (lv.lookup 2 = some (.int x2)) → (lv.lookup 3 = some (.int x3)) → (lv.lookup 4 = some (.int x4)) → (lv.lookup 5 = some (.int x5)) → (lv.lookup 6 = some (.int x6)) → (lv.lookup 7 = some (.int x7)) → (lv.lookup 8 = some (.int x8)) → (am_isR x0 = true) → am_W X (d + 3) 266 73 lv [] h (fun q => q = o)) : ∀ (K : Nat) (x0 : Value) (x1 : Int32) (x2 : Int32) (x3 : Int32) (x4 : Int32) (x5 : Int32) (x6 : Int32) (x7 : Int32) (x8 : Int32) (x9 : Int32) (x10 : Int32) (x11 : Int32) (h : am_H) (o : am_O), fg_266_115 X N rec_13 rec_73 K x0 x1 x2 x3 x4 x5 x6 x7 x8 x9 x10 x11 h = some o → ∀ lv : am_LV, (lv.lookup 0 = some x0) → (lv.lookup 1 = some (.int x1)) → (lv.lookup 2 = some (.int x2)) → (lv.lookup 3 = some (.int x3)) → (lv.lookup 4 = some (.int x4)) → (lv.lookup 5 = some (.int x5)) → (lv.lookup 6 = some (.int x6)) → (lv.lookup 7 = some (.int x7)) → (lv.lookup 8 = some (.int x8)) → (lv.lookup 9 = some (.int x9)) → (lv.lookup 10 = some (.int x10)) → (lv.lookup 11 = some (.int x11)) → (am_isR x0 = true) → am_W X (d + 3) 266 115 lv [] h (fun q => q = o) := by
  intro K
  induction K with
  | zero => intro x0 x1 x2 x3 x4 x5 x6 x7 x8 x9 x10 x11 h o hs; cases hs
  | succ K ih =>
    intro x0 x1 x2 x3 x4 x5 x6 x7 x8 x9 x10 x11 h o hs lv l0 l1 l2 l3 l4 l5 l6 l7 l8 l9 l10 l11 i0
    unfold fg_266_115 at hs
    refine aw_iload (pc1 := 117) at_266_115 l11 rfl ?_
    refine aw_gst (pc1 := 120) at_266_117 rfl rfl ?_
    show am_W _ _ _ _ _ [(Value.float 30), (.int x11)] _ _
    refine aw_iload (pc1 := 122) at_266_120 l8 rfl ?_
    refine aw_iconst (v := 1) (pc1 := 123) at_266_122 (by decide) rfl ?_
    refine aw_iadd (v := (x8 + 1)) (pc1 := 124) at_266_123 rfl rfl ?_
    obtain ⟨v1, e2, hs1⟩ := am_bind hs
    clear hs
    refine aw_pX (j := 30) (pc1 := 125) at_266_124 rfl rfl e2 rfl ?_
    by_cases c3 : v1 ≤ x11
    · rw [if_pos c3] at hs1
      refine aw_icge_t at_266_125 c3 ?_
      refine aw_iinc (v := (x8 + 1)) (c := 1) (lv1 := am_put1 _ 8 _) (pc1 := 182) at_266_179 l8 (by decide) rfl rfl rfl ?_
      refine aw_goto at_266_182 ?_
      exact q_73 x0 x1 x2 x3 x4 x5 x6 x7 ((x8 + 1)) h o hs1 _ (am_lk1 l0 rfl rfl) (am_lk1 l1 rfl rfl) (am_lk1 l2 rfl rfl) (am_lk1 l3 rfl rfl) (am_lk1 l4 rfl rfl) (am_lk1 l5 rfl rfl) (am_lk1 l6 rfl rfl) (am_lk1 l7 rfl rfl) am_lk0 i0
    · rw [if_neg c3] at hs1
      refine aw_icge_f (pc1 := 128) at_266_125 c3 rfl ?_
      refine aw_gst (pc1 := 131) at_266_128 rfl rfl ?_
      show am_W _ _ _ _ _ [(Value.float 30)] _ _
      refine aw_iload (pc1 := 133) at_266_131 l9 rfl ?_
      obtain ⟨v4, e5, hs2⟩ := am_bind hs1
      clear hs1
      refine aw_pX (j := 30) (pc1 := 134) at_266_133 rfl rfl e5 rfl ?_
      refine aw_istore (lv1 := am_put1 _ 12 _) (pc1 := 136) at_266_134 rfl rfl ?_
      exact rg_266_136 q_13 q_73 (fun z0 z1 z2 z3 z4 z5 z6 z7 z8 z9 z10 z11 h o hs2 => ih z0 z1 z2 z3 z4 z5 z6 z7 z8 z9 z10 z11 h o hs2) N x0 x1 x2 x3 x4 x5 x6 x7 x8 x9 x10 x11 v4 h o hs2 _ (am_lk1 l0 rfl rfl) (am_lk1 l1 rfl rfl) (am_lk1 l2 rfl rfl) (am_lk1 l3 rfl rfl) (am_lk1 l4 rfl rfl) (am_lk1 l5 rfl rfl) (am_lk1 l6 rfl rfl) (am_lk1 l7 rfl rfl) (am_lk1 l8 rfl rfl) (am_lk1 l9 rfl rfl) (am_lk1 l10 rfl rfl) (am_lk1 l11 rfl rfl) am_lk0 i0
def fg_266_105 (X : am_X) (N : Nat) (rec_13 : Value → Int32 → Int32 → Int32 → Int32 → Int32 → am_H → Option am_O) (rec_73 : Value → Int32 → Int32 → Int32 → Int32 → Int32 → Int32 → Int32 → Int32 → am_H → Option am_O) (x0 : Value) (x1 : Int32) (x2 : Int32) (x3 : Int32) (x4 : Int32) (x5 : Int32) (x6 : Int32) (x7 : Int32) (x8 : Int32) (x9 : Int32) (s0 : Int32) (h : am_H) : Option am_O := ((am_pX X 30 x8).bind fun v1 => (fg_266_115 X N rec_13 rec_73 N x0 x1 x2 x3 x4 x5 x6 x7 x8 x9 s0 v1 h))
theorem rg_266_105 {X : am_X} {d : Nat} {N : Nat} {rec_13 : Value → Int32 → Int32 → Int32 → Int32 → Int32 → am_H → Option am_O} {rec_73 : Value → Int32 → Int32 → Int32 → Int32 → Int32 → Int32 → Int32 → Int32 → am_H → Option am_O} (q_13 : ∀ (x0 : Value) (x1 : Int32) (x2 : Int32) (x3 : Int32) (x4 : Int32) (x5 : Int32) (h : am_H) (o : am_O), rec_13 x0 x1 x2 x3 x4 x5 h = some o → ∀ lv : am_LV, (lv.lookup 0 = some x0) → (lv.lookup 1 = some (.int x1)) → (lv.lookup 2 = some (.int x2)) → (lv.lookup 3 = some (.int x3)) → (lv.lookup 4 = some (.int x4)) → (lv.lookup 5 = some (.int x5)) → (am_isR x0 = true) → am_W X (d + 3) 266 13 lv [] h (fun q => q = o)) (q_73 : ∀ (x0 : Value) (x1 : Int32) (x2 : Int32) (x3 : Int32) (x4 : Int32) (x5 : Int32) (x6 : Int32) (x7 : Int32) (x8 : Int32) (h : am_H) (o : am_O), rec_73 x0 x1 x2 x3 x4 x5 x6 x7 x8 h = some o → ∀ lv : am_LV, (lv.lookup 0 = some x0) → (lv.lookup 1 = some (.int x1)) → (lv.lookup 2 = some (.int x2)) → (lv.lookup 3 = some (.int x3)) → (lv.lookup 4 = some (.int x4)) → (lv.lookup 5 = some (.int x5)) → (lv.lookup 6 = some (.int x6)) → (lv.lookup 7 = some (.int x7)) → (lv.lookup 8 = some (.int x8)) → (am_isR x0 = true) → am_W X (d + 3) 266 73 lv [] h (fun q => q = o)) {lv : am_LV} (x0 : Value) (x1 : Int32) (x2 : Int32) (x3 : Int32) (x4 : Int32) (x5 : Int32) (x6 : Int32) (x7 : Int32) (x8 : Int32) (x9 : Int32) (s0 : Int32) (h : am_H) (o : am_O) (l0 : lv.lookup 0 = some x0) (l1 : lv.lookup 1 = some (.int x1)) (l2 : lv.lookup 2 = some (.int x2)) (l3 : lv.lookup 3 = some (.int x3)) (l4 : lv.lookup 4 = some (.int x4)) (l5 : lv.lookup 5 = some (.int x5)) (l6 : lv.lookup 6 = some (.int x6)) (l7 : lv.lookup 7 = some (.int x7)) (l8 : lv.lookup 8 = some (.int x8)) (l9 : lv.lookup 9 = some (.int x9)) (i0 : am_isR x0 = true) (hs : fg_266_105 X N rec_13 rec_73 x0 x1 x2 x3 x4 x5 x6 x7 x8 x9 s0 h = some o) : am_W X (d + 3) 266 105 lv [(.int s0)] h (fun q => q = o) := by
  unfold fg_266_105 at hs
  refine aw_istore (lv1 := am_put1 _ 10 _) (pc1 := 107) at_266_105 rfl rfl ?_
  refine aw_gst (pc1 := 110) at_266_107 rfl rfl ?_
  show am_W _ _ _ _ _ [(Value.float 30)] _ _
  refine aw_iload (pc1 := 112) at_266_110 (am_lk1 l8 rfl rfl) rfl ?_
  obtain ⟨v1, e2, hs1⟩ := am_bind hs
  clear hs
  refine aw_pX (j := 30) (pc1 := 113) at_266_112 rfl rfl e2 rfl ?_
  refine aw_istore (lv1 := am_put1 _ 11 _) (pc1 := 115) at_266_113 rfl rfl ?_
  exact rg_266_115 q_13 q_73 N x0 x1 x2 x3 x4 x5 x6 x7 x8 x9 s0 v1 h o hs1 _ (am_lk1 (am_lk1 l0 rfl rfl) rfl rfl) (am_lk1 (am_lk1 l1 rfl rfl) rfl rfl) (am_lk1 (am_lk1 l2 rfl rfl) rfl rfl) (am_lk1 (am_lk1 l3 rfl rfl) rfl rfl) (am_lk1 (am_lk1 l4 rfl rfl) rfl rfl) (am_lk1 (am_lk1 l5 rfl rfl) rfl rfl) (am_lk1 (am_lk1 l6 rfl rfl) rfl rfl) (am_lk1 (am_lk1 l7 rfl rfl) rfl rfl) (am_lk1 (am_lk1 l8 rfl rfl) rfl rfl) (am_lk1 (am_lk1 l9 rfl rfl) rfl rfl) (am_lk1 am_lk0 rfl rfl) am_lk0 i0
def fg_266_73 (X : am_X) (N : Nat) (rec_13 : Value → Int32 → Int32 → Int32 → Int32 → Int32 → am_H → Option am_O) : Nat → Value → Int32 → Int32 → Int32 → Int32 → Int32 → Int32 → Int32 → Int32 → am_H → Option am_O
  | 0 => fun _ _ _ _ _ _ _ _ _ _ => none
  | K + 1 => fun x0 x1 x2 x3 x4 x5 x6 x7 x8 h => (if x7 ≤ x8 then (rec_13 x0 x1 x2 x3 x4 ((x5 + 1)) h) else (if x6 = 0 then ((am_pX X 30 (((x1 - 1) - x8) + 1)).bind fun v3 => (fg_266_105 X N rec_13 (fg_266_73 X N rec_13 K) x0 x1 x2 x3 x4 x5 x6 x7 x8 (((x1 - 1) - x8)) v3 h)) else (fg_266_105 X N rec_13 (fg_266_73 X N rec_13 K) x0 x1 x2 x3 x4 x5 x6 x7 x8 (((x1 - 1) - x8)) 1 h)))
theorem rg_266_73 {X : am_X} {d : Nat} {N : Nat} {rec_13 : Value → Int32 → Int32 → Int32 → Int32 → Int32 → am_H → Option am_O} (q_13 : ∀ (x0 : Value) (x1 : Int32) (x2 : Int32) (x3 : Int32) (x4 : Int32) (x5 : Int32) (h : am_H) (o : am_O), rec_13 x0 x1 x2 x3 x4 x5 h = some o → ∀ lv : am_LV, (lv.lookup 0 = some x0) → (lv.lookup 1 = some (.int x1)) → (lv.lookup 2 = some (.int x2)) → (lv.lookup 3 = some (.int x3)) → (lv.lookup 4 = some (.int x4)) → (lv.lookup 5 = some (.int x5)) → (am_isR x0 = true) → am_W X (d + 3) 266 13 lv [] h (fun q => q = o)) : ∀ (K : Nat) (x0 : Value) (x1 : Int32) (x2 : Int32) (x3 : Int32) (x4 : Int32) (x5 : Int32) (x6 : Int32) (x7 : Int32) (x8 : Int32) (h : am_H) (o : am_O), fg_266_73 X N rec_13 K x0 x1 x2 x3 x4 x5 x6 x7 x8 h = some o → ∀ lv : am_LV, (lv.lookup 0 = some x0) → (lv.lookup 1 = some (.int x1)) → (lv.lookup 2 = some (.int x2)) → (lv.lookup 3 = some (.int x3)) → (lv.lookup 4 = some (.int x4)) → (lv.lookup 5 = some (.int x5)) → (lv.lookup 6 = some (.int x6)) → (lv.lookup 7 = some (.int x7)) → (lv.lookup 8 = some (.int x8)) → (am_isR x0 = true) → am_W X (d + 3) 266 73 lv [] h (fun q => q = o) := by
  intro K
  induction K with
  | zero => intro x0 x1 x2 x3 x4 x5 x6 x7 x8 h o hs; cases hs
  | succ K ih =>
    intro x0 x1 x2 x3 x4 x5 x6 x7 x8 h o hs lv l0 l1 l2 l3 l4 l5 l6 l7 l8 i0
    unfold fg_266_73 at hs
    refine aw_iload (pc1 := 75) at_266_73 l8 rfl ?_
    refine aw_iload (pc1 := 77) at_266_75 l7 rfl ?_
    by_cases c1 : x7 ≤ x8
    · rw [if_pos c1] at hs
      refine aw_icge_t at_266_77 c1 ?_
      refine aw_iinc (v := (x5 + 1)) (c := 1) (lv1 := am_put1 _ 5 _) (pc1 := 188) at_266_185 l5 (by decide) rfl rfl rfl ?_
      refine aw_goto at_266_188 ?_
      exact q_13 x0 x1 x2 x3 x4 ((x5 + 1)) h o hs _ (am_lk1 l0 rfl rfl) (am_lk1 l1 rfl rfl) (am_lk1 l2 rfl rfl) (am_lk1 l3 rfl rfl) (am_lk1 l4 rfl rfl) am_lk0 i0
    · rw [if_neg c1] at hs
      refine aw_icge_f (pc1 := 80) at_266_77 c1 rfl ?_
      refine aw_iload_n (pc1 := 81) at_266_80 l1 rfl ?_
      refine aw_iconst (v := 1) (pc1 := 82) at_266_81 (by decide) rfl ?_
      refine aw_isub (v := (x1 - 1)) (pc1 := 83) at_266_82 rfl rfl ?_
      refine aw_iload (pc1 := 85) at_266_83 l8 rfl ?_
      refine aw_isub (v := ((x1 - 1) - x8)) (pc1 := 86) at_266_85 rfl rfl ?_
      refine aw_istore (lv1 := am_put1 _ 9 _) (pc1 := 88) at_266_86 rfl rfl ?_
      refine aw_iload (pc1 := 90) at_266_88 (am_lk1 l6 rfl rfl) rfl ?_
      by_cases c2 : x6 = 0
      · rw [if_pos c2] at hs
        refine aw_ifeq_t at_266_90 c2 ?_
        refine aw_gst (pc1 := 100) at_266_97 rfl rfl ?_
        show am_W _ _ _ _ _ [(Value.float 30)] _ _
        refine aw_iload (pc1 := 102) at_266_100 am_lk0 rfl ?_
        refine aw_iconst (v := 1) (pc1 := 103) at_266_102 (by decide) rfl ?_
        refine aw_iadd (v := (((x1 - 1) - x8) + 1)) (pc1 := 104) at_266_103 rfl rfl ?_
        obtain ⟨v3, e4, hs1⟩ := am_bind hs
        clear hs
        refine aw_pX (j := 30) (pc1 := 105) at_266_104 rfl rfl e4 rfl ?_
        exact rg_266_105 q_13 (fun z0 z1 z2 z3 z4 z5 z6 z7 z8 h o hs1 => ih z0 z1 z2 z3 z4 z5 z6 z7 z8 h o hs1) x0 x1 x2 x3 x4 x5 x6 x7 x8 (((x1 - 1) - x8)) v3 h o (am_lk1 l0 rfl rfl) (am_lk1 l1 rfl rfl) (am_lk1 l2 rfl rfl) (am_lk1 l3 rfl rfl) (am_lk1 l4 rfl rfl) (am_lk1 l5 rfl rfl) (am_lk1 l6 rfl rfl) (am_lk1 l7 rfl rfl) (am_lk1 l8 rfl rfl) am_lk0 i0 hs1
      · rw [if_neg c2] at hs
        refine aw_ifeq_f (pc1 := 93) at_266_90 c2 rfl ?_
        refine aw_iconst (v := 1) (pc1 := 94) at_266_93 (by decide) rfl ?_
        refine aw_goto at_266_94 ?_
        exact rg_266_105 q_13 (fun z0 z1 z2 z3 z4 z5 z6 z7 z8 h o hs => ih z0 z1 z2 z3 z4 z5 z6 z7 z8 h o hs) x0 x1 x2 x3 x4 x5 x6 x7 x8 (((x1 - 1) - x8)) 1 h o (am_lk1 l0 rfl rfl) (am_lk1 l1 rfl rfl) (am_lk1 l2 rfl rfl) (am_lk1 l3 rfl rfl) (am_lk1 l4 rfl rfl) (am_lk1 l5 rfl rfl) (am_lk1 l6 rfl rfl) (am_lk1 l7 rfl rfl) (am_lk1 l8 rfl rfl) am_lk0 i0 hs
def fg_266_71 (X : am_X) (N : Nat) (rec_13 : Value → Int32 → Int32 → Int32 → Int32 → Int32 → am_H → Option am_O) (x0 : Value) (x1 : Int32) (x2 : Int32) (x3 : Int32) (x4 : Int32) (x5 : Int32) (x6 : Int32) (x7 : Int32) (s0 : Int32) (h : am_H) : Option am_O := (fg_266_73 X N rec_13 N x0 x1 x2 x3 x4 x5 x6 x7 s0 h)
theorem rg_266_71 {X : am_X} {d : Nat} {N : Nat} {rec_13 : Value → Int32 → Int32 → Int32 → Int32 → Int32 → am_H → Option am_O} (q_13 : ∀ (x0 : Value) (x1 : Int32) (x2 : Int32) (x3 : Int32) (x4 : Int32) (x5 : Int32) (h : am_H) (o : am_O), rec_13 x0 x1 x2 x3 x4 x5 h = some o → ∀ lv : am_LV, (lv.lookup 0 = some x0) → (lv.lookup 1 = some (.int x1)) → (lv.lookup 2 = some (.int x2)) → (lv.lookup 3 = some (.int x3)) → (lv.lookup 4 = some (.int x4)) → (lv.lookup 5 = some (.int x5)) → (am_isR x0 = true) → am_W X (d + 3) 266 13 lv [] h (fun q => q = o)) {lv : am_LV} (x0 : Value) (x1 : Int32) (x2 : Int32) (x3 : Int32) (x4 : Int32) (x5 : Int32) (x6 : Int32) (x7 : Int32) (s0 : Int32) (h : am_H) (o : am_O) (l0 : lv.lookup 0 = some x0) (l1 : lv.lookup 1 = some (.int x1)) (l2 : lv.lookup 2 = some (.int x2)) (l3 : lv.lookup 3 = some (.int x3)) (l4 : lv.lookup 4 = some (.int x4)) (l5 : lv.lookup 5 = some (.int x5)) (l6 : lv.lookup 6 = some (.int x6)) (l7 : lv.lookup 7 = some (.int x7)) (i0 : am_isR x0 = true) (hs : fg_266_71 X N rec_13 x0 x1 x2 x3 x4 x5 x6 x7 s0 h = some o) : am_W X (d + 3) 266 71 lv [(.int s0)] h (fun q => q = o) := by
  unfold fg_266_71 at hs
  refine aw_istore (lv1 := am_put1 _ 8 _) (pc1 := 73) at_266_71 rfl rfl ?_
  exact rg_266_73 q_13 N x0 x1 x2 x3 x4 x5 x6 x7 s0 h o hs _ (am_lk1 l0 rfl rfl) (am_lk1 l1 rfl rfl) (am_lk1 l2 rfl rfl) (am_lk1 l3 rfl rfl) (am_lk1 l4 rfl rfl) (am_lk1 l5 rfl rfl) (am_lk1 l6 rfl rfl) (am_lk1 l7 rfl rfl) am_lk0 i0
def fg_266_57 (X : am_X) (N : Nat) (rec_13 : Value → Int32 → Int32 → Int32 → Int32 → Int32 → am_H → Option am_O) (x0 : Value) (x1 : Int32) (x2 : Int32) (x3 : Int32) (x4 : Int32) (x5 : Int32) (x6 : Int32) (s0 : Int32) (h : am_H) : Option am_O := (if x6 = 0 then (fg_266_71 X N rec_13 x0 x1 x2 x3 x4 x5 x6 s0 1 h) else (fg_266_71 X N rec_13 x0 x1 x2 x3 x4 x5 x6 s0 ((x1 - 1)) h))
theorem rg_266_57 {X : am_X} {d : Nat} {N : Nat} {rec_13 : Value → Int32 → Int32 → Int32 → Int32 → Int32 → am_H → Option am_O} (q_13 : ∀ (x0 : Value) (x1 : Int32) (x2 : Int32) (x3 : Int32) (x4 : Int32) (x5 : Int32) (h : am_H) (o : am_O), rec_13 x0 x1 x2 x3 x4 x5 h = some o → ∀ lv : am_LV, (lv.lookup 0 = some x0) → (lv.lookup 1 = some (.int x1)) → (lv.lookup 2 = some (.int x2)) → (lv.lookup 3 = some (.int x3)) → (lv.lookup 4 = some (.int x4)) → (lv.lookup 5 = some (.int x5)) → (am_isR x0 = true) → am_W X (d + 3) 266 13 lv [] h (fun q => q = o)) {lv : am_LV} (x0 : Value) (x1 : Int32) (x2 : Int32) (x3 : Int32) (x4 : Int32) (x5 : Int32) (x6 : Int32) (s0 : Int32) (h : am_H) (o : am_O) (l0 : lv.lookup 0 = some x0) (l1 : lv.lookup 1 = some (.int x1)) (l2 : lv.lookup 2 = some (.int x2)) (l3 : lv.lookup 3 = some (.int x3)) (l4 : lv.lookup 4 = some (.int x4)) (l5 : lv.lookup 5 = some (.int x5)) (l6 : lv.lookup 6 = some (.int x6)) (i0 : am_isR x0 = true) (hs : fg_266_57 X N rec_13 x0 x1 x2 x3 x4 x5 x6 s0 h = some o) : am_W X (d + 3) 266 57 lv [(.int s0)] h (fun q => q = o) := by
  unfold fg_266_57 at hs
  refine aw_istore (lv1 := am_put1 _ 7 _) (pc1 := 59) at_266_57 rfl rfl ?_
  refine aw_iload (pc1 := 61) at_266_59 (am_lk1 l6 rfl rfl) rfl ?_
  by_cases c1 : x6 = 0
  · rw [if_pos c1] at hs
    refine aw_ifeq_t at_266_61 c1 ?_
    refine aw_iconst (v := 1) (pc1 := 71) at_266_70 (by decide) rfl ?_
    exact rg_266_71 q_13 x0 x1 x2 x3 x4 x5 x6 s0 1 h o (am_lk1 l0 rfl rfl) (am_lk1 l1 rfl rfl) (am_lk1 l2 rfl rfl) (am_lk1 l3 rfl rfl) (am_lk1 l4 rfl rfl) (am_lk1 l5 rfl rfl) (am_lk1 l6 rfl rfl) am_lk0 i0 hs
  · rw [if_neg c1] at hs
    refine aw_ifeq_f (pc1 := 64) at_266_61 c1 rfl ?_
    refine aw_iload_n (pc1 := 65) at_266_64 (am_lk1 l1 rfl rfl) rfl ?_
    refine aw_iconst (v := 1) (pc1 := 66) at_266_65 (by decide) rfl ?_
    refine aw_isub (v := (x1 - 1)) (pc1 := 67) at_266_66 rfl rfl ?_
    refine aw_goto at_266_67 ?_
    exact rg_266_71 q_13 x0 x1 x2 x3 x4 x5 x6 s0 ((x1 - 1)) h o (am_lk1 l0 rfl rfl) (am_lk1 l1 rfl rfl) (am_lk1 l2 rfl rfl) (am_lk1 l3 rfl rfl) (am_lk1 l4 rfl rfl) (am_lk1 l5 rfl rfl) (am_lk1 l6 rfl rfl) am_lk0 i0 hs
def fg_266_32 (X : am_X) (N : Nat) (rec_13 : Value → Int32 → Int32 → Int32 → Int32 → Int32 → am_H → Option am_O) (x0 : Value) (x1 : Int32) (x2 : Int32) (x3 : Int32) (x4 : Int32) (x5 : Int32) (s0 : Int32) (h : am_H) : Option am_O := (if ¬ x5 = 9 then (if s0 = 0 then (fg_266_57 X N rec_13 x0 x1 x2 x3 x4 x5 s0 ((x1 - 1)) h) else (fg_266_57 X N rec_13 x0 x1 x2 x3 x4 x5 s0 x1 h)) else (fg_266_57 X N rec_13 x0 x1 x2 x3 x4 x5 s0 0 h))
theorem rg_266_32 {X : am_X} {d : Nat} {N : Nat} {rec_13 : Value → Int32 → Int32 → Int32 → Int32 → Int32 → am_H → Option am_O} (q_13 : ∀ (x0 : Value) (x1 : Int32) (x2 : Int32) (x3 : Int32) (x4 : Int32) (x5 : Int32) (h : am_H) (o : am_O), rec_13 x0 x1 x2 x3 x4 x5 h = some o → ∀ lv : am_LV, (lv.lookup 0 = some x0) → (lv.lookup 1 = some (.int x1)) → (lv.lookup 2 = some (.int x2)) → (lv.lookup 3 = some (.int x3)) → (lv.lookup 4 = some (.int x4)) → (lv.lookup 5 = some (.int x5)) → (am_isR x0 = true) → am_W X (d + 3) 266 13 lv [] h (fun q => q = o)) {lv : am_LV} (x0 : Value) (x1 : Int32) (x2 : Int32) (x3 : Int32) (x4 : Int32) (x5 : Int32) (s0 : Int32) (h : am_H) (o : am_O) (l0 : lv.lookup 0 = some x0) (l1 : lv.lookup 1 = some (.int x1)) (l2 : lv.lookup 2 = some (.int x2)) (l3 : lv.lookup 3 = some (.int x3)) (l4 : lv.lookup 4 = some (.int x4)) (l5 : lv.lookup 5 = some (.int x5)) (i0 : am_isR x0 = true) (hs : fg_266_32 X N rec_13 x0 x1 x2 x3 x4 x5 s0 h = some o) : am_W X (d + 3) 266 32 lv [(.int s0)] h (fun q => q = o) := by
  unfold fg_266_32 at hs
  refine aw_istore (lv1 := am_put1 _ 6 _) (pc1 := 34) at_266_32 rfl rfl ?_
  refine aw_iload (pc1 := 36) at_266_34 (am_lk1 l5 rfl rfl) rfl ?_
  refine aw_bipush (v := 9) (pc1 := 38) at_266_36 (by decide) rfl ?_
  by_cases c1 : ¬ x5 = 9
  · rw [if_pos c1] at hs
    refine aw_icne_t at_266_38 c1 ?_
    refine aw_iload (pc1 := 47) at_266_45 am_lk0 rfl ?_
    by_cases c2 : s0 = 0
    · rw [if_pos c2] at hs
      refine aw_ifeq_t at_266_47 c2 ?_
      refine aw_iload_n (pc1 := 55) at_266_54 (am_lk1 l1 rfl rfl) rfl ?_
      refine aw_iconst (v := 1) (pc1 := 56) at_266_55 (by decide) rfl ?_
      refine aw_isub (v := (x1 - 1)) (pc1 := 57) at_266_56 rfl rfl ?_
      exact rg_266_57 q_13 x0 x1 x2 x3 x4 x5 s0 ((x1 - 1)) h o (am_lk1 l0 rfl rfl) (am_lk1 l1 rfl rfl) (am_lk1 l2 rfl rfl) (am_lk1 l3 rfl rfl) (am_lk1 l4 rfl rfl) (am_lk1 l5 rfl rfl) am_lk0 i0 hs
    · rw [if_neg c2] at hs
      refine aw_ifeq_f (pc1 := 50) at_266_47 c2 rfl ?_
      refine aw_iload_n (pc1 := 51) at_266_50 (am_lk1 l1 rfl rfl) rfl ?_
      refine aw_goto at_266_51 ?_
      exact rg_266_57 q_13 x0 x1 x2 x3 x4 x5 s0 x1 h o (am_lk1 l0 rfl rfl) (am_lk1 l1 rfl rfl) (am_lk1 l2 rfl rfl) (am_lk1 l3 rfl rfl) (am_lk1 l4 rfl rfl) (am_lk1 l5 rfl rfl) am_lk0 i0 hs
  · rw [if_neg c1] at hs
    refine aw_icne_f (pc1 := 41) at_266_38 c1 rfl ?_
    refine aw_iconst (v := 0) (pc1 := 42) at_266_41 (by decide) rfl ?_
    refine aw_goto at_266_42 ?_
    exact rg_266_57 q_13 x0 x1 x2 x3 x4 x5 s0 0 h o (am_lk1 l0 rfl rfl) (am_lk1 l1 rfl rfl) (am_lk1 l2 rfl rfl) (am_lk1 l3 rfl rfl) (am_lk1 l4 rfl rfl) (am_lk1 l5 rfl rfl) am_lk0 i0 hs
def fg_266_13 (X : am_X) (N : Nat) : Nat → Value → Int32 → Int32 → Int32 → Int32 → Int32 → am_H → Option am_O
  | 0 => fun _ _ _ _ _ _ _ => none
  | K + 1 => fun x0 x1 x2 x3 x4 x5 h => (if 14 < x5 then some (.inl (some (.int (-1)), h)) else (if 9 ≤ x5 then (fg_266_32 X N (fg_266_13 X N K) x0 x1 x2 x3 x4 x5 0 h) else (fg_266_32 X N (fg_266_13 X N K) x0 x1 x2 x3 x4 x5 1 h)))
theorem rg_266_13 {X : am_X} {d : Nat} {N : Nat} : ∀ (K : Nat) (x0 : Value) (x1 : Int32) (x2 : Int32) (x3 : Int32) (x4 : Int32) (x5 : Int32) (h : am_H) (o : am_O), fg_266_13 X N K x0 x1 x2 x3 x4 x5 h = some o → ∀ lv : am_LV, (lv.lookup 0 = some x0) → (lv.lookup 1 = some (.int x1)) → (lv.lookup 2 = some (.int x2)) → (lv.lookup 3 = some (.int x3)) → (lv.lookup 4 = some (.int x4)) → (lv.lookup 5 = some (.int x5)) → (am_isR x0 = true) → am_W X (d + 3) 266 13 lv [] h (fun q => q = o) := by
  intro K
  induction K with
  | zero => intro x0 x1 x2 x3 x4 x5 h o hs; cases hs
  | succ K ih =>
    intro x0 x1 x2 x3 x4 x5 h o hs lv l0 l1 l2 l3 l4 l5 i0
    unfold fg_266_13 at hs
    refine aw_iload (pc1 := 15) at_266_13 l5 rfl ?_
    refine aw_bipush (v := 14) (pc1 := 17) at_266_15 (by decide) rfl ?_
    by_cases c1 : 14 < x5
    · rw [if_pos c1] at hs
      refine aw_icgt_t at_266_17 c1 ?_
      refine aw_iconst (v := (-1)) (pc1 := 192) at_266_191 (by decide) rfl ?_
      cases hs
      exact aw_iret at_266_192 (by rw [rt_266]; rfl) rfl
    · rw [if_neg c1] at hs
      refine aw_icgt_f (pc1 := 20) at_266_17 c1 rfl ?_
      refine aw_iload (pc1 := 22) at_266_20 l5 rfl ?_
      refine aw_bipush (v := 9) (pc1 := 24) at_266_22 (by decide) rfl ?_
      by_cases c2 : 9 ≤ x5
      · rw [if_pos c2] at hs
        refine aw_icge_t at_266_24 c2 ?_
        refine aw_iconst (v := 0) (pc1 := 32) at_266_31 (by decide) rfl ?_
        exact rg_266_32 (fun z0 z1 z2 z3 z4 z5 h o hs => ih z0 z1 z2 z3 z4 z5 h o hs) x0 x1 x2 x3 x4 x5 0 h o l0 l1 l2 l3 l4 l5 i0 hs
      · rw [if_neg c2] at hs
        refine aw_icge_f (pc1 := 27) at_266_24 c2 rfl ?_
        refine aw_iconst (v := 1) (pc1 := 28) at_266_27 (by decide) rfl ?_
        refine aw_goto at_266_28 ?_
        exact rg_266_32 (fun z0 z1 z2 z3 z4 z5 h o hs => ih z0 z1 z2 z3 z4 z5 h o hs) x0 x1 x2 x3 x4 x5 1 h o l0 l1 l2 l3 l4 l5 i0 hs
def fg_266_0 (X : am_X) (N : Nat) (x0 : Value) (x1 : Int32) (x2 : Int32) (h : am_H) : Option am_O := ((am_pX X 30 x1).bind fun v1 => (fg_266_13 X N N x0 x1 x2 v1 v1 7 h))
theorem rg_266_0 {X : am_X} {d : Nat} {N : Nat} {lv : am_LV} (x0 : Value) (x1 : Int32) (x2 : Int32) (h : am_H) (o : am_O) (l0 : lv.lookup 0 = some x0) (l1 : lv.lookup 1 = some (.int x1)) (l2 : lv.lookup 2 = some (.int x2)) (i0 : am_isR x0 = true) (hs : fg_266_0 X N x0 x1 x2 h = some o) : am_W X (d + 3) 266 0 lv [] h (fun q => q = o) := by
  unfold fg_266_0 at hs
  refine aw_gst (pc1 := 3) at_266_0 rfl rfl ?_
  show am_W _ _ _ _ _ [(Value.float 30)] _ _
  refine aw_iload_n (pc1 := 4) at_266_3 l1 rfl ?_
  obtain ⟨v1, e2, hs1⟩ := am_bind hs
  clear hs
  refine aw_pX (j := 30) (pc1 := 5) at_266_4 rfl rfl e2 rfl ?_
  refine aw_istore_n (lv1 := am_put1 _ 3 _) (pc1 := 6) at_266_5 rfl rfl ?_
  refine aw_iload_n (pc1 := 7) at_266_6 am_lk0 rfl ?_
  refine aw_istore (lv1 := am_put1 _ 4 _) (pc1 := 9) at_266_7 rfl rfl ?_
  refine aw_bipush (v := 7) (pc1 := 11) at_266_9 (by decide) rfl ?_
  refine aw_istore (lv1 := am_put1 _ 5 _) (pc1 := 13) at_266_11 rfl rfl ?_
  exact rg_266_13 N x0 x1 x2 v1 v1 7 h o hs1 _ (am_lk1 (am_lk1 (am_lk1 l0 rfl rfl) rfl rfl) rfl rfl) (am_lk1 (am_lk1 (am_lk1 l1 rfl rfl) rfl rfl) rfl rfl) (am_lk1 (am_lk1 (am_lk1 l2 rfl rfl) rfl rfl) rfl rfl) (am_lk1 (am_lk1 am_lk0 rfl rfl) rfl rfl) (am_lk1 am_lk0 rfl rfl) am_lk0 i0
def fm_266 (X : am_X) (N : Nat) (y0 : Value) (y1 : Int32) (y2 : Int32) (h : am_H) : Option am_O := fg_266_0 X N y0 y1 y2 h
theorem rm_266 {X : am_X} {d : Nat} {N : Nat} (y0 : Value) (y1 : Int32) (y2 : Int32) (h : am_H) (o : am_O) (i0 : am_isR y0 = true) (hs : fm_266 X N y0 y1 y2 h = some o) : am_W X (d + 3) 266 0 (am_args 0 [y0, .int y1, .int y2]) [] h (fun q => q = o) := by
  rw [am_args_R i0, am_args_I, am_args_I]
  exact rg_266_0 y0 y1 y2 h o rfl rfl rfl i0 hs
def fg_262_124 (X : am_X) (N : Nat) (x3 : Int32) (h : am_H) : Option am_O := some (.inl (some (.int x3), h))
theorem rg_262_124 {X : am_X} {d : Nat} {N : Nat} {lv : am_LV} (x3 : Int32) (h : am_H) (o : am_O) (l3 : lv.lookup 3 = some (.int x3)) (hs : fg_262_124 X N x3 h = some o) : am_W X (d + 4) 262 124 lv [] h (fun q => q = o) := by
  unfold fg_262_124 at hs
  refine aw_iload_n (pc1 := 125) at_262_124 l3 rfl ?_
  cases hs
  exact aw_iret at_262_125 (by rw [rt_262]; rfl) rfl
def fg_262_117 (X : am_X) (N : Nat) (rec_61 : Value → Int32 → Int32 → Int32 → am_H → Option am_O) (x0 : Value) (x2 : Int32) (x4 : Int32) (s0 : Int32) (h : am_H) : Option am_O := (rec_61 x0 x2 s0 ((x4 + 1)) h)
theorem rg_262_117 {X : am_X} {d : Nat} {N : Nat} {rec_61 : Value → Int32 → Int32 → Int32 → am_H → Option am_O} (q_61 : ∀ (x0 : Value) (x2 : Int32) (x3 : Int32) (x4 : Int32) (h : am_H) (o : am_O), rec_61 x0 x2 x3 x4 h = some o → ∀ lv : am_LV, (lv.lookup 0 = some x0) → (lv.lookup 2 = some (.int x2)) → (lv.lookup 3 = some (.int x3)) → (lv.lookup 4 = some (.int x4)) → (am_isR x0 = true) → am_W X (d + 4) 262 61 lv [] h (fun q => q = o)) {lv : am_LV} (x0 : Value) (x2 : Int32) (x4 : Int32) (s0 : Int32) (h : am_H) (o : am_O) (l0 : lv.lookup 0 = some x0) (l2 : lv.lookup 2 = some (.int x2)) (l4 : lv.lookup 4 = some (.int x4)) (i0 : am_isR x0 = true) (hs : fg_262_117 X N rec_61 x0 x2 x4 s0 h = some o) : am_W X (d + 4) 262 117 lv [(.int s0)] h (fun q => q = o) := by
  unfold fg_262_117 at hs
  refine aw_istore_n (lv1 := am_put1 _ 3 _) (pc1 := 118) at_262_117 rfl rfl ?_
  refine aw_iinc (v := (x4 + 1)) (c := 1) (lv1 := am_put1 _ 4 _) (pc1 := 121) at_262_118 (am_lk1 l4 rfl rfl) (by decide) rfl rfl rfl ?_
  refine aw_goto at_262_121 ?_
  exact q_61 x0 x2 s0 ((x4 + 1)) h o hs _ (am_lk1 (am_lk1 l0 rfl rfl) rfl rfl) (am_lk1 (am_lk1 l2 rfl rfl) rfl rfl) (am_lk1 am_lk0 rfl rfl) am_lk0 i0
def fg_262_114 (X : am_X) (N : Nat) (rec_61 : Value → Int32 → Int32 → Int32 → am_H → Option am_O) (x0 : Value) (x2 : Int32) (x4 : Int32) (s0 : Value) (s1 : Int32) (s2 : Int32) (h : am_H) : Option am_O := (if am_pOk 4 s0 h then am_cI true (fm_266 X N s0 s1 s2 h) (fun v2 h3 => (fg_262_117 X N rec_61 x0 x2 x4 v2 h3)) else none)
theorem rg_262_114 {X : am_X} {d : Nat} {N : Nat} {rec_61 : Value → Int32 → Int32 → Int32 → am_H → Option am_O} (q_61 : ∀ (x0 : Value) (x2 : Int32) (x3 : Int32) (x4 : Int32) (h : am_H) (o : am_O), rec_61 x0 x2 x3 x4 h = some o → ∀ lv : am_LV, (lv.lookup 0 = some x0) → (lv.lookup 2 = some (.int x2)) → (lv.lookup 3 = some (.int x3)) → (lv.lookup 4 = some (.int x4)) → (am_isR x0 = true) → am_W X (d + 4) 262 61 lv [] h (fun q => q = o)) {lv : am_LV} (x0 : Value) (x2 : Int32) (x4 : Int32) (s0 : Value) (s1 : Int32) (s2 : Int32) (h : am_H) (o : am_O) (l0 : lv.lookup 0 = some x0) (l2 : lv.lookup 2 = some (.int x2)) (l4 : lv.lookup 4 = some (.int x4)) (i0 : am_isR x0 = true) (j0 : am_isR s0 = true) (hs : fg_262_114 X N rec_61 x0 x2 x4 s0 s1 s2 h = some o) : am_W X (d + 4) 262 114 lv [(.int s2), (.int s1), s0] h (fun q => q = o) := by
  unfold fg_262_114 at hs
  obtain ⟨z1, hs1⟩ := am_ift hs
  clear hs
  refine aw_call (F := fm_266 X N s0 s1 s2 h) (t := true) (na := 3) (kd := 1) (as := [s0, (.int s1), (.int s2)]) at_262_114 (am_k3v kb_266) mn_266 mk_266 rfl rfl (am_ok_v mi_266 (am_hl rfl (am_ccR j0 (am_ccI (am_ccI am_cats_0))) rfl) z1) (am_hc am_cats_0 rfl) (fun _ => ⟨rfl, hh_262⟩) (fun o1 hz9 => rm_266 s0 s1 s2 h o1 j0 hz9) ?_
  rcases am_cI_s hs1 with ⟨v2, h3, f4, hs2⟩ | hs2
  · clear hs1
    refine Or.inl ⟨_, _, f4, ?_⟩
    show am_W X _ 262 117 _ [(.int v2)] h3 _
    exact rg_262_117 q_61 x0 x2 x4 v2 h3 o l0 l2 l4 i0 hs2
  · clear hs1
    exact Or.inr hs2
def fg_262_94 (X : am_X) (N : Nat) (rec_61 : Value → Int32 → Int32 → Int32 → am_H → Option am_O) (x0 : Value) (x2 : Int32) (x4 : Int32) (s0 : Value) (s1 : Int32) (h : am_H) : Option am_O := (if am_pOk 4 s0 h then am_cI true (fm_263 N s0 s1 h) (fun v2 h3 => (fg_262_117 X N rec_61 x0 x2 x4 v2 h3)) else none)
theorem rg_262_94 {X : am_X} {d : Nat} {N : Nat} {rec_61 : Value → Int32 → Int32 → Int32 → am_H → Option am_O} (q_61 : ∀ (x0 : Value) (x2 : Int32) (x3 : Int32) (x4 : Int32) (h : am_H) (o : am_O), rec_61 x0 x2 x3 x4 h = some o → ∀ lv : am_LV, (lv.lookup 0 = some x0) → (lv.lookup 2 = some (.int x2)) → (lv.lookup 3 = some (.int x3)) → (lv.lookup 4 = some (.int x4)) → (am_isR x0 = true) → am_W X (d + 4) 262 61 lv [] h (fun q => q = o)) {lv : am_LV} (x0 : Value) (x2 : Int32) (x4 : Int32) (s0 : Value) (s1 : Int32) (h : am_H) (o : am_O) (l0 : lv.lookup 0 = some x0) (l2 : lv.lookup 2 = some (.int x2)) (l4 : lv.lookup 4 = some (.int x4)) (i0 : am_isR x0 = true) (j0 : am_isR s0 = true) (hs : fg_262_94 X N rec_61 x0 x2 x4 s0 s1 h = some o) : am_W X (d + 4) 262 94 lv [(.int s1), s0] h (fun q => q = o) := by
  unfold fg_262_94 at hs
  obtain ⟨z1, hs1⟩ := am_ift hs
  clear hs
  refine aw_call (F := fm_263 N s0 s1 h) (t := true) (na := 2) (kd := 1) (as := [s0, (.int s1)]) at_262_94 (am_k3v kb_263) mn_263 mk_263 rfl rfl (am_ok_v mi_263 (am_hl rfl (am_ccR j0 (am_ccI am_cats_0)) rfl) z1) (am_hc am_cats_0 rfl) (fun _ => ⟨rfl, hh_262⟩) (fun o1 hz9 => rm_263 s0 s1 h o1 j0 hz9) ?_
  rcases am_cI_s hs1 with ⟨v2, h3, f4, hs2⟩ | hs2
  · clear hs1
    refine Or.inl ⟨_, _, f4, ?_⟩
    show am_W X _ 262 97 _ [(.int v2)] h3 _
    refine aw_goto at_262_97 ?_
    exact rg_262_117 q_61 x0 x2 x4 v2 h3 o l0 l2 l4 i0 hs2
  · clear hs1
    exact Or.inr hs2
def fg_262_61 (X : am_X) (N : Nat) : Nat → Value → Int32 → Int32 → Int32 → am_H → Option am_O
  | 0 => fun _ _ _ _ _ => none
  | K + 1 => fun x0 x2 x3 x4 h => (if 0 ≤ x3 then (fg_262_124 X N x3 h) else (if x2 < x4 then (fg_262_124 X N x3 h) else ((am_pP 1032 x0 (.int x4) h).bind fun h3 => (if ¬ x4 = 1 then (if x2 ≤ x4 then (fg_262_114 X N (fg_262_61 X N K) x0 x2 x4 x0 x4 0 h3) else (fg_262_114 X N (fg_262_61 X N K) x0 x2 x4 x0 x4 1 h3)) else (if x2 ≤ 1 then (fg_262_94 X N (fg_262_61 X N K) x0 x2 x4 x0 0 h3) else (fg_262_94 X N (fg_262_61 X N K) x0 x2 x4 x0 1 h3))))))
theorem rg_262_61 {X : am_X} {d : Nat} {N : Nat} : ∀ (K : Nat) (x0 : Value) (x2 : Int32) (x3 : Int32) (x4 : Int32) (h : am_H) (o : am_O), fg_262_61 X N K x0 x2 x3 x4 h = some o → ∀ lv : am_LV, (lv.lookup 0 = some x0) → (lv.lookup 2 = some (.int x2)) → (lv.lookup 3 = some (.int x3)) → (lv.lookup 4 = some (.int x4)) → (am_isR x0 = true) → am_W X (d + 4) 262 61 lv [] h (fun q => q = o) := by
  intro K
  induction K with
  | zero => intro x0 x2 x3 x4 h o hs; cases hs
  | succ K ih =>
    intro x0 x2 x3 x4 h o hs lv l0 l2 l3 l4 i0
    unfold fg_262_61 at hs
    refine aw_iload_n (pc1 := 62) at_262_61 l3 rfl ?_
    by_cases c1 : 0 ≤ x3
    · rw [if_pos c1] at hs
      refine aw_ifge_t at_262_62 c1 ?_
      exact rg_262_124 x3 h o l3  hs
    · rw [if_neg c1] at hs
      refine aw_ifge_f (pc1 := 65) at_262_62 c1 rfl ?_
      refine aw_iload (pc1 := 67) at_262_65 l4 rfl ?_
      refine aw_iload_n (pc1 := 68) at_262_67 l2 rfl ?_
      by_cases c2 : x2 < x4
      · rw [if_pos c2] at hs
        refine aw_icgt_t at_262_68 c2 ?_
        exact rg_262_124 x3 h o l3  hs
      · rw [if_neg c2] at hs
        refine aw_icgt_f (pc1 := 71) at_262_68 c2 rfl ?_
        refine aw_vload_n (pc1 := 72) at_262_71 l0 i0 rfl ?_
        refine aw_iload (pc1 := 74) at_262_72 l4 rfl ?_
        obtain ⟨h3, e4, hs1⟩ := am_bind hs
        clear hs
        refine aw_pP (pc1 := 77) at_262_74 e4 rfl ?_
        refine aw_iload (pc1 := 79) at_262_77 l4 rfl ?_
        refine aw_iconst (v := 1) (pc1 := 80) at_262_79 (by decide) rfl ?_
        by_cases c5 : ¬ x4 = 1
        · rw [if_pos c5] at hs1
          refine aw_icne_t at_262_80 c5 ?_
          refine aw_vload_n (pc1 := 101) at_262_100 l0 i0 rfl ?_
          refine aw_iload (pc1 := 103) at_262_101 l4 rfl ?_
          refine aw_iload (pc1 := 105) at_262_103 l4 rfl ?_
          refine aw_iload_n (pc1 := 106) at_262_105 l2 rfl ?_
          by_cases c6 : x2 ≤ x4
          · rw [if_pos c6] at hs1
            refine aw_icge_t at_262_106 c6 ?_
            refine aw_iconst (v := 0) (pc1 := 114) at_262_113 (by decide) rfl ?_
            exact rg_262_114 (fun z0 z1 z2 z3 h o hs1 => ih z0 z1 z2 z3 h o hs1) x0 x2 x4 x0 x4 0 h3 o l0 l2 l4 i0 i0 hs1
          · rw [if_neg c6] at hs1
            refine aw_icge_f (pc1 := 109) at_262_106 c6 rfl ?_
            refine aw_iconst (v := 1) (pc1 := 110) at_262_109 (by decide) rfl ?_
            refine aw_goto at_262_110 ?_
            exact rg_262_114 (fun z0 z1 z2 z3 h o hs1 => ih z0 z1 z2 z3 h o hs1) x0 x2 x4 x0 x4 1 h3 o l0 l2 l4 i0 i0 hs1
        · rw [if_neg c5] at hs1
          refine aw_icne_f (pc1 := 83) at_262_80 c5 rfl ?_
          refine aw_vload_n (pc1 := 84) at_262_83 l0 i0 rfl ?_
          refine aw_iload_n (pc1 := 85) at_262_84 l2 rfl ?_
          refine aw_iconst (v := 1) (pc1 := 86) at_262_85 (by decide) rfl ?_
          by_cases c7 : x2 ≤ 1
          · rw [if_pos c7] at hs1
            refine aw_icle_t at_262_86 c7 ?_
            refine aw_iconst (v := 0) (pc1 := 94) at_262_93 (by decide) rfl ?_
            exact rg_262_94 (fun z0 z1 z2 z3 h o hs1 => ih z0 z1 z2 z3 h o hs1) x0 x2 x4 x0 0 h3 o l0 l2 l4 i0 i0 hs1
          · rw [if_neg c7] at hs1
            refine aw_icle_f (pc1 := 89) at_262_86 c7 rfl ?_
            refine aw_iconst (v := 1) (pc1 := 90) at_262_89 (by decide) rfl ?_
            refine aw_goto at_262_90 ?_
            exact rg_262_94 (fun z0 z1 z2 z3 h o hs1 => ih z0 z1 z2 z3 h o hs1) x0 x2 x4 x0 1 h3 o l0 l2 l4 i0 i0 hs1
def fg_262_50 (X : am_X) (N : Nat) (rec_22 : Value → Int32 → Int32 → am_H → Option am_O) (x0 : Value) (x2 : Int32) (x3 : Int32) (h : am_H) : Option am_O := (rec_22 x0 x2 ((x3 + 1)) h)
theorem rg_262_50 {X : am_X} {d : Nat} {N : Nat} {rec_22 : Value → Int32 → Int32 → am_H → Option am_O} (q_22 : ∀ (x0 : Value) (x2 : Int32) (x3 : Int32) (h : am_H) (o : am_O), rec_22 x0 x2 x3 h = some o → ∀ lv : am_LV, (lv.lookup 0 = some x0) → (lv.lookup 2 = some (.int x2)) → (lv.lookup 3 = some (.int x3)) → (am_isR x0 = true) → am_W X (d + 4) 262 22 lv [] h (fun q => q = o)) {lv : am_LV} (x0 : Value) (x2 : Int32) (x3 : Int32) (h : am_H) (o : am_O) (l0 : lv.lookup 0 = some x0) (l2 : lv.lookup 2 = some (.int x2)) (l3 : lv.lookup 3 = some (.int x3)) (i0 : am_isR x0 = true) (hs : fg_262_50 X N rec_22 x0 x2 x3 h = some o) : am_W X (d + 4) 262 50 lv [] h (fun q => q = o) := by
  unfold fg_262_50 at hs
  refine aw_iinc (v := (x3 + 1)) (c := 1) (lv1 := am_put1 _ 3 _) (pc1 := 53) at_262_50 l3 (by decide) rfl rfl rfl ?_
  refine aw_goto at_262_53 ?_
  exact q_22 x0 x2 ((x3 + 1)) h o hs _ (am_lk1 l0 rfl rfl) (am_lk1 l2 rfl rfl) am_lk0 i0
def fg_262_22 (X : am_X) (N : Nat) : Nat → Value → Int32 → Int32 → am_H → Option am_O
  | 0 => fun _ _ _ _ => none
  | K + 1 => fun x0 x2 x3 h => ((am_vI (am_pG 1030 x0 h)).bind fun v1 => (if v1 ≤ x3 then (fg_262_61 X N N x0 x2 ((-1)) 1 h) else ((am_vR (am_pG 1028 x0 h)).bind fun v4 => ((am_pAA v4 x3 h).bind fun v6 => ((am_pZ v6).bind fun b8 => if b8 = true then ((am_vR (am_pG 1028 x0 h)).bind fun v10 => ((am_pNew 1 7070 h).bind fun h12 => ((am_pSA v10 x3 (Value.ref h.length) h12).bind fun h14 => (fg_262_50 X N (fg_262_22 X N K) x0 x2 x3 h14)))) else (fg_262_50 X N (fg_262_22 X N K) x0 x2 x3 h))))))
theorem rg_262_22 {X : am_X} {d : Nat} {N : Nat} : ∀ (K : Nat) (x0 : Value) (x2 : Int32) (x3 : Int32) (h : am_H) (o : am_O), fg_262_22 X N K x0 x2 x3 h = some o → ∀ lv : am_LV, (lv.lookup 0 = some x0) → (lv.lookup 2 = some (.int x2)) → (lv.lookup 3 = some (.int x3)) → (am_isR x0 = true) → am_W X (d + 4) 262 22 lv [] h (fun q => q = o) := by
  intro K
  induction K with
  | zero => intro x0 x2 x3 h o hs; cases hs
  | succ K ih =>
    intro x0 x2 x3 h o hs lv l0 l2 l3 i0
    unfold fg_262_22 at hs
    refine aw_iload_n (pc1 := 23) at_262_22 l3 rfl ?_
    refine aw_vload_n (pc1 := 24) at_262_23 l0 i0 rfl ?_
    obtain ⟨v1, e2, hs1⟩ := am_bind hs
    clear hs
    refine aw_pG (pc1 := 27) at_262_24 (am_vI_s e2) rfl ?_
    by_cases c3 : v1 ≤ x3
    · rw [if_pos c3] at hs1
      refine aw_icge_t at_262_27 c3 ?_
      refine aw_iconst (v := (-1)) (pc1 := 57) at_262_56 (by decide) rfl ?_
      refine aw_istore_n (lv1 := am_put1 _ 3 _) (pc1 := 58) at_262_57 rfl rfl ?_
      refine aw_iconst (v := 1) (pc1 := 59) at_262_58 (by decide) rfl ?_
      refine aw_istore (lv1 := am_put1 _ 4 _) (pc1 := 61) at_262_59 rfl rfl ?_
      exact rg_262_61 N x0 x2 ((-1)) 1 h o hs1 _ (am_lk1 (am_lk1 l0 rfl rfl) rfl rfl) (am_lk1 (am_lk1 l2 rfl rfl) rfl rfl) (am_lk1 am_lk0 rfl rfl) am_lk0 i0
    · rw [if_neg c3] at hs1
      refine aw_icge_f (pc1 := 30) at_262_27 c3 rfl ?_
      refine aw_vload_n (pc1 := 31) at_262_30 l0 i0 rfl ?_
      obtain ⟨v4, e5, hs2⟩ := am_bind hs1
      clear hs1
      refine aw_pG (pc1 := 34) at_262_31 (am_vR_s e5).1 rfl ?_
      refine aw_iload_n (pc1 := 35) at_262_34 l3 rfl ?_
      obtain ⟨v6, e7, hs3⟩ := am_bind hs2
      clear hs2
      refine aw_pAA (pc1 := 36) at_262_35 e7 rfl ?_
      obtain ⟨b8, e9, hs4⟩ := am_bind hs3
      clear hs3
      cases b8
      · rw [if_neg (by decide)] at hs4
        refine aw_pYt at_262_36 e9 ?_
        exact rg_262_50 (fun z0 z1 z2 h o hs4 => ih z0 z1 z2 h o hs4) x0 x2 x3 h o l0 l2 l3 i0 hs4
      · rw [if_pos rfl] at hs4
        refine aw_pYf (pc1 := 39) at_262_36 e9 rfl ?_
        refine aw_vload_n (pc1 := 40) at_262_39 l0 i0 rfl ?_
        obtain ⟨v10, e11, hs5⟩ := am_bind hs4
        clear hs4
        refine aw_pG (pc1 := 43) at_262_40 (am_vR_s e11).1 rfl ?_
        refine aw_iload_n (pc1 := 44) at_262_43 l3 rfl ?_
        refine aw_sipush (v := 7070) (pc1 := 47) at_262_44 (by decide) rfl ?_
        obtain ⟨h12, e13, hs6⟩ := am_bind hs5
        clear hs5
        refine aw_pNew (pc1 := 49) at_262_47 e13 rfl ?_
        obtain ⟨h14, e15, hs7⟩ := am_bind hs6
        clear hs6
        refine aw_pSA (pc1 := 50) at_262_49 e15 rfl ?_
        exact rg_262_50 (fun z0 z1 z2 h o hs7 => ih z0 z1 z2 h o hs7) x0 x2 x3 h14 o l0 l2 l3 i0 hs7
def fg_262_0 (X : am_X) (N : Nat) (x0 : Value) (x1 : Value) (x2 : Int32) (h : am_H) : Option am_O := ((am_pP 1031 x0 x1 h).bind fun h1 => ((am_vR (am_pG 1031 x0 h1)).bind fun v3 => ((am_vR (am_pG 1029 x0 h1)).bind fun v5 => (if am_pOk 2 v3 h1 then am_cI true (fm_219 N v3 v5 h1) (fun v8 h9 => ((am_pP 1030 x0 (.int v8) h9).bind fun h11 => (fg_262_22 X N N x0 x2 0 h11))) else none))))
theorem rg_262_0 {X : am_X} {d : Nat} {N : Nat} {lv : am_LV} (x0 : Value) (x1 : Value) (x2 : Int32) (h : am_H) (o : am_O) (l0 : lv.lookup 0 = some x0) (l1 : lv.lookup 1 = some x1) (l2 : lv.lookup 2 = some (.int x2)) (i0 : am_isR x0 = true) (i1 : am_isR x1 = true) (hs : fg_262_0 X N x0 x1 x2 h = some o) : am_W X (d + 4) 262 0 lv [] h (fun q => q = o) := by
  unfold fg_262_0 at hs
  refine aw_vload_n (pc1 := 1) at_262_0 l0 i0 rfl ?_
  refine aw_vload_n (pc1 := 2) at_262_1 l1 i1 rfl ?_
  obtain ⟨h1, e2, hs1⟩ := am_bind hs
  clear hs
  refine aw_pP (pc1 := 5) at_262_2 e2 rfl ?_
  refine aw_vload_n (pc1 := 6) at_262_5 l0 i0 rfl ?_
  refine aw_vload_n (pc1 := 7) at_262_6 l0 i0 rfl ?_
  obtain ⟨v3, e4, hs2⟩ := am_bind hs1
  clear hs1
  refine aw_pG (pc1 := 10) at_262_7 (am_vR_s e4).1 rfl ?_
  refine aw_vload_n (pc1 := 11) at_262_10 l0 i0 rfl ?_
  obtain ⟨v5, e6, hs3⟩ := am_bind hs2
  clear hs2
  refine aw_pG (pc1 := 14) at_262_11 (am_vR_s e6).1 rfl ?_
  obtain ⟨z7, hs4⟩ := am_ift hs3
  clear hs3
  refine aw_call (F := fm_219 N v3 v5 h1) (t := true) (na := 2) (kd := 1) (as := [v3, v5]) at_262_14 (am_k3v kb_219) mn_219 mk_219 rfl rfl (am_ok_v mi_219 (am_hl rfl (am_ccR (am_vR_s e4).2 (am_ccR (am_vR_s e6).2 am_cats_0)) rfl) z7) (am_hc (am_ccR i0 am_cats_0) rfl) (fun _ => ⟨rfl, hh_262⟩) (fun o1 hz9 => rm_219 v3 v5 h1 o1 (am_vR_s e4).2 (am_vR_s e6).2 hz9) ?_
  rcases am_cI_s hs4 with ⟨v8, h9, f10, hs5⟩ | hs5
  · clear hs4
    refine Or.inl ⟨_, _, f10, ?_⟩
    show am_W X _ 262 17 _ [(.int v8), x0] h9 _
    obtain ⟨h11, e12, hs6⟩ := am_bind hs5
    clear hs5
    refine aw_pP (pc1 := 20) at_262_17 e12 rfl ?_
    refine aw_iconst (v := 0) (pc1 := 21) at_262_20 (by decide) rfl ?_
    refine aw_istore_n (lv1 := am_put1 _ 3 _) (pc1 := 22) at_262_21 rfl rfl ?_
    exact rg_262_22 N x0 x2 0 h11 o hs6 _ (am_lk1 l0 rfl rfl) (am_lk1 l2 rfl rfl) am_lk0 i0
  · clear hs4
    exact Or.inr hs5
def fm_262 (X : am_X) (N : Nat) (y0 : Value) (y1 : Value) (y2 : Int32) (h : am_H) : Option am_O := fg_262_0 X N y0 y1 y2 h
theorem rm_262 {X : am_X} {d : Nat} {N : Nat} (y0 : Value) (y1 : Value) (y2 : Int32) (h : am_H) (o : am_O) (i0 : am_isR y0 = true) (i1 : am_isR y1 = true) (hs : fm_262 X N y0 y1 y2 h = some o) : am_W X (d + 4) 262 0 (am_args 0 [y0, y1, .int y2]) [] h (fun q => q = o) := by
  rw [am_args_R i0, am_args_R i1, am_args_I]
  exact rg_262_0 y0 y1 y2 h o rfl rfl rfl i0 i1 hs
def fg_261_10 (X : am_X) (N : Nat) (h : am_H) : Option am_O := some (.inr (0, h ++ [am_dummy]))
theorem rg_261_10 {X : am_X} {d : Nat} {N : Nat} {lv : am_LV} (h : am_H) (o : am_O) (hs : fg_261_10 X N h = some o) : am_W X (d + 122) 261 10 lv [] h (fun q => q = o) := by
  unfold fg_261_10 at hs
  cases hs
  exact aw_throw at_261_10 rfl th_261_10 (am_hc am_cats_0 rfl) rfl
def fg_261_0 (X : am_X) (N : Nat) (x0 : Value) (x1 : Int32) (h : am_H) : Option am_O := (if x1 < 1 then (fg_261_10 X N h) else (if x1 ≤ 5 then (if am_pOk 11 x0 h then am_cV true (fm_32 x0 1 h) (fun h5 => ((am_vR (am_pG 2822 x0 h5)).bind fun v7 => ((am_vR (am_pG 2819 x0 h5)).bind fun v9 => (if am_pOk 4 v7 h5 then am_cI true (fm_262 X N v7 v9 x1 h5) (fun v12 h13 => (if 0 ≤ v12 then ((am_vR (am_pG 2822 x0 h13)).bind fun v16 => ((am_vR (am_pG 2822 x0 h13)).bind fun v18 => ((am_vI (am_pG 1032 v18 h13)).bind fun v20 => ((am_vR (am_pG 2831 x0 h13)).bind fun v22 => (if am_pOk 4 v16 h13 then am_cV true (fm_91 N v16 4 v20 ((Int32.toInt64 v12)) v22 h13) (fun h26 => ((am_vR (am_pG 2831 x0 h26)).bind fun v28 => (if am_pOk 11 x0 h26 then am_cI true (fm_59 x0 v28 1 ((-1)) ((-1)) ((-1)) ((-1)) 0 h26) (fun v31 h32 => some (.inl (some (.int v31), h32))) else none))) else none))))) else some (.inl (some (.int (-1)), h13)))) else none)))) else none) else (fg_261_10 X N h)))
theorem rg_261_0 {X : am_X} {d : Nat} {N : Nat} {lv : am_LV} (x0 : Value) (x1 : Int32) (h : am_H) (o : am_O) (l0 : lv.lookup 0 = some x0) (l1 : lv.lookup 1 = some (.int x1)) (i0 : am_isR x0 = true) (hs : fg_261_0 X N x0 x1 h = some o) : am_W X (d + 122) 261 0 lv [] h (fun q => q = o) := by
  unfold fg_261_0 at hs
  refine aw_iload_n (pc1 := 1) at_261_0 l1 rfl ?_
  refine aw_iconst (v := 1) (pc1 := 2) at_261_1 (by decide) rfl ?_
  by_cases c1 : x1 < 1
  · rw [if_pos c1] at hs
    refine aw_iclt_t at_261_2 c1 ?_
    exact rg_261_10 h o   hs
  · rw [if_neg c1] at hs
    refine aw_iclt_f (pc1 := 5) at_261_2 c1 rfl ?_
    refine aw_iload_n (pc1 := 6) at_261_5 l1 rfl ?_
    refine aw_iconst (v := 5) (pc1 := 7) at_261_6 (by decide) rfl ?_
    by_cases c2 : x1 ≤ 5
    · rw [if_pos c2] at hs
      refine aw_icle_t at_261_7 c2 ?_
      refine aw_vload_n (pc1 := 21) at_261_20 l0 i0 rfl ?_
      refine aw_iconst (v := 1) (pc1 := 22) at_261_21 (by decide) rfl ?_
      obtain ⟨z3, hs1⟩ := am_ift hs
      clear hs
      refine aw_call (F := fm_32 x0 1 h) (t := true) (na := 2) (kd := 1) (as := [x0, (.int 1)]) at_261_22 (am_k3v kb_32) mn_32 mk_32 rfl rfl (am_ok_v mi_32 (am_hl rfl (am_ccR i0 (am_ccI am_cats_0)) rfl) z3) (am_hc am_cats_0 rfl) (fun _ => ⟨rfl, hh_261⟩) (fun o1 hz9 => rm_32 x0 1 h o1 i0 hz9) ?_
      rcases am_cV_s hs1 with ⟨h5, f6, hs2⟩ | hs2
      · clear hs1
        refine Or.inl ⟨_, _, f6, ?_⟩
        show am_W X _ 261 25 _ [] h5 _
        refine aw_vload_n (pc1 := 26) at_261_25 l0 i0 rfl ?_
        obtain ⟨v7, e8, hs3⟩ := am_bind hs2
        clear hs2
        refine aw_pG (pc1 := 29) at_261_26 (am_vR_s e8).1 rfl ?_
        refine aw_vload_n (pc1 := 30) at_261_29 l0 i0 rfl ?_
        obtain ⟨v9, e10, hs4⟩ := am_bind hs3
        clear hs3
        refine aw_pG (pc1 := 33) at_261_30 (am_vR_s e10).1 rfl ?_
        refine aw_iload_n (pc1 := 34) at_261_33 l1 rfl ?_
        obtain ⟨z11, hs5⟩ := am_ift hs4
        clear hs4
        refine aw_call (F := fm_262 X N v7 v9 x1 h5) (t := true) (na := 3) (kd := 1) (as := [v7, v9, (.int x1)]) at_261_34 (am_k3v kb_262) mn_262 mk_262 rfl rfl (am_ok_v mi_262 (am_hl rfl (am_ccR (am_vR_s e8).2 (am_ccR (am_vR_s e10).2 (am_ccI am_cats_0))) rfl) z11) (am_hc am_cats_0 rfl) (fun _ => ⟨rfl, hh_261⟩) (fun o1 hz9 => rm_262 v7 v9 x1 h5 o1 (am_vR_s e8).2 (am_vR_s e10).2 hz9) ?_
        rcases am_cI_s hs5 with ⟨v12, h13, f14, hs6⟩ | hs6
        · clear hs5
          refine Or.inl ⟨_, _, f14, ?_⟩
          show am_W X _ 261 37 _ [(.int v12)] h13 _
          refine aw_istore_n (lv1 := am_put1 _ 2 _) (pc1 := 38) at_261_37 rfl rfl ?_
          refine aw_iload_n (pc1 := 39) at_261_38 am_lk0 rfl ?_
          by_cases c15 : 0 ≤ v12
          · rw [if_pos c15] at hs6
            refine aw_ifge_t at_261_39 c15 ?_
            refine aw_vload_n (pc1 := 45) at_261_44 (am_lk1 l0 rfl rfl) i0 rfl ?_
            obtain ⟨v16, e17, hs7⟩ := am_bind hs6
            clear hs6
            refine aw_pG (pc1 := 48) at_261_45 (am_vR_s e17).1 rfl ?_
            refine aw_iconst (v := 4) (pc1 := 49) at_261_48 (by decide) rfl ?_
            refine aw_vload_n (pc1 := 50) at_261_49 (am_lk1 l0 rfl rfl) i0 rfl ?_
            obtain ⟨v18, e19, hs8⟩ := am_bind hs7
            clear hs7
            refine aw_pG (pc1 := 53) at_261_50 (am_vR_s e19).1 rfl ?_
            obtain ⟨v20, e21, hs9⟩ := am_bind hs8
            clear hs8
            refine aw_pG (pc1 := 56) at_261_53 (am_vI_s e21) rfl ?_
            refine aw_iload_n (pc1 := 57) at_261_56 am_lk0 rfl ?_
            refine aw_i2l (v := (Int32.toInt64 v12)) (pc1 := 58) at_261_57 rfl rfl ?_
            refine aw_vload_n (pc1 := 59) at_261_58 (am_lk1 l0 rfl rfl) i0 rfl ?_
            obtain ⟨v22, e23, hs10⟩ := am_bind hs9
            clear hs9
            refine aw_pG (pc1 := 62) at_261_59 (am_vR_s e23).1 rfl ?_
            obtain ⟨z24, hs11⟩ := am_ift hs10
            clear hs10
            refine aw_call (F := fm_91 N v16 4 v20 ((Int32.toInt64 v12)) v22 h13) (t := true) (na := 5) (kd := 1) (as := [v16, (.int 4), (.int v20), (.long (Int32.toInt64 v12)), v22]) at_261_62 (am_k3v kb_91) mn_91 mk_91 rfl rfl (am_ok_v mi_91 (am_hl rfl (am_ccR (am_vR_s e17).2 (am_ccI (am_ccI (am_ccL (am_ccR (am_vR_s e23).2 am_cats_0))))) rfl) z24) (am_hc am_cats_0 rfl) (fun _ => ⟨rfl, hh_261⟩) (fun o1 hz9 => rm_91 v16 4 v20 ((Int32.toInt64 v12)) v22 h13 o1 (am_vR_s e17).2 (am_vR_s e23).2 hz9) ?_
            rcases am_cV_s hs11 with ⟨h26, f27, hs12⟩ | hs12
            · clear hs11
              refine Or.inl ⟨_, _, f27, ?_⟩
              show am_W X _ 261 65 _ [] h26 _
              refine aw_vload_n (pc1 := 66) at_261_65 (am_lk1 l0 rfl rfl) i0 rfl ?_
              refine aw_vload_n (pc1 := 67) at_261_66 (am_lk1 l0 rfl rfl) i0 rfl ?_
              obtain ⟨v28, e29, hs13⟩ := am_bind hs12
              clear hs12
              refine aw_pG (pc1 := 70) at_261_67 (am_vR_s e29).1 rfl ?_
              refine aw_iconst (v := 1) (pc1 := 71) at_261_70 (by decide) rfl ?_
              refine aw_iconst (v := (-1)) (pc1 := 72) at_261_71 (by decide) rfl ?_
              refine aw_iconst (v := (-1)) (pc1 := 73) at_261_72 (by decide) rfl ?_
              refine aw_iconst (v := (-1)) (pc1 := 74) at_261_73 (by decide) rfl ?_
              refine aw_iconst (v := (-1)) (pc1 := 75) at_261_74 (by decide) rfl ?_
              refine aw_lconst (v := 0) (pc1 := 76) at_261_75 (by decide) rfl ?_
              obtain ⟨z30, hs14⟩ := am_ift hs13
              clear hs13
              refine aw_call (F := fm_59 x0 v28 1 ((-1)) ((-1)) ((-1)) ((-1)) 0 h26) (t := true) (na := 8) (kd := 1) (as := [x0, v28, (.int 1), (.int (-1)), (.int (-1)), (.int (-1)), (.int (-1)), (.long 0)]) at_261_76 (am_k3v kb_59) mn_59 mk_59 rfl rfl (am_ok_v mi_59 (am_hl rfl (am_ccR i0 (am_ccR (am_vR_s e29).2 (am_ccI (am_ccI (am_ccI (am_ccI (am_ccI (am_ccL am_cats_0)))))))) rfl) z30) (am_hc am_cats_0 rfl) (fun _ => ⟨rfl, hh_261⟩) (fun o1 hz9 => rm_59 x0 v28 1 ((-1)) ((-1)) ((-1)) ((-1)) 0 h26 o1 i0 (am_vR_s e29).2 hz9) ?_
              rcases am_cI_s hs14 with ⟨v31, h32, f33, hs15⟩ | hs15
              · clear hs14
                refine Or.inl ⟨_, _, f33, ?_⟩
                show am_W X _ 261 79 _ [(.int v31)] h32 _
                cases hs15
                exact aw_iret at_261_79 (by rw [rt_261]; rfl) rfl
              · clear hs14
                exact Or.inr hs15
            · clear hs11
              exact Or.inr hs12
          · rw [if_neg c15] at hs6
            refine aw_ifge_f (pc1 := 42) at_261_39 c15 rfl ?_
            refine aw_iconst (v := (-1)) (pc1 := 43) at_261_42 (by decide) rfl ?_
            cases hs6
            exact aw_iret at_261_43 (by rw [rt_261]; rfl) rfl
        · clear hs5
          exact Or.inr hs6
      · clear hs1
        exact Or.inr hs2
    · rw [if_neg c2] at hs
      refine aw_icle_f (pc1 := 10) at_261_7 c2 rfl ?_
      exact rg_261_10 h o   hs
def fm_261 (X : am_X) (N : Nat) (y0 : Value) (y1 : Int32) (h : am_H) : Option am_O := fg_261_0 X N y0 y1 h
theorem rm_261 {X : am_X} {d : Nat} {N : Nat} (y0 : Value) (y1 : Int32) (h : am_H) (o : am_O) (i0 : am_isR y0 = true) (hs : fm_261 X N y0 y1 h = some o) : am_W X (d + 122) 261 0 (am_args 0 [y0, .int y1]) [] h (fun q => q = o) := by
  rw [am_args_R i0, am_args_I]
  exact rg_261_0 y0 y1 h o rfl rfl i0 hs
def fg_260_16 (X : am_X) (N : Nat) (h : am_H) : Option am_O := some (.inl (some (.int 2), h))
theorem rg_260_16 {X : am_X} {d : Nat} {N : Nat} {lv : am_LV} (h : am_H) (o : am_O) (hs : fg_260_16 X N h = some o) : am_W X (d + 123) 260 16 lv [] h (fun q => q = o) := by
  unfold fg_260_16 at hs
  refine aw_iconst (v := 2) (pc1 := 17) at_260_16 (by decide) rfl ?_
  cases hs
  exact aw_iret at_260_17 (by rw [rt_260]; rfl) rfl
def fg_260_13 (X : am_X) (N : Nat) (h : am_H) : Option am_O := some (.inl (some (.int 1), h))
theorem rg_260_13 {X : am_X} {d : Nat} {N : Nat} {lv : am_LV} (h : am_H) (o : am_O) (hs : fg_260_13 X N h = some o) : am_W X (d + 123) 260 13 lv [] h (fun q => q = o) := by
  unfold fg_260_13 at hs
  refine aw_iconst (v := 1) (pc1 := 14) at_260_13 (by decide) rfl ?_
  cases hs
  exact aw_iret at_260_14 (by rw [rt_260]; rfl) rfl
def fg_260_0 (X : am_X) (N : Nat) (x0 : Value) (x1 : Int32) (x2 : Value) (h : am_H) : Option am_O := (if am_pOk 11 x0 h then (match fm_261 X N x0 x1 h with | some (.inl (some (.int v2), h3)) => ((am_pSL x2 0 (Int32.toInt64 v2) h3).bind fun h5 => some (.inl (some (.int 0), h5))) | some (.inr (0, h7)) => (fg_260_13 X N h7) | some (.inr (1, h9)) => (fg_260_16 X N h9) | _ => none) else none)
theorem rg_260_0 {X : am_X} {d : Nat} {N : Nat} {lv : am_LV} (x0 : Value) (x1 : Int32) (x2 : Value) (h : am_H) (o : am_O) (l0 : lv.lookup 0 = some x0) (l1 : lv.lookup 1 = some (.int x1)) (l2 : lv.lookup 2 = some x2) (i0 : am_isR x0 = true) (i2 : am_isR x2 = true) (hs : fg_260_0 X N x0 x1 x2 h = some o) : am_W X (d + 123) 260 0 lv [] h (fun q => q = o) := by
  unfold fg_260_0 at hs
  refine aw_vload_n (pc1 := 1) at_260_0 l2 i2 rfl ?_
  refine aw_iconst (v := 0) (pc1 := 2) at_260_1 (by decide) rfl ?_
  refine aw_vload_n (pc1 := 3) at_260_2 l0 i0 rfl ?_
  refine aw_iload_n (pc1 := 4) at_260_3 l1 rfl ?_
  obtain ⟨z1, hs1⟩ := am_ift hs
  clear hs
  refine aw_callH (F := fm_261 X N x0 x1 h) (na := 2) (kd := 1) (as := [x0, (.int x1)]) at_260_4 (am_k3v kb_261) mn_261 mk_261 rfl rfl (am_ok_v mi_261 (am_hl rfl (am_ccR i0 (am_ccI am_cats_0)) rfl) z1) (am_hc (am_ccI (am_ccR i2 am_cats_0)) rfl) (fun o1 hz9 => rm_261 x0 x1 h o1 i0 hz9) ?_
  split at hs1
  · rename_i v2 h3 f4
    refine Or.inl ⟨_, _, f4, ?_⟩
    show am_W X _ 260 7 _ [(.int v2), (.int 0), x2] h3 _
    refine aw_i2l (v := (Int32.toInt64 v2)) (pc1 := 8) at_260_7 rfl rfl ?_
    obtain ⟨h5, e6, hs2⟩ := am_bind hs1
    clear hs1
    refine aw_pSL (pc1 := 9) at_260_8 e6 rfl ?_
    refine aw_goto at_260_9 ?_
    refine aw_iconst (v := 0) (pc1 := 19) at_260_18 (by decide) rfl ?_
    cases hs2
    exact aw_iret at_260_19 (by rw [rt_260]; rfl) rfl
  · rename_i h7 f8
    refine Or.inr ⟨_, _, 13, 3, f8, rfl, hn_260, hd_260_4_0, ?_⟩
    exact rg_260_13 h7 o   hs1
  · rename_i h9 f10
    refine Or.inr ⟨_, _, 16, 3, f10, rfl, hn_260, hd_260_4_1, ?_⟩
    exact rg_260_16 h9 o   hs1
  · cases hs1
def fm_260 (X : am_X) (N : Nat) (y0 : Value) (y1 : Int32) (y2 : Value) (h : am_H) : Option am_O := fg_260_0 X N y0 y1 y2 h
theorem rm_260 {X : am_X} {d : Nat} {N : Nat} (y0 : Value) (y1 : Int32) (y2 : Value) (h : am_H) (o : am_O) (i0 : am_isR y0 = true) (i2 : am_isR y2 = true) (hs : fm_260 X N y0 y1 y2 h = some o) : am_W X (d + 123) 260 0 (am_args 0 [y0, .int y1, y2]) [] h (fun q => q = o) := by
  rw [am_args_R i0, am_args_I, am_args_R i2]
  exact rg_260_0 y0 y1 y2 h o rfl rfl rfl i0 i2 hs
def fg_534_47 (N : Nat) (x1 : Int32) (h : am_H) : Option am_O := (if am_rfit (some FieldType.boolean) x1 then some (.inl (some (.int x1), h)) else none)
theorem rg_534_47 {X : am_X} {d : Nat} {N : Nat} {lv : am_LV} (x1 : Int32) (h : am_H) (o : am_O) (l1 : lv.lookup 1 = some (.int x1)) (hs : fg_534_47 N x1 h = some o) : am_W X (d + 7) 534 47 lv [] h (fun q => q = o) := by
  unfold fg_534_47 at hs
  refine aw_iload_n (pc1 := 48) at_534_47 l1 rfl ?_
  obtain ⟨z1, hs1⟩ := am_ift hs
  clear hs
  cases hs1
  exact aw_iret at_534_48 (by rw [rt_534]; exact z1) rfl
def fg_534_40 (N : Nat) (rec_4 : Value → Int32 → Int32 → am_H → Option am_O) (x0 : Value) (x2 : Int32) (s0 : Int32) (h : am_H) : Option am_O := (rec_4 x0 s0 ((x2 + 1)) h)
theorem rg_534_40 {X : am_X} {d : Nat} {N : Nat} {rec_4 : Value → Int32 → Int32 → am_H → Option am_O} (q_4 : ∀ (x0 : Value) (x1 : Int32) (x2 : Int32) (h : am_H) (o : am_O), rec_4 x0 x1 x2 h = some o → ∀ lv : am_LV, (lv.lookup 0 = some x0) → (lv.lookup 1 = some (.int x1)) → (lv.lookup 2 = some (.int x2)) → (am_isR x0 = true) → am_W X (d + 7) 534 4 lv [] h (fun q => q = o)) {lv : am_LV} (x0 : Value) (x2 : Int32) (s0 : Int32) (h : am_H) (o : am_O) (l0 : lv.lookup 0 = some x0) (l2 : lv.lookup 2 = some (.int x2)) (i0 : am_isR x0 = true) (hs : fg_534_40 N rec_4 x0 x2 s0 h = some o) : am_W X (d + 7) 534 40 lv [(.int s0)] h (fun q => q = o) := by
  unfold fg_534_40 at hs
  refine aw_istore_n (lv1 := am_put1 _ 1 _) (pc1 := 41) at_534_40 rfl rfl ?_
  refine aw_iinc (v := (x2 + 1)) (c := 1) (lv1 := am_put1 _ 2 _) (pc1 := 44) at_534_41 (am_lk1 l2 rfl rfl) (by decide) rfl rfl rfl ?_
  refine aw_goto at_534_44 ?_
  exact q_4 x0 s0 ((x2 + 1)) h o hs _ (am_lk1 (am_lk1 l0 rfl (by rw [am_isRc i0]; rfl)) rfl rfl) (am_lk1 am_lk0 rfl rfl) am_lk0 i0
def fg_534_35 (N : Nat) (rec_4 : Value → Int32 → Int32 → am_H → Option am_O) (x0 : Value) (x2 : Int32) (h : am_H) : Option am_O := (fg_534_40 N rec_4 x0 x2 1 h)
theorem rg_534_35 {X : am_X} {d : Nat} {N : Nat} {rec_4 : Value → Int32 → Int32 → am_H → Option am_O} (q_4 : ∀ (x0 : Value) (x1 : Int32) (x2 : Int32) (h : am_H) (o : am_O), rec_4 x0 x1 x2 h = some o → ∀ lv : am_LV, (lv.lookup 0 = some x0) → (lv.lookup 1 = some (.int x1)) → (lv.lookup 2 = some (.int x2)) → (am_isR x0 = true) → am_W X (d + 7) 534 4 lv [] h (fun q => q = o)) {lv : am_LV} (x0 : Value) (x2 : Int32) (h : am_H) (o : am_O) (l0 : lv.lookup 0 = some x0) (l2 : lv.lookup 2 = some (.int x2)) (i0 : am_isR x0 = true) (hs : fg_534_35 N rec_4 x0 x2 h = some o) : am_W X (d + 7) 534 35 lv [] h (fun q => q = o) := by
  unfold fg_534_35 at hs
  refine aw_iconst (v := 1) (pc1 := 36) at_534_35 (by decide) rfl ?_
  refine aw_goto at_534_36 ?_
  exact rg_534_40 q_4 x0 x2 1 h o l0 l2 i0 hs
def fg_534_4 (N : Nat) : Nat → Value → Int32 → Int32 → am_H → Option am_O
  | 0 => fun _ _ _ _ => none
  | K + 1 => fun x0 x1 x2 h => ((am_vI (am_pG 3103 x0 h)).bind fun v1 => (if v1 ≤ x2 then (fg_534_47 N x1 h) else (if x1 = 0 then (fg_534_47 N x1 h) else ((am_vR (am_pG 3109 x0 h)).bind fun v5 => ((am_pA 2 v5 x2 h).bind fun v7 => (if ¬ v7 = 0 then (fg_534_35 N (fg_534_4 N K) x0 x2 h) else (if am_pOk 12 x0 h then am_cL true (fm_425 N x0 x2 h) (fun v11 h12 => (if ¬ (lg_cmp v11 0) = 0 then (fg_534_40 N (fg_534_4 N K) x0 x2 0 h12) else (fg_534_35 N (fg_534_4 N K) x0 x2 h12))) else none)))))))
theorem rg_534_4 {X : am_X} {d : Nat} {N : Nat} : ∀ (K : Nat) (x0 : Value) (x1 : Int32) (x2 : Int32) (h : am_H) (o : am_O), fg_534_4 N K x0 x1 x2 h = some o → ∀ lv : am_LV, (lv.lookup 0 = some x0) → (lv.lookup 1 = some (.int x1)) → (lv.lookup 2 = some (.int x2)) → (am_isR x0 = true) → am_W X (d + 7) 534 4 lv [] h (fun q => q = o) := by
  intro K
  induction K with
  | zero => intro x0 x1 x2 h o hs; cases hs
  | succ K ih =>
    intro x0 x1 x2 h o hs lv l0 l1 l2 i0
    unfold fg_534_4 at hs
    refine aw_iload_n (pc1 := 5) at_534_4 l2 rfl ?_
    refine aw_vload_n (pc1 := 6) at_534_5 l0 i0 rfl ?_
    obtain ⟨v1, e2, hs1⟩ := am_bind hs
    clear hs
    refine aw_pG (pc1 := 9) at_534_6 (am_vI_s e2) rfl ?_
    by_cases c3 : v1 ≤ x2
    · rw [if_pos c3] at hs1
      refine aw_icge_t at_534_9 c3 ?_
      exact rg_534_47 x1 h o l1  hs1
    · rw [if_neg c3] at hs1
      refine aw_icge_f (pc1 := 12) at_534_9 c3 rfl ?_
      refine aw_iload_n (pc1 := 13) at_534_12 l1 rfl ?_
      by_cases c4 : x1 = 0
      · rw [if_pos c4] at hs1
        refine aw_ifeq_t at_534_13 c4 ?_
        exact rg_534_47 x1 h o l1  hs1
      · rw [if_neg c4] at hs1
        refine aw_ifeq_f (pc1 := 16) at_534_13 c4 rfl ?_
        refine aw_vload_n (pc1 := 17) at_534_16 l0 i0 rfl ?_
        obtain ⟨v5, e6, hs2⟩ := am_bind hs1
        clear hs1
        refine aw_pG (pc1 := 20) at_534_17 (am_vR_s e6).1 rfl ?_
        refine aw_iload_n (pc1 := 21) at_534_20 l2 rfl ?_
        obtain ⟨v7, e8, hs3⟩ := am_bind hs2
        clear hs2
        refine aw_pA (pc1 := 22) at_534_21 (Or.inr (Or.inl ⟨rfl, rfl⟩)) e8 rfl ?_
        by_cases c9 : ¬ v7 = 0
        · rw [if_pos c9] at hs3
          refine aw_ifne_t at_534_22 c9 ?_
          exact rg_534_35 (fun z0 z1 z2 h o hs3 => ih z0 z1 z2 h o hs3) x0 x2 h o l0 l2 i0 hs3
        · rw [if_neg c9] at hs3
          refine aw_ifne_f (pc1 := 25) at_534_22 c9 rfl ?_
          refine aw_vload_n (pc1 := 26) at_534_25 l0 i0 rfl ?_
          refine aw_iload_n (pc1 := 27) at_534_26 l2 rfl ?_
          obtain ⟨z10, hs4⟩ := am_ift hs3
          clear hs3
          refine aw_call (F := fm_425 N x0 x2 h) (t := true) (na := 2) (kd := 1) (as := [x0, (.int x2)]) at_534_27 (am_k3v kb_425) mn_425 mk_425 rfl rfl (am_ok_v mi_425 (am_hl rfl (am_ccR i0 (am_ccI am_cats_0)) rfl) z10) (am_hc am_cats_0 rfl) (fun _ => ⟨rfl, hh_534⟩) (fun o1 hz9 => rm_425 x0 x2 h o1 i0 hz9) ?_
          rcases am_cL_s hs4 with ⟨v11, h12, f13, hs5⟩ | hs5
          · clear hs4
            refine Or.inl ⟨_, _, f13, ?_⟩
            show am_W X _ 534 30 _ [(.long v11)] h12 _
            refine aw_lconst (v := 0) (pc1 := 31) at_534_30 (by decide) rfl ?_
            refine aw_lcmp (v := (lg_cmp v11 0)) (pc1 := 32) at_534_31 rfl rfl ?_
            by_cases c14 : ¬ (lg_cmp v11 0) = 0
            · rw [if_pos c14] at hs5
              refine aw_ifne_t at_534_32 c14 ?_
              refine aw_iconst (v := 0) (pc1 := 40) at_534_39 (by decide) rfl ?_
              exact rg_534_40 (fun z0 z1 z2 h o hs5 => ih z0 z1 z2 h o hs5) x0 x2 0 h12 o l0 l2 i0 hs5
            · rw [if_neg c14] at hs5
              refine aw_ifne_f (pc1 := 35) at_534_32 c14 rfl ?_
              exact rg_534_35 (fun z0 z1 z2 h o hs5 => ih z0 z1 z2 h o hs5) x0 x2 h12 o l0 l2 i0 hs5
          · clear hs4
            exact Or.inr hs5
def fg_534_0 (N : Nat) (x0 : Value) (h : am_H) : Option am_O := (fg_534_4 N N x0 1 0 h)
theorem rg_534_0 {X : am_X} {d : Nat} {N : Nat} {lv : am_LV} (x0 : Value) (h : am_H) (o : am_O) (l0 : lv.lookup 0 = some x0) (i0 : am_isR x0 = true) (hs : fg_534_0 N x0 h = some o) : am_W X (d + 7) 534 0 lv [] h (fun q => q = o) := by
  unfold fg_534_0 at hs
  refine aw_iconst (v := 1) (pc1 := 1) at_534_0 (by decide) rfl ?_
  refine aw_istore_n (lv1 := am_put1 _ 1 _) (pc1 := 2) at_534_1 rfl rfl ?_
  refine aw_iconst (v := 0) (pc1 := 3) at_534_2 (by decide) rfl ?_
  refine aw_istore_n (lv1 := am_put1 _ 2 _) (pc1 := 4) at_534_3 rfl rfl ?_
  exact rg_534_4 N x0 1 0 h o hs _ (am_lk1 (am_lk1 l0 rfl (by rw [am_isRc i0]; rfl)) rfl rfl) (am_lk1 am_lk0 rfl rfl) am_lk0 i0
def fm_534 (N : Nat) (y0 : Value) (h : am_H) : Option am_O := fg_534_0 N y0 h
theorem rm_534 {X : am_X} {d : Nat} {N : Nat} (y0 : Value) (h : am_H) (o : am_O) (i0 : am_isR y0 = true) (hs : fm_534 N y0 h = some o) : am_W X (d + 7) 534 0 (am_args 0 [y0]) [] h (fun q => q = o) := by
  rw [am_args_R i0]
  exact rg_534_0 y0 h o rfl i0 hs
def fg_533_57 (N : Nat) (rec_50 : Value → Int32 → Int32 → am_H → Option am_O) : Nat → Value → Int32 → Int32 → Int64 → am_H → Option am_O
  | 0 => fun _ _ _ _ _ => none
  | K + 1 => fun x0 x1 x2 x3 h => (if am_pOk 12 x0 h then am_cL true (fm_383 x0 2 0 x2 h) (fun v2 h3 => (if 0 ≤ (lg_cmp x3 v2) then (rec_50 x0 x1 ((x2 + 1)) h3) else ((am_pP 3085 x0 (.int 0) h3).bind fun h6 => ((am_pP 3086 x0 (.int 0) h6).bind fun h8 => (if am_pOk 12 x0 h8 then am_cV true (fm_386 N x0 2 0 x2 x3 h8) (fun h12 => (if am_pOk 12 x0 h12 then am_cI true (fm_534 N x0 h12) (fun v15 h16 => (if v15 = 0 then (fg_533_57 N rec_50 K x0 x1 x2 ((x3 + 1)) h16) else (if am_pOk 12 x0 h16 then am_cI true (fm_356 N x0 1 ((-1)) ((-1)) ((-1)) ((-1)) 0 h16) (fun v20 h21 => some (.inl (some (.int v20), h21))) else none))) else none)) else none))))) else none)
theorem rg_533_57 {X : am_X} {d : Nat} {N : Nat} {rec_50 : Value → Int32 → Int32 → am_H → Option am_O} (q_50 : ∀ (x0 : Value) (x1 : Int32) (x2 : Int32) (h : am_H) (o : am_O), rec_50 x0 x1 x2 h = some o → ∀ lv : am_LV, (lv.lookup 0 = some x0) → (lv.lookup 1 = some (.int x1)) → (lv.lookup 2 = some (.int x2)) → (am_isR x0 = true) → am_W X (d + 8) 533 50 lv [] h (fun q => q = o)) : ∀ (K : Nat) (x0 : Value) (x1 : Int32) (x2 : Int32) (x3 : Int64) (h : am_H) (o : am_O), fg_533_57 N rec_50 K x0 x1 x2 x3 h = some o → ∀ lv : am_LV, (lv.lookup 0 = some x0) → (lv.lookup 1 = some (.int x1)) → (lv.lookup 2 = some (.int x2)) → (lv.lookup 3 = some (.long x3)) → (am_isR x0 = true) → am_W X (d + 8) 533 57 lv [] h (fun q => q = o) := by
  intro K
  induction K with
  | zero => intro x0 x1 x2 x3 h o hs; cases hs
  | succ K ih =>
    intro x0 x1 x2 x3 h o hs lv l0 l1 l2 l3 i0
    unfold fg_533_57 at hs
    refine aw_lload_n (pc1 := 58) at_533_57 l3 rfl ?_
    refine aw_vload_n (pc1 := 59) at_533_58 l0 i0 rfl ?_
    refine aw_iconst (v := 2) (pc1 := 60) at_533_59 (by decide) rfl ?_
    refine aw_iconst (v := 0) (pc1 := 61) at_533_60 (by decide) rfl ?_
    refine aw_iload_n (pc1 := 62) at_533_61 l2 rfl ?_
    obtain ⟨z1, hs1⟩ := am_ift hs
    clear hs
    refine aw_call (F := fm_383 x0 2 0 x2 h) (t := true) (na := 4) (kd := 1) (as := [x0, (.int 2), (.int 0), (.int x2)]) at_533_62 (am_k3v kb_383) mn_383 mk_383 rfl rfl (am_ok_v mi_383 (am_hl rfl (am_ccR i0 (am_ccI (am_ccI (am_ccI am_cats_0)))) rfl) z1) (am_hc (am_ccL am_cats_0) rfl) (fun _ => ⟨rfl, hh_533⟩) (fun o1 hz9 => rm_383 x0 2 0 x2 h o1 i0 hz9) ?_
    rcases am_cL_s hs1 with ⟨v2, h3, f4, hs2⟩ | hs2
    · clear hs1
      refine Or.inl ⟨_, _, f4, ?_⟩
      show am_W X _ 533 65 _ [(.long v2), (.long x3)] h3 _
      refine aw_lcmp (v := (lg_cmp x3 v2)) (pc1 := 66) at_533_65 rfl rfl ?_
      by_cases c5 : 0 ≤ (lg_cmp x3 v2)
      · rw [if_pos c5] at hs2
        refine aw_ifge_t at_533_66 c5 ?_
        refine aw_iinc (v := (x2 + 1)) (c := 1) (lv1 := am_put1 _ 2 _) (pc1 := 115) at_533_112 l2 (by decide) rfl rfl rfl ?_
        refine aw_goto at_533_115 ?_
        exact q_50 x0 x1 ((x2 + 1)) h3 o hs2 _ (am_lk1 l0 rfl rfl) (am_lk1 l1 rfl rfl) am_lk0 i0
      · rw [if_neg c5] at hs2
        refine aw_ifge_f (pc1 := 69) at_533_66 c5 rfl ?_
        refine aw_vload_n (pc1 := 70) at_533_69 l0 i0 rfl ?_
        refine aw_iconst (v := 0) (pc1 := 71) at_533_70 (by decide) rfl ?_
        obtain ⟨h6, e7, hs3⟩ := am_bind hs2
        clear hs2
        refine aw_pP (pc1 := 74) at_533_71 e7 rfl ?_
        refine aw_vload_n (pc1 := 75) at_533_74 l0 i0 rfl ?_
        refine aw_iconst (v := 0) (pc1 := 76) at_533_75 (by decide) rfl ?_
        obtain ⟨h8, e9, hs4⟩ := am_bind hs3
        clear hs3
        refine aw_pP (pc1 := 79) at_533_76 e9 rfl ?_
        refine aw_vload_n (pc1 := 80) at_533_79 l0 i0 rfl ?_
        refine aw_iconst (v := 2) (pc1 := 81) at_533_80 (by decide) rfl ?_
        refine aw_iconst (v := 0) (pc1 := 82) at_533_81 (by decide) rfl ?_
        refine aw_iload_n (pc1 := 83) at_533_82 l2 rfl ?_
        refine aw_lload_n (pc1 := 84) at_533_83 l3 rfl ?_
        obtain ⟨z10, hs5⟩ := am_ift hs4
        clear hs4
        refine aw_call (F := fm_386 N x0 2 0 x2 x3 h8) (t := true) (na := 5) (kd := 1) (as := [x0, (.int 2), (.int 0), (.int x2), (.long x3)]) at_533_84 (am_k3v kb_386) mn_386 mk_386 rfl rfl (am_ok_v mi_386 (am_hl rfl (am_ccR i0 (am_ccI (am_ccI (am_ccI (am_ccL am_cats_0))))) rfl) z10) (am_hc am_cats_0 rfl) (fun _ => ⟨rfl, hh_533⟩) (fun o1 hz9 => rm_386 x0 2 0 x2 x3 h8 o1 i0 hz9) ?_
        rcases am_cV_s hs5 with ⟨h12, f13, hs6⟩ | hs6
        · clear hs5
          refine Or.inl ⟨_, _, f13, ?_⟩
          show am_W X _ 533 87 _ [] h12 _
          refine aw_vload_n (pc1 := 88) at_533_87 l0 i0 rfl ?_
          obtain ⟨z14, hs7⟩ := am_ift hs6
          clear hs6
          refine aw_call (F := fm_534 N x0 h12) (t := true) (na := 1) (kd := 1) (as := [x0]) at_533_88 (am_k3v kb_534) mn_534 mk_534 rfl rfl (am_ok_v mi_534 (am_hl rfl (am_ccR i0 am_cats_0) rfl) z14) (am_hc am_cats_0 rfl) (fun _ => ⟨rfl, hh_533⟩) (fun o1 hz9 => rm_534 x0 h12 o1 i0 hz9) ?_
          rcases am_cI_s hs7 with ⟨v15, h16, f17, hs8⟩ | hs8
          · clear hs7
            refine Or.inl ⟨_, _, f17, ?_⟩
            show am_W X _ 533 91 _ [(.int v15)] h16 _
            by_cases c18 : v15 = 0
            · rw [if_pos c18] at hs8
              refine aw_ifeq_t at_533_91 c18 ?_
              refine aw_lload_n (pc1 := 106) at_533_105 l3 rfl ?_
              refine aw_lconst (v := 1) (pc1 := 107) at_533_106 (by decide) rfl ?_
              refine aw_ladd (v := (x3 + 1)) (pc1 := 108) at_533_107 rfl rfl ?_
              refine aw_lstore_n (lv1 := am_put2 _ 3 _) (pc1 := 109) at_533_108 rfl rfl ?_
              refine aw_goto at_533_109 ?_
              exact ih x0 x1 x2 ((x3 + 1)) h16 o hs8 _ (am_lk2 l0 rfl rfl) (am_lk2 l1 rfl rfl) (am_lk2 l2 rfl rfl) am_lk02 i0
            · rw [if_neg c18] at hs8
              refine aw_ifeq_f (pc1 := 94) at_533_91 c18 rfl ?_
              refine aw_vload_n (pc1 := 95) at_533_94 l0 i0 rfl ?_
              refine aw_iconst (v := 1) (pc1 := 96) at_533_95 (by decide) rfl ?_
              refine aw_iconst (v := (-1)) (pc1 := 97) at_533_96 (by decide) rfl ?_
              refine aw_iconst (v := (-1)) (pc1 := 98) at_533_97 (by decide) rfl ?_
              refine aw_iconst (v := (-1)) (pc1 := 99) at_533_98 (by decide) rfl ?_
              refine aw_iconst (v := (-1)) (pc1 := 100) at_533_99 (by decide) rfl ?_
              refine aw_lconst (v := 0) (pc1 := 101) at_533_100 (by decide) rfl ?_
              obtain ⟨z19, hs9⟩ := am_ift hs8
              clear hs8
              refine aw_call (F := fm_356 N x0 1 ((-1)) ((-1)) ((-1)) ((-1)) 0 h16) (t := true) (na := 7) (kd := 1) (as := [x0, (.int 1), (.int (-1)), (.int (-1)), (.int (-1)), (.int (-1)), (.long 0)]) at_533_101 (am_k3v kb_356) mn_356 mk_356 rfl rfl (am_ok_v mi_356 (am_hl rfl (am_ccR i0 (am_ccI (am_ccI (am_ccI (am_ccI (am_ccI (am_ccL am_cats_0))))))) rfl) z19) (am_hc am_cats_0 rfl) (fun _ => ⟨rfl, hh_533⟩) (fun o1 hz9 => rm_356 x0 1 ((-1)) ((-1)) ((-1)) ((-1)) 0 h16 o1 i0 hz9) ?_
              rcases am_cI_s hs9 with ⟨v20, h21, f22, hs10⟩ | hs10
              · clear hs9
                refine Or.inl ⟨_, _, f22, ?_⟩
                show am_W X _ 533 104 _ [(.int v20)] h21 _
                cases hs10
                exact aw_iret at_533_104 (by rw [rt_533]; rfl) rfl
              · clear hs9
                exact Or.inr hs10
          · clear hs7
            exact Or.inr hs8
        · clear hs5
          exact Or.inr hs6
    · clear hs1
      exact Or.inr hs2
def fg_533_50 (N : Nat) : Nat → Value → Int32 → Int32 → am_H → Option am_O
  | 0 => fun _ _ _ _ => none
  | K + 1 => fun x0 x1 x2 h => (if x1 < x2 then some (.inl (some (.int (-1)), h)) else (fg_533_57 N (fg_533_50 N K) N x0 x1 x2 0 h))
theorem rg_533_50 {X : am_X} {d : Nat} {N : Nat} : ∀ (K : Nat) (x0 : Value) (x1 : Int32) (x2 : Int32) (h : am_H) (o : am_O), fg_533_50 N K x0 x1 x2 h = some o → ∀ lv : am_LV, (lv.lookup 0 = some x0) → (lv.lookup 1 = some (.int x1)) → (lv.lookup 2 = some (.int x2)) → (am_isR x0 = true) → am_W X (d + 8) 533 50 lv [] h (fun q => q = o) := by
  intro K
  induction K with
  | zero => intro x0 x1 x2 h o hs; cases hs
  | succ K ih =>
    intro x0 x1 x2 h o hs lv l0 l1 l2 i0
    unfold fg_533_50 at hs
    refine aw_iload_n (pc1 := 51) at_533_50 l2 rfl ?_
    refine aw_iload_n (pc1 := 52) at_533_51 l1 rfl ?_
    by_cases c1 : x1 < x2
    · rw [if_pos c1] at hs
      refine aw_icgt_t at_533_52 c1 ?_
      refine aw_iconst (v := (-1)) (pc1 := 119) at_533_118 (by decide) rfl ?_
      cases hs
      exact aw_iret at_533_119 (by rw [rt_533]; rfl) rfl
    · rw [if_neg c1] at hs
      refine aw_icgt_f (pc1 := 55) at_533_52 c1 rfl ?_
      refine aw_lconst (v := 0) (pc1 := 56) at_533_55 (by decide) rfl ?_
      refine aw_lstore_n (lv1 := am_put2 _ 3 _) (pc1 := 57) at_533_56 rfl rfl ?_
      exact rg_533_57 (fun z0 z1 z2 h o hs => ih z0 z1 z2 h o hs) N x0 x1 x2 0 h o hs _ (am_lk2 l0 rfl rfl) (am_lk2 l1 rfl rfl) (am_lk2 l2 rfl rfl) am_lk02 i0
def fg_533_32 (N : Nat) (x0 : Value) (x1 : Int32) (s0 : Value) (s1 : Int32) (h : am_H) : Option am_O := ((am_pP 3072 s0 (.int s1) h).bind fun h1 => ((am_vI (am_pG 3072 x0 h1)).bind fun v3 => (if v3 ≤ 0 then (if am_pOk 12 x0 h1 then am_cV true (fm_377 N x0 h1) (fun h8 => (fg_533_50 N N x0 x1 1 h8)) else none) else some (.inl (some (.int 0), h1)))))
theorem rg_533_32 {X : am_X} {d : Nat} {N : Nat} {lv : am_LV} (x0 : Value) (x1 : Int32) (s0 : Value) (s1 : Int32) (h : am_H) (o : am_O) (l0 : lv.lookup 0 = some x0) (l1 : lv.lookup 1 = some (.int x1)) (i0 : am_isR x0 = true) (j0 : am_isR s0 = true) (hs : fg_533_32 N x0 x1 s0 s1 h = some o) : am_W X (d + 8) 533 32 lv [(.int s1), s0] h (fun q => q = o) := by
  unfold fg_533_32 at hs
  obtain ⟨h1, e2, hs1⟩ := am_bind hs
  clear hs
  refine aw_pP (pc1 := 35) at_533_32 e2 rfl ?_
  refine aw_vload_n (pc1 := 36) at_533_35 l0 i0 rfl ?_
  obtain ⟨v3, e4, hs2⟩ := am_bind hs1
  clear hs1
  refine aw_pG (pc1 := 39) at_533_36 (am_vI_s e4) rfl ?_
  by_cases c5 : v3 ≤ 0
  · rw [if_pos c5] at hs2
    refine aw_ifle_t at_533_39 c5 ?_
    refine aw_vload_n (pc1 := 45) at_533_44 l0 i0 rfl ?_
    obtain ⟨z6, hs3⟩ := am_ift hs2
    clear hs2
    refine aw_call (F := fm_377 N x0 h1) (t := true) (na := 1) (kd := 1) (as := [x0]) at_533_45 (am_k3v kb_377) mn_377 mk_377 rfl rfl (am_ok_v mi_377 (am_hl rfl (am_ccR i0 am_cats_0) rfl) z6) (am_hc am_cats_0 rfl) (fun _ => ⟨rfl, hh_533⟩) (fun o1 hz9 => rm_377 x0 h1 o1 i0 hz9) ?_
    rcases am_cV_s hs3 with ⟨h8, f9, hs4⟩ | hs4
    · clear hs3
      refine Or.inl ⟨_, _, f9, ?_⟩
      show am_W X _ 533 48 _ [] h8 _
      refine aw_iconst (v := 1) (pc1 := 49) at_533_48 (by decide) rfl ?_
      refine aw_istore_n (lv1 := am_put1 _ 2 _) (pc1 := 50) at_533_49 rfl rfl ?_
      exact rg_533_50 N x0 x1 1 h8 o hs4 _ (am_lk1 l0 rfl rfl) (am_lk1 l1 rfl rfl) am_lk0 i0
    · clear hs3
      exact Or.inr hs4
  · rw [if_neg c5] at hs2
    refine aw_ifle_f (pc1 := 42) at_533_39 c5 rfl ?_
    refine aw_iconst (v := 0) (pc1 := 43) at_533_42 (by decide) rfl ?_
    cases hs2
    exact aw_iret at_533_43 (by rw [rt_533]; rfl) rfl
def fg_533_0 (N : Nat) (x0 : Value) (x1 : Int32) (h : am_H) : Option am_O := am_cI false (fm_327 ((Int32.toInt64 x1)) 1 5 h) (fun v1 h2 => (if ¬ v1 = 0 then ((am_vI (am_pG 3073 x0 h2)).bind fun v5 => (if ¬ v5 = 600 then (fg_533_32 N x0 x1 x0 0 h2) else (fg_533_32 N x0 x1 x0 2 h2))) else (fg_533_32 N x0 x1 x0 1 h2)))
theorem rg_533_0 {X : am_X} {d : Nat} {N : Nat} {lv : am_LV} (x0 : Value) (x1 : Int32) (h : am_H) (o : am_O) (l0 : lv.lookup 0 = some x0) (l1 : lv.lookup 1 = some (.int x1)) (i0 : am_isR x0 = true) (hs : fg_533_0 N x0 x1 h = some o) : am_W X (d + 8) 533 0 lv [] h (fun q => q = o) := by
  unfold fg_533_0 at hs
  refine aw_vload_n (pc1 := 1) at_533_0 l0 i0 rfl ?_
  refine aw_iload_n (pc1 := 2) at_533_1 l1 rfl ?_
  refine aw_i2l (v := (Int32.toInt64 x1)) (pc1 := 3) at_533_2 rfl rfl ?_
  refine aw_lconst (v := 1) (pc1 := 4) at_533_3 (by decide) rfl ?_
  refine aw_ldc2 (v := 5) (pc1 := 7) at_533_4 rfl rfl ?_
  refine aw_call (F := fm_327 ((Int32.toInt64 x1)) 1 5 h) (t := false) (na := 3) (kd := 0) (as := [(.long (Int32.toInt64 x1)), (.long 1), (.long 5)]) at_533_7 (am_k3s kb_327) mn_327 mk_327 rfl rfl (am_ok_s mi_327 (am_hl rfl (am_ccL (am_ccL (am_ccL am_cats_0))) rfl)) (am_hc (am_ccR i0 am_cats_0) rfl) (fun hz9 => by cases hz9) (fun o1 hz9 => rm_327 ((Int32.toInt64 x1)) 1 5 h o1  hz9) ?_
  rcases am_cI_s hs with ⟨v1, h2, f3, hs1⟩ | hs1
  · clear hs
    refine Or.inl ⟨_, _, f3, ?_⟩
    show am_W X _ 533 10 _ [(.int v1), x0] h2 _
    by_cases c4 : ¬ v1 = 0
    · rw [if_pos c4] at hs1
      refine aw_ifne_t at_533_10 c4 ?_
      refine aw_vload_n (pc1 := 18) at_533_17 l0 i0 rfl ?_
      obtain ⟨v5, e6, hs2⟩ := am_bind hs1
      clear hs1
      refine aw_pG (pc1 := 21) at_533_18 (am_vI_s e6) rfl ?_
      refine aw_sipush (v := 600) (pc1 := 24) at_533_21 (by decide) rfl ?_
      by_cases c7 : ¬ v5 = 600
      · rw [if_pos c7] at hs2
        refine aw_icne_t at_533_24 c7 ?_
        refine aw_iconst (v := 0) (pc1 := 32) at_533_31 (by decide) rfl ?_
        exact rg_533_32 x0 x1 x0 0 h2 o l0 l1 i0 i0 hs2
      · rw [if_neg c7] at hs2
        refine aw_icne_f (pc1 := 27) at_533_24 c7 rfl ?_
        refine aw_iconst (v := 2) (pc1 := 28) at_533_27 (by decide) rfl ?_
        refine aw_goto at_533_28 ?_
        exact rg_533_32 x0 x1 x0 2 h2 o l0 l1 i0 i0 hs2
    · rw [if_neg c4] at hs1
      refine aw_ifne_f (pc1 := 13) at_533_10 c4 rfl ?_
      refine aw_iconst (v := 1) (pc1 := 14) at_533_13 (by decide) rfl ?_
      refine aw_goto at_533_14 ?_
      exact rg_533_32 x0 x1 x0 1 h2 o l0 l1 i0 i0 hs1
  · clear hs
    exact Or.inr hs1
def fm_533 (N : Nat) (y0 : Value) (y1 : Int32) (h : am_H) : Option am_O := fg_533_0 N y0 y1 h
theorem rm_533 {X : am_X} {d : Nat} {N : Nat} (y0 : Value) (y1 : Int32) (h : am_H) (o : am_O) (i0 : am_isR y0 = true) (hs : fm_533 N y0 y1 h = some o) : am_W X (d + 8) 533 0 (am_args 0 [y0, .int y1]) [] h (fun q => q = o) := by
  rw [am_args_R i0, am_args_I]
  exact rg_533_0 y0 y1 h o rfl rfl i0 hs
def fg_273_28 (s0 : Int32) (h : am_H) : Option am_O := (if am_rfit (some FieldType.boolean) s0 then some (.inl (some (.int s0), h)) else none)
theorem rg_273_28 {X : am_X} {d : Nat} {lv : am_LV} (s0 : Int32) (h : am_H) (o : am_O) (hs : fg_273_28 s0 h = some o) : am_W X (d + 1) 273 28 lv [(.int s0)] h (fun q => q = o) := by
  unfold fg_273_28 at hs
  obtain ⟨z1, hs1⟩ := am_ift hs
  clear hs
  cases hs1
  exact aw_iret at_273_28 (by rw [rt_273]; exact z1) rfl
def fg_273_27 (h : am_H) : Option am_O := (fg_273_28 0 h)
theorem rg_273_27 {X : am_X} {d : Nat} {lv : am_LV} (h : am_H) (o : am_O) (hs : fg_273_27 h = some o) : am_W X (d + 1) 273 27 lv [] h (fun q => q = o) := by
  unfold fg_273_27 at hs
  refine aw_iconst (v := 0) (pc1 := 28) at_273_27 (by decide) rfl ?_
  exact rg_273_28 0 h o   hs
def fg_273_0 (x0 : Value) (x1 : Int32) (h : am_H) : Option am_O := ((am_vR (am_pG 1285 x0 h)).bind fun v1 => ((am_vI (am_pG 771 v1 h)).bind fun v3 => (if v3 ≤ x1 then (fg_273_27 h) else ((am_vR (am_pG 1285 x0 h)).bind fun v6 => (if am_pOk 3 v6 h then am_cI true (fm_54 v6 x1 0 h) (fun v9 h10 => (if ¬ v9 = 0 then (fg_273_27 h10) else (fg_273_28 1 h10))) else none)))))
theorem rg_273_0 {X : am_X} {d : Nat} {lv : am_LV} (x0 : Value) (x1 : Int32) (h : am_H) (o : am_O) (l0 : lv.lookup 0 = some x0) (l1 : lv.lookup 1 = some (.int x1)) (i0 : am_isR x0 = true) (hs : fg_273_0 x0 x1 h = some o) : am_W X (d + 1) 273 0 lv [] h (fun q => q = o) := by
  unfold fg_273_0 at hs
  refine aw_iload_n (pc1 := 1) at_273_0 l1 rfl ?_
  refine aw_vload_n (pc1 := 2) at_273_1 l0 i0 rfl ?_
  obtain ⟨v1, e2, hs1⟩ := am_bind hs
  clear hs
  refine aw_pG (pc1 := 5) at_273_2 (am_vR_s e2).1 rfl ?_
  obtain ⟨v3, e4, hs2⟩ := am_bind hs1
  clear hs1
  refine aw_pG (pc1 := 8) at_273_5 (am_vI_s e4) rfl ?_
  by_cases c5 : v3 ≤ x1
  · rw [if_pos c5] at hs2
    refine aw_icge_t at_273_8 c5 ?_
    exact rg_273_27 h o   hs2
  · rw [if_neg c5] at hs2
    refine aw_icge_f (pc1 := 11) at_273_8 c5 rfl ?_
    refine aw_vload_n (pc1 := 12) at_273_11 l0 i0 rfl ?_
    obtain ⟨v6, e7, hs3⟩ := am_bind hs2
    clear hs2
    refine aw_pG (pc1 := 15) at_273_12 (am_vR_s e7).1 rfl ?_
    refine aw_iload_n (pc1 := 16) at_273_15 l1 rfl ?_
    refine aw_iconst (v := 0) (pc1 := 17) at_273_16 (by decide) rfl ?_
    obtain ⟨z8, hs4⟩ := am_ift hs3
    clear hs3
    refine aw_call (F := fm_54 v6 x1 0 h) (t := true) (na := 3) (kd := 1) (as := [v6, (.int x1), (.int 0)]) at_273_17 (am_k3v kb_54) mn_54 mk_54 rfl rfl (am_ok_v mi_54 (am_hl rfl (am_ccR (am_vR_s e7).2 (am_ccI (am_ccI am_cats_0))) rfl) z8) (am_hc am_cats_0 rfl) (fun _ => ⟨rfl, hh_273⟩) (fun o1 hz9 => rm_54 v6 x1 0 h o1 (am_vR_s e7).2 hz9) ?_
    rcases am_cI_s hs4 with ⟨v9, h10, f11, hs5⟩ | hs5
    · clear hs4
      refine Or.inl ⟨_, _, f11, ?_⟩
      show am_W X _ 273 20 _ [(.int v9)] h10 _
      by_cases c12 : ¬ v9 = 0
      · rw [if_pos c12] at hs5
        refine aw_ifne_t at_273_20 c12 ?_
        exact rg_273_27 h10 o   hs5
      · rw [if_neg c12] at hs5
        refine aw_ifne_f (pc1 := 23) at_273_20 c12 rfl ?_
        refine aw_iconst (v := 1) (pc1 := 24) at_273_23 (by decide) rfl ?_
        refine aw_goto at_273_24 ?_
        exact rg_273_28 1 h10 o   hs5
    · clear hs4
      exact Or.inr hs5
def fm_273 (y0 : Value) (y1 : Int32) (h : am_H) : Option am_O := fg_273_0 y0 y1 h
theorem rm_273 {X : am_X} {d : Nat} (y0 : Value) (y1 : Int32) (h : am_H) (o : am_O) (i0 : am_isR y0 = true) (hs : fm_273 y0 y1 h = some o) : am_W X (d + 1) 273 0 (am_args 0 [y0, .int y1]) [] h (fun q => q = o) := by
  rw [am_args_R i0, am_args_I]
  exact rg_273_0 y0 y1 h o rfl rfl i0 hs
def fg_274_23 (s0 : Int32) (h : am_H) : Option am_O := some (.inl (some (.int s0), h))
theorem rg_274_23 {X : am_X} {d : Nat} {lv : am_LV} (s0 : Int32) (h : am_H) (o : am_O) (hs : fg_274_23 s0 h = some o) : am_W X (d) 274 23 lv [(.int s0)] h (fun q => q = o) := by
  unfold fg_274_23 at hs
  cases hs
  exact aw_iret at_274_23 (by rw [rt_274]; rfl) rfl
def fg_274_22 (h : am_H) : Option am_O := (fg_274_23 ((-1)) h)
theorem rg_274_22 {X : am_X} {d : Nat} {lv : am_LV} (h : am_H) (o : am_O) (hs : fg_274_22 h = some o) : am_W X (d) 274 22 lv [] h (fun q => q = o) := by
  unfold fg_274_22 at hs
  refine aw_iconst (v := (-1)) (pc1 := 23) at_274_22 (by decide) rfl ?_
  exact rg_274_23 ((-1)) h o   hs
def fg_274_0 (x0 : Value) (x1 : Int32) (h : am_H) : Option am_O := ((am_pP 1286 x0 (.int x1) h).bind fun h1 => (if x1 < (-99) then (fg_274_22 h1) else (if 99 < x1 then (fg_274_22 h1) else (fg_274_23 ((-2)) h1))))
theorem rg_274_0 {X : am_X} {d : Nat} {lv : am_LV} (x0 : Value) (x1 : Int32) (h : am_H) (o : am_O) (l0 : lv.lookup 0 = some x0) (l1 : lv.lookup 1 = some (.int x1)) (i0 : am_isR x0 = true) (hs : fg_274_0 x0 x1 h = some o) : am_W X (d) 274 0 lv [] h (fun q => q = o) := by
  unfold fg_274_0 at hs
  refine aw_vload_n (pc1 := 1) at_274_0 l0 i0 rfl ?_
  refine aw_iload_n (pc1 := 2) at_274_1 l1 rfl ?_
  obtain ⟨h1, e2, hs1⟩ := am_bind hs
  clear hs
  refine aw_pP (pc1 := 5) at_274_2 e2 rfl ?_
  refine aw_iload_n (pc1 := 6) at_274_5 l1 rfl ?_
  refine aw_bipush (v := (-99)) (pc1 := 8) at_274_6 (by decide) rfl ?_
  by_cases c3 : x1 < (-99)
  · rw [if_pos c3] at hs1
    refine aw_iclt_t at_274_8 c3 ?_
    exact rg_274_22 h1 o   hs1
  · rw [if_neg c3] at hs1
    refine aw_iclt_f (pc1 := 11) at_274_8 c3 rfl ?_
    refine aw_iload_n (pc1 := 12) at_274_11 l1 rfl ?_
    refine aw_bipush (v := 99) (pc1 := 14) at_274_12 (by decide) rfl ?_
    by_cases c4 : 99 < x1
    · rw [if_pos c4] at hs1
      refine aw_icgt_t at_274_14 c4 ?_
      exact rg_274_22 h1 o   hs1
    · rw [if_neg c4] at hs1
      refine aw_icgt_f (pc1 := 17) at_274_14 c4 rfl ?_
      refine aw_bipush (v := (-2)) (pc1 := 19) at_274_17 (by decide) rfl ?_
      refine aw_goto at_274_19 ?_
      exact rg_274_23 ((-2)) h1 o   hs1
def fm_274 (y0 : Value) (y1 : Int32) (h : am_H) : Option am_O := fg_274_0 y0 y1 h
theorem rm_274 {X : am_X} {d : Nat} (y0 : Value) (y1 : Int32) (h : am_H) (o : am_O) (i0 : am_isR y0 = true) (hs : fm_274 y0 y1 h = some o) : am_W X (d) 274 0 (am_args 0 [y0, .int y1]) [] h (fun q => q = o) := by
  rw [am_args_R i0, am_args_I]
  exact rg_274_0 y0 y1 h o rfl rfl i0 hs
def fg_272_162 (s0 : Int32) (h : am_H) : Option am_O := some (.inl (some (.int s0), h))
theorem rg_272_162 {X : am_X} {d : Nat} {lv : am_LV} (s0 : Int32) (h : am_H) (o : am_O) (hs : fg_272_162 s0 h = some o) : am_W X (d + 2) 272 162 lv [(.int s0)] h (fun q => q = o) := by
  unfold fg_272_162 at hs
  cases hs
  exact aw_iret at_272_162 (by rw [rt_272]; rfl) rfl
def fg_272_159 (s0 : Value) (s1 : Int32) (h : am_H) : Option am_O := (if am_pOk 5 s0 h then am_cI true (fm_274 s0 s1 h) (fun v2 h3 => (fg_272_162 v2 h3)) else none)
theorem rg_272_159 {X : am_X} {d : Nat} {lv : am_LV} (s0 : Value) (s1 : Int32) (h : am_H) (o : am_O) (j0 : am_isR s0 = true) (hs : fg_272_159 s0 s1 h = some o) : am_W X (d + 2) 272 159 lv [(.int s1), s0] h (fun q => q = o) := by
  unfold fg_272_159 at hs
  obtain ⟨z1, hs1⟩ := am_ift hs
  clear hs
  refine aw_call (F := fm_274 s0 s1 h) (t := true) (na := 2) (kd := 1) (as := [s0, (.int s1)]) at_272_159 (am_k3v kb_274) mn_274 mk_274 rfl rfl (am_ok_v mi_274 (am_hl rfl (am_ccR j0 (am_ccI am_cats_0)) rfl) z1) (am_hc am_cats_0 rfl) (fun _ => ⟨rfl, hh_272⟩) (fun o1 hz9 => rm_274 s0 s1 h o1 j0 hz9) ?_
  rcases am_cI_s hs1 with ⟨v2, h3, f4, hs2⟩ | hs2
  · clear hs1
    refine Or.inl ⟨_, _, f4, ?_⟩
    show am_W X _ 272 162 _ [(.int v2)] h3 _
    exact rg_272_162 v2 h3 o   hs2
  · clear hs1
    exact Or.inr hs2
def fg_272_126 (s0 : Value) (s1 : Int32) (h : am_H) : Option am_O := (if am_pOk 5 s0 h then am_cI true (fm_274 s0 s1 h) (fun v2 h3 => some (.inl (some (.int v2), h3))) else none)
theorem rg_272_126 {X : am_X} {d : Nat} {lv : am_LV} (s0 : Value) (s1 : Int32) (h : am_H) (o : am_O) (j0 : am_isR s0 = true) (hs : fg_272_126 s0 s1 h = some o) : am_W X (d + 2) 272 126 lv [(.int s1), s0] h (fun q => q = o) := by
  unfold fg_272_126 at hs
  obtain ⟨z1, hs1⟩ := am_ift hs
  clear hs
  refine aw_call (F := fm_274 s0 s1 h) (t := true) (na := 2) (kd := 1) (as := [s0, (.int s1)]) at_272_126 (am_k3v kb_274) mn_274 mk_274 rfl rfl (am_ok_v mi_274 (am_hl rfl (am_ccR j0 (am_ccI am_cats_0)) rfl) z1) (am_hc am_cats_0 rfl) (fun _ => ⟨rfl, hh_272⟩) (fun o1 hz9 => rm_274 s0 s1 h o1 j0 hz9) ?_
  rcases am_cI_s hs1 with ⟨v2, h3, f4, hs2⟩ | hs2
  · clear hs1
    refine Or.inl ⟨_, _, f4, ?_⟩
    show am_W X _ 272 129 _ [(.int v2)] h3 _
    cases hs2
    exact aw_iret at_272_129 (by rw [rt_272]; rfl) rfl
  · clear hs1
    exact Or.inr hs2
def fg_272_92 (x0 : Value) (x1 : Int32) (x4 : Int32) (x5 : Int32) (h : am_H) : Option am_O := (if ¬ x1 = 10 then (if ¬ x1 = 11 then (fg_272_126 x0 ((x4 * x5)) h) else (fg_272_126 x0 ((x4 - x5)) h)) else (fg_272_126 x0 ((x4 + x5)) h))
theorem rg_272_92 {X : am_X} {d : Nat} {lv : am_LV} (x0 : Value) (x1 : Int32) (x4 : Int32) (x5 : Int32) (h : am_H) (o : am_O) (l0 : lv.lookup 0 = some x0) (l1 : lv.lookup 1 = some (.int x1)) (l4 : lv.lookup 4 = some (.int x4)) (l5 : lv.lookup 5 = some (.int x5)) (i0 : am_isR x0 = true) (hs : fg_272_92 x0 x1 x4 x5 h = some o) : am_W X (d + 2) 272 92 lv [] h (fun q => q = o) := by
  unfold fg_272_92 at hs
  refine aw_vload_n (pc1 := 93) at_272_92 l0 i0 rfl ?_
  refine aw_iload_n (pc1 := 94) at_272_93 l1 rfl ?_
  refine aw_bipush (v := 10) (pc1 := 96) at_272_94 (by decide) rfl ?_
  by_cases c1 : ¬ x1 = 10
  · rw [if_pos c1] at hs
    refine aw_icne_t at_272_96 c1 ?_
    refine aw_iload_n (pc1 := 108) at_272_107 l1 rfl ?_
    refine aw_bipush (v := 11) (pc1 := 110) at_272_108 (by decide) rfl ?_
    by_cases c2 : ¬ x1 = 11
    · rw [if_pos c2] at hs
      refine aw_icne_t at_272_110 c2 ?_
      refine aw_iload (pc1 := 123) at_272_121 l4 rfl ?_
      refine aw_iload (pc1 := 125) at_272_123 l5 rfl ?_
      refine aw_imul (v := (x4 * x5)) (pc1 := 126) at_272_125 rfl rfl ?_
      exact rg_272_126 x0 ((x4 * x5)) h o  i0 hs
    · rw [if_neg c2] at hs
      refine aw_icne_f (pc1 := 113) at_272_110 c2 rfl ?_
      refine aw_iload (pc1 := 115) at_272_113 l4 rfl ?_
      refine aw_iload (pc1 := 117) at_272_115 l5 rfl ?_
      refine aw_isub (v := (x4 - x5)) (pc1 := 118) at_272_117 rfl rfl ?_
      refine aw_goto at_272_118 ?_
      exact rg_272_126 x0 ((x4 - x5)) h o  i0 hs
  · rw [if_neg c1] at hs
    refine aw_icne_f (pc1 := 99) at_272_96 c1 rfl ?_
    refine aw_iload (pc1 := 101) at_272_99 l4 rfl ?_
    refine aw_iload (pc1 := 103) at_272_101 l5 rfl ?_
    refine aw_iadd (v := (x4 + x5)) (pc1 := 104) at_272_103 rfl rfl ?_
    refine aw_goto at_272_104 ?_
    exact rg_272_126 x0 ((x4 + x5)) h o  i0 hs
def fg_272_61 (h : am_H) : Option am_O := some (.inl (some (.int (-1)), h))
theorem rg_272_61 {X : am_X} {d : Nat} {lv : am_LV} (h : am_H) (o : am_O) (hs : fg_272_61 h = some o) : am_W X (d + 2) 272 61 lv [] h (fun q => q = o) := by
  unfold fg_272_61 at hs
  refine aw_iconst (v := (-1)) (pc1 := 62) at_272_61 (by decide) rfl ?_
  cases hs
  exact aw_iret at_272_62 (by rw [rt_272]; rfl) rfl
def fg_272_14 (h : am_H) : Option am_O := some (.inl (some (.int (-1)), h))
theorem rg_272_14 {X : am_X} {d : Nat} {lv : am_LV} (h : am_H) (o : am_O) (hs : fg_272_14 h = some o) : am_W X (d + 2) 272 14 lv [] h (fun q => q = o) := by
  unfold fg_272_14 at hs
  refine aw_iconst (v := (-1)) (pc1 := 15) at_272_14 (by decide) rfl ?_
  cases hs
  exact aw_iret at_272_15 (by rw [rt_272]; rfl) rfl
def fg_272_0 (x0 : Value) (x1 : Int32) (x2 : Int32) (x3 : Int32) (h : am_H) : Option am_O := (if x1 < 7 then (fg_272_14 h) else (if am_pOk 5 x0 h then am_cI true (fm_273 x0 x2 h) (fun v3 h4 => (if ¬ v3 = 0 then ((am_vR (am_pG 1285 x0 h4)).bind fun v7 => (if am_pOk 3 v7 h4 then am_cI true (fm_54 v7 x2 1 h4) (fun v10 h11 => (if ¬ x1 = 7 then (if x1 < 10 then (fg_272_61 h11) else (if 14 < x1 then (fg_272_61 h11) else (if am_pOk 5 x0 h11 then am_cI true (fm_273 x0 x3 h11) (fun v17 h18 => (if ¬ v17 = 0 then ((am_vR (am_pG 1285 x0 h18)).bind fun v21 => (if am_pOk 3 v21 h18 then am_cI true (fm_54 v21 x3 1 h18) (fun v24 h25 => (if x1 = 10 then (fg_272_92 x0 x1 v10 v24 h25) else (if x1 = 11 then (fg_272_92 x0 x1 v10 v24 h25) else (if ¬ x1 = 12 then (if ¬ v24 = 0 then (if ¬ x1 = 13 then (if (v24 : Int32) ≠ 0 then (fg_272_159 x0 ((v10 - v10 / v24 * v24)) h25) else none) else (if (v24 : Int32) ≠ 0 then (fg_272_159 x0 ((v10 / v24)) h25) else none)) else (fg_272_162 ((-1)) h25)) else (fg_272_92 x0 x1 v10 v24 h25))))) else none)) else (fg_272_61 h18))) else none))) else (if am_pOk 5 x0 h11 then am_cI true (fm_274 x0 ((-v10)) h11) (fun v35 h36 => some (.inl (some (.int v35), h36))) else none))) else none)) else (fg_272_14 h4))) else none))
theorem rg_272_0 {X : am_X} {d : Nat} {lv : am_LV} (x0 : Value) (x1 : Int32) (x2 : Int32) (x3 : Int32) (h : am_H) (o : am_O) (l0 : lv.lookup 0 = some x0) (l1 : lv.lookup 1 = some (.int x1)) (l2 : lv.lookup 2 = some (.int x2)) (l3 : lv.lookup 3 = some (.int x3)) (i0 : am_isR x0 = true) (hs : fg_272_0 x0 x1 x2 x3 h = some o) : am_W X (d + 2) 272 0 lv [] h (fun q => q = o) := by
  unfold fg_272_0 at hs
  refine aw_iload_n (pc1 := 1) at_272_0 l1 rfl ?_
  refine aw_bipush (v := 7) (pc1 := 3) at_272_1 (by decide) rfl ?_
  by_cases c1 : x1 < 7
  · rw [if_pos c1] at hs
    refine aw_iclt_t at_272_3 c1 ?_
    exact rg_272_14 h o   hs
  · rw [if_neg c1] at hs
    refine aw_iclt_f (pc1 := 6) at_272_3 c1 rfl ?_
    refine aw_vload_n (pc1 := 7) at_272_6 l0 i0 rfl ?_
    refine aw_iload_n (pc1 := 8) at_272_7 l2 rfl ?_
    obtain ⟨z2, hs1⟩ := am_ift hs
    clear hs
    refine aw_call (F := fm_273 x0 x2 h) (t := true) (na := 2) (kd := 1) (as := [x0, (.int x2)]) at_272_8 (am_k3v kb_273) mn_273 mk_273 rfl rfl (am_ok_v mi_273 (am_hl rfl (am_ccR i0 (am_ccI am_cats_0)) rfl) z2) (am_hc am_cats_0 rfl) (fun _ => ⟨rfl, hh_272⟩) (fun o1 hz9 => rm_273 x0 x2 h o1 i0 hz9) ?_
    rcases am_cI_s hs1 with ⟨v3, h4, f5, hs2⟩ | hs2
    · clear hs1
      refine Or.inl ⟨_, _, f5, ?_⟩
      show am_W X _ 272 11 _ [(.int v3)] h4 _
      by_cases c6 : ¬ v3 = 0
      · rw [if_pos c6] at hs2
        refine aw_ifne_t at_272_11 c6 ?_
        refine aw_vload_n (pc1 := 17) at_272_16 l0 i0 rfl ?_
        obtain ⟨v7, e8, hs3⟩ := am_bind hs2
        clear hs2
        refine aw_pG (pc1 := 20) at_272_17 (am_vR_s e8).1 rfl ?_
        refine aw_iload_n (pc1 := 21) at_272_20 l2 rfl ?_
        refine aw_iconst (v := 1) (pc1 := 22) at_272_21 (by decide) rfl ?_
        obtain ⟨z9, hs4⟩ := am_ift hs3
        clear hs3
        refine aw_call (F := fm_54 v7 x2 1 h4) (t := true) (na := 3) (kd := 1) (as := [v7, (.int x2), (.int 1)]) at_272_22 (am_k3v kb_54) mn_54 mk_54 rfl rfl (am_ok_v mi_54 (am_hl rfl (am_ccR (am_vR_s e8).2 (am_ccI (am_ccI am_cats_0))) rfl) z9) (am_hc am_cats_0 rfl) (fun _ => ⟨rfl, hh_272⟩) (fun o1 hz9 => rm_54 v7 x2 1 h4 o1 (am_vR_s e8).2 hz9) ?_
        rcases am_cI_s hs4 with ⟨v10, h11, f12, hs5⟩ | hs5
        · clear hs4
          refine Or.inl ⟨_, _, f12, ?_⟩
          show am_W X _ 272 25 _ [(.int v10)] h11 _
          refine aw_istore (lv1 := am_put1 _ 4 _) (pc1 := 27) at_272_25 rfl rfl ?_
          refine aw_iload_n (pc1 := 28) at_272_27 (am_lk1 l1 rfl rfl) rfl ?_
          refine aw_bipush (v := 7) (pc1 := 30) at_272_28 (by decide) rfl ?_
          by_cases c13 : ¬ x1 = 7
          · rw [if_pos c13] at hs5
            refine aw_icne_t at_272_30 c13 ?_
            refine aw_iload_n (pc1 := 42) at_272_41 (am_lk1 l1 rfl rfl) rfl ?_
            refine aw_bipush (v := 10) (pc1 := 44) at_272_42 (by decide) rfl ?_
            by_cases c14 : x1 < 10
            · rw [if_pos c14] at hs5
              refine aw_iclt_t at_272_44 c14 ?_
              exact rg_272_61 h11 o   hs5
            · rw [if_neg c14] at hs5
              refine aw_iclt_f (pc1 := 47) at_272_44 c14 rfl ?_
              refine aw_iload_n (pc1 := 48) at_272_47 (am_lk1 l1 rfl rfl) rfl ?_
              refine aw_bipush (v := 14) (pc1 := 50) at_272_48 (by decide) rfl ?_
              by_cases c15 : 14 < x1
              · rw [if_pos c15] at hs5
                refine aw_icgt_t at_272_50 c15 ?_
                exact rg_272_61 h11 o   hs5
              · rw [if_neg c15] at hs5
                refine aw_icgt_f (pc1 := 53) at_272_50 c15 rfl ?_
                refine aw_vload_n (pc1 := 54) at_272_53 (am_lk1 l0 rfl rfl) i0 rfl ?_
                refine aw_iload_n (pc1 := 55) at_272_54 (am_lk1 l3 rfl rfl) rfl ?_
                obtain ⟨z16, hs6⟩ := am_ift hs5
                clear hs5
                refine aw_call (F := fm_273 x0 x3 h11) (t := true) (na := 2) (kd := 1) (as := [x0, (.int x3)]) at_272_55 (am_k3v kb_273) mn_273 mk_273 rfl rfl (am_ok_v mi_273 (am_hl rfl (am_ccR i0 (am_ccI am_cats_0)) rfl) z16) (am_hc am_cats_0 rfl) (fun _ => ⟨rfl, hh_272⟩) (fun o1 hz9 => rm_273 x0 x3 h11 o1 i0 hz9) ?_
                rcases am_cI_s hs6 with ⟨v17, h18, f19, hs7⟩ | hs7
                · clear hs6
                  refine Or.inl ⟨_, _, f19, ?_⟩
                  show am_W X _ 272 58 _ [(.int v17)] h18 _
                  by_cases c20 : ¬ v17 = 0
                  · rw [if_pos c20] at hs7
                    refine aw_ifne_t at_272_58 c20 ?_
                    refine aw_vload_n (pc1 := 64) at_272_63 (am_lk1 l0 rfl rfl) i0 rfl ?_
                    obtain ⟨v21, e22, hs8⟩ := am_bind hs7
                    clear hs7
                    refine aw_pG (pc1 := 67) at_272_64 (am_vR_s e22).1 rfl ?_
                    refine aw_iload_n (pc1 := 68) at_272_67 (am_lk1 l3 rfl rfl) rfl ?_
                    refine aw_iconst (v := 1) (pc1 := 69) at_272_68 (by decide) rfl ?_
                    obtain ⟨z23, hs9⟩ := am_ift hs8
                    clear hs8
                    refine aw_call (F := fm_54 v21 x3 1 h18) (t := true) (na := 3) (kd := 1) (as := [v21, (.int x3), (.int 1)]) at_272_69 (am_k3v kb_54) mn_54 mk_54 rfl rfl (am_ok_v mi_54 (am_hl rfl (am_ccR (am_vR_s e22).2 (am_ccI (am_ccI am_cats_0))) rfl) z23) (am_hc am_cats_0 rfl) (fun _ => ⟨rfl, hh_272⟩) (fun o1 hz9 => rm_54 v21 x3 1 h18 o1 (am_vR_s e22).2 hz9) ?_
                    rcases am_cI_s hs9 with ⟨v24, h25, f26, hs10⟩ | hs10
                    · clear hs9
                      refine Or.inl ⟨_, _, f26, ?_⟩
                      show am_W X _ 272 72 _ [(.int v24)] h25 _
                      refine aw_istore (lv1 := am_put1 _ 5 _) (pc1 := 74) at_272_72 rfl rfl ?_
                      refine aw_iload_n (pc1 := 75) at_272_74 (am_lk1 (am_lk1 l1 rfl rfl) rfl rfl) rfl ?_
                      refine aw_bipush (v := 10) (pc1 := 77) at_272_75 (by decide) rfl ?_
                      by_cases c27 : x1 = 10
                      · rw [if_pos c27] at hs10
                        refine aw_iceq_t at_272_77 c27 ?_
                        exact rg_272_92 x0 x1 v10 v24 h25 o (am_lk1 (am_lk1 l0 rfl rfl) rfl rfl) (am_lk1 (am_lk1 l1 rfl rfl) rfl rfl) (am_lk1 am_lk0 rfl rfl) am_lk0 i0 hs10
                      · rw [if_neg c27] at hs10
                        refine aw_iceq_f (pc1 := 80) at_272_77 c27 rfl ?_
                        refine aw_iload_n (pc1 := 81) at_272_80 (am_lk1 (am_lk1 l1 rfl rfl) rfl rfl) rfl ?_
                        refine aw_bipush (v := 11) (pc1 := 83) at_272_81 (by decide) rfl ?_
                        by_cases c28 : x1 = 11
                        · rw [if_pos c28] at hs10
                          refine aw_iceq_t at_272_83 c28 ?_
                          exact rg_272_92 x0 x1 v10 v24 h25 o (am_lk1 (am_lk1 l0 rfl rfl) rfl rfl) (am_lk1 (am_lk1 l1 rfl rfl) rfl rfl) (am_lk1 am_lk0 rfl rfl) am_lk0 i0 hs10
                        · rw [if_neg c28] at hs10
                          refine aw_iceq_f (pc1 := 86) at_272_83 c28 rfl ?_
                          refine aw_iload_n (pc1 := 87) at_272_86 (am_lk1 (am_lk1 l1 rfl rfl) rfl rfl) rfl ?_
                          refine aw_bipush (v := 12) (pc1 := 89) at_272_87 (by decide) rfl ?_
                          by_cases c29 : ¬ x1 = 12
                          · rw [if_pos c29] at hs10
                            refine aw_icne_t at_272_89 c29 ?_
                            refine aw_iload (pc1 := 132) at_272_130 am_lk0 rfl ?_
                            by_cases c30 : ¬ v24 = 0
                            · rw [if_pos c30] at hs10
                              refine aw_ifne_t at_272_132 c30 ?_
                              refine aw_vload_n (pc1 := 140) at_272_139 (am_lk1 (am_lk1 l0 rfl rfl) rfl rfl) i0 rfl ?_
                              refine aw_iload_n (pc1 := 141) at_272_140 (am_lk1 (am_lk1 l1 rfl rfl) rfl rfl) rfl ?_
                              refine aw_bipush (v := 13) (pc1 := 143) at_272_141 (by decide) rfl ?_
                              by_cases c31 : ¬ x1 = 13
                              · rw [if_pos c31] at hs10
                                refine aw_icne_t at_272_143 c31 ?_
                                refine aw_iload (pc1 := 156) at_272_154 (am_lk1 am_lk0 rfl rfl) rfl ?_
                                refine aw_iload (pc1 := 158) at_272_156 am_lk0 rfl ?_
                                obtain ⟨z32, hs11⟩ := am_ift hs10
                                clear hs10
                                refine aw_irem (v := (v10 - v10 / v24 * v24)) (pc1 := 159) at_272_158 z32 rfl rfl ?_
                                exact rg_272_159 x0 ((v10 - v10 / v24 * v24)) h25 o  i0 hs11
                              · rw [if_neg c31] at hs10
                                refine aw_icne_f (pc1 := 146) at_272_143 c31 rfl ?_
                                refine aw_iload (pc1 := 148) at_272_146 (am_lk1 am_lk0 rfl rfl) rfl ?_
                                refine aw_iload (pc1 := 150) at_272_148 am_lk0 rfl ?_
                                obtain ⟨z33, hs12⟩ := am_ift hs10
                                clear hs10
                                refine aw_idiv (v := (v10 / v24)) (pc1 := 151) at_272_150 z33 rfl rfl ?_
                                refine aw_goto at_272_151 ?_
                                exact rg_272_159 x0 ((v10 / v24)) h25 o  i0 hs12
                            · rw [if_neg c30] at hs10
                              refine aw_ifne_f (pc1 := 135) at_272_132 c30 rfl ?_
                              refine aw_iconst (v := (-1)) (pc1 := 136) at_272_135 (by decide) rfl ?_
                              refine aw_goto at_272_136 ?_
                              exact rg_272_162 ((-1)) h25 o   hs10
                          · rw [if_neg c29] at hs10
                            refine aw_icne_f (pc1 := 92) at_272_89 c29 rfl ?_
                            exact rg_272_92 x0 x1 v10 v24 h25 o (am_lk1 (am_lk1 l0 rfl rfl) rfl rfl) (am_lk1 (am_lk1 l1 rfl rfl) rfl rfl) (am_lk1 am_lk0 rfl rfl) am_lk0 i0 hs10
                    · clear hs9
                      exact Or.inr hs10
                  · rw [if_neg c20] at hs7
                    refine aw_ifne_f (pc1 := 61) at_272_58 c20 rfl ?_
                    exact rg_272_61 h18 o   hs7
                · clear hs6
                  exact Or.inr hs7
          · rw [if_neg c13] at hs5
            refine aw_icne_f (pc1 := 33) at_272_30 c13 rfl ?_
            refine aw_vload_n (pc1 := 34) at_272_33 (am_lk1 l0 rfl rfl) i0 rfl ?_
            refine aw_iload (pc1 := 36) at_272_34 am_lk0 rfl ?_
            refine aw_ineg (v := (-v10)) (pc1 := 37) at_272_36 rfl rfl ?_
            obtain ⟨z34, hs13⟩ := am_ift hs5
            clear hs5
            refine aw_call (F := fm_274 x0 ((-v10)) h11) (t := true) (na := 2) (kd := 1) (as := [x0, (.int (-v10))]) at_272_37 (am_k3v kb_274) mn_274 mk_274 rfl rfl (am_ok_v mi_274 (am_hl rfl (am_ccR i0 (am_ccI am_cats_0)) rfl) z34) (am_hc am_cats_0 rfl) (fun _ => ⟨rfl, hh_272⟩) (fun o1 hz9 => rm_274 x0 ((-v10)) h11 o1 i0 hz9) ?_
            rcases am_cI_s hs13 with ⟨v35, h36, f37, hs14⟩ | hs14
            · clear hs13
              refine Or.inl ⟨_, _, f37, ?_⟩
              show am_W X _ 272 40 _ [(.int v35)] h36 _
              cases hs14
              exact aw_iret at_272_40 (by rw [rt_272]; rfl) rfl
            · clear hs13
              exact Or.inr hs14
        · clear hs4
          exact Or.inr hs5
      · rw [if_neg c6] at hs2
        refine aw_ifne_f (pc1 := 14) at_272_11 c6 rfl ?_
        exact rg_272_14 h4 o   hs2
    · clear hs1
      exact Or.inr hs2
def fm_272 (y0 : Value) (y1 : Int32) (y2 : Int32) (y3 : Int32) (h : am_H) : Option am_O := fg_272_0 y0 y1 y2 y3 h
theorem rm_272 {X : am_X} {d : Nat} (y0 : Value) (y1 : Int32) (y2 : Int32) (y3 : Int32) (h : am_H) (o : am_O) (i0 : am_isR y0 = true) (hs : fm_272 y0 y1 y2 y3 h = some o) : am_W X (d + 2) 272 0 (am_args 0 [y0, .int y1, .int y2, .int y3]) [] h (fun q => q = o) := by
  rw [am_args_R i0, am_args_I, am_args_I, am_args_I]
  exact rg_272_0 y0 y1 y2 y3 h o rfl rfl rfl rfl i0 hs
def fg_276_41 (s0 : Int32) (h : am_H) : Option am_O := (if am_rfit (some FieldType.boolean) s0 then some (.inl (some (.int s0), h)) else none)
theorem rg_276_41 {X : am_X} {d : Nat} {lv : am_LV} (s0 : Int32) (h : am_H) (o : am_O) (hs : fg_276_41 s0 h = some o) : am_W X (d + 1) 276 41 lv [(.int s0)] h (fun q => q = o) := by
  unfold fg_276_41 at hs
  obtain ⟨z1, hs1⟩ := am_ift hs
  clear hs
  cases hs1
  exact aw_iret at_276_41 (by rw [rt_276]; exact z1) rfl
def fg_276_40 (h : am_H) : Option am_O := (fg_276_41 0 h)
theorem rg_276_40 {X : am_X} {d : Nat} {lv : am_LV} (h : am_H) (o : am_O) (hs : fg_276_40 h = some o) : am_W X (d + 1) 276 40 lv [] h (fun q => q = o) := by
  unfold fg_276_40 at hs
  refine aw_iconst (v := 0) (pc1 := 41) at_276_40 (by decide) rfl ?_
  exact rg_276_41 0 h o   hs
def fg_276_0 (x0 : Value) (x1 : Int32) (x2 : Int32) (h : am_H) : Option am_O := ((am_vR (am_pG 1285 x0 h)).bind fun v1 => ((am_vI (am_pG 771 v1 h)).bind fun v3 => (if v3 ≤ x1 then (fg_276_40 h) else ((am_vR (am_pG 1285 x0 h)).bind fun v6 => (if am_pOk 3 v6 h then am_cI true (fm_54 v6 x1 0 h) (fun v9 h10 => (if ¬ v9 = 0 then (fg_276_40 h10) else ((am_vR (am_pG 1285 x0 h10)).bind fun v13 => (if am_pOk 3 v13 h10 then am_cI true (fm_54 v13 x1 1 h10) (fun v16 h17 => (if ¬ v16 = x2 then (fg_276_40 h17) else (fg_276_41 1 h17))) else none)))) else none)))))
theorem rg_276_0 {X : am_X} {d : Nat} {lv : am_LV} (x0 : Value) (x1 : Int32) (x2 : Int32) (h : am_H) (o : am_O) (l0 : lv.lookup 0 = some x0) (l1 : lv.lookup 1 = some (.int x1)) (l2 : lv.lookup 2 = some (.int x2)) (i0 : am_isR x0 = true) (hs : fg_276_0 x0 x1 x2 h = some o) : am_W X (d + 1) 276 0 lv [] h (fun q => q = o) := by
  unfold fg_276_0 at hs
  refine aw_iload_n (pc1 := 1) at_276_0 l1 rfl ?_
  refine aw_vload_n (pc1 := 2) at_276_1 l0 i0 rfl ?_
  obtain ⟨v1, e2, hs1⟩ := am_bind hs
  clear hs
  refine aw_pG (pc1 := 5) at_276_2 (am_vR_s e2).1 rfl ?_
  obtain ⟨v3, e4, hs2⟩ := am_bind hs1
  clear hs1
  refine aw_pG (pc1 := 8) at_276_5 (am_vI_s e4) rfl ?_
  by_cases c5 : v3 ≤ x1
  · rw [if_pos c5] at hs2
    refine aw_icge_t at_276_8 c5 ?_
    exact rg_276_40 h o   hs2
  · rw [if_neg c5] at hs2
    refine aw_icge_f (pc1 := 11) at_276_8 c5 rfl ?_
    refine aw_vload_n (pc1 := 12) at_276_11 l0 i0 rfl ?_
    obtain ⟨v6, e7, hs3⟩ := am_bind hs2
    clear hs2
    refine aw_pG (pc1 := 15) at_276_12 (am_vR_s e7).1 rfl ?_
    refine aw_iload_n (pc1 := 16) at_276_15 l1 rfl ?_
    refine aw_iconst (v := 0) (pc1 := 17) at_276_16 (by decide) rfl ?_
    obtain ⟨z8, hs4⟩ := am_ift hs3
    clear hs3
    refine aw_call (F := fm_54 v6 x1 0 h) (t := true) (na := 3) (kd := 1) (as := [v6, (.int x1), (.int 0)]) at_276_17 (am_k3v kb_54) mn_54 mk_54 rfl rfl (am_ok_v mi_54 (am_hl rfl (am_ccR (am_vR_s e7).2 (am_ccI (am_ccI am_cats_0))) rfl) z8) (am_hc am_cats_0 rfl) (fun _ => ⟨rfl, hh_276⟩) (fun o1 hz9 => rm_54 v6 x1 0 h o1 (am_vR_s e7).2 hz9) ?_
    rcases am_cI_s hs4 with ⟨v9, h10, f11, hs5⟩ | hs5
    · clear hs4
      refine Or.inl ⟨_, _, f11, ?_⟩
      show am_W X _ 276 20 _ [(.int v9)] h10 _
      by_cases c12 : ¬ v9 = 0
      · rw [if_pos c12] at hs5
        refine aw_ifne_t at_276_20 c12 ?_
        exact rg_276_40 h10 o   hs5
      · rw [if_neg c12] at hs5
        refine aw_ifne_f (pc1 := 23) at_276_20 c12 rfl ?_
        refine aw_vload_n (pc1 := 24) at_276_23 l0 i0 rfl ?_
        obtain ⟨v13, e14, hs6⟩ := am_bind hs5
        clear hs5
        refine aw_pG (pc1 := 27) at_276_24 (am_vR_s e14).1 rfl ?_
        refine aw_iload_n (pc1 := 28) at_276_27 l1 rfl ?_
        refine aw_iconst (v := 1) (pc1 := 29) at_276_28 (by decide) rfl ?_
        obtain ⟨z15, hs7⟩ := am_ift hs6
        clear hs6
        refine aw_call (F := fm_54 v13 x1 1 h10) (t := true) (na := 3) (kd := 1) (as := [v13, (.int x1), (.int 1)]) at_276_29 (am_k3v kb_54) mn_54 mk_54 rfl rfl (am_ok_v mi_54 (am_hl rfl (am_ccR (am_vR_s e14).2 (am_ccI (am_ccI am_cats_0))) rfl) z15) (am_hc am_cats_0 rfl) (fun _ => ⟨rfl, hh_276⟩) (fun o1 hz9 => rm_54 v13 x1 1 h10 o1 (am_vR_s e14).2 hz9) ?_
        rcases am_cI_s hs7 with ⟨v16, h17, f18, hs8⟩ | hs8
        · clear hs7
          refine Or.inl ⟨_, _, f18, ?_⟩
          show am_W X _ 276 32 _ [(.int v16)] h17 _
          refine aw_iload_n (pc1 := 33) at_276_32 l2 rfl ?_
          by_cases c19 : ¬ v16 = x2
          · rw [if_pos c19] at hs8
            refine aw_icne_t at_276_33 c19 ?_
            exact rg_276_40 h17 o   hs8
          · rw [if_neg c19] at hs8
            refine aw_icne_f (pc1 := 36) at_276_33 c19 rfl ?_
            refine aw_iconst (v := 1) (pc1 := 37) at_276_36 (by decide) rfl ?_
            refine aw_goto at_276_37 ?_
            exact rg_276_41 1 h17 o   hs8
        · clear hs7
          exact Or.inr hs8
    · clear hs4
      exact Or.inr hs5
def fm_276 (y0 : Value) (y1 : Int32) (y2 : Int32) (h : am_H) : Option am_O := fg_276_0 y0 y1 y2 h
theorem rm_276 {X : am_X} {d : Nat} (y0 : Value) (y1 : Int32) (y2 : Int32) (h : am_H) (o : am_O) (i0 : am_isR y0 = true) (hs : fm_276 y0 y1 y2 h = some o) : am_W X (d + 1) 276 0 (am_args 0 [y0, .int y1, .int y2]) [] h (fun q => q = o) := by
  rw [am_args_R i0, am_args_I, am_args_I]
  exact rg_276_0 y0 y1 y2 h o rfl rfl rfl i0 hs
def fg_275_72 (s0 : Int32) (h : am_H) : Option am_O := some (.inl (some (.int s0), h))
theorem rg_275_72 {X : am_X} {d : Nat} {lv : am_LV} (s0 : Int32) (h : am_H) (o : am_O) (hs : fg_275_72 s0 h = some o) : am_W X (d + 2) 275 72 lv [(.int s0)] h (fun q => q = o) := by
  unfold fg_275_72 at hs
  cases hs
  exact aw_iret at_275_72 (by rw [rt_275]; rfl) rfl
def fg_275_71 (h : am_H) : Option am_O := (fg_275_72 ((-1)) h)
theorem rg_275_71 {X : am_X} {d : Nat} {lv : am_LV} (h : am_H) (o : am_O) (hs : fg_275_71 h = some o) : am_W X (d + 2) 275 71 lv [] h (fun q => q = o) := by
  unfold fg_275_71 at hs
  refine aw_iconst (v := (-1)) (pc1 := 72) at_275_71 (by decide) rfl ?_
  exact rg_275_72 ((-1)) h o   hs
def fg_275_57 (x0 : Value) (x2 : Int32) (x3 : Int32) (x4 : Int32) (h : am_H) : Option am_O := (if am_pOk 5 x0 h then am_cI true (fm_276 x0 x2 x4 h) (fun v2 h3 => (if v2 = 0 then (fg_275_71 h3) else (fg_275_72 x3 h3))) else none)
theorem rg_275_57 {X : am_X} {d : Nat} {lv : am_LV} (x0 : Value) (x2 : Int32) (x3 : Int32) (x4 : Int32) (h : am_H) (o : am_O) (l0 : lv.lookup 0 = some x0) (l2 : lv.lookup 2 = some (.int x2)) (l3 : lv.lookup 3 = some (.int x3)) (l4 : lv.lookup 4 = some (.int x4)) (i0 : am_isR x0 = true) (hs : fg_275_57 x0 x2 x3 x4 h = some o) : am_W X (d + 2) 275 57 lv [] h (fun q => q = o) := by
  unfold fg_275_57 at hs
  refine aw_vload_n (pc1 := 58) at_275_57 l0 i0 rfl ?_
  refine aw_iload_n (pc1 := 59) at_275_58 l2 rfl ?_
  refine aw_iload (pc1 := 61) at_275_59 l4 rfl ?_
  obtain ⟨z1, hs1⟩ := am_ift hs
  clear hs
  refine aw_call (F := fm_276 x0 x2 x4 h) (t := true) (na := 3) (kd := 1) (as := [x0, (.int x2), (.int x4)]) at_275_61 (am_k3v kb_276) mn_276 mk_276 rfl rfl (am_ok_v mi_276 (am_hl rfl (am_ccR i0 (am_ccI (am_ccI am_cats_0))) rfl) z1) (am_hc am_cats_0 rfl) (fun _ => ⟨rfl, hh_275⟩) (fun o1 hz9 => rm_276 x0 x2 x4 h o1 i0 hz9) ?_
  rcases am_cI_s hs1 with ⟨v2, h3, f4, hs2⟩ | hs2
  · clear hs1
    refine Or.inl ⟨_, _, f4, ?_⟩
    show am_W X _ 275 64 _ [(.int v2)] h3 _
    by_cases c5 : v2 = 0
    · rw [if_pos c5] at hs2
      refine aw_ifeq_t at_275_64 c5 ?_
      exact rg_275_71 h3 o   hs2
    · rw [if_neg c5] at hs2
      refine aw_ifeq_f (pc1 := 67) at_275_64 c5 rfl ?_
      refine aw_iload_n (pc1 := 68) at_275_67 l3 rfl ?_
      refine aw_goto at_275_68 ?_
      exact rg_275_72 x3 h3 o   hs2
  · clear hs1
    exact Or.inr hs2
def fg_275_31 (h : am_H) : Option am_O := some (.inl (some (.int (-1)), h))
theorem rg_275_31 {X : am_X} {d : Nat} {lv : am_LV} (h : am_H) (o : am_O) (hs : fg_275_31 h = some o) : am_W X (d + 2) 275 31 lv [] h (fun q => q = o) := by
  unfold fg_275_31 at hs
  refine aw_iconst (v := (-1)) (pc1 := 32) at_275_31 (by decide) rfl ?_
  cases hs
  exact aw_iret at_275_32 (by rw [rt_275]; rfl) rfl
def fg_275_17 (x0 : Value) (x1 : Int32) (x2 : Int32) (x3 : Int32) (s0 : Int32) (h : am_H) : Option am_O := (if x1 < 10 then (fg_275_31 h) else (if x1 ≤ 13 then (if am_pOk 5 x0 h then am_cI true (fm_276 x0 x3 s0 h) (fun v4 h5 => (if v4 = 0 then (if x1 = 10 then (fg_275_57 x0 x2 x3 s0 h5) else (if ¬ x1 = 12 then (fg_275_71 h5) else (fg_275_57 x0 x2 x3 s0 h5))) else some (.inl (some (.int x2), h5)))) else none) else (fg_275_31 h)))
theorem rg_275_17 {X : am_X} {d : Nat} {lv : am_LV} (x0 : Value) (x1 : Int32) (x2 : Int32) (x3 : Int32) (s0 : Int32) (h : am_H) (o : am_O) (l0 : lv.lookup 0 = some x0) (l1 : lv.lookup 1 = some (.int x1)) (l2 : lv.lookup 2 = some (.int x2)) (l3 : lv.lookup 3 = some (.int x3)) (i0 : am_isR x0 = true) (hs : fg_275_17 x0 x1 x2 x3 s0 h = some o) : am_W X (d + 2) 275 17 lv [(.int s0)] h (fun q => q = o) := by
  unfold fg_275_17 at hs
  refine aw_istore (lv1 := am_put1 _ 4 _) (pc1 := 19) at_275_17 rfl rfl ?_
  refine aw_iload_n (pc1 := 20) at_275_19 (am_lk1 l1 rfl rfl) rfl ?_
  refine aw_bipush (v := 10) (pc1 := 22) at_275_20 (by decide) rfl ?_
  by_cases c1 : x1 < 10
  · rw [if_pos c1] at hs
    refine aw_iclt_t at_275_22 c1 ?_
    exact rg_275_31 h o   hs
  · rw [if_neg c1] at hs
    refine aw_iclt_f (pc1 := 25) at_275_22 c1 rfl ?_
    refine aw_iload_n (pc1 := 26) at_275_25 (am_lk1 l1 rfl rfl) rfl ?_
    refine aw_bipush (v := 13) (pc1 := 28) at_275_26 (by decide) rfl ?_
    by_cases c2 : x1 ≤ 13
    · rw [if_pos c2] at hs
      refine aw_icle_t at_275_28 c2 ?_
      refine aw_vload_n (pc1 := 34) at_275_33 (am_lk1 l0 rfl rfl) i0 rfl ?_
      refine aw_iload_n (pc1 := 35) at_275_34 (am_lk1 l3 rfl rfl) rfl ?_
      refine aw_iload (pc1 := 37) at_275_35 am_lk0 rfl ?_
      obtain ⟨z3, hs1⟩ := am_ift hs
      clear hs
      refine aw_call (F := fm_276 x0 x3 s0 h) (t := true) (na := 3) (kd := 1) (as := [x0, (.int x3), (.int s0)]) at_275_37 (am_k3v kb_276) mn_276 mk_276 rfl rfl (am_ok_v mi_276 (am_hl rfl (am_ccR i0 (am_ccI (am_ccI am_cats_0))) rfl) z3) (am_hc am_cats_0 rfl) (fun _ => ⟨rfl, hh_275⟩) (fun o1 hz9 => rm_276 x0 x3 s0 h o1 i0 hz9) ?_
      rcases am_cI_s hs1 with ⟨v4, h5, f6, hs2⟩ | hs2
      · clear hs1
        refine Or.inl ⟨_, _, f6, ?_⟩
        show am_W X _ 275 40 _ [(.int v4)] h5 _
        by_cases c7 : v4 = 0
        · rw [if_pos c7] at hs2
          refine aw_ifeq_t at_275_40 c7 ?_
          refine aw_iload_n (pc1 := 46) at_275_45 (am_lk1 l1 rfl rfl) rfl ?_
          refine aw_bipush (v := 10) (pc1 := 48) at_275_46 (by decide) rfl ?_
          by_cases c8 : x1 = 10
          · rw [if_pos c8] at hs2
            refine aw_iceq_t at_275_48 c8 ?_
            exact rg_275_57 x0 x2 x3 s0 h5 o (am_lk1 l0 rfl rfl) (am_lk1 l2 rfl rfl) (am_lk1 l3 rfl rfl) am_lk0 i0 hs2
          · rw [if_neg c8] at hs2
            refine aw_iceq_f (pc1 := 51) at_275_48 c8 rfl ?_
            refine aw_iload_n (pc1 := 52) at_275_51 (am_lk1 l1 rfl rfl) rfl ?_
            refine aw_bipush (v := 12) (pc1 := 54) at_275_52 (by decide) rfl ?_
            by_cases c9 : ¬ x1 = 12
            · rw [if_pos c9] at hs2
              refine aw_icne_t at_275_54 c9 ?_
              exact rg_275_71 h5 o   hs2
            · rw [if_neg c9] at hs2
              refine aw_icne_f (pc1 := 57) at_275_54 c9 rfl ?_
              exact rg_275_57 x0 x2 x3 s0 h5 o (am_lk1 l0 rfl rfl) (am_lk1 l2 rfl rfl) (am_lk1 l3 rfl rfl) am_lk0 i0 hs2
        · rw [if_neg c7] at hs2
          refine aw_ifeq_f (pc1 := 43) at_275_40 c7 rfl ?_
          refine aw_iload_n (pc1 := 44) at_275_43 (am_lk1 l2 rfl rfl) rfl ?_
          cases hs2
          exact aw_iret at_275_44 (by rw [rt_275]; rfl) rfl
      · clear hs1
        exact Or.inr hs2
    · rw [if_neg c2] at hs
      refine aw_icle_f (pc1 := 31) at_275_28 c2 rfl ?_
      exact rg_275_31 h o   hs
def fg_275_12 (x0 : Value) (x1 : Int32) (x2 : Int32) (x3 : Int32) (h : am_H) : Option am_O := (fg_275_17 x0 x1 x2 x3 0 h)
theorem rg_275_12 {X : am_X} {d : Nat} {lv : am_LV} (x0 : Value) (x1 : Int32) (x2 : Int32) (x3 : Int32) (h : am_H) (o : am_O) (l0 : lv.lookup 0 = some x0) (l1 : lv.lookup 1 = some (.int x1)) (l2 : lv.lookup 2 = some (.int x2)) (l3 : lv.lookup 3 = some (.int x3)) (i0 : am_isR x0 = true) (hs : fg_275_12 x0 x1 x2 x3 h = some o) : am_W X (d + 2) 275 12 lv [] h (fun q => q = o) := by
  unfold fg_275_12 at hs
  refine aw_iconst (v := 0) (pc1 := 13) at_275_12 (by decide) rfl ?_
  refine aw_goto at_275_13 ?_
  exact rg_275_17 x0 x1 x2 x3 0 h o l0 l1 l2 l3 i0 hs
def fg_275_0 (x0 : Value) (x1 : Int32) (x2 : Int32) (x3 : Int32) (h : am_H) : Option am_O := (if x1 = 10 then (fg_275_12 x0 x1 x2 x3 h) else (if ¬ x1 = 11 then (fg_275_17 x0 x1 x2 x3 1 h) else (fg_275_12 x0 x1 x2 x3 h)))
theorem rg_275_0 {X : am_X} {d : Nat} {lv : am_LV} (x0 : Value) (x1 : Int32) (x2 : Int32) (x3 : Int32) (h : am_H) (o : am_O) (l0 : lv.lookup 0 = some x0) (l1 : lv.lookup 1 = some (.int x1)) (l2 : lv.lookup 2 = some (.int x2)) (l3 : lv.lookup 3 = some (.int x3)) (i0 : am_isR x0 = true) (hs : fg_275_0 x0 x1 x2 x3 h = some o) : am_W X (d + 2) 275 0 lv [] h (fun q => q = o) := by
  unfold fg_275_0 at hs
  refine aw_iload_n (pc1 := 1) at_275_0 l1 rfl ?_
  refine aw_bipush (v := 10) (pc1 := 3) at_275_1 (by decide) rfl ?_
  by_cases c1 : x1 = 10
  · rw [if_pos c1] at hs
    refine aw_iceq_t at_275_3 c1 ?_
    exact rg_275_12 x0 x1 x2 x3 h o l0 l1 l2 l3 i0 hs
  · rw [if_neg c1] at hs
    refine aw_iceq_f (pc1 := 6) at_275_3 c1 rfl ?_
    refine aw_iload_n (pc1 := 7) at_275_6 l1 rfl ?_
    refine aw_bipush (v := 11) (pc1 := 9) at_275_7 (by decide) rfl ?_
    by_cases c2 : ¬ x1 = 11
    · rw [if_pos c2] at hs
      refine aw_icne_t at_275_9 c2 ?_
      refine aw_iconst (v := 1) (pc1 := 17) at_275_16 (by decide) rfl ?_
      exact rg_275_17 x0 x1 x2 x3 1 h o l0 l1 l2 l3 i0 hs
    · rw [if_neg c2] at hs
      refine aw_icne_f (pc1 := 12) at_275_9 c2 rfl ?_
      exact rg_275_12 x0 x1 x2 x3 h o l0 l1 l2 l3 i0 hs
def fm_275 (y0 : Value) (y1 : Int32) (y2 : Int32) (y3 : Int32) (h : am_H) : Option am_O := fg_275_0 y0 y1 y2 y3 h
theorem rm_275 {X : am_X} {d : Nat} (y0 : Value) (y1 : Int32) (y2 : Int32) (y3 : Int32) (h : am_H) (o : am_O) (i0 : am_isR y0 = true) (hs : fm_275 y0 y1 y2 y3 h = some o) : am_W X (d + 2) 275 0 (am_args 0 [y0, .int y1, .int y2, .int y3]) [] h (fun q => q = o) := by
  rw [am_args_R i0, am_args_I, am_args_I, am_args_I]
  exact rg_275_0 y0 y1 y2 y3 h o rfl rfl rfl rfl i0 hs
def fg_277_115 (s0 : Int32) (h : am_H) : Option am_O := some (.inl (some (.int s0), h))
theorem rg_277_115 {X : am_X} {d : Nat} {lv : am_LV} (s0 : Int32) (h : am_H) (o : am_O) (hs : fg_277_115 s0 h = some o) : am_W X (d + 2) 277 115 lv [(.int s0)] h (fun q => q = o) := by
  unfold fg_277_115 at hs
  cases hs
  exact aw_iret at_277_115 (by rw [rt_277]; rfl) rfl
def fg_277_107 (x0 : Value) (x3 : Int32) (h : am_H) : Option am_O := ((am_vR (am_pG 1283 x0 h)).bind fun v1 => (if am_pOk 7 v1 h then am_cI true (fm_100 v1 x3 h) (fun v4 h5 => (fg_277_115 v4 h5)) else none))
theorem rg_277_107 {X : am_X} {d : Nat} {lv : am_LV} (x0 : Value) (x3 : Int32) (h : am_H) (o : am_O) (l0 : lv.lookup 0 = some x0) (l3 : lv.lookup 3 = some (.int x3)) (i0 : am_isR x0 = true) (hs : fg_277_107 x0 x3 h = some o) : am_W X (d + 2) 277 107 lv [] h (fun q => q = o) := by
  unfold fg_277_107 at hs
  refine aw_vload_n (pc1 := 108) at_277_107 l0 i0 rfl ?_
  obtain ⟨v1, e2, hs1⟩ := am_bind hs
  clear hs
  refine aw_pG (pc1 := 111) at_277_108 (am_vR_s e2).1 rfl ?_
  refine aw_iload_n (pc1 := 112) at_277_111 l3 rfl ?_
  obtain ⟨z3, hs2⟩ := am_ift hs1
  clear hs1
  refine aw_call (F := fm_100 v1 x3 h) (t := true) (na := 2) (kd := 1) (as := [v1, (.int x3)]) at_277_112 (am_k3v kb_100) mn_100 mk_100 rfl rfl (am_ok_v mi_100 (am_hl rfl (am_ccR (am_vR_s e2).2 (am_ccI am_cats_0)) rfl) z3) (am_hc am_cats_0 rfl) (fun _ => ⟨rfl, hh_277⟩) (fun o1 hz9 => rm_100 v1 x3 h o1 (am_vR_s e2).2 hz9) ?_
  rcases am_cI_s hs2 with ⟨v4, h5, f6, hs3⟩ | hs3
  · clear hs2
    refine Or.inl ⟨_, _, f6, ?_⟩
    show am_W X _ 277 115 _ [(.int v4)] h5 _
    exact rg_277_115 v4 h5 o   hs3
  · clear hs2
    exact Or.inr hs3
def fg_277_103 (x3 : Int32) (h : am_H) : Option am_O := (fg_277_115 x3 h)
theorem rg_277_103 {X : am_X} {d : Nat} {lv : am_LV} (x3 : Int32) (h : am_H) (o : am_O) (l3 : lv.lookup 3 = some (.int x3)) (hs : fg_277_103 x3 h = some o) : am_W X (d + 2) 277 103 lv [] h (fun q => q = o) := by
  unfold fg_277_103 at hs
  refine aw_iload_n (pc1 := 104) at_277_103 l3 rfl ?_
  refine aw_goto at_277_104 ?_
  exact rg_277_115 x3 h o   hs
def fg_277_51 (h : am_H) : Option am_O := some (.inl (some (.int (-1)), h))
theorem rg_277_51 {X : am_X} {d : Nat} {lv : am_LV} (h : am_H) (o : am_O) (hs : fg_277_51 h = some o) : am_W X (d + 2) 277 51 lv [] h (fun q => q = o) := by
  unfold fg_277_51 at hs
  refine aw_iconst (v := (-1)) (pc1 := 52) at_277_51 (by decide) rfl ?_
  cases hs
  exact aw_iret at_277_52 (by rw [rt_277]; rfl) rfl
def fg_277_31 (x0 : Value) (x2 : Int32) (x3 : Int32) (x4 : Int32) (h : am_H) : Option am_O := (if am_pOk 5 x0 h then am_cI true (fm_273 x0 ((x2 + 1)) h) (fun v2 h3 => (if v2 = 0 then (fg_277_51 h3) else (if am_pOk 5 x0 h3 then am_cI true (fm_273 x0 ((x2 + 2)) h3) (fun v7 h8 => (if ¬ v7 = 0 then ((am_vR (am_pG 1285 x0 h8)).bind fun v11 => (if am_pOk 3 v11 h8 then am_cI true (fm_54 v11 ((x2 + 1)) 1 h8) (fun v14 h15 => ((am_vR (am_pG 1285 x0 h15)).bind fun v17 => (if am_pOk 3 v17 h15 then am_cI true (fm_54 v17 ((x2 + 2)) 1 h15) (fun v20 h21 => (if ¬ x4 = 15 then (if ¬ v14 = v20 then (fg_277_107 x0 x3 h21) else (fg_277_103 x3 h21)) else (if v20 ≤ v14 then (fg_277_107 x0 x3 h21) else (fg_277_103 x3 h21)))) else none))) else none)) else (fg_277_51 h8))) else none))) else none)
theorem rg_277_31 {X : am_X} {d : Nat} {lv : am_LV} (x0 : Value) (x2 : Int32) (x3 : Int32) (x4 : Int32) (h : am_H) (o : am_O) (l0 : lv.lookup 0 = some x0) (l2 : lv.lookup 2 = some (.int x2)) (l3 : lv.lookup 3 = some (.int x3)) (l4 : lv.lookup 4 = some (.int x4)) (i0 : am_isR x0 = true) (hs : fg_277_31 x0 x2 x3 x4 h = some o) : am_W X (d + 2) 277 31 lv [] h (fun q => q = o) := by
  unfold fg_277_31 at hs
  refine aw_vload_n (pc1 := 32) at_277_31 l0 i0 rfl ?_
  refine aw_iload_n (pc1 := 33) at_277_32 l2 rfl ?_
  refine aw_iconst (v := 1) (pc1 := 34) at_277_33 (by decide) rfl ?_
  refine aw_iadd (v := (x2 + 1)) (pc1 := 35) at_277_34 rfl rfl ?_
  obtain ⟨z1, hs1⟩ := am_ift hs
  clear hs
  refine aw_call (F := fm_273 x0 ((x2 + 1)) h) (t := true) (na := 2) (kd := 1) (as := [x0, (.int (x2 + 1))]) at_277_35 (am_k3v kb_273) mn_273 mk_273 rfl rfl (am_ok_v mi_273 (am_hl rfl (am_ccR i0 (am_ccI am_cats_0)) rfl) z1) (am_hc am_cats_0 rfl) (fun _ => ⟨rfl, hh_277⟩) (fun o1 hz9 => rm_273 x0 ((x2 + 1)) h o1 i0 hz9) ?_
  rcases am_cI_s hs1 with ⟨v2, h3, f4, hs2⟩ | hs2
  · clear hs1
    refine Or.inl ⟨_, _, f4, ?_⟩
    show am_W X _ 277 38 _ [(.int v2)] h3 _
    by_cases c5 : v2 = 0
    · rw [if_pos c5] at hs2
      refine aw_ifeq_t at_277_38 c5 ?_
      exact rg_277_51 h3 o   hs2
    · rw [if_neg c5] at hs2
      refine aw_ifeq_f (pc1 := 41) at_277_38 c5 rfl ?_
      refine aw_vload_n (pc1 := 42) at_277_41 l0 i0 rfl ?_
      refine aw_iload_n (pc1 := 43) at_277_42 l2 rfl ?_
      refine aw_iconst (v := 2) (pc1 := 44) at_277_43 (by decide) rfl ?_
      refine aw_iadd (v := (x2 + 2)) (pc1 := 45) at_277_44 rfl rfl ?_
      obtain ⟨z6, hs3⟩ := am_ift hs2
      clear hs2
      refine aw_call (F := fm_273 x0 ((x2 + 2)) h3) (t := true) (na := 2) (kd := 1) (as := [x0, (.int (x2 + 2))]) at_277_45 (am_k3v kb_273) mn_273 mk_273 rfl rfl (am_ok_v mi_273 (am_hl rfl (am_ccR i0 (am_ccI am_cats_0)) rfl) z6) (am_hc am_cats_0 rfl) (fun _ => ⟨rfl, hh_277⟩) (fun o1 hz9 => rm_273 x0 ((x2 + 2)) h3 o1 i0 hz9) ?_
      rcases am_cI_s hs3 with ⟨v7, h8, f9, hs4⟩ | hs4
      · clear hs3
        refine Or.inl ⟨_, _, f9, ?_⟩
        show am_W X _ 277 48 _ [(.int v7)] h8 _
        by_cases c10 : ¬ v7 = 0
        · rw [if_pos c10] at hs4
          refine aw_ifne_t at_277_48 c10 ?_
          refine aw_vload_n (pc1 := 54) at_277_53 l0 i0 rfl ?_
          obtain ⟨v11, e12, hs5⟩ := am_bind hs4
          clear hs4
          refine aw_pG (pc1 := 57) at_277_54 (am_vR_s e12).1 rfl ?_
          refine aw_iload_n (pc1 := 58) at_277_57 l2 rfl ?_
          refine aw_iconst (v := 1) (pc1 := 59) at_277_58 (by decide) rfl ?_
          refine aw_iadd (v := (x2 + 1)) (pc1 := 60) at_277_59 rfl rfl ?_
          refine aw_iconst (v := 1) (pc1 := 61) at_277_60 (by decide) rfl ?_
          obtain ⟨z13, hs6⟩ := am_ift hs5
          clear hs5
          refine aw_call (F := fm_54 v11 ((x2 + 1)) 1 h8) (t := true) (na := 3) (kd := 1) (as := [v11, (.int (x2 + 1)), (.int 1)]) at_277_61 (am_k3v kb_54) mn_54 mk_54 rfl rfl (am_ok_v mi_54 (am_hl rfl (am_ccR (am_vR_s e12).2 (am_ccI (am_ccI am_cats_0))) rfl) z13) (am_hc am_cats_0 rfl) (fun _ => ⟨rfl, hh_277⟩) (fun o1 hz9 => rm_54 v11 ((x2 + 1)) 1 h8 o1 (am_vR_s e12).2 hz9) ?_
          rcases am_cI_s hs6 with ⟨v14, h15, f16, hs7⟩ | hs7
          · clear hs6
            refine Or.inl ⟨_, _, f16, ?_⟩
            show am_W X _ 277 64 _ [(.int v14)] h15 _
            refine aw_istore (lv1 := am_put1 _ 5 _) (pc1 := 66) at_277_64 rfl rfl ?_
            refine aw_vload_n (pc1 := 67) at_277_66 (am_lk1 l0 rfl rfl) i0 rfl ?_
            obtain ⟨v17, e18, hs8⟩ := am_bind hs7
            clear hs7
            refine aw_pG (pc1 := 70) at_277_67 (am_vR_s e18).1 rfl ?_
            refine aw_iload_n (pc1 := 71) at_277_70 (am_lk1 l2 rfl rfl) rfl ?_
            refine aw_iconst (v := 2) (pc1 := 72) at_277_71 (by decide) rfl ?_
            refine aw_iadd (v := (x2 + 2)) (pc1 := 73) at_277_72 rfl rfl ?_
            refine aw_iconst (v := 1) (pc1 := 74) at_277_73 (by decide) rfl ?_
            obtain ⟨z19, hs9⟩ := am_ift hs8
            clear hs8
            refine aw_call (F := fm_54 v17 ((x2 + 2)) 1 h15) (t := true) (na := 3) (kd := 1) (as := [v17, (.int (x2 + 2)), (.int 1)]) at_277_74 (am_k3v kb_54) mn_54 mk_54 rfl rfl (am_ok_v mi_54 (am_hl rfl (am_ccR (am_vR_s e18).2 (am_ccI (am_ccI am_cats_0))) rfl) z19) (am_hc am_cats_0 rfl) (fun _ => ⟨rfl, hh_277⟩) (fun o1 hz9 => rm_54 v17 ((x2 + 2)) 1 h15 o1 (am_vR_s e18).2 hz9) ?_
            rcases am_cI_s hs9 with ⟨v20, h21, f22, hs10⟩ | hs10
            · clear hs9
              refine Or.inl ⟨_, _, f22, ?_⟩
              show am_W X _ 277 77 _ [(.int v20)] h21 _
              refine aw_istore (lv1 := am_put1 _ 6 _) (pc1 := 79) at_277_77 rfl rfl ?_
              refine aw_iload (pc1 := 81) at_277_79 (am_lk1 (am_lk1 l4 rfl rfl) rfl rfl) rfl ?_
              refine aw_bipush (v := 15) (pc1 := 83) at_277_81 (by decide) rfl ?_
              by_cases c23 : ¬ x4 = 15
              · rw [if_pos c23] at hs10
                refine aw_icne_t at_277_83 c23 ?_
                refine aw_iload (pc1 := 98) at_277_96 (am_lk1 am_lk0 rfl rfl) rfl ?_
                refine aw_iload (pc1 := 100) at_277_98 am_lk0 rfl ?_
                by_cases c24 : ¬ v14 = v20
                · rw [if_pos c24] at hs10
                  refine aw_icne_t at_277_100 c24 ?_
                  exact rg_277_107 x0 x3 h21 o (am_lk1 (am_lk1 l0 rfl rfl) rfl rfl) (am_lk1 (am_lk1 l3 rfl rfl) rfl rfl) i0 hs10
                · rw [if_neg c24] at hs10
                  refine aw_icne_f (pc1 := 103) at_277_100 c24 rfl ?_
                  exact rg_277_103 x3 h21 o (am_lk1 (am_lk1 l3 rfl rfl) rfl rfl)  hs10
              · rw [if_neg c23] at hs10
                refine aw_icne_f (pc1 := 86) at_277_83 c23 rfl ?_
                refine aw_iload (pc1 := 88) at_277_86 (am_lk1 am_lk0 rfl rfl) rfl ?_
                refine aw_iload (pc1 := 90) at_277_88 am_lk0 rfl ?_
                by_cases c25 : v20 ≤ v14
                · rw [if_pos c25] at hs10
                  refine aw_icge_t at_277_90 c25 ?_
                  exact rg_277_107 x0 x3 h21 o (am_lk1 (am_lk1 l0 rfl rfl) rfl rfl) (am_lk1 (am_lk1 l3 rfl rfl) rfl rfl) i0 hs10
                · rw [if_neg c25] at hs10
                  refine aw_icge_f (pc1 := 93) at_277_90 c25 rfl ?_
                  refine aw_goto at_277_93 ?_
                  exact rg_277_103 x3 h21 o (am_lk1 (am_lk1 l3 rfl rfl) rfl rfl)  hs10
            · clear hs9
              exact Or.inr hs10
          · clear hs6
            exact Or.inr hs7
        · rw [if_neg c10] at hs4
          refine aw_ifne_f (pc1 := 51) at_277_48 c10 rfl ?_
          exact rg_277_51 h8 o   hs4
      · clear hs3
        exact Or.inr hs4
  · clear hs1
    exact Or.inr hs2
def fg_277_0 (x0 : Value) (x1 : Int32) (x2 : Int32) (x3 : Int32) (h : am_H) : Option am_O := ((am_vR (am_pG 1285 x0 h)).bind fun v1 => (if am_pOk 3 v1 h then am_cI true (fm_54 v1 x2 0 h) (fun v4 h5 => (if ¬ x1 = 20 then (fg_277_51 h5) else (if v4 = 15 then (fg_277_31 x0 x2 x3 v4 h5) else (if ¬ v4 = 16 then (fg_277_51 h5) else (fg_277_31 x0 x2 x3 v4 h5))))) else none))
theorem rg_277_0 {X : am_X} {d : Nat} {lv : am_LV} (x0 : Value) (x1 : Int32) (x2 : Int32) (x3 : Int32) (h : am_H) (o : am_O) (l0 : lv.lookup 0 = some x0) (l1 : lv.lookup 1 = some (.int x1)) (l2 : lv.lookup 2 = some (.int x2)) (l3 : lv.lookup 3 = some (.int x3)) (i0 : am_isR x0 = true) (hs : fg_277_0 x0 x1 x2 x3 h = some o) : am_W X (d + 2) 277 0 lv [] h (fun q => q = o) := by
  unfold fg_277_0 at hs
  refine aw_vload_n (pc1 := 1) at_277_0 l0 i0 rfl ?_
  obtain ⟨v1, e2, hs1⟩ := am_bind hs
  clear hs
  refine aw_pG (pc1 := 4) at_277_1 (am_vR_s e2).1 rfl ?_
  refine aw_iload_n (pc1 := 5) at_277_4 l2 rfl ?_
  refine aw_iconst (v := 0) (pc1 := 6) at_277_5 (by decide) rfl ?_
  obtain ⟨z3, hs2⟩ := am_ift hs1
  clear hs1
  refine aw_call (F := fm_54 v1 x2 0 h) (t := true) (na := 3) (kd := 1) (as := [v1, (.int x2), (.int 0)]) at_277_6 (am_k3v kb_54) mn_54 mk_54 rfl rfl (am_ok_v mi_54 (am_hl rfl (am_ccR (am_vR_s e2).2 (am_ccI (am_ccI am_cats_0))) rfl) z3) (am_hc am_cats_0 rfl) (fun _ => ⟨rfl, hh_277⟩) (fun o1 hz9 => rm_54 v1 x2 0 h o1 (am_vR_s e2).2 hz9) ?_
  rcases am_cI_s hs2 with ⟨v4, h5, f6, hs3⟩ | hs3
  · clear hs2
    refine Or.inl ⟨_, _, f6, ?_⟩
    show am_W X _ 277 9 _ [(.int v4)] h5 _
    refine aw_istore (lv1 := am_put1 _ 4 _) (pc1 := 11) at_277_9 rfl rfl ?_
    refine aw_iload_n (pc1 := 12) at_277_11 (am_lk1 l1 rfl rfl) rfl ?_
    refine aw_bipush (v := 20) (pc1 := 14) at_277_12 (by decide) rfl ?_
    by_cases c7 : ¬ x1 = 20
    · rw [if_pos c7] at hs3
      refine aw_icne_t at_277_14 c7 ?_
      exact rg_277_51 h5 o   hs3
    · rw [if_neg c7] at hs3
      refine aw_icne_f (pc1 := 17) at_277_14 c7 rfl ?_
      refine aw_iload (pc1 := 19) at_277_17 am_lk0 rfl ?_
      refine aw_bipush (v := 15) (pc1 := 21) at_277_19 (by decide) rfl ?_
      by_cases c8 : v4 = 15
      · rw [if_pos c8] at hs3
        refine aw_iceq_t at_277_21 c8 ?_
        exact rg_277_31 x0 x2 x3 v4 h5 o (am_lk1 l0 rfl rfl) (am_lk1 l2 rfl rfl) (am_lk1 l3 rfl rfl) am_lk0 i0 hs3
      · rw [if_neg c8] at hs3
        refine aw_iceq_f (pc1 := 24) at_277_21 c8 rfl ?_
        refine aw_iload (pc1 := 26) at_277_24 am_lk0 rfl ?_
        refine aw_bipush (v := 16) (pc1 := 28) at_277_26 (by decide) rfl ?_
        by_cases c9 : ¬ v4 = 16
        · rw [if_pos c9] at hs3
          refine aw_icne_t at_277_28 c9 ?_
          exact rg_277_51 h5 o   hs3
        · rw [if_neg c9] at hs3
          refine aw_icne_f (pc1 := 31) at_277_28 c9 rfl ?_
          exact rg_277_31 x0 x2 x3 v4 h5 o (am_lk1 l0 rfl rfl) (am_lk1 l2 rfl rfl) (am_lk1 l3 rfl rfl) am_lk0 i0 hs3
  · clear hs2
    exact Or.inr hs3
def fm_277 (y0 : Value) (y1 : Int32) (y2 : Int32) (y3 : Int32) (h : am_H) : Option am_O := fg_277_0 y0 y1 y2 y3 h
theorem rm_277 {X : am_X} {d : Nat} (y0 : Value) (y1 : Int32) (y2 : Int32) (y3 : Int32) (h : am_H) (o : am_O) (i0 : am_isR y0 = true) (hs : fm_277 y0 y1 y2 y3 h = some o) : am_W X (d + 2) 277 0 (am_args 0 [y0, .int y1, .int y2, .int y3]) [] h (fun q => q = o) := by
  rw [am_args_R i0, am_args_I, am_args_I, am_args_I]
  exact rg_277_0 y0 y1 y2 y3 h o rfl rfl rfl rfl i0 hs
def fg_279_43 (N : Nat) (h : am_H) : Option am_O := some (.inl (some (.int 0), h))
theorem rg_279_43 {X : am_X} {d : Nat} {N : Nat} {lv : am_LV} (h : am_H) (o : am_O) (hs : fg_279_43 N h = some o) : am_W X (d + 1) 279 43 lv [] h (fun q => q = o) := by
  unfold fg_279_43 at hs
  refine aw_iconst (v := 0) (pc1 := 44) at_279_43 (by decide) rfl ?_
  cases hs
  exact aw_iret at_279_44 (by rw [rt_279]; decide) rfl
def fg_279_2 (N : Nat) : Nat → Value → Int32 → Int32 → am_H → Option am_O
  | 0 => fun _ _ _ _ => none
  | K + 1 => fun x0 x2 x3 h => (if x2 ≤ x3 then some (.inl (some (.int 1), h)) else (if am_pOk 3 x0 h then am_cI true (fm_54 x0 x3 0 h) (fun v3 h4 => (if v3 = 13 then (fg_279_43 N h4) else (if v3 = 14 then (fg_279_43 N h4) else (if v3 = 8 then (fg_279_43 N h4) else (if ¬ v3 = 19 then (fg_279_2 N K x0 x2 ((x3 + 1)) h4) else (fg_279_43 N h4)))))) else none))
theorem rg_279_2 {X : am_X} {d : Nat} {N : Nat} : ∀ (K : Nat) (x0 : Value) (x2 : Int32) (x3 : Int32) (h : am_H) (o : am_O), fg_279_2 N K x0 x2 x3 h = some o → ∀ lv : am_LV, (lv.lookup 0 = some x0) → (lv.lookup 2 = some (.int x2)) → (lv.lookup 3 = some (.int x3)) → (am_isR x0 = true) → am_W X (d + 1) 279 2 lv [] h (fun q => q = o) := by
  intro K
  induction K with
  | zero => intro x0 x2 x3 h o hs; cases hs
  | succ K ih =>
    intro x0 x2 x3 h o hs lv l0 l2 l3 i0
    unfold fg_279_2 at hs
    refine aw_iload_n (pc1 := 3) at_279_2 l3 rfl ?_
    refine aw_iload_n (pc1 := 4) at_279_3 l2 rfl ?_
    by_cases c1 : x2 ≤ x3
    · rw [if_pos c1] at hs
      refine aw_icge_t at_279_4 c1 ?_
      refine aw_iconst (v := 1) (pc1 := 52) at_279_51 (by decide) rfl ?_
      cases hs
      exact aw_iret at_279_52 (by rw [rt_279]; decide) rfl
    · rw [if_neg c1] at hs
      refine aw_icge_f (pc1 := 7) at_279_4 c1 rfl ?_
      refine aw_vload_n (pc1 := 8) at_279_7 l0 i0 rfl ?_
      refine aw_iload_n (pc1 := 9) at_279_8 l3 rfl ?_
      refine aw_iconst (v := 0) (pc1 := 10) at_279_9 (by decide) rfl ?_
      obtain ⟨z2, hs1⟩ := am_ift hs
      clear hs
      refine aw_call (F := fm_54 x0 x3 0 h) (t := true) (na := 3) (kd := 1) (as := [x0, (.int x3), (.int 0)]) at_279_10 (am_k3v kb_54) mn_54 mk_54 rfl rfl (am_ok_v mi_54 (am_hl rfl (am_ccR i0 (am_ccI (am_ccI am_cats_0))) rfl) z2) (am_hc am_cats_0 rfl) (fun _ => ⟨rfl, hh_279⟩) (fun o1 hz9 => rm_54 x0 x3 0 h o1 i0 hz9) ?_
      rcases am_cI_s hs1 with ⟨v3, h4, f5, hs2⟩ | hs2
      · clear hs1
        refine Or.inl ⟨_, _, f5, ?_⟩
        show am_W X _ 279 13 _ [(.int v3)] h4 _
        refine aw_istore (lv1 := am_put1 _ 4 _) (pc1 := 15) at_279_13 rfl rfl ?_
        refine aw_iload (pc1 := 17) at_279_15 am_lk0 rfl ?_
        refine aw_bipush (v := 13) (pc1 := 19) at_279_17 (by decide) rfl ?_
        by_cases c6 : v3 = 13
        · rw [if_pos c6] at hs2
          refine aw_iceq_t at_279_19 c6 ?_
          exact rg_279_43 h4 o   hs2
        · rw [if_neg c6] at hs2
          refine aw_iceq_f (pc1 := 22) at_279_19 c6 rfl ?_
          refine aw_iload (pc1 := 24) at_279_22 am_lk0 rfl ?_
          refine aw_bipush (v := 14) (pc1 := 26) at_279_24 (by decide) rfl ?_
          by_cases c7 : v3 = 14
          · rw [if_pos c7] at hs2
            refine aw_iceq_t at_279_26 c7 ?_
            exact rg_279_43 h4 o   hs2
          · rw [if_neg c7] at hs2
            refine aw_iceq_f (pc1 := 29) at_279_26 c7 rfl ?_
            refine aw_iload (pc1 := 31) at_279_29 am_lk0 rfl ?_
            refine aw_bipush (v := 8) (pc1 := 33) at_279_31 (by decide) rfl ?_
            by_cases c8 : v3 = 8
            · rw [if_pos c8] at hs2
              refine aw_iceq_t at_279_33 c8 ?_
              exact rg_279_43 h4 o   hs2
            · rw [if_neg c8] at hs2
              refine aw_iceq_f (pc1 := 36) at_279_33 c8 rfl ?_
              refine aw_iload (pc1 := 38) at_279_36 am_lk0 rfl ?_
              refine aw_bipush (v := 19) (pc1 := 40) at_279_38 (by decide) rfl ?_
              by_cases c9 : ¬ v3 = 19
              · rw [if_pos c9] at hs2
                refine aw_icne_t at_279_40 c9 ?_
                refine aw_iinc (v := (x3 + 1)) (c := 1) (lv1 := am_put1 _ 3 _) (pc1 := 48) at_279_45 (am_lk1 l3 rfl rfl) (by decide) rfl rfl rfl ?_
                refine aw_goto at_279_48 ?_
                exact ih x0 x2 ((x3 + 1)) h4 o hs2 _ (am_lk1 (am_lk1 l0 rfl rfl) rfl rfl) (am_lk1 (am_lk1 l2 rfl rfl) rfl rfl) am_lk0 i0
              · rw [if_neg c9] at hs2
                refine aw_icne_f (pc1 := 43) at_279_40 c9 rfl ?_
                exact rg_279_43 h4 o   hs2
      · clear hs1
        exact Or.inr hs2
def fg_279_0 (N : Nat) (x0 : Value) (x1 : Int32) (x2 : Int32) (h : am_H) : Option am_O := (fg_279_2 N N x0 x2 x1 h)
theorem rg_279_0 {X : am_X} {d : Nat} {N : Nat} {lv : am_LV} (x0 : Value) (x1 : Int32) (x2 : Int32) (h : am_H) (o : am_O) (l0 : lv.lookup 0 = some x0) (l1 : lv.lookup 1 = some (.int x1)) (l2 : lv.lookup 2 = some (.int x2)) (i0 : am_isR x0 = true) (hs : fg_279_0 N x0 x1 x2 h = some o) : am_W X (d + 1) 279 0 lv [] h (fun q => q = o) := by
  unfold fg_279_0 at hs
  refine aw_iload_n (pc1 := 1) at_279_0 l1 rfl ?_
  refine aw_istore_n (lv1 := am_put1 _ 3 _) (pc1 := 2) at_279_1 rfl rfl ?_
  exact rg_279_2 N x0 x2 x1 h o hs _ (am_lk1 l0 rfl rfl) (am_lk1 l2 rfl rfl) am_lk0 i0
def fm_279 (N : Nat) (y0 : Value) (y1 : Int32) (y2 : Int32) (h : am_H) : Option am_O := fg_279_0 N y0 y1 y2 h
theorem rm_279 {X : am_X} {d : Nat} {N : Nat} (y0 : Value) (y1 : Int32) (y2 : Int32) (h : am_H) (o : am_O) (i0 : am_isR y0 = true) (hs : fm_279 N y0 y1 y2 h = some o) : am_W X (d + 1) 279 0 (am_args 0 [y0, .int y1, .int y2]) [] h (fun q => q = o) := by
  rw [am_args_R i0, am_args_I, am_args_I]
  exact rg_279_0 y0 y1 y2 h o rfl rfl rfl i0 hs
def fg_278_0 (N : Nat) (x0 : Value) (x1 : Int32) (h : am_H) : Option am_O := ((am_vR (am_pG 1285 x0 h)).bind fun v1 => ((am_vR (am_pG 1283 x0 h)).bind fun v3 => (if am_pOk 7 v3 h then am_cI true (fm_100 v3 x1 h) (fun v6 h7 => (if am_pOk 3 v1 h7 then am_cI true (fm_279 N v1 x1 v6 h7) (fun v10 h11 => (if am_rfit (some FieldType.boolean) v10 then some (.inl (some (.int v10), h11)) else none)) else none)) else none)))
theorem rg_278_0 {X : am_X} {d : Nat} {N : Nat} {lv : am_LV} (x0 : Value) (x1 : Int32) (h : am_H) (o : am_O) (l0 : lv.lookup 0 = some x0) (l1 : lv.lookup 1 = some (.int x1)) (i0 : am_isR x0 = true) (hs : fg_278_0 N x0 x1 h = some o) : am_W X (d + 2) 278 0 lv [] h (fun q => q = o) := by
  unfold fg_278_0 at hs
  refine aw_vload_n (pc1 := 1) at_278_0 l0 i0 rfl ?_
  obtain ⟨v1, e2, hs1⟩ := am_bind hs
  clear hs
  refine aw_pG (pc1 := 4) at_278_1 (am_vR_s e2).1 rfl ?_
  refine aw_iload_n (pc1 := 5) at_278_4 l1 rfl ?_
  refine aw_vload_n (pc1 := 6) at_278_5 l0 i0 rfl ?_
  obtain ⟨v3, e4, hs2⟩ := am_bind hs1
  clear hs1
  refine aw_pG (pc1 := 9) at_278_6 (am_vR_s e4).1 rfl ?_
  refine aw_iload_n (pc1 := 10) at_278_9 l1 rfl ?_
  obtain ⟨z5, hs3⟩ := am_ift hs2
  clear hs2
  refine aw_call (F := fm_100 v3 x1 h) (t := true) (na := 2) (kd := 1) (as := [v3, (.int x1)]) at_278_10 (am_k3v kb_100) mn_100 mk_100 rfl rfl (am_ok_v mi_100 (am_hl rfl (am_ccR (am_vR_s e4).2 (am_ccI am_cats_0)) rfl) z5) (am_hc (am_ccI (am_ccR (am_vR_s e2).2 am_cats_0)) rfl) (fun _ => ⟨rfl, hh_278⟩) (fun o1 hz9 => rm_100 v3 x1 h o1 (am_vR_s e4).2 hz9) ?_
  rcases am_cI_s hs3 with ⟨v6, h7, f8, hs4⟩ | hs4
  · clear hs3
    refine Or.inl ⟨_, _, f8, ?_⟩
    show am_W X _ 278 13 _ [(.int v6), (.int x1), v1] h7 _
    obtain ⟨z9, hs5⟩ := am_ift hs4
    clear hs4
    refine aw_call (F := fm_279 N v1 x1 v6 h7) (t := true) (na := 3) (kd := 1) (as := [v1, (.int x1), (.int v6)]) at_278_13 (am_k3v kb_279) mn_279 mk_279 rfl rfl (am_ok_v mi_279 (am_hl rfl (am_ccR (am_vR_s e2).2 (am_ccI (am_ccI am_cats_0))) rfl) z9) (am_hc am_cats_0 rfl) (fun _ => ⟨rfl, hh_278⟩) (fun o1 hz9 => rm_279 v1 x1 v6 h7 o1 (am_vR_s e2).2 hz9) ?_
    rcases am_cI_s hs5 with ⟨v10, h11, f12, hs6⟩ | hs6
    · clear hs5
      refine Or.inl ⟨_, _, f12, ?_⟩
      show am_W X _ 278 16 _ [(.int v10)] h11 _
      obtain ⟨z13, hs7⟩ := am_ift hs6
      clear hs6
      cases hs7
      exact aw_iret at_278_16 (by rw [rt_278]; exact z13) rfl
    · clear hs5
      exact Or.inr hs6
  · clear hs3
    exact Or.inr hs4
def fm_278 (N : Nat) (y0 : Value) (y1 : Int32) (h : am_H) : Option am_O := fg_278_0 N y0 y1 h
theorem rm_278 {X : am_X} {d : Nat} {N : Nat} (y0 : Value) (y1 : Int32) (h : am_H) (o : am_O) (i0 : am_isR y0 = true) (hs : fm_278 N y0 y1 h = some o) : am_W X (d + 2) 278 0 (am_args 0 [y0, .int y1]) [] h (fun q => q = o) := by
  rw [am_args_R i0, am_args_I]
  exact rg_278_0 y0 y1 h o rfl rfl i0 hs
def fg_280_90 (N : Nat) (h : am_H) : Option am_O := some (.inl (some (.int 0), h))
theorem rg_280_90 {X : am_X} {d : Nat} {N : Nat} {lv : am_LV} (h : am_H) (o : am_O) (hs : fg_280_90 N h = some o) : am_W X (d + 1) 280 90 lv [] h (fun q => q = o) := by
  unfold fg_280_90 at hs
  refine aw_iconst (v := 0) (pc1 := 91) at_280_90 (by decide) rfl ?_
  cases hs
  exact aw_iret at_280_91 (by rw [rt_280]; decide) rfl
def fg_280_30 (N : Nat) : Nat → Value → Int32 → Int32 → Int32 → Int32 → am_H → Option am_O
  | 0 => fun _ _ _ _ _ _ => none
  | K + 1 => fun x0 x1 x2 x3 x4 h => (if x3 ≤ x4 then some (.inl (some (.int 1), h)) else ((am_vR (am_pG 1285 x0 h)).bind fun v2 => (if am_pOk 3 v2 h then am_cI true (fm_54 v2 ((x1 + x4)) 0 h) (fun v5 h6 => ((am_vR (am_pG 1285 x0 h6)).bind fun v8 => (if am_pOk 3 v8 h6 then am_cI true (fm_54 v8 ((x2 + x4)) 0 h6) (fun v11 h12 => (if ¬ v5 = v11 then (fg_280_90 N h12) else ((am_vR (am_pG 1285 x0 h12)).bind fun v15 => (if am_pOk 3 v15 h12 then am_cI true (fm_54 v15 ((x1 + x4)) 1 h12) (fun v18 h19 => ((am_vR (am_pG 1285 x0 h19)).bind fun v21 => (if am_pOk 3 v21 h19 then am_cI true (fm_54 v21 ((x2 + x4)) 1 h19) (fun v24 h25 => (if v18 = v24 then (fg_280_30 N K x0 x1 x2 x3 ((x4 + 1)) h25) else (fg_280_90 N h25))) else none))) else none)))) else none))) else none)))
theorem rg_280_30 {X : am_X} {d : Nat} {N : Nat} : ∀ (K : Nat) (x0 : Value) (x1 : Int32) (x2 : Int32) (x3 : Int32) (x4 : Int32) (h : am_H) (o : am_O), fg_280_30 N K x0 x1 x2 x3 x4 h = some o → ∀ lv : am_LV, (lv.lookup 0 = some x0) → (lv.lookup 1 = some (.int x1)) → (lv.lookup 2 = some (.int x2)) → (lv.lookup 3 = some (.int x3)) → (lv.lookup 4 = some (.int x4)) → (am_isR x0 = true) → am_W X (d + 1) 280 30 lv [] h (fun q => q = o) := by
  intro K
  induction K with
  | zero => intro x0 x1 x2 x3 x4 h o hs; cases hs
  | succ K ih =>
    intro x0 x1 x2 x3 x4 h o hs lv l0 l1 l2 l3 l4 i0
    unfold fg_280_30 at hs
    refine aw_iload (pc1 := 32) at_280_30 l4 rfl ?_
    refine aw_iload_n (pc1 := 33) at_280_32 l3 rfl ?_
    by_cases c1 : x3 ≤ x4
    · rw [if_pos c1] at hs
      refine aw_icge_t at_280_33 c1 ?_
      refine aw_iconst (v := 1) (pc1 := 99) at_280_98 (by decide) rfl ?_
      cases hs
      exact aw_iret at_280_99 (by rw [rt_280]; decide) rfl
    · rw [if_neg c1] at hs
      refine aw_icge_f (pc1 := 36) at_280_33 c1 rfl ?_
      refine aw_vload_n (pc1 := 37) at_280_36 l0 i0 rfl ?_
      obtain ⟨v2, e3, hs1⟩ := am_bind hs
      clear hs
      refine aw_pG (pc1 := 40) at_280_37 (am_vR_s e3).1 rfl ?_
      refine aw_iload_n (pc1 := 41) at_280_40 l1 rfl ?_
      refine aw_iload (pc1 := 43) at_280_41 l4 rfl ?_
      refine aw_iadd (v := (x1 + x4)) (pc1 := 44) at_280_43 rfl rfl ?_
      refine aw_iconst (v := 0) (pc1 := 45) at_280_44 (by decide) rfl ?_
      obtain ⟨z4, hs2⟩ := am_ift hs1
      clear hs1
      refine aw_call (F := fm_54 v2 ((x1 + x4)) 0 h) (t := true) (na := 3) (kd := 1) (as := [v2, (.int (x1 + x4)), (.int 0)]) at_280_45 (am_k3v kb_54) mn_54 mk_54 rfl rfl (am_ok_v mi_54 (am_hl rfl (am_ccR (am_vR_s e3).2 (am_ccI (am_ccI am_cats_0))) rfl) z4) (am_hc am_cats_0 rfl) (fun _ => ⟨rfl, hh_280⟩) (fun o1 hz9 => rm_54 v2 ((x1 + x4)) 0 h o1 (am_vR_s e3).2 hz9) ?_
      rcases am_cI_s hs2 with ⟨v5, h6, f7, hs3⟩ | hs3
      · clear hs2
        refine Or.inl ⟨_, _, f7, ?_⟩
        show am_W X _ 280 48 _ [(.int v5)] h6 _
        refine aw_vload_n (pc1 := 49) at_280_48 l0 i0 rfl ?_
        obtain ⟨v8, e9, hs4⟩ := am_bind hs3
        clear hs3
        refine aw_pG (pc1 := 52) at_280_49 (am_vR_s e9).1 rfl ?_
        refine aw_iload_n (pc1 := 53) at_280_52 l2 rfl ?_
        refine aw_iload (pc1 := 55) at_280_53 l4 rfl ?_
        refine aw_iadd (v := (x2 + x4)) (pc1 := 56) at_280_55 rfl rfl ?_
        refine aw_iconst (v := 0) (pc1 := 57) at_280_56 (by decide) rfl ?_
        obtain ⟨z10, hs5⟩ := am_ift hs4
        clear hs4
        refine aw_call (F := fm_54 v8 ((x2 + x4)) 0 h6) (t := true) (na := 3) (kd := 1) (as := [v8, (.int (x2 + x4)), (.int 0)]) at_280_57 (am_k3v kb_54) mn_54 mk_54 rfl rfl (am_ok_v mi_54 (am_hl rfl (am_ccR (am_vR_s e9).2 (am_ccI (am_ccI am_cats_0))) rfl) z10) (am_hc (am_ccI am_cats_0) rfl) (fun _ => ⟨rfl, hh_280⟩) (fun o1 hz9 => rm_54 v8 ((x2 + x4)) 0 h6 o1 (am_vR_s e9).2 hz9) ?_
        rcases am_cI_s hs5 with ⟨v11, h12, f13, hs6⟩ | hs6
        · clear hs5
          refine Or.inl ⟨_, _, f13, ?_⟩
          show am_W X _ 280 60 _ [(.int v11), (.int v5)] h12 _
          by_cases c14 : ¬ v5 = v11
          · rw [if_pos c14] at hs6
            refine aw_icne_t at_280_60 c14 ?_
            exact rg_280_90 h12 o   hs6
          · rw [if_neg c14] at hs6
            refine aw_icne_f (pc1 := 63) at_280_60 c14 rfl ?_
            refine aw_vload_n (pc1 := 64) at_280_63 l0 i0 rfl ?_
            obtain ⟨v15, e16, hs7⟩ := am_bind hs6
            clear hs6
            refine aw_pG (pc1 := 67) at_280_64 (am_vR_s e16).1 rfl ?_
            refine aw_iload_n (pc1 := 68) at_280_67 l1 rfl ?_
            refine aw_iload (pc1 := 70) at_280_68 l4 rfl ?_
            refine aw_iadd (v := (x1 + x4)) (pc1 := 71) at_280_70 rfl rfl ?_
            refine aw_iconst (v := 1) (pc1 := 72) at_280_71 (by decide) rfl ?_
            obtain ⟨z17, hs8⟩ := am_ift hs7
            clear hs7
            refine aw_call (F := fm_54 v15 ((x1 + x4)) 1 h12) (t := true) (na := 3) (kd := 1) (as := [v15, (.int (x1 + x4)), (.int 1)]) at_280_72 (am_k3v kb_54) mn_54 mk_54 rfl rfl (am_ok_v mi_54 (am_hl rfl (am_ccR (am_vR_s e16).2 (am_ccI (am_ccI am_cats_0))) rfl) z17) (am_hc am_cats_0 rfl) (fun _ => ⟨rfl, hh_280⟩) (fun o1 hz9 => rm_54 v15 ((x1 + x4)) 1 h12 o1 (am_vR_s e16).2 hz9) ?_
            rcases am_cI_s hs8 with ⟨v18, h19, f20, hs9⟩ | hs9
            · clear hs8
              refine Or.inl ⟨_, _, f20, ?_⟩
              show am_W X _ 280 75 _ [(.int v18)] h19 _
              refine aw_vload_n (pc1 := 76) at_280_75 l0 i0 rfl ?_
              obtain ⟨v21, e22, hs10⟩ := am_bind hs9
              clear hs9
              refine aw_pG (pc1 := 79) at_280_76 (am_vR_s e22).1 rfl ?_
              refine aw_iload_n (pc1 := 80) at_280_79 l2 rfl ?_
              refine aw_iload (pc1 := 82) at_280_80 l4 rfl ?_
              refine aw_iadd (v := (x2 + x4)) (pc1 := 83) at_280_82 rfl rfl ?_
              refine aw_iconst (v := 1) (pc1 := 84) at_280_83 (by decide) rfl ?_
              obtain ⟨z23, hs11⟩ := am_ift hs10
              clear hs10
              refine aw_call (F := fm_54 v21 ((x2 + x4)) 1 h19) (t := true) (na := 3) (kd := 1) (as := [v21, (.int (x2 + x4)), (.int 1)]) at_280_84 (am_k3v kb_54) mn_54 mk_54 rfl rfl (am_ok_v mi_54 (am_hl rfl (am_ccR (am_vR_s e22).2 (am_ccI (am_ccI am_cats_0))) rfl) z23) (am_hc (am_ccI am_cats_0) rfl) (fun _ => ⟨rfl, hh_280⟩) (fun o1 hz9 => rm_54 v21 ((x2 + x4)) 1 h19 o1 (am_vR_s e22).2 hz9) ?_
              rcases am_cI_s hs11 with ⟨v24, h25, f26, hs12⟩ | hs12
              · clear hs11
                refine Or.inl ⟨_, _, f26, ?_⟩
                show am_W X _ 280 87 _ [(.int v24), (.int v18)] h25 _
                by_cases c27 : v18 = v24
                · rw [if_pos c27] at hs12
                  refine aw_iceq_t at_280_87 c27 ?_
                  refine aw_iinc (v := (x4 + 1)) (c := 1) (lv1 := am_put1 _ 4 _) (pc1 := 95) at_280_92 l4 (by decide) rfl rfl rfl ?_
                  refine aw_goto at_280_95 ?_
                  exact ih x0 x1 x2 x3 ((x4 + 1)) h25 o hs12 _ (am_lk1 l0 rfl rfl) (am_lk1 l1 rfl rfl) (am_lk1 l2 rfl rfl) (am_lk1 l3 rfl rfl) am_lk0 i0
                · rw [if_neg c27] at hs12
                  refine aw_iceq_f (pc1 := 90) at_280_87 c27 rfl ?_
                  exact rg_280_90 h25 o   hs12
              · clear hs11
                exact Or.inr hs12
            · clear hs8
              exact Or.inr hs9
        · clear hs5
          exact Or.inr hs6
      · clear hs2
        exact Or.inr hs3
def fg_280_0 (N : Nat) (x0 : Value) (x1 : Int32) (x2 : Int32) (h : am_H) : Option am_O := ((am_vR (am_pG 1283 x0 h)).bind fun v1 => (if am_pOk 7 v1 h then am_cI true (fm_100 v1 x1 h) (fun v4 h5 => ((am_vR (am_pG 1283 x0 h5)).bind fun v7 => (if am_pOk 7 v7 h5 then am_cI true (fm_100 v7 x2 h5) (fun v10 h11 => (if (v4 - x1) = (v10 - x2) then (fg_280_30 N N x0 x1 x2 ((v4 - x1)) 0 h11) else some (.inl (some (.int 0), h11)))) else none))) else none))
theorem rg_280_0 {X : am_X} {d : Nat} {N : Nat} {lv : am_LV} (x0 : Value) (x1 : Int32) (x2 : Int32) (h : am_H) (o : am_O) (l0 : lv.lookup 0 = some x0) (l1 : lv.lookup 1 = some (.int x1)) (l2 : lv.lookup 2 = some (.int x2)) (i0 : am_isR x0 = true) (hs : fg_280_0 N x0 x1 x2 h = some o) : am_W X (d + 1) 280 0 lv [] h (fun q => q = o) := by
  unfold fg_280_0 at hs
  refine aw_vload_n (pc1 := 1) at_280_0 l0 i0 rfl ?_
  obtain ⟨v1, e2, hs1⟩ := am_bind hs
  clear hs
  refine aw_pG (pc1 := 4) at_280_1 (am_vR_s e2).1 rfl ?_
  refine aw_iload_n (pc1 := 5) at_280_4 l1 rfl ?_
  obtain ⟨z3, hs2⟩ := am_ift hs1
  clear hs1
  refine aw_call (F := fm_100 v1 x1 h) (t := true) (na := 2) (kd := 1) (as := [v1, (.int x1)]) at_280_5 (am_k3v kb_100) mn_100 mk_100 rfl rfl (am_ok_v mi_100 (am_hl rfl (am_ccR (am_vR_s e2).2 (am_ccI am_cats_0)) rfl) z3) (am_hc am_cats_0 rfl) (fun _ => ⟨rfl, hh_280⟩) (fun o1 hz9 => rm_100 v1 x1 h o1 (am_vR_s e2).2 hz9) ?_
  rcases am_cI_s hs2 with ⟨v4, h5, f6, hs3⟩ | hs3
  · clear hs2
    refine Or.inl ⟨_, _, f6, ?_⟩
    show am_W X _ 280 8 _ [(.int v4)] h5 _
    refine aw_iload_n (pc1 := 9) at_280_8 l1 rfl ?_
    refine aw_isub (v := (v4 - x1)) (pc1 := 10) at_280_9 rfl rfl ?_
    refine aw_istore_n (lv1 := am_put1 _ 3 _) (pc1 := 11) at_280_10 rfl rfl ?_
    refine aw_iload_n (pc1 := 12) at_280_11 am_lk0 rfl ?_
    refine aw_vload_n (pc1 := 13) at_280_12 (am_lk1 l0 rfl rfl) i0 rfl ?_
    obtain ⟨v7, e8, hs4⟩ := am_bind hs3
    clear hs3
    refine aw_pG (pc1 := 16) at_280_13 (am_vR_s e8).1 rfl ?_
    refine aw_iload_n (pc1 := 17) at_280_16 (am_lk1 l2 rfl rfl) rfl ?_
    obtain ⟨z9, hs5⟩ := am_ift hs4
    clear hs4
    refine aw_call (F := fm_100 v7 x2 h5) (t := true) (na := 2) (kd := 1) (as := [v7, (.int x2)]) at_280_17 (am_k3v kb_100) mn_100 mk_100 rfl rfl (am_ok_v mi_100 (am_hl rfl (am_ccR (am_vR_s e8).2 (am_ccI am_cats_0)) rfl) z9) (am_hc (am_ccI am_cats_0) rfl) (fun _ => ⟨rfl, hh_280⟩) (fun o1 hz9 => rm_100 v7 x2 h5 o1 (am_vR_s e8).2 hz9) ?_
    rcases am_cI_s hs5 with ⟨v10, h11, f12, hs6⟩ | hs6
    · clear hs5
      refine Or.inl ⟨_, _, f12, ?_⟩
      show am_W X _ 280 20 _ [(.int v10), (.int (v4 - x1))] h11 _
      refine aw_iload_n (pc1 := 21) at_280_20 (am_lk1 l2 rfl rfl) rfl ?_
      refine aw_isub (v := (v10 - x2)) (pc1 := 22) at_280_21 rfl rfl ?_
      by_cases c13 : (v4 - x1) = (v10 - x2)
      · rw [if_pos c13] at hs6
        refine aw_iceq_t at_280_22 c13 ?_
        refine aw_iconst (v := 0) (pc1 := 28) at_280_27 (by decide) rfl ?_
        refine aw_istore (lv1 := am_put1 _ 4 _) (pc1 := 30) at_280_28 rfl rfl ?_
        exact rg_280_30 N x0 x1 x2 ((v4 - x1)) 0 h11 o hs6 _ (am_lk1 (am_lk1 l0 rfl rfl) rfl rfl) (am_lk1 (am_lk1 l1 rfl rfl) rfl rfl) (am_lk1 (am_lk1 l2 rfl rfl) rfl rfl) (am_lk1 am_lk0 rfl rfl) am_lk0 i0
      · rw [if_neg c13] at hs6
        refine aw_iceq_f (pc1 := 25) at_280_22 c13 rfl ?_
        refine aw_iconst (v := 0) (pc1 := 26) at_280_25 (by decide) rfl ?_
        cases hs6
        exact aw_iret at_280_26 (by rw [rt_280]; decide) rfl
    · clear hs5
      exact Or.inr hs6
  · clear hs2
    exact Or.inr hs3
def fm_280 (N : Nat) (y0 : Value) (y1 : Int32) (y2 : Int32) (h : am_H) : Option am_O := fg_280_0 N y0 y1 y2 h
theorem rm_280 {X : am_X} {d : Nat} {N : Nat} (y0 : Value) (y1 : Int32) (y2 : Int32) (h : am_H) (o : am_O) (i0 : am_isR y0 = true) (hs : fm_280 N y0 y1 y2 h = some o) : am_W X (d + 1) 280 0 (am_args 0 [y0, .int y1, .int y2]) [] h (fun q => q = o) := by
  rw [am_args_R i0, am_args_I, am_args_I]
  exact rg_280_0 y0 y1 y2 h o rfl rfl rfl i0 hs
def fg_281_115 (N : Nat) (s0 : Int32) (h : am_H) : Option am_O := some (.inl (some (.int s0), h))
theorem rg_281_115 {X : am_X} {d : Nat} {N : Nat} {lv : am_LV} (s0 : Int32) (h : am_H) (o : am_O) (hs : fg_281_115 N s0 h = some o) : am_W X (d + 3) 281 115 lv [(.int s0)] h (fun q => q = o) := by
  unfold fg_281_115 at hs
  cases hs
  exact aw_iret at_281_115 (by rw [rt_281]; rfl) rfl
def fg_281_94 (N : Nat) (h : am_H) : Option am_O := some (.inl (some (.int (-1)), h))
theorem rg_281_94 {X : am_X} {d : Nat} {N : Nat} {lv : am_LV} (h : am_H) (o : am_O) (hs : fg_281_94 N h = some o) : am_W X (d + 3) 281 94 lv [] h (fun q => q = o) := by
  unfold fg_281_94 at hs
  refine aw_iconst (v := (-1)) (pc1 := 95) at_281_94 (by decide) rfl ?_
  cases hs
  exact aw_iret at_281_95 (by rw [rt_281]; rfl) rfl
def fg_281_64 (N : Nat) (x0 : Value) (x2 : Int32) (x3 : Int32) (x4 : Int32) (h : am_H) : Option am_O := ((am_vR (am_pG 1283 x0 h)).bind fun v1 => (if am_pOk 7 v1 h then am_cI true (fm_100 v1 ((x2 + 1)) h) (fun v4 h5 => (if am_pOk 5 x0 h5 then am_cI true (fm_280 N x0 ((x2 + 1)) v4 h5) (fun v8 h9 => (if v8 = 0 then (fg_281_94 N h9) else (if am_pOk 5 x0 h9 then am_cI true (fm_278 N x0 ((x2 + 1)) h9) (fun v13 h14 => (if ¬ v13 = 0 then (if ¬ x4 = 16 then ((am_vR (am_pG 1283 x0 h14)).bind fun v18 => (if am_pOk 7 v18 h14 then am_cI true (fm_100 v18 x3 h14) (fun v21 h22 => (fg_281_115 N v21 h22)) else none)) else (fg_281_115 N x3 h14)) else (fg_281_94 N h14))) else none))) else none)) else none))
theorem rg_281_64 {X : am_X} {d : Nat} {N : Nat} {lv : am_LV} (x0 : Value) (x2 : Int32) (x3 : Int32) (x4 : Int32) (h : am_H) (o : am_O) (l0 : lv.lookup 0 = some x0) (l2 : lv.lookup 2 = some (.int x2)) (l3 : lv.lookup 3 = some (.int x3)) (l4 : lv.lookup 4 = some (.int x4)) (i0 : am_isR x0 = true) (hs : fg_281_64 N x0 x2 x3 x4 h = some o) : am_W X (d + 3) 281 64 lv [] h (fun q => q = o) := by
  unfold fg_281_64 at hs
  refine aw_vload_n (pc1 := 65) at_281_64 l0 i0 rfl ?_
  refine aw_iload_n (pc1 := 66) at_281_65 l2 rfl ?_
  refine aw_iconst (v := 1) (pc1 := 67) at_281_66 (by decide) rfl ?_
  refine aw_iadd (v := (x2 + 1)) (pc1 := 68) at_281_67 rfl rfl ?_
  refine aw_vload_n (pc1 := 69) at_281_68 l0 i0 rfl ?_
  obtain ⟨v1, e2, hs1⟩ := am_bind hs
  clear hs
  refine aw_pG (pc1 := 72) at_281_69 (am_vR_s e2).1 rfl ?_
  refine aw_iload_n (pc1 := 73) at_281_72 l2 rfl ?_
  refine aw_iconst (v := 1) (pc1 := 74) at_281_73 (by decide) rfl ?_
  refine aw_iadd (v := (x2 + 1)) (pc1 := 75) at_281_74 rfl rfl ?_
  obtain ⟨z3, hs2⟩ := am_ift hs1
  clear hs1
  refine aw_call (F := fm_100 v1 ((x2 + 1)) h) (t := true) (na := 2) (kd := 1) (as := [v1, (.int (x2 + 1))]) at_281_75 (am_k3v kb_100) mn_100 mk_100 rfl rfl (am_ok_v mi_100 (am_hl rfl (am_ccR (am_vR_s e2).2 (am_ccI am_cats_0)) rfl) z3) (am_hc (am_ccI (am_ccR i0 am_cats_0)) rfl) (fun _ => ⟨rfl, hh_281⟩) (fun o1 hz9 => rm_100 v1 ((x2 + 1)) h o1 (am_vR_s e2).2 hz9) ?_
  rcases am_cI_s hs2 with ⟨v4, h5, f6, hs3⟩ | hs3
  · clear hs2
    refine Or.inl ⟨_, _, f6, ?_⟩
    show am_W X _ 281 78 _ [(.int v4), (.int (x2 + 1)), x0] h5 _
    obtain ⟨z7, hs4⟩ := am_ift hs3
    clear hs3
    refine aw_call (F := fm_280 N x0 ((x2 + 1)) v4 h5) (t := true) (na := 3) (kd := 1) (as := [x0, (.int (x2 + 1)), (.int v4)]) at_281_78 (am_k3v kb_280) mn_280 mk_280 rfl rfl (am_ok_v mi_280 (am_hl rfl (am_ccR i0 (am_ccI (am_ccI am_cats_0))) rfl) z7) (am_hc am_cats_0 rfl) (fun _ => ⟨rfl, hh_281⟩) (fun o1 hz9 => rm_280 x0 ((x2 + 1)) v4 h5 o1 i0 hz9) ?_
    rcases am_cI_s hs4 with ⟨v8, h9, f10, hs5⟩ | hs5
    · clear hs4
      refine Or.inl ⟨_, _, f10, ?_⟩
      show am_W X _ 281 81 _ [(.int v8)] h9 _
      by_cases c11 : v8 = 0
      · rw [if_pos c11] at hs5
        refine aw_ifeq_t at_281_81 c11 ?_
        exact rg_281_94 h9 o   hs5
      · rw [if_neg c11] at hs5
        refine aw_ifeq_f (pc1 := 84) at_281_81 c11 rfl ?_
        refine aw_vload_n (pc1 := 85) at_281_84 l0 i0 rfl ?_
        refine aw_iload_n (pc1 := 86) at_281_85 l2 rfl ?_
        refine aw_iconst (v := 1) (pc1 := 87) at_281_86 (by decide) rfl ?_
        refine aw_iadd (v := (x2 + 1)) (pc1 := 88) at_281_87 rfl rfl ?_
        obtain ⟨z12, hs6⟩ := am_ift hs5
        clear hs5
        refine aw_call (F := fm_278 N x0 ((x2 + 1)) h9) (t := true) (na := 2) (kd := 1) (as := [x0, (.int (x2 + 1))]) at_281_88 (am_k3v kb_278) mn_278 mk_278 rfl rfl (am_ok_v mi_278 (am_hl rfl (am_ccR i0 (am_ccI am_cats_0)) rfl) z12) (am_hc am_cats_0 rfl) (fun _ => ⟨rfl, hh_281⟩) (fun o1 hz9 => rm_278 x0 ((x2 + 1)) h9 o1 i0 hz9) ?_
        rcases am_cI_s hs6 with ⟨v13, h14, f15, hs7⟩ | hs7
        · clear hs6
          refine Or.inl ⟨_, _, f15, ?_⟩
          show am_W X _ 281 91 _ [(.int v13)] h14 _
          by_cases c16 : ¬ v13 = 0
          · rw [if_pos c16] at hs7
            refine aw_ifne_t at_281_91 c16 ?_
            refine aw_iload (pc1 := 98) at_281_96 l4 rfl ?_
            refine aw_bipush (v := 16) (pc1 := 100) at_281_98 (by decide) rfl ?_
            by_cases c17 : ¬ x4 = 16
            · rw [if_pos c17] at hs7
              refine aw_icne_t at_281_100 c17 ?_
              refine aw_vload_n (pc1 := 108) at_281_107 l0 i0 rfl ?_
              obtain ⟨v18, e19, hs8⟩ := am_bind hs7
              clear hs7
              refine aw_pG (pc1 := 111) at_281_108 (am_vR_s e19).1 rfl ?_
              refine aw_iload_n (pc1 := 112) at_281_111 l3 rfl ?_
              obtain ⟨z20, hs9⟩ := am_ift hs8
              clear hs8
              refine aw_call (F := fm_100 v18 x3 h14) (t := true) (na := 2) (kd := 1) (as := [v18, (.int x3)]) at_281_112 (am_k3v kb_100) mn_100 mk_100 rfl rfl (am_ok_v mi_100 (am_hl rfl (am_ccR (am_vR_s e19).2 (am_ccI am_cats_0)) rfl) z20) (am_hc am_cats_0 rfl) (fun _ => ⟨rfl, hh_281⟩) (fun o1 hz9 => rm_100 v18 x3 h14 o1 (am_vR_s e19).2 hz9) ?_
              rcases am_cI_s hs9 with ⟨v21, h22, f23, hs10⟩ | hs10
              · clear hs9
                refine Or.inl ⟨_, _, f23, ?_⟩
                show am_W X _ 281 115 _ [(.int v21)] h22 _
                exact rg_281_115 v21 h22 o   hs10
              · clear hs9
                exact Or.inr hs10
            · rw [if_neg c17] at hs7
              refine aw_icne_f (pc1 := 103) at_281_100 c17 rfl ?_
              refine aw_iload_n (pc1 := 104) at_281_103 l3 rfl ?_
              refine aw_goto at_281_104 ?_
              exact rg_281_115 x3 h14 o   hs7
          · rw [if_neg c16] at hs7
            refine aw_ifne_f (pc1 := 94) at_281_91 c16 rfl ?_
            exact rg_281_94 h14 o   hs7
        · clear hs6
          exact Or.inr hs7
    · clear hs4
      exact Or.inr hs5
  · clear hs2
    exact Or.inr hs3
def fg_281_32 (N : Nat) (s0 : Int32) (h : am_H) : Option am_O := some (.inl (some (.int s0), h))
theorem rg_281_32 {X : am_X} {d : Nat} {N : Nat} {lv : am_LV} (s0 : Int32) (h : am_H) (o : am_O) (hs : fg_281_32 N s0 h = some o) : am_W X (d + 3) 281 32 lv [(.int s0)] h (fun q => q = o) := by
  unfold fg_281_32 at hs
  cases hs
  exact aw_iret at_281_32 (by rw [rt_281]; rfl) rfl
def fg_281_31 (N : Nat) (h : am_H) : Option am_O := (fg_281_32 N ((-1)) h)
theorem rg_281_31 {X : am_X} {d : Nat} {N : Nat} {lv : am_LV} (h : am_H) (o : am_O) (hs : fg_281_31 N h = some o) : am_W X (d + 3) 281 31 lv [] h (fun q => q = o) := by
  unfold fg_281_31 at hs
  refine aw_iconst (v := (-1)) (pc1 := 32) at_281_31 (by decide) rfl ?_
  exact rg_281_32 ((-1)) h o   hs
def fg_281_0 (N : Nat) (x0 : Value) (x1 : Int32) (x2 : Int32) (x3 : Int32) (h : am_H) : Option am_O := (if ¬ x1 = 11 then ((am_vR (am_pG 1285 x0 h)).bind fun v2 => (if am_pOk 3 v2 h then am_cI true (fm_54 v2 x2 0 h) (fun v5 h6 => (if ¬ x1 = 20 then (fg_281_94 N h6) else (if v5 = 15 then (fg_281_64 N x0 x2 x3 v5 h6) else (if ¬ v5 = 16 then (fg_281_94 N h6) else (fg_281_64 N x0 x2 x3 v5 h6))))) else none)) else (if am_pOk 5 x0 h then am_cI true (fm_280 N x0 x2 x3 h) (fun v12 h13 => (if v12 = 0 then (fg_281_31 N h13) else (if am_pOk 5 x0 h13 then am_cI true (fm_278 N x0 x2 h13) (fun v17 h18 => (if v17 = 0 then (fg_281_31 N h18) else (if am_pOk 5 x0 h18 then am_cI true (fm_274 x0 0 h18) (fun v22 h23 => (fg_281_32 N v22 h23)) else none))) else none))) else none))
theorem rg_281_0 {X : am_X} {d : Nat} {N : Nat} {lv : am_LV} (x0 : Value) (x1 : Int32) (x2 : Int32) (x3 : Int32) (h : am_H) (o : am_O) (l0 : lv.lookup 0 = some x0) (l1 : lv.lookup 1 = some (.int x1)) (l2 : lv.lookup 2 = some (.int x2)) (l3 : lv.lookup 3 = some (.int x3)) (i0 : am_isR x0 = true) (hs : fg_281_0 N x0 x1 x2 x3 h = some o) : am_W X (d + 3) 281 0 lv [] h (fun q => q = o) := by
  unfold fg_281_0 at hs
  refine aw_iload_n (pc1 := 1) at_281_0 l1 rfl ?_
  refine aw_bipush (v := 11) (pc1 := 3) at_281_1 (by decide) rfl ?_
  by_cases c1 : ¬ x1 = 11
  · rw [if_pos c1] at hs
    refine aw_icne_t at_281_3 c1 ?_
    refine aw_vload_n (pc1 := 34) at_281_33 l0 i0 rfl ?_
    obtain ⟨v2, e3, hs1⟩ := am_bind hs
    clear hs
    refine aw_pG (pc1 := 37) at_281_34 (am_vR_s e3).1 rfl ?_
    refine aw_iload_n (pc1 := 38) at_281_37 l2 rfl ?_
    refine aw_iconst (v := 0) (pc1 := 39) at_281_38 (by decide) rfl ?_
    obtain ⟨z4, hs2⟩ := am_ift hs1
    clear hs1
    refine aw_call (F := fm_54 v2 x2 0 h) (t := true) (na := 3) (kd := 1) (as := [v2, (.int x2), (.int 0)]) at_281_39 (am_k3v kb_54) mn_54 mk_54 rfl rfl (am_ok_v mi_54 (am_hl rfl (am_ccR (am_vR_s e3).2 (am_ccI (am_ccI am_cats_0))) rfl) z4) (am_hc am_cats_0 rfl) (fun _ => ⟨rfl, hh_281⟩) (fun o1 hz9 => rm_54 v2 x2 0 h o1 (am_vR_s e3).2 hz9) ?_
    rcases am_cI_s hs2 with ⟨v5, h6, f7, hs3⟩ | hs3
    · clear hs2
      refine Or.inl ⟨_, _, f7, ?_⟩
      show am_W X _ 281 42 _ [(.int v5)] h6 _
      refine aw_istore (lv1 := am_put1 _ 4 _) (pc1 := 44) at_281_42 rfl rfl ?_
      refine aw_iload_n (pc1 := 45) at_281_44 (am_lk1 l1 rfl rfl) rfl ?_
      refine aw_bipush (v := 20) (pc1 := 47) at_281_45 (by decide) rfl ?_
      by_cases c8 : ¬ x1 = 20
      · rw [if_pos c8] at hs3
        refine aw_icne_t at_281_47 c8 ?_
        exact rg_281_94 h6 o   hs3
      · rw [if_neg c8] at hs3
        refine aw_icne_f (pc1 := 50) at_281_47 c8 rfl ?_
        refine aw_iload (pc1 := 52) at_281_50 am_lk0 rfl ?_
        refine aw_bipush (v := 15) (pc1 := 54) at_281_52 (by decide) rfl ?_
        by_cases c9 : v5 = 15
        · rw [if_pos c9] at hs3
          refine aw_iceq_t at_281_54 c9 ?_
          exact rg_281_64 x0 x2 x3 v5 h6 o (am_lk1 l0 rfl rfl) (am_lk1 l2 rfl rfl) (am_lk1 l3 rfl rfl) am_lk0 i0 hs3
        · rw [if_neg c9] at hs3
          refine aw_iceq_f (pc1 := 57) at_281_54 c9 rfl ?_
          refine aw_iload (pc1 := 59) at_281_57 am_lk0 rfl ?_
          refine aw_bipush (v := 16) (pc1 := 61) at_281_59 (by decide) rfl ?_
          by_cases c10 : ¬ v5 = 16
          · rw [if_pos c10] at hs3
            refine aw_icne_t at_281_61 c10 ?_
            exact rg_281_94 h6 o   hs3
          · rw [if_neg c10] at hs3
            refine aw_icne_f (pc1 := 64) at_281_61 c10 rfl ?_
            exact rg_281_64 x0 x2 x3 v5 h6 o (am_lk1 l0 rfl rfl) (am_lk1 l2 rfl rfl) (am_lk1 l3 rfl rfl) am_lk0 i0 hs3
    · clear hs2
      exact Or.inr hs3
  · rw [if_neg c1] at hs
    refine aw_icne_f (pc1 := 6) at_281_3 c1 rfl ?_
    refine aw_vload_n (pc1 := 7) at_281_6 l0 i0 rfl ?_
    refine aw_iload_n (pc1 := 8) at_281_7 l2 rfl ?_
    refine aw_iload_n (pc1 := 9) at_281_8 l3 rfl ?_
    obtain ⟨z11, hs4⟩ := am_ift hs
    clear hs
    refine aw_call (F := fm_280 N x0 x2 x3 h) (t := true) (na := 3) (kd := 1) (as := [x0, (.int x2), (.int x3)]) at_281_9 (am_k3v kb_280) mn_280 mk_280 rfl rfl (am_ok_v mi_280 (am_hl rfl (am_ccR i0 (am_ccI (am_ccI am_cats_0))) rfl) z11) (am_hc am_cats_0 rfl) (fun _ => ⟨rfl, hh_281⟩) (fun o1 hz9 => rm_280 x0 x2 x3 h o1 i0 hz9) ?_
    rcases am_cI_s hs4 with ⟨v12, h13, f14, hs5⟩ | hs5
    · clear hs4
      refine Or.inl ⟨_, _, f14, ?_⟩
      show am_W X _ 281 12 _ [(.int v12)] h13 _
      by_cases c15 : v12 = 0
      · rw [if_pos c15] at hs5
        refine aw_ifeq_t at_281_12 c15 ?_
        exact rg_281_31 h13 o   hs5
      · rw [if_neg c15] at hs5
        refine aw_ifeq_f (pc1 := 15) at_281_12 c15 rfl ?_
        refine aw_vload_n (pc1 := 16) at_281_15 l0 i0 rfl ?_
        refine aw_iload_n (pc1 := 17) at_281_16 l2 rfl ?_
        obtain ⟨z16, hs6⟩ := am_ift hs5
        clear hs5
        refine aw_call (F := fm_278 N x0 x2 h13) (t := true) (na := 2) (kd := 1) (as := [x0, (.int x2)]) at_281_17 (am_k3v kb_278) mn_278 mk_278 rfl rfl (am_ok_v mi_278 (am_hl rfl (am_ccR i0 (am_ccI am_cats_0)) rfl) z16) (am_hc am_cats_0 rfl) (fun _ => ⟨rfl, hh_281⟩) (fun o1 hz9 => rm_278 x0 x2 h13 o1 i0 hz9) ?_
        rcases am_cI_s hs6 with ⟨v17, h18, f19, hs7⟩ | hs7
        · clear hs6
          refine Or.inl ⟨_, _, f19, ?_⟩
          show am_W X _ 281 20 _ [(.int v17)] h18 _
          by_cases c20 : v17 = 0
          · rw [if_pos c20] at hs7
            refine aw_ifeq_t at_281_20 c20 ?_
            exact rg_281_31 h18 o   hs7
          · rw [if_neg c20] at hs7
            refine aw_ifeq_f (pc1 := 23) at_281_20 c20 rfl ?_
            refine aw_vload_n (pc1 := 24) at_281_23 l0 i0 rfl ?_
            refine aw_iconst (v := 0) (pc1 := 25) at_281_24 (by decide) rfl ?_
            obtain ⟨z21, hs8⟩ := am_ift hs7
            clear hs7
            refine aw_call (F := fm_274 x0 0 h18) (t := true) (na := 2) (kd := 1) (as := [x0, (.int 0)]) at_281_25 (am_k3v kb_274) mn_274 mk_274 rfl rfl (am_ok_v mi_274 (am_hl rfl (am_ccR i0 (am_ccI am_cats_0)) rfl) z21) (am_hc am_cats_0 rfl) (fun _ => ⟨rfl, hh_281⟩) (fun o1 hz9 => rm_274 x0 0 h18 o1 i0 hz9) ?_
            rcases am_cI_s hs8 with ⟨v22, h23, f24, hs9⟩ | hs9
            · clear hs8
              refine Or.inl ⟨_, _, f24, ?_⟩
              show am_W X _ 281 28 _ [(.int v22)] h23 _
              refine aw_goto at_281_28 ?_
              exact rg_281_32 v22 h23 o   hs9
            · clear hs8
              exact Or.inr hs9
        · clear hs6
          exact Or.inr hs7
    · clear hs4
      exact Or.inr hs5
def fm_281 (N : Nat) (y0 : Value) (y1 : Int32) (y2 : Int32) (y3 : Int32) (h : am_H) : Option am_O := fg_281_0 N y0 y1 y2 y3 h
theorem rm_281 {X : am_X} {d : Nat} {N : Nat} (y0 : Value) (y1 : Int32) (y2 : Int32) (y3 : Int32) (h : am_H) (o : am_O) (i0 : am_isR y0 = true) (hs : fm_281 N y0 y1 y2 y3 h = some o) : am_W X (d + 3) 281 0 (am_args 0 [y0, .int y1, .int y2, .int y3]) [] h (fun q => q = o) := by
  rw [am_args_R i0, am_args_I, am_args_I, am_args_I]
  exact rg_281_0 y0 y1 y2 y3 h o rfl rfl rfl rfl i0 hs
def fg_271_303 (N : Nat) (s0 : Int32) (h : am_H) : Option am_O := some (.inl (some (.int s0), h))
theorem rg_271_303 {X : am_X} {d : Nat} {N : Nat} {lv : am_LV} (s0 : Int32) (h : am_H) (o : am_O) (hs : fg_271_303 N s0 h = some o) : am_W X (d + 4) 271 303 lv [(.int s0)] h (fun q => q = o) := by
  unfold fg_271_303 at hs
  cases hs
  exact aw_iret at_271_303 (by rw [rt_271]; rfl) rfl
def fg_271_302 (N : Nat) (h : am_H) : Option am_O := (fg_271_303 N ((-1)) h)
theorem rg_271_302 {X : am_X} {d : Nat} {N : Nat} {lv : am_LV} (h : am_H) (o : am_O) (hs : fg_271_302 N h = some o) : am_W X (d + 4) 271 302 lv [] h (fun q => q = o) := by
  unfold fg_271_302 at hs
  refine aw_iconst (v := (-1)) (pc1 := 303) at_271_302 (by decide) rfl ?_
  exact rg_271_303 ((-1)) h o   hs
def fg_271_268 (N : Nat) (s0 : Int32) (h : am_H) : Option am_O := some (.inl (some (.int s0), h))
theorem rg_271_268 {X : am_X} {d : Nat} {N : Nat} {lv : am_LV} (s0 : Int32) (h : am_H) (o : am_O) (hs : fg_271_268 N s0 h = some o) : am_W X (d + 4) 271 268 lv [(.int s0)] h (fun q => q = o) := by
  unfold fg_271_268 at hs
  cases hs
  exact aw_iret at_271_268 (by rw [rt_271]; rfl) rfl
def fg_271_267 (N : Nat) (h : am_H) : Option am_O := (fg_271_268 N ((-1)) h)
theorem rg_271_267 {X : am_X} {d : Nat} {N : Nat} {lv : am_LV} (h : am_H) (o : am_O) (hs : fg_271_267 N h = some o) : am_W X (d + 4) 271 267 lv [] h (fun q => q = o) := by
  unfold fg_271_267 at hs
  refine aw_iconst (v := (-1)) (pc1 := 268) at_271_267 (by decide) rfl ?_
  exact rg_271_268 ((-1)) h o   hs
def fg_271_259 (N : Nat) (x0 : Value) (h : am_H) : Option am_O := (if am_pOk 5 x0 h then am_cI true (fm_274 x0 0 h) (fun v2 h3 => (fg_271_268 N v2 h3)) else none)
theorem rg_271_259 {X : am_X} {d : Nat} {N : Nat} {lv : am_LV} (x0 : Value) (h : am_H) (o : am_O) (l0 : lv.lookup 0 = some x0) (i0 : am_isR x0 = true) (hs : fg_271_259 N x0 h = some o) : am_W X (d + 4) 271 259 lv [] h (fun q => q = o) := by
  unfold fg_271_259 at hs
  refine aw_vload_n (pc1 := 260) at_271_259 l0 i0 rfl ?_
  refine aw_iconst (v := 0) (pc1 := 261) at_271_260 (by decide) rfl ?_
  obtain ⟨z1, hs1⟩ := am_ift hs
  clear hs
  refine aw_call (F := fm_274 x0 0 h) (t := true) (na := 2) (kd := 1) (as := [x0, (.int 0)]) at_271_261 (am_k3v kb_274) mn_274 mk_274 rfl rfl (am_ok_v mi_274 (am_hl rfl (am_ccR i0 (am_ccI am_cats_0)) rfl) z1) (am_hc am_cats_0 rfl) (fun _ => ⟨rfl, hh_271⟩) (fun o1 hz9 => rm_274 x0 0 h o1 i0 hz9) ?_
  rcases am_cI_s hs1 with ⟨v2, h3, f4, hs2⟩ | hs2
  · clear hs1
    refine Or.inl ⟨_, _, f4, ?_⟩
    show am_W X _ 271 264 _ [(.int v2)] h3 _
    refine aw_goto at_271_264 ?_
    exact rg_271_268 v2 h3 o   hs2
  · clear hs1
    exact Or.inr hs2
def fg_271_240 (N : Nat) (x0 : Value) (x4 : Int32) (x5 : Int32) (h : am_H) : Option am_O := (if am_pOk 5 x0 h then am_cI true (fm_276 x0 x5 0 h) (fun v2 h3 => (if v2 = 0 then (fg_271_267 N h3) else (if am_pOk 5 x0 h3 then am_cI true (fm_278 N x0 x4 h3) (fun v7 h8 => (if v7 = 0 then (fg_271_267 N h8) else (fg_271_259 N x0 h8))) else none))) else none)
theorem rg_271_240 {X : am_X} {d : Nat} {N : Nat} {lv : am_LV} (x0 : Value) (x4 : Int32) (x5 : Int32) (h : am_H) (o : am_O) (l0 : lv.lookup 0 = some x0) (l4 : lv.lookup 4 = some (.int x4)) (l5 : lv.lookup 5 = some (.int x5)) (i0 : am_isR x0 = true) (hs : fg_271_240 N x0 x4 x5 h = some o) : am_W X (d + 4) 271 240 lv [] h (fun q => q = o) := by
  unfold fg_271_240 at hs
  refine aw_vload_n (pc1 := 241) at_271_240 l0 i0 rfl ?_
  refine aw_iload (pc1 := 243) at_271_241 l5 rfl ?_
  refine aw_iconst (v := 0) (pc1 := 244) at_271_243 (by decide) rfl ?_
  obtain ⟨z1, hs1⟩ := am_ift hs
  clear hs
  refine aw_call (F := fm_276 x0 x5 0 h) (t := true) (na := 3) (kd := 1) (as := [x0, (.int x5), (.int 0)]) at_271_244 (am_k3v kb_276) mn_276 mk_276 rfl rfl (am_ok_v mi_276 (am_hl rfl (am_ccR i0 (am_ccI (am_ccI am_cats_0))) rfl) z1) (am_hc am_cats_0 rfl) (fun _ => ⟨rfl, hh_271⟩) (fun o1 hz9 => rm_276 x0 x5 0 h o1 i0 hz9) ?_
  rcases am_cI_s hs1 with ⟨v2, h3, f4, hs2⟩ | hs2
  · clear hs1
    refine Or.inl ⟨_, _, f4, ?_⟩
    show am_W X _ 271 247 _ [(.int v2)] h3 _
    by_cases c5 : v2 = 0
    · rw [if_pos c5] at hs2
      refine aw_ifeq_t at_271_247 c5 ?_
      exact rg_271_267 h3 o   hs2
    · rw [if_neg c5] at hs2
      refine aw_ifeq_f (pc1 := 250) at_271_247 c5 rfl ?_
      refine aw_vload_n (pc1 := 251) at_271_250 l0 i0 rfl ?_
      refine aw_iload (pc1 := 253) at_271_251 l4 rfl ?_
      obtain ⟨z6, hs3⟩ := am_ift hs2
      clear hs2
      refine aw_call (F := fm_278 N x0 x4 h3) (t := true) (na := 2) (kd := 1) (as := [x0, (.int x4)]) at_271_253 (am_k3v kb_278) mn_278 mk_278 rfl rfl (am_ok_v mi_278 (am_hl rfl (am_ccR i0 (am_ccI am_cats_0)) rfl) z6) (am_hc am_cats_0 rfl) (fun _ => ⟨rfl, hh_271⟩) (fun o1 hz9 => rm_278 x0 x4 h3 o1 i0 hz9) ?_
      rcases am_cI_s hs3 with ⟨v7, h8, f9, hs4⟩ | hs4
      · clear hs3
        refine Or.inl ⟨_, _, f9, ?_⟩
        show am_W X _ 271 256 _ [(.int v7)] h8 _
        by_cases c10 : v7 = 0
        · rw [if_pos c10] at hs4
          refine aw_ifeq_t at_271_256 c10 ?_
          exact rg_271_267 h8 o   hs4
        · rw [if_neg c10] at hs4
          refine aw_ifeq_f (pc1 := 259) at_271_256 c10 rfl ?_
          exact rg_271_259 x0 h8 o l0 i0 hs4
      · clear hs3
        exact Or.inr hs4
  · clear hs1
    exact Or.inr hs2
def fg_271_214 (N : Nat) (s0 : Int32) (h : am_H) : Option am_O := some (.inl (some (.int s0), h))
theorem rg_271_214 {X : am_X} {d : Nat} {N : Nat} {lv : am_LV} (s0 : Int32) (h : am_H) (o : am_O) (hs : fg_271_214 N s0 h = some o) : am_W X (d + 4) 271 214 lv [(.int s0)] h (fun q => q = o) := by
  unfold fg_271_214 at hs
  cases hs
  exact aw_iret at_271_214 (by rw [rt_271]; rfl) rfl
def fg_271_213 (N : Nat) (h : am_H) : Option am_O := (fg_271_214 N ((-1)) h)
theorem rg_271_213 {X : am_X} {d : Nat} {N : Nat} {lv : am_LV} (h : am_H) (o : am_O) (hs : fg_271_213 N h = some o) : am_W X (d + 4) 271 213 lv [] h (fun q => q = o) := by
  unfold fg_271_213 at hs
  refine aw_iconst (v := (-1)) (pc1 := 214) at_271_213 (by decide) rfl ?_
  exact rg_271_214 ((-1)) h o   hs
def fg_271_176 (N : Nat) (s0 : Int32) (h : am_H) : Option am_O := some (.inl (some (.int s0), h))
theorem rg_271_176 {X : am_X} {d : Nat} {N : Nat} {lv : am_LV} (s0 : Int32) (h : am_H) (o : am_O) (hs : fg_271_176 N s0 h = some o) : am_W X (d + 4) 271 176 lv [(.int s0)] h (fun q => q = o) := by
  unfold fg_271_176 at hs
  cases hs
  exact aw_iret at_271_176 (by rw [rt_271]; rfl) rfl
def fg_271_175 (N : Nat) (h : am_H) : Option am_O := (fg_271_176 N ((-1)) h)
theorem rg_271_175 {X : am_X} {d : Nat} {N : Nat} {lv : am_LV} (h : am_H) (o : am_O) (hs : fg_271_175 N h = some o) : am_W X (d + 4) 271 175 lv [] h (fun q => q = o) := by
  unfold fg_271_175 at hs
  refine aw_iconst (v := (-1)) (pc1 := 176) at_271_175 (by decide) rfl ?_
  exact rg_271_176 ((-1)) h o   hs
def fg_271_126 (N : Nat) (s0 : Int32) (h : am_H) : Option am_O := some (.inl (some (.int s0), h))
theorem rg_271_126 {X : am_X} {d : Nat} {N : Nat} {lv : am_LV} (s0 : Int32) (h : am_H) (o : am_O) (hs : fg_271_126 N s0 h = some o) : am_W X (d + 4) 271 126 lv [(.int s0)] h (fun q => q = o) := by
  unfold fg_271_126 at hs
  cases hs
  exact aw_iret at_271_126 (by rw [rt_271]; rfl) rfl
def fg_271_125 (N : Nat) (h : am_H) : Option am_O := (fg_271_126 N ((-1)) h)
theorem rg_271_125 {X : am_X} {d : Nat} {N : Nat} {lv : am_LV} (h : am_H) (o : am_O) (hs : fg_271_125 N h = some o) : am_W X (d + 4) 271 125 lv [] h (fun q => q = o) := by
  unfold fg_271_125 at hs
  refine aw_iconst (v := (-1)) (pc1 := 126) at_271_125 (by decide) rfl ?_
  exact rg_271_126 ((-1)) h o   hs
def fg_271_104 (N : Nat) (x0 : Value) (x3 : Int32) (x4 : Int32) (h : am_H) : Option am_O := ((am_vR (am_pG 1285 x0 h)).bind fun v1 => (if am_pOk 3 v1 h then am_cI true (fm_54 v1 x4 0 h) (fun v4 h5 => (if ¬ v4 = x3 then (fg_271_125 N h5) else (fg_271_126 N ((x4 + 1)) h5))) else none))
theorem rg_271_104 {X : am_X} {d : Nat} {N : Nat} {lv : am_LV} (x0 : Value) (x3 : Int32) (x4 : Int32) (h : am_H) (o : am_O) (l0 : lv.lookup 0 = some x0) (l3 : lv.lookup 3 = some (.int x3)) (l4 : lv.lookup 4 = some (.int x4)) (i0 : am_isR x0 = true) (hs : fg_271_104 N x0 x3 x4 h = some o) : am_W X (d + 4) 271 104 lv [] h (fun q => q = o) := by
  unfold fg_271_104 at hs
  refine aw_vload_n (pc1 := 105) at_271_104 l0 i0 rfl ?_
  obtain ⟨v1, e2, hs1⟩ := am_bind hs
  clear hs
  refine aw_pG (pc1 := 108) at_271_105 (am_vR_s e2).1 rfl ?_
  refine aw_iload (pc1 := 110) at_271_108 l4 rfl ?_
  refine aw_iconst (v := 0) (pc1 := 111) at_271_110 (by decide) rfl ?_
  obtain ⟨z3, hs2⟩ := am_ift hs1
  clear hs1
  refine aw_call (F := fm_54 v1 x4 0 h) (t := true) (na := 3) (kd := 1) (as := [v1, (.int x4), (.int 0)]) at_271_111 (am_k3v kb_54) mn_54 mk_54 rfl rfl (am_ok_v mi_54 (am_hl rfl (am_ccR (am_vR_s e2).2 (am_ccI (am_ccI am_cats_0))) rfl) z3) (am_hc am_cats_0 rfl) (fun _ => ⟨rfl, hh_271⟩) (fun o1 hz9 => rm_54 v1 x4 0 h o1 (am_vR_s e2).2 hz9) ?_
  rcases am_cI_s hs2 with ⟨v4, h5, f6, hs3⟩ | hs3
  · clear hs2
    refine Or.inl ⟨_, _, f6, ?_⟩
    show am_W X _ 271 114 _ [(.int v4)] h5 _
    refine aw_iload_n (pc1 := 115) at_271_114 l3 rfl ?_
    by_cases c7 : ¬ v4 = x3
    · rw [if_pos c7] at hs3
      refine aw_icne_t at_271_115 c7 ?_
      exact rg_271_125 h5 o   hs3
    · rw [if_neg c7] at hs3
      refine aw_icne_f (pc1 := 118) at_271_115 c7 rfl ?_
      refine aw_iload (pc1 := 120) at_271_118 l4 rfl ?_
      refine aw_iconst (v := 1) (pc1 := 121) at_271_120 (by decide) rfl ?_
      refine aw_iadd (v := (x4 + 1)) (pc1 := 122) at_271_121 rfl rfl ?_
      refine aw_goto at_271_122 ?_
      exact rg_271_126 ((x4 + 1)) h5 o   hs3
  · clear hs2
    exact Or.inr hs3
def fg_271_0 (N : Nat) (x0 : Value) (x1 : Int32) (x2 : Int32) (h : am_H) : Option am_O := ((am_vR (am_pG 1285 x0 h)).bind fun v1 => (if am_pOk 3 v1 h then am_cI true (fm_54 v1 x1 0 h) (fun v4 h5 => ((am_vR (am_pG 1283 x0 h5)).bind fun v7 => (if am_pOk 7 v7 h5 then am_cI true (fm_100 v7 ((x1 + 1)) h5) (fun v10 h11 => (if x2 = 0 then (if am_pOk 5 x0 h11 then am_cI true (fm_272 x0 v4 ((x1 + 1)) v10 h11) (fun v15 h16 => some (.inl (some (.int v15), h16))) else none) else (if x2 = 1 then (if am_pOk 5 x0 h11 then am_cI true (fm_275 x0 v4 ((x1 + 1)) v10 h11) (fun v20 h21 => some (.inl (some (.int v20), h21))) else none) else (if x2 = 2 then (if v4 = 7 then (fg_271_104 N x0 v4 ((x1 + 1)) h11) else (if ¬ v4 = 9 then (fg_271_125 N h11) else (fg_271_104 N x0 v4 ((x1 + 1)) h11))) else (if x2 = 3 then (if am_pOk 5 x0 h11 then am_cI true (fm_277 x0 v4 ((x1 + 1)) v10 h11) (fun v28 h29 => some (.inl (some (.int v28), h29))) else none) else (if x2 = 4 then (if ¬ v4 = 20 then (fg_271_175 N h11) else (if am_pOk 5 x0 h11 then am_cI true (fm_278 N x0 ((x1 + 1)) h11) (fun v34 h35 => (if v34 = 0 then (fg_271_175 N h35) else ((am_vR (am_pG 1283 x0 h35)).bind fun v38 => (if am_pOk 7 v38 h35 then am_cI true (fm_100 v38 v10 h35) (fun v41 h42 => (if am_pOk 5 x0 h42 then am_cI true (fm_280 N x0 v10 v41 h42) (fun v45 h46 => (if v45 = 0 then (fg_271_175 N h46) else (fg_271_176 N v10 h46))) else none)) else none)))) else none)) else (if x2 = 5 then (if am_pOk 5 x0 h11 then am_cI true (fm_281 N x0 v4 ((x1 + 1)) v10 h11) (fun v51 h52 => some (.inl (some (.int v51), h52))) else none) else (if x2 = 6 then (if ¬ v4 = 20 then (fg_271_213 N h11) else ((am_vR (am_pG 1285 x0 h11)).bind fun v56 => (if am_pOk 3 v56 h11 then am_cI true (fm_54 v56 ((x1 + 1)) 0 h11) (fun v59 h60 => (if ¬ v59 = 9 then (fg_271_213 N h60) else (fg_271_214 N ((-3)) h60))) else none))) else (if x2 = 7 then (if ¬ v4 = 12 then (fg_271_267 N h11) else (if am_pOk 5 x0 h11 then am_cI true (fm_276 x0 ((x1 + 1)) 0 h11) (fun v66 h67 => (if v66 = 0 then (fg_271_240 N x0 ((x1 + 1)) v10 h67) else (if am_pOk 5 x0 h67 then am_cI true (fm_278 N x0 v10 h67) (fun v71 h72 => (if ¬ v71 = 0 then (fg_271_259 N x0 h72) else (fg_271_240 N x0 ((x1 + 1)) v10 h72))) else none))) else none)) else (if ¬ v4 = 14 then (fg_271_302 N h11) else (if am_pOk 5 x0 h11 then am_cI true (fm_276 x0 v10 1 h11) (fun v77 h78 => (if v77 = 0 then (fg_271_302 N h78) else (if am_pOk 5 x0 h78 then am_cI true (fm_278 N x0 ((x1 + 1)) h78) (fun v82 h83 => (if v82 = 0 then (fg_271_302 N h83) else (if am_pOk 5 x0 h83 then am_cI true (fm_274 x0 0 h83) (fun v87 h88 => (fg_271_303 N v87 h88)) else none))) else none))) else none))))))))))) else none))) else none))
theorem rg_271_0 {X : am_X} {d : Nat} {N : Nat} {lv : am_LV} (x0 : Value) (x1 : Int32) (x2 : Int32) (h : am_H) (o : am_O) (l0 : lv.lookup 0 = some x0) (l1 : lv.lookup 1 = some (.int x1)) (l2 : lv.lookup 2 = some (.int x2)) (i0 : am_isR x0 = true) (hs : fg_271_0 N x0 x1 x2 h = some o) : am_W X (d + 4) 271 0 lv [] h (fun q => q = o) := by
  unfold fg_271_0 at hs
  refine aw_vload_n (pc1 := 1) at_271_0 l0 i0 rfl ?_
  obtain ⟨v1, e2, hs1⟩ := am_bind hs
  clear hs
  refine aw_pG (pc1 := 4) at_271_1 (am_vR_s e2).1 rfl ?_
  refine aw_iload_n (pc1 := 5) at_271_4 l1 rfl ?_
  refine aw_iconst (v := 0) (pc1 := 6) at_271_5 (by decide) rfl ?_
  obtain ⟨z3, hs2⟩ := am_ift hs1
  clear hs1
  refine aw_call (F := fm_54 v1 x1 0 h) (t := true) (na := 3) (kd := 1) (as := [v1, (.int x1), (.int 0)]) at_271_6 (am_k3v kb_54) mn_54 mk_54 rfl rfl (am_ok_v mi_54 (am_hl rfl (am_ccR (am_vR_s e2).2 (am_ccI (am_ccI am_cats_0))) rfl) z3) (am_hc am_cats_0 rfl) (fun _ => ⟨rfl, hh_271⟩) (fun o1 hz9 => rm_54 v1 x1 0 h o1 (am_vR_s e2).2 hz9) ?_
  rcases am_cI_s hs2 with ⟨v4, h5, f6, hs3⟩ | hs3
  · clear hs2
    refine Or.inl ⟨_, _, f6, ?_⟩
    show am_W X _ 271 9 _ [(.int v4)] h5 _
    refine aw_istore_n (lv1 := am_put1 _ 3 _) (pc1 := 10) at_271_9 rfl rfl ?_
    refine aw_iload_n (pc1 := 11) at_271_10 (am_lk1 l1 rfl rfl) rfl ?_
    refine aw_iconst (v := 1) (pc1 := 12) at_271_11 (by decide) rfl ?_
    refine aw_iadd (v := (x1 + 1)) (pc1 := 13) at_271_12 rfl rfl ?_
    refine aw_istore (lv1 := am_put1 _ 4 _) (pc1 := 15) at_271_13 rfl rfl ?_
    refine aw_vload_n (pc1 := 16) at_271_15 (am_lk1 (am_lk1 l0 rfl rfl) rfl rfl) i0 rfl ?_
    obtain ⟨v7, e8, hs4⟩ := am_bind hs3
    clear hs3
    refine aw_pG (pc1 := 19) at_271_16 (am_vR_s e8).1 rfl ?_
    refine aw_iload (pc1 := 21) at_271_19 am_lk0 rfl ?_
    obtain ⟨z9, hs5⟩ := am_ift hs4
    clear hs4
    refine aw_call (F := fm_100 v7 ((x1 + 1)) h5) (t := true) (na := 2) (kd := 1) (as := [v7, (.int (x1 + 1))]) at_271_21 (am_k3v kb_100) mn_100 mk_100 rfl rfl (am_ok_v mi_100 (am_hl rfl (am_ccR (am_vR_s e8).2 (am_ccI am_cats_0)) rfl) z9) (am_hc am_cats_0 rfl) (fun _ => ⟨rfl, hh_271⟩) (fun o1 hz9 => rm_100 v7 ((x1 + 1)) h5 o1 (am_vR_s e8).2 hz9) ?_
    rcases am_cI_s hs5 with ⟨v10, h11, f12, hs6⟩ | hs6
    · clear hs5
      refine Or.inl ⟨_, _, f12, ?_⟩
      show am_W X _ 271 24 _ [(.int v10)] h11 _
      refine aw_istore (lv1 := am_put1 _ 5 _) (pc1 := 26) at_271_24 rfl rfl ?_
      refine aw_iload_n (pc1 := 27) at_271_26 (am_lk1 (am_lk1 (am_lk1 l2 rfl rfl) rfl rfl) rfl rfl) rfl ?_
      by_cases c13 : x2 = 0
      · rw [if_pos c13] at hs6
        refine aw_tsw (t := 72) at_271_27 (by rw [c13]; rfl) ?_
        refine aw_vload_n (pc1 := 73) at_271_72 (am_lk1 (am_lk1 (am_lk1 l0 rfl rfl) rfl rfl) rfl rfl) i0 rfl ?_
        refine aw_iload_n (pc1 := 74) at_271_73 (am_lk1 (am_lk1 am_lk0 rfl rfl) rfl rfl) rfl ?_
        refine aw_iload (pc1 := 76) at_271_74 (am_lk1 am_lk0 rfl rfl) rfl ?_
        refine aw_iload (pc1 := 78) at_271_76 am_lk0 rfl ?_
        obtain ⟨z14, hs7⟩ := am_ift hs6
        clear hs6
        refine aw_call (F := fm_272 x0 v4 ((x1 + 1)) v10 h11) (t := true) (na := 4) (kd := 1) (as := [x0, (.int v4), (.int (x1 + 1)), (.int v10)]) at_271_78 (am_k3v kb_272) mn_272 mk_272 rfl rfl (am_ok_v mi_272 (am_hl rfl (am_ccR i0 (am_ccI (am_ccI (am_ccI am_cats_0)))) rfl) z14) (am_hc am_cats_0 rfl) (fun _ => ⟨rfl, hh_271⟩) (fun o1 hz9 => rm_272 x0 v4 ((x1 + 1)) v10 h11 o1 i0 hz9) ?_
        rcases am_cI_s hs7 with ⟨v15, h16, f17, hs8⟩ | hs8
        · clear hs7
          refine Or.inl ⟨_, _, f17, ?_⟩
          show am_W X _ 271 81 _ [(.int v15)] h16 _
          cases hs8
          exact aw_iret at_271_81 (by rw [rt_271]; rfl) rfl
        · clear hs7
          exact Or.inr hs8
      · rw [if_neg c13] at hs6
        by_cases c18 : x2 = 1
        · rw [if_pos c18] at hs6
          refine aw_tsw (t := 82) at_271_27 (by rw [c18]; rfl) ?_
          refine aw_vload_n (pc1 := 83) at_271_82 (am_lk1 (am_lk1 (am_lk1 l0 rfl rfl) rfl rfl) rfl rfl) i0 rfl ?_
          refine aw_iload_n (pc1 := 84) at_271_83 (am_lk1 (am_lk1 am_lk0 rfl rfl) rfl rfl) rfl ?_
          refine aw_iload (pc1 := 86) at_271_84 (am_lk1 am_lk0 rfl rfl) rfl ?_
          refine aw_iload (pc1 := 88) at_271_86 am_lk0 rfl ?_
          obtain ⟨z19, hs9⟩ := am_ift hs6
          clear hs6
          refine aw_call (F := fm_275 x0 v4 ((x1 + 1)) v10 h11) (t := true) (na := 4) (kd := 1) (as := [x0, (.int v4), (.int (x1 + 1)), (.int v10)]) at_271_88 (am_k3v kb_275) mn_275 mk_275 rfl rfl (am_ok_v mi_275 (am_hl rfl (am_ccR i0 (am_ccI (am_ccI (am_ccI am_cats_0)))) rfl) z19) (am_hc am_cats_0 rfl) (fun _ => ⟨rfl, hh_271⟩) (fun o1 hz9 => rm_275 x0 v4 ((x1 + 1)) v10 h11 o1 i0 hz9) ?_
          rcases am_cI_s hs9 with ⟨v20, h21, f22, hs10⟩ | hs10
          · clear hs9
            refine Or.inl ⟨_, _, f22, ?_⟩
            show am_W X _ 271 91 _ [(.int v20)] h21 _
            cases hs10
            exact aw_iret at_271_91 (by rw [rt_271]; rfl) rfl
          · clear hs9
            exact Or.inr hs10
        · rw [if_neg c18] at hs6
          by_cases c23 : x2 = 2
          · rw [if_pos c23] at hs6
            refine aw_tsw (t := 92) at_271_27 (by rw [c23]; rfl) ?_
            refine aw_iload_n (pc1 := 93) at_271_92 (am_lk1 (am_lk1 am_lk0 rfl rfl) rfl rfl) rfl ?_
            refine aw_bipush (v := 7) (pc1 := 95) at_271_93 (by decide) rfl ?_
            by_cases c24 : v4 = 7
            · rw [if_pos c24] at hs6
              refine aw_iceq_t at_271_95 c24 ?_
              exact rg_271_104 x0 v4 ((x1 + 1)) h11 o (am_lk1 (am_lk1 (am_lk1 l0 rfl rfl) rfl rfl) rfl rfl) (am_lk1 (am_lk1 am_lk0 rfl rfl) rfl rfl) (am_lk1 am_lk0 rfl rfl) i0 hs6
            · rw [if_neg c24] at hs6
              refine aw_iceq_f (pc1 := 98) at_271_95 c24 rfl ?_
              refine aw_iload_n (pc1 := 99) at_271_98 (am_lk1 (am_lk1 am_lk0 rfl rfl) rfl rfl) rfl ?_
              refine aw_bipush (v := 9) (pc1 := 101) at_271_99 (by decide) rfl ?_
              by_cases c25 : ¬ v4 = 9
              · rw [if_pos c25] at hs6
                refine aw_icne_t at_271_101 c25 ?_
                exact rg_271_125 h11 o   hs6
              · rw [if_neg c25] at hs6
                refine aw_icne_f (pc1 := 104) at_271_101 c25 rfl ?_
                exact rg_271_104 x0 v4 ((x1 + 1)) h11 o (am_lk1 (am_lk1 (am_lk1 l0 rfl rfl) rfl rfl) rfl rfl) (am_lk1 (am_lk1 am_lk0 rfl rfl) rfl rfl) (am_lk1 am_lk0 rfl rfl) i0 hs6
          · rw [if_neg c23] at hs6
            by_cases c26 : x2 = 3
            · rw [if_pos c26] at hs6
              refine aw_tsw (t := 127) at_271_27 (by rw [c26]; rfl) ?_
              refine aw_vload_n (pc1 := 128) at_271_127 (am_lk1 (am_lk1 (am_lk1 l0 rfl rfl) rfl rfl) rfl rfl) i0 rfl ?_
              refine aw_iload_n (pc1 := 129) at_271_128 (am_lk1 (am_lk1 am_lk0 rfl rfl) rfl rfl) rfl ?_
              refine aw_iload (pc1 := 131) at_271_129 (am_lk1 am_lk0 rfl rfl) rfl ?_
              refine aw_iload (pc1 := 133) at_271_131 am_lk0 rfl ?_
              obtain ⟨z27, hs11⟩ := am_ift hs6
              clear hs6
              refine aw_call (F := fm_277 x0 v4 ((x1 + 1)) v10 h11) (t := true) (na := 4) (kd := 1) (as := [x0, (.int v4), (.int (x1 + 1)), (.int v10)]) at_271_133 (am_k3v kb_277) mn_277 mk_277 rfl rfl (am_ok_v mi_277 (am_hl rfl (am_ccR i0 (am_ccI (am_ccI (am_ccI am_cats_0)))) rfl) z27) (am_hc am_cats_0 rfl) (fun _ => ⟨rfl, hh_271⟩) (fun o1 hz9 => rm_277 x0 v4 ((x1 + 1)) v10 h11 o1 i0 hz9) ?_
              rcases am_cI_s hs11 with ⟨v28, h29, f30, hs12⟩ | hs12
              · clear hs11
                refine Or.inl ⟨_, _, f30, ?_⟩
                show am_W X _ 271 136 _ [(.int v28)] h29 _
                cases hs12
                exact aw_iret at_271_136 (by rw [rt_271]; rfl) rfl
              · clear hs11
                exact Or.inr hs12
            · rw [if_neg c26] at hs6
              by_cases c31 : x2 = 4
              · rw [if_pos c31] at hs6
                refine aw_tsw (t := 137) at_271_27 (by rw [c31]; rfl) ?_
                refine aw_iload_n (pc1 := 138) at_271_137 (am_lk1 (am_lk1 am_lk0 rfl rfl) rfl rfl) rfl ?_
                refine aw_bipush (v := 20) (pc1 := 140) at_271_138 (by decide) rfl ?_
                by_cases c32 : ¬ v4 = 20
                · rw [if_pos c32] at hs6
                  refine aw_icne_t at_271_140 c32 ?_
                  exact rg_271_175 h11 o   hs6
                · rw [if_neg c32] at hs6
                  refine aw_icne_f (pc1 := 143) at_271_140 c32 rfl ?_
                  refine aw_vload_n (pc1 := 144) at_271_143 (am_lk1 (am_lk1 (am_lk1 l0 rfl rfl) rfl rfl) rfl rfl) i0 rfl ?_
                  refine aw_iload (pc1 := 146) at_271_144 (am_lk1 am_lk0 rfl rfl) rfl ?_
                  obtain ⟨z33, hs13⟩ := am_ift hs6
                  clear hs6
                  refine aw_call (F := fm_278 N x0 ((x1 + 1)) h11) (t := true) (na := 2) (kd := 1) (as := [x0, (.int (x1 + 1))]) at_271_146 (am_k3v kb_278) mn_278 mk_278 rfl rfl (am_ok_v mi_278 (am_hl rfl (am_ccR i0 (am_ccI am_cats_0)) rfl) z33) (am_hc am_cats_0 rfl) (fun _ => ⟨rfl, hh_271⟩) (fun o1 hz9 => rm_278 x0 ((x1 + 1)) h11 o1 i0 hz9) ?_
                  rcases am_cI_s hs13 with ⟨v34, h35, f36, hs14⟩ | hs14
                  · clear hs13
                    refine Or.inl ⟨_, _, f36, ?_⟩
                    show am_W X _ 271 149 _ [(.int v34)] h35 _
                    by_cases c37 : v34 = 0
                    · rw [if_pos c37] at hs14
                      refine aw_ifeq_t at_271_149 c37 ?_
                      exact rg_271_175 h35 o   hs14
                    · rw [if_neg c37] at hs14
                      refine aw_ifeq_f (pc1 := 152) at_271_149 c37 rfl ?_
                      refine aw_vload_n (pc1 := 153) at_271_152 (am_lk1 (am_lk1 (am_lk1 l0 rfl rfl) rfl rfl) rfl rfl) i0 rfl ?_
                      refine aw_iload (pc1 := 155) at_271_153 am_lk0 rfl ?_
                      refine aw_vload_n (pc1 := 156) at_271_155 (am_lk1 (am_lk1 (am_lk1 l0 rfl rfl) rfl rfl) rfl rfl) i0 rfl ?_
                      obtain ⟨v38, e39, hs15⟩ := am_bind hs14
                      clear hs14
                      refine aw_pG (pc1 := 159) at_271_156 (am_vR_s e39).1 rfl ?_
                      refine aw_iload (pc1 := 161) at_271_159 am_lk0 rfl ?_
                      obtain ⟨z40, hs16⟩ := am_ift hs15
                      clear hs15
                      refine aw_call (F := fm_100 v38 v10 h35) (t := true) (na := 2) (kd := 1) (as := [v38, (.int v10)]) at_271_161 (am_k3v kb_100) mn_100 mk_100 rfl rfl (am_ok_v mi_100 (am_hl rfl (am_ccR (am_vR_s e39).2 (am_ccI am_cats_0)) rfl) z40) (am_hc (am_ccI (am_ccR i0 am_cats_0)) rfl) (fun _ => ⟨rfl, hh_271⟩) (fun o1 hz9 => rm_100 v38 v10 h35 o1 (am_vR_s e39).2 hz9) ?_
                      rcases am_cI_s hs16 with ⟨v41, h42, f43, hs17⟩ | hs17
                      · clear hs16
                        refine Or.inl ⟨_, _, f43, ?_⟩
                        show am_W X _ 271 164 _ [(.int v41), (.int v10), x0] h42 _
                        obtain ⟨z44, hs18⟩ := am_ift hs17
                        clear hs17
                        refine aw_call (F := fm_280 N x0 v10 v41 h42) (t := true) (na := 3) (kd := 1) (as := [x0, (.int v10), (.int v41)]) at_271_164 (am_k3v kb_280) mn_280 mk_280 rfl rfl (am_ok_v mi_280 (am_hl rfl (am_ccR i0 (am_ccI (am_ccI am_cats_0))) rfl) z44) (am_hc am_cats_0 rfl) (fun _ => ⟨rfl, hh_271⟩) (fun o1 hz9 => rm_280 x0 v10 v41 h42 o1 i0 hz9) ?_
                        rcases am_cI_s hs18 with ⟨v45, h46, f47, hs19⟩ | hs19
                        · clear hs18
                          refine Or.inl ⟨_, _, f47, ?_⟩
                          show am_W X _ 271 167 _ [(.int v45)] h46 _
                          by_cases c48 : v45 = 0
                          · rw [if_pos c48] at hs19
                            refine aw_ifeq_t at_271_167 c48 ?_
                            exact rg_271_175 h46 o   hs19
                          · rw [if_neg c48] at hs19
                            refine aw_ifeq_f (pc1 := 170) at_271_167 c48 rfl ?_
                            refine aw_iload (pc1 := 172) at_271_170 am_lk0 rfl ?_
                            refine aw_goto at_271_172 ?_
                            exact rg_271_176 v10 h46 o   hs19
                        · clear hs18
                          exact Or.inr hs19
                      · clear hs16
                        exact Or.inr hs17
                  · clear hs13
                    exact Or.inr hs14
              · rw [if_neg c31] at hs6
                by_cases c49 : x2 = 5
                · rw [if_pos c49] at hs6
                  refine aw_tsw (t := 177) at_271_27 (by rw [c49]; rfl) ?_
                  refine aw_vload_n (pc1 := 178) at_271_177 (am_lk1 (am_lk1 (am_lk1 l0 rfl rfl) rfl rfl) rfl rfl) i0 rfl ?_
                  refine aw_iload_n (pc1 := 179) at_271_178 (am_lk1 (am_lk1 am_lk0 rfl rfl) rfl rfl) rfl ?_
                  refine aw_iload (pc1 := 181) at_271_179 (am_lk1 am_lk0 rfl rfl) rfl ?_
                  refine aw_iload (pc1 := 183) at_271_181 am_lk0 rfl ?_
                  obtain ⟨z50, hs20⟩ := am_ift hs6
                  clear hs6
                  refine aw_call (F := fm_281 N x0 v4 ((x1 + 1)) v10 h11) (t := true) (na := 4) (kd := 1) (as := [x0, (.int v4), (.int (x1 + 1)), (.int v10)]) at_271_183 (am_k3v kb_281) mn_281 mk_281 rfl rfl (am_ok_v mi_281 (am_hl rfl (am_ccR i0 (am_ccI (am_ccI (am_ccI am_cats_0)))) rfl) z50) (am_hc am_cats_0 rfl) (fun _ => ⟨rfl, hh_271⟩) (fun o1 hz9 => rm_281 x0 v4 ((x1 + 1)) v10 h11 o1 i0 hz9) ?_
                  rcases am_cI_s hs20 with ⟨v51, h52, f53, hs21⟩ | hs21
                  · clear hs20
                    refine Or.inl ⟨_, _, f53, ?_⟩
                    show am_W X _ 271 186 _ [(.int v51)] h52 _
                    cases hs21
                    exact aw_iret at_271_186 (by rw [rt_271]; rfl) rfl
                  · clear hs20
                    exact Or.inr hs21
                · rw [if_neg c49] at hs6
                  by_cases c54 : x2 = 6
                  · rw [if_pos c54] at hs6
                    refine aw_tsw (t := 187) at_271_27 (by rw [c54]; rfl) ?_
                    refine aw_iload_n (pc1 := 188) at_271_187 (am_lk1 (am_lk1 am_lk0 rfl rfl) rfl rfl) rfl ?_
                    refine aw_bipush (v := 20) (pc1 := 190) at_271_188 (by decide) rfl ?_
                    by_cases c55 : ¬ v4 = 20
                    · rw [if_pos c55] at hs6
                      refine aw_icne_t at_271_190 c55 ?_
                      exact rg_271_213 h11 o   hs6
                    · rw [if_neg c55] at hs6
                      refine aw_icne_f (pc1 := 193) at_271_190 c55 rfl ?_
                      refine aw_vload_n (pc1 := 194) at_271_193 (am_lk1 (am_lk1 (am_lk1 l0 rfl rfl) rfl rfl) rfl rfl) i0 rfl ?_
                      obtain ⟨v56, e57, hs22⟩ := am_bind hs6
                      clear hs6
                      refine aw_pG (pc1 := 197) at_271_194 (am_vR_s e57).1 rfl ?_
                      refine aw_iload (pc1 := 199) at_271_197 (am_lk1 am_lk0 rfl rfl) rfl ?_
                      refine aw_iconst (v := 0) (pc1 := 200) at_271_199 (by decide) rfl ?_
                      obtain ⟨z58, hs23⟩ := am_ift hs22
                      clear hs22
                      refine aw_call (F := fm_54 v56 ((x1 + 1)) 0 h11) (t := true) (na := 3) (kd := 1) (as := [v56, (.int (x1 + 1)), (.int 0)]) at_271_200 (am_k3v kb_54) mn_54 mk_54 rfl rfl (am_ok_v mi_54 (am_hl rfl (am_ccR (am_vR_s e57).2 (am_ccI (am_ccI am_cats_0))) rfl) z58) (am_hc am_cats_0 rfl) (fun _ => ⟨rfl, hh_271⟩) (fun o1 hz9 => rm_54 v56 ((x1 + 1)) 0 h11 o1 (am_vR_s e57).2 hz9) ?_
                      rcases am_cI_s hs23 with ⟨v59, h60, f61, hs24⟩ | hs24
                      · clear hs23
                        refine Or.inl ⟨_, _, f61, ?_⟩
                        show am_W X _ 271 203 _ [(.int v59)] h60 _
                        refine aw_bipush (v := 9) (pc1 := 205) at_271_203 (by decide) rfl ?_
                        by_cases c62 : ¬ v59 = 9
                        · rw [if_pos c62] at hs24
                          refine aw_icne_t at_271_205 c62 ?_
                          exact rg_271_213 h60 o   hs24
                        · rw [if_neg c62] at hs24
                          refine aw_icne_f (pc1 := 208) at_271_205 c62 rfl ?_
                          refine aw_bipush (v := (-3)) (pc1 := 210) at_271_208 (by decide) rfl ?_
                          refine aw_goto at_271_210 ?_
                          exact rg_271_214 ((-3)) h60 o   hs24
                      · clear hs23
                        exact Or.inr hs24
                  · rw [if_neg c54] at hs6
                    by_cases c63 : x2 = 7
                    · rw [if_pos c63] at hs6
                      refine aw_tsw (t := 215) at_271_27 (by rw [c63]; rfl) ?_
                      refine aw_iload_n (pc1 := 216) at_271_215 (am_lk1 (am_lk1 am_lk0 rfl rfl) rfl rfl) rfl ?_
                      refine aw_bipush (v := 12) (pc1 := 218) at_271_216 (by decide) rfl ?_
                      by_cases c64 : ¬ v4 = 12
                      · rw [if_pos c64] at hs6
                        refine aw_icne_t at_271_218 c64 ?_
                        exact rg_271_267 h11 o   hs6
                      · rw [if_neg c64] at hs6
                        refine aw_icne_f (pc1 := 221) at_271_218 c64 rfl ?_
                        refine aw_vload_n (pc1 := 222) at_271_221 (am_lk1 (am_lk1 (am_lk1 l0 rfl rfl) rfl rfl) rfl rfl) i0 rfl ?_
                        refine aw_iload (pc1 := 224) at_271_222 (am_lk1 am_lk0 rfl rfl) rfl ?_
                        refine aw_iconst (v := 0) (pc1 := 225) at_271_224 (by decide) rfl ?_
                        obtain ⟨z65, hs25⟩ := am_ift hs6
                        clear hs6
                        refine aw_call (F := fm_276 x0 ((x1 + 1)) 0 h11) (t := true) (na := 3) (kd := 1) (as := [x0, (.int (x1 + 1)), (.int 0)]) at_271_225 (am_k3v kb_276) mn_276 mk_276 rfl rfl (am_ok_v mi_276 (am_hl rfl (am_ccR i0 (am_ccI (am_ccI am_cats_0))) rfl) z65) (am_hc am_cats_0 rfl) (fun _ => ⟨rfl, hh_271⟩) (fun o1 hz9 => rm_276 x0 ((x1 + 1)) 0 h11 o1 i0 hz9) ?_
                        rcases am_cI_s hs25 with ⟨v66, h67, f68, hs26⟩ | hs26
                        · clear hs25
                          refine Or.inl ⟨_, _, f68, ?_⟩
                          show am_W X _ 271 228 _ [(.int v66)] h67 _
                          by_cases c69 : v66 = 0
                          · rw [if_pos c69] at hs26
                            refine aw_ifeq_t at_271_228 c69 ?_
                            exact rg_271_240 x0 ((x1 + 1)) v10 h67 o (am_lk1 (am_lk1 (am_lk1 l0 rfl rfl) rfl rfl) rfl rfl) (am_lk1 am_lk0 rfl rfl) am_lk0 i0 hs26
                          · rw [if_neg c69] at hs26
                            refine aw_ifeq_f (pc1 := 231) at_271_228 c69 rfl ?_
                            refine aw_vload_n (pc1 := 232) at_271_231 (am_lk1 (am_lk1 (am_lk1 l0 rfl rfl) rfl rfl) rfl rfl) i0 rfl ?_
                            refine aw_iload (pc1 := 234) at_271_232 am_lk0 rfl ?_
                            obtain ⟨z70, hs27⟩ := am_ift hs26
                            clear hs26
                            refine aw_call (F := fm_278 N x0 v10 h67) (t := true) (na := 2) (kd := 1) (as := [x0, (.int v10)]) at_271_234 (am_k3v kb_278) mn_278 mk_278 rfl rfl (am_ok_v mi_278 (am_hl rfl (am_ccR i0 (am_ccI am_cats_0)) rfl) z70) (am_hc am_cats_0 rfl) (fun _ => ⟨rfl, hh_271⟩) (fun o1 hz9 => rm_278 x0 v10 h67 o1 i0 hz9) ?_
                            rcases am_cI_s hs27 with ⟨v71, h72, f73, hs28⟩ | hs28
                            · clear hs27
                              refine Or.inl ⟨_, _, f73, ?_⟩
                              show am_W X _ 271 237 _ [(.int v71)] h72 _
                              by_cases c74 : ¬ v71 = 0
                              · rw [if_pos c74] at hs28
                                refine aw_ifne_t at_271_237 c74 ?_
                                exact rg_271_259 x0 h72 o (am_lk1 (am_lk1 (am_lk1 l0 rfl rfl) rfl rfl) rfl rfl) i0 hs28
                              · rw [if_neg c74] at hs28
                                refine aw_ifne_f (pc1 := 240) at_271_237 c74 rfl ?_
                                exact rg_271_240 x0 ((x1 + 1)) v10 h72 o (am_lk1 (am_lk1 (am_lk1 l0 rfl rfl) rfl rfl) rfl rfl) (am_lk1 am_lk0 rfl rfl) am_lk0 i0 hs28
                            · clear hs27
                              exact Or.inr hs28
                        · clear hs25
                          exact Or.inr hs26
                    · rw [if_neg c63] at hs6
                      have tc13 : x2.toInt ≠ 0 := fun e9 => c13 (Int32.toInt_inj.mp e9)
                      have tc18 : x2.toInt ≠ 1 := fun e9 => c18 (Int32.toInt_inj.mp e9)
                      have tc23 : x2.toInt ≠ 2 := fun e9 => c23 (Int32.toInt_inj.mp e9)
                      have tc26 : x2.toInt ≠ 3 := fun e9 => c26 (Int32.toInt_inj.mp e9)
                      have tc31 : x2.toInt ≠ 4 := fun e9 => c31 (Int32.toInt_inj.mp e9)
                      have tc49 : x2.toInt ≠ 5 := fun e9 => c49 (Int32.toInt_inj.mp e9)
                      have tc54 : x2.toInt ≠ 6 := fun e9 => c54 (Int32.toInt_inj.mp e9)
                      have tc63 : x2.toInt ≠ 7 := fun e9 => c63 (Int32.toInt_inj.mp e9)
                      refine aw_tsw (t := 269) at_271_27 (am_tsw_d (by omega)) ?_
                      refine aw_iload_n (pc1 := 270) at_271_269 (am_lk1 (am_lk1 am_lk0 rfl rfl) rfl rfl) rfl ?_
                      refine aw_bipush (v := 14) (pc1 := 272) at_271_270 (by decide) rfl ?_
                      by_cases c75 : ¬ v4 = 14
                      · rw [if_pos c75] at hs6
                        refine aw_icne_t at_271_272 c75 ?_
                        exact rg_271_302 h11 o   hs6
                      · rw [if_neg c75] at hs6
                        refine aw_icne_f (pc1 := 275) at_271_272 c75 rfl ?_
                        refine aw_vload_n (pc1 := 276) at_271_275 (am_lk1 (am_lk1 (am_lk1 l0 rfl rfl) rfl rfl) rfl rfl) i0 rfl ?_
                        refine aw_iload (pc1 := 278) at_271_276 am_lk0 rfl ?_
                        refine aw_iconst (v := 1) (pc1 := 279) at_271_278 (by decide) rfl ?_
                        obtain ⟨z76, hs29⟩ := am_ift hs6
                        clear hs6
                        refine aw_call (F := fm_276 x0 v10 1 h11) (t := true) (na := 3) (kd := 1) (as := [x0, (.int v10), (.int 1)]) at_271_279 (am_k3v kb_276) mn_276 mk_276 rfl rfl (am_ok_v mi_276 (am_hl rfl (am_ccR i0 (am_ccI (am_ccI am_cats_0))) rfl) z76) (am_hc am_cats_0 rfl) (fun _ => ⟨rfl, hh_271⟩) (fun o1 hz9 => rm_276 x0 v10 1 h11 o1 i0 hz9) ?_
                        rcases am_cI_s hs29 with ⟨v77, h78, f79, hs30⟩ | hs30
                        · clear hs29
                          refine Or.inl ⟨_, _, f79, ?_⟩
                          show am_W X _ 271 282 _ [(.int v77)] h78 _
                          by_cases c80 : v77 = 0
                          · rw [if_pos c80] at hs30
                            refine aw_ifeq_t at_271_282 c80 ?_
                            exact rg_271_302 h78 o   hs30
                          · rw [if_neg c80] at hs30
                            refine aw_ifeq_f (pc1 := 285) at_271_282 c80 rfl ?_
                            refine aw_vload_n (pc1 := 286) at_271_285 (am_lk1 (am_lk1 (am_lk1 l0 rfl rfl) rfl rfl) rfl rfl) i0 rfl ?_
                            refine aw_iload (pc1 := 288) at_271_286 (am_lk1 am_lk0 rfl rfl) rfl ?_
                            obtain ⟨z81, hs31⟩ := am_ift hs30
                            clear hs30
                            refine aw_call (F := fm_278 N x0 ((x1 + 1)) h78) (t := true) (na := 2) (kd := 1) (as := [x0, (.int (x1 + 1))]) at_271_288 (am_k3v kb_278) mn_278 mk_278 rfl rfl (am_ok_v mi_278 (am_hl rfl (am_ccR i0 (am_ccI am_cats_0)) rfl) z81) (am_hc am_cats_0 rfl) (fun _ => ⟨rfl, hh_271⟩) (fun o1 hz9 => rm_278 x0 ((x1 + 1)) h78 o1 i0 hz9) ?_
                            rcases am_cI_s hs31 with ⟨v82, h83, f84, hs32⟩ | hs32
                            · clear hs31
                              refine Or.inl ⟨_, _, f84, ?_⟩
                              show am_W X _ 271 291 _ [(.int v82)] h83 _
                              by_cases c85 : v82 = 0
                              · rw [if_pos c85] at hs32
                                refine aw_ifeq_t at_271_291 c85 ?_
                                exact rg_271_302 h83 o   hs32
                              · rw [if_neg c85] at hs32
                                refine aw_ifeq_f (pc1 := 294) at_271_291 c85 rfl ?_
                                refine aw_vload_n (pc1 := 295) at_271_294 (am_lk1 (am_lk1 (am_lk1 l0 rfl rfl) rfl rfl) rfl rfl) i0 rfl ?_
                                refine aw_iconst (v := 0) (pc1 := 296) at_271_295 (by decide) rfl ?_
                                obtain ⟨z86, hs33⟩ := am_ift hs32
                                clear hs32
                                refine aw_call (F := fm_274 x0 0 h83) (t := true) (na := 2) (kd := 1) (as := [x0, (.int 0)]) at_271_296 (am_k3v kb_274) mn_274 mk_274 rfl rfl (am_ok_v mi_274 (am_hl rfl (am_ccR i0 (am_ccI am_cats_0)) rfl) z86) (am_hc am_cats_0 rfl) (fun _ => ⟨rfl, hh_271⟩) (fun o1 hz9 => rm_274 x0 0 h83 o1 i0 hz9) ?_
                                rcases am_cI_s hs33 with ⟨v87, h88, f89, hs34⟩ | hs34
                                · clear hs33
                                  refine Or.inl ⟨_, _, f89, ?_⟩
                                  show am_W X _ 271 299 _ [(.int v87)] h88 _
                                  refine aw_goto at_271_299 ?_
                                  exact rg_271_303 v87 h88 o   hs34
                                · clear hs33
                                  exact Or.inr hs34
                            · clear hs31
                              exact Or.inr hs32
                        · clear hs29
                          exact Or.inr hs30
    · clear hs5
      exact Or.inr hs6
  · clear hs2
    exact Or.inr hs3
def fm_271 (N : Nat) (y0 : Value) (y1 : Int32) (y2 : Int32) (h : am_H) : Option am_O := fg_271_0 N y0 y1 y2 h
theorem rm_271 {X : am_X} {d : Nat} {N : Nat} (y0 : Value) (y1 : Int32) (y2 : Int32) (h : am_H) (o : am_O) (i0 : am_isR y0 = true) (hs : fm_271 N y0 y1 y2 h = some o) : am_W X (d + 4) 271 0 (am_args 0 [y0, .int y1, .int y2]) [] h (fun q => q = o) := by
  rw [am_args_R i0, am_args_I, am_args_I]
  exact rg_271_0 y0 y1 y2 h o rfl rfl rfl i0 hs
def fg_282_166 (N : Nat) (x0 : Value) (x3 : Int32) (h : am_H) : Option am_O := ((am_vR (am_pG 1284 x0 h)).bind fun v1 => ((am_vR (am_pG 1285 x0 h)).bind fun v3 => ((am_vR (am_pG 1285 x0 h)).bind fun v5 => ((am_vI (am_pG 771 v5 h)).bind fun v7 => (if am_pOk 3 v1 h then am_cI true (fm_170 v1 v3 x3 v7 h) (fun v10 h11 => ((am_vR (am_pG 1285 x0 h11)).bind fun v13 => ((am_vR (am_pG 1284 x0 h11)).bind fun v15 => (if am_pOk 3 v13 h11 then am_cV true (fm_60 v13 v15 h11) (fun h19 => some (.inl (none, h19))) else none)))) else none)))))
theorem rg_282_166 {X : am_X} {d : Nat} {N : Nat} {lv : am_LV} (x0 : Value) (x3 : Int32) (h : am_H) (o : am_O) (l0 : lv.lookup 0 = some x0) (l3 : lv.lookup 3 = some (.int x3)) (i0 : am_isR x0 = true) (hs : fg_282_166 N x0 x3 h = some o) : am_W X (d + 2) 282 166 lv [] h (fun q => q = o) := by
  unfold fg_282_166 at hs
  refine aw_vload_n (pc1 := 167) at_282_166 l0 i0 rfl ?_
  obtain ⟨v1, e2, hs1⟩ := am_bind hs
  clear hs
  refine aw_pG (pc1 := 170) at_282_167 (am_vR_s e2).1 rfl ?_
  refine aw_vload_n (pc1 := 171) at_282_170 l0 i0 rfl ?_
  obtain ⟨v3, e4, hs2⟩ := am_bind hs1
  clear hs1
  refine aw_pG (pc1 := 174) at_282_171 (am_vR_s e4).1 rfl ?_
  refine aw_iload_n (pc1 := 175) at_282_174 l3 rfl ?_
  refine aw_vload_n (pc1 := 176) at_282_175 l0 i0 rfl ?_
  obtain ⟨v5, e6, hs3⟩ := am_bind hs2
  clear hs2
  refine aw_pG (pc1 := 179) at_282_176 (am_vR_s e6).1 rfl ?_
  obtain ⟨v7, e8, hs4⟩ := am_bind hs3
  clear hs3
  refine aw_pG (pc1 := 182) at_282_179 (am_vI_s e8) rfl ?_
  obtain ⟨z9, hs5⟩ := am_ift hs4
  clear hs4
  refine aw_call (F := fm_170 v1 v3 x3 v7 h) (t := true) (na := 4) (kd := 1) (as := [v1, v3, (.int x3), (.int v7)]) at_282_182 (am_k3v kb_170) mn_170 mk_170 rfl rfl (am_ok_v mi_170 (am_hl rfl (am_ccR (am_vR_s e2).2 (am_ccR (am_vR_s e4).2 (am_ccI (am_ccI am_cats_0)))) rfl) z9) (am_hc am_cats_0 rfl) (fun _ => ⟨rfl, hh_282⟩) (fun o1 hz9 => rm_170 v1 v3 x3 v7 h o1 (am_vR_s e2).2 (am_vR_s e4).2 hz9) ?_
  rcases am_cI_s hs5 with ⟨v10, h11, f12, hs6⟩ | hs6
  · clear hs5
    refine Or.inl ⟨_, _, f12, ?_⟩
    show am_W X _ 282 185 _ [(.int v10)] h11 _
    refine aw_popi (pc1 := 186) at_282_185 rfl ?_
    refine aw_vload_n (pc1 := 187) at_282_186 l0 i0 rfl ?_
    obtain ⟨v13, e14, hs7⟩ := am_bind hs6
    clear hs6
    refine aw_pG (pc1 := 190) at_282_187 (am_vR_s e14).1 rfl ?_
    refine aw_vload_n (pc1 := 191) at_282_190 l0 i0 rfl ?_
    obtain ⟨v15, e16, hs8⟩ := am_bind hs7
    clear hs7
    refine aw_pG (pc1 := 194) at_282_191 (am_vR_s e16).1 rfl ?_
    obtain ⟨z17, hs9⟩ := am_ift hs8
    clear hs8
    refine aw_call (F := fm_60 v13 v15 h11) (t := true) (na := 2) (kd := 1) (as := [v13, v15]) at_282_194 (am_k3v kb_60) mn_60 mk_60 rfl rfl (am_ok_v mi_60 (am_hl rfl (am_ccR (am_vR_s e14).2 (am_ccR (am_vR_s e16).2 am_cats_0)) rfl) z17) (am_hc am_cats_0 rfl) (fun _ => ⟨rfl, hh_282⟩) (fun o1 hz9 => rm_60 v13 v15 h11 o1 (am_vR_s e14).2 (am_vR_s e16).2 hz9) ?_
    rcases am_cV_s hs9 with ⟨h19, f20, hs10⟩ | hs10
    · clear hs9
      refine Or.inl ⟨_, _, f20, ?_⟩
      show am_W X _ 282 197 _ [] h19 _
      cases hs10
      exact aw_vret at_282_197 rt_282 rfl
    · clear hs9
      exact Or.inr hs10
  · clear hs5
    exact Or.inr hs6
def fg_282_0 (N : Nat) (x0 : Value) (x1 : Int32) (x2 : Int32) (h : am_H) : Option am_O := ((am_vR (am_pG 1283 x0 h)).bind fun v1 => (if am_pOk 7 v1 h then am_cI true (fm_100 v1 x1 h) (fun v4 h5 => ((am_vR (am_pG 1284 x0 h5)).bind fun v7 => (if am_pOk 3 v7 h5 then am_cV true (fm_34 v7 0 0 h5) (fun h11 => ((am_vR (am_pG 1284 x0 h11)).bind fun v13 => ((am_vR (am_pG 1285 x0 h11)).bind fun v15 => (if am_pOk 3 v13 h11 then am_cI true (fm_170 v13 v15 0 x1 h11) (fun v18 h19 => (if ¬ x2 = (-2) then (if ¬ x2 = (-3) then ((am_vR (am_pG 1284 x0 h19)).bind fun v23 => ((am_vR (am_pG 1285 x0 h19)).bind fun v25 => ((am_vR (am_pG 1283 x0 h19)).bind fun v27 => (if am_pOk 7 v27 h19 then am_cI true (fm_100 v27 x2 h19) (fun v30 h31 => (if am_pOk 3 v23 h31 then am_cI true (fm_170 v23 v25 x2 v30 h31) (fun v34 h35 => (fg_282_166 N x0 v4 h35)) else none)) else none)))) else ((am_vR (am_pG 1283 x0 h19)).bind fun v37 => (if am_pOk 7 v37 h19 then am_cI true (fm_100 v37 ((x1 + 1)) h19) (fun v40 h41 => ((am_vR (am_pG 1283 x0 h41)).bind fun v43 => (if am_pOk 7 v43 h41 then am_cI true (fm_100 v43 v40 h41) (fun v46 h47 => ((am_vR (am_pG 1284 x0 h47)).bind fun v49 => (if am_pOk 3 v49 h47 then am_cI true (fm_41 N v49 20 0 h47) (fun v52 h53 => ((am_vR (am_pG 1284 x0 h53)).bind fun v55 => ((am_vR (am_pG 1285 x0 h53)).bind fun v57 => (if am_pOk 3 v55 h53 then am_cI true (fm_170 v55 v57 ((x1 + 2)) v40 h53) (fun v60 h61 => ((am_vR (am_pG 1284 x0 h61)).bind fun v63 => ((am_vR (am_pG 1285 x0 h61)).bind fun v65 => (if am_pOk 3 v63 h61 then am_cI true (fm_170 v63 v65 v46 v4 h61) (fun v68 h69 => ((am_vR (am_pG 1284 x0 h69)).bind fun v71 => ((am_vR (am_pG 1285 x0 h69)).bind fun v73 => (if am_pOk 3 v71 h69 then am_cI true (fm_170 v71 v73 v40 v46 h69) (fun v76 h77 => (fg_282_166 N x0 v4 h77)) else none)))) else none)))) else none)))) else none))) else none))) else none))) else ((am_vR (am_pG 1284 x0 h19)).bind fun v79 => ((am_vI (am_pG 1286 x0 h19)).bind fun v81 => (if am_pOk 3 v79 h19 then am_cI true (fm_41 N v79 0 v81 h19) (fun v84 h85 => (fg_282_166 N x0 v4 h85)) else none))))) else none)))) else none))) else none))
theorem rg_282_0 {X : am_X} {d : Nat} {N : Nat} {lv : am_LV} (x0 : Value) (x1 : Int32) (x2 : Int32) (h : am_H) (o : am_O) (l0 : lv.lookup 0 = some x0) (l1 : lv.lookup 1 = some (.int x1)) (l2 : lv.lookup 2 = some (.int x2)) (i0 : am_isR x0 = true) (hs : fg_282_0 N x0 x1 x2 h = some o) : am_W X (d + 2) 282 0 lv [] h (fun q => q = o) := by
  unfold fg_282_0 at hs
  refine aw_vload_n (pc1 := 1) at_282_0 l0 i0 rfl ?_
  obtain ⟨v1, e2, hs1⟩ := am_bind hs
  clear hs
  refine aw_pG (pc1 := 4) at_282_1 (am_vR_s e2).1 rfl ?_
  refine aw_iload_n (pc1 := 5) at_282_4 l1 rfl ?_
  obtain ⟨z3, hs2⟩ := am_ift hs1
  clear hs1
  refine aw_call (F := fm_100 v1 x1 h) (t := true) (na := 2) (kd := 1) (as := [v1, (.int x1)]) at_282_5 (am_k3v kb_100) mn_100 mk_100 rfl rfl (am_ok_v mi_100 (am_hl rfl (am_ccR (am_vR_s e2).2 (am_ccI am_cats_0)) rfl) z3) (am_hc am_cats_0 rfl) (fun _ => ⟨rfl, hh_282⟩) (fun o1 hz9 => rm_100 v1 x1 h o1 (am_vR_s e2).2 hz9) ?_
  rcases am_cI_s hs2 with ⟨v4, h5, f6, hs3⟩ | hs3
  · clear hs2
    refine Or.inl ⟨_, _, f6, ?_⟩
    show am_W X _ 282 8 _ [(.int v4)] h5 _
    refine aw_istore_n (lv1 := am_put1 _ 3 _) (pc1 := 9) at_282_8 rfl rfl ?_
    refine aw_vload_n (pc1 := 10) at_282_9 (am_lk1 l0 rfl rfl) i0 rfl ?_
    obtain ⟨v7, e8, hs4⟩ := am_bind hs3
    clear hs3
    refine aw_pG (pc1 := 13) at_282_10 (am_vR_s e8).1 rfl ?_
    refine aw_iconst (v := 0) (pc1 := 14) at_282_13 (by decide) rfl ?_
    refine aw_iconst (v := 0) (pc1 := 15) at_282_14 (by decide) rfl ?_
    obtain ⟨z9, hs5⟩ := am_ift hs4
    clear hs4
    refine aw_call (F := fm_34 v7 0 0 h5) (t := true) (na := 3) (kd := 1) (as := [v7, (.int 0), (.int 0)]) at_282_15 (am_k3v kb_34) mn_34 mk_34 rfl rfl (am_ok_v mi_34 (am_hl rfl (am_ccR (am_vR_s e8).2 (am_ccI (am_ccI am_cats_0))) rfl) z9) (am_hc am_cats_0 rfl) (fun _ => ⟨rfl, hh_282⟩) (fun o1 hz9 => rm_34 v7 0 0 h5 o1 (am_vR_s e8).2 hz9) ?_
    rcases am_cV_s hs5 with ⟨h11, f12, hs6⟩ | hs6
    · clear hs5
      refine Or.inl ⟨_, _, f12, ?_⟩
      show am_W X _ 282 18 _ [] h11 _
      refine aw_vload_n (pc1 := 19) at_282_18 (am_lk1 l0 rfl rfl) i0 rfl ?_
      obtain ⟨v13, e14, hs7⟩ := am_bind hs6
      clear hs6
      refine aw_pG (pc1 := 22) at_282_19 (am_vR_s e14).1 rfl ?_
      refine aw_vload_n (pc1 := 23) at_282_22 (am_lk1 l0 rfl rfl) i0 rfl ?_
      obtain ⟨v15, e16, hs8⟩ := am_bind hs7
      clear hs7
      refine aw_pG (pc1 := 26) at_282_23 (am_vR_s e16).1 rfl ?_
      refine aw_iconst (v := 0) (pc1 := 27) at_282_26 (by decide) rfl ?_
      refine aw_iload_n (pc1 := 28) at_282_27 (am_lk1 l1 rfl rfl) rfl ?_
      obtain ⟨z17, hs9⟩ := am_ift hs8
      clear hs8
      refine aw_call (F := fm_170 v13 v15 0 x1 h11) (t := true) (na := 4) (kd := 1) (as := [v13, v15, (.int 0), (.int x1)]) at_282_28 (am_k3v kb_170) mn_170 mk_170 rfl rfl (am_ok_v mi_170 (am_hl rfl (am_ccR (am_vR_s e14).2 (am_ccR (am_vR_s e16).2 (am_ccI (am_ccI am_cats_0)))) rfl) z17) (am_hc am_cats_0 rfl) (fun _ => ⟨rfl, hh_282⟩) (fun o1 hz9 => rm_170 v13 v15 0 x1 h11 o1 (am_vR_s e14).2 (am_vR_s e16).2 hz9) ?_
      rcases am_cI_s hs9 with ⟨v18, h19, f20, hs10⟩ | hs10
      · clear hs9
        refine Or.inl ⟨_, _, f20, ?_⟩
        show am_W X _ 282 31 _ [(.int v18)] h19 _
        refine aw_popi (pc1 := 32) at_282_31 rfl ?_
        refine aw_iload_n (pc1 := 33) at_282_32 (am_lk1 l2 rfl rfl) rfl ?_
        refine aw_bipush (v := (-2)) (pc1 := 35) at_282_33 (by decide) rfl ?_
        by_cases c21 : ¬ x2 = (-2)
        · rw [if_pos c21] at hs10
          refine aw_icne_t at_282_35 c21 ?_
          refine aw_iload_n (pc1 := 55) at_282_54 (am_lk1 l2 rfl rfl) rfl ?_
          refine aw_bipush (v := (-3)) (pc1 := 57) at_282_55 (by decide) rfl ?_
          by_cases c22 : ¬ x2 = (-3)
          · rw [if_pos c22] at hs10
            refine aw_icne_t at_282_57 c22 ?_
            refine aw_vload_n (pc1 := 146) at_282_145 (am_lk1 l0 rfl rfl) i0 rfl ?_
            obtain ⟨v23, e24, hs11⟩ := am_bind hs10
            clear hs10
            refine aw_pG (pc1 := 149) at_282_146 (am_vR_s e24).1 rfl ?_
            refine aw_vload_n (pc1 := 150) at_282_149 (am_lk1 l0 rfl rfl) i0 rfl ?_
            obtain ⟨v25, e26, hs12⟩ := am_bind hs11
            clear hs11
            refine aw_pG (pc1 := 153) at_282_150 (am_vR_s e26).1 rfl ?_
            refine aw_iload_n (pc1 := 154) at_282_153 (am_lk1 l2 rfl rfl) rfl ?_
            refine aw_vload_n (pc1 := 155) at_282_154 (am_lk1 l0 rfl rfl) i0 rfl ?_
            obtain ⟨v27, e28, hs13⟩ := am_bind hs12
            clear hs12
            refine aw_pG (pc1 := 158) at_282_155 (am_vR_s e28).1 rfl ?_
            refine aw_iload_n (pc1 := 159) at_282_158 (am_lk1 l2 rfl rfl) rfl ?_
            obtain ⟨z29, hs14⟩ := am_ift hs13
            clear hs13
            refine aw_call (F := fm_100 v27 x2 h19) (t := true) (na := 2) (kd := 1) (as := [v27, (.int x2)]) at_282_159 (am_k3v kb_100) mn_100 mk_100 rfl rfl (am_ok_v mi_100 (am_hl rfl (am_ccR (am_vR_s e28).2 (am_ccI am_cats_0)) rfl) z29) (am_hc (am_ccI (am_ccR (am_vR_s e26).2 (am_ccR (am_vR_s e24).2 am_cats_0))) rfl) (fun _ => ⟨rfl, hh_282⟩) (fun o1 hz9 => rm_100 v27 x2 h19 o1 (am_vR_s e28).2 hz9) ?_
            rcases am_cI_s hs14 with ⟨v30, h31, f32, hs15⟩ | hs15
            · clear hs14
              refine Or.inl ⟨_, _, f32, ?_⟩
              show am_W X _ 282 162 _ [(.int v30), (.int x2), v25, v23] h31 _
              obtain ⟨z33, hs16⟩ := am_ift hs15
              clear hs15
              refine aw_call (F := fm_170 v23 v25 x2 v30 h31) (t := true) (na := 4) (kd := 1) (as := [v23, v25, (.int x2), (.int v30)]) at_282_162 (am_k3v kb_170) mn_170 mk_170 rfl rfl (am_ok_v mi_170 (am_hl rfl (am_ccR (am_vR_s e24).2 (am_ccR (am_vR_s e26).2 (am_ccI (am_ccI am_cats_0)))) rfl) z33) (am_hc am_cats_0 rfl) (fun _ => ⟨rfl, hh_282⟩) (fun o1 hz9 => rm_170 v23 v25 x2 v30 h31 o1 (am_vR_s e24).2 (am_vR_s e26).2 hz9) ?_
              rcases am_cI_s hs16 with ⟨v34, h35, f36, hs17⟩ | hs17
              · clear hs16
                refine Or.inl ⟨_, _, f36, ?_⟩
                show am_W X _ 282 165 _ [(.int v34)] h35 _
                refine aw_popi (pc1 := 166) at_282_165 rfl ?_
                exact rg_282_166 x0 v4 h35 o (am_lk1 l0 rfl rfl) am_lk0 i0 hs17
              · clear hs16
                exact Or.inr hs17
            · clear hs14
              exact Or.inr hs15
          · rw [if_neg c22] at hs10
            refine aw_icne_f (pc1 := 60) at_282_57 c22 rfl ?_
            refine aw_vload_n (pc1 := 61) at_282_60 (am_lk1 l0 rfl rfl) i0 rfl ?_
            obtain ⟨v37, e38, hs18⟩ := am_bind hs10
            clear hs10
            refine aw_pG (pc1 := 64) at_282_61 (am_vR_s e38).1 rfl ?_
            refine aw_iload_n (pc1 := 65) at_282_64 (am_lk1 l1 rfl rfl) rfl ?_
            refine aw_iconst (v := 1) (pc1 := 66) at_282_65 (by decide) rfl ?_
            refine aw_iadd (v := (x1 + 1)) (pc1 := 67) at_282_66 rfl rfl ?_
            obtain ⟨z39, hs19⟩ := am_ift hs18
            clear hs18
            refine aw_call (F := fm_100 v37 ((x1 + 1)) h19) (t := true) (na := 2) (kd := 1) (as := [v37, (.int (x1 + 1))]) at_282_67 (am_k3v kb_100) mn_100 mk_100 rfl rfl (am_ok_v mi_100 (am_hl rfl (am_ccR (am_vR_s e38).2 (am_ccI am_cats_0)) rfl) z39) (am_hc am_cats_0 rfl) (fun _ => ⟨rfl, hh_282⟩) (fun o1 hz9 => rm_100 v37 ((x1 + 1)) h19 o1 (am_vR_s e38).2 hz9) ?_
            rcases am_cI_s hs19 with ⟨v40, h41, f42, hs20⟩ | hs20
            · clear hs19
              refine Or.inl ⟨_, _, f42, ?_⟩
              show am_W X _ 282 70 _ [(.int v40)] h41 _
              refine aw_istore (lv1 := am_put1 _ 4 _) (pc1 := 72) at_282_70 rfl rfl ?_
              refine aw_vload_n (pc1 := 73) at_282_72 (am_lk1 (am_lk1 l0 rfl rfl) rfl rfl) i0 rfl ?_
              obtain ⟨v43, e44, hs21⟩ := am_bind hs20
              clear hs20
              refine aw_pG (pc1 := 76) at_282_73 (am_vR_s e44).1 rfl ?_
              refine aw_iload (pc1 := 78) at_282_76 am_lk0 rfl ?_
              obtain ⟨z45, hs22⟩ := am_ift hs21
              clear hs21
              refine aw_call (F := fm_100 v43 v40 h41) (t := true) (na := 2) (kd := 1) (as := [v43, (.int v40)]) at_282_78 (am_k3v kb_100) mn_100 mk_100 rfl rfl (am_ok_v mi_100 (am_hl rfl (am_ccR (am_vR_s e44).2 (am_ccI am_cats_0)) rfl) z45) (am_hc am_cats_0 rfl) (fun _ => ⟨rfl, hh_282⟩) (fun o1 hz9 => rm_100 v43 v40 h41 o1 (am_vR_s e44).2 hz9) ?_
              rcases am_cI_s hs22 with ⟨v46, h47, f48, hs23⟩ | hs23
              · clear hs22
                refine Or.inl ⟨_, _, f48, ?_⟩
                show am_W X _ 282 81 _ [(.int v46)] h47 _
                refine aw_istore (lv1 := am_put1 _ 5 _) (pc1 := 83) at_282_81 rfl rfl ?_
                refine aw_vload_n (pc1 := 84) at_282_83 (am_lk1 (am_lk1 (am_lk1 l0 rfl rfl) rfl rfl) rfl rfl) i0 rfl ?_
                obtain ⟨v49, e50, hs24⟩ := am_bind hs23
                clear hs23
                refine aw_pG (pc1 := 87) at_282_84 (am_vR_s e50).1 rfl ?_
                refine aw_bipush (v := 20) (pc1 := 89) at_282_87 (by decide) rfl ?_
                refine aw_iconst (v := 0) (pc1 := 90) at_282_89 (by decide) rfl ?_
                obtain ⟨z51, hs25⟩ := am_ift hs24
                clear hs24
                refine aw_call (F := fm_41 N v49 20 0 h47) (t := true) (na := 3) (kd := 1) (as := [v49, (.int 20), (.int 0)]) at_282_90 (am_k3v kb_41) mn_41 mk_41 rfl rfl (am_ok_v mi_41 (am_hl rfl (am_ccR (am_vR_s e50).2 (am_ccI (am_ccI am_cats_0))) rfl) z51) (am_hc am_cats_0 rfl) (fun _ => ⟨rfl, hh_282⟩) (fun o1 hz9 => rm_41 v49 20 0 h47 o1 (am_vR_s e50).2 hz9) ?_
                rcases am_cI_s hs25 with ⟨v52, h53, f54, hs26⟩ | hs26
                · clear hs25
                  refine Or.inl ⟨_, _, f54, ?_⟩
                  show am_W X _ 282 93 _ [(.int v52)] h53 _
                  refine aw_popi (pc1 := 94) at_282_93 rfl ?_
                  refine aw_vload_n (pc1 := 95) at_282_94 (am_lk1 (am_lk1 (am_lk1 l0 rfl rfl) rfl rfl) rfl rfl) i0 rfl ?_
                  obtain ⟨v55, e56, hs27⟩ := am_bind hs26
                  clear hs26
                  refine aw_pG (pc1 := 98) at_282_95 (am_vR_s e56).1 rfl ?_
                  refine aw_vload_n (pc1 := 99) at_282_98 (am_lk1 (am_lk1 (am_lk1 l0 rfl rfl) rfl rfl) rfl rfl) i0 rfl ?_
                  obtain ⟨v57, e58, hs28⟩ := am_bind hs27
                  clear hs27
                  refine aw_pG (pc1 := 102) at_282_99 (am_vR_s e58).1 rfl ?_
                  refine aw_iload_n (pc1 := 103) at_282_102 (am_lk1 (am_lk1 (am_lk1 l1 rfl rfl) rfl rfl) rfl rfl) rfl ?_
                  refine aw_iconst (v := 2) (pc1 := 104) at_282_103 (by decide) rfl ?_
                  refine aw_iadd (v := (x1 + 2)) (pc1 := 105) at_282_104 rfl rfl ?_
                  refine aw_iload (pc1 := 107) at_282_105 (am_lk1 am_lk0 rfl rfl) rfl ?_
                  obtain ⟨z59, hs29⟩ := am_ift hs28
                  clear hs28
                  refine aw_call (F := fm_170 v55 v57 ((x1 + 2)) v40 h53) (t := true) (na := 4) (kd := 1) (as := [v55, v57, (.int (x1 + 2)), (.int v40)]) at_282_107 (am_k3v kb_170) mn_170 mk_170 rfl rfl (am_ok_v mi_170 (am_hl rfl (am_ccR (am_vR_s e56).2 (am_ccR (am_vR_s e58).2 (am_ccI (am_ccI am_cats_0)))) rfl) z59) (am_hc am_cats_0 rfl) (fun _ => ⟨rfl, hh_282⟩) (fun o1 hz9 => rm_170 v55 v57 ((x1 + 2)) v40 h53 o1 (am_vR_s e56).2 (am_vR_s e58).2 hz9) ?_
                  rcases am_cI_s hs29 with ⟨v60, h61, f62, hs30⟩ | hs30
                  · clear hs29
                    refine Or.inl ⟨_, _, f62, ?_⟩
                    show am_W X _ 282 110 _ [(.int v60)] h61 _
                    refine aw_popi (pc1 := 111) at_282_110 rfl ?_
                    refine aw_vload_n (pc1 := 112) at_282_111 (am_lk1 (am_lk1 (am_lk1 l0 rfl rfl) rfl rfl) rfl rfl) i0 rfl ?_
                    obtain ⟨v63, e64, hs31⟩ := am_bind hs30
                    clear hs30
                    refine aw_pG (pc1 := 115) at_282_112 (am_vR_s e64).1 rfl ?_
                    refine aw_vload_n (pc1 := 116) at_282_115 (am_lk1 (am_lk1 (am_lk1 l0 rfl rfl) rfl rfl) rfl rfl) i0 rfl ?_
                    obtain ⟨v65, e66, hs32⟩ := am_bind hs31
                    clear hs31
                    refine aw_pG (pc1 := 119) at_282_116 (am_vR_s e66).1 rfl ?_
                    refine aw_iload (pc1 := 121) at_282_119 am_lk0 rfl ?_
                    refine aw_iload_n (pc1 := 122) at_282_121 (am_lk1 (am_lk1 am_lk0 rfl rfl) rfl rfl) rfl ?_
                    obtain ⟨z67, hs33⟩ := am_ift hs32
                    clear hs32
                    refine aw_call (F := fm_170 v63 v65 v46 v4 h61) (t := true) (na := 4) (kd := 1) (as := [v63, v65, (.int v46), (.int v4)]) at_282_122 (am_k3v kb_170) mn_170 mk_170 rfl rfl (am_ok_v mi_170 (am_hl rfl (am_ccR (am_vR_s e64).2 (am_ccR (am_vR_s e66).2 (am_ccI (am_ccI am_cats_0)))) rfl) z67) (am_hc am_cats_0 rfl) (fun _ => ⟨rfl, hh_282⟩) (fun o1 hz9 => rm_170 v63 v65 v46 v4 h61 o1 (am_vR_s e64).2 (am_vR_s e66).2 hz9) ?_
                    rcases am_cI_s hs33 with ⟨v68, h69, f70, hs34⟩ | hs34
                    · clear hs33
                      refine Or.inl ⟨_, _, f70, ?_⟩
                      show am_W X _ 282 125 _ [(.int v68)] h69 _
                      refine aw_popi (pc1 := 126) at_282_125 rfl ?_
                      refine aw_vload_n (pc1 := 127) at_282_126 (am_lk1 (am_lk1 (am_lk1 l0 rfl rfl) rfl rfl) rfl rfl) i0 rfl ?_
                      obtain ⟨v71, e72, hs35⟩ := am_bind hs34
                      clear hs34
                      refine aw_pG (pc1 := 130) at_282_127 (am_vR_s e72).1 rfl ?_
                      refine aw_vload_n (pc1 := 131) at_282_130 (am_lk1 (am_lk1 (am_lk1 l0 rfl rfl) rfl rfl) rfl rfl) i0 rfl ?_
                      obtain ⟨v73, e74, hs36⟩ := am_bind hs35
                      clear hs35
                      refine aw_pG (pc1 := 134) at_282_131 (am_vR_s e74).1 rfl ?_
                      refine aw_iload (pc1 := 136) at_282_134 (am_lk1 am_lk0 rfl rfl) rfl ?_
                      refine aw_iload (pc1 := 138) at_282_136 am_lk0 rfl ?_
                      obtain ⟨z75, hs37⟩ := am_ift hs36
                      clear hs36
                      refine aw_call (F := fm_170 v71 v73 v40 v46 h69) (t := true) (na := 4) (kd := 1) (as := [v71, v73, (.int v40), (.int v46)]) at_282_138 (am_k3v kb_170) mn_170 mk_170 rfl rfl (am_ok_v mi_170 (am_hl rfl (am_ccR (am_vR_s e72).2 (am_ccR (am_vR_s e74).2 (am_ccI (am_ccI am_cats_0)))) rfl) z75) (am_hc am_cats_0 rfl) (fun _ => ⟨rfl, hh_282⟩) (fun o1 hz9 => rm_170 v71 v73 v40 v46 h69 o1 (am_vR_s e72).2 (am_vR_s e74).2 hz9) ?_
                      rcases am_cI_s hs37 with ⟨v76, h77, f78, hs38⟩ | hs38
                      · clear hs37
                        refine Or.inl ⟨_, _, f78, ?_⟩
                        show am_W X _ 282 141 _ [(.int v76)] h77 _
                        refine aw_popi (pc1 := 142) at_282_141 rfl ?_
                        refine aw_goto at_282_142 ?_
                        exact rg_282_166 x0 v4 h77 o (am_lk1 (am_lk1 (am_lk1 l0 rfl rfl) rfl rfl) rfl rfl) (am_lk1 (am_lk1 am_lk0 rfl rfl) rfl rfl) i0 hs38
                      · clear hs37
                        exact Or.inr hs38
                    · clear hs33
                      exact Or.inr hs34
                  · clear hs29
                    exact Or.inr hs30
                · clear hs25
                  exact Or.inr hs26
              · clear hs22
                exact Or.inr hs23
            · clear hs19
              exact Or.inr hs20
        · rw [if_neg c21] at hs10
          refine aw_icne_f (pc1 := 38) at_282_35 c21 rfl ?_
          refine aw_vload_n (pc1 := 39) at_282_38 (am_lk1 l0 rfl rfl) i0 rfl ?_
          obtain ⟨v79, e80, hs39⟩ := am_bind hs10
          clear hs10
          refine aw_pG (pc1 := 42) at_282_39 (am_vR_s e80).1 rfl ?_
          refine aw_iconst (v := 0) (pc1 := 43) at_282_42 (by decide) rfl ?_
          refine aw_vload_n (pc1 := 44) at_282_43 (am_lk1 l0 rfl rfl) i0 rfl ?_
          obtain ⟨v81, e82, hs40⟩ := am_bind hs39
          clear hs39
          refine aw_pG (pc1 := 47) at_282_44 (am_vI_s e82) rfl ?_
          obtain ⟨z83, hs41⟩ := am_ift hs40
          clear hs40
          refine aw_call (F := fm_41 N v79 0 v81 h19) (t := true) (na := 3) (kd := 1) (as := [v79, (.int 0), (.int v81)]) at_282_47 (am_k3v kb_41) mn_41 mk_41 rfl rfl (am_ok_v mi_41 (am_hl rfl (am_ccR (am_vR_s e80).2 (am_ccI (am_ccI am_cats_0))) rfl) z83) (am_hc am_cats_0 rfl) (fun _ => ⟨rfl, hh_282⟩) (fun o1 hz9 => rm_41 v79 0 v81 h19 o1 (am_vR_s e80).2 hz9) ?_
          rcases am_cI_s hs41 with ⟨v84, h85, f86, hs42⟩ | hs42
          · clear hs41
            refine Or.inl ⟨_, _, f86, ?_⟩
            show am_W X _ 282 50 _ [(.int v84)] h85 _
            refine aw_popi (pc1 := 51) at_282_50 rfl ?_
            refine aw_goto at_282_51 ?_
            exact rg_282_166 x0 v4 h85 o (am_lk1 l0 rfl rfl) am_lk0 i0 hs42
          · clear hs41
            exact Or.inr hs42
      · clear hs9
        exact Or.inr hs10
    · clear hs5
      exact Or.inr hs6
  · clear hs2
    exact Or.inr hs3
def fm_282 (N : Nat) (y0 : Value) (y1 : Int32) (y2 : Int32) (h : am_H) : Option am_O := fg_282_0 N y0 y1 y2 h
theorem rm_282 {X : am_X} {d : Nat} {N : Nat} (y0 : Value) (y1 : Int32) (y2 : Int32) (h : am_H) (o : am_O) (i0 : am_isR y0 = true) (hs : fm_282 N y0 y1 y2 h = some o) : am_W X (d + 2) 282 0 (am_args 0 [y0, .int y1, .int y2]) [] h (fun q => q = o) := by
  rw [am_args_R i0, am_args_I, am_args_I]
  exact rg_282_0 y0 y1 y2 h o rfl rfl rfl i0 hs
def fg_270_103 (N : Nat) (h : am_H) : Option am_O := some (.inl (some (.int 1), h))
theorem rg_270_103 {X : am_X} {d : Nat} {N : Nat} {lv : am_LV} (h : am_H) (o : am_O) (hs : fg_270_103 N h = some o) : am_W X (d + 5) 270 103 lv [] h (fun q => q = o) := by
  unfold fg_270_103 at hs
  refine aw_iconst (v := 1) (pc1 := 104) at_270_103 (by decide) rfl ?_
  cases hs
  exact aw_iret at_270_104 (by rw [rt_270]; decide) rfl
def fg_270_27 (N : Nat) (rec_20 : Value → Int32 → Int32 → am_H → Option am_O) : Nat → Value → Int32 → Int32 → Int32 → am_H → Option am_O
  | 0 => fun _ _ _ _ _ => none
  | K + 1 => fun x0 x2 x3 x4 h => (if 9 ≤ x4 then (rec_20 x0 x2 ((x3 + (-1))) h) else (if am_pOk 5 x0 h then am_cI true (fm_271 N x0 x3 x4 h) (fun v3 h4 => (if v3 = (-1) then (fg_270_27 N rec_20 K x0 x2 x3 ((x4 + 1)) h4) else (if am_pOk 5 x0 h4 then am_cV true (fm_282 N x0 x3 v3 h4) (fun h9 => (if x2 = 0 then (fg_270_103 N h9) else ((am_vI (am_pG 1282 x0 h9)).bind fun v12 => ((am_vR (am_pG 1280 x0 h9)).bind fun v14 => ((am_pLen v14 h9).bind fun v16 => (if v16 ≤ v12 then (fg_270_103 N h9) else ((am_vR (am_pG 1280 x0 h9)).bind fun v19 => ((am_vI (am_pG 1282 x0 h9)).bind fun v21 => ((am_pS 0 v19 v21 x3 h9).bind fun h23 => ((am_vR (am_pG 1281 x0 h23)).bind fun v25 => ((am_vI (am_pG 1282 x0 h23)).bind fun v27 => ((am_pS 0 v25 v27 x4 h23).bind fun h29 => ((am_vI (am_pG 1282 x0 h29)).bind fun v31 => ((am_pP 1282 x0 (.int (v31 + 1)) h29).bind fun h33 => (fg_270_103 N h33))))))))))))))) else none))) else none))
theorem rg_270_27 {X : am_X} {d : Nat} {N : Nat} {rec_20 : Value → Int32 → Int32 → am_H → Option am_O} (q_20 : ∀ (x0 : Value) (x2 : Int32) (x3 : Int32) (h : am_H) (o : am_O), rec_20 x0 x2 x3 h = some o → ∀ lv : am_LV, (lv.lookup 0 = some x0) → (lv.lookup 2 = some (.int x2)) → (lv.lookup 3 = some (.int x3)) → (am_isR x0 = true) → am_W X (d + 5) 270 20 lv [] h (fun q => q = o)) : ∀ (K : Nat) (x0 : Value) (x2 : Int32) (x3 : Int32) (x4 : Int32) (h : am_H) (o : am_O), fg_270_27 N rec_20 K x0 x2 x3 x4 h = some o → ∀ lv : am_LV, (lv.lookup 0 = some x0) → (lv.lookup 2 = some (.int x2)) → (lv.lookup 3 = some (.int x3)) → (lv.lookup 4 = some (.int x4)) → (am_isR x0 = true) → am_W X (d + 5) 270 27 lv [] h (fun q => q = o) := by
  intro K
  induction K with
  | zero => intro x0 x2 x3 x4 h o hs; cases hs
  | succ K ih =>
    intro x0 x2 x3 x4 h o hs lv l0 l2 l3 l4 i0
    unfold fg_270_27 at hs
    refine aw_iload (pc1 := 29) at_270_27 l4 rfl ?_
    refine aw_bipush (v := 9) (pc1 := 31) at_270_29 (by decide) rfl ?_
    by_cases c1 : 9 ≤ x4
    · rw [if_pos c1] at hs
      refine aw_icge_t at_270_31 c1 ?_
      refine aw_iinc (v := (x3 + (-1))) (c := (-1)) (lv1 := am_put1 _ 3 _) (pc1 := 114) at_270_111 l3 (by decide) rfl rfl rfl ?_
      refine aw_goto at_270_114 ?_
      exact q_20 x0 x2 ((x3 + (-1))) h o hs _ (am_lk1 l0 rfl rfl) (am_lk1 l2 rfl rfl) am_lk0 i0
    · rw [if_neg c1] at hs
      refine aw_icge_f (pc1 := 34) at_270_31 c1 rfl ?_
      refine aw_vload_n (pc1 := 35) at_270_34 l0 i0 rfl ?_
      refine aw_iload_n (pc1 := 36) at_270_35 l3 rfl ?_
      refine aw_iload (pc1 := 38) at_270_36 l4 rfl ?_
      obtain ⟨z2, hs1⟩ := am_ift hs
      clear hs
      refine aw_call (F := fm_271 N x0 x3 x4 h) (t := true) (na := 3) (kd := 1) (as := [x0, (.int x3), (.int x4)]) at_270_38 (am_k3v kb_271) mn_271 mk_271 rfl rfl (am_ok_v mi_271 (am_hl rfl (am_ccR i0 (am_ccI (am_ccI am_cats_0))) rfl) z2) (am_hc am_cats_0 rfl) (fun _ => ⟨rfl, hh_270⟩) (fun o1 hz9 => rm_271 x0 x3 x4 h o1 i0 hz9) ?_
      rcases am_cI_s hs1 with ⟨v3, h4, f5, hs2⟩ | hs2
      · clear hs1
        refine Or.inl ⟨_, _, f5, ?_⟩
        show am_W X _ 270 41 _ [(.int v3)] h4 _
        refine aw_istore (lv1 := am_put1 _ 5 _) (pc1 := 43) at_270_41 rfl rfl ?_
        refine aw_iload (pc1 := 45) at_270_43 am_lk0 rfl ?_
        refine aw_iconst (v := (-1)) (pc1 := 46) at_270_45 (by decide) rfl ?_
        by_cases c6 : v3 = (-1)
        · rw [if_pos c6] at hs2
          refine aw_iceq_t at_270_46 c6 ?_
          refine aw_iinc (v := (x4 + 1)) (c := 1) (lv1 := am_put1 _ 4 _) (pc1 := 108) at_270_105 (am_lk1 l4 rfl rfl) (by decide) rfl rfl rfl ?_
          refine aw_goto at_270_108 ?_
          exact ih x0 x2 x3 ((x4 + 1)) h4 o hs2 _ (am_lk1 (am_lk1 l0 rfl rfl) rfl rfl) (am_lk1 (am_lk1 l2 rfl rfl) rfl rfl) (am_lk1 (am_lk1 l3 rfl rfl) rfl rfl) am_lk0 i0
        · rw [if_neg c6] at hs2
          refine aw_iceq_f (pc1 := 49) at_270_46 c6 rfl ?_
          refine aw_vload_n (pc1 := 50) at_270_49 (am_lk1 l0 rfl rfl) i0 rfl ?_
          refine aw_iload_n (pc1 := 51) at_270_50 (am_lk1 l3 rfl rfl) rfl ?_
          refine aw_iload (pc1 := 53) at_270_51 am_lk0 rfl ?_
          obtain ⟨z7, hs3⟩ := am_ift hs2
          clear hs2
          refine aw_call (F := fm_282 N x0 x3 v3 h4) (t := true) (na := 3) (kd := 1) (as := [x0, (.int x3), (.int v3)]) at_270_53 (am_k3v kb_282) mn_282 mk_282 rfl rfl (am_ok_v mi_282 (am_hl rfl (am_ccR i0 (am_ccI (am_ccI am_cats_0))) rfl) z7) (am_hc am_cats_0 rfl) (fun _ => ⟨rfl, hh_270⟩) (fun o1 hz9 => rm_282 x0 x3 v3 h4 o1 i0 hz9) ?_
          rcases am_cV_s hs3 with ⟨h9, f10, hs4⟩ | hs4
          · clear hs3
            refine Or.inl ⟨_, _, f10, ?_⟩
            show am_W X _ 270 56 _ [] h9 _
            refine aw_iload_n (pc1 := 57) at_270_56 (am_lk1 l2 rfl rfl) rfl ?_
            by_cases c11 : x2 = 0
            · rw [if_pos c11] at hs4
              refine aw_ifeq_t at_270_57 c11 ?_
              exact rg_270_103 h9 o   hs4
            · rw [if_neg c11] at hs4
              refine aw_ifeq_f (pc1 := 60) at_270_57 c11 rfl ?_
              refine aw_vload_n (pc1 := 61) at_270_60 (am_lk1 l0 rfl rfl) i0 rfl ?_
              obtain ⟨v12, e13, hs5⟩ := am_bind hs4
              clear hs4
              refine aw_pG (pc1 := 64) at_270_61 (am_vI_s e13) rfl ?_
              refine aw_vload_n (pc1 := 65) at_270_64 (am_lk1 l0 rfl rfl) i0 rfl ?_
              obtain ⟨v14, e15, hs6⟩ := am_bind hs5
              clear hs5
              refine aw_pG (pc1 := 68) at_270_65 (am_vR_s e15).1 rfl ?_
              obtain ⟨v16, e17, hs7⟩ := am_bind hs6
              clear hs6
              refine aw_pLen (pc1 := 69) at_270_68 e17 rfl ?_
              by_cases c18 : v16 ≤ v12
              · rw [if_pos c18] at hs7
                refine aw_icge_t at_270_69 c18 ?_
                exact rg_270_103 h9 o   hs7
              · rw [if_neg c18] at hs7
                refine aw_icge_f (pc1 := 72) at_270_69 c18 rfl ?_
                refine aw_vload_n (pc1 := 73) at_270_72 (am_lk1 l0 rfl rfl) i0 rfl ?_
                obtain ⟨v19, e20, hs8⟩ := am_bind hs7
                clear hs7
                refine aw_pG (pc1 := 76) at_270_73 (am_vR_s e20).1 rfl ?_
                refine aw_vload_n (pc1 := 77) at_270_76 (am_lk1 l0 rfl rfl) i0 rfl ?_
                obtain ⟨v21, e22, hs9⟩ := am_bind hs8
                clear hs8
                refine aw_pG (pc1 := 80) at_270_77 (am_vI_s e22) rfl ?_
                refine aw_iload_n (pc1 := 81) at_270_80 (am_lk1 l3 rfl rfl) rfl ?_
                obtain ⟨h23, e24, hs10⟩ := am_bind hs9
                clear hs9
                refine aw_pS (pc1 := 82) at_270_81 (Or.inl ⟨rfl, rfl⟩) e24 rfl ?_
                refine aw_vload_n (pc1 := 83) at_270_82 (am_lk1 l0 rfl rfl) i0 rfl ?_
                obtain ⟨v25, e26, hs11⟩ := am_bind hs10
                clear hs10
                refine aw_pG (pc1 := 86) at_270_83 (am_vR_s e26).1 rfl ?_
                refine aw_vload_n (pc1 := 87) at_270_86 (am_lk1 l0 rfl rfl) i0 rfl ?_
                obtain ⟨v27, e28, hs12⟩ := am_bind hs11
                clear hs11
                refine aw_pG (pc1 := 90) at_270_87 (am_vI_s e28) rfl ?_
                refine aw_iload (pc1 := 92) at_270_90 (am_lk1 l4 rfl rfl) rfl ?_
                obtain ⟨h29, e30, hs13⟩ := am_bind hs12
                clear hs12
                refine aw_pS (pc1 := 93) at_270_92 (Or.inl ⟨rfl, rfl⟩) e30 rfl ?_
                refine aw_vload_n (pc1 := 94) at_270_93 (am_lk1 l0 rfl rfl) i0 rfl ?_
                refine aw_vdup (pc1 := 95) at_270_94 i0 rfl ?_
                obtain ⟨v31, e32, hs14⟩ := am_bind hs13
                clear hs13
                refine aw_pG (pc1 := 98) at_270_95 (am_vI_s e32) rfl ?_
                refine aw_iconst (v := 1) (pc1 := 99) at_270_98 (by decide) rfl ?_
                refine aw_iadd (v := (v31 + 1)) (pc1 := 100) at_270_99 rfl rfl ?_
                obtain ⟨h33, e34, hs15⟩ := am_bind hs14
                clear hs14
                refine aw_pP (pc1 := 103) at_270_100 e34 rfl ?_
                exact rg_270_103 h33 o   hs15
          · clear hs3
            exact Or.inr hs4
      · clear hs1
        exact Or.inr hs2
def fg_270_20 (N : Nat) : Nat → Value → Int32 → Int32 → am_H → Option am_O
  | 0 => fun _ _ _ _ => none
  | K + 1 => fun x0 x2 x3 h => (if x3 < 0 then some (.inl (some (.int 0), h)) else (fg_270_27 N (fg_270_20 N K) N x0 x2 x3 0 h))
theorem rg_270_20 {X : am_X} {d : Nat} {N : Nat} : ∀ (K : Nat) (x0 : Value) (x2 : Int32) (x3 : Int32) (h : am_H) (o : am_O), fg_270_20 N K x0 x2 x3 h = some o → ∀ lv : am_LV, (lv.lookup 0 = some x0) → (lv.lookup 2 = some (.int x2)) → (lv.lookup 3 = some (.int x3)) → (am_isR x0 = true) → am_W X (d + 5) 270 20 lv [] h (fun q => q = o) := by
  intro K
  induction K with
  | zero => intro x0 x2 x3 h o hs; cases hs
  | succ K ih =>
    intro x0 x2 x3 h o hs lv l0 l2 l3 i0
    unfold fg_270_20 at hs
    refine aw_iload_n (pc1 := 21) at_270_20 l3 rfl ?_
    by_cases c1 : x3 < 0
    · rw [if_pos c1] at hs
      refine aw_iflt_t at_270_21 c1 ?_
      refine aw_iconst (v := 0) (pc1 := 118) at_270_117 (by decide) rfl ?_
      cases hs
      exact aw_iret at_270_118 (by rw [rt_270]; decide) rfl
    · rw [if_neg c1] at hs
      refine aw_iflt_f (pc1 := 24) at_270_21 c1 rfl ?_
      refine aw_iconst (v := 0) (pc1 := 25) at_270_24 (by decide) rfl ?_
      refine aw_istore (lv1 := am_put1 _ 4 _) (pc1 := 27) at_270_25 rfl rfl ?_
      exact rg_270_27 (fun z0 z1 z2 h o hs => ih z0 z1 z2 h o hs) N x0 x2 x3 0 h o hs _ (am_lk1 l0 rfl rfl) (am_lk1 l2 rfl rfl) (am_lk1 l3 rfl rfl) am_lk0 i0
def fg_270_0 (N : Nat) (x0 : Value) (x1 : Value) (x2 : Int32) (h : am_H) : Option am_O := ((am_pP 1285 x0 x1 h).bind fun h1 => ((am_vR (am_pG 1283 x0 h1)).bind fun v3 => (if am_pOk 7 v3 h1 then am_cV true (fm_77 N v3 x1 h1) (fun h7 => ((am_vI (am_pG 771 x1 h7)).bind fun v9 => (fg_270_20 N N x0 x2 ((v9 - 1)) h7))) else none)))
theorem rg_270_0 {X : am_X} {d : Nat} {N : Nat} {lv : am_LV} (x0 : Value) (x1 : Value) (x2 : Int32) (h : am_H) (o : am_O) (l0 : lv.lookup 0 = some x0) (l1 : lv.lookup 1 = some x1) (l2 : lv.lookup 2 = some (.int x2)) (i0 : am_isR x0 = true) (i1 : am_isR x1 = true) (hs : fg_270_0 N x0 x1 x2 h = some o) : am_W X (d + 5) 270 0 lv [] h (fun q => q = o) := by
  unfold fg_270_0 at hs
  refine aw_vload_n (pc1 := 1) at_270_0 l0 i0 rfl ?_
  refine aw_vload_n (pc1 := 2) at_270_1 l1 i1 rfl ?_
  obtain ⟨h1, e2, hs1⟩ := am_bind hs
  clear hs
  refine aw_pP (pc1 := 5) at_270_2 e2 rfl ?_
  refine aw_vload_n (pc1 := 6) at_270_5 l0 i0 rfl ?_
  obtain ⟨v3, e4, hs2⟩ := am_bind hs1
  clear hs1
  refine aw_pG (pc1 := 9) at_270_6 (am_vR_s e4).1 rfl ?_
  refine aw_vload_n (pc1 := 10) at_270_9 l1 i1 rfl ?_
  obtain ⟨z5, hs3⟩ := am_ift hs2
  clear hs2
  refine aw_call (F := fm_77 N v3 x1 h1) (t := true) (na := 2) (kd := 1) (as := [v3, x1]) at_270_10 (am_k3v kb_77) mn_77 mk_77 rfl rfl (am_ok_v mi_77 (am_hl rfl (am_ccR (am_vR_s e4).2 (am_ccR i1 am_cats_0)) rfl) z5) (am_hc am_cats_0 rfl) (fun _ => ⟨rfl, hh_270⟩) (fun o1 hz9 => rm_77 v3 x1 h1 o1 (am_vR_s e4).2 i1 hz9) ?_
  rcases am_cV_s hs3 with ⟨h7, f8, hs4⟩ | hs4
  · clear hs3
    refine Or.inl ⟨_, _, f8, ?_⟩
    show am_W X _ 270 13 _ [] h7 _
    refine aw_vload_n (pc1 := 14) at_270_13 l1 i1 rfl ?_
    obtain ⟨v9, e10, hs5⟩ := am_bind hs4
    clear hs4
    refine aw_pG (pc1 := 17) at_270_14 (am_vI_s e10) rfl ?_
    refine aw_iconst (v := 1) (pc1 := 18) at_270_17 (by decide) rfl ?_
    refine aw_isub (v := (v9 - 1)) (pc1 := 19) at_270_18 rfl rfl ?_
    refine aw_istore_n (lv1 := am_put1 _ 3 _) (pc1 := 20) at_270_19 rfl rfl ?_
    exact rg_270_20 N x0 x2 ((v9 - 1)) h7 o hs5 _ (am_lk1 l0 rfl rfl) (am_lk1 l2 rfl rfl) am_lk0 i0
  · clear hs3
    exact Or.inr hs4
def fm_270 (N : Nat) (y0 : Value) (y1 : Value) (y2 : Int32) (h : am_H) : Option am_O := fg_270_0 N y0 y1 y2 h
theorem rm_270 {X : am_X} {d : Nat} {N : Nat} (y0 : Value) (y1 : Value) (y2 : Int32) (h : am_H) (o : am_O) (i0 : am_isR y0 = true) (i1 : am_isR y1 = true) (hs : fm_270 N y0 y1 y2 h = some o) : am_W X (d + 5) 270 0 (am_args 0 [y0, y1, .int y2]) [] h (fun q => q = o) := by
  rw [am_args_R i0, am_args_R i1, am_args_I]
  exact rg_270_0 y0 y1 y2 h o rfl rfl rfl i0 i1 hs
def fg_269_38 (N : Nat) (h : am_H) : Option am_O := some (.inl (none, h))
theorem rg_269_38 {X : am_X} {d : Nat} {N : Nat} {lv : am_LV} (h : am_H) (o : am_O) (hs : fg_269_38 N h = some o) : am_W X (d + 6) 269 38 lv [] h (fun q => q = o) := by
  unfold fg_269_38 at hs
  cases hs
  exact aw_vret at_269_38 rt_269 rfl
def fg_269_14 (N : Nat) : Nat → Value → Value → Int32 → Int32 → Int32 → am_H → Option am_O
  | 0 => fun _ _ _ _ _ _ => none
  | K + 1 => fun x0 x1 x2 x3 x4 h => (if x3 = 0 then (fg_269_38 N h) else (if 60 ≤ x4 then (fg_269_38 N h) else (if am_pOk 5 x0 h then am_cI true (fm_270 N x0 x1 x2 h) (fun v4 h5 => (fg_269_14 N K x0 x1 x2 v4 ((x4 + 1)) h5)) else none)))
theorem rg_269_14 {X : am_X} {d : Nat} {N : Nat} : ∀ (K : Nat) (x0 : Value) (x1 : Value) (x2 : Int32) (x3 : Int32) (x4 : Int32) (h : am_H) (o : am_O), fg_269_14 N K x0 x1 x2 x3 x4 h = some o → ∀ lv : am_LV, (lv.lookup 0 = some x0) → (lv.lookup 1 = some x1) → (lv.lookup 2 = some (.int x2)) → (lv.lookup 3 = some (.int x3)) → (lv.lookup 4 = some (.int x4)) → (am_isR x0 = true) → (am_isR x1 = true) → am_W X (d + 6) 269 14 lv [] h (fun q => q = o) := by
  intro K
  induction K with
  | zero => intro x0 x1 x2 x3 x4 h o hs; cases hs
  | succ K ih =>
    intro x0 x1 x2 x3 x4 h o hs lv l0 l1 l2 l3 l4 i0 i1
    unfold fg_269_14 at hs
    refine aw_iload_n (pc1 := 15) at_269_14 l3 rfl ?_
    by_cases c1 : x3 = 0
    · rw [if_pos c1] at hs
      refine aw_ifeq_t at_269_15 c1 ?_
      exact rg_269_38 h o   hs
    · rw [if_neg c1] at hs
      refine aw_ifeq_f (pc1 := 18) at_269_15 c1 rfl ?_
      refine aw_iload (pc1 := 20) at_269_18 l4 rfl ?_
      refine aw_bipush (v := 60) (pc1 := 22) at_269_20 (by decide) rfl ?_
      by_cases c2 : 60 ≤ x4
      · rw [if_pos c2] at hs
        refine aw_icge_t at_269_22 c2 ?_
        exact rg_269_38 h o   hs
      · rw [if_neg c2] at hs
        refine aw_icge_f (pc1 := 25) at_269_22 c2 rfl ?_
        refine aw_vload_n (pc1 := 26) at_269_25 l0 i0 rfl ?_
        refine aw_vload_n (pc1 := 27) at_269_26 l1 i1 rfl ?_
        refine aw_iload_n (pc1 := 28) at_269_27 l2 rfl ?_
        obtain ⟨z3, hs1⟩ := am_ift hs
        clear hs
        refine aw_call (F := fm_270 N x0 x1 x2 h) (t := true) (na := 3) (kd := 1) (as := [x0, x1, (.int x2)]) at_269_28 (am_k3v kb_270) mn_270 mk_270 rfl rfl (am_ok_v mi_270 (am_hl rfl (am_ccR i0 (am_ccR i1 (am_ccI am_cats_0))) rfl) z3) (am_hc am_cats_0 rfl) (fun _ => ⟨rfl, hh_269⟩) (fun o1 hz9 => rm_270 x0 x1 x2 h o1 i0 i1 hz9) ?_
        rcases am_cI_s hs1 with ⟨v4, h5, f6, hs2⟩ | hs2
        · clear hs1
          refine Or.inl ⟨_, _, f6, ?_⟩
          show am_W X _ 269 31 _ [(.int v4)] h5 _
          refine aw_istore_n (lv1 := am_put1 _ 3 _) (pc1 := 32) at_269_31 rfl rfl ?_
          refine aw_iinc (v := (x4 + 1)) (c := 1) (lv1 := am_put1 _ 4 _) (pc1 := 35) at_269_32 (am_lk1 l4 rfl rfl) (by decide) rfl rfl rfl ?_
          refine aw_goto at_269_35 ?_
          exact ih x0 x1 x2 v4 ((x4 + 1)) h5 o hs2 _ (am_lk1 (am_lk1 l0 rfl rfl) rfl rfl) (am_lk1 (am_lk1 l1 rfl rfl) rfl rfl) (am_lk1 (am_lk1 l2 rfl rfl) rfl rfl) (am_lk1 am_lk0 rfl rfl) am_lk0 i0 i1
        · clear hs1
          exact Or.inr hs2
def fg_269_9 (N : Nat) (x0 : Value) (x1 : Value) (x2 : Int32) (h : am_H) : Option am_O := (fg_269_14 N N x0 x1 x2 1 0 h)
theorem rg_269_9 {X : am_X} {d : Nat} {N : Nat} {lv : am_LV} (x0 : Value) (x1 : Value) (x2 : Int32) (h : am_H) (o : am_O) (l0 : lv.lookup 0 = some x0) (l1 : lv.lookup 1 = some x1) (l2 : lv.lookup 2 = some (.int x2)) (i0 : am_isR x0 = true) (i1 : am_isR x1 = true) (hs : fg_269_9 N x0 x1 x2 h = some o) : am_W X (d + 6) 269 9 lv [] h (fun q => q = o) := by
  unfold fg_269_9 at hs
  refine aw_iconst (v := 1) (pc1 := 10) at_269_9 (by decide) rfl ?_
  refine aw_istore_n (lv1 := am_put1 _ 3 _) (pc1 := 11) at_269_10 rfl rfl ?_
  refine aw_iconst (v := 0) (pc1 := 12) at_269_11 (by decide) rfl ?_
  refine aw_istore (lv1 := am_put1 _ 4 _) (pc1 := 14) at_269_12 rfl rfl ?_
  exact rg_269_14 N x0 x1 x2 1 0 h o hs _ (am_lk1 (am_lk1 l0 rfl rfl) rfl rfl) (am_lk1 (am_lk1 l1 rfl rfl) rfl rfl) (am_lk1 (am_lk1 l2 rfl rfl) rfl rfl) (am_lk1 am_lk0 rfl rfl) am_lk0 i0 i1
def fg_269_0 (N : Nat) (x0 : Value) (x1 : Value) (x2 : Int32) (h : am_H) : Option am_O := (if x2 = 0 then (fg_269_9 N x0 x1 x2 h) else ((am_pP 1282 x0 (.int 0) h).bind fun h2 => (fg_269_9 N x0 x1 x2 h2)))
theorem rg_269_0 {X : am_X} {d : Nat} {N : Nat} {lv : am_LV} (x0 : Value) (x1 : Value) (x2 : Int32) (h : am_H) (o : am_O) (l0 : lv.lookup 0 = some x0) (l1 : lv.lookup 1 = some x1) (l2 : lv.lookup 2 = some (.int x2)) (i0 : am_isR x0 = true) (i1 : am_isR x1 = true) (hs : fg_269_0 N x0 x1 x2 h = some o) : am_W X (d + 6) 269 0 lv [] h (fun q => q = o) := by
  unfold fg_269_0 at hs
  refine aw_iload_n (pc1 := 1) at_269_0 l2 rfl ?_
  by_cases c1 : x2 = 0
  · rw [if_pos c1] at hs
    refine aw_ifeq_t at_269_1 c1 ?_
    exact rg_269_9 x0 x1 x2 h o l0 l1 l2 i0 i1 hs
  · rw [if_neg c1] at hs
    refine aw_ifeq_f (pc1 := 4) at_269_1 c1 rfl ?_
    refine aw_vload_n (pc1 := 5) at_269_4 l0 i0 rfl ?_
    refine aw_iconst (v := 0) (pc1 := 6) at_269_5 (by decide) rfl ?_
    obtain ⟨h2, e3, hs1⟩ := am_bind hs
    clear hs
    refine aw_pP (pc1 := 9) at_269_6 e3 rfl ?_
    exact rg_269_9 x0 x1 x2 h2 o l0 l1 l2 i0 i1 hs1
def fm_269 (N : Nat) (y0 : Value) (y1 : Value) (y2 : Int32) (h : am_H) : Option am_O := fg_269_0 N y0 y1 y2 h
theorem rm_269 {X : am_X} {d : Nat} {N : Nat} (y0 : Value) (y1 : Value) (y2 : Int32) (h : am_H) (o : am_O) (i0 : am_isR y0 = true) (i1 : am_isR y1 = true) (hs : fm_269 N y0 y1 y2 h = some o) : am_W X (d + 6) 269 0 (am_args 0 [y0, y1, .int y2]) [] h (fun q => q = o) := by
  rw [am_args_R i0, am_args_R i1, am_args_I]
  exact rg_269_0 y0 y1 y2 h o rfl rfl rfl i0 i1 hs
def fg_268_0 (N : Nat) (x0 : Value) (x1 : Int32) (h : am_H) : Option am_O := (if am_pOk 11 x0 h then am_cR true (fm_63 x0 x1 h) (fun v2 h3 => ((am_vI (am_pG 769 v2 h3)).bind fun v5 => (if v5 = 0 then (if am_pOk 11 x0 h3 then am_cV true (fm_32 x0 1 h3) (fun h10 => ((am_vR (am_pG 2831 x0 h10)).bind fun v12 => (if am_pOk 3 v12 h10 then am_cV true (fm_60 v12 v2 h10) (fun h16 => ((am_vR (am_pG 2824 x0 h16)).bind fun v18 => ((am_vR (am_pG 2831 x0 h16)).bind fun v20 => (if am_pOk 5 v18 h16 then am_cV true (fm_269 N v18 v20 1 h16) (fun h24 => ((am_vR (am_pG 2831 x0 h24)).bind fun v26 => (if am_pOk 11 x0 h24 then am_cI true (fm_59 x0 v26 5 x1 ((-1)) ((-1)) ((-1)) 0 h24) (fun v29 h30 => some (.inl (some (.int v29), h30))) else none))) else none)))) else none))) else none) else some (.inr (0, h3 ++ [am_dummy]))))) else none)
theorem rg_268_0 {X : am_X} {d : Nat} {N : Nat} {lv : am_LV} (x0 : Value) (x1 : Int32) (h : am_H) (o : am_O) (l0 : lv.lookup 0 = some x0) (l1 : lv.lookup 1 = some (.int x1)) (i0 : am_isR x0 = true) (hs : fg_268_0 N x0 x1 h = some o) : am_W X (d + 7) 268 0 lv [] h (fun q => q = o) := by
  unfold fg_268_0 at hs
  refine aw_vload_n (pc1 := 1) at_268_0 l0 i0 rfl ?_
  refine aw_iload_n (pc1 := 2) at_268_1 l1 rfl ?_
  obtain ⟨z1, hs1⟩ := am_ift hs
  clear hs
  refine aw_call (F := fm_63 x0 x1 h) (t := true) (na := 2) (kd := 1) (as := [x0, (.int x1)]) at_268_2 (am_k3v kb_63) mn_63 mk_63 rfl rfl (am_ok_v mi_63 (am_hl rfl (am_ccR i0 (am_ccI am_cats_0)) rfl) z1) (am_hc am_cats_0 rfl) (fun _ => ⟨rfl, hh_268⟩) (fun o1 hz9 => rm_63 x0 x1 h o1 i0 hz9) ?_
  rcases am_cR_s hs1 with ⟨v2, h3, f4, iv2, hs2⟩ | hs2
  · clear hs1
    refine Or.inl ⟨_, _, f4, ?_⟩
    show am_W X _ 268 5 _ [v2] h3 _
    refine aw_vstore_n (lv1 := am_put1 _ 2 _) (pc1 := 6) at_268_5 iv2 rfl rfl ?_
    refine aw_vload_n (pc1 := 7) at_268_6 am_lk0 iv2 rfl ?_
    obtain ⟨v5, e6, hs3⟩ := am_bind hs2
    clear hs2
    refine aw_pG (pc1 := 10) at_268_7 (am_vI_s e6) rfl ?_
    by_cases c7 : v5 = 0
    · rw [if_pos c7] at hs3
      refine aw_ifeq_t at_268_10 c7 ?_
      refine aw_vload_n (pc1 := 25) at_268_24 (am_lk1 l0 rfl rfl) i0 rfl ?_
      refine aw_iconst (v := 1) (pc1 := 26) at_268_25 (by decide) rfl ?_
      obtain ⟨z8, hs4⟩ := am_ift hs3
      clear hs3
      refine aw_call (F := fm_32 x0 1 h3) (t := true) (na := 2) (kd := 1) (as := [x0, (.int 1)]) at_268_26 (am_k3v kb_32) mn_32 mk_32 rfl rfl (am_ok_v mi_32 (am_hl rfl (am_ccR i0 (am_ccI am_cats_0)) rfl) z8) (am_hc am_cats_0 rfl) (fun _ => ⟨rfl, hh_268⟩) (fun o1 hz9 => rm_32 x0 1 h3 o1 i0 hz9) ?_
      rcases am_cV_s hs4 with ⟨h10, f11, hs5⟩ | hs5
      · clear hs4
        refine Or.inl ⟨_, _, f11, ?_⟩
        show am_W X _ 268 29 _ [] h10 _
        refine aw_vload_n (pc1 := 30) at_268_29 (am_lk1 l0 rfl rfl) i0 rfl ?_
        obtain ⟨v12, e13, hs6⟩ := am_bind hs5
        clear hs5
        refine aw_pG (pc1 := 33) at_268_30 (am_vR_s e13).1 rfl ?_
        refine aw_vload_n (pc1 := 34) at_268_33 am_lk0 iv2 rfl ?_
        obtain ⟨z14, hs7⟩ := am_ift hs6
        clear hs6
        refine aw_call (F := fm_60 v12 v2 h10) (t := true) (na := 2) (kd := 1) (as := [v12, v2]) at_268_34 (am_k3v kb_60) mn_60 mk_60 rfl rfl (am_ok_v mi_60 (am_hl rfl (am_ccR (am_vR_s e13).2 (am_ccR iv2 am_cats_0)) rfl) z14) (am_hc am_cats_0 rfl) (fun _ => ⟨rfl, hh_268⟩) (fun o1 hz9 => rm_60 v12 v2 h10 o1 (am_vR_s e13).2 iv2 hz9) ?_
        rcases am_cV_s hs7 with ⟨h16, f17, hs8⟩ | hs8
        · clear hs7
          refine Or.inl ⟨_, _, f17, ?_⟩
          show am_W X _ 268 37 _ [] h16 _
          refine aw_vload_n (pc1 := 38) at_268_37 (am_lk1 l0 rfl rfl) i0 rfl ?_
          obtain ⟨v18, e19, hs9⟩ := am_bind hs8
          clear hs8
          refine aw_pG (pc1 := 41) at_268_38 (am_vR_s e19).1 rfl ?_
          refine aw_vload_n (pc1 := 42) at_268_41 (am_lk1 l0 rfl rfl) i0 rfl ?_
          obtain ⟨v20, e21, hs10⟩ := am_bind hs9
          clear hs9
          refine aw_pG (pc1 := 45) at_268_42 (am_vR_s e21).1 rfl ?_
          refine aw_iconst (v := 1) (pc1 := 46) at_268_45 (by decide) rfl ?_
          obtain ⟨z22, hs11⟩ := am_ift hs10
          clear hs10
          refine aw_call (F := fm_269 N v18 v20 1 h16) (t := true) (na := 3) (kd := 1) (as := [v18, v20, (.int 1)]) at_268_46 (am_k3v kb_269) mn_269 mk_269 rfl rfl (am_ok_v mi_269 (am_hl rfl (am_ccR (am_vR_s e19).2 (am_ccR (am_vR_s e21).2 (am_ccI am_cats_0))) rfl) z22) (am_hc am_cats_0 rfl) (fun _ => ⟨rfl, hh_268⟩) (fun o1 hz9 => rm_269 v18 v20 1 h16 o1 (am_vR_s e19).2 (am_vR_s e21).2 hz9) ?_
          rcases am_cV_s hs11 with ⟨h24, f25, hs12⟩ | hs12
          · clear hs11
            refine Or.inl ⟨_, _, f25, ?_⟩
            show am_W X _ 268 49 _ [] h24 _
            refine aw_vload_n (pc1 := 50) at_268_49 (am_lk1 l0 rfl rfl) i0 rfl ?_
            refine aw_vload_n (pc1 := 51) at_268_50 (am_lk1 l0 rfl rfl) i0 rfl ?_
            obtain ⟨v26, e27, hs13⟩ := am_bind hs12
            clear hs12
            refine aw_pG (pc1 := 54) at_268_51 (am_vR_s e27).1 rfl ?_
            refine aw_iconst (v := 5) (pc1 := 55) at_268_54 (by decide) rfl ?_
            refine aw_iload_n (pc1 := 56) at_268_55 (am_lk1 l1 rfl rfl) rfl ?_
            refine aw_iconst (v := (-1)) (pc1 := 57) at_268_56 (by decide) rfl ?_
            refine aw_iconst (v := (-1)) (pc1 := 58) at_268_57 (by decide) rfl ?_
            refine aw_iconst (v := (-1)) (pc1 := 59) at_268_58 (by decide) rfl ?_
            refine aw_lconst (v := 0) (pc1 := 60) at_268_59 (by decide) rfl ?_
            obtain ⟨z28, hs14⟩ := am_ift hs13
            clear hs13
            refine aw_call (F := fm_59 x0 v26 5 x1 ((-1)) ((-1)) ((-1)) 0 h24) (t := true) (na := 8) (kd := 1) (as := [x0, v26, (.int 5), (.int x1), (.int (-1)), (.int (-1)), (.int (-1)), (.long 0)]) at_268_60 (am_k3v kb_59) mn_59 mk_59 rfl rfl (am_ok_v mi_59 (am_hl rfl (am_ccR i0 (am_ccR (am_vR_s e27).2 (am_ccI (am_ccI (am_ccI (am_ccI (am_ccI (am_ccL am_cats_0)))))))) rfl) z28) (am_hc am_cats_0 rfl) (fun _ => ⟨rfl, hh_268⟩) (fun o1 hz9 => rm_59 x0 v26 5 x1 ((-1)) ((-1)) ((-1)) 0 h24 o1 i0 (am_vR_s e27).2 hz9) ?_
            rcases am_cI_s hs14 with ⟨v29, h30, f31, hs15⟩ | hs15
            · clear hs14
              refine Or.inl ⟨_, _, f31, ?_⟩
              show am_W X _ 268 63 _ [(.int v29)] h30 _
              cases hs15
              exact aw_iret at_268_63 (by rw [rt_268]; rfl) rfl
            · clear hs14
              exact Or.inr hs15
          · clear hs11
            exact Or.inr hs12
        · clear hs7
          exact Or.inr hs8
      · clear hs4
        exact Or.inr hs5
    · rw [if_neg c7] at hs3
      refine aw_ifeq_f (pc1 := 13) at_268_10 c7 rfl ?_
      cases hs3
      exact aw_throw at_268_13 rfl th_268_13 (am_hc am_cats_0 rfl) rfl
  · clear hs1
    exact Or.inr hs2
def fm_268 (N : Nat) (y0 : Value) (y1 : Int32) (h : am_H) : Option am_O := fg_268_0 N y0 y1 h
theorem rm_268 {X : am_X} {d : Nat} {N : Nat} (y0 : Value) (y1 : Int32) (h : am_H) (o : am_O) (i0 : am_isR y0 = true) (hs : fm_268 N y0 y1 h = some o) : am_W X (d + 7) 268 0 (am_args 0 [y0, .int y1]) [] h (fun q => q = o) := by
  rw [am_args_R i0, am_args_I]
  exact rg_268_0 y0 y1 h o rfl rfl i0 hs
def fg_267_19 (N : Nat) (h : am_H) : Option am_O := some (.inl (some (.int 3), h))
theorem rg_267_19 {X : am_X} {d : Nat} {N : Nat} {lv : am_LV} (h : am_H) (o : am_O) (hs : fg_267_19 N h = some o) : am_W X (d + 8) 267 19 lv [] h (fun q => q = o) := by
  unfold fg_267_19 at hs
  refine aw_iconst (v := 3) (pc1 := 20) at_267_19 (by decide) rfl ?_
  cases hs
  exact aw_iret at_267_20 (by rw [rt_267]; rfl) rfl
def fg_267_16 (N : Nat) (h : am_H) : Option am_O := some (.inl (some (.int 2), h))
theorem rg_267_16 {X : am_X} {d : Nat} {N : Nat} {lv : am_LV} (h : am_H) (o : am_O) (hs : fg_267_16 N h = some o) : am_W X (d + 8) 267 16 lv [] h (fun q => q = o) := by
  unfold fg_267_16 at hs
  refine aw_iconst (v := 2) (pc1 := 17) at_267_16 (by decide) rfl ?_
  cases hs
  exact aw_iret at_267_17 (by rw [rt_267]; rfl) rfl
def fg_267_13 (N : Nat) (h : am_H) : Option am_O := some (.inl (some (.int 1), h))
theorem rg_267_13 {X : am_X} {d : Nat} {N : Nat} {lv : am_LV} (h : am_H) (o : am_O) (hs : fg_267_13 N h = some o) : am_W X (d + 8) 267 13 lv [] h (fun q => q = o) := by
  unfold fg_267_13 at hs
  refine aw_iconst (v := 1) (pc1 := 14) at_267_13 (by decide) rfl ?_
  cases hs
  exact aw_iret at_267_14 (by rw [rt_267]; rfl) rfl
def fg_267_0 (N : Nat) (x0 : Value) (x1 : Int32) (x2 : Value) (h : am_H) : Option am_O := (if am_pOk 11 x0 h then (match fm_268 N x0 x1 h with | some (.inl (some (.int v2), h3)) => ((am_pSL x2 0 (Int32.toInt64 v2) h3).bind fun h5 => some (.inl (some (.int 0), h5))) | some (.inr (0, h7)) => (fg_267_16 N h7) | some (.inr (1, h9)) => (fg_267_19 N h9) | some (.inr (2, h11)) => (fg_267_13 N h11) | _ => none) else none)
theorem rg_267_0 {X : am_X} {d : Nat} {N : Nat} {lv : am_LV} (x0 : Value) (x1 : Int32) (x2 : Value) (h : am_H) (o : am_O) (l0 : lv.lookup 0 = some x0) (l1 : lv.lookup 1 = some (.int x1)) (l2 : lv.lookup 2 = some x2) (i0 : am_isR x0 = true) (i2 : am_isR x2 = true) (hs : fg_267_0 N x0 x1 x2 h = some o) : am_W X (d + 8) 267 0 lv [] h (fun q => q = o) := by
  unfold fg_267_0 at hs
  refine aw_vload_n (pc1 := 1) at_267_0 l2 i2 rfl ?_
  refine aw_iconst (v := 0) (pc1 := 2) at_267_1 (by decide) rfl ?_
  refine aw_vload_n (pc1 := 3) at_267_2 l0 i0 rfl ?_
  refine aw_iload_n (pc1 := 4) at_267_3 l1 rfl ?_
  obtain ⟨z1, hs1⟩ := am_ift hs
  clear hs
  refine aw_callH (F := fm_268 N x0 x1 h) (na := 2) (kd := 1) (as := [x0, (.int x1)]) at_267_4 (am_k3v kb_268) mn_268 mk_268 rfl rfl (am_ok_v mi_268 (am_hl rfl (am_ccR i0 (am_ccI am_cats_0)) rfl) z1) (am_hc (am_ccI (am_ccR i2 am_cats_0)) rfl) (fun o1 hz9 => rm_268 x0 x1 h o1 i0 hz9) ?_
  split at hs1
  · rename_i v2 h3 f4
    refine Or.inl ⟨_, _, f4, ?_⟩
    show am_W X _ 267 7 _ [(.int v2), (.int 0), x2] h3 _
    refine aw_i2l (v := (Int32.toInt64 v2)) (pc1 := 8) at_267_7 rfl rfl ?_
    obtain ⟨h5, e6, hs2⟩ := am_bind hs1
    clear hs1
    refine aw_pSL (pc1 := 9) at_267_8 e6 rfl ?_
    refine aw_goto at_267_9 ?_
    refine aw_iconst (v := 0) (pc1 := 22) at_267_21 (by decide) rfl ?_
    cases hs2
    exact aw_iret at_267_22 (by rw [rt_267]; rfl) rfl
  · rename_i h7 f8
    refine Or.inr ⟨_, _, 16, 3, f8, rfl, hn_267, hd_267_4_0, ?_⟩
    exact rg_267_16 h7 o   hs1
  · rename_i h9 f10
    refine Or.inr ⟨_, _, 19, 3, f10, rfl, hn_267, hd_267_4_1, ?_⟩
    exact rg_267_19 h9 o   hs1
  · rename_i h11 f12
    refine Or.inr ⟨_, _, 13, 3, f12, rfl, hn_267, hd_267_4_2, ?_⟩
    exact rg_267_13 h11 o   hs1
  · cases hs1
def fm_267 (N : Nat) (y0 : Value) (y1 : Int32) (y2 : Value) (h : am_H) : Option am_O := fg_267_0 N y0 y1 y2 h
theorem rm_267 {X : am_X} {d : Nat} {N : Nat} (y0 : Value) (y1 : Int32) (y2 : Value) (h : am_H) (o : am_O) (i0 : am_isR y0 = true) (i2 : am_isR y2 = true) (hs : fm_267 N y0 y1 y2 h = some o) : am_W X (d + 8) 267 0 (am_args 0 [y0, .int y1, y2]) [] h (fun q => q = o) := by
  rw [am_args_R i0, am_args_I, am_args_R i2]
  exact rg_267_0 y0 y1 y2 h o rfl rfl rfl i0 i2 hs
def fg_540_0 (N : Nat) (x0 : Value) (x1 : Int32) (x2 : Int32) (h : am_H) : Option am_O := (if am_pOk 12 x0 h then am_cV true (fm_451 x0 h) (fun h3 => (if am_pOk 12 x0 h3 then am_cV true (fm_443 N x0 0 x1 h3) (fun h7 => (if am_pOk 12 x0 h7 then am_cV true (fm_335 x0 0 x2 h7) (fun h11 => ((am_vR (am_pG 3098 x0 h11)).bind fun v13 => ((am_pA 0 v13 x1 h11).bind fun v15 => ((am_vI (am_pG 3090 x0 h11)).bind fun v17 => (if am_pOk 12 x0 h11 then am_cV true (fm_443 N x0 ((x1 + v15)) v17 h11) (fun h21 => some (.inl (some (.int 1), h21))) else none))))) else none)) else none)) else none)
theorem rg_540_0 {X : am_X} {d : Nat} {N : Nat} {lv : am_LV} (x0 : Value) (x1 : Int32) (x2 : Int32) (h : am_H) (o : am_O) (l0 : lv.lookup 0 = some x0) (l1 : lv.lookup 1 = some (.int x1)) (l2 : lv.lookup 2 = some (.int x2)) (i0 : am_isR x0 = true) (hs : fg_540_0 N x0 x1 x2 h = some o) : am_W X (d + 2) 540 0 lv [] h (fun q => q = o) := by
  unfold fg_540_0 at hs
  refine aw_vload_n (pc1 := 1) at_540_0 l0 i0 rfl ?_
  obtain ⟨z1, hs1⟩ := am_ift hs
  clear hs
  refine aw_call (F := fm_451 x0 h) (t := true) (na := 1) (kd := 1) (as := [x0]) at_540_1 (am_k3v kb_451) mn_451 mk_451 rfl rfl (am_ok_v mi_451 (am_hl rfl (am_ccR i0 am_cats_0) rfl) z1) (am_hc am_cats_0 rfl) (fun _ => ⟨rfl, hh_540⟩) (fun o1 hz9 => rm_451 x0 h o1 i0 hz9) ?_
  rcases am_cV_s hs1 with ⟨h3, f4, hs2⟩ | hs2
  · clear hs1
    refine Or.inl ⟨_, _, f4, ?_⟩
    show am_W X _ 540 4 _ [] h3 _
    refine aw_vload_n (pc1 := 5) at_540_4 l0 i0 rfl ?_
    refine aw_iconst (v := 0) (pc1 := 6) at_540_5 (by decide) rfl ?_
    refine aw_iload_n (pc1 := 7) at_540_6 l1 rfl ?_
    obtain ⟨z5, hs3⟩ := am_ift hs2
    clear hs2
    refine aw_call (F := fm_443 N x0 0 x1 h3) (t := true) (na := 3) (kd := 1) (as := [x0, (.int 0), (.int x1)]) at_540_7 (am_k3v kb_443) mn_443 mk_443 rfl rfl (am_ok_v mi_443 (am_hl rfl (am_ccR i0 (am_ccI (am_ccI am_cats_0))) rfl) z5) (am_hc am_cats_0 rfl) (fun _ => ⟨rfl, hh_540⟩) (fun o1 hz9 => rm_443 x0 0 x1 h3 o1 i0 hz9) ?_
    rcases am_cV_s hs3 with ⟨h7, f8, hs4⟩ | hs4
    · clear hs3
      refine Or.inl ⟨_, _, f8, ?_⟩
      show am_W X _ 540 10 _ [] h7 _
      refine aw_vload_n (pc1 := 11) at_540_10 l0 i0 rfl ?_
      refine aw_iconst (v := 0) (pc1 := 12) at_540_11 (by decide) rfl ?_
      refine aw_iload_n (pc1 := 13) at_540_12 l2 rfl ?_
      obtain ⟨z9, hs5⟩ := am_ift hs4
      clear hs4
      refine aw_call (F := fm_335 x0 0 x2 h7) (t := true) (na := 3) (kd := 1) (as := [x0, (.int 0), (.int x2)]) at_540_13 (am_k3v kb_335) mn_335 mk_335 rfl rfl (am_ok_v mi_335 (am_hl rfl (am_ccR i0 (am_ccI (am_ccI am_cats_0))) rfl) z9) (am_hc am_cats_0 rfl) (fun _ => ⟨rfl, hh_540⟩) (fun o1 hz9 => rm_335 x0 0 x2 h7 o1 i0 hz9) ?_
      rcases am_cV_s hs5 with ⟨h11, f12, hs6⟩ | hs6
      · clear hs5
        refine Or.inl ⟨_, _, f12, ?_⟩
        show am_W X _ 540 16 _ [] h11 _
        refine aw_vload_n (pc1 := 17) at_540_16 l0 i0 rfl ?_
        refine aw_iload_n (pc1 := 18) at_540_17 l1 rfl ?_
        refine aw_vload_n (pc1 := 19) at_540_18 l0 i0 rfl ?_
        obtain ⟨v13, e14, hs7⟩ := am_bind hs6
        clear hs6
        refine aw_pG (pc1 := 22) at_540_19 (am_vR_s e14).1 rfl ?_
        refine aw_iload_n (pc1 := 23) at_540_22 l1 rfl ?_
        obtain ⟨v15, e16, hs8⟩ := am_bind hs7
        clear hs7
        refine aw_pA (pc1 := 24) at_540_23 (Or.inl ⟨rfl, rfl⟩) e16 rfl ?_
        refine aw_iadd (v := (x1 + v15)) (pc1 := 25) at_540_24 rfl rfl ?_
        refine aw_vload_n (pc1 := 26) at_540_25 l0 i0 rfl ?_
        obtain ⟨v17, e18, hs9⟩ := am_bind hs8
        clear hs8
        refine aw_pG (pc1 := 29) at_540_26 (am_vI_s e18) rfl ?_
        obtain ⟨z19, hs10⟩ := am_ift hs9
        clear hs9
        refine aw_call (F := fm_443 N x0 ((x1 + v15)) v17 h11) (t := true) (na := 3) (kd := 1) (as := [x0, (.int (x1 + v15)), (.int v17)]) at_540_29 (am_k3v kb_443) mn_443 mk_443 rfl rfl (am_ok_v mi_443 (am_hl rfl (am_ccR i0 (am_ccI (am_ccI am_cats_0))) rfl) z19) (am_hc am_cats_0 rfl) (fun _ => ⟨rfl, hh_540⟩) (fun o1 hz9 => rm_443 x0 ((x1 + v15)) v17 h11 o1 i0 hz9) ?_
        rcases am_cV_s hs10 with ⟨h21, f22, hs11⟩ | hs11
        · clear hs10
          refine Or.inl ⟨_, _, f22, ?_⟩
          show am_W X _ 540 32 _ [] h21 _
          refine aw_iconst (v := 1) (pc1 := 33) at_540_32 (by decide) rfl ?_
          cases hs11
          exact aw_iret at_540_33 (by rw [rt_540]; decide) rfl
        · clear hs10
          exact Or.inr hs11
      · clear hs5
        exact Or.inr hs6
    · clear hs3
      exact Or.inr hs4
  · clear hs1
    exact Or.inr hs2
def fm_540 (N : Nat) (y0 : Value) (y1 : Int32) (y2 : Int32) (h : am_H) : Option am_O := fg_540_0 N y0 y1 y2 h
theorem rm_540 {X : am_X} {d : Nat} {N : Nat} (y0 : Value) (y1 : Int32) (y2 : Int32) (h : am_H) (o : am_O) (i0 : am_isR y0 = true) (hs : fm_540 N y0 y1 y2 h = some o) : am_W X (d + 2) 540 0 (am_args 0 [y0, .int y1, .int y2]) [] h (fun q => q = o) := by
  rw [am_args_R i0, am_args_I, am_args_I]
  exact rg_540_0 y0 y1 y2 h o rfl rfl rfl i0 hs
def fg_539_201 (N : Nat) (s0 : Int32) (h : am_H) : Option am_O := (if am_rfit (some FieldType.boolean) s0 then some (.inl (some (.int s0), h)) else none)
theorem rg_539_201 {X : am_X} {d : Nat} {N : Nat} {lv : am_LV} (s0 : Int32) (h : am_H) (o : am_O) (hs : fg_539_201 N s0 h = some o) : am_W X (d + 3) 539 201 lv [(.int s0)] h (fun q => q = o) := by
  unfold fg_539_201 at hs
  obtain ⟨z1, hs1⟩ := am_ift hs
  clear hs
  cases hs1
  exact aw_iret at_539_201 (by rw [rt_539]; exact z1) rfl
def fg_539_200 (N : Nat) (h : am_H) : Option am_O := (fg_539_201 N 0 h)
theorem rg_539_200 {X : am_X} {d : Nat} {N : Nat} {lv : am_LV} (h : am_H) (o : am_O) (hs : fg_539_200 N h = some o) : am_W X (d + 3) 539 200 lv [] h (fun q => q = o) := by
  unfold fg_539_200 at hs
  refine aw_iconst (v := 0) (pc1 := 201) at_539_200 (by decide) rfl ?_
  exact rg_539_201 0 h o   hs
def fg_539_169 (N : Nat) (x0 : Value) (x1 : Int32) (s0 : Int32) (h : am_H) : Option am_O := am_cI false (fm_327 ((Int32.toInt64 s0)) ((-99)) 99 h) (fun v1 h2 => (if v1 = 0 then (fg_539_200 N h2) else (if am_pOk 12 x0 h2 then am_cI true (fm_540 N x0 x1 s0 h2) (fun v6 h7 => (if v6 = 0 then (fg_539_200 N h7) else (fg_539_201 N 1 h7))) else none)))
theorem rg_539_169 {X : am_X} {d : Nat} {N : Nat} {lv : am_LV} (x0 : Value) (x1 : Int32) (s0 : Int32) (h : am_H) (o : am_O) (l0 : lv.lookup 0 = some x0) (l1 : lv.lookup 1 = some (.int x1)) (i0 : am_isR x0 = true) (hs : fg_539_169 N x0 x1 s0 h = some o) : am_W X (d + 3) 539 169 lv [(.int s0)] h (fun q => q = o) := by
  unfold fg_539_169 at hs
  refine aw_istore (lv1 := am_put1 _ 5 _) (pc1 := 171) at_539_169 rfl rfl ?_
  refine aw_iload (pc1 := 173) at_539_171 am_lk0 rfl ?_
  refine aw_i2l (v := (Int32.toInt64 s0)) (pc1 := 174) at_539_173 rfl rfl ?_
  refine aw_ldc2 (v := (-99)) (pc1 := 177) at_539_174 rfl rfl ?_
  refine aw_ldc2 (v := 99) (pc1 := 180) at_539_177 rfl rfl ?_
  refine aw_call (F := fm_327 ((Int32.toInt64 s0)) ((-99)) 99 h) (t := false) (na := 3) (kd := 0) (as := [(.long (Int32.toInt64 s0)), (.long (-99)), (.long 99)]) at_539_180 (am_k3s kb_327) mn_327 mk_327 rfl rfl (am_ok_s mi_327 (am_hl rfl (am_ccL (am_ccL (am_ccL am_cats_0))) rfl)) (am_hc am_cats_0 rfl) (fun hz9 => by cases hz9) (fun o1 hz9 => rm_327 ((Int32.toInt64 s0)) ((-99)) 99 h o1  hz9) ?_
  rcases am_cI_s hs with ⟨v1, h2, f3, hs1⟩ | hs1
  · clear hs
    refine Or.inl ⟨_, _, f3, ?_⟩
    show am_W X _ 539 183 _ [(.int v1)] h2 _
    by_cases c4 : v1 = 0
    · rw [if_pos c4] at hs1
      refine aw_ifeq_t at_539_183 c4 ?_
      exact rg_539_200 h2 o   hs1
    · rw [if_neg c4] at hs1
      refine aw_ifeq_f (pc1 := 186) at_539_183 c4 rfl ?_
      refine aw_vload_n (pc1 := 187) at_539_186 (am_lk1 l0 rfl rfl) i0 rfl ?_
      refine aw_iload_n (pc1 := 188) at_539_187 (am_lk1 l1 rfl rfl) rfl ?_
      refine aw_iload (pc1 := 190) at_539_188 am_lk0 rfl ?_
      obtain ⟨z5, hs2⟩ := am_ift hs1
      clear hs1
      refine aw_call (F := fm_540 N x0 x1 s0 h2) (t := true) (na := 3) (kd := 1) (as := [x0, (.int x1), (.int s0)]) at_539_190 (am_k3v kb_540) mn_540 mk_540 rfl rfl (am_ok_v mi_540 (am_hl rfl (am_ccR i0 (am_ccI (am_ccI am_cats_0))) rfl) z5) (am_hc am_cats_0 rfl) (fun _ => ⟨rfl, hh_539⟩) (fun o1 hz9 => rm_540 x0 x1 s0 h2 o1 i0 hz9) ?_
      rcases am_cI_s hs2 with ⟨v6, h7, f8, hs3⟩ | hs3
      · clear hs2
        refine Or.inl ⟨_, _, f8, ?_⟩
        show am_W X _ 539 193 _ [(.int v6)] h7 _
        by_cases c9 : v6 = 0
        · rw [if_pos c9] at hs3
          refine aw_ifeq_t at_539_193 c9 ?_
          exact rg_539_200 h7 o   hs3
        · rw [if_neg c9] at hs3
          refine aw_ifeq_f (pc1 := 196) at_539_193 c9 rfl ?_
          refine aw_iconst (v := 1) (pc1 := 197) at_539_196 (by decide) rfl ?_
          refine aw_goto at_539_197 ?_
          exact rg_539_201 1 h7 o   hs3
      · clear hs2
        exact Or.inr hs3
  · clear hs
    exact Or.inr hs1
def fg_539_113 (N : Nat) (x0 : Value) (x1 : Int32) (x2 : Int32) (x3 : Int32) (x4 : Int32) (h : am_H) : Option am_O := (if ¬ x2 = 10 then (if ¬ x2 = 11 then (if ¬ x2 = 12 then (if ¬ x2 = 13 then (if (x4 : Int32) ≠ 0 then (fg_539_169 N x0 x1 ((x3 - x3 / x4 * x4)) h) else none) else (if (x4 : Int32) ≠ 0 then (fg_539_169 N x0 x1 ((x3 / x4)) h) else none)) else (fg_539_169 N x0 x1 ((x3 * x4)) h)) else (fg_539_169 N x0 x1 ((x3 - x4)) h)) else (fg_539_169 N x0 x1 ((x3 + x4)) h))
theorem rg_539_113 {X : am_X} {d : Nat} {N : Nat} {lv : am_LV} (x0 : Value) (x1 : Int32) (x2 : Int32) (x3 : Int32) (x4 : Int32) (h : am_H) (o : am_O) (l0 : lv.lookup 0 = some x0) (l1 : lv.lookup 1 = some (.int x1)) (l2 : lv.lookup 2 = some (.int x2)) (l3 : lv.lookup 3 = some (.int x3)) (l4 : lv.lookup 4 = some (.int x4)) (i0 : am_isR x0 = true) (hs : fg_539_113 N x0 x1 x2 x3 x4 h = some o) : am_W X (d + 3) 539 113 lv [] h (fun q => q = o) := by
  unfold fg_539_113 at hs
  refine aw_iload_n (pc1 := 114) at_539_113 l2 rfl ?_
  refine aw_bipush (v := 10) (pc1 := 116) at_539_114 (by decide) rfl ?_
  by_cases c1 : ¬ x2 = 10
  · rw [if_pos c1] at hs
    refine aw_icne_t at_539_116 c1 ?_
    refine aw_iload_n (pc1 := 127) at_539_126 l2 rfl ?_
    refine aw_bipush (v := 11) (pc1 := 129) at_539_127 (by decide) rfl ?_
    by_cases c2 : ¬ x2 = 11
    · rw [if_pos c2] at hs
      refine aw_icne_t at_539_129 c2 ?_
      refine aw_iload_n (pc1 := 140) at_539_139 l2 rfl ?_
      refine aw_bipush (v := 12) (pc1 := 142) at_539_140 (by decide) rfl ?_
      by_cases c3 : ¬ x2 = 12
      · rw [if_pos c3] at hs
        refine aw_icne_t at_539_142 c3 ?_
        refine aw_iload_n (pc1 := 153) at_539_152 l2 rfl ?_
        refine aw_bipush (v := 13) (pc1 := 155) at_539_153 (by decide) rfl ?_
        by_cases c4 : ¬ x2 = 13
        · rw [if_pos c4] at hs
          refine aw_icne_t at_539_155 c4 ?_
          refine aw_iload_n (pc1 := 166) at_539_165 l3 rfl ?_
          refine aw_iload (pc1 := 168) at_539_166 l4 rfl ?_
          obtain ⟨z5, hs1⟩ := am_ift hs
          clear hs
          refine aw_irem (v := (x3 - x3 / x4 * x4)) (pc1 := 169) at_539_168 z5 rfl rfl ?_
          exact rg_539_169 x0 x1 ((x3 - x3 / x4 * x4)) h o l0 l1 i0 hs1
        · rw [if_neg c4] at hs
          refine aw_icne_f (pc1 := 158) at_539_155 c4 rfl ?_
          refine aw_iload_n (pc1 := 159) at_539_158 l3 rfl ?_
          refine aw_iload (pc1 := 161) at_539_159 l4 rfl ?_
          obtain ⟨z6, hs2⟩ := am_ift hs
          clear hs
          refine aw_idiv (v := (x3 / x4)) (pc1 := 162) at_539_161 z6 rfl rfl ?_
          refine aw_goto at_539_162 ?_
          exact rg_539_169 x0 x1 ((x3 / x4)) h o l0 l1 i0 hs2
      · rw [if_neg c3] at hs
        refine aw_icne_f (pc1 := 145) at_539_142 c3 rfl ?_
        refine aw_iload_n (pc1 := 146) at_539_145 l3 rfl ?_
        refine aw_iload (pc1 := 148) at_539_146 l4 rfl ?_
        refine aw_imul (v := (x3 * x4)) (pc1 := 149) at_539_148 rfl rfl ?_
        refine aw_goto at_539_149 ?_
        exact rg_539_169 x0 x1 ((x3 * x4)) h o l0 l1 i0 hs
    · rw [if_neg c2] at hs
      refine aw_icne_f (pc1 := 132) at_539_129 c2 rfl ?_
      refine aw_iload_n (pc1 := 133) at_539_132 l3 rfl ?_
      refine aw_iload (pc1 := 135) at_539_133 l4 rfl ?_
      refine aw_isub (v := (x3 - x4)) (pc1 := 136) at_539_135 rfl rfl ?_
      refine aw_goto at_539_136 ?_
      exact rg_539_169 x0 x1 ((x3 - x4)) h o l0 l1 i0 hs
  · rw [if_neg c1] at hs
    refine aw_icne_f (pc1 := 119) at_539_116 c1 rfl ?_
    refine aw_iload_n (pc1 := 120) at_539_119 l3 rfl ?_
    refine aw_iload (pc1 := 122) at_539_120 l4 rfl ?_
    refine aw_iadd (v := (x3 + x4)) (pc1 := 123) at_539_122 rfl rfl ?_
    refine aw_goto at_539_123 ?_
    exact rg_539_169 x0 x1 ((x3 + x4)) h o l0 l1 i0 hs
def fg_539_76 (N : Nat) (h : am_H) : Option am_O := some (.inl (some (.int 0), h))
theorem rg_539_76 {X : am_X} {d : Nat} {N : Nat} {lv : am_LV} (h : am_H) (o : am_O) (hs : fg_539_76 N h = some o) : am_W X (d + 3) 539 76 lv [] h (fun q => q = o) := by
  unfold fg_539_76 at hs
  refine aw_iconst (v := 0) (pc1 := 77) at_539_76 (by decide) rfl ?_
  cases hs
  exact aw_iret at_539_77 (by rw [rt_539]; decide) rfl
def fg_539_39 (N : Nat) (x0 : Value) (x1 : Int32) (x2 : Int32) (h : am_H) : Option am_O := (if x2 < 10 then (fg_539_76 N h) else (if 14 < x2 then (fg_539_76 N h) else ((am_vR (am_pG 3093 x0 h)).bind fun v3 => ((am_pA 0 v3 (x1 + 1) h).bind fun v5 => (if ¬ v5 = 0 then (fg_539_76 N h) else ((am_vR (am_pG 3093 x0 h)).bind fun v8 => (if am_pOk 12 x0 h then am_cI true (fm_393 N x0 x1 1 h) (fun v11 h12 => ((am_pA 0 v8 v11 h12).bind fun v14 => (if v14 = 0 then ((am_vR (am_pG 3094 x0 h12)).bind fun v17 => ((am_pA 0 v17 (x1 + 1) h12).bind fun v19 => ((am_vR (am_pG 3094 x0 h12)).bind fun v21 => (if am_pOk 12 x0 h12 then am_cI true (fm_393 N x0 x1 1 h12) (fun v24 h25 => ((am_pA 0 v21 v24 h25).bind fun v27 => (if x2 ≤ 12 then (fg_539_113 N x0 x1 x2 v19 v27 h25) else (if ¬ v27 = 0 then (fg_539_113 N x0 x1 x2 v19 v27 h25) else some (.inl (some (.int 0), h25)))))) else none)))) else (fg_539_76 N h12)))) else none)))))))
theorem rg_539_39 {X : am_X} {d : Nat} {N : Nat} {lv : am_LV} (x0 : Value) (x1 : Int32) (x2 : Int32) (h : am_H) (o : am_O) (l0 : lv.lookup 0 = some x0) (l1 : lv.lookup 1 = some (.int x1)) (l2 : lv.lookup 2 = some (.int x2)) (i0 : am_isR x0 = true) (hs : fg_539_39 N x0 x1 x2 h = some o) : am_W X (d + 3) 539 39 lv [] h (fun q => q = o) := by
  unfold fg_539_39 at hs
  refine aw_iload_n (pc1 := 40) at_539_39 l2 rfl ?_
  refine aw_bipush (v := 10) (pc1 := 42) at_539_40 (by decide) rfl ?_
  by_cases c1 : x2 < 10
  · rw [if_pos c1] at hs
    refine aw_iclt_t at_539_42 c1 ?_
    exact rg_539_76 h o   hs
  · rw [if_neg c1] at hs
    refine aw_iclt_f (pc1 := 45) at_539_42 c1 rfl ?_
    refine aw_iload_n (pc1 := 46) at_539_45 l2 rfl ?_
    refine aw_bipush (v := 14) (pc1 := 48) at_539_46 (by decide) rfl ?_
    by_cases c2 : 14 < x2
    · rw [if_pos c2] at hs
      refine aw_icgt_t at_539_48 c2 ?_
      exact rg_539_76 h o   hs
    · rw [if_neg c2] at hs
      refine aw_icgt_f (pc1 := 51) at_539_48 c2 rfl ?_
      refine aw_vload_n (pc1 := 52) at_539_51 l0 i0 rfl ?_
      obtain ⟨v3, e4, hs1⟩ := am_bind hs
      clear hs
      refine aw_pG (pc1 := 55) at_539_52 (am_vR_s e4).1 rfl ?_
      refine aw_iload_n (pc1 := 56) at_539_55 l1 rfl ?_
      refine aw_iconst (v := 1) (pc1 := 57) at_539_56 (by decide) rfl ?_
      refine aw_iadd (v := (x1 + 1)) (pc1 := 58) at_539_57 rfl rfl ?_
      obtain ⟨v5, e6, hs2⟩ := am_bind hs1
      clear hs1
      refine aw_pA (pc1 := 59) at_539_58 (Or.inl ⟨rfl, rfl⟩) e6 rfl ?_
      by_cases c7 : ¬ v5 = 0
      · rw [if_pos c7] at hs2
        refine aw_ifne_t at_539_59 c7 ?_
        exact rg_539_76 h o   hs2
      · rw [if_neg c7] at hs2
        refine aw_ifne_f (pc1 := 62) at_539_59 c7 rfl ?_
        refine aw_vload_n (pc1 := 63) at_539_62 l0 i0 rfl ?_
        obtain ⟨v8, e9, hs3⟩ := am_bind hs2
        clear hs2
        refine aw_pG (pc1 := 66) at_539_63 (am_vR_s e9).1 rfl ?_
        refine aw_vload_n (pc1 := 67) at_539_66 l0 i0 rfl ?_
        refine aw_iload_n (pc1 := 68) at_539_67 l1 rfl ?_
        refine aw_iconst (v := 1) (pc1 := 69) at_539_68 (by decide) rfl ?_
        obtain ⟨z10, hs4⟩ := am_ift hs3
        clear hs3
        refine aw_call (F := fm_393 N x0 x1 1 h) (t := true) (na := 3) (kd := 1) (as := [x0, (.int x1), (.int 1)]) at_539_69 (am_k3v kb_393) mn_393 mk_393 rfl rfl (am_ok_v mi_393 (am_hl rfl (am_ccR i0 (am_ccI (am_ccI am_cats_0))) rfl) z10) (am_hc (am_ccR (am_vR_s e9).2 am_cats_0) rfl) (fun _ => ⟨rfl, hh_539⟩) (fun o1 hz9 => rm_393 x0 x1 1 h o1 i0 hz9) ?_
        rcases am_cI_s hs4 with ⟨v11, h12, f13, hs5⟩ | hs5
        · clear hs4
          refine Or.inl ⟨_, _, f13, ?_⟩
          show am_W X _ 539 72 _ [(.int v11), v8] h12 _
          obtain ⟨v14, e15, hs6⟩ := am_bind hs5
          clear hs5
          refine aw_pA (pc1 := 73) at_539_72 (Or.inl ⟨rfl, rfl⟩) e15 rfl ?_
          by_cases c16 : v14 = 0
          · rw [if_pos c16] at hs6
            refine aw_ifeq_t at_539_73 c16 ?_
            refine aw_vload_n (pc1 := 79) at_539_78 l0 i0 rfl ?_
            obtain ⟨v17, e18, hs7⟩ := am_bind hs6
            clear hs6
            refine aw_pG (pc1 := 82) at_539_79 (am_vR_s e18).1 rfl ?_
            refine aw_iload_n (pc1 := 83) at_539_82 l1 rfl ?_
            refine aw_iconst (v := 1) (pc1 := 84) at_539_83 (by decide) rfl ?_
            refine aw_iadd (v := (x1 + 1)) (pc1 := 85) at_539_84 rfl rfl ?_
            obtain ⟨v19, e20, hs8⟩ := am_bind hs7
            clear hs7
            refine aw_pA (pc1 := 86) at_539_85 (Or.inl ⟨rfl, rfl⟩) e20 rfl ?_
            refine aw_istore_n (lv1 := am_put1 _ 3 _) (pc1 := 87) at_539_86 rfl rfl ?_
            refine aw_vload_n (pc1 := 88) at_539_87 (am_lk1 l0 rfl rfl) i0 rfl ?_
            obtain ⟨v21, e22, hs9⟩ := am_bind hs8
            clear hs8
            refine aw_pG (pc1 := 91) at_539_88 (am_vR_s e22).1 rfl ?_
            refine aw_vload_n (pc1 := 92) at_539_91 (am_lk1 l0 rfl rfl) i0 rfl ?_
            refine aw_iload_n (pc1 := 93) at_539_92 (am_lk1 l1 rfl rfl) rfl ?_
            refine aw_iconst (v := 1) (pc1 := 94) at_539_93 (by decide) rfl ?_
            obtain ⟨z23, hs10⟩ := am_ift hs9
            clear hs9
            refine aw_call (F := fm_393 N x0 x1 1 h12) (t := true) (na := 3) (kd := 1) (as := [x0, (.int x1), (.int 1)]) at_539_94 (am_k3v kb_393) mn_393 mk_393 rfl rfl (am_ok_v mi_393 (am_hl rfl (am_ccR i0 (am_ccI (am_ccI am_cats_0))) rfl) z23) (am_hc (am_ccR (am_vR_s e22).2 am_cats_0) rfl) (fun _ => ⟨rfl, hh_539⟩) (fun o1 hz9 => rm_393 x0 x1 1 h12 o1 i0 hz9) ?_
            rcases am_cI_s hs10 with ⟨v24, h25, f26, hs11⟩ | hs11
            · clear hs10
              refine Or.inl ⟨_, _, f26, ?_⟩
              show am_W X _ 539 97 _ [(.int v24), v21] h25 _
              obtain ⟨v27, e28, hs12⟩ := am_bind hs11
              clear hs11
              refine aw_pA (pc1 := 98) at_539_97 (Or.inl ⟨rfl, rfl⟩) e28 rfl ?_
              refine aw_istore (lv1 := am_put1 _ 4 _) (pc1 := 100) at_539_98 rfl rfl ?_
              refine aw_iload_n (pc1 := 101) at_539_100 (am_lk1 (am_lk1 l2 rfl rfl) rfl rfl) rfl ?_
              refine aw_bipush (v := 12) (pc1 := 103) at_539_101 (by decide) rfl ?_
              by_cases c29 : x2 ≤ 12
              · rw [if_pos c29] at hs12
                refine aw_icle_t at_539_103 c29 ?_
                exact rg_539_113 x0 x1 x2 v19 v27 h25 o (am_lk1 (am_lk1 l0 rfl rfl) rfl rfl) (am_lk1 (am_lk1 l1 rfl rfl) rfl rfl) (am_lk1 (am_lk1 l2 rfl rfl) rfl rfl) (am_lk1 am_lk0 rfl rfl) am_lk0 i0 hs12
              · rw [if_neg c29] at hs12
                refine aw_icle_f (pc1 := 106) at_539_103 c29 rfl ?_
                refine aw_iload (pc1 := 108) at_539_106 am_lk0 rfl ?_
                by_cases c30 : ¬ v27 = 0
                · rw [if_pos c30] at hs12
                  refine aw_ifne_t at_539_108 c30 ?_
                  exact rg_539_113 x0 x1 x2 v19 v27 h25 o (am_lk1 (am_lk1 l0 rfl rfl) rfl rfl) (am_lk1 (am_lk1 l1 rfl rfl) rfl rfl) (am_lk1 (am_lk1 l2 rfl rfl) rfl rfl) (am_lk1 am_lk0 rfl rfl) am_lk0 i0 hs12
                · rw [if_neg c30] at hs12
                  refine aw_ifne_f (pc1 := 111) at_539_108 c30 rfl ?_
                  refine aw_iconst (v := 0) (pc1 := 112) at_539_111 (by decide) rfl ?_
                  cases hs12
                  exact aw_iret at_539_112 (by rw [rt_539]; decide) rfl
            · clear hs10
              exact Or.inr hs11
          · rw [if_neg c16] at hs6
            refine aw_ifeq_f (pc1 := 76) at_539_73 c16 rfl ?_
            exact rg_539_76 h12 o   hs6
        · clear hs4
          exact Or.inr hs5
def fg_539_0 (N : Nat) (x0 : Value) (x1 : Int32) (h : am_H) : Option am_O := ((am_vR (am_pG 3093 x0 h)).bind fun v1 => ((am_pA 0 v1 x1 h).bind fun v3 => (if ¬ v3 = 7 then (fg_539_39 N x0 x1 v3 h) else ((am_vR (am_pG 3093 x0 h)).bind fun v6 => ((am_pA 0 v6 (x1 + 1) h).bind fun v8 => (if ¬ v8 = 0 then (fg_539_39 N x0 x1 v3 h) else ((am_vR (am_pG 3094 x0 h)).bind fun v11 => ((am_pA 0 v11 (x1 + 1) h).bind fun v13 => (if am_pOk 12 x0 h then am_cI true (fm_540 N x0 x1 ((-v13)) h) (fun v16 h17 => (if am_rfit (some FieldType.boolean) v16 then some (.inl (some (.int v16), h17)) else none)) else none)))))))))
theorem rg_539_0 {X : am_X} {d : Nat} {N : Nat} {lv : am_LV} (x0 : Value) (x1 : Int32) (h : am_H) (o : am_O) (l0 : lv.lookup 0 = some x0) (l1 : lv.lookup 1 = some (.int x1)) (i0 : am_isR x0 = true) (hs : fg_539_0 N x0 x1 h = some o) : am_W X (d + 3) 539 0 lv [] h (fun q => q = o) := by
  unfold fg_539_0 at hs
  refine aw_vload_n (pc1 := 1) at_539_0 l0 i0 rfl ?_
  obtain ⟨v1, e2, hs1⟩ := am_bind hs
  clear hs
  refine aw_pG (pc1 := 4) at_539_1 (am_vR_s e2).1 rfl ?_
  refine aw_iload_n (pc1 := 5) at_539_4 l1 rfl ?_
  obtain ⟨v3, e4, hs2⟩ := am_bind hs1
  clear hs1
  refine aw_pA (pc1 := 6) at_539_5 (Or.inl ⟨rfl, rfl⟩) e4 rfl ?_
  refine aw_istore_n (lv1 := am_put1 _ 2 _) (pc1 := 7) at_539_6 rfl rfl ?_
  refine aw_iload_n (pc1 := 8) at_539_7 am_lk0 rfl ?_
  refine aw_bipush (v := 7) (pc1 := 10) at_539_8 (by decide) rfl ?_
  by_cases c5 : ¬ v3 = 7
  · rw [if_pos c5] at hs2
    refine aw_icne_t at_539_10 c5 ?_
    exact rg_539_39 x0 x1 v3 h o (am_lk1 l0 rfl rfl) (am_lk1 l1 rfl rfl) am_lk0 i0 hs2
  · rw [if_neg c5] at hs2
    refine aw_icne_f (pc1 := 13) at_539_10 c5 rfl ?_
    refine aw_vload_n (pc1 := 14) at_539_13 (am_lk1 l0 rfl rfl) i0 rfl ?_
    obtain ⟨v6, e7, hs3⟩ := am_bind hs2
    clear hs2
    refine aw_pG (pc1 := 17) at_539_14 (am_vR_s e7).1 rfl ?_
    refine aw_iload_n (pc1 := 18) at_539_17 (am_lk1 l1 rfl rfl) rfl ?_
    refine aw_iconst (v := 1) (pc1 := 19) at_539_18 (by decide) rfl ?_
    refine aw_iadd (v := (x1 + 1)) (pc1 := 20) at_539_19 rfl rfl ?_
    obtain ⟨v8, e9, hs4⟩ := am_bind hs3
    clear hs3
    refine aw_pA (pc1 := 21) at_539_20 (Or.inl ⟨rfl, rfl⟩) e9 rfl ?_
    by_cases c10 : ¬ v8 = 0
    · rw [if_pos c10] at hs4
      refine aw_ifne_t at_539_21 c10 ?_
      exact rg_539_39 x0 x1 v3 h o (am_lk1 l0 rfl rfl) (am_lk1 l1 rfl rfl) am_lk0 i0 hs4
    · rw [if_neg c10] at hs4
      refine aw_ifne_f (pc1 := 24) at_539_21 c10 rfl ?_
      refine aw_vload_n (pc1 := 25) at_539_24 (am_lk1 l0 rfl rfl) i0 rfl ?_
      refine aw_iload_n (pc1 := 26) at_539_25 (am_lk1 l1 rfl rfl) rfl ?_
      refine aw_vload_n (pc1 := 27) at_539_26 (am_lk1 l0 rfl rfl) i0 rfl ?_
      obtain ⟨v11, e12, hs5⟩ := am_bind hs4
      clear hs4
      refine aw_pG (pc1 := 30) at_539_27 (am_vR_s e12).1 rfl ?_
      refine aw_iload_n (pc1 := 31) at_539_30 (am_lk1 l1 rfl rfl) rfl ?_
      refine aw_iconst (v := 1) (pc1 := 32) at_539_31 (by decide) rfl ?_
      refine aw_iadd (v := (x1 + 1)) (pc1 := 33) at_539_32 rfl rfl ?_
      obtain ⟨v13, e14, hs6⟩ := am_bind hs5
      clear hs5
      refine aw_pA (pc1 := 34) at_539_33 (Or.inl ⟨rfl, rfl⟩) e14 rfl ?_
      refine aw_ineg (v := (-v13)) (pc1 := 35) at_539_34 rfl rfl ?_
      obtain ⟨z15, hs7⟩ := am_ift hs6
      clear hs6
      refine aw_call (F := fm_540 N x0 x1 ((-v13)) h) (t := true) (na := 3) (kd := 1) (as := [x0, (.int x1), (.int (-v13))]) at_539_35 (am_k3v kb_540) mn_540 mk_540 rfl rfl (am_ok_v mi_540 (am_hl rfl (am_ccR i0 (am_ccI (am_ccI am_cats_0))) rfl) z15) (am_hc am_cats_0 rfl) (fun _ => ⟨rfl, hh_539⟩) (fun o1 hz9 => rm_540 x0 x1 ((-v13)) h o1 i0 hz9) ?_
      rcases am_cI_s hs7 with ⟨v16, h17, f18, hs8⟩ | hs8
      · clear hs7
        refine Or.inl ⟨_, _, f18, ?_⟩
        show am_W X _ 539 38 _ [(.int v16)] h17 _
        obtain ⟨z19, hs9⟩ := am_ift hs8
        clear hs8
        cases hs9
        exact aw_iret at_539_38 (by rw [rt_539]; exact z19) rfl
      · clear hs7
        exact Or.inr hs8
def fm_539 (N : Nat) (y0 : Value) (y1 : Int32) (h : am_H) : Option am_O := fg_539_0 N y0 y1 h
theorem rm_539 {X : am_X} {d : Nat} {N : Nat} (y0 : Value) (y1 : Int32) (h : am_H) (o : am_O) (i0 : am_isR y0 = true) (hs : fm_539 N y0 y1 h = some o) : am_W X (d + 3) 539 0 (am_args 0 [y0, .int y1]) [] h (fun q => q = o) := by
  rw [am_args_R i0, am_args_I]
  exact rg_539_0 y0 y1 h o rfl rfl i0 hs
