/-! ===== methods as functions ===== -/
def fg_455_70 (N : Nat) (h : am_H) : Option am_O := some (.inl (none, h))
theorem rg_455_70 {X : am_X} {d : Nat} {N : Nat} {lv : am_LV} (h : am_H) (o : am_O) (hs : fg_455_70 N h = some o) : am_W X (d + 4) 455 70 lv [] h (fun q => q = o) := by
  unfold fg_455_70 at hs
  cases hs
  exact aw_vret at_455_70 rt_455 rfl
def fg_455_64 (N : Nat) (rec_2 : Value → Int32 → am_H → Option am_O) (x0 : Value) (x1 : Int32) (h : am_H) : Option am_O := (rec_2 x0 ((x1 + 1)) h)
theorem rg_455_64 {X : am_X} {d : Nat} {N : Nat} {rec_2 : Value → Int32 → am_H → Option am_O} (q_2 : ∀ (x0 : Value) (x1 : Int32) (h : am_H) (o : am_O), rec_2 x0 x1 h = some o → ∀ lv : am_LV, (lv.lookup 0 = some x0) → (lv.lookup 1 = some (.int x1)) → (am_isR x0 = true) → am_W X (d + 4) 455 2 lv [] h (fun q => q = o)) {lv : am_LV} (x0 : Value) (x1 : Int32) (h : am_H) (o : am_O) (l0 : lv.lookup 0 = some x0) (l1 : lv.lookup 1 = some (.int x1)) (i0 : am_isR x0 = true) (hs : fg_455_64 N rec_2 x0 x1 h = some o) : am_W X (d + 4) 455 64 lv [] h (fun q => q = o) := by
  unfold fg_455_64 at hs
  refine aw_iinc (v := (x1 + 1)) (c := 1) (lv1 := am_put1 _ 1 _) (pc1 := 67) at_455_64 l1 (by decide) rfl rfl rfl ?_
  refine aw_goto at_455_67 ?_
  exact q_2 x0 ((x1 + 1)) h o hs _ (am_lk1 l0 rfl (by rw [am_isRc i0]; rfl)) am_lk0 i0
def fg_455_58 (N : Nat) (rec_2 : Value → Int32 → am_H → Option am_O) (rec_19 : Value → Int32 → Int32 → am_H → Option am_O) (x0 : Value) (x1 : Int32) (x2 : Int32) (h : am_H) : Option am_O := (rec_19 x0 x1 ((x2 + 1)) h)
theorem rg_455_58 {X : am_X} {d : Nat} {N : Nat} {rec_2 : Value → Int32 → am_H → Option am_O} {rec_19 : Value → Int32 → Int32 → am_H → Option am_O} (q_2 : ∀ (x0 : Value) (x1 : Int32) (h : am_H) (o : am_O), rec_2 x0 x1 h = some o → ∀ lv : am_LV, (lv.lookup 0 = some x0) → (lv.lookup 1 = some (.int x1)) → (am_isR x0 = true) → am_W X (d + 4) 455 2 lv [] h (fun q => q = o)) (q_19 : ∀ (x0 : Value) (x1 : Int32) (x2 : Int32) (h : am_H) (o : am_O), rec_19 x0 x1 x2 h = some o → ∀ lv : am_LV, (lv.lookup 0 = some x0) → (lv.lookup 1 = some (.int x1)) → (lv.lookup 2 = some (.int x2)) → (am_isR x0 = true) → am_W X (d + 4) 455 19 lv [] h (fun q => q = o)) {lv : am_LV} (x0 : Value) (x1 : Int32) (x2 : Int32) (h : am_H) (o : am_O) (l0 : lv.lookup 0 = some x0) (l1 : lv.lookup 1 = some (.int x1)) (l2 : lv.lookup 2 = some (.int x2)) (i0 : am_isR x0 = true) (hs : fg_455_58 N rec_2 rec_19 x0 x1 x2 h = some o) : am_W X (d + 4) 455 58 lv [] h (fun q => q = o) := by
  unfold fg_455_58 at hs
  refine aw_iinc (v := (x2 + 1)) (c := 1) (lv1 := am_put1 _ 2 _) (pc1 := 61) at_455_58 l2 (by decide) rfl rfl rfl ?_
  refine aw_goto at_455_61 ?_
  exact q_19 x0 x1 ((x2 + 1)) h o hs _ (am_lk1 l0 rfl rfl) (am_lk1 l1 rfl rfl) am_lk0 i0
def fg_455_19 (N : Nat) (rec_2 : Value → Int32 → am_H → Option am_O) : Nat → Value → Int32 → Int32 → am_H → Option am_O
  | 0 => fun _ _ _ _ => none
  | K + 1 => fun x0 x1 x2 h => (if 4 ≤ x2 then (fg_455_64 N rec_2 x0 x1 h) else ((am_vI (am_pG 3167 x0 h)).bind fun v2 => (if ¬ v2 = 0 then (fg_455_64 N rec_2 x0 x1 h) else ((am_vI (am_pG 3090 x0 h)).bind fun v5 => (if v5 < (x1 + x2) then (fg_455_58 N rec_2 (fg_455_19 N rec_2 K) x0 x1 x2 h) else (if am_pOk 12 x0 h then am_cI true (fm_456 N x0 x1 x2 h) (fun v9 h10 => (if v9 = 0 then (fg_455_58 N rec_2 (fg_455_19 N rec_2 K) x0 x1 x2 h10) else (if am_pOk 12 x0 h10 then am_cI true (fm_444 N x0 h10) (fun v14 h15 => ((am_pP 3167 x0 (.int v14) h15).bind fun h17 => (fg_455_58 N rec_2 (fg_455_19 N rec_2 K) x0 x1 x2 h17))) else none))) else none))))))
theorem rg_455_19 {X : am_X} {d : Nat} {N : Nat} {rec_2 : Value → Int32 → am_H → Option am_O} (q_2 : ∀ (x0 : Value) (x1 : Int32) (h : am_H) (o : am_O), rec_2 x0 x1 h = some o → ∀ lv : am_LV, (lv.lookup 0 = some x0) → (lv.lookup 1 = some (.int x1)) → (am_isR x0 = true) → am_W X (d + 4) 455 2 lv [] h (fun q => q = o)) : ∀ (K : Nat) (x0 : Value) (x1 : Int32) (x2 : Int32) (h : am_H) (o : am_O), fg_455_19 N rec_2 K x0 x1 x2 h = some o → ∀ lv : am_LV, (lv.lookup 0 = some x0) → (lv.lookup 1 = some (.int x1)) → (lv.lookup 2 = some (.int x2)) → (am_isR x0 = true) → am_W X (d + 4) 455 19 lv [] h (fun q => q = o) := by
  intro K
  induction K with
  | zero => intro x0 x1 x2 h o hs; cases hs
  | succ K ih =>
    intro x0 x1 x2 h o hs lv l0 l1 l2 i0
    unfold fg_455_19 at hs
    refine aw_iload_n (pc1 := 20) at_455_19 l2 rfl ?_
    refine aw_iconst (v := 4) (pc1 := 21) at_455_20 (by decide) rfl ?_
    by_cases c1 : 4 ≤ x2
    · rw [if_pos c1] at hs
      refine aw_icge_t at_455_21 c1 ?_
      exact rg_455_64 q_2 x0 x1 h o l0 l1 i0 hs
    · rw [if_neg c1] at hs
      refine aw_icge_f (pc1 := 24) at_455_21 c1 rfl ?_
      refine aw_vload_n (pc1 := 25) at_455_24 l0 i0 rfl ?_
      obtain ⟨v2, e3, hs1⟩ := am_bind hs
      clear hs
      refine aw_pG (pc1 := 28) at_455_25 (am_vI_s e3) rfl ?_
      by_cases c4 : ¬ v2 = 0
      · rw [if_pos c4] at hs1
        refine aw_ifne_t at_455_28 c4 ?_
        exact rg_455_64 q_2 x0 x1 h o l0 l1 i0 hs1
      · rw [if_neg c4] at hs1
        refine aw_ifne_f (pc1 := 31) at_455_28 c4 rfl ?_
        refine aw_iload_n (pc1 := 32) at_455_31 l1 rfl ?_
        refine aw_iload_n (pc1 := 33) at_455_32 l2 rfl ?_
        refine aw_iadd (v := (x1 + x2)) (pc1 := 34) at_455_33 rfl rfl ?_
        refine aw_vload_n (pc1 := 35) at_455_34 l0 i0 rfl ?_
        obtain ⟨v5, e6, hs2⟩ := am_bind hs1
        clear hs1
        refine aw_pG (pc1 := 38) at_455_35 (am_vI_s e6) rfl ?_
        by_cases c7 : v5 < (x1 + x2)
        · rw [if_pos c7] at hs2
          refine aw_icgt_t at_455_38 c7 ?_
          exact rg_455_58 q_2 (fun z0 z1 z2 h o hs2 => ih z0 z1 z2 h o hs2) x0 x1 x2 h o l0 l1 l2 i0 hs2
        · rw [if_neg c7] at hs2
          refine aw_icgt_f (pc1 := 41) at_455_38 c7 rfl ?_
          refine aw_vload_n (pc1 := 42) at_455_41 l0 i0 rfl ?_
          refine aw_iload_n (pc1 := 43) at_455_42 l1 rfl ?_
          refine aw_iload_n (pc1 := 44) at_455_43 l2 rfl ?_
          obtain ⟨z8, hs3⟩ := am_ift hs2
          clear hs2
          refine aw_call (F := fm_456 N x0 x1 x2 h) (t := true) (na := 3) (kd := 1) (as := [x0, (.int x1), (.int x2)]) at_455_44 (am_k3v kb_456) mn_456 mk_456 rfl rfl (am_ok_v mi_456 (am_hl rfl (am_ccR i0 (am_ccI (am_ccI am_cats_0))) rfl) z8) (am_hc am_cats_0 rfl) (fun _ => ⟨rfl, hh_455⟩) (fun o1 hz9 => rm_456 x0 x1 x2 h o1 i0 hz9) ?_
          rcases am_cI_s hs3 with ⟨v9, h10, f11, hs4⟩ | hs4
          · clear hs3
            refine Or.inl ⟨_, _, f11, ?_⟩
            show am_W X _ 455 47 _ [(.int v9)] h10 _
            by_cases c12 : v9 = 0
            · rw [if_pos c12] at hs4
              refine aw_ifeq_t at_455_47 c12 ?_
              exact rg_455_58 q_2 (fun z0 z1 z2 h o hs4 => ih z0 z1 z2 h o hs4) x0 x1 x2 h10 o l0 l1 l2 i0 hs4
            · rw [if_neg c12] at hs4
              refine aw_ifeq_f (pc1 := 50) at_455_47 c12 rfl ?_
              refine aw_vload_n (pc1 := 51) at_455_50 l0 i0 rfl ?_
              refine aw_vload_n (pc1 := 52) at_455_51 l0 i0 rfl ?_
              obtain ⟨z13, hs5⟩ := am_ift hs4
              clear hs4
              refine aw_call (F := fm_444 N x0 h10) (t := true) (na := 1) (kd := 1) (as := [x0]) at_455_52 (am_k3v kb_444) mn_444 mk_444 rfl rfl (am_ok_v mi_444 (am_hl rfl (am_ccR i0 am_cats_0) rfl) z13) (am_hc (am_ccR i0 am_cats_0) rfl) (fun _ => ⟨rfl, hh_455⟩) (fun o1 hz9 => rm_444 x0 h10 o1 i0 hz9) ?_
              rcases am_cI_s hs5 with ⟨v14, h15, f16, hs6⟩ | hs6
              · clear hs5
                refine Or.inl ⟨_, _, f16, ?_⟩
                show am_W X _ 455 55 _ [(.int v14), x0] h15 _
                obtain ⟨h17, e18, hs7⟩ := am_bind hs6
                clear hs6
                refine aw_pP (pc1 := 58) at_455_55 e18 rfl ?_
                exact rg_455_58 q_2 (fun z0 z1 z2 h o hs7 => ih z0 z1 z2 h o hs7) x0 x1 x2 h17 o l0 l1 l2 i0 hs7
              · clear hs5
                exact Or.inr hs6
          · clear hs3
            exact Or.inr hs4
def fg_455_2 (N : Nat) : Nat → Value → Int32 → am_H → Option am_O
  | 0 => fun _ _ _ => none
  | K + 1 => fun x0 x1 h => ((am_vI (am_pG 3090 x0 h)).bind fun v1 => (if v1 ≤ x1 then (fg_455_70 N h) else ((am_vI (am_pG 3167 x0 h)).bind fun v4 => (if ¬ v4 = 0 then (fg_455_70 N h) else (fg_455_19 N (fg_455_2 N K) N x0 x1 1 h)))))
theorem rg_455_2 {X : am_X} {d : Nat} {N : Nat} : ∀ (K : Nat) (x0 : Value) (x1 : Int32) (h : am_H) (o : am_O), fg_455_2 N K x0 x1 h = some o → ∀ lv : am_LV, (lv.lookup 0 = some x0) → (lv.lookup 1 = some (.int x1)) → (am_isR x0 = true) → am_W X (d + 4) 455 2 lv [] h (fun q => q = o) := by
  intro K
  induction K with
  | zero => intro x0 x1 h o hs; cases hs
  | succ K ih =>
    intro x0 x1 h o hs lv l0 l1 i0
    unfold fg_455_2 at hs
    refine aw_iload_n (pc1 := 3) at_455_2 l1 rfl ?_
    refine aw_vload_n (pc1 := 4) at_455_3 l0 i0 rfl ?_
    obtain ⟨v1, e2, hs1⟩ := am_bind hs
    clear hs
    refine aw_pG (pc1 := 7) at_455_4 (am_vI_s e2) rfl ?_
    by_cases c3 : v1 ≤ x1
    · rw [if_pos c3] at hs1
      refine aw_icge_t at_455_7 c3 ?_
      exact rg_455_70 h o   hs1
    · rw [if_neg c3] at hs1
      refine aw_icge_f (pc1 := 10) at_455_7 c3 rfl ?_
      refine aw_vload_n (pc1 := 11) at_455_10 l0 i0 rfl ?_
      obtain ⟨v4, e5, hs2⟩ := am_bind hs1
      clear hs1
      refine aw_pG (pc1 := 14) at_455_11 (am_vI_s e5) rfl ?_
      by_cases c6 : ¬ v4 = 0
      · rw [if_pos c6] at hs2
        refine aw_ifne_t at_455_14 c6 ?_
        exact rg_455_70 h o   hs2
      · rw [if_neg c6] at hs2
        refine aw_ifne_f (pc1 := 17) at_455_14 c6 rfl ?_
        refine aw_iconst (v := 1) (pc1 := 18) at_455_17 (by decide) rfl ?_
        refine aw_istore_n (lv1 := am_put1 _ 2 _) (pc1 := 19) at_455_18 rfl rfl ?_
        exact rg_455_19 (fun z0 z1 h o hs2 => ih z0 z1 h o hs2) N x0 x1 1 h o hs2 _ (am_lk1 l0 rfl rfl) (am_lk1 l1 rfl rfl) am_lk0 i0
def fg_455_0 (N : Nat) (x0 : Value) (h : am_H) : Option am_O := (fg_455_2 N N x0 0 h)
theorem rg_455_0 {X : am_X} {d : Nat} {N : Nat} {lv : am_LV} (x0 : Value) (h : am_H) (o : am_O) (l0 : lv.lookup 0 = some x0) (i0 : am_isR x0 = true) (hs : fg_455_0 N x0 h = some o) : am_W X (d + 4) 455 0 lv [] h (fun q => q = o) := by
  unfold fg_455_0 at hs
  refine aw_iconst (v := 0) (pc1 := 1) at_455_0 (by decide) rfl ?_
  refine aw_istore_n (lv1 := am_put1 _ 1 _) (pc1 := 2) at_455_1 rfl rfl ?_
  exact rg_455_2 N x0 0 h o hs _ (am_lk1 l0 rfl (by rw [am_isRc i0]; rfl)) am_lk0 i0
def fm_455 (N : Nat) (y0 : Value) (h : am_H) : Option am_O := fg_455_0 N y0 h
theorem rm_455 {X : am_X} {d : Nat} {N : Nat} (y0 : Value) (h : am_H) (o : am_O) (i0 : am_isR y0 = true) (hs : fm_455 N y0 h = some o) : am_W X (d + 4) 455 0 (am_args 0 [y0]) [] h (fun q => q = o) := by
  rw [am_args_R i0]
  exact rg_455_0 y0 h o rfl i0 hs
def fg_459_68 (s0 : Value) (s1 : Int32) (h : am_H) : Option am_O := (if am_pOk 12 s0 h then am_cV true (fm_335 s0 s1 0 h) (fun h3 => some (.inl (none, h3))) else none)
theorem rg_459_68 {X : am_X} {d : Nat} {lv : am_LV} (s0 : Value) (s1 : Int32) (h : am_H) (o : am_O) (j0 : am_isR s0 = true) (hs : fg_459_68 s0 s1 h = some o) : am_W X (d + 1) 459 68 lv [(.int s1), s0] h (fun q => q = o) := by
  unfold fg_459_68 at hs
  refine aw_iconst (v := 0) (pc1 := 69) at_459_68 (by decide) rfl ?_
  obtain ⟨z1, hs1⟩ := am_ift hs
  clear hs
  refine aw_call (F := fm_335 s0 s1 0 h) (t := true) (na := 3) (kd := 1) (as := [s0, (.int s1), (.int 0)]) at_459_69 (am_k3v kb_335) mn_335 mk_335 rfl rfl (am_ok_v mi_335 (am_hl rfl (am_ccR j0 (am_ccI (am_ccI am_cats_0))) rfl) z1) (am_hc am_cats_0 rfl) (fun _ => ⟨rfl, hh_459⟩) (fun o1 hz9 => rm_335 s0 s1 0 h o1 j0 hz9) ?_
  rcases am_cV_s hs1 with ⟨h3, f4, hs2⟩ | hs2
  · clear hs1
    refine Or.inl ⟨_, _, f4, ?_⟩
    show am_W X _ 459 72 _ [] h3 _
    cases hs2
    exact aw_vret at_459_72 rt_459 rfl
  · clear hs1
    exact Or.inr hs2
def fg_459_42 (x0 : Value) (x1 : Int32) (s0 : Value) (s1 : Int32) (s2 : Int32) (h : am_H) : Option am_O := (if am_pOk 12 s0 h then am_cV true (fm_335 s0 s1 s2 h) (fun h3 => (if ¬ x1 = 2 then (if ¬ x1 = 4 then (fg_459_68 x0 7 h3) else (fg_459_68 x0 9 h3)) else (fg_459_68 x0 8 h3))) else none)
theorem rg_459_42 {X : am_X} {d : Nat} {lv : am_LV} (x0 : Value) (x1 : Int32) (s0 : Value) (s1 : Int32) (s2 : Int32) (h : am_H) (o : am_O) (l0 : lv.lookup 0 = some x0) (l1 : lv.lookup 1 = some (.int x1)) (i0 : am_isR x0 = true) (j0 : am_isR s0 = true) (hs : fg_459_42 x0 x1 s0 s1 s2 h = some o) : am_W X (d + 1) 459 42 lv [(.int s2), (.int s1), s0] h (fun q => q = o) := by
  unfold fg_459_42 at hs
  obtain ⟨z1, hs1⟩ := am_ift hs
  clear hs
  refine aw_call (F := fm_335 s0 s1 s2 h) (t := true) (na := 3) (kd := 1) (as := [s0, (.int s1), (.int s2)]) at_459_42 (am_k3v kb_335) mn_335 mk_335 rfl rfl (am_ok_v mi_335 (am_hl rfl (am_ccR j0 (am_ccI (am_ccI am_cats_0))) rfl) z1) (am_hc am_cats_0 rfl) (fun _ => ⟨rfl, hh_459⟩) (fun o1 hz9 => rm_335 s0 s1 s2 h o1 j0 hz9) ?_
  rcases am_cV_s hs1 with ⟨h3, f4, hs2⟩ | hs2
  · clear hs1
    refine Or.inl ⟨_, _, f4, ?_⟩
    show am_W X _ 459 45 _ [] h3 _
    refine aw_vload_n (pc1 := 46) at_459_45 l0 i0 rfl ?_
    refine aw_iload_n (pc1 := 47) at_459_46 l1 rfl ?_
    refine aw_iconst (v := 2) (pc1 := 48) at_459_47 (by decide) rfl ?_
    by_cases c5 : ¬ x1 = 2
    · rw [if_pos c5] at hs2
      refine aw_icne_t at_459_48 c5 ?_
      refine aw_iload_n (pc1 := 57) at_459_56 l1 rfl ?_
      refine aw_iconst (v := 4) (pc1 := 58) at_459_57 (by decide) rfl ?_
      by_cases c6 : ¬ x1 = 4
      · rw [if_pos c6] at hs2
        refine aw_icne_t at_459_58 c6 ?_
        refine aw_bipush (v := 7) (pc1 := 68) at_459_66 (by decide) rfl ?_
        exact rg_459_68 x0 7 h3 o  i0 hs2
      · rw [if_neg c6] at hs2
        refine aw_icne_f (pc1 := 61) at_459_58 c6 rfl ?_
        refine aw_bipush (v := 9) (pc1 := 63) at_459_61 (by decide) rfl ?_
        refine aw_goto at_459_63 ?_
        exact rg_459_68 x0 9 h3 o  i0 hs2
    · rw [if_neg c5] at hs2
      refine aw_icne_f (pc1 := 51) at_459_48 c5 rfl ?_
      refine aw_bipush (v := 8) (pc1 := 53) at_459_51 (by decide) rfl ?_
      refine aw_goto at_459_53 ?_
      exact rg_459_68 x0 8 h3 o  i0 hs2
  · clear hs1
    exact Or.inr hs2
def fg_459_32 (x0 : Value) (x1 : Int32) (s0 : Value) (s1 : Int32) (h : am_H) : Option am_O := (if 3 ≤ x1 then (fg_459_42 x0 x1 s0 s1 0 h) else (fg_459_42 x0 x1 s0 s1 1 h))
theorem rg_459_32 {X : am_X} {d : Nat} {lv : am_LV} (x0 : Value) (x1 : Int32) (s0 : Value) (s1 : Int32) (h : am_H) (o : am_O) (l0 : lv.lookup 0 = some x0) (l1 : lv.lookup 1 = some (.int x1)) (i0 : am_isR x0 = true) (j0 : am_isR s0 = true) (hs : fg_459_32 x0 x1 s0 s1 h = some o) : am_W X (d + 1) 459 32 lv [(.int s1), s0] h (fun q => q = o) := by
  unfold fg_459_32 at hs
  refine aw_iload_n (pc1 := 33) at_459_32 l1 rfl ?_
  refine aw_iconst (v := 3) (pc1 := 34) at_459_33 (by decide) rfl ?_
  by_cases c1 : 3 ≤ x1
  · rw [if_pos c1] at hs
    refine aw_icge_t at_459_34 c1 ?_
    refine aw_iconst (v := 0) (pc1 := 42) at_459_41 (by decide) rfl ?_
    exact rg_459_42 x0 x1 s0 s1 0 h o l0 l1 i0 j0 hs
  · rw [if_neg c1] at hs
    refine aw_icge_f (pc1 := 37) at_459_34 c1 rfl ?_
    refine aw_iconst (v := 1) (pc1 := 38) at_459_37 (by decide) rfl ?_
    refine aw_goto at_459_38 ?_
    exact rg_459_42 x0 x1 s0 s1 1 h o l0 l1 i0 j0 hs
def fg_459_0 (x0 : Value) (x1 : Int32) (h : am_H) : Option am_O := (if ¬ x1 = 0 then (if 3 ≤ x1 then (if ¬ x1 = 3 then (fg_459_32 x0 x1 x0 14 h) else (fg_459_32 x0 x1 x0 1 h)) else (fg_459_32 x0 x1 x0 0 h)) else (if am_pOk 12 x0 h then am_cV true (fm_335 x0 5 0 h) (fun h6 => some (.inl (none, h6))) else none))
theorem rg_459_0 {X : am_X} {d : Nat} {lv : am_LV} (x0 : Value) (x1 : Int32) (h : am_H) (o : am_O) (l0 : lv.lookup 0 = some x0) (l1 : lv.lookup 1 = some (.int x1)) (i0 : am_isR x0 = true) (hs : fg_459_0 x0 x1 h = some o) : am_W X (d + 1) 459 0 lv [] h (fun q => q = o) := by
  unfold fg_459_0 at hs
  refine aw_iload_n (pc1 := 1) at_459_0 l1 rfl ?_
  by_cases c1 : ¬ x1 = 0
  · rw [if_pos c1] at hs
    refine aw_ifne_t at_459_1 c1 ?_
    refine aw_vload_n (pc1 := 12) at_459_11 l0 i0 rfl ?_
    refine aw_iload_n (pc1 := 13) at_459_12 l1 rfl ?_
    refine aw_iconst (v := 3) (pc1 := 14) at_459_13 (by decide) rfl ?_
    by_cases c2 : 3 ≤ x1
    · rw [if_pos c2] at hs
      refine aw_icge_t at_459_14 c2 ?_
      refine aw_iload_n (pc1 := 22) at_459_21 l1 rfl ?_
      refine aw_iconst (v := 3) (pc1 := 23) at_459_22 (by decide) rfl ?_
      by_cases c3 : ¬ x1 = 3
      · rw [if_pos c3] at hs
        refine aw_icne_t at_459_23 c3 ?_
        refine aw_bipush (v := 14) (pc1 := 32) at_459_30 (by decide) rfl ?_
        exact rg_459_32 x0 x1 x0 14 h o l0 l1 i0 i0 hs
      · rw [if_neg c3] at hs
        refine aw_icne_f (pc1 := 26) at_459_23 c3 rfl ?_
        refine aw_iconst (v := 1) (pc1 := 27) at_459_26 (by decide) rfl ?_
        refine aw_goto at_459_27 ?_
        exact rg_459_32 x0 x1 x0 1 h o l0 l1 i0 i0 hs
    · rw [if_neg c2] at hs
      refine aw_icge_f (pc1 := 17) at_459_14 c2 rfl ?_
      refine aw_iconst (v := 0) (pc1 := 18) at_459_17 (by decide) rfl ?_
      refine aw_goto at_459_18 ?_
      exact rg_459_32 x0 x1 x0 0 h o l0 l1 i0 i0 hs
  · rw [if_neg c1] at hs
    refine aw_ifne_f (pc1 := 4) at_459_1 c1 rfl ?_
    refine aw_vload_n (pc1 := 5) at_459_4 l0 i0 rfl ?_
    refine aw_iconst (v := 5) (pc1 := 6) at_459_5 (by decide) rfl ?_
    refine aw_iconst (v := 0) (pc1 := 7) at_459_6 (by decide) rfl ?_
    obtain ⟨z4, hs1⟩ := am_ift hs
    clear hs
    refine aw_call (F := fm_335 x0 5 0 h) (t := true) (na := 3) (kd := 1) (as := [x0, (.int 5), (.int 0)]) at_459_7 (am_k3v kb_335) mn_335 mk_335 rfl rfl (am_ok_v mi_335 (am_hl rfl (am_ccR i0 (am_ccI (am_ccI am_cats_0))) rfl) z4) (am_hc am_cats_0 rfl) (fun _ => ⟨rfl, hh_459⟩) (fun o1 hz9 => rm_335 x0 5 0 h o1 i0 hz9) ?_
    rcases am_cV_s hs1 with ⟨h6, f7, hs2⟩ | hs2
    · clear hs1
      refine Or.inl ⟨_, _, f7, ?_⟩
      show am_W X _ 459 10 _ [] h6 _
      cases hs2
      exact aw_vret at_459_10 rt_459 rfl
    · clear hs1
      exact Or.inr hs2
def fm_459 (y0 : Value) (y1 : Int32) (h : am_H) : Option am_O := fg_459_0 y0 y1 h
theorem rm_459 {X : am_X} {d : Nat} (y0 : Value) (y1 : Int32) (h : am_H) (o : am_O) (i0 : am_isR y0 = true) (hs : fm_459 y0 y1 h = some o) : am_W X (d + 1) 459 0 (am_args 0 [y0, .int y1]) [] h (fun q => q = o) := by
  rw [am_args_R i0, am_args_I]
  exact rg_459_0 y0 y1 h o rfl rfl i0 hs
def fg_458_118 (N : Nat) (h : am_H) : Option am_O := some (.inl (none, h))
theorem rg_458_118 {X : am_X} {d : Nat} {N : Nat} {lv : am_LV} (h : am_H) (o : am_O) (hs : fg_458_118 N h = some o) : am_W X (d + 2) 458 118 lv [] h (fun q => q = o) := by
  unfold fg_458_118 at hs
  cases hs
  exact aw_vret at_458_118 rt_458 rfl
def fg_458_84 (N : Nat) (rec_17 : Value → Int32 → Int32 → Int32 → Int32 → am_H → Option am_O) (x0 : Value) (x1 : Int32) (x2 : Int32) (x3 : Int32) (x4 : Int32) (s0 : Int32) (h : am_H) : Option am_O := ((am_vR (am_pG 3093 x0 h)).bind fun v1 => ((am_pA 0 v1 x4 h).bind fun v3 => (if am_pOk 12 x0 h then am_cV true (fm_335 x0 v3 s0 h) (fun h7 => (rec_17 x0 x1 x2 x3 ((x4 + 1)) h7)) else none)))
theorem rg_458_84 {X : am_X} {d : Nat} {N : Nat} {rec_17 : Value → Int32 → Int32 → Int32 → Int32 → am_H → Option am_O} (q_17 : ∀ (x0 : Value) (x1 : Int32) (x2 : Int32) (x3 : Int32) (x4 : Int32) (h : am_H) (o : am_O), rec_17 x0 x1 x2 x3 x4 h = some o → ∀ lv : am_LV, (lv.lookup 0 = some x0) → (lv.lookup 1 = some (.int x1)) → (lv.lookup 2 = some (.int x2)) → (lv.lookup 3 = some (.int x3)) → (lv.lookup 4 = some (.int x4)) → (am_isR x0 = true) → am_W X (d + 2) 458 17 lv [] h (fun q => q = o)) {lv : am_LV} (x0 : Value) (x1 : Int32) (x2 : Int32) (x3 : Int32) (x4 : Int32) (s0 : Int32) (h : am_H) (o : am_O) (l0 : lv.lookup 0 = some x0) (l1 : lv.lookup 1 = some (.int x1)) (l2 : lv.lookup 2 = some (.int x2)) (l3 : lv.lookup 3 = some (.int x3)) (l4 : lv.lookup 4 = some (.int x4)) (i0 : am_isR x0 = true) (hs : fg_458_84 N rec_17 x0 x1 x2 x3 x4 s0 h = some o) : am_W X (d + 2) 458 84 lv [(.int s0)] h (fun q => q = o) := by
  unfold fg_458_84 at hs
  refine aw_istore (lv1 := am_put1 _ 5 _) (pc1 := 86) at_458_84 rfl rfl ?_
  refine aw_vload_n (pc1 := 87) at_458_86 (am_lk1 l0 rfl rfl) i0 rfl ?_
  refine aw_vload_n (pc1 := 88) at_458_87 (am_lk1 l0 rfl rfl) i0 rfl ?_
  obtain ⟨v1, e2, hs1⟩ := am_bind hs
  clear hs
  refine aw_pG (pc1 := 91) at_458_88 (am_vR_s e2).1 rfl ?_
  refine aw_iload (pc1 := 93) at_458_91 (am_lk1 l4 rfl rfl) rfl ?_
  obtain ⟨v3, e4, hs2⟩ := am_bind hs1
  clear hs1
  refine aw_pA (pc1 := 94) at_458_93 (Or.inl ⟨rfl, rfl⟩) e4 rfl ?_
  refine aw_iload (pc1 := 96) at_458_94 am_lk0 rfl ?_
  obtain ⟨z5, hs3⟩ := am_ift hs2
  clear hs2
  refine aw_call (F := fm_335 x0 v3 s0 h) (t := true) (na := 3) (kd := 1) (as := [x0, (.int v3), (.int s0)]) at_458_96 (am_k3v kb_335) mn_335 mk_335 rfl rfl (am_ok_v mi_335 (am_hl rfl (am_ccR i0 (am_ccI (am_ccI am_cats_0))) rfl) z5) (am_hc am_cats_0 rfl) (fun _ => ⟨rfl, hh_458⟩) (fun o1 hz9 => rm_335 x0 v3 s0 h o1 i0 hz9) ?_
  rcases am_cV_s hs3 with ⟨h7, f8, hs4⟩ | hs4
  · clear hs3
    refine Or.inl ⟨_, _, f8, ?_⟩
    show am_W X _ 458 99 _ [] h7 _
    refine aw_iinc (v := (x4 + 1)) (c := 1) (lv1 := am_put1 _ 4 _) (pc1 := 102) at_458_99 (am_lk1 l4 rfl rfl) (by decide) rfl rfl rfl ?_
    refine aw_goto at_458_102 ?_
    exact q_17 x0 x1 x2 x3 ((x4 + 1)) h7 o hs4 _ (am_lk1 (am_lk1 l0 rfl rfl) rfl rfl) (am_lk1 (am_lk1 l1 rfl rfl) rfl rfl) (am_lk1 (am_lk1 l2 rfl rfl) rfl rfl) (am_lk1 (am_lk1 l3 rfl rfl) rfl rfl) am_lk0 i0
  · clear hs3
    exact Or.inr hs4
def fg_458_82 (N : Nat) (rec_17 : Value → Int32 → Int32 → Int32 → Int32 → am_H → Option am_O) (x0 : Value) (x1 : Int32) (x2 : Int32) (x3 : Int32) (x4 : Int32) (x5 : Int32) (h : am_H) : Option am_O := (fg_458_84 N rec_17 x0 x1 x2 x3 x4 x5 h)
theorem rg_458_82 {X : am_X} {d : Nat} {N : Nat} {rec_17 : Value → Int32 → Int32 → Int32 → Int32 → am_H → Option am_O} (q_17 : ∀ (x0 : Value) (x1 : Int32) (x2 : Int32) (x3 : Int32) (x4 : Int32) (h : am_H) (o : am_O), rec_17 x0 x1 x2 x3 x4 h = some o → ∀ lv : am_LV, (lv.lookup 0 = some x0) → (lv.lookup 1 = some (.int x1)) → (lv.lookup 2 = some (.int x2)) → (lv.lookup 3 = some (.int x3)) → (lv.lookup 4 = some (.int x4)) → (am_isR x0 = true) → am_W X (d + 2) 458 17 lv [] h (fun q => q = o)) {lv : am_LV} (x0 : Value) (x1 : Int32) (x2 : Int32) (x3 : Int32) (x4 : Int32) (x5 : Int32) (h : am_H) (o : am_O) (l0 : lv.lookup 0 = some x0) (l1 : lv.lookup 1 = some (.int x1)) (l2 : lv.lookup 2 = some (.int x2)) (l3 : lv.lookup 3 = some (.int x3)) (l4 : lv.lookup 4 = some (.int x4)) (l5 : lv.lookup 5 = some (.int x5)) (i0 : am_isR x0 = true) (hs : fg_458_82 N rec_17 x0 x1 x2 x3 x4 x5 h = some o) : am_W X (d + 2) 458 82 lv [] h (fun q => q = o) := by
  unfold fg_458_82 at hs
  refine aw_iload (pc1 := 84) at_458_82 l5 rfl ?_
  exact rg_458_84 q_17 x0 x1 x2 x3 x4 x5 h o l0 l1 l2 l3 l4 i0 hs
def fg_458_37 (N : Nat) (rec_17 : Value → Int32 → Int32 → Int32 → Int32 → am_H → Option am_O) (x0 : Value) (x1 : Int32) (x2 : Int32) (x3 : Int32) (x4 : Int32) (h : am_H) : Option am_O := ((am_vR (am_pG 3094 x0 h)).bind fun v1 => ((am_pA 0 v1 x4 h).bind fun v3 => ((am_vR (am_pG 3093 x0 h)).bind fun v5 => ((am_pA 0 v5 x4 h).bind fun v7 => (if v7 ≤ 16 then (fg_458_82 N rec_17 x0 x1 x2 x3 x4 v3 h) else (if x1 ≤ x4 then (fg_458_82 N rec_17 x0 x1 x2 x3 x4 v3 h) else (if ((x4 + 1) + v3) ≤ x1 then (fg_458_82 N rec_17 x0 x1 x2 x3 x4 v3 h) else (fg_458_84 N rec_17 x0 x1 x2 x3 x4 ((v3 + x3)) h))))))))
theorem rg_458_37 {X : am_X} {d : Nat} {N : Nat} {rec_17 : Value → Int32 → Int32 → Int32 → Int32 → am_H → Option am_O} (q_17 : ∀ (x0 : Value) (x1 : Int32) (x2 : Int32) (x3 : Int32) (x4 : Int32) (h : am_H) (o : am_O), rec_17 x0 x1 x2 x3 x4 h = some o → ∀ lv : am_LV, (lv.lookup 0 = some x0) → (lv.lookup 1 = some (.int x1)) → (lv.lookup 2 = some (.int x2)) → (lv.lookup 3 = some (.int x3)) → (lv.lookup 4 = some (.int x4)) → (am_isR x0 = true) → am_W X (d + 2) 458 17 lv [] h (fun q => q = o)) {lv : am_LV} (x0 : Value) (x1 : Int32) (x2 : Int32) (x3 : Int32) (x4 : Int32) (h : am_H) (o : am_O) (l0 : lv.lookup 0 = some x0) (l1 : lv.lookup 1 = some (.int x1)) (l2 : lv.lookup 2 = some (.int x2)) (l3 : lv.lookup 3 = some (.int x3)) (l4 : lv.lookup 4 = some (.int x4)) (i0 : am_isR x0 = true) (hs : fg_458_37 N rec_17 x0 x1 x2 x3 x4 h = some o) : am_W X (d + 2) 458 37 lv [] h (fun q => q = o) := by
  unfold fg_458_37 at hs
  refine aw_vload_n (pc1 := 38) at_458_37 l0 i0 rfl ?_
  obtain ⟨v1, e2, hs1⟩ := am_bind hs
  clear hs
  refine aw_pG (pc1 := 41) at_458_38 (am_vR_s e2).1 rfl ?_
  refine aw_iload (pc1 := 43) at_458_41 l4 rfl ?_
  obtain ⟨v3, e4, hs2⟩ := am_bind hs1
  clear hs1
  refine aw_pA (pc1 := 44) at_458_43 (Or.inl ⟨rfl, rfl⟩) e4 rfl ?_
  refine aw_istore (lv1 := am_put1 _ 5 _) (pc1 := 46) at_458_44 rfl rfl ?_
  refine aw_vload_n (pc1 := 47) at_458_46 (am_lk1 l0 rfl rfl) i0 rfl ?_
  obtain ⟨v5, e6, hs3⟩ := am_bind hs2
  clear hs2
  refine aw_pG (pc1 := 50) at_458_47 (am_vR_s e6).1 rfl ?_
  refine aw_iload (pc1 := 52) at_458_50 (am_lk1 l4 rfl rfl) rfl ?_
  obtain ⟨v7, e8, hs4⟩ := am_bind hs3
  clear hs3
  refine aw_pA (pc1 := 53) at_458_52 (Or.inl ⟨rfl, rfl⟩) e8 rfl ?_
  refine aw_bipush (v := 16) (pc1 := 55) at_458_53 (by decide) rfl ?_
  by_cases c9 : v7 ≤ 16
  · rw [if_pos c9] at hs4
    refine aw_icle_t at_458_55 c9 ?_
    exact rg_458_82 q_17 x0 x1 x2 x3 x4 v3 h o (am_lk1 l0 rfl rfl) (am_lk1 l1 rfl rfl) (am_lk1 l2 rfl rfl) (am_lk1 l3 rfl rfl) (am_lk1 l4 rfl rfl) am_lk0 i0 hs4
  · rw [if_neg c9] at hs4
    refine aw_icle_f (pc1 := 58) at_458_55 c9 rfl ?_
    refine aw_iload (pc1 := 60) at_458_58 (am_lk1 l4 rfl rfl) rfl ?_
    refine aw_iload_n (pc1 := 61) at_458_60 (am_lk1 l1 rfl rfl) rfl ?_
    by_cases c10 : x1 ≤ x4
    · rw [if_pos c10] at hs4
      refine aw_icge_t at_458_61 c10 ?_
      exact rg_458_82 q_17 x0 x1 x2 x3 x4 v3 h o (am_lk1 l0 rfl rfl) (am_lk1 l1 rfl rfl) (am_lk1 l2 rfl rfl) (am_lk1 l3 rfl rfl) (am_lk1 l4 rfl rfl) am_lk0 i0 hs4
    · rw [if_neg c10] at hs4
      refine aw_icge_f (pc1 := 64) at_458_61 c10 rfl ?_
      refine aw_iload (pc1 := 66) at_458_64 (am_lk1 l4 rfl rfl) rfl ?_
      refine aw_iconst (v := 1) (pc1 := 67) at_458_66 (by decide) rfl ?_
      refine aw_iadd (v := (x4 + 1)) (pc1 := 68) at_458_67 rfl rfl ?_
      refine aw_iload (pc1 := 70) at_458_68 am_lk0 rfl ?_
      refine aw_iadd (v := ((x4 + 1) + v3)) (pc1 := 71) at_458_70 rfl rfl ?_
      refine aw_iload_n (pc1 := 72) at_458_71 (am_lk1 l1 rfl rfl) rfl ?_
      by_cases c11 : ((x4 + 1) + v3) ≤ x1
      · rw [if_pos c11] at hs4
        refine aw_icle_t at_458_72 c11 ?_
        exact rg_458_82 q_17 x0 x1 x2 x3 x4 v3 h o (am_lk1 l0 rfl rfl) (am_lk1 l1 rfl rfl) (am_lk1 l2 rfl rfl) (am_lk1 l3 rfl rfl) (am_lk1 l4 rfl rfl) am_lk0 i0 hs4
      · rw [if_neg c11] at hs4
        refine aw_icle_f (pc1 := 75) at_458_72 c11 rfl ?_
        refine aw_iload (pc1 := 77) at_458_75 am_lk0 rfl ?_
        refine aw_iload_n (pc1 := 78) at_458_77 (am_lk1 l3 rfl rfl) rfl ?_
        refine aw_iadd (v := (v3 + x3)) (pc1 := 79) at_458_78 rfl rfl ?_
        refine aw_goto at_458_79 ?_
        exact rg_458_84 q_17 x0 x1 x2 x3 x4 ((v3 + x3)) h o (am_lk1 l0 rfl rfl) (am_lk1 l1 rfl rfl) (am_lk1 l2 rfl rfl) (am_lk1 l3 rfl rfl) (am_lk1 l4 rfl rfl) i0 hs4
def fg_458_17 (N : Nat) : Nat → Value → Int32 → Int32 → Int32 → Int32 → am_H → Option am_O
  | 0 => fun _ _ _ _ _ _ => none
  | K + 1 => fun x0 x1 x2 x3 x4 h => ((am_vI (am_pG 3090 x0 h)).bind fun v1 => (if v1 ≤ x4 then ((am_vI (am_pG 3090 x0 h)).bind fun v4 => (if ¬ x1 = v4 then (fg_458_118 N h) else (if am_pOk 12 x0 h then am_cV true (fm_459 x0 x2 h) (fun h9 => (fg_458_118 N h9)) else none))) else (if ¬ x4 = x1 then (fg_458_37 N (fg_458_17 N K) x0 x1 x2 x3 x4 h) else (if am_pOk 12 x0 h then am_cV true (fm_459 x0 x2 h) (fun h14 => (fg_458_37 N (fg_458_17 N K) x0 x1 x2 x3 x4 h14)) else none))))
theorem rg_458_17 {X : am_X} {d : Nat} {N : Nat} : ∀ (K : Nat) (x0 : Value) (x1 : Int32) (x2 : Int32) (x3 : Int32) (x4 : Int32) (h : am_H) (o : am_O), fg_458_17 N K x0 x1 x2 x3 x4 h = some o → ∀ lv : am_LV, (lv.lookup 0 = some x0) → (lv.lookup 1 = some (.int x1)) → (lv.lookup 2 = some (.int x2)) → (lv.lookup 3 = some (.int x3)) → (lv.lookup 4 = some (.int x4)) → (am_isR x0 = true) → am_W X (d + 2) 458 17 lv [] h (fun q => q = o) := by
  intro K
  induction K with
  | zero => intro x0 x1 x2 x3 x4 h o hs; cases hs
  | succ K ih =>
    intro x0 x1 x2 x3 x4 h o hs lv l0 l1 l2 l3 l4 i0
    unfold fg_458_17 at hs
    refine aw_iload (pc1 := 19) at_458_17 l4 rfl ?_
    refine aw_vload_n (pc1 := 20) at_458_19 l0 i0 rfl ?_
    obtain ⟨v1, e2, hs1⟩ := am_bind hs
    clear hs
    refine aw_pG (pc1 := 23) at_458_20 (am_vI_s e2) rfl ?_
    by_cases c3 : v1 ≤ x4
    · rw [if_pos c3] at hs1
      refine aw_icge_t at_458_23 c3 ?_
      refine aw_iload_n (pc1 := 106) at_458_105 l1 rfl ?_
      refine aw_vload_n (pc1 := 107) at_458_106 l0 i0 rfl ?_
      obtain ⟨v4, e5, hs2⟩ := am_bind hs1
      clear hs1
      refine aw_pG (pc1 := 110) at_458_107 (am_vI_s e5) rfl ?_
      by_cases c6 : ¬ x1 = v4
      · rw [if_pos c6] at hs2
        refine aw_icne_t at_458_110 c6 ?_
        exact rg_458_118 h o   hs2
      · rw [if_neg c6] at hs2
        refine aw_icne_f (pc1 := 113) at_458_110 c6 rfl ?_
        refine aw_vload_n (pc1 := 114) at_458_113 l0 i0 rfl ?_
        refine aw_iload_n (pc1 := 115) at_458_114 l2 rfl ?_
        obtain ⟨z7, hs3⟩ := am_ift hs2
        clear hs2
        refine aw_call (F := fm_459 x0 x2 h) (t := true) (na := 2) (kd := 1) (as := [x0, (.int x2)]) at_458_115 (am_k3v kb_459) mn_459 mk_459 rfl rfl (am_ok_v mi_459 (am_hl rfl (am_ccR i0 (am_ccI am_cats_0)) rfl) z7) (am_hc am_cats_0 rfl) (fun _ => ⟨rfl, hh_458⟩) (fun o1 hz9 => rm_459 x0 x2 h o1 i0 hz9) ?_
        rcases am_cV_s hs3 with ⟨h9, f10, hs4⟩ | hs4
        · clear hs3
          refine Or.inl ⟨_, _, f10, ?_⟩
          show am_W X _ 458 118 _ [] h9 _
          exact rg_458_118 h9 o   hs4
        · clear hs3
          exact Or.inr hs4
    · rw [if_neg c3] at hs1
      refine aw_icge_f (pc1 := 26) at_458_23 c3 rfl ?_
      refine aw_iload (pc1 := 28) at_458_26 l4 rfl ?_
      refine aw_iload_n (pc1 := 29) at_458_28 l1 rfl ?_
      by_cases c11 : ¬ x4 = x1
      · rw [if_pos c11] at hs1
        refine aw_icne_t at_458_29 c11 ?_
        exact rg_458_37 (fun z0 z1 z2 z3 z4 h o hs1 => ih z0 z1 z2 z3 z4 h o hs1) x0 x1 x2 x3 x4 h o l0 l1 l2 l3 l4 i0 hs1
      · rw [if_neg c11] at hs1
        refine aw_icne_f (pc1 := 32) at_458_29 c11 rfl ?_
        refine aw_vload_n (pc1 := 33) at_458_32 l0 i0 rfl ?_
        refine aw_iload_n (pc1 := 34) at_458_33 l2 rfl ?_
        obtain ⟨z12, hs5⟩ := am_ift hs1
        clear hs1
        refine aw_call (F := fm_459 x0 x2 h) (t := true) (na := 2) (kd := 1) (as := [x0, (.int x2)]) at_458_34 (am_k3v kb_459) mn_459 mk_459 rfl rfl (am_ok_v mi_459 (am_hl rfl (am_ccR i0 (am_ccI am_cats_0)) rfl) z12) (am_hc am_cats_0 rfl) (fun _ => ⟨rfl, hh_458⟩) (fun o1 hz9 => rm_459 x0 x2 h o1 i0 hz9) ?_
        rcases am_cV_s hs5 with ⟨h14, f15, hs6⟩ | hs6
        · clear hs5
          refine Or.inl ⟨_, _, f15, ?_⟩
          show am_W X _ 458 37 _ [] h14 _
          exact rg_458_37 (fun z0 z1 z2 z3 z4 h o hs6 => ih z0 z1 z2 z3 z4 h o hs6) x0 x1 x2 x3 x4 h14 o l0 l1 l2 l3 l4 i0 hs6
        · clear hs5
          exact Or.inr hs6
def fg_458_9 (N : Nat) (x0 : Value) (x1 : Int32) (x2 : Int32) (s0 : Int32) (h : am_H) : Option am_O := (if am_pOk 12 x0 h then am_cV true (fm_451 x0 h) (fun h3 => (fg_458_17 N N x0 x1 x2 s0 0 h3)) else none)
theorem rg_458_9 {X : am_X} {d : Nat} {N : Nat} {lv : am_LV} (x0 : Value) (x1 : Int32) (x2 : Int32) (s0 : Int32) (h : am_H) (o : am_O) (l0 : lv.lookup 0 = some x0) (l1 : lv.lookup 1 = some (.int x1)) (l2 : lv.lookup 2 = some (.int x2)) (i0 : am_isR x0 = true) (hs : fg_458_9 N x0 x1 x2 s0 h = some o) : am_W X (d + 2) 458 9 lv [(.int s0)] h (fun q => q = o) := by
  unfold fg_458_9 at hs
  refine aw_istore_n (lv1 := am_put1 _ 3 _) (pc1 := 10) at_458_9 rfl rfl ?_
  refine aw_vload_n (pc1 := 11) at_458_10 (am_lk1 l0 rfl rfl) i0 rfl ?_
  obtain ⟨z1, hs1⟩ := am_ift hs
  clear hs
  refine aw_call (F := fm_451 x0 h) (t := true) (na := 1) (kd := 1) (as := [x0]) at_458_11 (am_k3v kb_451) mn_451 mk_451 rfl rfl (am_ok_v mi_451 (am_hl rfl (am_ccR i0 am_cats_0) rfl) z1) (am_hc am_cats_0 rfl) (fun _ => ⟨rfl, hh_458⟩) (fun o1 hz9 => rm_451 x0 h o1 i0 hz9) ?_
  rcases am_cV_s hs1 with ⟨h3, f4, hs2⟩ | hs2
  · clear hs1
    refine Or.inl ⟨_, _, f4, ?_⟩
    show am_W X _ 458 14 _ [] h3 _
    refine aw_iconst (v := 0) (pc1 := 15) at_458_14 (by decide) rfl ?_
    refine aw_istore (lv1 := am_put1 _ 4 _) (pc1 := 17) at_458_15 rfl rfl ?_
    exact rg_458_17 N x0 x1 x2 s0 0 h3 o hs2 _ (am_lk1 (am_lk1 l0 rfl rfl) rfl rfl) (am_lk1 (am_lk1 l1 rfl rfl) rfl rfl) (am_lk1 (am_lk1 l2 rfl rfl) rfl rfl) (am_lk1 am_lk0 rfl rfl) am_lk0 i0
  · clear hs1
    exact Or.inr hs2
def fg_458_0 (N : Nat) (x0 : Value) (x1 : Int32) (x2 : Int32) (h : am_H) : Option am_O := (if ¬ x2 = 0 then (fg_458_9 N x0 x1 x2 2 h) else (fg_458_9 N x0 x1 x2 1 h))
theorem rg_458_0 {X : am_X} {d : Nat} {N : Nat} {lv : am_LV} (x0 : Value) (x1 : Int32) (x2 : Int32) (h : am_H) (o : am_O) (l0 : lv.lookup 0 = some x0) (l1 : lv.lookup 1 = some (.int x1)) (l2 : lv.lookup 2 = some (.int x2)) (i0 : am_isR x0 = true) (hs : fg_458_0 N x0 x1 x2 h = some o) : am_W X (d + 2) 458 0 lv [] h (fun q => q = o) := by
  unfold fg_458_0 at hs
  refine aw_iload_n (pc1 := 1) at_458_0 l2 rfl ?_
  by_cases c1 : ¬ x2 = 0
  · rw [if_pos c1] at hs
    refine aw_ifne_t at_458_1 c1 ?_
    refine aw_iconst (v := 2) (pc1 := 9) at_458_8 (by decide) rfl ?_
    exact rg_458_9 x0 x1 x2 2 h o l0 l1 l2 i0 hs
  · rw [if_neg c1] at hs
    refine aw_ifne_f (pc1 := 4) at_458_1 c1 rfl ?_
    refine aw_iconst (v := 1) (pc1 := 5) at_458_4 (by decide) rfl ?_
    refine aw_goto at_458_5 ?_
    exact rg_458_9 x0 x1 x2 1 h o l0 l1 l2 i0 hs
def fm_458 (N : Nat) (y0 : Value) (y1 : Int32) (y2 : Int32) (h : am_H) : Option am_O := fg_458_0 N y0 y1 y2 h
theorem rm_458 {X : am_X} {d : Nat} {N : Nat} (y0 : Value) (y1 : Int32) (y2 : Int32) (h : am_H) (o : am_O) (i0 : am_isR y0 = true) (hs : fm_458 N y0 y1 y2 h = some o) : am_W X (d + 2) 458 0 (am_args 0 [y0, .int y1, .int y2]) [] h (fun q => q = o) := by
  rw [am_args_R i0, am_args_I, am_args_I]
  exact rg_458_0 y0 y1 y2 h o rfl rfl rfl i0 hs
def fg_457_57 (N : Nat) (h : am_H) : Option am_O := some (.inl (none, h))
theorem rg_457_57 {X : am_X} {d : Nat} {N : Nat} {lv : am_LV} (h : am_H) (o : am_O) (hs : fg_457_57 N h = some o) : am_W X (d + 4) 457 57 lv [] h (fun q => q = o) := by
  unfold fg_457_57 at hs
  cases hs
  exact aw_vret at_457_57 rt_457 rfl
def fg_457_51 (N : Nat) (rec_2 : Value → Int32 → am_H → Option am_O) (x0 : Value) (x1 : Int32) (h : am_H) : Option am_O := (rec_2 x0 ((x1 + 1)) h)
theorem rg_457_51 {X : am_X} {d : Nat} {N : Nat} {rec_2 : Value → Int32 → am_H → Option am_O} (q_2 : ∀ (x0 : Value) (x1 : Int32) (h : am_H) (o : am_O), rec_2 x0 x1 h = some o → ∀ lv : am_LV, (lv.lookup 0 = some x0) → (lv.lookup 1 = some (.int x1)) → (am_isR x0 = true) → am_W X (d + 4) 457 2 lv [] h (fun q => q = o)) {lv : am_LV} (x0 : Value) (x1 : Int32) (h : am_H) (o : am_O) (l0 : lv.lookup 0 = some x0) (l1 : lv.lookup 1 = some (.int x1)) (i0 : am_isR x0 = true) (hs : fg_457_51 N rec_2 x0 x1 h = some o) : am_W X (d + 4) 457 51 lv [] h (fun q => q = o) := by
  unfold fg_457_51 at hs
  refine aw_iinc (v := (x1 + 1)) (c := 1) (lv1 := am_put1 _ 1 _) (pc1 := 54) at_457_51 l1 (by decide) rfl rfl rfl ?_
  refine aw_goto at_457_54 ?_
  exact q_2 x0 ((x1 + 1)) h o hs _ (am_lk1 l0 rfl (by rw [am_isRc i0]; rfl)) am_lk0 i0
def fg_457_19 (N : Nat) (rec_2 : Value → Int32 → am_H → Option am_O) : Nat → Value → Int32 → Int32 → am_H → Option am_O
  | 0 => fun _ _ _ _ => none
  | K + 1 => fun x0 x1 x2 h => (if 5 ≤ x2 then (fg_457_51 N rec_2 x0 x1 h) else ((am_vI (am_pG 3167 x0 h)).bind fun v2 => (if ¬ v2 = 0 then (fg_457_51 N rec_2 x0 x1 h) else (if am_pOk 12 x0 h then am_cV true (fm_458 N x0 x1 x2 h) (fun h7 => (if am_pOk 12 x0 h7 then am_cI true (fm_444 N x0 h7) (fun v10 h11 => ((am_pP 3167 x0 (.int v10) h11).bind fun h13 => (fg_457_19 N rec_2 K x0 x1 ((x2 + 1)) h13))) else none)) else none))))
theorem rg_457_19 {X : am_X} {d : Nat} {N : Nat} {rec_2 : Value → Int32 → am_H → Option am_O} (q_2 : ∀ (x0 : Value) (x1 : Int32) (h : am_H) (o : am_O), rec_2 x0 x1 h = some o → ∀ lv : am_LV, (lv.lookup 0 = some x0) → (lv.lookup 1 = some (.int x1)) → (am_isR x0 = true) → am_W X (d + 4) 457 2 lv [] h (fun q => q = o)) : ∀ (K : Nat) (x0 : Value) (x1 : Int32) (x2 : Int32) (h : am_H) (o : am_O), fg_457_19 N rec_2 K x0 x1 x2 h = some o → ∀ lv : am_LV, (lv.lookup 0 = some x0) → (lv.lookup 1 = some (.int x1)) → (lv.lookup 2 = some (.int x2)) → (am_isR x0 = true) → am_W X (d + 4) 457 19 lv [] h (fun q => q = o) := by
  intro K
  induction K with
  | zero => intro x0 x1 x2 h o hs; cases hs
  | succ K ih =>
    intro x0 x1 x2 h o hs lv l0 l1 l2 i0
    unfold fg_457_19 at hs
    refine aw_iload_n (pc1 := 20) at_457_19 l2 rfl ?_
    refine aw_iconst (v := 5) (pc1 := 21) at_457_20 (by decide) rfl ?_
    by_cases c1 : 5 ≤ x2
    · rw [if_pos c1] at hs
      refine aw_icge_t at_457_21 c1 ?_
      exact rg_457_51 q_2 x0 x1 h o l0 l1 i0 hs
    · rw [if_neg c1] at hs
      refine aw_icge_f (pc1 := 24) at_457_21 c1 rfl ?_
      refine aw_vload_n (pc1 := 25) at_457_24 l0 i0 rfl ?_
      obtain ⟨v2, e3, hs1⟩ := am_bind hs
      clear hs
      refine aw_pG (pc1 := 28) at_457_25 (am_vI_s e3) rfl ?_
      by_cases c4 : ¬ v2 = 0
      · rw [if_pos c4] at hs1
        refine aw_ifne_t at_457_28 c4 ?_
        exact rg_457_51 q_2 x0 x1 h o l0 l1 i0 hs1
      · rw [if_neg c4] at hs1
        refine aw_ifne_f (pc1 := 31) at_457_28 c4 rfl ?_
        refine aw_vload_n (pc1 := 32) at_457_31 l0 i0 rfl ?_
        refine aw_iload_n (pc1 := 33) at_457_32 l1 rfl ?_
        refine aw_iload_n (pc1 := 34) at_457_33 l2 rfl ?_
        obtain ⟨z5, hs2⟩ := am_ift hs1
        clear hs1
        refine aw_call (F := fm_458 N x0 x1 x2 h) (t := true) (na := 3) (kd := 1) (as := [x0, (.int x1), (.int x2)]) at_457_34 (am_k3v kb_458) mn_458 mk_458 rfl rfl (am_ok_v mi_458 (am_hl rfl (am_ccR i0 (am_ccI (am_ccI am_cats_0))) rfl) z5) (am_hc am_cats_0 rfl) (fun _ => ⟨rfl, hh_457⟩) (fun o1 hz9 => rm_458 x0 x1 x2 h o1 i0 hz9) ?_
        rcases am_cV_s hs2 with ⟨h7, f8, hs3⟩ | hs3
        · clear hs2
          refine Or.inl ⟨_, _, f8, ?_⟩
          show am_W X _ 457 37 _ [] h7 _
          refine aw_vload_n (pc1 := 38) at_457_37 l0 i0 rfl ?_
          refine aw_vload_n (pc1 := 39) at_457_38 l0 i0 rfl ?_
          obtain ⟨z9, hs4⟩ := am_ift hs3
          clear hs3
          refine aw_call (F := fm_444 N x0 h7) (t := true) (na := 1) (kd := 1) (as := [x0]) at_457_39 (am_k3v kb_444) mn_444 mk_444 rfl rfl (am_ok_v mi_444 (am_hl rfl (am_ccR i0 am_cats_0) rfl) z9) (am_hc (am_ccR i0 am_cats_0) rfl) (fun _ => ⟨rfl, hh_457⟩) (fun o1 hz9 => rm_444 x0 h7 o1 i0 hz9) ?_
          rcases am_cI_s hs4 with ⟨v10, h11, f12, hs5⟩ | hs5
          · clear hs4
            refine Or.inl ⟨_, _, f12, ?_⟩
            show am_W X _ 457 42 _ [(.int v10), x0] h11 _
            obtain ⟨h13, e14, hs6⟩ := am_bind hs5
            clear hs5
            refine aw_pP (pc1 := 45) at_457_42 e14 rfl ?_
            refine aw_iinc (v := (x2 + 1)) (c := 1) (lv1 := am_put1 _ 2 _) (pc1 := 48) at_457_45 l2 (by decide) rfl rfl rfl ?_
            refine aw_goto at_457_48 ?_
            exact ih x0 x1 ((x2 + 1)) h13 o hs6 _ (am_lk1 l0 rfl rfl) (am_lk1 l1 rfl rfl) am_lk0 i0
          · clear hs4
            exact Or.inr hs5
        · clear hs2
          exact Or.inr hs3
def fg_457_2 (N : Nat) : Nat → Value → Int32 → am_H → Option am_O
  | 0 => fun _ _ _ => none
  | K + 1 => fun x0 x1 h => ((am_vI (am_pG 3090 x0 h)).bind fun v1 => (if v1 < x1 then (fg_457_57 N h) else ((am_vI (am_pG 3167 x0 h)).bind fun v4 => (if ¬ v4 = 0 then (fg_457_57 N h) else (fg_457_19 N (fg_457_2 N K) N x0 x1 0 h)))))
theorem rg_457_2 {X : am_X} {d : Nat} {N : Nat} : ∀ (K : Nat) (x0 : Value) (x1 : Int32) (h : am_H) (o : am_O), fg_457_2 N K x0 x1 h = some o → ∀ lv : am_LV, (lv.lookup 0 = some x0) → (lv.lookup 1 = some (.int x1)) → (am_isR x0 = true) → am_W X (d + 4) 457 2 lv [] h (fun q => q = o) := by
  intro K
  induction K with
  | zero => intro x0 x1 h o hs; cases hs
  | succ K ih =>
    intro x0 x1 h o hs lv l0 l1 i0
    unfold fg_457_2 at hs
    refine aw_iload_n (pc1 := 3) at_457_2 l1 rfl ?_
    refine aw_vload_n (pc1 := 4) at_457_3 l0 i0 rfl ?_
    obtain ⟨v1, e2, hs1⟩ := am_bind hs
    clear hs
    refine aw_pG (pc1 := 7) at_457_4 (am_vI_s e2) rfl ?_
    by_cases c3 : v1 < x1
    · rw [if_pos c3] at hs1
      refine aw_icgt_t at_457_7 c3 ?_
      exact rg_457_57 h o   hs1
    · rw [if_neg c3] at hs1
      refine aw_icgt_f (pc1 := 10) at_457_7 c3 rfl ?_
      refine aw_vload_n (pc1 := 11) at_457_10 l0 i0 rfl ?_
      obtain ⟨v4, e5, hs2⟩ := am_bind hs1
      clear hs1
      refine aw_pG (pc1 := 14) at_457_11 (am_vI_s e5) rfl ?_
      by_cases c6 : ¬ v4 = 0
      · rw [if_pos c6] at hs2
        refine aw_ifne_t at_457_14 c6 ?_
        exact rg_457_57 h o   hs2
      · rw [if_neg c6] at hs2
        refine aw_ifne_f (pc1 := 17) at_457_14 c6 rfl ?_
        refine aw_iconst (v := 0) (pc1 := 18) at_457_17 (by decide) rfl ?_
        refine aw_istore_n (lv1 := am_put1 _ 2 _) (pc1 := 19) at_457_18 rfl rfl ?_
        exact rg_457_19 (fun z0 z1 h o hs2 => ih z0 z1 h o hs2) N x0 x1 0 h o hs2 _ (am_lk1 l0 rfl rfl) (am_lk1 l1 rfl rfl) am_lk0 i0
def fg_457_0 (N : Nat) (x0 : Value) (h : am_H) : Option am_O := (fg_457_2 N N x0 0 h)
theorem rg_457_0 {X : am_X} {d : Nat} {N : Nat} {lv : am_LV} (x0 : Value) (h : am_H) (o : am_O) (l0 : lv.lookup 0 = some x0) (i0 : am_isR x0 = true) (hs : fg_457_0 N x0 h = some o) : am_W X (d + 4) 457 0 lv [] h (fun q => q = o) := by
  unfold fg_457_0 at hs
  refine aw_iconst (v := 0) (pc1 := 1) at_457_0 (by decide) rfl ?_
  refine aw_istore_n (lv1 := am_put1 _ 1 _) (pc1 := 2) at_457_1 rfl rfl ?_
  exact rg_457_2 N x0 0 h o hs _ (am_lk1 l0 rfl (by rw [am_isRc i0]; rfl)) am_lk0 i0
def fm_457 (N : Nat) (y0 : Value) (h : am_H) : Option am_O := fg_457_0 N y0 h
theorem rm_457 {X : am_X} {d : Nat} {N : Nat} (y0 : Value) (h : am_H) (o : am_O) (i0 : am_isR y0 = true) (hs : fm_457 N y0 h = some o) : am_W X (d + 4) 457 0 (am_args 0 [y0]) [] h (fun q => q = o) := by
  rw [am_args_R i0]
  exact rg_457_0 y0 h o rfl i0 hs
def fg_461_24 (N : Nat) (h : am_H) : Option am_O := some (.inl (some (.int 0), h))
theorem rg_461_24 {X : am_X} {d : Nat} {N : Nat} {lv : am_LV} (h : am_H) (o : am_O) (hs : fg_461_24 N h = some o) : am_W X (d + 4) 461 24 lv [] h (fun q => q = o) := by
  unfold fg_461_24 at hs
  refine aw_iconst (v := 0) (pc1 := 25) at_461_24 (by decide) rfl ?_
  cases hs
  exact aw_iret at_461_25 (by rw [rt_461]; decide) rfl
def fg_461_0 (N : Nat) (x0 : Value) (x1 : Int32) (x2 : Int32) (h : am_H) : Option am_O := am_cI false (fm_327 ((Int32.toInt64 x2)) ((-99)) 99 h) (fun v1 h2 => (if v1 = 0 then (fg_461_24 N h2) else ((am_vR (am_pG 3093 x0 h2)).bind fun v5 => ((am_pA 0 v5 x1 h2).bind fun v7 => (if ¬ x2 = v7 then (if am_pOk 12 x0 h2 then am_cV true (fm_442 N x0 h2) (fun h12 => ((am_vR (am_pG 3088 x0 h12)).bind fun v14 => ((am_pS 0 v14 x1 x2 h12).bind fun h16 => (if am_pOk 12 x0 h16 then am_cI true (fm_444 N x0 h16) (fun v19 h20 => (if am_rfit (some FieldType.boolean) v19 then some (.inl (some (.int v19), h20)) else none)) else none)))) else none) else (fg_461_24 N h2))))))
theorem rg_461_0 {X : am_X} {d : Nat} {N : Nat} {lv : am_LV} (x0 : Value) (x1 : Int32) (x2 : Int32) (h : am_H) (o : am_O) (l0 : lv.lookup 0 = some x0) (l1 : lv.lookup 1 = some (.int x1)) (l2 : lv.lookup 2 = some (.int x2)) (i0 : am_isR x0 = true) (hs : fg_461_0 N x0 x1 x2 h = some o) : am_W X (d + 4) 461 0 lv [] h (fun q => q = o) := by
  unfold fg_461_0 at hs
  refine aw_iload_n (pc1 := 1) at_461_0 l2 rfl ?_
  refine aw_i2l (v := (Int32.toInt64 x2)) (pc1 := 2) at_461_1 rfl rfl ?_
  refine aw_ldc2 (v := (-99)) (pc1 := 5) at_461_2 rfl rfl ?_
  refine aw_ldc2 (v := 99) (pc1 := 8) at_461_5 rfl rfl ?_
  refine aw_call (F := fm_327 ((Int32.toInt64 x2)) ((-99)) 99 h) (t := false) (na := 3) (kd := 0) (as := [(.long (Int32.toInt64 x2)), (.long (-99)), (.long 99)]) at_461_8 (am_k3s kb_327) mn_327 mk_327 rfl rfl (am_ok_s mi_327 (am_hl rfl (am_ccL (am_ccL (am_ccL am_cats_0))) rfl)) (am_hc am_cats_0 rfl) (fun hz9 => by cases hz9) (fun o1 hz9 => rm_327 ((Int32.toInt64 x2)) ((-99)) 99 h o1  hz9) ?_
  rcases am_cI_s hs with ⟨v1, h2, f3, hs1⟩ | hs1
  · clear hs
    refine Or.inl ⟨_, _, f3, ?_⟩
    show am_W X _ 461 11 _ [(.int v1)] h2 _
    by_cases c4 : v1 = 0
    · rw [if_pos c4] at hs1
      refine aw_ifeq_t at_461_11 c4 ?_
      exact rg_461_24 h2 o   hs1
    · rw [if_neg c4] at hs1
      refine aw_ifeq_f (pc1 := 14) at_461_11 c4 rfl ?_
      refine aw_iload_n (pc1 := 15) at_461_14 l2 rfl ?_
      refine aw_vload_n (pc1 := 16) at_461_15 l0 i0 rfl ?_
      obtain ⟨v5, e6, hs2⟩ := am_bind hs1
      clear hs1
      refine aw_pG (pc1 := 19) at_461_16 (am_vR_s e6).1 rfl ?_
      refine aw_iload_n (pc1 := 20) at_461_19 l1 rfl ?_
      obtain ⟨v7, e8, hs3⟩ := am_bind hs2
      clear hs2
      refine aw_pA (pc1 := 21) at_461_20 (Or.inl ⟨rfl, rfl⟩) e8 rfl ?_
      by_cases c9 : ¬ x2 = v7
      · rw [if_pos c9] at hs3
        refine aw_icne_t at_461_21 c9 ?_
        refine aw_vload_n (pc1 := 27) at_461_26 l0 i0 rfl ?_
        obtain ⟨z10, hs4⟩ := am_ift hs3
        clear hs3
        refine aw_call (F := fm_442 N x0 h2) (t := true) (na := 1) (kd := 1) (as := [x0]) at_461_27 (am_k3v kb_442) mn_442 mk_442 rfl rfl (am_ok_v mi_442 (am_hl rfl (am_ccR i0 am_cats_0) rfl) z10) (am_hc am_cats_0 rfl) (fun _ => ⟨rfl, hh_461⟩) (fun o1 hz9 => rm_442 x0 h2 o1 i0 hz9) ?_
        rcases am_cV_s hs4 with ⟨h12, f13, hs5⟩ | hs5
        · clear hs4
          refine Or.inl ⟨_, _, f13, ?_⟩
          show am_W X _ 461 30 _ [] h12 _
          refine aw_vload_n (pc1 := 31) at_461_30 l0 i0 rfl ?_
          obtain ⟨v14, e15, hs6⟩ := am_bind hs5
          clear hs5
          refine aw_pG (pc1 := 34) at_461_31 (am_vR_s e15).1 rfl ?_
          refine aw_iload_n (pc1 := 35) at_461_34 l1 rfl ?_
          refine aw_iload_n (pc1 := 36) at_461_35 l2 rfl ?_
          obtain ⟨h16, e17, hs7⟩ := am_bind hs6
          clear hs6
          refine aw_pS (pc1 := 37) at_461_36 (Or.inl ⟨rfl, rfl⟩) e17 rfl ?_
          refine aw_vload_n (pc1 := 38) at_461_37 l0 i0 rfl ?_
          obtain ⟨z18, hs8⟩ := am_ift hs7
          clear hs7
          refine aw_call (F := fm_444 N x0 h16) (t := true) (na := 1) (kd := 1) (as := [x0]) at_461_38 (am_k3v kb_444) mn_444 mk_444 rfl rfl (am_ok_v mi_444 (am_hl rfl (am_ccR i0 am_cats_0) rfl) z18) (am_hc am_cats_0 rfl) (fun _ => ⟨rfl, hh_461⟩) (fun o1 hz9 => rm_444 x0 h16 o1 i0 hz9) ?_
          rcases am_cI_s hs8 with ⟨v19, h20, f21, hs9⟩ | hs9
          · clear hs8
            refine Or.inl ⟨_, _, f21, ?_⟩
            show am_W X _ 461 41 _ [(.int v19)] h20 _
            obtain ⟨z22, hs10⟩ := am_ift hs9
            clear hs9
            cases hs10
            exact aw_iret at_461_41 (by rw [rt_461]; exact z22) rfl
          · clear hs8
            exact Or.inr hs9
        · clear hs4
          exact Or.inr hs5
      · rw [if_neg c9] at hs3
        refine aw_icne_f (pc1 := 24) at_461_21 c9 rfl ?_
        exact rg_461_24 h2 o   hs3
  · clear hs
    exact Or.inr hs1
def fm_461 (N : Nat) (y0 : Value) (y1 : Int32) (y2 : Int32) (h : am_H) : Option am_O := fg_461_0 N y0 y1 y2 h
theorem rm_461 {X : am_X} {d : Nat} {N : Nat} (y0 : Value) (y1 : Int32) (y2 : Int32) (h : am_H) (o : am_O) (i0 : am_isR y0 = true) (hs : fm_461 N y0 y1 y2 h = some o) : am_W X (d + 4) 461 0 (am_args 0 [y0, .int y1, .int y2]) [] h (fun q => q = o) := by
  rw [am_args_R i0, am_args_I, am_args_I]
  exact rg_461_0 y0 y1 y2 h o rfl rfl rfl i0 hs
def fg_460_87 (N : Nat) (h : am_H) : Option am_O := some (.inl (none, h))
theorem rg_460_87 {X : am_X} {d : Nat} {N : Nat} {lv : am_LV} (h : am_H) (o : am_O) (hs : fg_460_87 N h = some o) : am_W X (d + 5) 460 87 lv [] h (fun q => q = o) := by
  unfold fg_460_87 at hs
  cases hs
  exact aw_vret at_460_87 rt_460 rfl
def fg_460_81 (N : Nat) (rec_2 : Value → Int32 → am_H → Option am_O) (x0 : Value) (x1 : Int32) (h : am_H) : Option am_O := (rec_2 x0 ((x1 + 1)) h)
theorem rg_460_81 {X : am_X} {d : Nat} {N : Nat} {rec_2 : Value → Int32 → am_H → Option am_O} (q_2 : ∀ (x0 : Value) (x1 : Int32) (h : am_H) (o : am_O), rec_2 x0 x1 h = some o → ∀ lv : am_LV, (lv.lookup 0 = some x0) → (lv.lookup 1 = some (.int x1)) → (am_isR x0 = true) → am_W X (d + 5) 460 2 lv [] h (fun q => q = o)) {lv : am_LV} (x0 : Value) (x1 : Int32) (h : am_H) (o : am_O) (l0 : lv.lookup 0 = some x0) (l1 : lv.lookup 1 = some (.int x1)) (i0 : am_isR x0 = true) (hs : fg_460_81 N rec_2 x0 x1 h = some o) : am_W X (d + 5) 460 81 lv [] h (fun q => q = o) := by
  unfold fg_460_81 at hs
  refine aw_iinc (v := (x1 + 1)) (c := 1) (lv1 := am_put1 _ 1 _) (pc1 := 84) at_460_81 l1 (by decide) rfl rfl rfl ?_
  refine aw_goto at_460_84 ?_
  exact q_2 x0 ((x1 + 1)) h o hs _ (am_lk1 l0 rfl (by rw [am_isRc i0]; rfl)) am_lk0 i0
def fg_460_2 (N : Nat) : Nat → Value → Int32 → am_H → Option am_O
  | 0 => fun _ _ _ => none
  | K + 1 => fun x0 x1 h => ((am_vI (am_pG 3090 x0 h)).bind fun v1 => (if v1 ≤ x1 then (fg_460_87 N h) else ((am_vI (am_pG 3167 x0 h)).bind fun v4 => (if ¬ v4 = 0 then (fg_460_87 N h) else ((am_vR (am_pG 3093 x0 h)).bind fun v7 => ((am_pA 0 v7 x1 h).bind fun v9 => (if am_pOk 12 x0 h then am_cI true (fm_461 N x0 x1 ((v9 + 1)) h) (fun v12 h13 => (if ¬ v12 = 0 then (fg_460_81 N (fg_460_2 N K) x0 x1 h13) else (if am_pOk 12 x0 h13 then am_cI true (fm_461 N x0 x1 ((v9 - 1)) h13) (fun v17 h18 => (if ¬ v17 = 0 then (fg_460_81 N (fg_460_2 N K) x0 x1 h18) else (if am_pOk 12 x0 h18 then am_cI true (fm_461 N x0 x1 ((v9 + 10)) h18) (fun v22 h23 => (if ¬ v22 = 0 then (fg_460_81 N (fg_460_2 N K) x0 x1 h23) else (if am_pOk 12 x0 h23 then am_cI true (fm_461 N x0 x1 ((v9 - 10)) h23) (fun v27 h28 => (if ¬ v27 = 0 then (fg_460_81 N (fg_460_2 N K) x0 x1 h28) else (if am_pOk 12 x0 h28 then am_cI true (fm_461 N x0 x1 ((-v9)) h28) (fun v32 h33 => ((am_pP 3167 x0 (.int v32) h33).bind fun h35 => (fg_460_81 N (fg_460_2 N K) x0 x1 h35))) else none))) else none))) else none))) else none))) else none)))))))
theorem rg_460_2 {X : am_X} {d : Nat} {N : Nat} : ∀ (K : Nat) (x0 : Value) (x1 : Int32) (h : am_H) (o : am_O), fg_460_2 N K x0 x1 h = some o → ∀ lv : am_LV, (lv.lookup 0 = some x0) → (lv.lookup 1 = some (.int x1)) → (am_isR x0 = true) → am_W X (d + 5) 460 2 lv [] h (fun q => q = o) := by
  intro K
  induction K with
  | zero => intro x0 x1 h o hs; cases hs
  | succ K ih =>
    intro x0 x1 h o hs lv l0 l1 i0
    unfold fg_460_2 at hs
    refine aw_iload_n (pc1 := 3) at_460_2 l1 rfl ?_
    refine aw_vload_n (pc1 := 4) at_460_3 l0 i0 rfl ?_
    obtain ⟨v1, e2, hs1⟩ := am_bind hs
    clear hs
    refine aw_pG (pc1 := 7) at_460_4 (am_vI_s e2) rfl ?_
    by_cases c3 : v1 ≤ x1
    · rw [if_pos c3] at hs1
      refine aw_icge_t at_460_7 c3 ?_
      exact rg_460_87 h o   hs1
    · rw [if_neg c3] at hs1
      refine aw_icge_f (pc1 := 10) at_460_7 c3 rfl ?_
      refine aw_vload_n (pc1 := 11) at_460_10 l0 i0 rfl ?_
      obtain ⟨v4, e5, hs2⟩ := am_bind hs1
      clear hs1
      refine aw_pG (pc1 := 14) at_460_11 (am_vI_s e5) rfl ?_
      by_cases c6 : ¬ v4 = 0
      · rw [if_pos c6] at hs2
        refine aw_ifne_t at_460_14 c6 ?_
        exact rg_460_87 h o   hs2
      · rw [if_neg c6] at hs2
        refine aw_ifne_f (pc1 := 17) at_460_14 c6 rfl ?_
        refine aw_vload_n (pc1 := 18) at_460_17 l0 i0 rfl ?_
        obtain ⟨v7, e8, hs3⟩ := am_bind hs2
        clear hs2
        refine aw_pG (pc1 := 21) at_460_18 (am_vR_s e8).1 rfl ?_
        refine aw_iload_n (pc1 := 22) at_460_21 l1 rfl ?_
        obtain ⟨v9, e10, hs4⟩ := am_bind hs3
        clear hs3
        refine aw_pA (pc1 := 23) at_460_22 (Or.inl ⟨rfl, rfl⟩) e10 rfl ?_
        refine aw_istore_n (lv1 := am_put1 _ 2 _) (pc1 := 24) at_460_23 rfl rfl ?_
        refine aw_vload_n (pc1 := 25) at_460_24 (am_lk1 l0 rfl rfl) i0 rfl ?_
        refine aw_iload_n (pc1 := 26) at_460_25 (am_lk1 l1 rfl rfl) rfl ?_
        refine aw_iload_n (pc1 := 27) at_460_26 am_lk0 rfl ?_
        refine aw_iconst (v := 1) (pc1 := 28) at_460_27 (by decide) rfl ?_
        refine aw_iadd (v := (v9 + 1)) (pc1 := 29) at_460_28 rfl rfl ?_
        obtain ⟨z11, hs5⟩ := am_ift hs4
        clear hs4
        refine aw_call (F := fm_461 N x0 x1 ((v9 + 1)) h) (t := true) (na := 3) (kd := 1) (as := [x0, (.int x1), (.int (v9 + 1))]) at_460_29 (am_k3v kb_461) mn_461 mk_461 rfl rfl (am_ok_v mi_461 (am_hl rfl (am_ccR i0 (am_ccI (am_ccI am_cats_0))) rfl) z11) (am_hc am_cats_0 rfl) (fun _ => ⟨rfl, hh_460⟩) (fun o1 hz9 => rm_461 x0 x1 ((v9 + 1)) h o1 i0 hz9) ?_
        rcases am_cI_s hs5 with ⟨v12, h13, f14, hs6⟩ | hs6
        · clear hs5
          refine Or.inl ⟨_, _, f14, ?_⟩
          show am_W X _ 460 32 _ [(.int v12)] h13 _
          by_cases c15 : ¬ v12 = 0
          · rw [if_pos c15] at hs6
            refine aw_ifne_t at_460_32 c15 ?_
            exact rg_460_81 (fun z0 z1 h o hs6 => ih z0 z1 h o hs6) x0 x1 h13 o (am_lk1 l0 rfl rfl) (am_lk1 l1 rfl rfl) i0 hs6
          · rw [if_neg c15] at hs6
            refine aw_ifne_f (pc1 := 35) at_460_32 c15 rfl ?_
            refine aw_vload_n (pc1 := 36) at_460_35 (am_lk1 l0 rfl rfl) i0 rfl ?_
            refine aw_iload_n (pc1 := 37) at_460_36 (am_lk1 l1 rfl rfl) rfl ?_
            refine aw_iload_n (pc1 := 38) at_460_37 am_lk0 rfl ?_
            refine aw_iconst (v := 1) (pc1 := 39) at_460_38 (by decide) rfl ?_
            refine aw_isub (v := (v9 - 1)) (pc1 := 40) at_460_39 rfl rfl ?_
            obtain ⟨z16, hs7⟩ := am_ift hs6
            clear hs6
            refine aw_call (F := fm_461 N x0 x1 ((v9 - 1)) h13) (t := true) (na := 3) (kd := 1) (as := [x0, (.int x1), (.int (v9 - 1))]) at_460_40 (am_k3v kb_461) mn_461 mk_461 rfl rfl (am_ok_v mi_461 (am_hl rfl (am_ccR i0 (am_ccI (am_ccI am_cats_0))) rfl) z16) (am_hc am_cats_0 rfl) (fun _ => ⟨rfl, hh_460⟩) (fun o1 hz9 => rm_461 x0 x1 ((v9 - 1)) h13 o1 i0 hz9) ?_
            rcases am_cI_s hs7 with ⟨v17, h18, f19, hs8⟩ | hs8
            · clear hs7
              refine Or.inl ⟨_, _, f19, ?_⟩
              show am_W X _ 460 43 _ [(.int v17)] h18 _
              by_cases c20 : ¬ v17 = 0
              · rw [if_pos c20] at hs8
                refine aw_ifne_t at_460_43 c20 ?_
                exact rg_460_81 (fun z0 z1 h o hs8 => ih z0 z1 h o hs8) x0 x1 h18 o (am_lk1 l0 rfl rfl) (am_lk1 l1 rfl rfl) i0 hs8
              · rw [if_neg c20] at hs8
                refine aw_ifne_f (pc1 := 46) at_460_43 c20 rfl ?_
                refine aw_vload_n (pc1 := 47) at_460_46 (am_lk1 l0 rfl rfl) i0 rfl ?_
                refine aw_iload_n (pc1 := 48) at_460_47 (am_lk1 l1 rfl rfl) rfl ?_
                refine aw_iload_n (pc1 := 49) at_460_48 am_lk0 rfl ?_
                refine aw_bipush (v := 10) (pc1 := 51) at_460_49 (by decide) rfl ?_
                refine aw_iadd (v := (v9 + 10)) (pc1 := 52) at_460_51 rfl rfl ?_
                obtain ⟨z21, hs9⟩ := am_ift hs8
                clear hs8
                refine aw_call (F := fm_461 N x0 x1 ((v9 + 10)) h18) (t := true) (na := 3) (kd := 1) (as := [x0, (.int x1), (.int (v9 + 10))]) at_460_52 (am_k3v kb_461) mn_461 mk_461 rfl rfl (am_ok_v mi_461 (am_hl rfl (am_ccR i0 (am_ccI (am_ccI am_cats_0))) rfl) z21) (am_hc am_cats_0 rfl) (fun _ => ⟨rfl, hh_460⟩) (fun o1 hz9 => rm_461 x0 x1 ((v9 + 10)) h18 o1 i0 hz9) ?_
                rcases am_cI_s hs9 with ⟨v22, h23, f24, hs10⟩ | hs10
                · clear hs9
                  refine Or.inl ⟨_, _, f24, ?_⟩
                  show am_W X _ 460 55 _ [(.int v22)] h23 _
                  by_cases c25 : ¬ v22 = 0
                  · rw [if_pos c25] at hs10
                    refine aw_ifne_t at_460_55 c25 ?_
                    exact rg_460_81 (fun z0 z1 h o hs10 => ih z0 z1 h o hs10) x0 x1 h23 o (am_lk1 l0 rfl rfl) (am_lk1 l1 rfl rfl) i0 hs10
                  · rw [if_neg c25] at hs10
                    refine aw_ifne_f (pc1 := 58) at_460_55 c25 rfl ?_
                    refine aw_vload_n (pc1 := 59) at_460_58 (am_lk1 l0 rfl rfl) i0 rfl ?_
                    refine aw_iload_n (pc1 := 60) at_460_59 (am_lk1 l1 rfl rfl) rfl ?_
                    refine aw_iload_n (pc1 := 61) at_460_60 am_lk0 rfl ?_
                    refine aw_bipush (v := 10) (pc1 := 63) at_460_61 (by decide) rfl ?_
                    refine aw_isub (v := (v9 - 10)) (pc1 := 64) at_460_63 rfl rfl ?_
                    obtain ⟨z26, hs11⟩ := am_ift hs10
                    clear hs10
                    refine aw_call (F := fm_461 N x0 x1 ((v9 - 10)) h23) (t := true) (na := 3) (kd := 1) (as := [x0, (.int x1), (.int (v9 - 10))]) at_460_64 (am_k3v kb_461) mn_461 mk_461 rfl rfl (am_ok_v mi_461 (am_hl rfl (am_ccR i0 (am_ccI (am_ccI am_cats_0))) rfl) z26) (am_hc am_cats_0 rfl) (fun _ => ⟨rfl, hh_460⟩) (fun o1 hz9 => rm_461 x0 x1 ((v9 - 10)) h23 o1 i0 hz9) ?_
                    rcases am_cI_s hs11 with ⟨v27, h28, f29, hs12⟩ | hs12
                    · clear hs11
                      refine Or.inl ⟨_, _, f29, ?_⟩
                      show am_W X _ 460 67 _ [(.int v27)] h28 _
                      by_cases c30 : ¬ v27 = 0
                      · rw [if_pos c30] at hs12
                        refine aw_ifne_t at_460_67 c30 ?_
                        exact rg_460_81 (fun z0 z1 h o hs12 => ih z0 z1 h o hs12) x0 x1 h28 o (am_lk1 l0 rfl rfl) (am_lk1 l1 rfl rfl) i0 hs12
                      · rw [if_neg c30] at hs12
                        refine aw_ifne_f (pc1 := 70) at_460_67 c30 rfl ?_
                        refine aw_vload_n (pc1 := 71) at_460_70 (am_lk1 l0 rfl rfl) i0 rfl ?_
                        refine aw_vload_n (pc1 := 72) at_460_71 (am_lk1 l0 rfl rfl) i0 rfl ?_
                        refine aw_iload_n (pc1 := 73) at_460_72 (am_lk1 l1 rfl rfl) rfl ?_
                        refine aw_iload_n (pc1 := 74) at_460_73 am_lk0 rfl ?_
                        refine aw_ineg (v := (-v9)) (pc1 := 75) at_460_74 rfl rfl ?_
                        obtain ⟨z31, hs13⟩ := am_ift hs12
                        clear hs12
                        refine aw_call (F := fm_461 N x0 x1 ((-v9)) h28) (t := true) (na := 3) (kd := 1) (as := [x0, (.int x1), (.int (-v9))]) at_460_75 (am_k3v kb_461) mn_461 mk_461 rfl rfl (am_ok_v mi_461 (am_hl rfl (am_ccR i0 (am_ccI (am_ccI am_cats_0))) rfl) z31) (am_hc (am_ccR i0 am_cats_0) rfl) (fun _ => ⟨rfl, hh_460⟩) (fun o1 hz9 => rm_461 x0 x1 ((-v9)) h28 o1 i0 hz9) ?_
                        rcases am_cI_s hs13 with ⟨v32, h33, f34, hs14⟩ | hs14
                        · clear hs13
                          refine Or.inl ⟨_, _, f34, ?_⟩
                          show am_W X _ 460 78 _ [(.int v32), x0] h33 _
                          obtain ⟨h35, e36, hs15⟩ := am_bind hs14
                          clear hs14
                          refine aw_pP (pc1 := 81) at_460_78 e36 rfl ?_
                          exact rg_460_81 (fun z0 z1 h o hs15 => ih z0 z1 h o hs15) x0 x1 h35 o (am_lk1 l0 rfl rfl) (am_lk1 l1 rfl rfl) i0 hs15
                        · clear hs13
                          exact Or.inr hs14
                    · clear hs11
                      exact Or.inr hs12
                · clear hs9
                  exact Or.inr hs10
            · clear hs7
              exact Or.inr hs8
        · clear hs5
          exact Or.inr hs6
def fg_460_0 (N : Nat) (x0 : Value) (h : am_H) : Option am_O := (fg_460_2 N N x0 0 h)
theorem rg_460_0 {X : am_X} {d : Nat} {N : Nat} {lv : am_LV} (x0 : Value) (h : am_H) (o : am_O) (l0 : lv.lookup 0 = some x0) (i0 : am_isR x0 = true) (hs : fg_460_0 N x0 h = some o) : am_W X (d + 5) 460 0 lv [] h (fun q => q = o) := by
  unfold fg_460_0 at hs
  refine aw_iconst (v := 0) (pc1 := 1) at_460_0 (by decide) rfl ?_
  refine aw_istore_n (lv1 := am_put1 _ 1 _) (pc1 := 2) at_460_1 rfl rfl ?_
  exact rg_460_2 N x0 0 h o hs _ (am_lk1 l0 rfl (by rw [am_isRc i0]; rfl)) am_lk0 i0
def fm_460 (N : Nat) (y0 : Value) (h : am_H) : Option am_O := fg_460_0 N y0 h
theorem rm_460 {X : am_X} {d : Nat} {N : Nat} (y0 : Value) (h : am_H) (o : am_O) (i0 : am_isR y0 = true) (hs : fm_460 N y0 h = some o) : am_W X (d + 5) 460 0 (am_args 0 [y0]) [] h (fun q => q = o) := by
  rw [am_args_R i0]
  exact rg_460_0 y0 h o rfl i0 hs
def fg_462_112 (N : Nat) (h : am_H) : Option am_O := some (.inl (none, h))
theorem rg_462_112 {X : am_X} {d : Nat} {N : Nat} {lv : am_LV} (h : am_H) (o : am_O) (hs : fg_462_112 N h = some o) : am_W X (d + 4) 462 112 lv [] h (fun q => q = o) := by
  unfold fg_462_112 at hs
  cases hs
  exact aw_vret at_462_112 rt_462 rfl
def fg_462_106 (N : Nat) (rec_2 : Value → Int32 → am_H → Option am_O) (x0 : Value) (x1 : Int32) (h : am_H) : Option am_O := (rec_2 x0 ((x1 + 1)) h)
theorem rg_462_106 {X : am_X} {d : Nat} {N : Nat} {rec_2 : Value → Int32 → am_H → Option am_O} (q_2 : ∀ (x0 : Value) (x1 : Int32) (h : am_H) (o : am_O), rec_2 x0 x1 h = some o → ∀ lv : am_LV, (lv.lookup 0 = some x0) → (lv.lookup 1 = some (.int x1)) → (am_isR x0 = true) → am_W X (d + 4) 462 2 lv [] h (fun q => q = o)) {lv : am_LV} (x0 : Value) (x1 : Int32) (h : am_H) (o : am_O) (l0 : lv.lookup 0 = some x0) (l1 : lv.lookup 1 = some (.int x1)) (i0 : am_isR x0 = true) (hs : fg_462_106 N rec_2 x0 x1 h = some o) : am_W X (d + 4) 462 106 lv [] h (fun q => q = o) := by
  unfold fg_462_106 at hs
  refine aw_iinc (v := (x1 + 1)) (c := 1) (lv1 := am_put1 _ 1 _) (pc1 := 109) at_462_106 l1 (by decide) rfl rfl rfl ?_
  refine aw_goto at_462_109 ?_
  exact q_2 x0 ((x1 + 1)) h o hs _ (am_lk1 l0 rfl (by rw [am_isRc i0]; rfl)) am_lk0 i0
def fg_462_100 (N : Nat) (rec_2 : Value → Int32 → am_H → Option am_O) (rec_19 : Value → Int32 → Int32 → am_H → Option am_O) (x0 : Value) (x1 : Int32) (x2 : Int32) (h : am_H) : Option am_O := (rec_19 x0 x1 ((x2 + 1)) h)
theorem rg_462_100 {X : am_X} {d : Nat} {N : Nat} {rec_2 : Value → Int32 → am_H → Option am_O} {rec_19 : Value → Int32 → Int32 → am_H → Option am_O} (q_2 : ∀ (x0 : Value) (x1 : Int32) (h : am_H) (o : am_O), rec_2 x0 x1 h = some o → ∀ lv : am_LV, (lv.lookup 0 = some x0) → (lv.lookup 1 = some (.int x1)) → (am_isR x0 = true) → am_W X (d + 4) 462 2 lv [] h (fun q => q = o)) (q_19 : ∀ (x0 : Value) (x1 : Int32) (x2 : Int32) (h : am_H) (o : am_O), rec_19 x0 x1 x2 h = some o → ∀ lv : am_LV, (lv.lookup 0 = some x0) → (lv.lookup 1 = some (.int x1)) → (lv.lookup 2 = some (.int x2)) → (am_isR x0 = true) → am_W X (d + 4) 462 19 lv [] h (fun q => q = o)) {lv : am_LV} (x0 : Value) (x1 : Int32) (x2 : Int32) (h : am_H) (o : am_O) (l0 : lv.lookup 0 = some x0) (l1 : lv.lookup 1 = some (.int x1)) (l2 : lv.lookup 2 = some (.int x2)) (i0 : am_isR x0 = true) (hs : fg_462_100 N rec_2 rec_19 x0 x1 x2 h = some o) : am_W X (d + 4) 462 100 lv [] h (fun q => q = o) := by
  unfold fg_462_100 at hs
  refine aw_iinc (v := (x2 + 1)) (c := 1) (lv1 := am_put1 _ 2 _) (pc1 := 103) at_462_100 l2 (by decide) rfl rfl rfl ?_
  refine aw_goto at_462_103 ?_
  exact q_19 x0 x1 ((x2 + 1)) h o hs _ (am_lk1 l0 rfl rfl) (am_lk1 l1 rfl rfl) am_lk0 i0
def fg_462_94 (N : Nat) (rec_2 : Value → Int32 → am_H → Option am_O) (rec_19 : Value → Int32 → Int32 → am_H → Option am_O) (rec_33 : Value → Int32 → Int32 → Int32 → am_H → Option am_O) (x0 : Value) (x1 : Int32) (x2 : Int32) (x3 : Int32) (h : am_H) : Option am_O := (rec_33 x0 x1 x2 ((x3 + 1)) h)
theorem rg_462_94 {X : am_X} {d : Nat} {N : Nat} {rec_2 : Value → Int32 → am_H → Option am_O} {rec_19 : Value → Int32 → Int32 → am_H → Option am_O} {rec_33 : Value → Int32 → Int32 → Int32 → am_H → Option am_O} (q_2 : ∀ (x0 : Value) (x1 : Int32) (h : am_H) (o : am_O), rec_2 x0 x1 h = some o → ∀ lv : am_LV, (lv.lookup 0 = some x0) → (lv.lookup 1 = some (.int x1)) → (am_isR x0 = true) → am_W X (d + 4) 462 2 lv [] h (fun q => q = o)) (q_19 : ∀ (x0 : Value) (x1 : Int32) (x2 : Int32) (h : am_H) (o : am_O), rec_19 x0 x1 x2 h = some o → ∀ lv : am_LV, (lv.lookup 0 = some x0) → (lv.lookup 1 = some (.int x1)) → (lv.lookup 2 = some (.int x2)) → (am_isR x0 = true) → am_W X (d + 4) 462 19 lv [] h (fun q => q = o)) (q_33 : ∀ (x0 : Value) (x1 : Int32) (x2 : Int32) (x3 : Int32) (h : am_H) (o : am_O), rec_33 x0 x1 x2 x3 h = some o → ∀ lv : am_LV, (lv.lookup 0 = some x0) → (lv.lookup 1 = some (.int x1)) → (lv.lookup 2 = some (.int x2)) → (lv.lookup 3 = some (.int x3)) → (am_isR x0 = true) → am_W X (d + 4) 462 33 lv [] h (fun q => q = o)) {lv : am_LV} (x0 : Value) (x1 : Int32) (x2 : Int32) (x3 : Int32) (h : am_H) (o : am_O) (l0 : lv.lookup 0 = some x0) (l1 : lv.lookup 1 = some (.int x1)) (l2 : lv.lookup 2 = some (.int x2)) (l3 : lv.lookup 3 = some (.int x3)) (i0 : am_isR x0 = true) (hs : fg_462_94 N rec_2 rec_19 rec_33 x0 x1 x2 x3 h = some o) : am_W X (d + 4) 462 94 lv [] h (fun q => q = o) := by
  unfold fg_462_94 at hs
  refine aw_iinc (v := (x3 + 1)) (c := 1) (lv1 := am_put1 _ 3 _) (pc1 := 97) at_462_94 l3 (by decide) rfl rfl rfl ?_
  refine aw_goto at_462_97 ?_
  exact q_33 x0 x1 x2 ((x3 + 1)) h o hs _ (am_lk1 l0 rfl rfl) (am_lk1 l1 rfl rfl) (am_lk1 l2 rfl rfl) am_lk0 i0
def fg_462_33 (N : Nat) (rec_2 : Value → Int32 → am_H → Option am_O) (rec_19 : Value → Int32 → Int32 → am_H → Option am_O) : Nat → Value → Int32 → Int32 → Int32 → am_H → Option am_O
  | 0 => fun _ _ _ _ _ => none
  | K + 1 => fun x0 x1 x2 x3 h => ((am_vI (am_pG 3090 x0 h)).bind fun v1 => (if v1 ≤ x3 then (fg_462_100 N rec_2 rec_19 x0 x1 x2 h) else ((am_vI (am_pG 3167 x0 h)).bind fun v4 => (if ¬ v4 = 0 then (fg_462_100 N rec_2 rec_19 x0 x1 x2 h) else ((am_vR (am_pG 3094 x0 h)).bind fun v7 => ((am_pA 0 v7 x1 h).bind fun v9 => am_cI false (fm_367 v9 x2 h) (fun v11 h12 => (if ¬ x3 = v11 then (if am_pOk 12 x0 h12 then am_cV true (fm_442 N x0 h12) (fun h17 => ((am_vR (am_pG 3089 x0 h17)).bind fun v19 => ((am_vR (am_pG 3089 x0 h17)).bind fun v21 => ((am_pA 0 v21 x1 h17).bind fun v23 => am_cI false (fm_353 v23 x2 x3 h17) (fun v25 h26 => ((am_pS 0 v19 x1 v25 h26).bind fun h28 => (if am_pOk 12 x0 h28 then am_cI true (fm_444 N x0 h28) (fun v31 h32 => ((am_pP 3167 x0 (.int v31) h32).bind fun h34 => (fg_462_94 N rec_2 rec_19 (fg_462_33 N rec_2 rec_19 K) x0 x1 x2 x3 h34))) else none))))))) else none) else (fg_462_94 N rec_2 rec_19 (fg_462_33 N rec_2 rec_19 K) x0 x1 x2 x3 h12)))))))))
theorem rg_462_33 {X : am_X} {d : Nat} {N : Nat} {rec_2 : Value → Int32 → am_H → Option am_O} {rec_19 : Value → Int32 → Int32 → am_H → Option am_O} (q_2 : ∀ (x0 : Value) (x1 : Int32) (h : am_H) (o : am_O), rec_2 x0 x1 h = some o → ∀ lv : am_LV, (lv.lookup 0 = some x0) → (lv.lookup 1 = some (.int x1)) → (am_isR x0 = true) → am_W X (d + 4) 462 2 lv [] h (fun q => q = o)) (q_19 : ∀ (x0 : Value) (x1 : Int32) (x2 : Int32) (h : am_H) (o : am_O), rec_19 x0 x1 x2 h = some o → ∀ lv : am_LV, (lv.lookup 0 = some x0) → (lv.lookup 1 = some (.int x1)) → (lv.lookup 2 = some (.int x2)) → (am_isR x0 = true) → am_W X (d + 4) 462 19 lv [] h (fun q => q = o)) : ∀ (K : Nat) (x0 : Value) (x1 : Int32) (x2 : Int32) (x3 : Int32) (h : am_H) (o : am_O), fg_462_33 N rec_2 rec_19 K x0 x1 x2 x3 h = some o → ∀ lv : am_LV, (lv.lookup 0 = some x0) → (lv.lookup 1 = some (.int x1)) → (lv.lookup 2 = some (.int x2)) → (lv.lookup 3 = some (.int x3)) → (am_isR x0 = true) → am_W X (d + 4) 462 33 lv [] h (fun q => q = o) := by
  intro K
  induction K with
  | zero => intro x0 x1 x2 x3 h o hs; cases hs
  | succ K ih =>
    intro x0 x1 x2 x3 h o hs lv l0 l1 l2 l3 i0
    unfold fg_462_33 at hs
    refine aw_iload_n (pc1 := 34) at_462_33 l3 rfl ?_
    refine aw_vload_n (pc1 := 35) at_462_34 l0 i0 rfl ?_
    obtain ⟨v1, e2, hs1⟩ := am_bind hs
    clear hs
    refine aw_pG (pc1 := 38) at_462_35 (am_vI_s e2) rfl ?_
    by_cases c3 : v1 ≤ x3
    · rw [if_pos c3] at hs1
      refine aw_icge_t at_462_38 c3 ?_
      exact rg_462_100 q_2 q_19 x0 x1 x2 h o l0 l1 l2 i0 hs1
    · rw [if_neg c3] at hs1
      refine aw_icge_f (pc1 := 41) at_462_38 c3 rfl ?_
      refine aw_vload_n (pc1 := 42) at_462_41 l0 i0 rfl ?_
      obtain ⟨v4, e5, hs2⟩ := am_bind hs1
      clear hs1
      refine aw_pG (pc1 := 45) at_462_42 (am_vI_s e5) rfl ?_
      by_cases c6 : ¬ v4 = 0
      · rw [if_pos c6] at hs2
        refine aw_ifne_t at_462_45 c6 ?_
        exact rg_462_100 q_2 q_19 x0 x1 x2 h o l0 l1 l2 i0 hs2
      · rw [if_neg c6] at hs2
        refine aw_ifne_f (pc1 := 48) at_462_45 c6 rfl ?_
        refine aw_iload_n (pc1 := 49) at_462_48 l3 rfl ?_
        refine aw_vload_n (pc1 := 50) at_462_49 l0 i0 rfl ?_
        obtain ⟨v7, e8, hs3⟩ := am_bind hs2
        clear hs2
        refine aw_pG (pc1 := 53) at_462_50 (am_vR_s e8).1 rfl ?_
        refine aw_iload_n (pc1 := 54) at_462_53 l1 rfl ?_
        obtain ⟨v9, e10, hs4⟩ := am_bind hs3
        clear hs3
        refine aw_pA (pc1 := 55) at_462_54 (Or.inl ⟨rfl, rfl⟩) e10 rfl ?_
        refine aw_iload_n (pc1 := 56) at_462_55 l2 rfl ?_
        refine aw_call (F := fm_367 v9 x2 h) (t := false) (na := 2) (kd := 0) (as := [(.int v9), (.int x2)]) at_462_56 (am_k3s kb_367) mn_367 mk_367 rfl rfl (am_ok_s mi_367 (am_hl rfl (am_ccI (am_ccI am_cats_0)) rfl)) (am_hc (am_ccI am_cats_0) rfl) (fun hz9 => by cases hz9) (fun o1 hz9 => rm_367 v9 x2 h o1  hz9) ?_
        rcases am_cI_s hs4 with ⟨v11, h12, f13, hs5⟩ | hs5
        · clear hs4
          refine Or.inl ⟨_, _, f13, ?_⟩
          show am_W X _ 462 59 _ [(.int v11), (.int x3)] h12 _
          by_cases c14 : ¬ x3 = v11
          · rw [if_pos c14] at hs5
            refine aw_icne_t at_462_59 c14 ?_
            refine aw_vload_n (pc1 := 66) at_462_65 l0 i0 rfl ?_
            obtain ⟨z15, hs6⟩ := am_ift hs5
            clear hs5
            refine aw_call (F := fm_442 N x0 h12) (t := true) (na := 1) (kd := 1) (as := [x0]) at_462_66 (am_k3v kb_442) mn_442 mk_442 rfl rfl (am_ok_v mi_442 (am_hl rfl (am_ccR i0 am_cats_0) rfl) z15) (am_hc am_cats_0 rfl) (fun _ => ⟨rfl, hh_462⟩) (fun o1 hz9 => rm_442 x0 h12 o1 i0 hz9) ?_
            rcases am_cV_s hs6 with ⟨h17, f18, hs7⟩ | hs7
            · clear hs6
              refine Or.inl ⟨_, _, f18, ?_⟩
              show am_W X _ 462 69 _ [] h17 _
              refine aw_vload_n (pc1 := 70) at_462_69 l0 i0 rfl ?_
              obtain ⟨v19, e20, hs8⟩ := am_bind hs7
              clear hs7
              refine aw_pG (pc1 := 73) at_462_70 (am_vR_s e20).1 rfl ?_
              refine aw_iload_n (pc1 := 74) at_462_73 l1 rfl ?_
              refine aw_vload_n (pc1 := 75) at_462_74 l0 i0 rfl ?_
              obtain ⟨v21, e22, hs9⟩ := am_bind hs8
              clear hs8
              refine aw_pG (pc1 := 78) at_462_75 (am_vR_s e22).1 rfl ?_
              refine aw_iload_n (pc1 := 79) at_462_78 l1 rfl ?_
              obtain ⟨v23, e24, hs10⟩ := am_bind hs9
              clear hs9
              refine aw_pA (pc1 := 80) at_462_79 (Or.inl ⟨rfl, rfl⟩) e24 rfl ?_
              refine aw_iload_n (pc1 := 81) at_462_80 l2 rfl ?_
              refine aw_iload_n (pc1 := 82) at_462_81 l3 rfl ?_
              refine aw_call (F := fm_353 v23 x2 x3 h17) (t := false) (na := 3) (kd := 0) (as := [(.int v23), (.int x2), (.int x3)]) at_462_82 (am_k3s kb_353) mn_353 mk_353 rfl rfl (am_ok_s mi_353 (am_hl rfl (am_ccI (am_ccI (am_ccI am_cats_0))) rfl)) (am_hc (am_ccI (am_ccR (am_vR_s e20).2 am_cats_0)) rfl) (fun hz9 => by cases hz9) (fun o1 hz9 => rm_353 v23 x2 x3 h17 o1  hz9) ?_
              rcases am_cI_s hs10 with ⟨v25, h26, f27, hs11⟩ | hs11
              · clear hs10
                refine Or.inl ⟨_, _, f27, ?_⟩
                show am_W X _ 462 85 _ [(.int v25), (.int x1), v19] h26 _
                obtain ⟨h28, e29, hs12⟩ := am_bind hs11
                clear hs11
                refine aw_pS (pc1 := 86) at_462_85 (Or.inl ⟨rfl, rfl⟩) e29 rfl ?_
                refine aw_vload_n (pc1 := 87) at_462_86 l0 i0 rfl ?_
                refine aw_vload_n (pc1 := 88) at_462_87 l0 i0 rfl ?_
                obtain ⟨z30, hs13⟩ := am_ift hs12
                clear hs12
                refine aw_call (F := fm_444 N x0 h28) (t := true) (na := 1) (kd := 1) (as := [x0]) at_462_88 (am_k3v kb_444) mn_444 mk_444 rfl rfl (am_ok_v mi_444 (am_hl rfl (am_ccR i0 am_cats_0) rfl) z30) (am_hc (am_ccR i0 am_cats_0) rfl) (fun _ => ⟨rfl, hh_462⟩) (fun o1 hz9 => rm_444 x0 h28 o1 i0 hz9) ?_
                rcases am_cI_s hs13 with ⟨v31, h32, f33, hs14⟩ | hs14
                · clear hs13
                  refine Or.inl ⟨_, _, f33, ?_⟩
                  show am_W X _ 462 91 _ [(.int v31), x0] h32 _
                  obtain ⟨h34, e35, hs15⟩ := am_bind hs14
                  clear hs14
                  refine aw_pP (pc1 := 94) at_462_91 e35 rfl ?_
                  exact rg_462_94 q_2 q_19 (fun z0 z1 z2 z3 h o hs15 => ih z0 z1 z2 z3 h o hs15) x0 x1 x2 x3 h34 o l0 l1 l2 l3 i0 hs15
                · clear hs13
                  exact Or.inr hs14
              · clear hs10
                exact Or.inr hs11
            · clear hs6
              exact Or.inr hs7
          · rw [if_neg c14] at hs5
            refine aw_icne_f (pc1 := 62) at_462_59 c14 rfl ?_
            refine aw_goto at_462_62 ?_
            exact rg_462_94 q_2 q_19 (fun z0 z1 z2 z3 h o hs5 => ih z0 z1 z2 z3 h o hs5) x0 x1 x2 x3 h12 o l0 l1 l2 l3 i0 hs5
        · clear hs4
          exact Or.inr hs5
def fg_462_19 (N : Nat) (rec_2 : Value → Int32 → am_H → Option am_O) : Nat → Value → Int32 → Int32 → am_H → Option am_O
  | 0 => fun _ _ _ _ => none
  | K + 1 => fun x0 x1 x2 h => (if 4 ≤ x2 then (fg_462_106 N rec_2 x0 x1 h) else ((am_vI (am_pG 3167 x0 h)).bind fun v2 => (if ¬ v2 = 0 then (fg_462_106 N rec_2 x0 x1 h) else (fg_462_33 N rec_2 (fg_462_19 N rec_2 K) N x0 x1 x2 0 h))))
theorem rg_462_19 {X : am_X} {d : Nat} {N : Nat} {rec_2 : Value → Int32 → am_H → Option am_O} (q_2 : ∀ (x0 : Value) (x1 : Int32) (h : am_H) (o : am_O), rec_2 x0 x1 h = some o → ∀ lv : am_LV, (lv.lookup 0 = some x0) → (lv.lookup 1 = some (.int x1)) → (am_isR x0 = true) → am_W X (d + 4) 462 2 lv [] h (fun q => q = o)) : ∀ (K : Nat) (x0 : Value) (x1 : Int32) (x2 : Int32) (h : am_H) (o : am_O), fg_462_19 N rec_2 K x0 x1 x2 h = some o → ∀ lv : am_LV, (lv.lookup 0 = some x0) → (lv.lookup 1 = some (.int x1)) → (lv.lookup 2 = some (.int x2)) → (am_isR x0 = true) → am_W X (d + 4) 462 19 lv [] h (fun q => q = o) := by
  intro K
  induction K with
  | zero => intro x0 x1 x2 h o hs; cases hs
  | succ K ih =>
    intro x0 x1 x2 h o hs lv l0 l1 l2 i0
    unfold fg_462_19 at hs
    refine aw_iload_n (pc1 := 20) at_462_19 l2 rfl ?_
    refine aw_iconst (v := 4) (pc1 := 21) at_462_20 (by decide) rfl ?_
    by_cases c1 : 4 ≤ x2
    · rw [if_pos c1] at hs
      refine aw_icge_t at_462_21 c1 ?_
      exact rg_462_106 q_2 x0 x1 h o l0 l1 i0 hs
    · rw [if_neg c1] at hs
      refine aw_icge_f (pc1 := 24) at_462_21 c1 rfl ?_
      refine aw_vload_n (pc1 := 25) at_462_24 l0 i0 rfl ?_
      obtain ⟨v2, e3, hs1⟩ := am_bind hs
      clear hs
      refine aw_pG (pc1 := 28) at_462_25 (am_vI_s e3) rfl ?_
      by_cases c4 : ¬ v2 = 0
      · rw [if_pos c4] at hs1
        refine aw_ifne_t at_462_28 c4 ?_
        exact rg_462_106 q_2 x0 x1 h o l0 l1 i0 hs1
      · rw [if_neg c4] at hs1
        refine aw_ifne_f (pc1 := 31) at_462_28 c4 rfl ?_
        refine aw_iconst (v := 0) (pc1 := 32) at_462_31 (by decide) rfl ?_
        refine aw_istore_n (lv1 := am_put1 _ 3 _) (pc1 := 33) at_462_32 rfl rfl ?_
        exact rg_462_33 q_2 (fun z0 z1 z2 h o hs1 => ih z0 z1 z2 h o hs1) N x0 x1 x2 0 h o hs1 _ (am_lk1 l0 rfl rfl) (am_lk1 l1 rfl rfl) (am_lk1 l2 rfl rfl) am_lk0 i0
def fg_462_2 (N : Nat) : Nat → Value → Int32 → am_H → Option am_O
  | 0 => fun _ _ _ => none
  | K + 1 => fun x0 x1 h => ((am_vI (am_pG 3090 x0 h)).bind fun v1 => (if v1 ≤ x1 then (fg_462_112 N h) else ((am_vI (am_pG 3167 x0 h)).bind fun v4 => (if ¬ v4 = 0 then (fg_462_112 N h) else (fg_462_19 N (fg_462_2 N K) N x0 x1 0 h)))))
theorem rg_462_2 {X : am_X} {d : Nat} {N : Nat} : ∀ (K : Nat) (x0 : Value) (x1 : Int32) (h : am_H) (o : am_O), fg_462_2 N K x0 x1 h = some o → ∀ lv : am_LV, (lv.lookup 0 = some x0) → (lv.lookup 1 = some (.int x1)) → (am_isR x0 = true) → am_W X (d + 4) 462 2 lv [] h (fun q => q = o) := by
  intro K
  induction K with
  | zero => intro x0 x1 h o hs; cases hs
  | succ K ih =>
    intro x0 x1 h o hs lv l0 l1 i0
    unfold fg_462_2 at hs
    refine aw_iload_n (pc1 := 3) at_462_2 l1 rfl ?_
    refine aw_vload_n (pc1 := 4) at_462_3 l0 i0 rfl ?_
    obtain ⟨v1, e2, hs1⟩ := am_bind hs
    clear hs
    refine aw_pG (pc1 := 7) at_462_4 (am_vI_s e2) rfl ?_
    by_cases c3 : v1 ≤ x1
    · rw [if_pos c3] at hs1
      refine aw_icge_t at_462_7 c3 ?_
      exact rg_462_112 h o   hs1
    · rw [if_neg c3] at hs1
      refine aw_icge_f (pc1 := 10) at_462_7 c3 rfl ?_
      refine aw_vload_n (pc1 := 11) at_462_10 l0 i0 rfl ?_
      obtain ⟨v4, e5, hs2⟩ := am_bind hs1
      clear hs1
      refine aw_pG (pc1 := 14) at_462_11 (am_vI_s e5) rfl ?_
      by_cases c6 : ¬ v4 = 0
      · rw [if_pos c6] at hs2
        refine aw_ifne_t at_462_14 c6 ?_
        exact rg_462_112 h o   hs2
      · rw [if_neg c6] at hs2
        refine aw_ifne_f (pc1 := 17) at_462_14 c6 rfl ?_
        refine aw_iconst (v := 0) (pc1 := 18) at_462_17 (by decide) rfl ?_
        refine aw_istore_n (lv1 := am_put1 _ 2 _) (pc1 := 19) at_462_18 rfl rfl ?_
        exact rg_462_19 (fun z0 z1 h o hs2 => ih z0 z1 h o hs2) N x0 x1 0 h o hs2 _ (am_lk1 l0 rfl rfl) (am_lk1 l1 rfl rfl) am_lk0 i0
def fg_462_0 (N : Nat) (x0 : Value) (h : am_H) : Option am_O := (fg_462_2 N N x0 0 h)
theorem rg_462_0 {X : am_X} {d : Nat} {N : Nat} {lv : am_LV} (x0 : Value) (h : am_H) (o : am_O) (l0 : lv.lookup 0 = some x0) (i0 : am_isR x0 = true) (hs : fg_462_0 N x0 h = some o) : am_W X (d + 4) 462 0 lv [] h (fun q => q = o) := by
  unfold fg_462_0 at hs
  refine aw_iconst (v := 0) (pc1 := 1) at_462_0 (by decide) rfl ?_
  refine aw_istore_n (lv1 := am_put1 _ 1 _) (pc1 := 2) at_462_1 rfl rfl ?_
  exact rg_462_2 N x0 0 h o hs _ (am_lk1 l0 rfl (by rw [am_isRc i0]; rfl)) am_lk0 i0
def fm_462 (N : Nat) (y0 : Value) (h : am_H) : Option am_O := fg_462_0 N y0 h
theorem rm_462 {X : am_X} {d : Nat} {N : Nat} (y0 : Value) (h : am_H) (o : am_O) (i0 : am_isR y0 = true) (hs : fm_462 N y0 h = some o) : am_W X (d + 4) 462 0 (am_args 0 [y0]) [] h (fun q => q = o) := by
  rw [am_args_R i0]
  exact rg_462_0 y0 h o rfl i0 hs
def fg_463_111 (N : Nat) (h : am_H) : Option am_O := some (.inl (none, h))
theorem rg_463_111 {X : am_X} {d : Nat} {N : Nat} {lv : am_LV} (h : am_H) (o : am_O) (hs : fg_463_111 N h = some o) : am_W X (d + 4) 463 111 lv [] h (fun q => q = o) := by
  unfold fg_463_111 at hs
  cases hs
  exact aw_vret at_463_111 rt_463 rfl
def fg_463_105 (N : Nat) (rec_2 : Value → Int32 → am_H → Option am_O) (x0 : Value) (x1 : Int32) (h : am_H) : Option am_O := (rec_2 x0 ((x1 + 1)) h)
theorem rg_463_105 {X : am_X} {d : Nat} {N : Nat} {rec_2 : Value → Int32 → am_H → Option am_O} (q_2 : ∀ (x0 : Value) (x1 : Int32) (h : am_H) (o : am_O), rec_2 x0 x1 h = some o → ∀ lv : am_LV, (lv.lookup 0 = some x0) → (lv.lookup 1 = some (.int x1)) → (am_isR x0 = true) → am_W X (d + 4) 463 2 lv [] h (fun q => q = o)) {lv : am_LV} (x0 : Value) (x1 : Int32) (h : am_H) (o : am_O) (l0 : lv.lookup 0 = some x0) (l1 : lv.lookup 1 = some (.int x1)) (i0 : am_isR x0 = true) (hs : fg_463_105 N rec_2 x0 x1 h = some o) : am_W X (d + 4) 463 105 lv [] h (fun q => q = o) := by
  unfold fg_463_105 at hs
  refine aw_iinc (v := (x1 + 1)) (c := 1) (lv1 := am_put1 _ 1 _) (pc1 := 108) at_463_105 l1 (by decide) rfl rfl rfl ?_
  refine aw_goto at_463_108 ?_
  exact q_2 x0 ((x1 + 1)) h o hs _ (am_lk1 l0 rfl (by rw [am_isRc i0]; rfl)) am_lk0 i0
def fg_463_28 (N : Nat) (rec_2 : Value → Int32 → am_H → Option am_O) : Nat → Value → Int32 → Int32 → am_H → Option am_O
  | 0 => fun _ _ _ _ => none
  | K + 1 => fun x0 x1 x2 h => (if 4 ≤ x2 then (fg_463_105 N rec_2 x0 x1 h) else ((am_vI (am_pG 3167 x0 h)).bind fun v2 => (if ¬ v2 = 0 then (fg_463_105 N rec_2 x0 x1 h) else ((am_vR (am_pG 3094 x0 h)).bind fun v5 => ((am_pA 0 v5 x1 h).bind fun v7 => am_cI false (fm_367 v7 x2 h) (fun v9 h10 => (if am_pOk 12 x0 h10 then am_cV true (fm_442 N x0 h10) (fun h14 => ((am_vR (am_pG 3093 x0 h14)).bind fun v16 => ((am_pA 0 v16 v9 h14).bind fun v18 => ((am_vR (am_pG 3094 x0 h14)).bind fun v20 => ((am_pA 0 v20 v9 h14).bind fun v22 => (if am_pOk 12 x0 h14 then am_cV true (fm_335 x0 v18 v22 h14) (fun h26 => ((am_vR (am_pG 3089 x0 h26)).bind fun v28 => ((am_vR (am_pG 3089 x0 h26)).bind fun v30 => ((am_pA 0 v30 x1 h26).bind fun v32 => ((am_vI (am_pG 3090 x0 h26)).bind fun v34 => am_cI false (fm_353 v32 x2 v34 h26) (fun v36 h37 => ((am_pS 0 v28 x1 v36 h37).bind fun h39 => (if am_pOk 12 x0 h39 then am_cI true (fm_444 N x0 h39) (fun v42 h43 => ((am_pP 3167 x0 (.int v42) h43).bind fun h45 => (fg_463_28 N rec_2 K x0 x1 ((x2 + 1)) h45))) else none)))))))) else none)))))) else none)))))))
theorem rg_463_28 {X : am_X} {d : Nat} {N : Nat} {rec_2 : Value → Int32 → am_H → Option am_O} (q_2 : ∀ (x0 : Value) (x1 : Int32) (h : am_H) (o : am_O), rec_2 x0 x1 h = some o → ∀ lv : am_LV, (lv.lookup 0 = some x0) → (lv.lookup 1 = some (.int x1)) → (am_isR x0 = true) → am_W X (d + 4) 463 2 lv [] h (fun q => q = o)) : ∀ (K : Nat) (x0 : Value) (x1 : Int32) (x2 : Int32) (h : am_H) (o : am_O), fg_463_28 N rec_2 K x0 x1 x2 h = some o → ∀ lv : am_LV, (lv.lookup 0 = some x0) → (lv.lookup 1 = some (.int x1)) → (lv.lookup 2 = some (.int x2)) → (am_isR x0 = true) → am_W X (d + 4) 463 28 lv [] h (fun q => q = o) := by
  intro K
  induction K with
  | zero => intro x0 x1 x2 h o hs; cases hs
  | succ K ih =>
    intro x0 x1 x2 h o hs lv l0 l1 l2 i0
    unfold fg_463_28 at hs
    refine aw_iload_n (pc1 := 29) at_463_28 l2 rfl ?_
    refine aw_iconst (v := 4) (pc1 := 30) at_463_29 (by decide) rfl ?_
    by_cases c1 : 4 ≤ x2
    · rw [if_pos c1] at hs
      refine aw_icge_t at_463_30 c1 ?_
      exact rg_463_105 q_2 x0 x1 h o l0 l1 i0 hs
    · rw [if_neg c1] at hs
      refine aw_icge_f (pc1 := 33) at_463_30 c1 rfl ?_
      refine aw_vload_n (pc1 := 34) at_463_33 l0 i0 rfl ?_
      obtain ⟨v2, e3, hs1⟩ := am_bind hs
      clear hs
      refine aw_pG (pc1 := 37) at_463_34 (am_vI_s e3) rfl ?_
      by_cases c4 : ¬ v2 = 0
      · rw [if_pos c4] at hs1
        refine aw_ifne_t at_463_37 c4 ?_
        exact rg_463_105 q_2 x0 x1 h o l0 l1 i0 hs1
      · rw [if_neg c4] at hs1
        refine aw_ifne_f (pc1 := 40) at_463_37 c4 rfl ?_
        refine aw_vload_n (pc1 := 41) at_463_40 l0 i0 rfl ?_
        obtain ⟨v5, e6, hs2⟩ := am_bind hs1
        clear hs1
        refine aw_pG (pc1 := 44) at_463_41 (am_vR_s e6).1 rfl ?_
        refine aw_iload_n (pc1 := 45) at_463_44 l1 rfl ?_
        obtain ⟨v7, e8, hs3⟩ := am_bind hs2
        clear hs2
        refine aw_pA (pc1 := 46) at_463_45 (Or.inl ⟨rfl, rfl⟩) e8 rfl ?_
        refine aw_iload_n (pc1 := 47) at_463_46 l2 rfl ?_
        refine aw_call (F := fm_367 v7 x2 h) (t := false) (na := 2) (kd := 0) (as := [(.int v7), (.int x2)]) at_463_47 (am_k3s kb_367) mn_367 mk_367 rfl rfl (am_ok_s mi_367 (am_hl rfl (am_ccI (am_ccI am_cats_0)) rfl)) (am_hc am_cats_0 rfl) (fun hz9 => by cases hz9) (fun o1 hz9 => rm_367 v7 x2 h o1  hz9) ?_
        rcases am_cI_s hs3 with ⟨v9, h10, f11, hs4⟩ | hs4
        · clear hs3
          refine Or.inl ⟨_, _, f11, ?_⟩
          show am_W X _ 463 50 _ [(.int v9)] h10 _
          refine aw_istore_n (lv1 := am_put1 _ 3 _) (pc1 := 51) at_463_50 rfl rfl ?_
          refine aw_vload_n (pc1 := 52) at_463_51 (am_lk1 l0 rfl rfl) i0 rfl ?_
          obtain ⟨z12, hs5⟩ := am_ift hs4
          clear hs4
          refine aw_call (F := fm_442 N x0 h10) (t := true) (na := 1) (kd := 1) (as := [x0]) at_463_52 (am_k3v kb_442) mn_442 mk_442 rfl rfl (am_ok_v mi_442 (am_hl rfl (am_ccR i0 am_cats_0) rfl) z12) (am_hc am_cats_0 rfl) (fun _ => ⟨rfl, hh_463⟩) (fun o1 hz9 => rm_442 x0 h10 o1 i0 hz9) ?_
          rcases am_cV_s hs5 with ⟨h14, f15, hs6⟩ | hs6
          · clear hs5
            refine Or.inl ⟨_, _, f15, ?_⟩
            show am_W X _ 463 55 _ [] h14 _
            refine aw_vload_n (pc1 := 56) at_463_55 (am_lk1 l0 rfl rfl) i0 rfl ?_
            refine aw_vload_n (pc1 := 57) at_463_56 (am_lk1 l0 rfl rfl) i0 rfl ?_
            obtain ⟨v16, e17, hs7⟩ := am_bind hs6
            clear hs6
            refine aw_pG (pc1 := 60) at_463_57 (am_vR_s e17).1 rfl ?_
            refine aw_iload_n (pc1 := 61) at_463_60 am_lk0 rfl ?_
            obtain ⟨v18, e19, hs8⟩ := am_bind hs7
            clear hs7
            refine aw_pA (pc1 := 62) at_463_61 (Or.inl ⟨rfl, rfl⟩) e19 rfl ?_
            refine aw_vload_n (pc1 := 63) at_463_62 (am_lk1 l0 rfl rfl) i0 rfl ?_
            obtain ⟨v20, e21, hs9⟩ := am_bind hs8
            clear hs8
            refine aw_pG (pc1 := 66) at_463_63 (am_vR_s e21).1 rfl ?_
            refine aw_iload_n (pc1 := 67) at_463_66 am_lk0 rfl ?_
            obtain ⟨v22, e23, hs10⟩ := am_bind hs9
            clear hs9
            refine aw_pA (pc1 := 68) at_463_67 (Or.inl ⟨rfl, rfl⟩) e23 rfl ?_
            obtain ⟨z24, hs11⟩ := am_ift hs10
            clear hs10
            refine aw_call (F := fm_335 x0 v18 v22 h14) (t := true) (na := 3) (kd := 1) (as := [x0, (.int v18), (.int v22)]) at_463_68 (am_k3v kb_335) mn_335 mk_335 rfl rfl (am_ok_v mi_335 (am_hl rfl (am_ccR i0 (am_ccI (am_ccI am_cats_0))) rfl) z24) (am_hc am_cats_0 rfl) (fun _ => ⟨rfl, hh_463⟩) (fun o1 hz9 => rm_335 x0 v18 v22 h14 o1 i0 hz9) ?_
            rcases am_cV_s hs11 with ⟨h26, f27, hs12⟩ | hs12
            · clear hs11
              refine Or.inl ⟨_, _, f27, ?_⟩
              show am_W X _ 463 71 _ [] h26 _
              refine aw_vload_n (pc1 := 72) at_463_71 (am_lk1 l0 rfl rfl) i0 rfl ?_
              obtain ⟨v28, e29, hs13⟩ := am_bind hs12
              clear hs12
              refine aw_pG (pc1 := 75) at_463_72 (am_vR_s e29).1 rfl ?_
              refine aw_iload_n (pc1 := 76) at_463_75 (am_lk1 l1 rfl rfl) rfl ?_
              refine aw_vload_n (pc1 := 77) at_463_76 (am_lk1 l0 rfl rfl) i0 rfl ?_
              obtain ⟨v30, e31, hs14⟩ := am_bind hs13
              clear hs13
              refine aw_pG (pc1 := 80) at_463_77 (am_vR_s e31).1 rfl ?_
              refine aw_iload_n (pc1 := 81) at_463_80 (am_lk1 l1 rfl rfl) rfl ?_
              obtain ⟨v32, e33, hs15⟩ := am_bind hs14
              clear hs14
              refine aw_pA (pc1 := 82) at_463_81 (Or.inl ⟨rfl, rfl⟩) e33 rfl ?_
              refine aw_iload_n (pc1 := 83) at_463_82 (am_lk1 l2 rfl rfl) rfl ?_
              refine aw_vload_n (pc1 := 84) at_463_83 (am_lk1 l0 rfl rfl) i0 rfl ?_
              obtain ⟨v34, e35, hs16⟩ := am_bind hs15
              clear hs15
              refine aw_pG (pc1 := 87) at_463_84 (am_vI_s e35) rfl ?_
              refine aw_call (F := fm_353 v32 x2 v34 h26) (t := false) (na := 3) (kd := 0) (as := [(.int v32), (.int x2), (.int v34)]) at_463_87 (am_k3s kb_353) mn_353 mk_353 rfl rfl (am_ok_s mi_353 (am_hl rfl (am_ccI (am_ccI (am_ccI am_cats_0))) rfl)) (am_hc (am_ccI (am_ccR (am_vR_s e29).2 am_cats_0)) rfl) (fun hz9 => by cases hz9) (fun o1 hz9 => rm_353 v32 x2 v34 h26 o1  hz9) ?_
              rcases am_cI_s hs16 with ⟨v36, h37, f38, hs17⟩ | hs17
              · clear hs16
                refine Or.inl ⟨_, _, f38, ?_⟩
                show am_W X _ 463 90 _ [(.int v36), (.int x1), v28] h37 _
                obtain ⟨h39, e40, hs18⟩ := am_bind hs17
                clear hs17
                refine aw_pS (pc1 := 91) at_463_90 (Or.inl ⟨rfl, rfl⟩) e40 rfl ?_
                refine aw_vload_n (pc1 := 92) at_463_91 (am_lk1 l0 rfl rfl) i0 rfl ?_
                refine aw_vload_n (pc1 := 93) at_463_92 (am_lk1 l0 rfl rfl) i0 rfl ?_
                obtain ⟨z41, hs19⟩ := am_ift hs18
                clear hs18
                refine aw_call (F := fm_444 N x0 h39) (t := true) (na := 1) (kd := 1) (as := [x0]) at_463_93 (am_k3v kb_444) mn_444 mk_444 rfl rfl (am_ok_v mi_444 (am_hl rfl (am_ccR i0 am_cats_0) rfl) z41) (am_hc (am_ccR i0 am_cats_0) rfl) (fun _ => ⟨rfl, hh_463⟩) (fun o1 hz9 => rm_444 x0 h39 o1 i0 hz9) ?_
                rcases am_cI_s hs19 with ⟨v42, h43, f44, hs20⟩ | hs20
                · clear hs19
                  refine Or.inl ⟨_, _, f44, ?_⟩
                  show am_W X _ 463 96 _ [(.int v42), x0] h43 _
                  obtain ⟨h45, e46, hs21⟩ := am_bind hs20
                  clear hs20
                  refine aw_pP (pc1 := 99) at_463_96 e46 rfl ?_
                  refine aw_iinc (v := (x2 + 1)) (c := 1) (lv1 := am_put1 _ 2 _) (pc1 := 102) at_463_99 (am_lk1 l2 rfl rfl) (by decide) rfl rfl rfl ?_
                  refine aw_goto at_463_102 ?_
                  exact ih x0 x1 ((x2 + 1)) h45 o hs21 _ (am_lk1 (am_lk1 l0 rfl rfl) rfl rfl) (am_lk1 (am_lk1 l1 rfl rfl) rfl rfl) am_lk0 i0
                · clear hs19
                  exact Or.inr hs20
              · clear hs16
                exact Or.inr hs17
            · clear hs11
              exact Or.inr hs12
          · clear hs5
            exact Or.inr hs6
        · clear hs3
          exact Or.inr hs4
def fg_463_2 (N : Nat) : Nat → Value → Int32 → am_H → Option am_O
  | 0 => fun _ _ _ => none
  | K + 1 => fun x0 x1 h => ((am_vI (am_pG 3090 x0 h)).bind fun v1 => (if v1 ≤ x1 then (fg_463_111 N h) else ((am_vI (am_pG 3090 x0 h)).bind fun v4 => (if 6 ≤ v4 then (fg_463_111 N h) else ((am_vI (am_pG 3167 x0 h)).bind fun v7 => (if ¬ v7 = 0 then (fg_463_111 N h) else (fg_463_28 N (fg_463_2 N K) N x0 x1 0 h)))))))
theorem rg_463_2 {X : am_X} {d : Nat} {N : Nat} : ∀ (K : Nat) (x0 : Value) (x1 : Int32) (h : am_H) (o : am_O), fg_463_2 N K x0 x1 h = some o → ∀ lv : am_LV, (lv.lookup 0 = some x0) → (lv.lookup 1 = some (.int x1)) → (am_isR x0 = true) → am_W X (d + 4) 463 2 lv [] h (fun q => q = o) := by
  intro K
  induction K with
  | zero => intro x0 x1 h o hs; cases hs
  | succ K ih =>
    intro x0 x1 h o hs lv l0 l1 i0
    unfold fg_463_2 at hs
    refine aw_iload_n (pc1 := 3) at_463_2 l1 rfl ?_
    refine aw_vload_n (pc1 := 4) at_463_3 l0 i0 rfl ?_
    obtain ⟨v1, e2, hs1⟩ := am_bind hs
    clear hs
    refine aw_pG (pc1 := 7) at_463_4 (am_vI_s e2) rfl ?_
    by_cases c3 : v1 ≤ x1
    · rw [if_pos c3] at hs1
      refine aw_icge_t at_463_7 c3 ?_
      exact rg_463_111 h o   hs1
    · rw [if_neg c3] at hs1
      refine aw_icge_f (pc1 := 10) at_463_7 c3 rfl ?_
      refine aw_vload_n (pc1 := 11) at_463_10 l0 i0 rfl ?_
      obtain ⟨v4, e5, hs2⟩ := am_bind hs1
      clear hs1
      refine aw_pG (pc1 := 14) at_463_11 (am_vI_s e5) rfl ?_
      refine aw_bipush (v := 6) (pc1 := 16) at_463_14 (by decide) rfl ?_
      by_cases c6 : 6 ≤ v4
      · rw [if_pos c6] at hs2
        refine aw_icge_t at_463_16 c6 ?_
        exact rg_463_111 h o   hs2
      · rw [if_neg c6] at hs2
        refine aw_icge_f (pc1 := 19) at_463_16 c6 rfl ?_
        refine aw_vload_n (pc1 := 20) at_463_19 l0 i0 rfl ?_
        obtain ⟨v7, e8, hs3⟩ := am_bind hs2
        clear hs2
        refine aw_pG (pc1 := 23) at_463_20 (am_vI_s e8) rfl ?_
        by_cases c9 : ¬ v7 = 0
        · rw [if_pos c9] at hs3
          refine aw_ifne_t at_463_23 c9 ?_
          exact rg_463_111 h o   hs3
        · rw [if_neg c9] at hs3
          refine aw_ifne_f (pc1 := 26) at_463_23 c9 rfl ?_
          refine aw_iconst (v := 0) (pc1 := 27) at_463_26 (by decide) rfl ?_
          refine aw_istore_n (lv1 := am_put1 _ 2 _) (pc1 := 28) at_463_27 rfl rfl ?_
          exact rg_463_28 (fun z0 z1 h o hs3 => ih z0 z1 h o hs3) N x0 x1 0 h o hs3 _ (am_lk1 l0 rfl rfl) (am_lk1 l1 rfl rfl) am_lk0 i0
def fg_463_0 (N : Nat) (x0 : Value) (h : am_H) : Option am_O := (fg_463_2 N N x0 0 h)
theorem rg_463_0 {X : am_X} {d : Nat} {N : Nat} {lv : am_LV} (x0 : Value) (h : am_H) (o : am_O) (l0 : lv.lookup 0 = some x0) (i0 : am_isR x0 = true) (hs : fg_463_0 N x0 h = some o) : am_W X (d + 4) 463 0 lv [] h (fun q => q = o) := by
  unfold fg_463_0 at hs
  refine aw_iconst (v := 0) (pc1 := 1) at_463_0 (by decide) rfl ?_
  refine aw_istore_n (lv1 := am_put1 _ 1 _) (pc1 := 2) at_463_1 rfl rfl ?_
  exact rg_463_2 N x0 0 h o hs _ (am_lk1 l0 rfl (by rw [am_isRc i0]; rfl)) am_lk0 i0
def fm_463 (N : Nat) (y0 : Value) (h : am_H) : Option am_O := fg_463_0 N y0 h
theorem rm_463 {X : am_X} {d : Nat} {N : Nat} (y0 : Value) (h : am_H) (o : am_O) (i0 : am_isR y0 = true) (hs : fm_463 N y0 h = some o) : am_W X (d + 4) 463 0 (am_args 0 [y0]) [] h (fun q => q = o) := by
  rw [am_args_R i0]
  exact rg_463_0 y0 h o rfl i0 hs
def fg_464_132 (N : Nat) (h : am_H) : Option am_O := some (.inl (none, h))
theorem rg_464_132 {X : am_X} {d : Nat} {N : Nat} {lv : am_LV} (h : am_H) (o : am_O) (hs : fg_464_132 N h = some o) : am_W X (d + 4) 464 132 lv [] h (fun q => q = o) := by
  unfold fg_464_132 at hs
  cases hs
  exact aw_vret at_464_132 rt_464 rfl
def fg_464_112 (N : Nat) (rec_2 : Value → Int32 → am_H → Option am_O) (rec_23 : Value → Int32 → Int32 → am_H → Option am_O) (x0 : Value) (x1 : Int32) (x2 : Int32) (h : am_H) : Option am_O := (rec_23 x0 x1 ((x2 + 1)) h)
theorem rg_464_112 {X : am_X} {d : Nat} {N : Nat} {rec_2 : Value → Int32 → am_H → Option am_O} {rec_23 : Value → Int32 → Int32 → am_H → Option am_O} (q_2 : ∀ (x0 : Value) (x1 : Int32) (h : am_H) (o : am_O), rec_2 x0 x1 h = some o → ∀ lv : am_LV, (lv.lookup 0 = some x0) → (lv.lookup 1 = some (.int x1)) → (am_isR x0 = true) → am_W X (d + 4) 464 2 lv [] h (fun q => q = o)) (q_23 : ∀ (x0 : Value) (x1 : Int32) (x2 : Int32) (h : am_H) (o : am_O), rec_23 x0 x1 x2 h = some o → ∀ lv : am_LV, (lv.lookup 0 = some x0) → (lv.lookup 1 = some (.int x1)) → (lv.lookup 2 = some (.int x2)) → (am_isR x0 = true) → am_W X (d + 4) 464 23 lv [] h (fun q => q = o)) {lv : am_LV} (x0 : Value) (x1 : Int32) (x2 : Int32) (h : am_H) (o : am_O) (l0 : lv.lookup 0 = some x0) (l1 : lv.lookup 1 = some (.int x1)) (l2 : lv.lookup 2 = some (.int x2)) (i0 : am_isR x0 = true) (hs : fg_464_112 N rec_2 rec_23 x0 x1 x2 h = some o) : am_W X (d + 4) 464 112 lv [] h (fun q => q = o) := by
  unfold fg_464_112 at hs
  refine aw_iinc (v := (x2 + 1)) (c := 1) (lv1 := am_put1 _ 2 _) (pc1 := 115) at_464_112 l2 (by decide) rfl rfl rfl ?_
  refine aw_goto at_464_115 ?_
  exact q_23 x0 x1 ((x2 + 1)) h o hs _ (am_lk1 l0 rfl rfl) (am_lk1 l1 rfl rfl) am_lk0 i0
def fg_464_91 (N : Nat) (rec_2 : Value → Int32 → am_H → Option am_O) (rec_23 : Value → Int32 → Int32 → am_H → Option am_O) (rec_44 : Value → Int32 → Int32 → Int32 → Int32 → am_H → Option am_O) (x0 : Value) (x1 : Int32) (x2 : Int32) (x4 : Int32) (s0 : Int32) (s1 : Int32) (s2 : Int32) (h : am_H) : Option am_O := am_cI false (fm_353 s0 s1 s2 h) (fun v1 h2 => (rec_44 x0 x1 x2 v1 ((x4 + 1)) h2))
theorem rg_464_91 {X : am_X} {d : Nat} {N : Nat} {rec_2 : Value → Int32 → am_H → Option am_O} {rec_23 : Value → Int32 → Int32 → am_H → Option am_O} {rec_44 : Value → Int32 → Int32 → Int32 → Int32 → am_H → Option am_O} (q_2 : ∀ (x0 : Value) (x1 : Int32) (h : am_H) (o : am_O), rec_2 x0 x1 h = some o → ∀ lv : am_LV, (lv.lookup 0 = some x0) → (lv.lookup 1 = some (.int x1)) → (am_isR x0 = true) → am_W X (d + 4) 464 2 lv [] h (fun q => q = o)) (q_23 : ∀ (x0 : Value) (x1 : Int32) (x2 : Int32) (h : am_H) (o : am_O), rec_23 x0 x1 x2 h = some o → ∀ lv : am_LV, (lv.lookup 0 = some x0) → (lv.lookup 1 = some (.int x1)) → (lv.lookup 2 = some (.int x2)) → (am_isR x0 = true) → am_W X (d + 4) 464 23 lv [] h (fun q => q = o)) (q_44 : ∀ (x0 : Value) (x1 : Int32) (x2 : Int32) (x3 : Int32) (x4 : Int32) (h : am_H) (o : am_O), rec_44 x0 x1 x2 x3 x4 h = some o → ∀ lv : am_LV, (lv.lookup 0 = some x0) → (lv.lookup 1 = some (.int x1)) → (lv.lookup 2 = some (.int x2)) → (lv.lookup 3 = some (.int x3)) → (lv.lookup 4 = some (.int x4)) → (am_isR x0 = true) → am_W X (d + 4) 464 44 lv [] h (fun q => q = o)) {lv : am_LV} (x0 : Value) (x1 : Int32) (x2 : Int32) (x4 : Int32) (s0 : Int32) (s1 : Int32) (s2 : Int32) (h : am_H) (o : am_O) (l0 : lv.lookup 0 = some x0) (l1 : lv.lookup 1 = some (.int x1)) (l2 : lv.lookup 2 = some (.int x2)) (l4 : lv.lookup 4 = some (.int x4)) (i0 : am_isR x0 = true) (hs : fg_464_91 N rec_2 rec_23 rec_44 x0 x1 x2 x4 s0 s1 s2 h = some o) : am_W X (d + 4) 464 91 lv [(.int s2), (.int s1), (.int s0)] h (fun q => q = o) := by
  unfold fg_464_91 at hs
  refine aw_call (F := fm_353 s0 s1 s2 h) (t := false) (na := 3) (kd := 0) (as := [(.int s0), (.int s1), (.int s2)]) at_464_91 (am_k3s kb_353) mn_353 mk_353 rfl rfl (am_ok_s mi_353 (am_hl rfl (am_ccI (am_ccI (am_ccI am_cats_0))) rfl)) (am_hc am_cats_0 rfl) (fun hz9 => by cases hz9) (fun o1 hz9 => rm_353 s0 s1 s2 h o1  hz9) ?_
  rcases am_cI_s hs with ⟨v1, h2, f3, hs1⟩ | hs1
  · clear hs
    refine Or.inl ⟨_, _, f3, ?_⟩
    show am_W X _ 464 94 _ [(.int v1)] h2 _
    refine aw_istore_n (lv1 := am_put1 _ 3 _) (pc1 := 95) at_464_94 rfl rfl ?_
    refine aw_iinc (v := (x4 + 1)) (c := 1) (lv1 := am_put1 _ 4 _) (pc1 := 98) at_464_95 (am_lk1 l4 rfl rfl) (by decide) rfl rfl rfl ?_
    refine aw_goto at_464_98 ?_
    exact q_44 x0 x1 x2 v1 ((x4 + 1)) h2 o hs1 _ (am_lk1 (am_lk1 l0 rfl rfl) rfl rfl) (am_lk1 (am_lk1 l1 rfl rfl) rfl rfl) (am_lk1 (am_lk1 l2 rfl rfl) rfl rfl) (am_lk1 am_lk0 rfl rfl) am_lk0 i0
  · clear hs
    exact Or.inr hs1
def fg_464_44 (N : Nat) (rec_2 : Value → Int32 → am_H → Option am_O) (rec_23 : Value → Int32 → Int32 → am_H → Option am_O) : Nat → Value → Int32 → Int32 → Int32 → Int32 → am_H → Option am_O
  | 0 => fun _ _ _ _ _ _ => none
  | K + 1 => fun x0 x1 x2 x3 x4 h => (if 4 ≤ x4 then ((am_vR (am_pG 3093 x0 h)).bind fun v2 => ((am_pA 0 v2 x2 h).bind fun v4 => (if am_pOk 12 x0 h then am_cV true (fm_335 x0 v4 x3 h) (fun h8 => (fg_464_112 N rec_2 rec_23 x0 x1 x2 h8)) else none))) else ((am_vR (am_pG 3094 x0 h)).bind fun v10 => ((am_pA 0 v10 x2 h).bind fun v12 => am_cI false (fm_367 v12 x4 h) (fun v14 h15 => (if ¬ v14 = x1 then (if v14 ≤ x1 then (fg_464_91 N rec_2 rec_23 (fg_464_44 N rec_2 rec_23 K) x0 x1 x2 x4 x3 x4 v14 h15) else (fg_464_91 N rec_2 rec_23 (fg_464_44 N rec_2 rec_23 K) x0 x1 x2 x4 x3 x4 ((v14 - 1)) h15)) else (fg_464_91 N rec_2 rec_23 (fg_464_44 N rec_2 rec_23 K) x0 x1 x2 x4 x3 x4 0 h15))))))
theorem rg_464_44 {X : am_X} {d : Nat} {N : Nat} {rec_2 : Value → Int32 → am_H → Option am_O} {rec_23 : Value → Int32 → Int32 → am_H → Option am_O} (q_2 : ∀ (x0 : Value) (x1 : Int32) (h : am_H) (o : am_O), rec_2 x0 x1 h = some o → ∀ lv : am_LV, (lv.lookup 0 = some x0) → (lv.lookup 1 = some (.int x1)) → (am_isR x0 = true) → am_W X (d + 4) 464 2 lv [] h (fun q => q = o)) (q_23 : ∀ (x0 : Value) (x1 : Int32) (x2 : Int32) (h : am_H) (o : am_O), rec_23 x0 x1 x2 h = some o → ∀ lv : am_LV, (lv.lookup 0 = some x0) → (lv.lookup 1 = some (.int x1)) → (lv.lookup 2 = some (.int x2)) → (am_isR x0 = true) → am_W X (d + 4) 464 23 lv [] h (fun q => q = o)) : ∀ (K : Nat) (x0 : Value) (x1 : Int32) (x2 : Int32) (x3 : Int32) (x4 : Int32) (h : am_H) (o : am_O), fg_464_44 N rec_2 rec_23 K x0 x1 x2 x3 x4 h = some o → ∀ lv : am_LV, (lv.lookup 0 = some x0) → (lv.lookup 1 = some (.int x1)) → (lv.lookup 2 = some (.int x2)) → (lv.lookup 3 = some (.int x3)) → (lv.lookup 4 = some (.int x4)) → (am_isR x0 = true) → am_W X (d + 4) 464 44 lv [] h (fun q => q = o) := by
  intro K
  induction K with
  | zero => intro x0 x1 x2 x3 x4 h o hs; cases hs
  | succ K ih =>
    intro x0 x1 x2 x3 x4 h o hs lv l0 l1 l2 l3 l4 i0
    unfold fg_464_44 at hs
    refine aw_iload (pc1 := 46) at_464_44 l4 rfl ?_
    refine aw_iconst (v := 4) (pc1 := 47) at_464_46 (by decide) rfl ?_
    by_cases c1 : 4 ≤ x4
    · rw [if_pos c1] at hs
      refine aw_icge_t at_464_47 c1 ?_
      refine aw_vload_n (pc1 := 102) at_464_101 l0 i0 rfl ?_
      refine aw_vload_n (pc1 := 103) at_464_102 l0 i0 rfl ?_
      obtain ⟨v2, e3, hs1⟩ := am_bind hs
      clear hs
      refine aw_pG (pc1 := 106) at_464_103 (am_vR_s e3).1 rfl ?_
      refine aw_iload_n (pc1 := 107) at_464_106 l2 rfl ?_
      obtain ⟨v4, e5, hs2⟩ := am_bind hs1
      clear hs1
      refine aw_pA (pc1 := 108) at_464_107 (Or.inl ⟨rfl, rfl⟩) e5 rfl ?_
      refine aw_iload_n (pc1 := 109) at_464_108 l3 rfl ?_
      obtain ⟨z6, hs3⟩ := am_ift hs2
      clear hs2
      refine aw_call (F := fm_335 x0 v4 x3 h) (t := true) (na := 3) (kd := 1) (as := [x0, (.int v4), (.int x3)]) at_464_109 (am_k3v kb_335) mn_335 mk_335 rfl rfl (am_ok_v mi_335 (am_hl rfl (am_ccR i0 (am_ccI (am_ccI am_cats_0))) rfl) z6) (am_hc am_cats_0 rfl) (fun _ => ⟨rfl, hh_464⟩) (fun o1 hz9 => rm_335 x0 v4 x3 h o1 i0 hz9) ?_
      rcases am_cV_s hs3 with ⟨h8, f9, hs4⟩ | hs4
      · clear hs3
        refine Or.inl ⟨_, _, f9, ?_⟩
        show am_W X _ 464 112 _ [] h8 _
        exact rg_464_112 q_2 q_23 x0 x1 x2 h8 o l0 l1 l2 i0 hs4
      · clear hs3
        exact Or.inr hs4
    · rw [if_neg c1] at hs
      refine aw_icge_f (pc1 := 50) at_464_47 c1 rfl ?_
      refine aw_vload_n (pc1 := 51) at_464_50 l0 i0 rfl ?_
      obtain ⟨v10, e11, hs5⟩ := am_bind hs
      clear hs
      refine aw_pG (pc1 := 54) at_464_51 (am_vR_s e11).1 rfl ?_
      refine aw_iload_n (pc1 := 55) at_464_54 l2 rfl ?_
      obtain ⟨v12, e13, hs6⟩ := am_bind hs5
      clear hs5
      refine aw_pA (pc1 := 56) at_464_55 (Or.inl ⟨rfl, rfl⟩) e13 rfl ?_
      refine aw_iload (pc1 := 58) at_464_56 l4 rfl ?_
      refine aw_call (F := fm_367 v12 x4 h) (t := false) (na := 2) (kd := 0) (as := [(.int v12), (.int x4)]) at_464_58 (am_k3s kb_367) mn_367 mk_367 rfl rfl (am_ok_s mi_367 (am_hl rfl (am_ccI (am_ccI am_cats_0)) rfl)) (am_hc am_cats_0 rfl) (fun hz9 => by cases hz9) (fun o1 hz9 => rm_367 v12 x4 h o1  hz9) ?_
      rcases am_cI_s hs6 with ⟨v14, h15, f16, hs7⟩ | hs7
      · clear hs6
        refine Or.inl ⟨_, _, f16, ?_⟩
        show am_W X _ 464 61 _ [(.int v14)] h15 _
        refine aw_istore (lv1 := am_put1 _ 5 _) (pc1 := 63) at_464_61 rfl rfl ?_
        refine aw_iload_n (pc1 := 64) at_464_63 (am_lk1 l3 rfl rfl) rfl ?_
        refine aw_iload (pc1 := 66) at_464_64 (am_lk1 l4 rfl rfl) rfl ?_
        refine aw_iload (pc1 := 68) at_464_66 am_lk0 rfl ?_
        refine aw_iload_n (pc1 := 69) at_464_68 (am_lk1 l1 rfl rfl) rfl ?_
        by_cases c17 : ¬ v14 = x1
        · rw [if_pos c17] at hs7
          refine aw_icne_t at_464_69 c17 ?_
          refine aw_iload (pc1 := 78) at_464_76 am_lk0 rfl ?_
          refine aw_iload_n (pc1 := 79) at_464_78 (am_lk1 l1 rfl rfl) rfl ?_
          by_cases c18 : v14 ≤ x1
          · rw [if_pos c18] at hs7
            refine aw_icle_t at_464_79 c18 ?_
            refine aw_iload (pc1 := 91) at_464_89 am_lk0 rfl ?_
            exact rg_464_91 q_2 q_23 (fun z0 z1 z2 z3 z4 h o hs7 => ih z0 z1 z2 z3 z4 h o hs7) x0 x1 x2 x4 x3 x4 v14 h15 o (am_lk1 l0 rfl rfl) (am_lk1 l1 rfl rfl) (am_lk1 l2 rfl rfl) (am_lk1 l4 rfl rfl) i0 hs7
          · rw [if_neg c18] at hs7
            refine aw_icle_f (pc1 := 82) at_464_79 c18 rfl ?_
            refine aw_iload (pc1 := 84) at_464_82 am_lk0 rfl ?_
            refine aw_iconst (v := 1) (pc1 := 85) at_464_84 (by decide) rfl ?_
            refine aw_isub (v := (v14 - 1)) (pc1 := 86) at_464_85 rfl rfl ?_
            refine aw_goto at_464_86 ?_
            exact rg_464_91 q_2 q_23 (fun z0 z1 z2 z3 z4 h o hs7 => ih z0 z1 z2 z3 z4 h o hs7) x0 x1 x2 x4 x3 x4 ((v14 - 1)) h15 o (am_lk1 l0 rfl rfl) (am_lk1 l1 rfl rfl) (am_lk1 l2 rfl rfl) (am_lk1 l4 rfl rfl) i0 hs7
        · rw [if_neg c17] at hs7
          refine aw_icne_f (pc1 := 72) at_464_69 c17 rfl ?_
          refine aw_iconst (v := 0) (pc1 := 73) at_464_72 (by decide) rfl ?_
          refine aw_goto at_464_73 ?_
          exact rg_464_91 q_2 q_23 (fun z0 z1 z2 z3 z4 h o hs7 => ih z0 z1 z2 z3 z4 h o hs7) x0 x1 x2 x4 x3 x4 0 h15 o (am_lk1 l0 rfl rfl) (am_lk1 l1 rfl rfl) (am_lk1 l2 rfl rfl) (am_lk1 l4 rfl rfl) i0 hs7
      · clear hs6
        exact Or.inr hs7
def fg_464_23 (N : Nat) (rec_2 : Value → Int32 → am_H → Option am_O) : Nat → Value → Int32 → Int32 → am_H → Option am_O
  | 0 => fun _ _ _ _ => none
  | K + 1 => fun x0 x1 x2 h => ((am_vI (am_pG 3090 x0 h)).bind fun v1 => (if v1 ≤ x2 then (if am_pOk 12 x0 h then am_cI true (fm_444 N x0 h) (fun v5 h6 => ((am_pP 3167 x0 (.int v5) h6).bind fun h8 => (rec_2 x0 ((x1 + 1)) h8))) else none) else (if ¬ x2 = x1 then (fg_464_44 N rec_2 (fg_464_23 N rec_2 K) N x0 x1 x2 0 0 h) else (fg_464_112 N rec_2 (fg_464_23 N rec_2 K) x0 x1 x2 h))))
theorem rg_464_23 {X : am_X} {d : Nat} {N : Nat} {rec_2 : Value → Int32 → am_H → Option am_O} (q_2 : ∀ (x0 : Value) (x1 : Int32) (h : am_H) (o : am_O), rec_2 x0 x1 h = some o → ∀ lv : am_LV, (lv.lookup 0 = some x0) → (lv.lookup 1 = some (.int x1)) → (am_isR x0 = true) → am_W X (d + 4) 464 2 lv [] h (fun q => q = o)) : ∀ (K : Nat) (x0 : Value) (x1 : Int32) (x2 : Int32) (h : am_H) (o : am_O), fg_464_23 N rec_2 K x0 x1 x2 h = some o → ∀ lv : am_LV, (lv.lookup 0 = some x0) → (lv.lookup 1 = some (.int x1)) → (lv.lookup 2 = some (.int x2)) → (am_isR x0 = true) → am_W X (d + 4) 464 23 lv [] h (fun q => q = o) := by
  intro K
  induction K with
  | zero => intro x0 x1 x2 h o hs; cases hs
  | succ K ih =>
    intro x0 x1 x2 h o hs lv l0 l1 l2 i0
    unfold fg_464_23 at hs
    refine aw_iload_n (pc1 := 24) at_464_23 l2 rfl ?_
    refine aw_vload_n (pc1 := 25) at_464_24 l0 i0 rfl ?_
    obtain ⟨v1, e2, hs1⟩ := am_bind hs
    clear hs
    refine aw_pG (pc1 := 28) at_464_25 (am_vI_s e2) rfl ?_
    by_cases c3 : v1 ≤ x2
    · rw [if_pos c3] at hs1
      refine aw_icge_t at_464_28 c3 ?_
      refine aw_vload_n (pc1 := 119) at_464_118 l0 i0 rfl ?_
      refine aw_vload_n (pc1 := 120) at_464_119 l0 i0 rfl ?_
      obtain ⟨z4, hs2⟩ := am_ift hs1
      clear hs1
      refine aw_call (F := fm_444 N x0 h) (t := true) (na := 1) (kd := 1) (as := [x0]) at_464_120 (am_k3v kb_444) mn_444 mk_444 rfl rfl (am_ok_v mi_444 (am_hl rfl (am_ccR i0 am_cats_0) rfl) z4) (am_hc (am_ccR i0 am_cats_0) rfl) (fun _ => ⟨rfl, hh_464⟩) (fun o1 hz9 => rm_444 x0 h o1 i0 hz9) ?_
      rcases am_cI_s hs2 with ⟨v5, h6, f7, hs3⟩ | hs3
      · clear hs2
        refine Or.inl ⟨_, _, f7, ?_⟩
        show am_W X _ 464 123 _ [(.int v5), x0] h6 _
        obtain ⟨h8, e9, hs4⟩ := am_bind hs3
        clear hs3
        refine aw_pP (pc1 := 126) at_464_123 e9 rfl ?_
        refine aw_iinc (v := (x1 + 1)) (c := 1) (lv1 := am_put1 _ 1 _) (pc1 := 129) at_464_126 l1 (by decide) rfl rfl rfl ?_
        refine aw_goto at_464_129 ?_
        exact q_2 x0 ((x1 + 1)) h8 o hs4 _ (am_lk1 l0 rfl (by rw [am_isRc i0]; rfl)) am_lk0 i0
      · clear hs2
        exact Or.inr hs3
    · rw [if_neg c3] at hs1
      refine aw_icge_f (pc1 := 31) at_464_28 c3 rfl ?_
      refine aw_iload_n (pc1 := 32) at_464_31 l2 rfl ?_
      refine aw_iload_n (pc1 := 33) at_464_32 l1 rfl ?_
      by_cases c10 : ¬ x2 = x1
      · rw [if_pos c10] at hs1
        refine aw_icne_t at_464_33 c10 ?_
        refine aw_iconst (v := 0) (pc1 := 40) at_464_39 (by decide) rfl ?_
        refine aw_istore_n (lv1 := am_put1 _ 3 _) (pc1 := 41) at_464_40 rfl rfl ?_
        refine aw_iconst (v := 0) (pc1 := 42) at_464_41 (by decide) rfl ?_
        refine aw_istore (lv1 := am_put1 _ 4 _) (pc1 := 44) at_464_42 rfl rfl ?_
        exact rg_464_44 q_2 (fun z0 z1 z2 h o hs1 => ih z0 z1 z2 h o hs1) N x0 x1 x2 0 0 h o hs1 _ (am_lk1 (am_lk1 l0 rfl rfl) rfl rfl) (am_lk1 (am_lk1 l1 rfl rfl) rfl rfl) (am_lk1 (am_lk1 l2 rfl rfl) rfl rfl) (am_lk1 am_lk0 rfl rfl) am_lk0 i0
      · rw [if_neg c10] at hs1
        refine aw_icne_f (pc1 := 36) at_464_33 c10 rfl ?_
        refine aw_goto at_464_36 ?_
        exact rg_464_112 q_2 (fun z0 z1 z2 h o hs1 => ih z0 z1 z2 h o hs1) x0 x1 x2 h o l0 l1 l2 i0 hs1
def fg_464_2 (N : Nat) : Nat → Value → Int32 → am_H → Option am_O
  | 0 => fun _ _ _ => none
  | K + 1 => fun x0 x1 h => ((am_vI (am_pG 3090 x0 h)).bind fun v1 => (if v1 ≤ x1 then (fg_464_132 N h) else ((am_vI (am_pG 3167 x0 h)).bind fun v4 => (if ¬ v4 = 0 then (fg_464_132 N h) else (if am_pOk 12 x0 h then am_cV true (fm_451 x0 h) (fun h9 => (fg_464_23 N (fg_464_2 N K) N x0 x1 0 h9)) else none)))))
theorem rg_464_2 {X : am_X} {d : Nat} {N : Nat} : ∀ (K : Nat) (x0 : Value) (x1 : Int32) (h : am_H) (o : am_O), fg_464_2 N K x0 x1 h = some o → ∀ lv : am_LV, (lv.lookup 0 = some x0) → (lv.lookup 1 = some (.int x1)) → (am_isR x0 = true) → am_W X (d + 4) 464 2 lv [] h (fun q => q = o) := by
  intro K
  induction K with
  | zero => intro x0 x1 h o hs; cases hs
  | succ K ih =>
    intro x0 x1 h o hs lv l0 l1 i0
    unfold fg_464_2 at hs
    refine aw_iload_n (pc1 := 3) at_464_2 l1 rfl ?_
    refine aw_vload_n (pc1 := 4) at_464_3 l0 i0 rfl ?_
    obtain ⟨v1, e2, hs1⟩ := am_bind hs
    clear hs
    refine aw_pG (pc1 := 7) at_464_4 (am_vI_s e2) rfl ?_
    by_cases c3 : v1 ≤ x1
    · rw [if_pos c3] at hs1
      refine aw_icge_t at_464_7 c3 ?_
      exact rg_464_132 h o   hs1
    · rw [if_neg c3] at hs1
      refine aw_icge_f (pc1 := 10) at_464_7 c3 rfl ?_
      refine aw_vload_n (pc1 := 11) at_464_10 l0 i0 rfl ?_
      obtain ⟨v4, e5, hs2⟩ := am_bind hs1
      clear hs1
      refine aw_pG (pc1 := 14) at_464_11 (am_vI_s e5) rfl ?_
      by_cases c6 : ¬ v4 = 0
      · rw [if_pos c6] at hs2
        refine aw_ifne_t at_464_14 c6 ?_
        exact rg_464_132 h o   hs2
      · rw [if_neg c6] at hs2
        refine aw_ifne_f (pc1 := 17) at_464_14 c6 rfl ?_
        refine aw_vload_n (pc1 := 18) at_464_17 l0 i0 rfl ?_
        obtain ⟨z7, hs3⟩ := am_ift hs2
        clear hs2
        refine aw_call (F := fm_451 x0 h) (t := true) (na := 1) (kd := 1) (as := [x0]) at_464_18 (am_k3v kb_451) mn_451 mk_451 rfl rfl (am_ok_v mi_451 (am_hl rfl (am_ccR i0 am_cats_0) rfl) z7) (am_hc am_cats_0 rfl) (fun _ => ⟨rfl, hh_464⟩) (fun o1 hz9 => rm_451 x0 h o1 i0 hz9) ?_
        rcases am_cV_s hs3 with ⟨h9, f10, hs4⟩ | hs4
        · clear hs3
          refine Or.inl ⟨_, _, f10, ?_⟩
          show am_W X _ 464 21 _ [] h9 _
          refine aw_iconst (v := 0) (pc1 := 22) at_464_21 (by decide) rfl ?_
          refine aw_istore_n (lv1 := am_put1 _ 2 _) (pc1 := 23) at_464_22 rfl rfl ?_
          exact rg_464_23 (fun z0 z1 h o hs4 => ih z0 z1 h o hs4) N x0 x1 0 h9 o hs4 _ (am_lk1 l0 rfl rfl) (am_lk1 l1 rfl rfl) am_lk0 i0
        · clear hs3
          exact Or.inr hs4
def fg_464_0 (N : Nat) (x0 : Value) (h : am_H) : Option am_O := (fg_464_2 N N x0 1 h)
theorem rg_464_0 {X : am_X} {d : Nat} {N : Nat} {lv : am_LV} (x0 : Value) (h : am_H) (o : am_O) (l0 : lv.lookup 0 = some x0) (i0 : am_isR x0 = true) (hs : fg_464_0 N x0 h = some o) : am_W X (d + 4) 464 0 lv [] h (fun q => q = o) := by
  unfold fg_464_0 at hs
  refine aw_iconst (v := 1) (pc1 := 1) at_464_0 (by decide) rfl ?_
  refine aw_istore_n (lv1 := am_put1 _ 1 _) (pc1 := 2) at_464_1 rfl rfl ?_
  exact rg_464_2 N x0 1 h o hs _ (am_lk1 l0 rfl (by rw [am_isRc i0]; rfl)) am_lk0 i0
def fm_464 (N : Nat) (y0 : Value) (h : am_H) : Option am_O := fg_464_0 N y0 h
theorem rm_464 {X : am_X} {d : Nat} {N : Nat} (y0 : Value) (h : am_H) (o : am_O) (i0 : am_isR y0 = true) (hs : fm_464 N y0 h = some o) : am_W X (d + 4) 464 0 (am_args 0 [y0]) [] h (fun q => q = o) := by
  rw [am_args_R i0]
  exact rg_464_0 y0 h o rfl i0 hs
def fg_465_120 (N : Nat) (h : am_H) : Option am_O := some (.inl (none, h))
theorem rg_465_120 {X : am_X} {d : Nat} {N : Nat} {lv : am_LV} (h : am_H) (o : am_O) (hs : fg_465_120 N h = some o) : am_W X (d + 4) 465 120 lv [] h (fun q => q = o) := by
  unfold fg_465_120 at hs
  cases hs
  exact aw_vret at_465_120 rt_465 rfl
def fg_465_114 (N : Nat) (rec_2 : Value → Int32 → am_H → Option am_O) (x0 : Value) (x1 : Int32) (h : am_H) : Option am_O := (rec_2 x0 ((x1 + 1)) h)
theorem rg_465_114 {X : am_X} {d : Nat} {N : Nat} {rec_2 : Value → Int32 → am_H → Option am_O} (q_2 : ∀ (x0 : Value) (x1 : Int32) (h : am_H) (o : am_O), rec_2 x0 x1 h = some o → ∀ lv : am_LV, (lv.lookup 0 = some x0) → (lv.lookup 1 = some (.int x1)) → (am_isR x0 = true) → am_W X (d + 4) 465 2 lv [] h (fun q => q = o)) {lv : am_LV} (x0 : Value) (x1 : Int32) (h : am_H) (o : am_O) (l0 : lv.lookup 0 = some x0) (l1 : lv.lookup 1 = some (.int x1)) (i0 : am_isR x0 = true) (hs : fg_465_114 N rec_2 x0 x1 h = some o) : am_W X (d + 4) 465 114 lv [] h (fun q => q = o) := by
  unfold fg_465_114 at hs
  refine aw_iinc (v := (x1 + 1)) (c := 1) (lv1 := am_put1 _ 1 _) (pc1 := 117) at_465_114 l1 (by decide) rfl rfl rfl ?_
  refine aw_goto at_465_117 ?_
  exact q_2 x0 ((x1 + 1)) h o hs _ (am_lk1 l0 rfl (by rw [am_isRc i0]; rfl)) am_lk0 i0
def fg_465_108 (N : Nat) (rec_2 : Value → Int32 → am_H → Option am_O) (rec_19 : Value → Int32 → Int32 → am_H → Option am_O) (x0 : Value) (x1 : Int32) (x2 : Int32) (h : am_H) : Option am_O := (rec_19 x0 x1 ((x2 + 1)) h)
theorem rg_465_108 {X : am_X} {d : Nat} {N : Nat} {rec_2 : Value → Int32 → am_H → Option am_O} {rec_19 : Value → Int32 → Int32 → am_H → Option am_O} (q_2 : ∀ (x0 : Value) (x1 : Int32) (h : am_H) (o : am_O), rec_2 x0 x1 h = some o → ∀ lv : am_LV, (lv.lookup 0 = some x0) → (lv.lookup 1 = some (.int x1)) → (am_isR x0 = true) → am_W X (d + 4) 465 2 lv [] h (fun q => q = o)) (q_19 : ∀ (x0 : Value) (x1 : Int32) (x2 : Int32) (h : am_H) (o : am_O), rec_19 x0 x1 x2 h = some o → ∀ lv : am_LV, (lv.lookup 0 = some x0) → (lv.lookup 1 = some (.int x1)) → (lv.lookup 2 = some (.int x2)) → (am_isR x0 = true) → am_W X (d + 4) 465 19 lv [] h (fun q => q = o)) {lv : am_LV} (x0 : Value) (x1 : Int32) (x2 : Int32) (h : am_H) (o : am_O) (l0 : lv.lookup 0 = some x0) (l1 : lv.lookup 1 = some (.int x1)) (l2 : lv.lookup 2 = some (.int x2)) (i0 : am_isR x0 = true) (hs : fg_465_108 N rec_2 rec_19 x0 x1 x2 h = some o) : am_W X (d + 4) 465 108 lv [] h (fun q => q = o) := by
  unfold fg_465_108 at hs
  refine aw_iinc (v := (x2 + 1)) (c := 1) (lv1 := am_put1 _ 2 _) (pc1 := 111) at_465_108 l2 (by decide) rfl rfl rfl ?_
  refine aw_goto at_465_111 ?_
  exact q_19 x0 x1 ((x2 + 1)) h o hs _ (am_lk1 l0 rfl rfl) (am_lk1 l1 rfl rfl) am_lk0 i0
def fg_465_102 (N : Nat) (rec_2 : Value → Int32 → am_H → Option am_O) (rec_19 : Value → Int32 → Int32 → am_H → Option am_O) (rec_38 : Value → Int32 → Int32 → Int32 → am_H → Option am_O) (x0 : Value) (x1 : Int32) (x2 : Int32) (x3 : Int32) (h : am_H) : Option am_O := (rec_38 x0 x1 x2 ((x3 + 1)) h)
theorem rg_465_102 {X : am_X} {d : Nat} {N : Nat} {rec_2 : Value → Int32 → am_H → Option am_O} {rec_19 : Value → Int32 → Int32 → am_H → Option am_O} {rec_38 : Value → Int32 → Int32 → Int32 → am_H → Option am_O} (q_2 : ∀ (x0 : Value) (x1 : Int32) (h : am_H) (o : am_O), rec_2 x0 x1 h = some o → ∀ lv : am_LV, (lv.lookup 0 = some x0) → (lv.lookup 1 = some (.int x1)) → (am_isR x0 = true) → am_W X (d + 4) 465 2 lv [] h (fun q => q = o)) (q_19 : ∀ (x0 : Value) (x1 : Int32) (x2 : Int32) (h : am_H) (o : am_O), rec_19 x0 x1 x2 h = some o → ∀ lv : am_LV, (lv.lookup 0 = some x0) → (lv.lookup 1 = some (.int x1)) → (lv.lookup 2 = some (.int x2)) → (am_isR x0 = true) → am_W X (d + 4) 465 19 lv [] h (fun q => q = o)) (q_38 : ∀ (x0 : Value) (x1 : Int32) (x2 : Int32) (x3 : Int32) (h : am_H) (o : am_O), rec_38 x0 x1 x2 x3 h = some o → ∀ lv : am_LV, (lv.lookup 0 = some x0) → (lv.lookup 1 = some (.int x1)) → (lv.lookup 2 = some (.int x2)) → (lv.lookup 3 = some (.int x3)) → (am_isR x0 = true) → am_W X (d + 4) 465 38 lv [] h (fun q => q = o)) {lv : am_LV} (x0 : Value) (x1 : Int32) (x2 : Int32) (x3 : Int32) (h : am_H) (o : am_O) (l0 : lv.lookup 0 = some x0) (l1 : lv.lookup 1 = some (.int x1)) (l2 : lv.lookup 2 = some (.int x2)) (l3 : lv.lookup 3 = some (.int x3)) (i0 : am_isR x0 = true) (hs : fg_465_102 N rec_2 rec_19 rec_38 x0 x1 x2 x3 h = some o) : am_W X (d + 4) 465 102 lv [] h (fun q => q = o) := by
  unfold fg_465_102 at hs
  refine aw_iinc (v := (x3 + 1)) (c := 1) (lv1 := am_put1 _ 3 _) (pc1 := 105) at_465_102 l3 (by decide) rfl rfl rfl ?_
  refine aw_goto at_465_105 ?_
  exact q_38 x0 x1 x2 ((x3 + 1)) h o hs _ (am_lk1 l0 rfl rfl) (am_lk1 l1 rfl rfl) (am_lk1 l2 rfl rfl) am_lk0 i0
def fg_465_76 (N : Nat) (rec_2 : Value → Int32 → am_H → Option am_O) (rec_19 : Value → Int32 → Int32 → am_H → Option am_O) (rec_38 : Value → Int32 → Int32 → Int32 → am_H → Option am_O) (x0 : Value) (x1 : Int32) (x2 : Int32) (x3 : Int32) (h : am_H) : Option am_O := (if am_pOk 12 x0 h then am_cV true (fm_442 N x0 h) (fun h3 => ((am_vR (am_pG 3088 x0 h3)).bind fun v5 => ((am_pS 0 v5 x1 x2 h3).bind fun h7 => ((am_vR (am_pG 3089 x0 h7)).bind fun v9 => ((am_pS 0 v9 x1 x3 h7).bind fun h11 => (if am_pOk 12 x0 h11 then am_cI true (fm_444 N x0 h11) (fun v14 h15 => ((am_pP 3167 x0 (.int v14) h15).bind fun h17 => (fg_465_102 N rec_2 rec_19 rec_38 x0 x1 x2 x3 h17))) else none)))))) else none)
theorem rg_465_76 {X : am_X} {d : Nat} {N : Nat} {rec_2 : Value → Int32 → am_H → Option am_O} {rec_19 : Value → Int32 → Int32 → am_H → Option am_O} {rec_38 : Value → Int32 → Int32 → Int32 → am_H → Option am_O} (q_2 : ∀ (x0 : Value) (x1 : Int32) (h : am_H) (o : am_O), rec_2 x0 x1 h = some o → ∀ lv : am_LV, (lv.lookup 0 = some x0) → (lv.lookup 1 = some (.int x1)) → (am_isR x0 = true) → am_W X (d + 4) 465 2 lv [] h (fun q => q = o)) (q_19 : ∀ (x0 : Value) (x1 : Int32) (x2 : Int32) (h : am_H) (o : am_O), rec_19 x0 x1 x2 h = some o → ∀ lv : am_LV, (lv.lookup 0 = some x0) → (lv.lookup 1 = some (.int x1)) → (lv.lookup 2 = some (.int x2)) → (am_isR x0 = true) → am_W X (d + 4) 465 19 lv [] h (fun q => q = o)) (q_38 : ∀ (x0 : Value) (x1 : Int32) (x2 : Int32) (x3 : Int32) (h : am_H) (o : am_O), rec_38 x0 x1 x2 x3 h = some o → ∀ lv : am_LV, (lv.lookup 0 = some x0) → (lv.lookup 1 = some (.int x1)) → (lv.lookup 2 = some (.int x2)) → (lv.lookup 3 = some (.int x3)) → (am_isR x0 = true) → am_W X (d + 4) 465 38 lv [] h (fun q => q = o)) {lv : am_LV} (x0 : Value) (x1 : Int32) (x2 : Int32) (x3 : Int32) (h : am_H) (o : am_O) (l0 : lv.lookup 0 = some x0) (l1 : lv.lookup 1 = some (.int x1)) (l2 : lv.lookup 2 = some (.int x2)) (l3 : lv.lookup 3 = some (.int x3)) (i0 : am_isR x0 = true) (hs : fg_465_76 N rec_2 rec_19 rec_38 x0 x1 x2 x3 h = some o) : am_W X (d + 4) 465 76 lv [] h (fun q => q = o) := by
  unfold fg_465_76 at hs
  refine aw_vload_n (pc1 := 77) at_465_76 l0 i0 rfl ?_
  obtain ⟨z1, hs1⟩ := am_ift hs
  clear hs
  refine aw_call (F := fm_442 N x0 h) (t := true) (na := 1) (kd := 1) (as := [x0]) at_465_77 (am_k3v kb_442) mn_442 mk_442 rfl rfl (am_ok_v mi_442 (am_hl rfl (am_ccR i0 am_cats_0) rfl) z1) (am_hc am_cats_0 rfl) (fun _ => ⟨rfl, hh_465⟩) (fun o1 hz9 => rm_442 x0 h o1 i0 hz9) ?_
  rcases am_cV_s hs1 with ⟨h3, f4, hs2⟩ | hs2
  · clear hs1
    refine Or.inl ⟨_, _, f4, ?_⟩
    show am_W X _ 465 80 _ [] h3 _
    refine aw_vload_n (pc1 := 81) at_465_80 l0 i0 rfl ?_
    obtain ⟨v5, e6, hs3⟩ := am_bind hs2
    clear hs2
    refine aw_pG (pc1 := 84) at_465_81 (am_vR_s e6).1 rfl ?_
    refine aw_iload_n (pc1 := 85) at_465_84 l1 rfl ?_
    refine aw_iload_n (pc1 := 86) at_465_85 l2 rfl ?_
    obtain ⟨h7, e8, hs4⟩ := am_bind hs3
    clear hs3
    refine aw_pS (pc1 := 87) at_465_86 (Or.inl ⟨rfl, rfl⟩) e8 rfl ?_
    refine aw_vload_n (pc1 := 88) at_465_87 l0 i0 rfl ?_
    obtain ⟨v9, e10, hs5⟩ := am_bind hs4
    clear hs4
    refine aw_pG (pc1 := 91) at_465_88 (am_vR_s e10).1 rfl ?_
    refine aw_iload_n (pc1 := 92) at_465_91 l1 rfl ?_
    refine aw_iload_n (pc1 := 93) at_465_92 l3 rfl ?_
    obtain ⟨h11, e12, hs6⟩ := am_bind hs5
    clear hs5
    refine aw_pS (pc1 := 94) at_465_93 (Or.inl ⟨rfl, rfl⟩) e12 rfl ?_
    refine aw_vload_n (pc1 := 95) at_465_94 l0 i0 rfl ?_
    refine aw_vload_n (pc1 := 96) at_465_95 l0 i0 rfl ?_
    obtain ⟨z13, hs7⟩ := am_ift hs6
    clear hs6
    refine aw_call (F := fm_444 N x0 h11) (t := true) (na := 1) (kd := 1) (as := [x0]) at_465_96 (am_k3v kb_444) mn_444 mk_444 rfl rfl (am_ok_v mi_444 (am_hl rfl (am_ccR i0 am_cats_0) rfl) z13) (am_hc (am_ccR i0 am_cats_0) rfl) (fun _ => ⟨rfl, hh_465⟩) (fun o1 hz9 => rm_444 x0 h11 o1 i0 hz9) ?_
    rcases am_cI_s hs7 with ⟨v14, h15, f16, hs8⟩ | hs8
    · clear hs7
      refine Or.inl ⟨_, _, f16, ?_⟩
      show am_W X _ 465 99 _ [(.int v14), x0] h15 _
      obtain ⟨h17, e18, hs9⟩ := am_bind hs8
      clear hs8
      refine aw_pP (pc1 := 102) at_465_99 e18 rfl ?_
      exact rg_465_102 q_2 q_19 q_38 x0 x1 x2 x3 h17 o l0 l1 l2 l3 i0 hs9
    · clear hs7
      exact Or.inr hs8
  · clear hs1
    exact Or.inr hs2
def fg_465_38 (N : Nat) (rec_2 : Value → Int32 → am_H → Option am_O) (rec_19 : Value → Int32 → Int32 → am_H → Option am_O) : Nat → Value → Int32 → Int32 → Int32 → am_H → Option am_O
  | 0 => fun _ _ _ _ _ => none
  | K + 1 => fun x0 x1 x2 x3 h => ((am_vI (am_pG 3091 x0 h)).bind fun v1 => (if v1 ≤ x3 then (fg_465_108 N rec_2 rec_19 x0 x1 x2 h) else ((am_vI (am_pG 3167 x0 h)).bind fun v4 => (if ¬ v4 = 0 then (fg_465_108 N rec_2 rec_19 x0 x1 x2 h) else ((am_vR (am_pG 3093 x0 h)).bind fun v7 => ((am_pA 0 v7 x1 h).bind fun v9 => (if ¬ x2 = v9 then (fg_465_76 N rec_2 rec_19 (fg_465_38 N rec_2 rec_19 K) x0 x1 x2 x3 h) else ((am_vR (am_pG 3094 x0 h)).bind fun v12 => ((am_pA 0 v12 x1 h).bind fun v14 => (if ¬ x3 = v14 then (fg_465_76 N rec_2 rec_19 (fg_465_38 N rec_2 rec_19 K) x0 x1 x2 x3 h) else (fg_465_102 N rec_2 rec_19 (fg_465_38 N rec_2 rec_19 K) x0 x1 x2 x3 h)))))))))))
theorem rg_465_38 {X : am_X} {d : Nat} {N : Nat} {rec_2 : Value → Int32 → am_H → Option am_O} {rec_19 : Value → Int32 → Int32 → am_H → Option am_O} (q_2 : ∀ (x0 : Value) (x1 : Int32) (h : am_H) (o : am_O), rec_2 x0 x1 h = some o → ∀ lv : am_LV, (lv.lookup 0 = some x0) → (lv.lookup 1 = some (.int x1)) → (am_isR x0 = true) → am_W X (d + 4) 465 2 lv [] h (fun q => q = o)) (q_19 : ∀ (x0 : Value) (x1 : Int32) (x2 : Int32) (h : am_H) (o : am_O), rec_19 x0 x1 x2 h = some o → ∀ lv : am_LV, (lv.lookup 0 = some x0) → (lv.lookup 1 = some (.int x1)) → (lv.lookup 2 = some (.int x2)) → (am_isR x0 = true) → am_W X (d + 4) 465 19 lv [] h (fun q => q = o)) : ∀ (K : Nat) (x0 : Value) (x1 : Int32) (x2 : Int32) (x3 : Int32) (h : am_H) (o : am_O), fg_465_38 N rec_2 rec_19 K x0 x1 x2 x3 h = some o → ∀ lv : am_LV, (lv.lookup 0 = some x0) → (lv.lookup 1 = some (.int x1)) → (lv.lookup 2 = some (.int x2)) → (lv.lookup 3 = some (.int x3)) → (am_isR x0 = true) → am_W X (d + 4) 465 38 lv [] h (fun q => q = o) := by
  intro K
  induction K with
  | zero => intro x0 x1 x2 x3 h o hs; cases hs
  | succ K ih =>
    intro x0 x1 x2 x3 h o hs lv l0 l1 l2 l3 i0
    unfold fg_465_38 at hs
    refine aw_iload_n (pc1 := 39) at_465_38 l3 rfl ?_
    refine aw_vload_n (pc1 := 40) at_465_39 l0 i0 rfl ?_
    obtain ⟨v1, e2, hs1⟩ := am_bind hs
    clear hs
    refine aw_pG (pc1 := 43) at_465_40 (am_vI_s e2) rfl ?_
    by_cases c3 : v1 ≤ x3
    · rw [if_pos c3] at hs1
      refine aw_icge_t at_465_43 c3 ?_
      exact rg_465_108 q_2 q_19 x0 x1 x2 h o l0 l1 l2 i0 hs1
    · rw [if_neg c3] at hs1
      refine aw_icge_f (pc1 := 46) at_465_43 c3 rfl ?_
      refine aw_vload_n (pc1 := 47) at_465_46 l0 i0 rfl ?_
      obtain ⟨v4, e5, hs2⟩ := am_bind hs1
      clear hs1
      refine aw_pG (pc1 := 50) at_465_47 (am_vI_s e5) rfl ?_
      by_cases c6 : ¬ v4 = 0
      · rw [if_pos c6] at hs2
        refine aw_ifne_t at_465_50 c6 ?_
        exact rg_465_108 q_2 q_19 x0 x1 x2 h o l0 l1 l2 i0 hs2
      · rw [if_neg c6] at hs2
        refine aw_ifne_f (pc1 := 53) at_465_50 c6 rfl ?_
        refine aw_iload_n (pc1 := 54) at_465_53 l2 rfl ?_
        refine aw_vload_n (pc1 := 55) at_465_54 l0 i0 rfl ?_
        obtain ⟨v7, e8, hs3⟩ := am_bind hs2
        clear hs2
        refine aw_pG (pc1 := 58) at_465_55 (am_vR_s e8).1 rfl ?_
        refine aw_iload_n (pc1 := 59) at_465_58 l1 rfl ?_
        obtain ⟨v9, e10, hs4⟩ := am_bind hs3
        clear hs3
        refine aw_pA (pc1 := 60) at_465_59 (Or.inl ⟨rfl, rfl⟩) e10 rfl ?_
        by_cases c11 : ¬ x2 = v9
        · rw [if_pos c11] at hs4
          refine aw_icne_t at_465_60 c11 ?_
          exact rg_465_76 q_2 q_19 (fun z0 z1 z2 z3 h o hs4 => ih z0 z1 z2 z3 h o hs4) x0 x1 x2 x3 h o l0 l1 l2 l3 i0 hs4
        · rw [if_neg c11] at hs4
          refine aw_icne_f (pc1 := 63) at_465_60 c11 rfl ?_
          refine aw_iload_n (pc1 := 64) at_465_63 l3 rfl ?_
          refine aw_vload_n (pc1 := 65) at_465_64 l0 i0 rfl ?_
          obtain ⟨v12, e13, hs5⟩ := am_bind hs4
          clear hs4
          refine aw_pG (pc1 := 68) at_465_65 (am_vR_s e13).1 rfl ?_
          refine aw_iload_n (pc1 := 69) at_465_68 l1 rfl ?_
          obtain ⟨v14, e15, hs6⟩ := am_bind hs5
          clear hs5
          refine aw_pA (pc1 := 70) at_465_69 (Or.inl ⟨rfl, rfl⟩) e15 rfl ?_
          by_cases c16 : ¬ x3 = v14
          · rw [if_pos c16] at hs6
            refine aw_icne_t at_465_70 c16 ?_
            exact rg_465_76 q_2 q_19 (fun z0 z1 z2 z3 h o hs6 => ih z0 z1 z2 z3 h o hs6) x0 x1 x2 x3 h o l0 l1 l2 l3 i0 hs6
          · rw [if_neg c16] at hs6
            refine aw_icne_f (pc1 := 73) at_465_70 c16 rfl ?_
            refine aw_goto at_465_73 ?_
            exact rg_465_102 q_2 q_19 (fun z0 z1 z2 z3 h o hs6 => ih z0 z1 z2 z3 h o hs6) x0 x1 x2 x3 h o l0 l1 l2 l3 i0 hs6
def fg_465_19 (N : Nat) (rec_2 : Value → Int32 → am_H → Option am_O) : Nat → Value → Int32 → Int32 → am_H → Option am_O
  | 0 => fun _ _ _ _ => none
  | K + 1 => fun x0 x1 x2 h => ((am_vI (am_pG 3091 x0 h)).bind fun v1 => (if v1 ≤ x2 then (fg_465_114 N rec_2 x0 x1 h) else ((am_vI (am_pG 3167 x0 h)).bind fun v4 => (if ¬ v4 = 0 then (fg_465_114 N rec_2 x0 x1 h) else (fg_465_38 N rec_2 (fg_465_19 N rec_2 K) N x0 x1 x2 ((x2 + 1)) h)))))
theorem rg_465_19 {X : am_X} {d : Nat} {N : Nat} {rec_2 : Value → Int32 → am_H → Option am_O} (q_2 : ∀ (x0 : Value) (x1 : Int32) (h : am_H) (o : am_O), rec_2 x0 x1 h = some o → ∀ lv : am_LV, (lv.lookup 0 = some x0) → (lv.lookup 1 = some (.int x1)) → (am_isR x0 = true) → am_W X (d + 4) 465 2 lv [] h (fun q => q = o)) : ∀ (K : Nat) (x0 : Value) (x1 : Int32) (x2 : Int32) (h : am_H) (o : am_O), fg_465_19 N rec_2 K x0 x1 x2 h = some o → ∀ lv : am_LV, (lv.lookup 0 = some x0) → (lv.lookup 1 = some (.int x1)) → (lv.lookup 2 = some (.int x2)) → (am_isR x0 = true) → am_W X (d + 4) 465 19 lv [] h (fun q => q = o) := by
  intro K
  induction K with
  | zero => intro x0 x1 x2 h o hs; cases hs
  | succ K ih =>
    intro x0 x1 x2 h o hs lv l0 l1 l2 i0
    unfold fg_465_19 at hs
    refine aw_iload_n (pc1 := 20) at_465_19 l2 rfl ?_
    refine aw_vload_n (pc1 := 21) at_465_20 l0 i0 rfl ?_
    obtain ⟨v1, e2, hs1⟩ := am_bind hs
    clear hs
    refine aw_pG (pc1 := 24) at_465_21 (am_vI_s e2) rfl ?_
    by_cases c3 : v1 ≤ x2
    · rw [if_pos c3] at hs1
      refine aw_icge_t at_465_24 c3 ?_
      exact rg_465_114 q_2 x0 x1 h o l0 l1 i0 hs1
    · rw [if_neg c3] at hs1
      refine aw_icge_f (pc1 := 27) at_465_24 c3 rfl ?_
      refine aw_vload_n (pc1 := 28) at_465_27 l0 i0 rfl ?_
      obtain ⟨v4, e5, hs2⟩ := am_bind hs1
      clear hs1
      refine aw_pG (pc1 := 31) at_465_28 (am_vI_s e5) rfl ?_
      by_cases c6 : ¬ v4 = 0
      · rw [if_pos c6] at hs2
        refine aw_ifne_t at_465_31 c6 ?_
        exact rg_465_114 q_2 x0 x1 h o l0 l1 i0 hs2
      · rw [if_neg c6] at hs2
        refine aw_ifne_f (pc1 := 34) at_465_31 c6 rfl ?_
        refine aw_iload_n (pc1 := 35) at_465_34 l2 rfl ?_
        refine aw_iconst (v := 1) (pc1 := 36) at_465_35 (by decide) rfl ?_
        refine aw_iadd (v := (x2 + 1)) (pc1 := 37) at_465_36 rfl rfl ?_
        refine aw_istore_n (lv1 := am_put1 _ 3 _) (pc1 := 38) at_465_37 rfl rfl ?_
        exact rg_465_38 q_2 (fun z0 z1 z2 h o hs2 => ih z0 z1 z2 h o hs2) N x0 x1 x2 ((x2 + 1)) h o hs2 _ (am_lk1 l0 rfl rfl) (am_lk1 l1 rfl rfl) (am_lk1 l2 rfl rfl) am_lk0 i0
def fg_465_2 (N : Nat) : Nat → Value → Int32 → am_H → Option am_O
  | 0 => fun _ _ _ => none
  | K + 1 => fun x0 x1 h => ((am_vI (am_pG 3090 x0 h)).bind fun v1 => (if v1 ≤ x1 then (fg_465_120 N h) else ((am_vI (am_pG 3167 x0 h)).bind fun v4 => (if ¬ v4 = 0 then (fg_465_120 N h) else (fg_465_19 N (fg_465_2 N K) N x0 x1 0 h)))))
theorem rg_465_2 {X : am_X} {d : Nat} {N : Nat} : ∀ (K : Nat) (x0 : Value) (x1 : Int32) (h : am_H) (o : am_O), fg_465_2 N K x0 x1 h = some o → ∀ lv : am_LV, (lv.lookup 0 = some x0) → (lv.lookup 1 = some (.int x1)) → (am_isR x0 = true) → am_W X (d + 4) 465 2 lv [] h (fun q => q = o) := by
  intro K
  induction K with
  | zero => intro x0 x1 h o hs; cases hs
  | succ K ih =>
    intro x0 x1 h o hs lv l0 l1 i0
    unfold fg_465_2 at hs
    refine aw_iload_n (pc1 := 3) at_465_2 l1 rfl ?_
    refine aw_vload_n (pc1 := 4) at_465_3 l0 i0 rfl ?_
    obtain ⟨v1, e2, hs1⟩ := am_bind hs
    clear hs
    refine aw_pG (pc1 := 7) at_465_4 (am_vI_s e2) rfl ?_
    by_cases c3 : v1 ≤ x1
    · rw [if_pos c3] at hs1
      refine aw_icge_t at_465_7 c3 ?_
      exact rg_465_120 h o   hs1
    · rw [if_neg c3] at hs1
      refine aw_icge_f (pc1 := 10) at_465_7 c3 rfl ?_
      refine aw_vload_n (pc1 := 11) at_465_10 l0 i0 rfl ?_
      obtain ⟨v4, e5, hs2⟩ := am_bind hs1
      clear hs1
      refine aw_pG (pc1 := 14) at_465_11 (am_vI_s e5) rfl ?_
      by_cases c6 : ¬ v4 = 0
      · rw [if_pos c6] at hs2
        refine aw_ifne_t at_465_14 c6 ?_
        exact rg_465_120 h o   hs2
      · rw [if_neg c6] at hs2
        refine aw_ifne_f (pc1 := 17) at_465_14 c6 rfl ?_
        refine aw_iconst (v := 0) (pc1 := 18) at_465_17 (by decide) rfl ?_
        refine aw_istore_n (lv1 := am_put1 _ 2 _) (pc1 := 19) at_465_18 rfl rfl ?_
        exact rg_465_19 (fun z0 z1 h o hs2 => ih z0 z1 h o hs2) N x0 x1 0 h o hs2 _ (am_lk1 l0 rfl rfl) (am_lk1 l1 rfl rfl) am_lk0 i0
def fg_465_0 (N : Nat) (x0 : Value) (h : am_H) : Option am_O := (fg_465_2 N N x0 0 h)
theorem rg_465_0 {X : am_X} {d : Nat} {N : Nat} {lv : am_LV} (x0 : Value) (h : am_H) (o : am_O) (l0 : lv.lookup 0 = some x0) (i0 : am_isR x0 = true) (hs : fg_465_0 N x0 h = some o) : am_W X (d + 4) 465 0 lv [] h (fun q => q = o) := by
  unfold fg_465_0 at hs
  refine aw_iconst (v := 0) (pc1 := 1) at_465_0 (by decide) rfl ?_
  refine aw_istore_n (lv1 := am_put1 _ 1 _) (pc1 := 2) at_465_1 rfl rfl ?_
  exact rg_465_2 N x0 0 h o hs _ (am_lk1 l0 rfl (by rw [am_isRc i0]; rfl)) am_lk0 i0
def fm_465 (N : Nat) (y0 : Value) (h : am_H) : Option am_O := fg_465_0 N y0 h
theorem rm_465 {X : am_X} {d : Nat} {N : Nat} (y0 : Value) (h : am_H) (o : am_O) (i0 : am_isR y0 = true) (hs : fm_465 N y0 h = some o) : am_W X (d + 4) 465 0 (am_args 0 [y0]) [] h (fun q => q = o) := by
  rw [am_args_R i0]
  exact rg_465_0 y0 h o rfl i0 hs
def fg_466_52 (N : Nat) (h : am_H) : Option am_O := some (.inl (none, h))
theorem rg_466_52 {X : am_X} {d : Nat} {N : Nat} {lv : am_LV} (h : am_H) (o : am_O) (hs : fg_466_52 N h = some o) : am_W X (d + 4) 466 52 lv [] h (fun q => q = o) := by
  unfold fg_466_52 at hs
  cases hs
  exact aw_vret at_466_52 rt_466 rfl
def fg_466_2 (N : Nat) : Nat → Value → Int32 → am_H → Option am_O
  | 0 => fun _ _ _ => none
  | K + 1 => fun x0 x1 h => ((am_vI (am_pG 3090 x0 h)).bind fun v1 => (if v1 ≤ x1 then (fg_466_52 N h) else ((am_vI (am_pG 3167 x0 h)).bind fun v4 => (if ¬ v4 = 0 then (fg_466_52 N h) else (if am_pOk 12 x0 h then am_cV true (fm_451 x0 h) (fun h9 => (if am_pOk 12 x0 h9 then am_cV true (fm_443 N x0 0 x1 h9) (fun h13 => ((am_vI (am_pG 3090 x0 h13)).bind fun v15 => (if am_pOk 12 x0 h13 then am_cV true (fm_443 N x0 ((x1 + 1)) v15 h13) (fun h19 => (if am_pOk 12 x0 h19 then am_cI true (fm_444 N x0 h19) (fun v22 h23 => ((am_pP 3167 x0 (.int v22) h23).bind fun h25 => (fg_466_2 N K x0 ((x1 + 1)) h25))) else none)) else none))) else none)) else none)))))
theorem rg_466_2 {X : am_X} {d : Nat} {N : Nat} : ∀ (K : Nat) (x0 : Value) (x1 : Int32) (h : am_H) (o : am_O), fg_466_2 N K x0 x1 h = some o → ∀ lv : am_LV, (lv.lookup 0 = some x0) → (lv.lookup 1 = some (.int x1)) → (am_isR x0 = true) → am_W X (d + 4) 466 2 lv [] h (fun q => q = o) := by
  intro K
  induction K with
  | zero => intro x0 x1 h o hs; cases hs
  | succ K ih =>
    intro x0 x1 h o hs lv l0 l1 i0
    unfold fg_466_2 at hs
    refine aw_iload_n (pc1 := 3) at_466_2 l1 rfl ?_
    refine aw_vload_n (pc1 := 4) at_466_3 l0 i0 rfl ?_
    obtain ⟨v1, e2, hs1⟩ := am_bind hs
    clear hs
    refine aw_pG (pc1 := 7) at_466_4 (am_vI_s e2) rfl ?_
    by_cases c3 : v1 ≤ x1
    · rw [if_pos c3] at hs1
      refine aw_icge_t at_466_7 c3 ?_
      exact rg_466_52 h o   hs1
    · rw [if_neg c3] at hs1
      refine aw_icge_f (pc1 := 10) at_466_7 c3 rfl ?_
      refine aw_vload_n (pc1 := 11) at_466_10 l0 i0 rfl ?_
      obtain ⟨v4, e5, hs2⟩ := am_bind hs1
      clear hs1
      refine aw_pG (pc1 := 14) at_466_11 (am_vI_s e5) rfl ?_
      by_cases c6 : ¬ v4 = 0
      · rw [if_pos c6] at hs2
        refine aw_ifne_t at_466_14 c6 ?_
        exact rg_466_52 h o   hs2
      · rw [if_neg c6] at hs2
        refine aw_ifne_f (pc1 := 17) at_466_14 c6 rfl ?_
        refine aw_vload_n (pc1 := 18) at_466_17 l0 i0 rfl ?_
        obtain ⟨z7, hs3⟩ := am_ift hs2
        clear hs2
        refine aw_call (F := fm_451 x0 h) (t := true) (na := 1) (kd := 1) (as := [x0]) at_466_18 (am_k3v kb_451) mn_451 mk_451 rfl rfl (am_ok_v mi_451 (am_hl rfl (am_ccR i0 am_cats_0) rfl) z7) (am_hc am_cats_0 rfl) (fun _ => ⟨rfl, hh_466⟩) (fun o1 hz9 => rm_451 x0 h o1 i0 hz9) ?_
        rcases am_cV_s hs3 with ⟨h9, f10, hs4⟩ | hs4
        · clear hs3
          refine Or.inl ⟨_, _, f10, ?_⟩
          show am_W X _ 466 21 _ [] h9 _
          refine aw_vload_n (pc1 := 22) at_466_21 l0 i0 rfl ?_
          refine aw_iconst (v := 0) (pc1 := 23) at_466_22 (by decide) rfl ?_
          refine aw_iload_n (pc1 := 24) at_466_23 l1 rfl ?_
          obtain ⟨z11, hs5⟩ := am_ift hs4
          clear hs4
          refine aw_call (F := fm_443 N x0 0 x1 h9) (t := true) (na := 3) (kd := 1) (as := [x0, (.int 0), (.int x1)]) at_466_24 (am_k3v kb_443) mn_443 mk_443 rfl rfl (am_ok_v mi_443 (am_hl rfl (am_ccR i0 (am_ccI (am_ccI am_cats_0))) rfl) z11) (am_hc am_cats_0 rfl) (fun _ => ⟨rfl, hh_466⟩) (fun o1 hz9 => rm_443 x0 0 x1 h9 o1 i0 hz9) ?_
          rcases am_cV_s hs5 with ⟨h13, f14, hs6⟩ | hs6
          · clear hs5
            refine Or.inl ⟨_, _, f14, ?_⟩
            show am_W X _ 466 27 _ [] h13 _
            refine aw_vload_n (pc1 := 28) at_466_27 l0 i0 rfl ?_
            refine aw_iload_n (pc1 := 29) at_466_28 l1 rfl ?_
            refine aw_iconst (v := 1) (pc1 := 30) at_466_29 (by decide) rfl ?_
            refine aw_iadd (v := (x1 + 1)) (pc1 := 31) at_466_30 rfl rfl ?_
            refine aw_vload_n (pc1 := 32) at_466_31 l0 i0 rfl ?_
            obtain ⟨v15, e16, hs7⟩ := am_bind hs6
            clear hs6
            refine aw_pG (pc1 := 35) at_466_32 (am_vI_s e16) rfl ?_
            obtain ⟨z17, hs8⟩ := am_ift hs7
            clear hs7
            refine aw_call (F := fm_443 N x0 ((x1 + 1)) v15 h13) (t := true) (na := 3) (kd := 1) (as := [x0, (.int (x1 + 1)), (.int v15)]) at_466_35 (am_k3v kb_443) mn_443 mk_443 rfl rfl (am_ok_v mi_443 (am_hl rfl (am_ccR i0 (am_ccI (am_ccI am_cats_0))) rfl) z17) (am_hc am_cats_0 rfl) (fun _ => ⟨rfl, hh_466⟩) (fun o1 hz9 => rm_443 x0 ((x1 + 1)) v15 h13 o1 i0 hz9) ?_
            rcases am_cV_s hs8 with ⟨h19, f20, hs9⟩ | hs9
            · clear hs8
              refine Or.inl ⟨_, _, f20, ?_⟩
              show am_W X _ 466 38 _ [] h19 _
              refine aw_vload_n (pc1 := 39) at_466_38 l0 i0 rfl ?_
              refine aw_vload_n (pc1 := 40) at_466_39 l0 i0 rfl ?_
              obtain ⟨z21, hs10⟩ := am_ift hs9
              clear hs9
              refine aw_call (F := fm_444 N x0 h19) (t := true) (na := 1) (kd := 1) (as := [x0]) at_466_40 (am_k3v kb_444) mn_444 mk_444 rfl rfl (am_ok_v mi_444 (am_hl rfl (am_ccR i0 am_cats_0) rfl) z21) (am_hc (am_ccR i0 am_cats_0) rfl) (fun _ => ⟨rfl, hh_466⟩) (fun o1 hz9 => rm_444 x0 h19 o1 i0 hz9) ?_
              rcases am_cI_s hs10 with ⟨v22, h23, f24, hs11⟩ | hs11
              · clear hs10
                refine Or.inl ⟨_, _, f24, ?_⟩
                show am_W X _ 466 43 _ [(.int v22), x0] h23 _
                obtain ⟨h25, e26, hs12⟩ := am_bind hs11
                clear hs11
                refine aw_pP (pc1 := 46) at_466_43 e26 rfl ?_
                refine aw_iinc (v := (x1 + 1)) (c := 1) (lv1 := am_put1 _ 1 _) (pc1 := 49) at_466_46 l1 (by decide) rfl rfl rfl ?_
                refine aw_goto at_466_49 ?_
                exact ih x0 ((x1 + 1)) h25 o hs12 _ (am_lk1 l0 rfl (by rw [am_isRc i0]; rfl)) am_lk0 i0
              · clear hs10
                exact Or.inr hs11
            · clear hs8
              exact Or.inr hs9
          · clear hs5
            exact Or.inr hs6
        · clear hs3
          exact Or.inr hs4
def fg_466_0 (N : Nat) (x0 : Value) (h : am_H) : Option am_O := (fg_466_2 N N x0 0 h)
theorem rg_466_0 {X : am_X} {d : Nat} {N : Nat} {lv : am_LV} (x0 : Value) (h : am_H) (o : am_O) (l0 : lv.lookup 0 = some x0) (i0 : am_isR x0 = true) (hs : fg_466_0 N x0 h = some o) : am_W X (d + 4) 466 0 lv [] h (fun q => q = o) := by
  unfold fg_466_0 at hs
  refine aw_iconst (v := 0) (pc1 := 1) at_466_0 (by decide) rfl ?_
  refine aw_istore_n (lv1 := am_put1 _ 1 _) (pc1 := 2) at_466_1 rfl rfl ?_
  exact rg_466_2 N x0 0 h o hs _ (am_lk1 l0 rfl (by rw [am_isRc i0]; rfl)) am_lk0 i0
def fm_466 (N : Nat) (y0 : Value) (h : am_H) : Option am_O := fg_466_0 N y0 h
theorem rm_466 {X : am_X} {d : Nat} {N : Nat} (y0 : Value) (h : am_H) (o : am_O) (i0 : am_isR y0 = true) (hs : fm_466 N y0 h = some o) : am_W X (d + 4) 466 0 (am_args 0 [y0]) [] h (fun q => q = o) := by
  rw [am_args_R i0]
  exact rg_466_0 y0 h o rfl i0 hs
def fg_467_104 (N : Nat) (h : am_H) : Option am_O := some (.inl (none, h))
theorem rg_467_104 {X : am_X} {d : Nat} {N : Nat} {lv : am_LV} (h : am_H) (o : am_O) (hs : fg_467_104 N h = some o) : am_W X (d + 4) 467 104 lv [] h (fun q => q = o) := by
  unfold fg_467_104 at hs
  cases hs
  exact aw_vret at_467_104 rt_467 rfl
def fg_467_98 (N : Nat) (rec_2 : Value → Int32 → am_H → Option am_O) (x0 : Value) (x1 : Int32) (h : am_H) : Option am_O := (rec_2 x0 ((x1 + 1)) h)
theorem rg_467_98 {X : am_X} {d : Nat} {N : Nat} {rec_2 : Value → Int32 → am_H → Option am_O} (q_2 : ∀ (x0 : Value) (x1 : Int32) (h : am_H) (o : am_O), rec_2 x0 x1 h = some o → ∀ lv : am_LV, (lv.lookup 0 = some x0) → (lv.lookup 1 = some (.int x1)) → (am_isR x0 = true) → am_W X (d + 4) 467 2 lv [] h (fun q => q = o)) {lv : am_LV} (x0 : Value) (x1 : Int32) (h : am_H) (o : am_O) (l0 : lv.lookup 0 = some x0) (l1 : lv.lookup 1 = some (.int x1)) (i0 : am_isR x0 = true) (hs : fg_467_98 N rec_2 x0 x1 h = some o) : am_W X (d + 4) 467 98 lv [] h (fun q => q = o) := by
  unfold fg_467_98 at hs
  refine aw_iinc (v := (x1 + 1)) (c := 1) (lv1 := am_put1 _ 1 _) (pc1 := 101) at_467_98 l1 (by decide) rfl rfl rfl ?_
  refine aw_goto at_467_101 ?_
  exact q_2 x0 ((x1 + 1)) h o hs _ (am_lk1 l0 rfl (by rw [am_isRc i0]; rfl)) am_lk0 i0
def fg_467_92 (N : Nat) (rec_2 : Value → Int32 → am_H → Option am_O) (rec_19 : Value → Int32 → Int32 → am_H → Option am_O) (x0 : Value) (x1 : Int32) (x2 : Int32) (h : am_H) : Option am_O := (rec_19 x0 x1 ((x2 + 1)) h)
theorem rg_467_92 {X : am_X} {d : Nat} {N : Nat} {rec_2 : Value → Int32 → am_H → Option am_O} {rec_19 : Value → Int32 → Int32 → am_H → Option am_O} (q_2 : ∀ (x0 : Value) (x1 : Int32) (h : am_H) (o : am_O), rec_2 x0 x1 h = some o → ∀ lv : am_LV, (lv.lookup 0 = some x0) → (lv.lookup 1 = some (.int x1)) → (am_isR x0 = true) → am_W X (d + 4) 467 2 lv [] h (fun q => q = o)) (q_19 : ∀ (x0 : Value) (x1 : Int32) (x2 : Int32) (h : am_H) (o : am_O), rec_19 x0 x1 x2 h = some o → ∀ lv : am_LV, (lv.lookup 0 = some x0) → (lv.lookup 1 = some (.int x1)) → (lv.lookup 2 = some (.int x2)) → (am_isR x0 = true) → am_W X (d + 4) 467 19 lv [] h (fun q => q = o)) {lv : am_LV} (x0 : Value) (x1 : Int32) (x2 : Int32) (h : am_H) (o : am_O) (l0 : lv.lookup 0 = some x0) (l1 : lv.lookup 1 = some (.int x1)) (l2 : lv.lookup 2 = some (.int x2)) (i0 : am_isR x0 = true) (hs : fg_467_92 N rec_2 rec_19 x0 x1 x2 h = some o) : am_W X (d + 4) 467 92 lv [] h (fun q => q = o) := by
  unfold fg_467_92 at hs
  refine aw_iinc (v := (x2 + 1)) (c := 1) (lv1 := am_put1 _ 2 _) (pc1 := 95) at_467_92 l2 (by decide) rfl rfl rfl ?_
  refine aw_goto at_467_95 ?_
  exact q_19 x0 x1 ((x2 + 1)) h o hs _ (am_lk1 l0 rfl rfl) (am_lk1 l1 rfl rfl) am_lk0 i0
def fg_467_38 (N : Nat) (rec_2 : Value → Int32 → am_H → Option am_O) (rec_19 : Value → Int32 → Int32 → am_H → Option am_O) : Nat → Value → Int32 → Int32 → Int32 → am_H → Option am_O
  | 0 => fun _ _ _ _ _ => none
  | K + 1 => fun x0 x1 x2 x3 h => ((am_vI (am_pG 3091 x0 h)).bind fun v1 => (if v1 ≤ x3 then (fg_467_92 N rec_2 rec_19 x0 x1 x2 h) else ((am_vI (am_pG 3167 x0 h)).bind fun v4 => (if ¬ v4 = 0 then (fg_467_92 N rec_2 rec_19 x0 x1 x2 h) else (if am_pOk 12 x0 h then am_cV true (fm_451 x0 h) (fun h9 => (if am_pOk 12 x0 h9 then am_cV true (fm_443 N x0 0 x1 h9) (fun h13 => (if am_pOk 12 x0 h13 then am_cV true (fm_335 x0 x2 x3 h13) (fun h17 => ((am_vI (am_pG 3090 x0 h17)).bind fun v19 => (if am_pOk 12 x0 h17 then am_cV true (fm_443 N x0 x1 v19 h17) (fun h23 => (if am_pOk 12 x0 h23 then am_cI true (fm_444 N x0 h23) (fun v26 h27 => ((am_pP 3167 x0 (.int v26) h27).bind fun h29 => (fg_467_38 N rec_2 rec_19 K x0 x1 x2 ((x3 + 1)) h29))) else none)) else none))) else none)) else none)) else none)))))
theorem rg_467_38 {X : am_X} {d : Nat} {N : Nat} {rec_2 : Value → Int32 → am_H → Option am_O} {rec_19 : Value → Int32 → Int32 → am_H → Option am_O} (q_2 : ∀ (x0 : Value) (x1 : Int32) (h : am_H) (o : am_O), rec_2 x0 x1 h = some o → ∀ lv : am_LV, (lv.lookup 0 = some x0) → (lv.lookup 1 = some (.int x1)) → (am_isR x0 = true) → am_W X (d + 4) 467 2 lv [] h (fun q => q = o)) (q_19 : ∀ (x0 : Value) (x1 : Int32) (x2 : Int32) (h : am_H) (o : am_O), rec_19 x0 x1 x2 h = some o → ∀ lv : am_LV, (lv.lookup 0 = some x0) → (lv.lookup 1 = some (.int x1)) → (lv.lookup 2 = some (.int x2)) → (am_isR x0 = true) → am_W X (d + 4) 467 19 lv [] h (fun q => q = o)) : ∀ (K : Nat) (x0 : Value) (x1 : Int32) (x2 : Int32) (x3 : Int32) (h : am_H) (o : am_O), fg_467_38 N rec_2 rec_19 K x0 x1 x2 x3 h = some o → ∀ lv : am_LV, (lv.lookup 0 = some x0) → (lv.lookup 1 = some (.int x1)) → (lv.lookup 2 = some (.int x2)) → (lv.lookup 3 = some (.int x3)) → (am_isR x0 = true) → am_W X (d + 4) 467 38 lv [] h (fun q => q = o) := by
  intro K
  induction K with
  | zero => intro x0 x1 x2 x3 h o hs; cases hs
  | succ K ih =>
    intro x0 x1 x2 x3 h o hs lv l0 l1 l2 l3 i0
    unfold fg_467_38 at hs
    refine aw_iload_n (pc1 := 39) at_467_38 l3 rfl ?_
    refine aw_vload_n (pc1 := 40) at_467_39 l0 i0 rfl ?_
    obtain ⟨v1, e2, hs1⟩ := am_bind hs
    clear hs
    refine aw_pG (pc1 := 43) at_467_40 (am_vI_s e2) rfl ?_
    by_cases c3 : v1 ≤ x3
    · rw [if_pos c3] at hs1
      refine aw_icge_t at_467_43 c3 ?_
      exact rg_467_92 q_2 q_19 x0 x1 x2 h o l0 l1 l2 i0 hs1
    · rw [if_neg c3] at hs1
      refine aw_icge_f (pc1 := 46) at_467_43 c3 rfl ?_
      refine aw_vload_n (pc1 := 47) at_467_46 l0 i0 rfl ?_
      obtain ⟨v4, e5, hs2⟩ := am_bind hs1
      clear hs1
      refine aw_pG (pc1 := 50) at_467_47 (am_vI_s e5) rfl ?_
      by_cases c6 : ¬ v4 = 0
      · rw [if_pos c6] at hs2
        refine aw_ifne_t at_467_50 c6 ?_
        exact rg_467_92 q_2 q_19 x0 x1 x2 h o l0 l1 l2 i0 hs2
      · rw [if_neg c6] at hs2
        refine aw_ifne_f (pc1 := 53) at_467_50 c6 rfl ?_
        refine aw_vload_n (pc1 := 54) at_467_53 l0 i0 rfl ?_
        obtain ⟨z7, hs3⟩ := am_ift hs2
        clear hs2
        refine aw_call (F := fm_451 x0 h) (t := true) (na := 1) (kd := 1) (as := [x0]) at_467_54 (am_k3v kb_451) mn_451 mk_451 rfl rfl (am_ok_v mi_451 (am_hl rfl (am_ccR i0 am_cats_0) rfl) z7) (am_hc am_cats_0 rfl) (fun _ => ⟨rfl, hh_467⟩) (fun o1 hz9 => rm_451 x0 h o1 i0 hz9) ?_
        rcases am_cV_s hs3 with ⟨h9, f10, hs4⟩ | hs4
        · clear hs3
          refine Or.inl ⟨_, _, f10, ?_⟩
          show am_W X _ 467 57 _ [] h9 _
          refine aw_vload_n (pc1 := 58) at_467_57 l0 i0 rfl ?_
          refine aw_iconst (v := 0) (pc1 := 59) at_467_58 (by decide) rfl ?_
          refine aw_iload_n (pc1 := 60) at_467_59 l1 rfl ?_
          obtain ⟨z11, hs5⟩ := am_ift hs4
          clear hs4
          refine aw_call (F := fm_443 N x0 0 x1 h9) (t := true) (na := 3) (kd := 1) (as := [x0, (.int 0), (.int x1)]) at_467_60 (am_k3v kb_443) mn_443 mk_443 rfl rfl (am_ok_v mi_443 (am_hl rfl (am_ccR i0 (am_ccI (am_ccI am_cats_0))) rfl) z11) (am_hc am_cats_0 rfl) (fun _ => ⟨rfl, hh_467⟩) (fun o1 hz9 => rm_443 x0 0 x1 h9 o1 i0 hz9) ?_
          rcases am_cV_s hs5 with ⟨h13, f14, hs6⟩ | hs6
          · clear hs5
            refine Or.inl ⟨_, _, f14, ?_⟩
            show am_W X _ 467 63 _ [] h13 _
            refine aw_vload_n (pc1 := 64) at_467_63 l0 i0 rfl ?_
            refine aw_iload_n (pc1 := 65) at_467_64 l2 rfl ?_
            refine aw_iload_n (pc1 := 66) at_467_65 l3 rfl ?_
            obtain ⟨z15, hs7⟩ := am_ift hs6
            clear hs6
            refine aw_call (F := fm_335 x0 x2 x3 h13) (t := true) (na := 3) (kd := 1) (as := [x0, (.int x2), (.int x3)]) at_467_66 (am_k3v kb_335) mn_335 mk_335 rfl rfl (am_ok_v mi_335 (am_hl rfl (am_ccR i0 (am_ccI (am_ccI am_cats_0))) rfl) z15) (am_hc am_cats_0 rfl) (fun _ => ⟨rfl, hh_467⟩) (fun o1 hz9 => rm_335 x0 x2 x3 h13 o1 i0 hz9) ?_
            rcases am_cV_s hs7 with ⟨h17, f18, hs8⟩ | hs8
            · clear hs7
              refine Or.inl ⟨_, _, f18, ?_⟩
              show am_W X _ 467 69 _ [] h17 _
              refine aw_vload_n (pc1 := 70) at_467_69 l0 i0 rfl ?_
              refine aw_iload_n (pc1 := 71) at_467_70 l1 rfl ?_
              refine aw_vload_n (pc1 := 72) at_467_71 l0 i0 rfl ?_
              obtain ⟨v19, e20, hs9⟩ := am_bind hs8
              clear hs8
              refine aw_pG (pc1 := 75) at_467_72 (am_vI_s e20) rfl ?_
              obtain ⟨z21, hs10⟩ := am_ift hs9
              clear hs9
              refine aw_call (F := fm_443 N x0 x1 v19 h17) (t := true) (na := 3) (kd := 1) (as := [x0, (.int x1), (.int v19)]) at_467_75 (am_k3v kb_443) mn_443 mk_443 rfl rfl (am_ok_v mi_443 (am_hl rfl (am_ccR i0 (am_ccI (am_ccI am_cats_0))) rfl) z21) (am_hc am_cats_0 rfl) (fun _ => ⟨rfl, hh_467⟩) (fun o1 hz9 => rm_443 x0 x1 v19 h17 o1 i0 hz9) ?_
              rcases am_cV_s hs10 with ⟨h23, f24, hs11⟩ | hs11
              · clear hs10
                refine Or.inl ⟨_, _, f24, ?_⟩
                show am_W X _ 467 78 _ [] h23 _
                refine aw_vload_n (pc1 := 79) at_467_78 l0 i0 rfl ?_
                refine aw_vload_n (pc1 := 80) at_467_79 l0 i0 rfl ?_
                obtain ⟨z25, hs12⟩ := am_ift hs11
                clear hs11
                refine aw_call (F := fm_444 N x0 h23) (t := true) (na := 1) (kd := 1) (as := [x0]) at_467_80 (am_k3v kb_444) mn_444 mk_444 rfl rfl (am_ok_v mi_444 (am_hl rfl (am_ccR i0 am_cats_0) rfl) z25) (am_hc (am_ccR i0 am_cats_0) rfl) (fun _ => ⟨rfl, hh_467⟩) (fun o1 hz9 => rm_444 x0 h23 o1 i0 hz9) ?_
                rcases am_cI_s hs12 with ⟨v26, h27, f28, hs13⟩ | hs13
                · clear hs12
                  refine Or.inl ⟨_, _, f28, ?_⟩
                  show am_W X _ 467 83 _ [(.int v26), x0] h27 _
                  obtain ⟨h29, e30, hs14⟩ := am_bind hs13
                  clear hs13
                  refine aw_pP (pc1 := 86) at_467_83 e30 rfl ?_
                  refine aw_iinc (v := (x3 + 1)) (c := 1) (lv1 := am_put1 _ 3 _) (pc1 := 89) at_467_86 l3 (by decide) rfl rfl rfl ?_
                  refine aw_goto at_467_89 ?_
                  exact ih x0 x1 x2 ((x3 + 1)) h29 o hs14 _ (am_lk1 l0 rfl rfl) (am_lk1 l1 rfl rfl) (am_lk1 l2 rfl rfl) am_lk0 i0
                · clear hs12
                  exact Or.inr hs13
              · clear hs10
                exact Or.inr hs11
            · clear hs7
              exact Or.inr hs8
          · clear hs5
            exact Or.inr hs6
        · clear hs3
          exact Or.inr hs4
def fg_467_19 (N : Nat) (rec_2 : Value → Int32 → am_H → Option am_O) : Nat → Value → Int32 → Int32 → am_H → Option am_O
  | 0 => fun _ _ _ _ => none
  | K + 1 => fun x0 x1 x2 h => ((am_vI (am_pG 3091 x0 h)).bind fun v1 => (if v1 ≤ x2 then (fg_467_98 N rec_2 x0 x1 h) else ((am_vI (am_pG 3167 x0 h)).bind fun v4 => (if ¬ v4 = 0 then (fg_467_98 N rec_2 x0 x1 h) else (fg_467_38 N rec_2 (fg_467_19 N rec_2 K) N x0 x1 x2 ((x2 + 1)) h)))))
theorem rg_467_19 {X : am_X} {d : Nat} {N : Nat} {rec_2 : Value → Int32 → am_H → Option am_O} (q_2 : ∀ (x0 : Value) (x1 : Int32) (h : am_H) (o : am_O), rec_2 x0 x1 h = some o → ∀ lv : am_LV, (lv.lookup 0 = some x0) → (lv.lookup 1 = some (.int x1)) → (am_isR x0 = true) → am_W X (d + 4) 467 2 lv [] h (fun q => q = o)) : ∀ (K : Nat) (x0 : Value) (x1 : Int32) (x2 : Int32) (h : am_H) (o : am_O), fg_467_19 N rec_2 K x0 x1 x2 h = some o → ∀ lv : am_LV, (lv.lookup 0 = some x0) → (lv.lookup 1 = some (.int x1)) → (lv.lookup 2 = some (.int x2)) → (am_isR x0 = true) → am_W X (d + 4) 467 19 lv [] h (fun q => q = o) := by
  intro K
  induction K with
  | zero => intro x0 x1 x2 h o hs; cases hs
  | succ K ih =>
    intro x0 x1 x2 h o hs lv l0 l1 l2 i0
    unfold fg_467_19 at hs
    refine aw_iload_n (pc1 := 20) at_467_19 l2 rfl ?_
    refine aw_vload_n (pc1 := 21) at_467_20 l0 i0 rfl ?_
    obtain ⟨v1, e2, hs1⟩ := am_bind hs
    clear hs
    refine aw_pG (pc1 := 24) at_467_21 (am_vI_s e2) rfl ?_
    by_cases c3 : v1 ≤ x2
    · rw [if_pos c3] at hs1
      refine aw_icge_t at_467_24 c3 ?_
      exact rg_467_98 q_2 x0 x1 h o l0 l1 i0 hs1
    · rw [if_neg c3] at hs1
      refine aw_icge_f (pc1 := 27) at_467_24 c3 rfl ?_
      refine aw_vload_n (pc1 := 28) at_467_27 l0 i0 rfl ?_
      obtain ⟨v4, e5, hs2⟩ := am_bind hs1
      clear hs1
      refine aw_pG (pc1 := 31) at_467_28 (am_vI_s e5) rfl ?_
      by_cases c6 : ¬ v4 = 0
      · rw [if_pos c6] at hs2
        refine aw_ifne_t at_467_31 c6 ?_
        exact rg_467_98 q_2 x0 x1 h o l0 l1 i0 hs2
      · rw [if_neg c6] at hs2
        refine aw_ifne_f (pc1 := 34) at_467_31 c6 rfl ?_
        refine aw_iload_n (pc1 := 35) at_467_34 l2 rfl ?_
        refine aw_iconst (v := 1) (pc1 := 36) at_467_35 (by decide) rfl ?_
        refine aw_iadd (v := (x2 + 1)) (pc1 := 37) at_467_36 rfl rfl ?_
        refine aw_istore_n (lv1 := am_put1 _ 3 _) (pc1 := 38) at_467_37 rfl rfl ?_
        exact rg_467_38 q_2 (fun z0 z1 z2 h o hs2 => ih z0 z1 z2 h o hs2) N x0 x1 x2 ((x2 + 1)) h o hs2 _ (am_lk1 l0 rfl rfl) (am_lk1 l1 rfl rfl) (am_lk1 l2 rfl rfl) am_lk0 i0
def fg_467_2 (N : Nat) : Nat → Value → Int32 → am_H → Option am_O
  | 0 => fun _ _ _ => none
  | K + 1 => fun x0 x1 h => ((am_vI (am_pG 3090 x0 h)).bind fun v1 => (if v1 < x1 then (fg_467_104 N h) else ((am_vI (am_pG 3167 x0 h)).bind fun v4 => (if ¬ v4 = 0 then (fg_467_104 N h) else (fg_467_19 N (fg_467_2 N K) N x0 x1 0 h)))))
theorem rg_467_2 {X : am_X} {d : Nat} {N : Nat} : ∀ (K : Nat) (x0 : Value) (x1 : Int32) (h : am_H) (o : am_O), fg_467_2 N K x0 x1 h = some o → ∀ lv : am_LV, (lv.lookup 0 = some x0) → (lv.lookup 1 = some (.int x1)) → (am_isR x0 = true) → am_W X (d + 4) 467 2 lv [] h (fun q => q = o) := by
  intro K
  induction K with
  | zero => intro x0 x1 h o hs; cases hs
  | succ K ih =>
    intro x0 x1 h o hs lv l0 l1 i0
    unfold fg_467_2 at hs
    refine aw_iload_n (pc1 := 3) at_467_2 l1 rfl ?_
    refine aw_vload_n (pc1 := 4) at_467_3 l0 i0 rfl ?_
    obtain ⟨v1, e2, hs1⟩ := am_bind hs
    clear hs
    refine aw_pG (pc1 := 7) at_467_4 (am_vI_s e2) rfl ?_
    by_cases c3 : v1 < x1
    · rw [if_pos c3] at hs1
      refine aw_icgt_t at_467_7 c3 ?_
      exact rg_467_104 h o   hs1
    · rw [if_neg c3] at hs1
      refine aw_icgt_f (pc1 := 10) at_467_7 c3 rfl ?_
      refine aw_vload_n (pc1 := 11) at_467_10 l0 i0 rfl ?_
      obtain ⟨v4, e5, hs2⟩ := am_bind hs1
      clear hs1
      refine aw_pG (pc1 := 14) at_467_11 (am_vI_s e5) rfl ?_
      by_cases c6 : ¬ v4 = 0
      · rw [if_pos c6] at hs2
        refine aw_ifne_t at_467_14 c6 ?_
        exact rg_467_104 h o   hs2
      · rw [if_neg c6] at hs2
        refine aw_ifne_f (pc1 := 17) at_467_14 c6 rfl ?_
        refine aw_iconst (v := 0) (pc1 := 18) at_467_17 (by decide) rfl ?_
        refine aw_istore_n (lv1 := am_put1 _ 2 _) (pc1 := 19) at_467_18 rfl rfl ?_
        exact rg_467_19 (fun z0 z1 h o hs2 => ih z0 z1 h o hs2) N x0 x1 0 h o hs2 _ (am_lk1 l0 rfl rfl) (am_lk1 l1 rfl rfl) am_lk0 i0
def fg_467_0 (N : Nat) (x0 : Value) (h : am_H) : Option am_O := (fg_467_2 N N x0 0 h)
theorem rg_467_0 {X : am_X} {d : Nat} {N : Nat} {lv : am_LV} (x0 : Value) (h : am_H) (o : am_O) (l0 : lv.lookup 0 = some x0) (i0 : am_isR x0 = true) (hs : fg_467_0 N x0 h = some o) : am_W X (d + 4) 467 0 lv [] h (fun q => q = o) := by
  unfold fg_467_0 at hs
  refine aw_iconst (v := 0) (pc1 := 1) at_467_0 (by decide) rfl ?_
  refine aw_istore_n (lv1 := am_put1 _ 1 _) (pc1 := 2) at_467_1 rfl rfl ?_
  exact rg_467_2 N x0 0 h o hs _ (am_lk1 l0 rfl (by rw [am_isRc i0]; rfl)) am_lk0 i0
def fm_467 (N : Nat) (y0 : Value) (h : am_H) : Option am_O := fg_467_0 N y0 h
theorem rm_467 {X : am_X} {d : Nat} {N : Nat} (y0 : Value) (h : am_H) (o : am_O) (i0 : am_isR y0 = true) (hs : fm_467 N y0 h = some o) : am_W X (d + 4) 467 0 (am_args 0 [y0]) [] h (fun q => q = o) := by
  rw [am_args_R i0]
  exact rg_467_0 y0 h o rfl i0 hs
def fg_468_130 (N : Nat) (h : am_H) : Option am_O := some (.inl (none, h))
theorem rg_468_130 {X : am_X} {d : Nat} {N : Nat} {lv : am_LV} (h : am_H) (o : am_O) (hs : fg_468_130 N h = some o) : am_W X (d + 4) 468 130 lv [] h (fun q => q = o) := by
  unfold fg_468_130 at hs
  cases hs
  exact aw_vret at_468_130 rt_468 rfl
def fg_468_124 (N : Nat) (rec_2 : Value → Int32 → am_H → Option am_O) (x0 : Value) (x1 : Int32) (h : am_H) : Option am_O := (rec_2 x0 ((x1 + 1)) h)
theorem rg_468_124 {X : am_X} {d : Nat} {N : Nat} {rec_2 : Value → Int32 → am_H → Option am_O} (q_2 : ∀ (x0 : Value) (x1 : Int32) (h : am_H) (o : am_O), rec_2 x0 x1 h = some o → ∀ lv : am_LV, (lv.lookup 0 = some x0) → (lv.lookup 1 = some (.int x1)) → (am_isR x0 = true) → am_W X (d + 4) 468 2 lv [] h (fun q => q = o)) {lv : am_LV} (x0 : Value) (x1 : Int32) (h : am_H) (o : am_O) (l0 : lv.lookup 0 = some x0) (l1 : lv.lookup 1 = some (.int x1)) (i0 : am_isR x0 = true) (hs : fg_468_124 N rec_2 x0 x1 h = some o) : am_W X (d + 4) 468 124 lv [] h (fun q => q = o) := by
  unfold fg_468_124 at hs
  refine aw_iinc (v := (x1 + 1)) (c := 1) (lv1 := am_put1 _ 1 _) (pc1 := 127) at_468_124 l1 (by decide) rfl rfl rfl ?_
  refine aw_goto at_468_127 ?_
  exact q_2 x0 ((x1 + 1)) h o hs _ (am_lk1 l0 rfl (by rw [am_isRc i0]; rfl)) am_lk0 i0
def fg_468_56 (N : Nat) (rec_2 : Value → Int32 → am_H → Option am_O) (x0 : Value) (x1 : Int32) (h : am_H) : Option am_O := (if am_pOk 12 x0 h then am_cV true (fm_442 N x0 h) (fun h3 => ((am_vR (am_pG 3088 x0 h3)).bind fun v5 => ((am_vR (am_pG 3093 x0 h3)).bind fun v7 => ((am_pA 0 v7 (x1 + 1) h3).bind fun v9 => ((am_pS 0 v5 x1 v9 h3).bind fun h11 => ((am_vR (am_pG 3089 x0 h11)).bind fun v13 => ((am_vR (am_pG 3094 x0 h11)).bind fun v15 => ((am_pA 0 v15 (x1 + 1) h11).bind fun v17 => ((am_pS 0 v13 x1 v17 h11).bind fun h19 => ((am_vR (am_pG 3088 x0 h19)).bind fun v21 => ((am_vR (am_pG 3093 x0 h19)).bind fun v23 => ((am_pA 0 v23 x1 h19).bind fun v25 => ((am_pS 0 v21 (x1 + 1) v25 h19).bind fun h27 => ((am_vR (am_pG 3089 x0 h27)).bind fun v29 => ((am_vR (am_pG 3094 x0 h27)).bind fun v31 => ((am_pA 0 v31 x1 h27).bind fun v33 => ((am_pS 0 v29 (x1 + 1) v33 h27).bind fun h35 => (if am_pOk 12 x0 h35 then am_cI true (fm_444 N x0 h35) (fun v38 h39 => ((am_pP 3167 x0 (.int v38) h39).bind fun h41 => (fg_468_124 N rec_2 x0 x1 h41))) else none)))))))))))))))))) else none)
theorem rg_468_56 {X : am_X} {d : Nat} {N : Nat} {rec_2 : Value → Int32 → am_H → Option am_O} (q_2 : ∀ (x0 : Value) (x1 : Int32) (h : am_H) (o : am_O), rec_2 x0 x1 h = some o → ∀ lv : am_LV, (lv.lookup 0 = some x0) → (lv.lookup 1 = some (.int x1)) → (am_isR x0 = true) → am_W X (d + 4) 468 2 lv [] h (fun q => q = o)) {lv : am_LV} (x0 : Value) (x1 : Int32) (h : am_H) (o : am_O) (l0 : lv.lookup 0 = some x0) (l1 : lv.lookup 1 = some (.int x1)) (i0 : am_isR x0 = true) (hs : fg_468_56 N rec_2 x0 x1 h = some o) : am_W X (d + 4) 468 56 lv [] h (fun q => q = o) := by
  unfold fg_468_56 at hs
  refine aw_vload_n (pc1 := 57) at_468_56 l0 i0 rfl ?_
  obtain ⟨z1, hs1⟩ := am_ift hs
  clear hs
  refine aw_call (F := fm_442 N x0 h) (t := true) (na := 1) (kd := 1) (as := [x0]) at_468_57 (am_k3v kb_442) mn_442 mk_442 rfl rfl (am_ok_v mi_442 (am_hl rfl (am_ccR i0 am_cats_0) rfl) z1) (am_hc am_cats_0 rfl) (fun _ => ⟨rfl, hh_468⟩) (fun o1 hz9 => rm_442 x0 h o1 i0 hz9) ?_
  rcases am_cV_s hs1 with ⟨h3, f4, hs2⟩ | hs2
  · clear hs1
    refine Or.inl ⟨_, _, f4, ?_⟩
    show am_W X _ 468 60 _ [] h3 _
    refine aw_vload_n (pc1 := 61) at_468_60 l0 i0 rfl ?_
    obtain ⟨v5, e6, hs3⟩ := am_bind hs2
    clear hs2
    refine aw_pG (pc1 := 64) at_468_61 (am_vR_s e6).1 rfl ?_
    refine aw_iload_n (pc1 := 65) at_468_64 l1 rfl ?_
    refine aw_vload_n (pc1 := 66) at_468_65 l0 i0 rfl ?_
    obtain ⟨v7, e8, hs4⟩ := am_bind hs3
    clear hs3
    refine aw_pG (pc1 := 69) at_468_66 (am_vR_s e8).1 rfl ?_
    refine aw_iload_n (pc1 := 70) at_468_69 l1 rfl ?_
    refine aw_iconst (v := 1) (pc1 := 71) at_468_70 (by decide) rfl ?_
    refine aw_iadd (v := (x1 + 1)) (pc1 := 72) at_468_71 rfl rfl ?_
    obtain ⟨v9, e10, hs5⟩ := am_bind hs4
    clear hs4
    refine aw_pA (pc1 := 73) at_468_72 (Or.inl ⟨rfl, rfl⟩) e10 rfl ?_
    obtain ⟨h11, e12, hs6⟩ := am_bind hs5
    clear hs5
    refine aw_pS (pc1 := 74) at_468_73 (Or.inl ⟨rfl, rfl⟩) e12 rfl ?_
    refine aw_vload_n (pc1 := 75) at_468_74 l0 i0 rfl ?_
    obtain ⟨v13, e14, hs7⟩ := am_bind hs6
    clear hs6
    refine aw_pG (pc1 := 78) at_468_75 (am_vR_s e14).1 rfl ?_
    refine aw_iload_n (pc1 := 79) at_468_78 l1 rfl ?_
    refine aw_vload_n (pc1 := 80) at_468_79 l0 i0 rfl ?_
    obtain ⟨v15, e16, hs8⟩ := am_bind hs7
    clear hs7
    refine aw_pG (pc1 := 83) at_468_80 (am_vR_s e16).1 rfl ?_
    refine aw_iload_n (pc1 := 84) at_468_83 l1 rfl ?_
    refine aw_iconst (v := 1) (pc1 := 85) at_468_84 (by decide) rfl ?_
    refine aw_iadd (v := (x1 + 1)) (pc1 := 86) at_468_85 rfl rfl ?_
    obtain ⟨v17, e18, hs9⟩ := am_bind hs8
    clear hs8
    refine aw_pA (pc1 := 87) at_468_86 (Or.inl ⟨rfl, rfl⟩) e18 rfl ?_
    obtain ⟨h19, e20, hs10⟩ := am_bind hs9
    clear hs9
    refine aw_pS (pc1 := 88) at_468_87 (Or.inl ⟨rfl, rfl⟩) e20 rfl ?_
    refine aw_vload_n (pc1 := 89) at_468_88 l0 i0 rfl ?_
    obtain ⟨v21, e22, hs11⟩ := am_bind hs10
    clear hs10
    refine aw_pG (pc1 := 92) at_468_89 (am_vR_s e22).1 rfl ?_
    refine aw_iload_n (pc1 := 93) at_468_92 l1 rfl ?_
    refine aw_iconst (v := 1) (pc1 := 94) at_468_93 (by decide) rfl ?_
    refine aw_iadd (v := (x1 + 1)) (pc1 := 95) at_468_94 rfl rfl ?_
    refine aw_vload_n (pc1 := 96) at_468_95 l0 i0 rfl ?_
    obtain ⟨v23, e24, hs12⟩ := am_bind hs11
    clear hs11
    refine aw_pG (pc1 := 99) at_468_96 (am_vR_s e24).1 rfl ?_
    refine aw_iload_n (pc1 := 100) at_468_99 l1 rfl ?_
    obtain ⟨v25, e26, hs13⟩ := am_bind hs12
    clear hs12
    refine aw_pA (pc1 := 101) at_468_100 (Or.inl ⟨rfl, rfl⟩) e26 rfl ?_
    obtain ⟨h27, e28, hs14⟩ := am_bind hs13
    clear hs13
    refine aw_pS (pc1 := 102) at_468_101 (Or.inl ⟨rfl, rfl⟩) e28 rfl ?_
    refine aw_vload_n (pc1 := 103) at_468_102 l0 i0 rfl ?_
    obtain ⟨v29, e30, hs15⟩ := am_bind hs14
    clear hs14
    refine aw_pG (pc1 := 106) at_468_103 (am_vR_s e30).1 rfl ?_
    refine aw_iload_n (pc1 := 107) at_468_106 l1 rfl ?_
    refine aw_iconst (v := 1) (pc1 := 108) at_468_107 (by decide) rfl ?_
    refine aw_iadd (v := (x1 + 1)) (pc1 := 109) at_468_108 rfl rfl ?_
    refine aw_vload_n (pc1 := 110) at_468_109 l0 i0 rfl ?_
    obtain ⟨v31, e32, hs16⟩ := am_bind hs15
    clear hs15
    refine aw_pG (pc1 := 113) at_468_110 (am_vR_s e32).1 rfl ?_
    refine aw_iload_n (pc1 := 114) at_468_113 l1 rfl ?_
    obtain ⟨v33, e34, hs17⟩ := am_bind hs16
    clear hs16
    refine aw_pA (pc1 := 115) at_468_114 (Or.inl ⟨rfl, rfl⟩) e34 rfl ?_
    obtain ⟨h35, e36, hs18⟩ := am_bind hs17
    clear hs17
    refine aw_pS (pc1 := 116) at_468_115 (Or.inl ⟨rfl, rfl⟩) e36 rfl ?_
    refine aw_vload_n (pc1 := 117) at_468_116 l0 i0 rfl ?_
    refine aw_vload_n (pc1 := 118) at_468_117 l0 i0 rfl ?_
    obtain ⟨z37, hs19⟩ := am_ift hs18
    clear hs18
    refine aw_call (F := fm_444 N x0 h35) (t := true) (na := 1) (kd := 1) (as := [x0]) at_468_118 (am_k3v kb_444) mn_444 mk_444 rfl rfl (am_ok_v mi_444 (am_hl rfl (am_ccR i0 am_cats_0) rfl) z37) (am_hc (am_ccR i0 am_cats_0) rfl) (fun _ => ⟨rfl, hh_468⟩) (fun o1 hz9 => rm_444 x0 h35 o1 i0 hz9) ?_
    rcases am_cI_s hs19 with ⟨v38, h39, f40, hs20⟩ | hs20
    · clear hs19
      refine Or.inl ⟨_, _, f40, ?_⟩
      show am_W X _ 468 121 _ [(.int v38), x0] h39 _
      obtain ⟨h41, e42, hs21⟩ := am_bind hs20
      clear hs20
      refine aw_pP (pc1 := 124) at_468_121 e42 rfl ?_
      exact rg_468_124 q_2 x0 x1 h41 o l0 l1 i0 hs21
    · clear hs19
      exact Or.inr hs20
  · clear hs1
    exact Or.inr hs2
def fg_468_2 (N : Nat) : Nat → Value → Int32 → am_H → Option am_O
  | 0 => fun _ _ _ => none
  | K + 1 => fun x0 x1 h => ((am_vI (am_pG 3090 x0 h)).bind fun v1 => (if v1 ≤ (x1 + 1) then (fg_468_130 N h) else ((am_vI (am_pG 3167 x0 h)).bind fun v4 => (if ¬ v4 = 0 then (fg_468_130 N h) else ((am_vR (am_pG 3093 x0 h)).bind fun v7 => ((am_pA 0 v7 x1 h).bind fun v9 => ((am_vR (am_pG 3093 x0 h)).bind fun v11 => ((am_pA 0 v11 (x1 + 1) h).bind fun v13 => (if ¬ v9 = v13 then (fg_468_56 N (fg_468_2 N K) x0 x1 h) else ((am_vR (am_pG 3094 x0 h)).bind fun v16 => ((am_pA 0 v16 x1 h).bind fun v18 => ((am_vR (am_pG 3094 x0 h)).bind fun v20 => ((am_pA 0 v20 (x1 + 1) h).bind fun v22 => (if ¬ v18 = v22 then (fg_468_56 N (fg_468_2 N K) x0 x1 h) else (fg_468_124 N (fg_468_2 N K) x0 x1 h)))))))))))))))
theorem rg_468_2 {X : am_X} {d : Nat} {N : Nat} : ∀ (K : Nat) (x0 : Value) (x1 : Int32) (h : am_H) (o : am_O), fg_468_2 N K x0 x1 h = some o → ∀ lv : am_LV, (lv.lookup 0 = some x0) → (lv.lookup 1 = some (.int x1)) → (am_isR x0 = true) → am_W X (d + 4) 468 2 lv [] h (fun q => q = o) := by
  intro K
  induction K with
  | zero => intro x0 x1 h o hs; cases hs
  | succ K ih =>
    intro x0 x1 h o hs lv l0 l1 i0
    unfold fg_468_2 at hs
    refine aw_iload_n (pc1 := 3) at_468_2 l1 rfl ?_
    refine aw_iconst (v := 1) (pc1 := 4) at_468_3 (by decide) rfl ?_
    refine aw_iadd (v := (x1 + 1)) (pc1 := 5) at_468_4 rfl rfl ?_
    refine aw_vload_n (pc1 := 6) at_468_5 l0 i0 rfl ?_
    obtain ⟨v1, e2, hs1⟩ := am_bind hs
    clear hs
    refine aw_pG (pc1 := 9) at_468_6 (am_vI_s e2) rfl ?_
    by_cases c3 : v1 ≤ (x1 + 1)
    · rw [if_pos c3] at hs1
      refine aw_icge_t at_468_9 c3 ?_
      exact rg_468_130 h o   hs1
    · rw [if_neg c3] at hs1
      refine aw_icge_f (pc1 := 12) at_468_9 c3 rfl ?_
      refine aw_vload_n (pc1 := 13) at_468_12 l0 i0 rfl ?_
      obtain ⟨v4, e5, hs2⟩ := am_bind hs1
      clear hs1
      refine aw_pG (pc1 := 16) at_468_13 (am_vI_s e5) rfl ?_
      by_cases c6 : ¬ v4 = 0
      · rw [if_pos c6] at hs2
        refine aw_ifne_t at_468_16 c6 ?_
        exact rg_468_130 h o   hs2
      · rw [if_neg c6] at hs2
        refine aw_ifne_f (pc1 := 19) at_468_16 c6 rfl ?_
        refine aw_vload_n (pc1 := 20) at_468_19 l0 i0 rfl ?_
        obtain ⟨v7, e8, hs3⟩ := am_bind hs2
        clear hs2
        refine aw_pG (pc1 := 23) at_468_20 (am_vR_s e8).1 rfl ?_
        refine aw_iload_n (pc1 := 24) at_468_23 l1 rfl ?_
        obtain ⟨v9, e10, hs4⟩ := am_bind hs3
        clear hs3
        refine aw_pA (pc1 := 25) at_468_24 (Or.inl ⟨rfl, rfl⟩) e10 rfl ?_
        refine aw_vload_n (pc1 := 26) at_468_25 l0 i0 rfl ?_
        obtain ⟨v11, e12, hs5⟩ := am_bind hs4
        clear hs4
        refine aw_pG (pc1 := 29) at_468_26 (am_vR_s e12).1 rfl ?_
        refine aw_iload_n (pc1 := 30) at_468_29 l1 rfl ?_
        refine aw_iconst (v := 1) (pc1 := 31) at_468_30 (by decide) rfl ?_
        refine aw_iadd (v := (x1 + 1)) (pc1 := 32) at_468_31 rfl rfl ?_
        obtain ⟨v13, e14, hs6⟩ := am_bind hs5
        clear hs5
        refine aw_pA (pc1 := 33) at_468_32 (Or.inl ⟨rfl, rfl⟩) e14 rfl ?_
        by_cases c15 : ¬ v9 = v13
        · rw [if_pos c15] at hs6
          refine aw_icne_t at_468_33 c15 ?_
          exact rg_468_56 (fun z0 z1 h o hs6 => ih z0 z1 h o hs6) x0 x1 h o l0 l1 i0 hs6
        · rw [if_neg c15] at hs6
          refine aw_icne_f (pc1 := 36) at_468_33 c15 rfl ?_
          refine aw_vload_n (pc1 := 37) at_468_36 l0 i0 rfl ?_
          obtain ⟨v16, e17, hs7⟩ := am_bind hs6
          clear hs6
          refine aw_pG (pc1 := 40) at_468_37 (am_vR_s e17).1 rfl ?_
          refine aw_iload_n (pc1 := 41) at_468_40 l1 rfl ?_
          obtain ⟨v18, e19, hs8⟩ := am_bind hs7
          clear hs7
          refine aw_pA (pc1 := 42) at_468_41 (Or.inl ⟨rfl, rfl⟩) e19 rfl ?_
          refine aw_vload_n (pc1 := 43) at_468_42 l0 i0 rfl ?_
          obtain ⟨v20, e21, hs9⟩ := am_bind hs8
          clear hs8
          refine aw_pG (pc1 := 46) at_468_43 (am_vR_s e21).1 rfl ?_
          refine aw_iload_n (pc1 := 47) at_468_46 l1 rfl ?_
          refine aw_iconst (v := 1) (pc1 := 48) at_468_47 (by decide) rfl ?_
          refine aw_iadd (v := (x1 + 1)) (pc1 := 49) at_468_48 rfl rfl ?_
          obtain ⟨v22, e23, hs10⟩ := am_bind hs9
          clear hs9
          refine aw_pA (pc1 := 50) at_468_49 (Or.inl ⟨rfl, rfl⟩) e23 rfl ?_
          by_cases c24 : ¬ v18 = v22
          · rw [if_pos c24] at hs10
            refine aw_icne_t at_468_50 c24 ?_
            exact rg_468_56 (fun z0 z1 h o hs10 => ih z0 z1 h o hs10) x0 x1 h o l0 l1 i0 hs10
          · rw [if_neg c24] at hs10
            refine aw_icne_f (pc1 := 53) at_468_50 c24 rfl ?_
            refine aw_goto at_468_53 ?_
            exact rg_468_124 (fun z0 z1 h o hs10 => ih z0 z1 h o hs10) x0 x1 h o l0 l1 i0 hs10
def fg_468_0 (N : Nat) (x0 : Value) (h : am_H) : Option am_O := (fg_468_2 N N x0 0 h)
theorem rg_468_0 {X : am_X} {d : Nat} {N : Nat} {lv : am_LV} (x0 : Value) (h : am_H) (o : am_O) (l0 : lv.lookup 0 = some x0) (i0 : am_isR x0 = true) (hs : fg_468_0 N x0 h = some o) : am_W X (d + 4) 468 0 lv [] h (fun q => q = o) := by
  unfold fg_468_0 at hs
  refine aw_iconst (v := 0) (pc1 := 1) at_468_0 (by decide) rfl ?_
  refine aw_istore_n (lv1 := am_put1 _ 1 _) (pc1 := 2) at_468_1 rfl rfl ?_
  exact rg_468_2 N x0 0 h o hs _ (am_lk1 l0 rfl (by rw [am_isRc i0]; rfl)) am_lk0 i0
def fm_468 (N : Nat) (y0 : Value) (h : am_H) : Option am_O := fg_468_0 N y0 h
theorem rm_468 {X : am_X} {d : Nat} {N : Nat} (y0 : Value) (h : am_H) (o : am_O) (i0 : am_isR y0 = true) (hs : fm_468 N y0 h = some o) : am_W X (d + 4) 468 0 (am_args 0 [y0]) [] h (fun q => q = o) := by
  rw [am_args_R i0]
  exact rg_468_0 y0 h o rfl i0 hs
def fg_439_274 (N : Nat) (x0 : Value) (h : am_H) : Option am_O := ((am_vI (am_pG 3166 x0 h)).bind fun v1 => some (.inl (some (.int v1), h)))
theorem rg_439_274 {X : am_X} {d : Nat} {N : Nat} {lv : am_LV} (x0 : Value) (h : am_H) (o : am_O) (l0 : lv.lookup 0 = some x0) (i0 : am_isR x0 = true) (hs : fg_439_274 N x0 h = some o) : am_W X (d + 6) 439 274 lv [] h (fun q => q = o) := by
  unfold fg_439_274 at hs
  refine aw_vload_n (pc1 := 275) at_439_274 l0 i0 rfl ?_
  obtain ⟨v1, e2, hs1⟩ := am_bind hs
  clear hs
  refine aw_pG (pc1 := 278) at_439_275 (am_vI_s e2) rfl ?_
  cases hs1
  exact aw_iret at_439_278 (by rw [rt_439]; rfl) rfl
def fg_439_270 (N : Nat) (x0 : Value) (h : am_H) : Option am_O := (if am_pOk 12 x0 h then am_cV true (fm_468 N x0 h) (fun h3 => (fg_439_274 N x0 h3)) else none)
theorem rg_439_270 {X : am_X} {d : Nat} {N : Nat} {lv : am_LV} (x0 : Value) (h : am_H) (o : am_O) (l0 : lv.lookup 0 = some x0) (i0 : am_isR x0 = true) (hs : fg_439_270 N x0 h = some o) : am_W X (d + 6) 439 270 lv [] h (fun q => q = o) := by
  unfold fg_439_270 at hs
  refine aw_vload_n (pc1 := 271) at_439_270 l0 i0 rfl ?_
  obtain ⟨z1, hs1⟩ := am_ift hs
  clear hs
  refine aw_call (F := fm_468 N x0 h) (t := true) (na := 1) (kd := 1) (as := [x0]) at_439_271 (am_k3v kb_468) mn_468 mk_468 rfl rfl (am_ok_v mi_468 (am_hl rfl (am_ccR i0 am_cats_0) rfl) z1) (am_hc am_cats_0 rfl) (fun _ => ⟨rfl, hh_439⟩) (fun o1 hz9 => rm_468 x0 h o1 i0 hz9) ?_
  rcases am_cV_s hs1 with ⟨h3, f4, hs2⟩ | hs2
  · clear hs1
    refine Or.inl ⟨_, _, f4, ?_⟩
    show am_W X _ 439 274 _ [] h3 _
    exact rg_439_274 x0 h3 o l0 i0 hs2
  · clear hs1
    exact Or.inr hs2
def fg_439_172 (N : Nat) (x0 : Value) (h : am_H) : Option am_O := (if am_pOk 12 x0 h then am_cV true (fm_440 N x0 h) (fun h3 => (fg_439_274 N x0 h3)) else none)
theorem rg_439_172 {X : am_X} {d : Nat} {N : Nat} {lv : am_LV} (x0 : Value) (h : am_H) (o : am_O) (l0 : lv.lookup 0 = some x0) (i0 : am_isR x0 = true) (hs : fg_439_172 N x0 h = some o) : am_W X (d + 6) 439 172 lv [] h (fun q => q = o) := by
  unfold fg_439_172 at hs
  refine aw_vload_n (pc1 := 173) at_439_172 l0 i0 rfl ?_
  obtain ⟨z1, hs1⟩ := am_ift hs
  clear hs
  refine aw_call (F := fm_440 N x0 h) (t := true) (na := 1) (kd := 1) (as := [x0]) at_439_173 (am_k3v kb_440) mn_440 mk_440 rfl rfl (am_ok_v mi_440 (am_hl rfl (am_ccR i0 am_cats_0) rfl) z1) (am_hc am_cats_0 rfl) (fun _ => ⟨rfl, hh_439⟩) (fun o1 hz9 => rm_440 x0 h o1 i0 hz9) ?_
  rcases am_cV_s hs1 with ⟨h3, f4, hs2⟩ | hs2
  · clear hs1
    refine Or.inl ⟨_, _, f4, ?_⟩
    show am_W X _ 439 176 _ [] h3 _
    refine aw_goto at_439_176 ?_
    exact rg_439_274 x0 h3 o l0 i0 hs2
  · clear hs1
    exact Or.inr hs2
def fg_439_0 (N : Nat) (x0 : Value) (x1 : Int32) (x2 : Int32) (h : am_H) : Option am_O := ((am_pP 3165 x0 (.int x2) h).bind fun h1 => ((am_pP 3166 x0 (.int 0) h1).bind fun h3 => ((am_pP 3167 x0 (.int 0) h3).bind fun h5 => ((am_vI (am_pG 3092 x0 h5)).bind fun v7 => (if ((10 * v7) + x1) = 0 then (fg_439_172 N x0 h5) else (if ((10 * v7) + x1) = 1 then (if am_pOk 12 x0 h5 then am_cV true (fm_447 N x0 h5) (fun h13 => (fg_439_274 N x0 h13)) else none) else (if ((10 * v7) + x1) = 2 then (if am_pOk 12 x0 h5 then am_cV true (fm_449 N x0 h5) (fun h18 => (fg_439_274 N x0 h18)) else none) else (if ((10 * v7) + x1) = 3 then (if am_pOk 12 x0 h5 then am_cV true (fm_452 N x0 h5) (fun h23 => (fg_439_274 N x0 h23)) else none) else (if ((10 * v7) + x1) = 10 then (fg_439_172 N x0 h5) else (if ((10 * v7) + x1) = 11 then (if am_pOk 12 x0 h5 then am_cV true (fm_453 N x0 h5) (fun h29 => (fg_439_274 N x0 h29)) else none) else (if ((10 * v7) + x1) = 12 then (if am_pOk 12 x0 h5 then am_cV true (fm_455 N x0 h5) (fun h34 => (fg_439_274 N x0 h34)) else none) else (if ((10 * v7) + x1) = 13 then (if am_pOk 12 x0 h5 then am_cV true (fm_457 N x0 h5) (fun h39 => (fg_439_274 N x0 h39)) else none) else (if ((10 * v7) + x1) = 20 then (if am_pOk 12 x0 h5 then am_cV true (fm_460 N x0 h5) (fun h44 => (fg_439_274 N x0 h44)) else none) else (if ((10 * v7) + x1) = 21 then (if am_pOk 12 x0 h5 then am_cV true (fm_462 N x0 h5) (fun h49 => (fg_439_274 N x0 h49)) else none) else (if ((10 * v7) + x1) = 22 then (if am_pOk 12 x0 h5 then am_cV true (fm_463 N x0 h5) (fun h54 => (fg_439_274 N x0 h54)) else none) else (if ((10 * v7) + x1) = 23 then (if am_pOk 12 x0 h5 then am_cV true (fm_464 N x0 h5) (fun h59 => (fg_439_274 N x0 h59)) else none) else (if ((10 * v7) + x1) = 30 then (if am_pOk 12 x0 h5 then am_cV true (fm_465 N x0 h5) (fun h64 => (fg_439_274 N x0 h64)) else none) else (if ((10 * v7) + x1) = 31 then (if am_pOk 12 x0 h5 then am_cV true (fm_466 N x0 h5) (fun h69 => (fg_439_274 N x0 h69)) else none) else (if ((10 * v7) + x1) = 32 then (if am_pOk 12 x0 h5 then am_cV true (fm_467 N x0 h5) (fun h74 => (fg_439_274 N x0 h74)) else none) else (fg_439_270 N x0 h5))))))))))))))))))))
theorem rg_439_0 {X : am_X} {d : Nat} {N : Nat} {lv : am_LV} (x0 : Value) (x1 : Int32) (x2 : Int32) (h : am_H) (o : am_O) (l0 : lv.lookup 0 = some x0) (l1 : lv.lookup 1 = some (.int x1)) (l2 : lv.lookup 2 = some (.int x2)) (i0 : am_isR x0 = true) (hs : fg_439_0 N x0 x1 x2 h = some o) : am_W X (d + 6) 439 0 lv [] h (fun q => q = o) := by
  unfold fg_439_0 at hs
  refine aw_vload_n (pc1 := 1) at_439_0 l0 i0 rfl ?_
  refine aw_iload_n (pc1 := 2) at_439_1 l2 rfl ?_
  obtain ⟨h1, e2, hs1⟩ := am_bind hs
  clear hs
  refine aw_pP (pc1 := 5) at_439_2 e2 rfl ?_
  refine aw_vload_n (pc1 := 6) at_439_5 l0 i0 rfl ?_
  refine aw_iconst (v := 0) (pc1 := 7) at_439_6 (by decide) rfl ?_
  obtain ⟨h3, e4, hs2⟩ := am_bind hs1
  clear hs1
  refine aw_pP (pc1 := 10) at_439_7 e4 rfl ?_
  refine aw_vload_n (pc1 := 11) at_439_10 l0 i0 rfl ?_
  refine aw_iconst (v := 0) (pc1 := 12) at_439_11 (by decide) rfl ?_
  obtain ⟨h5, e6, hs3⟩ := am_bind hs2
  clear hs2
  refine aw_pP (pc1 := 15) at_439_12 e6 rfl ?_
  refine aw_bipush (v := 10) (pc1 := 17) at_439_15 (by decide) rfl ?_
  refine aw_vload_n (pc1 := 18) at_439_17 l0 i0 rfl ?_
  obtain ⟨v7, e8, hs4⟩ := am_bind hs3
  clear hs3
  refine aw_pG (pc1 := 21) at_439_18 (am_vI_s e8) rfl ?_
  refine aw_imul (v := (10 * v7)) (pc1 := 22) at_439_21 rfl rfl ?_
  refine aw_iload_n (pc1 := 23) at_439_22 l1 rfl ?_
  refine aw_iadd (v := ((10 * v7) + x1)) (pc1 := 24) at_439_23 rfl rfl ?_
  by_cases c9 : ((10 * v7) + x1) = 0
  · rw [if_pos c9] at hs4
    refine aw_tsw (t := 172) at_439_24 (by rw [c9]; rfl) ?_
    exact rg_439_172 x0 h5 o l0 i0 hs4
  · rw [if_neg c9] at hs4
    by_cases c10 : ((10 * v7) + x1) = 1
    · rw [if_pos c10] at hs4
      refine aw_tsw (t := 179) at_439_24 (by rw [c10]; rfl) ?_
      refine aw_vload_n (pc1 := 180) at_439_179 l0 i0 rfl ?_
      obtain ⟨z11, hs5⟩ := am_ift hs4
      clear hs4
      refine aw_call (F := fm_447 N x0 h5) (t := true) (na := 1) (kd := 1) (as := [x0]) at_439_180 (am_k3v kb_447) mn_447 mk_447 rfl rfl (am_ok_v mi_447 (am_hl rfl (am_ccR i0 am_cats_0) rfl) z11) (am_hc am_cats_0 rfl) (fun _ => ⟨rfl, hh_439⟩) (fun o1 hz9 => rm_447 x0 h5 o1 i0 hz9) ?_
      rcases am_cV_s hs5 with ⟨h13, f14, hs6⟩ | hs6
      · clear hs5
        refine Or.inl ⟨_, _, f14, ?_⟩
        show am_W X _ 439 183 _ [] h13 _
        refine aw_goto at_439_183 ?_
        exact rg_439_274 x0 h13 o l0 i0 hs6
      · clear hs5
        exact Or.inr hs6
    · rw [if_neg c10] at hs4
      by_cases c15 : ((10 * v7) + x1) = 2
      · rw [if_pos c15] at hs4
        refine aw_tsw (t := 186) at_439_24 (by rw [c15]; rfl) ?_
        refine aw_vload_n (pc1 := 187) at_439_186 l0 i0 rfl ?_
        obtain ⟨z16, hs7⟩ := am_ift hs4
        clear hs4
        refine aw_call (F := fm_449 N x0 h5) (t := true) (na := 1) (kd := 1) (as := [x0]) at_439_187 (am_k3v kb_449) mn_449 mk_449 rfl rfl (am_ok_v mi_449 (am_hl rfl (am_ccR i0 am_cats_0) rfl) z16) (am_hc am_cats_0 rfl) (fun _ => ⟨rfl, hh_439⟩) (fun o1 hz9 => rm_449 x0 h5 o1 i0 hz9) ?_
        rcases am_cV_s hs7 with ⟨h18, f19, hs8⟩ | hs8
        · clear hs7
          refine Or.inl ⟨_, _, f19, ?_⟩
          show am_W X _ 439 190 _ [] h18 _
          refine aw_goto at_439_190 ?_
          exact rg_439_274 x0 h18 o l0 i0 hs8
        · clear hs7
          exact Or.inr hs8
      · rw [if_neg c15] at hs4
        by_cases c20 : ((10 * v7) + x1) = 3
        · rw [if_pos c20] at hs4
          refine aw_tsw (t := 193) at_439_24 (by rw [c20]; rfl) ?_
          refine aw_vload_n (pc1 := 194) at_439_193 l0 i0 rfl ?_
          obtain ⟨z21, hs9⟩ := am_ift hs4
          clear hs4
          refine aw_call (F := fm_452 N x0 h5) (t := true) (na := 1) (kd := 1) (as := [x0]) at_439_194 (am_k3v kb_452) mn_452 mk_452 rfl rfl (am_ok_v mi_452 (am_hl rfl (am_ccR i0 am_cats_0) rfl) z21) (am_hc am_cats_0 rfl) (fun _ => ⟨rfl, hh_439⟩) (fun o1 hz9 => rm_452 x0 h5 o1 i0 hz9) ?_
          rcases am_cV_s hs9 with ⟨h23, f24, hs10⟩ | hs10
          · clear hs9
            refine Or.inl ⟨_, _, f24, ?_⟩
            show am_W X _ 439 197 _ [] h23 _
            refine aw_goto at_439_197 ?_
            exact rg_439_274 x0 h23 o l0 i0 hs10
          · clear hs9
            exact Or.inr hs10
        · rw [if_neg c20] at hs4
          by_cases c25 : ((10 * v7) + x1) = 10
          · rw [if_pos c25] at hs4
            refine aw_tsw (t := 172) at_439_24 (by rw [c25]; rfl) ?_
            exact rg_439_172 x0 h5 o l0 i0 hs4
          · rw [if_neg c25] at hs4
            by_cases c26 : ((10 * v7) + x1) = 11
            · rw [if_pos c26] at hs4
              refine aw_tsw (t := 200) at_439_24 (by rw [c26]; rfl) ?_
              refine aw_vload_n (pc1 := 201) at_439_200 l0 i0 rfl ?_
              obtain ⟨z27, hs11⟩ := am_ift hs4
              clear hs4
              refine aw_call (F := fm_453 N x0 h5) (t := true) (na := 1) (kd := 1) (as := [x0]) at_439_201 (am_k3v kb_453) mn_453 mk_453 rfl rfl (am_ok_v mi_453 (am_hl rfl (am_ccR i0 am_cats_0) rfl) z27) (am_hc am_cats_0 rfl) (fun _ => ⟨rfl, hh_439⟩) (fun o1 hz9 => rm_453 x0 h5 o1 i0 hz9) ?_
              rcases am_cV_s hs11 with ⟨h29, f30, hs12⟩ | hs12
              · clear hs11
                refine Or.inl ⟨_, _, f30, ?_⟩
                show am_W X _ 439 204 _ [] h29 _
                refine aw_goto at_439_204 ?_
                exact rg_439_274 x0 h29 o l0 i0 hs12
              · clear hs11
                exact Or.inr hs12
            · rw [if_neg c26] at hs4
              by_cases c31 : ((10 * v7) + x1) = 12
              · rw [if_pos c31] at hs4
                refine aw_tsw (t := 207) at_439_24 (by rw [c31]; rfl) ?_
                refine aw_vload_n (pc1 := 208) at_439_207 l0 i0 rfl ?_
                obtain ⟨z32, hs13⟩ := am_ift hs4
                clear hs4
                refine aw_call (F := fm_455 N x0 h5) (t := true) (na := 1) (kd := 1) (as := [x0]) at_439_208 (am_k3v kb_455) mn_455 mk_455 rfl rfl (am_ok_v mi_455 (am_hl rfl (am_ccR i0 am_cats_0) rfl) z32) (am_hc am_cats_0 rfl) (fun _ => ⟨rfl, hh_439⟩) (fun o1 hz9 => rm_455 x0 h5 o1 i0 hz9) ?_
                rcases am_cV_s hs13 with ⟨h34, f35, hs14⟩ | hs14
                · clear hs13
                  refine Or.inl ⟨_, _, f35, ?_⟩
                  show am_W X _ 439 211 _ [] h34 _
                  refine aw_goto at_439_211 ?_
                  exact rg_439_274 x0 h34 o l0 i0 hs14
                · clear hs13
                  exact Or.inr hs14
              · rw [if_neg c31] at hs4
                by_cases c36 : ((10 * v7) + x1) = 13
                · rw [if_pos c36] at hs4
                  refine aw_tsw (t := 214) at_439_24 (by rw [c36]; rfl) ?_
                  refine aw_vload_n (pc1 := 215) at_439_214 l0 i0 rfl ?_
                  obtain ⟨z37, hs15⟩ := am_ift hs4
                  clear hs4
                  refine aw_call (F := fm_457 N x0 h5) (t := true) (na := 1) (kd := 1) (as := [x0]) at_439_215 (am_k3v kb_457) mn_457 mk_457 rfl rfl (am_ok_v mi_457 (am_hl rfl (am_ccR i0 am_cats_0) rfl) z37) (am_hc am_cats_0 rfl) (fun _ => ⟨rfl, hh_439⟩) (fun o1 hz9 => rm_457 x0 h5 o1 i0 hz9) ?_
                  rcases am_cV_s hs15 with ⟨h39, f40, hs16⟩ | hs16
                  · clear hs15
                    refine Or.inl ⟨_, _, f40, ?_⟩
                    show am_W X _ 439 218 _ [] h39 _
                    refine aw_goto at_439_218 ?_
                    exact rg_439_274 x0 h39 o l0 i0 hs16
                  · clear hs15
                    exact Or.inr hs16
                · rw [if_neg c36] at hs4
                  by_cases c41 : ((10 * v7) + x1) = 20
                  · rw [if_pos c41] at hs4
                    refine aw_tsw (t := 221) at_439_24 (by rw [c41]; rfl) ?_
                    refine aw_vload_n (pc1 := 222) at_439_221 l0 i0 rfl ?_
                    obtain ⟨z42, hs17⟩ := am_ift hs4
                    clear hs4
                    refine aw_call (F := fm_460 N x0 h5) (t := true) (na := 1) (kd := 1) (as := [x0]) at_439_222 (am_k3v kb_460) mn_460 mk_460 rfl rfl (am_ok_v mi_460 (am_hl rfl (am_ccR i0 am_cats_0) rfl) z42) (am_hc am_cats_0 rfl) (fun _ => ⟨rfl, hh_439⟩) (fun o1 hz9 => rm_460 x0 h5 o1 i0 hz9) ?_
                    rcases am_cV_s hs17 with ⟨h44, f45, hs18⟩ | hs18
                    · clear hs17
                      refine Or.inl ⟨_, _, f45, ?_⟩
                      show am_W X _ 439 225 _ [] h44 _
                      refine aw_goto at_439_225 ?_
                      exact rg_439_274 x0 h44 o l0 i0 hs18
                    · clear hs17
                      exact Or.inr hs18
                  · rw [if_neg c41] at hs4
                    by_cases c46 : ((10 * v7) + x1) = 21
                    · rw [if_pos c46] at hs4
                      refine aw_tsw (t := 228) at_439_24 (by rw [c46]; rfl) ?_
                      refine aw_vload_n (pc1 := 229) at_439_228 l0 i0 rfl ?_
                      obtain ⟨z47, hs19⟩ := am_ift hs4
                      clear hs4
                      refine aw_call (F := fm_462 N x0 h5) (t := true) (na := 1) (kd := 1) (as := [x0]) at_439_229 (am_k3v kb_462) mn_462 mk_462 rfl rfl (am_ok_v mi_462 (am_hl rfl (am_ccR i0 am_cats_0) rfl) z47) (am_hc am_cats_0 rfl) (fun _ => ⟨rfl, hh_439⟩) (fun o1 hz9 => rm_462 x0 h5 o1 i0 hz9) ?_
                      rcases am_cV_s hs19 with ⟨h49, f50, hs20⟩ | hs20
                      · clear hs19
                        refine Or.inl ⟨_, _, f50, ?_⟩
                        show am_W X _ 439 232 _ [] h49 _
                        refine aw_goto at_439_232 ?_
                        exact rg_439_274 x0 h49 o l0 i0 hs20
                      · clear hs19
                        exact Or.inr hs20
                    · rw [if_neg c46] at hs4
                      by_cases c51 : ((10 * v7) + x1) = 22
                      · rw [if_pos c51] at hs4
                        refine aw_tsw (t := 235) at_439_24 (by rw [c51]; rfl) ?_
                        refine aw_vload_n (pc1 := 236) at_439_235 l0 i0 rfl ?_
                        obtain ⟨z52, hs21⟩ := am_ift hs4
                        clear hs4
                        refine aw_call (F := fm_463 N x0 h5) (t := true) (na := 1) (kd := 1) (as := [x0]) at_439_236 (am_k3v kb_463) mn_463 mk_463 rfl rfl (am_ok_v mi_463 (am_hl rfl (am_ccR i0 am_cats_0) rfl) z52) (am_hc am_cats_0 rfl) (fun _ => ⟨rfl, hh_439⟩) (fun o1 hz9 => rm_463 x0 h5 o1 i0 hz9) ?_
                        rcases am_cV_s hs21 with ⟨h54, f55, hs22⟩ | hs22
                        · clear hs21
                          refine Or.inl ⟨_, _, f55, ?_⟩
                          show am_W X _ 439 239 _ [] h54 _
                          refine aw_goto at_439_239 ?_
                          exact rg_439_274 x0 h54 o l0 i0 hs22
                        · clear hs21
                          exact Or.inr hs22
                      · rw [if_neg c51] at hs4
                        by_cases c56 : ((10 * v7) + x1) = 23
                        · rw [if_pos c56] at hs4
                          refine aw_tsw (t := 242) at_439_24 (by rw [c56]; rfl) ?_
                          refine aw_vload_n (pc1 := 243) at_439_242 l0 i0 rfl ?_
                          obtain ⟨z57, hs23⟩ := am_ift hs4
                          clear hs4
                          refine aw_call (F := fm_464 N x0 h5) (t := true) (na := 1) (kd := 1) (as := [x0]) at_439_243 (am_k3v kb_464) mn_464 mk_464 rfl rfl (am_ok_v mi_464 (am_hl rfl (am_ccR i0 am_cats_0) rfl) z57) (am_hc am_cats_0 rfl) (fun _ => ⟨rfl, hh_439⟩) (fun o1 hz9 => rm_464 x0 h5 o1 i0 hz9) ?_
                          rcases am_cV_s hs23 with ⟨h59, f60, hs24⟩ | hs24
                          · clear hs23
                            refine Or.inl ⟨_, _, f60, ?_⟩
                            show am_W X _ 439 246 _ [] h59 _
                            refine aw_goto at_439_246 ?_
                            exact rg_439_274 x0 h59 o l0 i0 hs24
                          · clear hs23
                            exact Or.inr hs24
                        · rw [if_neg c56] at hs4
                          by_cases c61 : ((10 * v7) + x1) = 30
                          · rw [if_pos c61] at hs4
                            refine aw_tsw (t := 249) at_439_24 (by rw [c61]; rfl) ?_
                            refine aw_vload_n (pc1 := 250) at_439_249 l0 i0 rfl ?_
                            obtain ⟨z62, hs25⟩ := am_ift hs4
                            clear hs4
                            refine aw_call (F := fm_465 N x0 h5) (t := true) (na := 1) (kd := 1) (as := [x0]) at_439_250 (am_k3v kb_465) mn_465 mk_465 rfl rfl (am_ok_v mi_465 (am_hl rfl (am_ccR i0 am_cats_0) rfl) z62) (am_hc am_cats_0 rfl) (fun _ => ⟨rfl, hh_439⟩) (fun o1 hz9 => rm_465 x0 h5 o1 i0 hz9) ?_
                            rcases am_cV_s hs25 with ⟨h64, f65, hs26⟩ | hs26
                            · clear hs25
                              refine Or.inl ⟨_, _, f65, ?_⟩
                              show am_W X _ 439 253 _ [] h64 _
                              refine aw_goto at_439_253 ?_
                              exact rg_439_274 x0 h64 o l0 i0 hs26
                            · clear hs25
                              exact Or.inr hs26
                          · rw [if_neg c61] at hs4
                            by_cases c66 : ((10 * v7) + x1) = 31
                            · rw [if_pos c66] at hs4
                              refine aw_tsw (t := 256) at_439_24 (by rw [c66]; rfl) ?_
                              refine aw_vload_n (pc1 := 257) at_439_256 l0 i0 rfl ?_
                              obtain ⟨z67, hs27⟩ := am_ift hs4
                              clear hs4
                              refine aw_call (F := fm_466 N x0 h5) (t := true) (na := 1) (kd := 1) (as := [x0]) at_439_257 (am_k3v kb_466) mn_466 mk_466 rfl rfl (am_ok_v mi_466 (am_hl rfl (am_ccR i0 am_cats_0) rfl) z67) (am_hc am_cats_0 rfl) (fun _ => ⟨rfl, hh_439⟩) (fun o1 hz9 => rm_466 x0 h5 o1 i0 hz9) ?_
                              rcases am_cV_s hs27 with ⟨h69, f70, hs28⟩ | hs28
                              · clear hs27
                                refine Or.inl ⟨_, _, f70, ?_⟩
                                show am_W X _ 439 260 _ [] h69 _
                                refine aw_goto at_439_260 ?_
                                exact rg_439_274 x0 h69 o l0 i0 hs28
                              · clear hs27
                                exact Or.inr hs28
                            · rw [if_neg c66] at hs4
                              by_cases c71 : ((10 * v7) + x1) = 32
                              · rw [if_pos c71] at hs4
                                refine aw_tsw (t := 263) at_439_24 (by rw [c71]; rfl) ?_
                                refine aw_vload_n (pc1 := 264) at_439_263 l0 i0 rfl ?_
                                obtain ⟨z72, hs29⟩ := am_ift hs4
                                clear hs4
                                refine aw_call (F := fm_467 N x0 h5) (t := true) (na := 1) (kd := 1) (as := [x0]) at_439_264 (am_k3v kb_467) mn_467 mk_467 rfl rfl (am_ok_v mi_467 (am_hl rfl (am_ccR i0 am_cats_0) rfl) z72) (am_hc am_cats_0 rfl) (fun _ => ⟨rfl, hh_439⟩) (fun o1 hz9 => rm_467 x0 h5 o1 i0 hz9) ?_
                                rcases am_cV_s hs29 with ⟨h74, f75, hs30⟩ | hs30
                                · clear hs29
                                  refine Or.inl ⟨_, _, f75, ?_⟩
                                  show am_W X _ 439 267 _ [] h74 _
                                  refine aw_goto at_439_267 ?_
                                  exact rg_439_274 x0 h74 o l0 i0 hs30
                                · clear hs29
                                  exact Or.inr hs30
                              · rw [if_neg c71] at hs4
                                have tc9 : (((10 * v7) + x1)).toInt ≠ 0 := fun e9 => c9 (Int32.toInt_inj.mp e9)
                                have tc10 : (((10 * v7) + x1)).toInt ≠ 1 := fun e9 => c10 (Int32.toInt_inj.mp e9)
                                have tc15 : (((10 * v7) + x1)).toInt ≠ 2 := fun e9 => c15 (Int32.toInt_inj.mp e9)
                                have tc20 : (((10 * v7) + x1)).toInt ≠ 3 := fun e9 => c20 (Int32.toInt_inj.mp e9)
                                have tc25 : (((10 * v7) + x1)).toInt ≠ 10 := fun e9 => c25 (Int32.toInt_inj.mp e9)
                                have tc26 : (((10 * v7) + x1)).toInt ≠ 11 := fun e9 => c26 (Int32.toInt_inj.mp e9)
                                have tc31 : (((10 * v7) + x1)).toInt ≠ 12 := fun e9 => c31 (Int32.toInt_inj.mp e9)
                                have tc36 : (((10 * v7) + x1)).toInt ≠ 13 := fun e9 => c36 (Int32.toInt_inj.mp e9)
                                have tc41 : (((10 * v7) + x1)).toInt ≠ 20 := fun e9 => c41 (Int32.toInt_inj.mp e9)
                                have tc46 : (((10 * v7) + x1)).toInt ≠ 21 := fun e9 => c46 (Int32.toInt_inj.mp e9)
                                have tc51 : (((10 * v7) + x1)).toInt ≠ 22 := fun e9 => c51 (Int32.toInt_inj.mp e9)
                                have tc56 : (((10 * v7) + x1)).toInt ≠ 23 := fun e9 => c56 (Int32.toInt_inj.mp e9)
                                have tc61 : (((10 * v7) + x1)).toInt ≠ 30 := fun e9 => c61 (Int32.toInt_inj.mp e9)
                                have tc66 : (((10 * v7) + x1)).toInt ≠ 31 := fun e9 => c66 (Int32.toInt_inj.mp e9)
                                have tc71 : (((10 * v7) + x1)).toInt ≠ 32 := fun e9 => c71 (Int32.toInt_inj.mp e9)
                                have hw : ((((10 * v7) + x1)).toInt < 0 ∨ 32 < (((10 * v7) + x1)).toInt) ∨ (((10 * v7) + x1)).toInt = 4 ∨ (((10 * v7) + x1)).toInt = 5 ∨ (((10 * v7) + x1)).toInt = 6 ∨ (((10 * v7) + x1)).toInt = 7 ∨ (((10 * v7) + x1)).toInt = 8 ∨ (((10 * v7) + x1)).toInt = 9 ∨ (((10 * v7) + x1)).toInt = 14 ∨ (((10 * v7) + x1)).toInt = 15 ∨ (((10 * v7) + x1)).toInt = 16 ∨ (((10 * v7) + x1)).toInt = 17 ∨ (((10 * v7) + x1)).toInt = 18 ∨ (((10 * v7) + x1)).toInt = 19 ∨ (((10 * v7) + x1)).toInt = 24 ∨ (((10 * v7) + x1)).toInt = 25 ∨ (((10 * v7) + x1)).toInt = 26 ∨ (((10 * v7) + x1)).toInt = 27 ∨ (((10 * v7) + x1)).toInt = 28 ∨ (((10 * v7) + x1)).toInt = 29 := by omega
                                refine aw_tsw (t := 270) at_439_24 ?_ ?_
                                · rcases hw with hw | hw | hw | hw | hw | hw | hw | hw | hw | hw | hw | hw | hw | hw | hw | hw | hw | hw | hw
                                  · exact am_tsw_d hw
                                  · rw [show (((10 * v7) + x1)) = 4 from Int32.toInt_inj.mp hw]; rfl
                                  · rw [show (((10 * v7) + x1)) = 5 from Int32.toInt_inj.mp hw]; rfl
                                  · rw [show (((10 * v7) + x1)) = 6 from Int32.toInt_inj.mp hw]; rfl
                                  · rw [show (((10 * v7) + x1)) = 7 from Int32.toInt_inj.mp hw]; rfl
                                  · rw [show (((10 * v7) + x1)) = 8 from Int32.toInt_inj.mp hw]; rfl
                                  · rw [show (((10 * v7) + x1)) = 9 from Int32.toInt_inj.mp hw]; rfl
                                  · rw [show (((10 * v7) + x1)) = 14 from Int32.toInt_inj.mp hw]; rfl
                                  · rw [show (((10 * v7) + x1)) = 15 from Int32.toInt_inj.mp hw]; rfl
                                  · rw [show (((10 * v7) + x1)) = 16 from Int32.toInt_inj.mp hw]; rfl
                                  · rw [show (((10 * v7) + x1)) = 17 from Int32.toInt_inj.mp hw]; rfl
                                  · rw [show (((10 * v7) + x1)) = 18 from Int32.toInt_inj.mp hw]; rfl
                                  · rw [show (((10 * v7) + x1)) = 19 from Int32.toInt_inj.mp hw]; rfl
                                  · rw [show (((10 * v7) + x1)) = 24 from Int32.toInt_inj.mp hw]; rfl
                                  · rw [show (((10 * v7) + x1)) = 25 from Int32.toInt_inj.mp hw]; rfl
                                  · rw [show (((10 * v7) + x1)) = 26 from Int32.toInt_inj.mp hw]; rfl
                                  · rw [show (((10 * v7) + x1)) = 27 from Int32.toInt_inj.mp hw]; rfl
                                  · rw [show (((10 * v7) + x1)) = 28 from Int32.toInt_inj.mp hw]; rfl
                                  · rw [show (((10 * v7) + x1)) = 29 from Int32.toInt_inj.mp hw]; rfl
                                exact rg_439_270 x0 h5 o l0 i0 hs4
def fm_439 (N : Nat) (y0 : Value) (y1 : Int32) (y2 : Int32) (h : am_H) : Option am_O := fg_439_0 N y0 y1 y2 h
theorem rm_439 {X : am_X} {d : Nat} {N : Nat} (y0 : Value) (y1 : Int32) (y2 : Int32) (h : am_H) (o : am_O) (i0 : am_isR y0 = true) (hs : fm_439 N y0 y1 y2 h = some o) : am_W X (d + 6) 439 0 (am_args 0 [y0, .int y1, .int y2]) [] h (fun q => q = o) := by
  rw [am_args_R i0, am_args_I, am_args_I]
  exact rg_439_0 y0 y1 y2 h o rfl rfl rfl i0 hs
def fg_438_30 (N : Nat) (x0 : Value) (x1 : Int32) (x2 : Int32) (s0 : Value) (s1 : Int32) (h : am_H) : Option am_O := ((am_pP 3072 s0 (.int s1) h).bind fun h1 => ((am_vI (am_pG 3072 x0 h1)).bind fun v3 => (if v3 ≤ 0 then (if am_pOk 12 x0 h1 then am_cV true (fm_391 N x0 x1 h1) (fun h8 => (if am_pOk 12 x0 h8 then am_cI true (fm_439 N x0 x2 ((-1)) h8) (fun v11 h12 => some (.inl (some (.int v11), h12))) else none)) else none) else some (.inl (some (.int 0), h1)))))
theorem rg_438_30 {X : am_X} {d : Nat} {N : Nat} {lv : am_LV} (x0 : Value) (x1 : Int32) (x2 : Int32) (s0 : Value) (s1 : Int32) (h : am_H) (o : am_O) (l0 : lv.lookup 0 = some x0) (l1 : lv.lookup 1 = some (.int x1)) (l2 : lv.lookup 2 = some (.int x2)) (i0 : am_isR x0 = true) (j0 : am_isR s0 = true) (hs : fg_438_30 N x0 x1 x2 s0 s1 h = some o) : am_W X (d + 7) 438 30 lv [(.int s1), s0] h (fun q => q = o) := by
  unfold fg_438_30 at hs
  obtain ⟨h1, e2, hs1⟩ := am_bind hs
  clear hs
  refine aw_pP (pc1 := 33) at_438_30 e2 rfl ?_
  refine aw_vload_n (pc1 := 34) at_438_33 l0 i0 rfl ?_
  obtain ⟨v3, e4, hs2⟩ := am_bind hs1
  clear hs1
  refine aw_pG (pc1 := 37) at_438_34 (am_vI_s e4) rfl ?_
  by_cases c5 : v3 ≤ 0
  · rw [if_pos c5] at hs2
    refine aw_ifle_t at_438_37 c5 ?_
    refine aw_vload_n (pc1 := 43) at_438_42 l0 i0 rfl ?_
    refine aw_iload_n (pc1 := 44) at_438_43 l1 rfl ?_
    obtain ⟨z6, hs3⟩ := am_ift hs2
    clear hs2
    refine aw_call (F := fm_391 N x0 x1 h1) (t := true) (na := 2) (kd := 1) (as := [x0, (.int x1)]) at_438_44 (am_k3v kb_391) mn_391 mk_391 rfl rfl (am_ok_v mi_391 (am_hl rfl (am_ccR i0 (am_ccI am_cats_0)) rfl) z6) (am_hc am_cats_0 rfl) (fun _ => ⟨rfl, hh_438⟩) (fun o1 hz9 => rm_391 x0 x1 h1 o1 i0 hz9) ?_
    rcases am_cV_s hs3 with ⟨h8, f9, hs4⟩ | hs4
    · clear hs3
      refine Or.inl ⟨_, _, f9, ?_⟩
      show am_W X _ 438 47 _ [] h8 _
      refine aw_vload_n (pc1 := 48) at_438_47 l0 i0 rfl ?_
      refine aw_iload_n (pc1 := 49) at_438_48 l2 rfl ?_
      refine aw_iconst (v := (-1)) (pc1 := 50) at_438_49 (by decide) rfl ?_
      obtain ⟨z10, hs5⟩ := am_ift hs4
      clear hs4
      refine aw_call (F := fm_439 N x0 x2 ((-1)) h8) (t := true) (na := 3) (kd := 1) (as := [x0, (.int x2), (.int (-1))]) at_438_50 (am_k3v kb_439) mn_439 mk_439 rfl rfl (am_ok_v mi_439 (am_hl rfl (am_ccR i0 (am_ccI (am_ccI am_cats_0))) rfl) z10) (am_hc am_cats_0 rfl) (fun _ => ⟨rfl, hh_438⟩) (fun o1 hz9 => rm_439 x0 x2 ((-1)) h8 o1 i0 hz9) ?_
      rcases am_cI_s hs5 with ⟨v11, h12, f13, hs6⟩ | hs6
      · clear hs5
        refine Or.inl ⟨_, _, f13, ?_⟩
        show am_W X _ 438 53 _ [(.int v11)] h12 _
        cases hs6
        exact aw_iret at_438_53 (by rw [rt_438]; rfl) rfl
      · clear hs5
        exact Or.inr hs6
    · clear hs3
      exact Or.inr hs4
  · rw [if_neg c5] at hs2
    refine aw_ifle_f (pc1 := 40) at_438_37 c5 rfl ?_
    refine aw_iconst (v := 0) (pc1 := 41) at_438_40 (by decide) rfl ?_
    cases hs2
    exact aw_iret at_438_41 (by rw [rt_438]; rfl) rfl
def fg_438_0 (N : Nat) (x0 : Value) (x1 : Int32) (x2 : Int32) (h : am_H) : Option am_O := (if am_pOk 12 x0 h then am_cI true (fm_358 x0 x1 h) (fun v2 h3 => (if ¬ v2 = 0 then am_cI false (fm_327 ((Int32.toInt64 x2)) 0 3 h3) (fun v6 h7 => (if ¬ v6 = 0 then (fg_438_30 N x0 x1 x2 x0 0 h7) else (fg_438_30 N x0 x1 x2 x0 2 h7))) else (fg_438_30 N x0 x1 x2 x0 1 h3))) else none)
theorem rg_438_0 {X : am_X} {d : Nat} {N : Nat} {lv : am_LV} (x0 : Value) (x1 : Int32) (x2 : Int32) (h : am_H) (o : am_O) (l0 : lv.lookup 0 = some x0) (l1 : lv.lookup 1 = some (.int x1)) (l2 : lv.lookup 2 = some (.int x2)) (i0 : am_isR x0 = true) (hs : fg_438_0 N x0 x1 x2 h = some o) : am_W X (d + 7) 438 0 lv [] h (fun q => q = o) := by
  unfold fg_438_0 at hs
  refine aw_vload_n (pc1 := 1) at_438_0 l0 i0 rfl ?_
  refine aw_vload_n (pc1 := 2) at_438_1 l0 i0 rfl ?_
  refine aw_iload_n (pc1 := 3) at_438_2 l1 rfl ?_
  obtain ⟨z1, hs1⟩ := am_ift hs
  clear hs
  refine aw_call (F := fm_358 x0 x1 h) (t := true) (na := 2) (kd := 1) (as := [x0, (.int x1)]) at_438_3 (am_k3v kb_358) mn_358 mk_358 rfl rfl (am_ok_v mi_358 (am_hl rfl (am_ccR i0 (am_ccI am_cats_0)) rfl) z1) (am_hc (am_ccR i0 am_cats_0) rfl) (fun _ => ⟨rfl, hh_438⟩) (fun o1 hz9 => rm_358 x0 x1 h o1 i0 hz9) ?_
  rcases am_cI_s hs1 with ⟨v2, h3, f4, hs2⟩ | hs2
  · clear hs1
    refine Or.inl ⟨_, _, f4, ?_⟩
    show am_W X _ 438 6 _ [(.int v2), x0] h3 _
    by_cases c5 : ¬ v2 = 0
    · rw [if_pos c5] at hs2
      refine aw_ifne_t at_438_6 c5 ?_
      refine aw_iload_n (pc1 := 14) at_438_13 l2 rfl ?_
      refine aw_i2l (v := (Int32.toInt64 x2)) (pc1 := 15) at_438_14 rfl rfl ?_
      refine aw_lconst (v := 0) (pc1 := 16) at_438_15 (by decide) rfl ?_
      refine aw_ldc2 (v := 3) (pc1 := 19) at_438_16 rfl rfl ?_
      refine aw_call (F := fm_327 ((Int32.toInt64 x2)) 0 3 h3) (t := false) (na := 3) (kd := 0) (as := [(.long (Int32.toInt64 x2)), (.long 0), (.long 3)]) at_438_19 (am_k3s kb_327) mn_327 mk_327 rfl rfl (am_ok_s mi_327 (am_hl rfl (am_ccL (am_ccL (am_ccL am_cats_0))) rfl)) (am_hc (am_ccR i0 am_cats_0) rfl) (fun hz9 => by cases hz9) (fun o1 hz9 => rm_327 ((Int32.toInt64 x2)) 0 3 h3 o1  hz9) ?_
      rcases am_cI_s hs2 with ⟨v6, h7, f8, hs3⟩ | hs3
      · clear hs2
        refine Or.inl ⟨_, _, f8, ?_⟩
        show am_W X _ 438 22 _ [(.int v6), x0] h7 _
        by_cases c9 : ¬ v6 = 0
        · rw [if_pos c9] at hs3
          refine aw_ifne_t at_438_22 c9 ?_
          refine aw_iconst (v := 0) (pc1 := 30) at_438_29 (by decide) rfl ?_
          exact rg_438_30 x0 x1 x2 x0 0 h7 o l0 l1 l2 i0 i0 hs3
        · rw [if_neg c9] at hs3
          refine aw_ifne_f (pc1 := 25) at_438_22 c9 rfl ?_
          refine aw_iconst (v := 2) (pc1 := 26) at_438_25 (by decide) rfl ?_
          refine aw_goto at_438_26 ?_
          exact rg_438_30 x0 x1 x2 x0 2 h7 o l0 l1 l2 i0 i0 hs3
      · clear hs2
        exact Or.inr hs3
    · rw [if_neg c5] at hs2
      refine aw_ifne_f (pc1 := 9) at_438_6 c5 rfl ?_
      refine aw_iconst (v := 1) (pc1 := 10) at_438_9 (by decide) rfl ?_
      refine aw_goto at_438_10 ?_
      exact rg_438_30 x0 x1 x2 x0 1 h3 o l0 l1 l2 i0 i0 hs2
  · clear hs1
    exact Or.inr hs2
def fm_438 (N : Nat) (y0 : Value) (y1 : Int32) (y2 : Int32) (h : am_H) : Option am_O := fg_438_0 N y0 y1 y2 h
theorem rm_438 {X : am_X} {d : Nat} {N : Nat} (y0 : Value) (y1 : Int32) (y2 : Int32) (h : am_H) (o : am_O) (i0 : am_isR y0 = true) (hs : fm_438 N y0 y1 y2 h = some o) : am_W X (d + 7) 438 0 (am_args 0 [y0, .int y1, .int y2]) [] h (fun q => q = o) := by
  rw [am_args_R i0, am_args_I, am_args_I]
  exact rg_438_0 y0 y1 y2 h o rfl rfl rfl i0 hs
def fg_187_39 (N : Nat) (h : am_H) : Option am_O := some (.inl (some (.int 0), h))
theorem rg_187_39 {X : am_X} {d : Nat} {N : Nat} {lv : am_LV} (h : am_H) (o : am_O) (hs : fg_187_39 N h = some o) : am_W X (d + 4) 187 39 lv [] h (fun q => q = o) := by
  unfold fg_187_39 at hs
  refine aw_iconst (v := 0) (pc1 := 40) at_187_39 (by decide) rfl ?_
  cases hs
  exact aw_iret at_187_40 (by rw [rt_187]; decide) rfl
def fg_187_33 (N : Nat) (rec_4 : Value → Int32 → Int32 → am_H → Option am_O) (x0 : Value) (x2 : Int32) (x3 : Int32) (h : am_H) : Option am_O := (rec_4 x0 x2 ((x3 + 1)) h)
theorem rg_187_33 {X : am_X} {d : Nat} {N : Nat} {rec_4 : Value → Int32 → Int32 → am_H → Option am_O} (q_4 : ∀ (x0 : Value) (x2 : Int32) (x3 : Int32) (h : am_H) (o : am_O), rec_4 x0 x2 x3 h = some o → ∀ lv : am_LV, (lv.lookup 0 = some x0) → (lv.lookup 2 = some (.int x2)) → (lv.lookup 3 = some (.int x3)) → (am_isR x0 = true) → am_W X (d + 4) 187 4 lv [] h (fun q => q = o)) {lv : am_LV} (x0 : Value) (x2 : Int32) (x3 : Int32) (h : am_H) (o : am_O) (l0 : lv.lookup 0 = some x0) (l2 : lv.lookup 2 = some (.int x2)) (l3 : lv.lookup 3 = some (.int x3)) (i0 : am_isR x0 = true) (hs : fg_187_33 N rec_4 x0 x2 x3 h = some o) : am_W X (d + 4) 187 33 lv [] h (fun q => q = o) := by
  unfold fg_187_33 at hs
  refine aw_iinc (v := (x3 + 1)) (c := 1) (lv1 := am_put1 _ 3 _) (pc1 := 36) at_187_33 l3 (by decide) rfl rfl rfl ?_
  refine aw_goto at_187_36 ?_
  exact q_4 x0 x2 ((x3 + 1)) h o hs _ (am_lk1 l0 rfl rfl) (am_lk1 l2 rfl rfl) am_lk0 i0
def fg_187_4 (N : Nat) : Nat → Value → Int32 → Int32 → am_H → Option am_O
  | 0 => fun _ _ _ _ => none
  | K + 1 => fun x0 x2 x3 h => ((am_vI (am_pG 9 x0 h)).bind fun v1 => (if v1 ≤ x3 then (fg_187_39 N h) else (if x2 < 0 then (fg_187_39 N h) else (if am_pOk 0 x0 h then am_cI true (fm_163 N x0 x3 h) (fun v6 h7 => (if v6 = 0 then (fg_187_33 N (fg_187_4 N K) x0 x2 x3 h7) else (if ¬ x2 = 0 then (fg_187_33 N (fg_187_4 N K) x0 ((x2 + (-1))) x3 h7) else some (.inl (some (.int 1), h7))))) else none))))
theorem rg_187_4 {X : am_X} {d : Nat} {N : Nat} : ∀ (K : Nat) (x0 : Value) (x2 : Int32) (x3 : Int32) (h : am_H) (o : am_O), fg_187_4 N K x0 x2 x3 h = some o → ∀ lv : am_LV, (lv.lookup 0 = some x0) → (lv.lookup 2 = some (.int x2)) → (lv.lookup 3 = some (.int x3)) → (am_isR x0 = true) → am_W X (d + 4) 187 4 lv [] h (fun q => q = o) := by
  intro K
  induction K with
  | zero => intro x0 x2 x3 h o hs; cases hs
  | succ K ih =>
    intro x0 x2 x3 h o hs lv l0 l2 l3 i0
    unfold fg_187_4 at hs
    refine aw_iload_n (pc1 := 5) at_187_4 l3 rfl ?_
    refine aw_vload_n (pc1 := 6) at_187_5 l0 i0 rfl ?_
    obtain ⟨v1, e2, hs1⟩ := am_bind hs
    clear hs
    refine aw_pG (pc1 := 9) at_187_6 (am_vI_s e2) rfl ?_
    by_cases c3 : v1 ≤ x3
    · rw [if_pos c3] at hs1
      refine aw_icge_t at_187_9 c3 ?_
      exact rg_187_39 h o   hs1
    · rw [if_neg c3] at hs1
      refine aw_icge_f (pc1 := 12) at_187_9 c3 rfl ?_
      refine aw_iload_n (pc1 := 13) at_187_12 l2 rfl ?_
      by_cases c4 : x2 < 0
      · rw [if_pos c4] at hs1
        refine aw_iflt_t at_187_13 c4 ?_
        exact rg_187_39 h o   hs1
      · rw [if_neg c4] at hs1
        refine aw_iflt_f (pc1 := 16) at_187_13 c4 rfl ?_
        refine aw_vload_n (pc1 := 17) at_187_16 l0 i0 rfl ?_
        refine aw_iload_n (pc1 := 18) at_187_17 l3 rfl ?_
        obtain ⟨z5, hs2⟩ := am_ift hs1
        clear hs1
        refine aw_call (F := fm_163 N x0 x3 h) (t := true) (na := 2) (kd := 1) (as := [x0, (.int x3)]) at_187_18 (am_k3v kb_163) mn_163 mk_163 rfl rfl (am_ok_v mi_163 (am_hl rfl (am_ccR i0 (am_ccI am_cats_0)) rfl) z5) (am_hc am_cats_0 rfl) (fun _ => ⟨rfl, hh_187⟩) (fun o1 hz9 => rm_163 x0 x3 h o1 i0 hz9) ?_
        rcases am_cI_s hs2 with ⟨v6, h7, f8, hs3⟩ | hs3
        · clear hs2
          refine Or.inl ⟨_, _, f8, ?_⟩
          show am_W X _ 187 21 _ [(.int v6)] h7 _
          by_cases c9 : v6 = 0
          · rw [if_pos c9] at hs3
            refine aw_ifeq_t at_187_21 c9 ?_
            exact rg_187_33 (fun z0 z1 z2 h o hs3 => ih z0 z1 z2 h o hs3) x0 x2 x3 h7 o l0 l2 l3 i0 hs3
          · rw [if_neg c9] at hs3
            refine aw_ifeq_f (pc1 := 24) at_187_21 c9 rfl ?_
            refine aw_iload_n (pc1 := 25) at_187_24 l2 rfl ?_
            by_cases c10 : ¬ x2 = 0
            · rw [if_pos c10] at hs3
              refine aw_ifne_t at_187_25 c10 ?_
              refine aw_iinc (v := (x2 + (-1))) (c := (-1)) (lv1 := am_put1 _ 2 _) (pc1 := 33) at_187_30 l2 (by decide) rfl rfl rfl ?_
              exact rg_187_33 (fun z0 z1 z2 h o hs3 => ih z0 z1 z2 h o hs3) x0 ((x2 + (-1))) x3 h7 o (am_lk1 l0 rfl rfl) am_lk0 (am_lk1 l3 rfl rfl) i0 hs3
            · rw [if_neg c10] at hs3
              refine aw_ifne_f (pc1 := 28) at_187_25 c10 rfl ?_
              refine aw_iconst (v := 1) (pc1 := 29) at_187_28 (by decide) rfl ?_
              cases hs3
              exact aw_iret at_187_29 (by rw [rt_187]; decide) rfl
        · clear hs2
          exact Or.inr hs3
def fg_187_0 (N : Nat) (x0 : Value) (x1 : Int32) (h : am_H) : Option am_O := (fg_187_4 N N x0 x1 0 h)
theorem rg_187_0 {X : am_X} {d : Nat} {N : Nat} {lv : am_LV} (x0 : Value) (x1 : Int32) (h : am_H) (o : am_O) (l0 : lv.lookup 0 = some x0) (l1 : lv.lookup 1 = some (.int x1)) (i0 : am_isR x0 = true) (hs : fg_187_0 N x0 x1 h = some o) : am_W X (d + 4) 187 0 lv [] h (fun q => q = o) := by
  unfold fg_187_0 at hs
  refine aw_iload_n (pc1 := 1) at_187_0 l1 rfl ?_
  refine aw_istore_n (lv1 := am_put1 _ 2 _) (pc1 := 2) at_187_1 rfl rfl ?_
  refine aw_iconst (v := 0) (pc1 := 3) at_187_2 (by decide) rfl ?_
  refine aw_istore_n (lv1 := am_put1 _ 3 _) (pc1 := 4) at_187_3 rfl rfl ?_
  exact rg_187_4 N x0 x1 0 h o hs _ (am_lk1 (am_lk1 l0 rfl rfl) rfl rfl) (am_lk1 am_lk0 rfl rfl) am_lk0 i0
def fm_187 (N : Nat) (y0 : Value) (y1 : Int32) (h : am_H) : Option am_O := fg_187_0 N y0 y1 h
theorem rm_187 {X : am_X} {d : Nat} {N : Nat} (y0 : Value) (y1 : Int32) (h : am_H) (o : am_O) (i0 : am_isR y0 = true) (hs : fm_187 N y0 y1 h = some o) : am_W X (d + 4) 187 0 (am_args 0 [y0, .int y1]) [] h (fun q => q = o) := by
  rw [am_args_R i0, am_args_I]
  exact rg_187_0 y0 y1 h o rfl rfl i0 hs
def fg_186_0 (N : Nat) (x0 : Value) (x1 : Int32) (x2 : Int32) (x3 : Int32) (h : am_H) : Option am_O := (if am_pOk 11 x0 h then am_cR true (fm_63 x0 x1 h) (fun v2 h3 => (if am_pOk 11 x0 h3 then am_cV true (fm_158 x0 x2 h3) (fun h7 => ((am_vR (am_pG 2823 x0 h7)).bind fun v9 => (if am_pOk 0 v9 h7 then am_cI true (fm_159 N v9 v2 Value.null x2 h7) (fun v12 h13 => ((am_vR (am_pG 2823 x0 h13)).bind fun v15 => (if am_pOk 0 v15 h13 then am_cI true (fm_187 N v15 x3 h13) (fun v18 h19 => (if ¬ v18 = 0 then (if am_pOk 11 x0 h19 then am_cV true (fm_32 x0 1 h19) (fun h24 => ((am_vR (am_pG 2823 x0 h24)).bind fun v26 => ((am_vR (am_pG 0 v26 h24)).bind fun v28 => (if am_pOk 11 x0 h24 then am_cI true (fm_59 x0 v28 3 x1 ((-1)) x2 x3 0 h24) (fun v31 h32 => some (.inl (some (.int v31), h32))) else none)))) else none) else some (.inr (2, h19 ++ [am_dummy])))) else none))) else none))) else none)) else none)
theorem rg_186_0 {X : am_X} {d : Nat} {N : Nat} {lv : am_LV} (x0 : Value) (x1 : Int32) (x2 : Int32) (x3 : Int32) (h : am_H) (o : am_O) (l0 : lv.lookup 0 = some x0) (l1 : lv.lookup 1 = some (.int x1)) (l2 : lv.lookup 2 = some (.int x2)) (l3 : lv.lookup 3 = some (.int x3)) (i0 : am_isR x0 = true) (hs : fg_186_0 N x0 x1 x2 x3 h = some o) : am_W X (d + 5) 186 0 lv [] h (fun q => q = o) := by
  unfold fg_186_0 at hs
  refine aw_vload_n (pc1 := 1) at_186_0 l0 i0 rfl ?_
  refine aw_iload_n (pc1 := 2) at_186_1 l1 rfl ?_
  obtain ⟨z1, hs1⟩ := am_ift hs
  clear hs
  refine aw_call (F := fm_63 x0 x1 h) (t := true) (na := 2) (kd := 1) (as := [x0, (.int x1)]) at_186_2 (am_k3v kb_63) mn_63 mk_63 rfl rfl (am_ok_v mi_63 (am_hl rfl (am_ccR i0 (am_ccI am_cats_0)) rfl) z1) (am_hc am_cats_0 rfl) (fun _ => ⟨rfl, hh_186⟩) (fun o1 hz9 => rm_63 x0 x1 h o1 i0 hz9) ?_
  rcases am_cR_s hs1 with ⟨v2, h3, f4, iv2, hs2⟩ | hs2
  · clear hs1
    refine Or.inl ⟨_, _, f4, ?_⟩
    show am_W X _ 186 5 _ [v2] h3 _
    refine aw_vstore (lv1 := am_put1 _ 4 _) (pc1 := 7) at_186_5 iv2 rfl rfl ?_
    refine aw_vload_n (pc1 := 8) at_186_7 (am_lk1 l0 rfl rfl) i0 rfl ?_
    refine aw_iload_n (pc1 := 9) at_186_8 (am_lk1 l2 rfl rfl) rfl ?_
    obtain ⟨z5, hs3⟩ := am_ift hs2
    clear hs2
    refine aw_call (F := fm_158 x0 x2 h3) (t := true) (na := 2) (kd := 1) (as := [x0, (.int x2)]) at_186_9 (am_k3v kb_158) mn_158 mk_158 rfl rfl (am_ok_v mi_158 (am_hl rfl (am_ccR i0 (am_ccI am_cats_0)) rfl) z5) (am_hc am_cats_0 rfl) (fun _ => ⟨rfl, hh_186⟩) (fun o1 hz9 => rm_158 x0 x2 h3 o1 i0 hz9) ?_
    rcases am_cV_s hs3 with ⟨h7, f8, hs4⟩ | hs4
    · clear hs3
      refine Or.inl ⟨_, _, f8, ?_⟩
      show am_W X _ 186 12 _ [] h7 _
      refine aw_vload_n (pc1 := 13) at_186_12 (am_lk1 l0 rfl rfl) i0 rfl ?_
      obtain ⟨v9, e10, hs5⟩ := am_bind hs4
      clear hs4
      refine aw_pG (pc1 := 16) at_186_13 (am_vR_s e10).1 rfl ?_
      refine aw_vload (pc1 := 18) at_186_16 am_lk0 iv2 rfl ?_
      refine aw_null (pc1 := 19) at_186_18 rfl ?_
      refine aw_iload_n (pc1 := 20) at_186_19 (am_lk1 l2 rfl rfl) rfl ?_
      obtain ⟨z11, hs6⟩ := am_ift hs5
      clear hs5
      refine aw_call (F := fm_159 N v9 v2 Value.null x2 h7) (t := true) (na := 4) (kd := 1) (as := [v9, v2, Value.null, (.int x2)]) at_186_20 (am_k3v kb_159) mn_159 mk_159 rfl rfl (am_ok_v mi_159 (am_hl rfl (am_ccR (am_vR_s e10).2 (am_ccR iv2 (am_ccR rfl (am_ccI am_cats_0)))) rfl) z11) (am_hc am_cats_0 rfl) (fun _ => ⟨rfl, hh_186⟩) (fun o1 hz9 => rm_159 v9 v2 Value.null x2 h7 o1 (am_vR_s e10).2 iv2 rfl hz9) ?_
      rcases am_cI_s hs6 with ⟨v12, h13, f14, hs7⟩ | hs7
      · clear hs6
        refine Or.inl ⟨_, _, f14, ?_⟩
        show am_W X _ 186 23 _ [(.int v12)] h13 _
        refine aw_popi (pc1 := 24) at_186_23 rfl ?_
        refine aw_vload_n (pc1 := 25) at_186_24 (am_lk1 l0 rfl rfl) i0 rfl ?_
        obtain ⟨v15, e16, hs8⟩ := am_bind hs7
        clear hs7
        refine aw_pG (pc1 := 28) at_186_25 (am_vR_s e16).1 rfl ?_
        refine aw_iload_n (pc1 := 29) at_186_28 (am_lk1 l3 rfl rfl) rfl ?_
        obtain ⟨z17, hs9⟩ := am_ift hs8
        clear hs8
        refine aw_call (F := fm_187 N v15 x3 h13) (t := true) (na := 2) (kd := 1) (as := [v15, (.int x3)]) at_186_29 (am_k3v kb_187) mn_187 mk_187 rfl rfl (am_ok_v mi_187 (am_hl rfl (am_ccR (am_vR_s e16).2 (am_ccI am_cats_0)) rfl) z17) (am_hc am_cats_0 rfl) (fun _ => ⟨rfl, hh_186⟩) (fun o1 hz9 => rm_187 v15 x3 h13 o1 (am_vR_s e16).2 hz9) ?_
        rcases am_cI_s hs9 with ⟨v18, h19, f20, hs10⟩ | hs10
        · clear hs9
          refine Or.inl ⟨_, _, f20, ?_⟩
          show am_W X _ 186 32 _ [(.int v18)] h19 _
          by_cases c21 : ¬ v18 = 0
          · rw [if_pos c21] at hs10
            refine aw_ifne_t at_186_32 c21 ?_
            refine aw_vload_n (pc1 := 47) at_186_46 (am_lk1 l0 rfl rfl) i0 rfl ?_
            refine aw_iconst (v := 1) (pc1 := 48) at_186_47 (by decide) rfl ?_
            obtain ⟨z22, hs11⟩ := am_ift hs10
            clear hs10
            refine aw_call (F := fm_32 x0 1 h19) (t := true) (na := 2) (kd := 1) (as := [x0, (.int 1)]) at_186_48 (am_k3v kb_32) mn_32 mk_32 rfl rfl (am_ok_v mi_32 (am_hl rfl (am_ccR i0 (am_ccI am_cats_0)) rfl) z22) (am_hc am_cats_0 rfl) (fun _ => ⟨rfl, hh_186⟩) (fun o1 hz9 => rm_32 x0 1 h19 o1 i0 hz9) ?_
            rcases am_cV_s hs11 with ⟨h24, f25, hs12⟩ | hs12
            · clear hs11
              refine Or.inl ⟨_, _, f25, ?_⟩
              show am_W X _ 186 51 _ [] h24 _
              refine aw_vload_n (pc1 := 52) at_186_51 (am_lk1 l0 rfl rfl) i0 rfl ?_
              refine aw_vload_n (pc1 := 53) at_186_52 (am_lk1 l0 rfl rfl) i0 rfl ?_
              obtain ⟨v26, e27, hs13⟩ := am_bind hs12
              clear hs12
              refine aw_pG (pc1 := 56) at_186_53 (am_vR_s e27).1 rfl ?_
              obtain ⟨v28, e29, hs14⟩ := am_bind hs13
              clear hs13
              refine aw_pG (pc1 := 59) at_186_56 (am_vR_s e29).1 rfl ?_
              refine aw_iconst (v := 3) (pc1 := 60) at_186_59 (by decide) rfl ?_
              refine aw_iload_n (pc1 := 61) at_186_60 (am_lk1 l1 rfl rfl) rfl ?_
              refine aw_iconst (v := (-1)) (pc1 := 62) at_186_61 (by decide) rfl ?_
              refine aw_iload_n (pc1 := 63) at_186_62 (am_lk1 l2 rfl rfl) rfl ?_
              refine aw_iload_n (pc1 := 64) at_186_63 (am_lk1 l3 rfl rfl) rfl ?_
              refine aw_lconst (v := 0) (pc1 := 65) at_186_64 (by decide) rfl ?_
              obtain ⟨z30, hs15⟩ := am_ift hs14
              clear hs14
              refine aw_call (F := fm_59 x0 v28 3 x1 ((-1)) x2 x3 0 h24) (t := true) (na := 8) (kd := 1) (as := [x0, v28, (.int 3), (.int x1), (.int (-1)), (.int x2), (.int x3), (.long 0)]) at_186_65 (am_k3v kb_59) mn_59 mk_59 rfl rfl (am_ok_v mi_59 (am_hl rfl (am_ccR i0 (am_ccR (am_vR_s e29).2 (am_ccI (am_ccI (am_ccI (am_ccI (am_ccI (am_ccL am_cats_0)))))))) rfl) z30) (am_hc am_cats_0 rfl) (fun _ => ⟨rfl, hh_186⟩) (fun o1 hz9 => rm_59 x0 v28 3 x1 ((-1)) x2 x3 0 h24 o1 i0 (am_vR_s e29).2 hz9) ?_
              rcases am_cI_s hs15 with ⟨v31, h32, f33, hs16⟩ | hs16
              · clear hs15
                refine Or.inl ⟨_, _, f33, ?_⟩
                show am_W X _ 186 68 _ [(.int v31)] h32 _
                cases hs16
                exact aw_iret at_186_68 (by rw [rt_186]; rfl) rfl
              · clear hs15
                exact Or.inr hs16
            · clear hs11
              exact Or.inr hs12
          · rw [if_neg c21] at hs10
            refine aw_ifne_f (pc1 := 35) at_186_32 c21 rfl ?_
            cases hs10
            exact aw_throw at_186_35 rfl th_186_35 (am_hc am_cats_0 rfl) rfl
        · clear hs9
          exact Or.inr hs10
      · clear hs6
        exact Or.inr hs7
    · clear hs3
      exact Or.inr hs4
  · clear hs1
    exact Or.inr hs2
def fm_186 (N : Nat) (y0 : Value) (y1 : Int32) (y2 : Int32) (y3 : Int32) (h : am_H) : Option am_O := fg_186_0 N y0 y1 y2 y3 h
theorem rm_186 {X : am_X} {d : Nat} {N : Nat} (y0 : Value) (y1 : Int32) (y2 : Int32) (y3 : Int32) (h : am_H) (o : am_O) (i0 : am_isR y0 = true) (hs : fm_186 N y0 y1 y2 y3 h = some o) : am_W X (d + 5) 186 0 (am_args 0 [y0, .int y1, .int y2, .int y3]) [] h (fun q => q = o) := by
  rw [am_args_R i0, am_args_I, am_args_I, am_args_I]
  exact rg_186_0 y0 y1 y2 y3 h o rfl rfl rfl rfl i0 hs
def fg_185_25 (N : Nat) (h : am_H) : Option am_O := some (.inl (some (.int 3), h))
theorem rg_185_25 {X : am_X} {d : Nat} {N : Nat} {lv : am_LV} (h : am_H) (o : am_O) (hs : fg_185_25 N h = some o) : am_W X (d + 6) 185 25 lv [] h (fun q => q = o) := by
  unfold fg_185_25 at hs
  refine aw_iconst (v := 3) (pc1 := 26) at_185_25 (by decide) rfl ?_
  cases hs
  exact aw_iret at_185_26 (by rw [rt_185]; rfl) rfl
def fg_185_21 (N : Nat) (h : am_H) : Option am_O := some (.inl (some (.int 2), h))
theorem rg_185_21 {X : am_X} {d : Nat} {N : Nat} {lv : am_LV} (h : am_H) (o : am_O) (hs : fg_185_21 N h = some o) : am_W X (d + 6) 185 21 lv [] h (fun q => q = o) := by
  unfold fg_185_21 at hs
  refine aw_iconst (v := 2) (pc1 := 22) at_185_21 (by decide) rfl ?_
  cases hs
  exact aw_iret at_185_22 (by rw [rt_185]; rfl) rfl
def fg_185_17 (N : Nat) (h : am_H) : Option am_O := some (.inl (some (.int 1), h))
theorem rg_185_17 {X : am_X} {d : Nat} {N : Nat} {lv : am_LV} (h : am_H) (o : am_O) (hs : fg_185_17 N h = some o) : am_W X (d + 6) 185 17 lv [] h (fun q => q = o) := by
  unfold fg_185_17 at hs
  refine aw_iconst (v := 1) (pc1 := 18) at_185_17 (by decide) rfl ?_
  cases hs
  exact aw_iret at_185_18 (by rw [rt_185]; rfl) rfl
def fg_185_0 (N : Nat) (x0 : Value) (x1 : Int32) (x2 : Int32) (x3 : Int32) (x4 : Value) (h : am_H) : Option am_O := (if am_pOk 11 x0 h then (match fm_186 N x0 x1 x2 x3 h with | some (.inl (some (.int v2), h3)) => ((am_pSL x4 0 (Int32.toInt64 v2) h3).bind fun h5 => some (.inl (some (.int 0), h5))) | some (.inr (0, h7)) => (fg_185_21 N h7) | some (.inr (1, h9)) => (fg_185_25 N h9) | some (.inr (2, h11)) => (fg_185_17 N h11) | _ => none) else none)
theorem rg_185_0 {X : am_X} {d : Nat} {N : Nat} {lv : am_LV} (x0 : Value) (x1 : Int32) (x2 : Int32) (x3 : Int32) (x4 : Value) (h : am_H) (o : am_O) (l0 : lv.lookup 0 = some x0) (l1 : lv.lookup 1 = some (.int x1)) (l2 : lv.lookup 2 = some (.int x2)) (l3 : lv.lookup 3 = some (.int x3)) (l4 : lv.lookup 4 = some x4) (i0 : am_isR x0 = true) (i4 : am_isR x4 = true) (hs : fg_185_0 N x0 x1 x2 x3 x4 h = some o) : am_W X (d + 6) 185 0 lv [] h (fun q => q = o) := by
  unfold fg_185_0 at hs
  refine aw_vload (pc1 := 2) at_185_0 l4 i4 rfl ?_
  refine aw_iconst (v := 0) (pc1 := 3) at_185_2 (by decide) rfl ?_
  refine aw_vload_n (pc1 := 4) at_185_3 l0 i0 rfl ?_
  refine aw_iload_n (pc1 := 5) at_185_4 l1 rfl ?_
  refine aw_iload_n (pc1 := 6) at_185_5 l2 rfl ?_
  refine aw_iload_n (pc1 := 7) at_185_6 l3 rfl ?_
  obtain ⟨z1, hs1⟩ := am_ift hs
  clear hs
  refine aw_callH (F := fm_186 N x0 x1 x2 x3 h) (na := 4) (kd := 1) (as := [x0, (.int x1), (.int x2), (.int x3)]) at_185_7 (am_k3v kb_186) mn_186 mk_186 rfl rfl (am_ok_v mi_186 (am_hl rfl (am_ccR i0 (am_ccI (am_ccI (am_ccI am_cats_0)))) rfl) z1) (am_hc (am_ccI (am_ccR i4 am_cats_0)) rfl) (fun o1 hz9 => rm_186 x0 x1 x2 x3 h o1 i0 hz9) ?_
  split at hs1
  · rename_i v2 h3 f4
    refine Or.inl ⟨_, _, f4, ?_⟩
    show am_W X _ 185 10 _ [(.int v2), (.int 0), x4] h3 _
    refine aw_i2l (v := (Int32.toInt64 v2)) (pc1 := 11) at_185_10 rfl rfl ?_
    obtain ⟨h5, e6, hs2⟩ := am_bind hs1
    clear hs1
    refine aw_pSL (pc1 := 12) at_185_11 e6 rfl ?_
    refine aw_goto at_185_12 ?_
    refine aw_iconst (v := 0) (pc1 := 28) at_185_27 (by decide) rfl ?_
    cases hs2
    exact aw_iret at_185_28 (by rw [rt_185]; rfl) rfl
  · rename_i h7 f8
    refine Or.inr ⟨_, _, 21, 5, f8, rfl, hn_185, hd_185_7_0, ?_⟩
    exact rg_185_21 h7 o   hs1
  · rename_i h9 f10
    refine Or.inr ⟨_, _, 25, 5, f10, rfl, hn_185, hd_185_7_1, ?_⟩
    exact rg_185_25 h9 o   hs1
  · rename_i h11 f12
    refine Or.inr ⟨_, _, 17, 5, f12, rfl, hn_185, hd_185_7_2, ?_⟩
    exact rg_185_17 h11 o   hs1
  · cases hs1
def fm_185 (N : Nat) (y0 : Value) (y1 : Int32) (y2 : Int32) (y3 : Int32) (y4 : Value) (h : am_H) : Option am_O := fg_185_0 N y0 y1 y2 y3 y4 h
theorem rm_185 {X : am_X} {d : Nat} {N : Nat} (y0 : Value) (y1 : Int32) (y2 : Int32) (y3 : Int32) (y4 : Value) (h : am_H) (o : am_O) (i0 : am_isR y0 = true) (i4 : am_isR y4 = true) (hs : fm_185 N y0 y1 y2 y3 y4 h = some o) : am_W X (d + 6) 185 0 (am_args 0 [y0, .int y1, .int y2, .int y3, y4]) [] h (fun q => q = o) := by
  rw [am_args_R i0, am_args_I, am_args_I, am_args_I, am_args_R i4]
  exact rg_185_0 y0 y1 y2 y3 y4 h o rfl rfl rfl rfl rfl i0 i4 hs
def fg_469_148 (N : Nat) (s0 : Int32) (h : am_H) : Option am_O := some (.inl (some (.int s0), h))
theorem rg_469_148 {X : am_X} {d : Nat} {N : Nat} {lv : am_LV} (s0 : Int32) (h : am_H) (o : am_O) (hs : fg_469_148 N s0 h = some o) : am_W X (d + 7) 469 148 lv [(.int s0)] h (fun q => q = o) := by
  unfold fg_469_148 at hs
  cases hs
  exact aw_iret at_469_148 (by rw [rt_469]; rfl) rfl
def fg_469_124 (N : Nat) (x0 : Value) (x1 : Int32) (x2 : Int32) (x3 : Int32) (s0 : Value) (s1 : Int32) (h : am_H) : Option am_O := ((am_pP 3072 s0 (.int s1) h).bind fun h1 => ((am_vI (am_pG 3072 x0 h1)).bind fun v3 => (if v3 ≤ 0 then (if am_pOk 12 x0 h1 then am_cI true (fm_356 N x0 3 x1 ((-1)) x2 x3 0 h1) (fun v7 h8 => (fg_469_148 N v7 h8)) else none) else (fg_469_148 N 0 h1))))
theorem rg_469_124 {X : am_X} {d : Nat} {N : Nat} {lv : am_LV} (x0 : Value) (x1 : Int32) (x2 : Int32) (x3 : Int32) (s0 : Value) (s1 : Int32) (h : am_H) (o : am_O) (l0 : lv.lookup 0 = some x0) (l1 : lv.lookup 1 = some (.int x1)) (l2 : lv.lookup 2 = some (.int x2)) (l3 : lv.lookup 3 = some (.int x3)) (i0 : am_isR x0 = true) (j0 : am_isR s0 = true) (hs : fg_469_124 N x0 x1 x2 x3 s0 s1 h = some o) : am_W X (d + 7) 469 124 lv [(.int s1), s0] h (fun q => q = o) := by
  unfold fg_469_124 at hs
  obtain ⟨h1, e2, hs1⟩ := am_bind hs
  clear hs
  refine aw_pP (pc1 := 127) at_469_124 e2 rfl ?_
  refine aw_vload_n (pc1 := 128) at_469_127 l0 i0 rfl ?_
  obtain ⟨v3, e4, hs2⟩ := am_bind hs1
  clear hs1
  refine aw_pG (pc1 := 131) at_469_128 (am_vI_s e4) rfl ?_
  by_cases c5 : v3 ≤ 0
  · rw [if_pos c5] at hs2
    refine aw_ifle_t at_469_131 c5 ?_
    refine aw_vload_n (pc1 := 139) at_469_138 l0 i0 rfl ?_
    refine aw_iconst (v := 3) (pc1 := 140) at_469_139 (by decide) rfl ?_
    refine aw_iload_n (pc1 := 141) at_469_140 l1 rfl ?_
    refine aw_iconst (v := (-1)) (pc1 := 142) at_469_141 (by decide) rfl ?_
    refine aw_iload_n (pc1 := 143) at_469_142 l2 rfl ?_
    refine aw_iload_n (pc1 := 144) at_469_143 l3 rfl ?_
    refine aw_lconst (v := 0) (pc1 := 145) at_469_144 (by decide) rfl ?_
    obtain ⟨z6, hs3⟩ := am_ift hs2
    clear hs2
    refine aw_call (F := fm_356 N x0 3 x1 ((-1)) x2 x3 0 h1) (t := true) (na := 7) (kd := 1) (as := [x0, (.int 3), (.int x1), (.int (-1)), (.int x2), (.int x3), (.long 0)]) at_469_145 (am_k3v kb_356) mn_356 mk_356 rfl rfl (am_ok_v mi_356 (am_hl rfl (am_ccR i0 (am_ccI (am_ccI (am_ccI (am_ccI (am_ccI (am_ccL am_cats_0))))))) rfl) z6) (am_hc am_cats_0 rfl) (fun _ => ⟨rfl, hh_469⟩) (fun o1 hz9 => rm_356 x0 3 x1 ((-1)) x2 x3 0 h1 o1 i0 hz9) ?_
    rcases am_cI_s hs3 with ⟨v7, h8, f9, hs4⟩ | hs4
    · clear hs3
      refine Or.inl ⟨_, _, f9, ?_⟩
      show am_W X _ 469 148 _ [(.int v7)] h8 _
      exact rg_469_148 v7 h8 o   hs4
    · clear hs3
      exact Or.inr hs4
  · rw [if_neg c5] at hs2
    refine aw_ifle_f (pc1 := 134) at_469_131 c5 rfl ?_
    refine aw_iconst (v := 0) (pc1 := 135) at_469_134 (by decide) rfl ?_
    refine aw_goto at_469_135 ?_
    exact rg_469_148 0 h1 o   hs2
def fg_469_100 (N : Nat) (x0 : Value) (x1 : Int32) (x2 : Int32) (x3 : Int32) (x4 : Int32) (s0 : Value) (h : am_H) : Option am_O := (if ¬ x4 = 0 then ((am_vI (am_pG 3073 x0 h)).bind fun v2 => (if ¬ v2 = 600 then (fg_469_124 N x0 x1 x2 x3 s0 0 h) else (fg_469_124 N x0 x1 x2 x3 s0 3 h))) else (fg_469_124 N x0 x1 x2 x3 s0 2 h))
theorem rg_469_100 {X : am_X} {d : Nat} {N : Nat} {lv : am_LV} (x0 : Value) (x1 : Int32) (x2 : Int32) (x3 : Int32) (x4 : Int32) (s0 : Value) (h : am_H) (o : am_O) (l0 : lv.lookup 0 = some x0) (l1 : lv.lookup 1 = some (.int x1)) (l2 : lv.lookup 2 = some (.int x2)) (l3 : lv.lookup 3 = some (.int x3)) (l4 : lv.lookup 4 = some (.int x4)) (i0 : am_isR x0 = true) (j0 : am_isR s0 = true) (hs : fg_469_100 N x0 x1 x2 x3 x4 s0 h = some o) : am_W X (d + 7) 469 100 lv [s0] h (fun q => q = o) := by
  unfold fg_469_100 at hs
  refine aw_iload (pc1 := 102) at_469_100 l4 rfl ?_
  by_cases c1 : ¬ x4 = 0
  · rw [if_pos c1] at hs
    refine aw_ifne_t at_469_102 c1 ?_
    refine aw_vload_n (pc1 := 110) at_469_109 l0 i0 rfl ?_
    obtain ⟨v2, e3, hs1⟩ := am_bind hs
    clear hs
    refine aw_pG (pc1 := 113) at_469_110 (am_vI_s e3) rfl ?_
    refine aw_sipush (v := 600) (pc1 := 116) at_469_113 (by decide) rfl ?_
    by_cases c4 : ¬ v2 = 600
    · rw [if_pos c4] at hs1
      refine aw_icne_t at_469_116 c4 ?_
      refine aw_iconst (v := 0) (pc1 := 124) at_469_123 (by decide) rfl ?_
      exact rg_469_124 x0 x1 x2 x3 s0 0 h o l0 l1 l2 l3 i0 j0 hs1
    · rw [if_neg c4] at hs1
      refine aw_icne_f (pc1 := 119) at_469_116 c4 rfl ?_
      refine aw_iconst (v := 3) (pc1 := 120) at_469_119 (by decide) rfl ?_
      refine aw_goto at_469_120 ?_
      exact rg_469_124 x0 x1 x2 x3 s0 3 h o l0 l1 l2 l3 i0 j0 hs1
  · rw [if_neg c1] at hs
    refine aw_ifne_f (pc1 := 105) at_469_102 c1 rfl ?_
    refine aw_iconst (v := 2) (pc1 := 106) at_469_105 (by decide) rfl ?_
    refine aw_goto at_469_106 ?_
    exact rg_469_124 x0 x1 x2 x3 s0 2 h o l0 l1 l2 l3 i0 j0 hs
def fg_469_80 (N : Nat) (x0 : Value) (x1 : Int32) (x2 : Int32) (x3 : Int32) (x4 : Int32) (s0 : Value) (s1 : Int32) (h : am_H) : Option am_O := ((am_pP 3167 s0 (.int s1) h).bind fun h1 => (if x4 = 0 then (fg_469_100 N x0 x1 x2 x3 x4 x0 h1) else ((am_vI (am_pG 3167 x0 h1)).bind fun v4 => (if ¬ v4 = 0 then (fg_469_100 N x0 x1 x2 x3 x4 x0 h1) else (fg_469_124 N x0 x1 x2 x3 x0 1 h1)))))
theorem rg_469_80 {X : am_X} {d : Nat} {N : Nat} {lv : am_LV} (x0 : Value) (x1 : Int32) (x2 : Int32) (x3 : Int32) (x4 : Int32) (s0 : Value) (s1 : Int32) (h : am_H) (o : am_O) (l0 : lv.lookup 0 = some x0) (l1 : lv.lookup 1 = some (.int x1)) (l2 : lv.lookup 2 = some (.int x2)) (l3 : lv.lookup 3 = some (.int x3)) (l4 : lv.lookup 4 = some (.int x4)) (i0 : am_isR x0 = true) (j0 : am_isR s0 = true) (hs : fg_469_80 N x0 x1 x2 x3 x4 s0 s1 h = some o) : am_W X (d + 7) 469 80 lv [(.int s1), s0] h (fun q => q = o) := by
  unfold fg_469_80 at hs
  obtain ⟨h1, e2, hs1⟩ := am_bind hs
  clear hs
  refine aw_pP (pc1 := 83) at_469_80 e2 rfl ?_
  refine aw_vload_n (pc1 := 84) at_469_83 l0 i0 rfl ?_
  refine aw_iload (pc1 := 86) at_469_84 l4 rfl ?_
  by_cases c3 : x4 = 0
  · rw [if_pos c3] at hs1
    refine aw_ifeq_t at_469_86 c3 ?_
    exact rg_469_100 x0 x1 x2 x3 x4 x0 h1 o l0 l1 l2 l3 l4 i0 i0 hs1
  · rw [if_neg c3] at hs1
    refine aw_ifeq_f (pc1 := 89) at_469_86 c3 rfl ?_
    refine aw_vload_n (pc1 := 90) at_469_89 l0 i0 rfl ?_
    obtain ⟨v4, e5, hs2⟩ := am_bind hs1
    clear hs1
    refine aw_pG (pc1 := 93) at_469_90 (am_vI_s e5) rfl ?_
    by_cases c6 : ¬ v4 = 0
    · rw [if_pos c6] at hs2
      refine aw_ifne_t at_469_93 c6 ?_
      exact rg_469_100 x0 x1 x2 x3 x4 x0 h1 o l0 l1 l2 l3 l4 i0 i0 hs2
    · rw [if_neg c6] at hs2
      refine aw_ifne_f (pc1 := 96) at_469_93 c6 rfl ?_
      refine aw_iconst (v := 1) (pc1 := 97) at_469_96 (by decide) rfl ?_
      refine aw_goto at_469_97 ?_
      exact rg_469_124 x0 x1 x2 x3 x0 1 h1 o l0 l1 l2 l3 i0 i0 hs2
def fg_469_79 (N : Nat) (x0 : Value) (x1 : Int32) (x2 : Int32) (x3 : Int32) (x4 : Int32) (s0 : Value) (h : am_H) : Option am_O := (fg_469_80 N x0 x1 x2 x3 x4 s0 0 h)
theorem rg_469_79 {X : am_X} {d : Nat} {N : Nat} {lv : am_LV} (x0 : Value) (x1 : Int32) (x2 : Int32) (x3 : Int32) (x4 : Int32) (s0 : Value) (h : am_H) (o : am_O) (l0 : lv.lookup 0 = some x0) (l1 : lv.lookup 1 = some (.int x1)) (l2 : lv.lookup 2 = some (.int x2)) (l3 : lv.lookup 3 = some (.int x3)) (l4 : lv.lookup 4 = some (.int x4)) (i0 : am_isR x0 = true) (j0 : am_isR s0 = true) (hs : fg_469_79 N x0 x1 x2 x3 x4 s0 h = some o) : am_W X (d + 7) 469 79 lv [s0] h (fun q => q = o) := by
  unfold fg_469_79 at hs
  refine aw_iconst (v := 0) (pc1 := 80) at_469_79 (by decide) rfl ?_
  exact rg_469_80 x0 x1 x2 x3 x4 s0 0 h o l0 l1 l2 l3 l4 i0 j0 hs
def fg_469_58 (N : Nat) (x0 : Value) (x1 : Int32) (x2 : Int32) (x3 : Int32) (x4 : Int32) (h : am_H) : Option am_O := (if x4 = 0 then (fg_469_79 N x0 x1 x2 x3 x4 x0 h) else (if x3 < 0 then (fg_469_79 N x0 x1 x2 x3 x4 x0 h) else ((am_vI (am_pG 3167 x0 h)).bind fun v3 => (if v3 = 0 then (fg_469_79 N x0 x1 x2 x3 x4 x0 h) else (fg_469_80 N x0 x1 x2 x3 x4 x0 1 h)))))
theorem rg_469_58 {X : am_X} {d : Nat} {N : Nat} {lv : am_LV} (x0 : Value) (x1 : Int32) (x2 : Int32) (x3 : Int32) (x4 : Int32) (h : am_H) (o : am_O) (l0 : lv.lookup 0 = some x0) (l1 : lv.lookup 1 = some (.int x1)) (l2 : lv.lookup 2 = some (.int x2)) (l3 : lv.lookup 3 = some (.int x3)) (l4 : lv.lookup 4 = some (.int x4)) (i0 : am_isR x0 = true) (hs : fg_469_58 N x0 x1 x2 x3 x4 h = some o) : am_W X (d + 7) 469 58 lv [] h (fun q => q = o) := by
  unfold fg_469_58 at hs
  refine aw_vload_n (pc1 := 59) at_469_58 l0 i0 rfl ?_
  refine aw_iload (pc1 := 61) at_469_59 l4 rfl ?_
  by_cases c1 : x4 = 0
  · rw [if_pos c1] at hs
    refine aw_ifeq_t at_469_61 c1 ?_
    exact rg_469_79 x0 x1 x2 x3 x4 x0 h o l0 l1 l2 l3 l4 i0 i0 hs
  · rw [if_neg c1] at hs
    refine aw_ifeq_f (pc1 := 64) at_469_61 c1 rfl ?_
    refine aw_iload_n (pc1 := 65) at_469_64 l3 rfl ?_
    by_cases c2 : x3 < 0
    · rw [if_pos c2] at hs
      refine aw_iflt_t at_469_65 c2 ?_
      exact rg_469_79 x0 x1 x2 x3 x4 x0 h o l0 l1 l2 l3 l4 i0 i0 hs
    · rw [if_neg c2] at hs
      refine aw_iflt_f (pc1 := 68) at_469_65 c2 rfl ?_
      refine aw_vload_n (pc1 := 69) at_469_68 l0 i0 rfl ?_
      obtain ⟨v3, e4, hs1⟩ := am_bind hs
      clear hs
      refine aw_pG (pc1 := 72) at_469_69 (am_vI_s e4) rfl ?_
      by_cases c5 : v3 = 0
      · rw [if_pos c5] at hs1
        refine aw_ifeq_t at_469_72 c5 ?_
        exact rg_469_79 x0 x1 x2 x3 x4 x0 h o l0 l1 l2 l3 l4 i0 i0 hs1
      · rw [if_neg c5] at hs1
        refine aw_ifeq_f (pc1 := 75) at_469_72 c5 rfl ?_
        refine aw_iconst (v := 1) (pc1 := 76) at_469_75 (by decide) rfl ?_
        refine aw_goto at_469_76 ?_
        exact rg_469_80 x0 x1 x2 x3 x4 x0 1 h o l0 l1 l2 l3 l4 i0 i0 hs1
def fg_469_14 (N : Nat) (x0 : Value) (x1 : Int32) (x2 : Int32) (x3 : Int32) (s0 : Value) (s1 : Int32) (h : am_H) : Option am_O := ((am_pP 3072 s0 (.int s1) h).bind fun h1 => ((am_vI (am_pG 3072 x0 h1)).bind fun v3 => (if v3 ≤ 0 then am_cI false (fm_327 ((Int32.toInt64 x2)) 0 3 h1) (fun v6 h7 => (if am_pOk 12 x0 h7 then am_cV true (fm_391 N x0 x1 h7) (fun h11 => (if v6 = 0 then (fg_469_58 N x0 x1 x2 x3 v6 h11) else (if x3 < 0 then (fg_469_58 N x0 x1 x2 x3 v6 h11) else (if am_pOk 12 x0 h11 then am_cI true (fm_439 N x0 x2 x3 h11) (fun v16 h17 => (fg_469_58 N x0 x1 x2 x3 v6 h17)) else none)))) else none)) else some (.inl (some (.int 0), h1)))))
theorem rg_469_14 {X : am_X} {d : Nat} {N : Nat} {lv : am_LV} (x0 : Value) (x1 : Int32) (x2 : Int32) (x3 : Int32) (s0 : Value) (s1 : Int32) (h : am_H) (o : am_O) (l0 : lv.lookup 0 = some x0) (l1 : lv.lookup 1 = some (.int x1)) (l2 : lv.lookup 2 = some (.int x2)) (l3 : lv.lookup 3 = some (.int x3)) (i0 : am_isR x0 = true) (j0 : am_isR s0 = true) (hs : fg_469_14 N x0 x1 x2 x3 s0 s1 h = some o) : am_W X (d + 7) 469 14 lv [(.int s1), s0] h (fun q => q = o) := by
  unfold fg_469_14 at hs
  obtain ⟨h1, e2, hs1⟩ := am_bind hs
  clear hs
  refine aw_pP (pc1 := 17) at_469_14 e2 rfl ?_
  refine aw_vload_n (pc1 := 18) at_469_17 l0 i0 rfl ?_
  obtain ⟨v3, e4, hs2⟩ := am_bind hs1
  clear hs1
  refine aw_pG (pc1 := 21) at_469_18 (am_vI_s e4) rfl ?_
  by_cases c5 : v3 ≤ 0
  · rw [if_pos c5] at hs2
    refine aw_ifle_t at_469_21 c5 ?_
    refine aw_iload_n (pc1 := 27) at_469_26 l2 rfl ?_
    refine aw_i2l (v := (Int32.toInt64 x2)) (pc1 := 28) at_469_27 rfl rfl ?_
    refine aw_lconst (v := 0) (pc1 := 29) at_469_28 (by decide) rfl ?_
    refine aw_ldc2 (v := 3) (pc1 := 32) at_469_29 rfl rfl ?_
    refine aw_call (F := fm_327 ((Int32.toInt64 x2)) 0 3 h1) (t := false) (na := 3) (kd := 0) (as := [(.long (Int32.toInt64 x2)), (.long 0), (.long 3)]) at_469_32 (am_k3s kb_327) mn_327 mk_327 rfl rfl (am_ok_s mi_327 (am_hl rfl (am_ccL (am_ccL (am_ccL am_cats_0))) rfl)) (am_hc am_cats_0 rfl) (fun hz9 => by cases hz9) (fun o1 hz9 => rm_327 ((Int32.toInt64 x2)) 0 3 h1 o1  hz9) ?_
    rcases am_cI_s hs2 with ⟨v6, h7, f8, hs3⟩ | hs3
    · clear hs2
      refine Or.inl ⟨_, _, f8, ?_⟩
      show am_W X _ 469 35 _ [(.int v6)] h7 _
      refine aw_istore (lv1 := am_put1 _ 4 _) (pc1 := 37) at_469_35 rfl rfl ?_
      refine aw_vload_n (pc1 := 38) at_469_37 (am_lk1 l0 rfl rfl) i0 rfl ?_
      refine aw_iload_n (pc1 := 39) at_469_38 (am_lk1 l1 rfl rfl) rfl ?_
      obtain ⟨z9, hs4⟩ := am_ift hs3
      clear hs3
      refine aw_call (F := fm_391 N x0 x1 h7) (t := true) (na := 2) (kd := 1) (as := [x0, (.int x1)]) at_469_39 (am_k3v kb_391) mn_391 mk_391 rfl rfl (am_ok_v mi_391 (am_hl rfl (am_ccR i0 (am_ccI am_cats_0)) rfl) z9) (am_hc am_cats_0 rfl) (fun _ => ⟨rfl, hh_469⟩) (fun o1 hz9 => rm_391 x0 x1 h7 o1 i0 hz9) ?_
      rcases am_cV_s hs4 with ⟨h11, f12, hs5⟩ | hs5
      · clear hs4
        refine Or.inl ⟨_, _, f12, ?_⟩
        show am_W X _ 469 42 _ [] h11 _
        refine aw_iload (pc1 := 44) at_469_42 am_lk0 rfl ?_
        by_cases c13 : v6 = 0
        · rw [if_pos c13] at hs5
          refine aw_ifeq_t at_469_44 c13 ?_
          exact rg_469_58 x0 x1 x2 x3 v6 h11 o (am_lk1 l0 rfl rfl) (am_lk1 l1 rfl rfl) (am_lk1 l2 rfl rfl) (am_lk1 l3 rfl rfl) am_lk0 i0 hs5
        · rw [if_neg c13] at hs5
          refine aw_ifeq_f (pc1 := 47) at_469_44 c13 rfl ?_
          refine aw_iload_n (pc1 := 48) at_469_47 (am_lk1 l3 rfl rfl) rfl ?_
          by_cases c14 : x3 < 0
          · rw [if_pos c14] at hs5
            refine aw_iflt_t at_469_48 c14 ?_
            exact rg_469_58 x0 x1 x2 x3 v6 h11 o (am_lk1 l0 rfl rfl) (am_lk1 l1 rfl rfl) (am_lk1 l2 rfl rfl) (am_lk1 l3 rfl rfl) am_lk0 i0 hs5
          · rw [if_neg c14] at hs5
            refine aw_iflt_f (pc1 := 51) at_469_48 c14 rfl ?_
            refine aw_vload_n (pc1 := 52) at_469_51 (am_lk1 l0 rfl rfl) i0 rfl ?_
            refine aw_iload_n (pc1 := 53) at_469_52 (am_lk1 l2 rfl rfl) rfl ?_
            refine aw_iload_n (pc1 := 54) at_469_53 (am_lk1 l3 rfl rfl) rfl ?_
            obtain ⟨z15, hs6⟩ := am_ift hs5
            clear hs5
            refine aw_call (F := fm_439 N x0 x2 x3 h11) (t := true) (na := 3) (kd := 1) (as := [x0, (.int x2), (.int x3)]) at_469_54 (am_k3v kb_439) mn_439 mk_439 rfl rfl (am_ok_v mi_439 (am_hl rfl (am_ccR i0 (am_ccI (am_ccI am_cats_0))) rfl) z15) (am_hc am_cats_0 rfl) (fun _ => ⟨rfl, hh_469⟩) (fun o1 hz9 => rm_439 x0 x2 x3 h11 o1 i0 hz9) ?_
            rcases am_cI_s hs6 with ⟨v16, h17, f18, hs7⟩ | hs7
            · clear hs6
              refine Or.inl ⟨_, _, f18, ?_⟩
              show am_W X _ 469 57 _ [(.int v16)] h17 _
              refine aw_popi (pc1 := 58) at_469_57 rfl ?_
              exact rg_469_58 x0 x1 x2 x3 v6 h17 o (am_lk1 l0 rfl rfl) (am_lk1 l1 rfl rfl) (am_lk1 l2 rfl rfl) (am_lk1 l3 rfl rfl) am_lk0 i0 hs7
            · clear hs6
              exact Or.inr hs7
      · clear hs4
        exact Or.inr hs5
    · clear hs2
      exact Or.inr hs3
  · rw [if_neg c5] at hs2
    refine aw_ifle_f (pc1 := 24) at_469_21 c5 rfl ?_
    refine aw_iconst (v := 0) (pc1 := 25) at_469_24 (by decide) rfl ?_
    cases hs2
    exact aw_iret at_469_25 (by rw [rt_469]; rfl) rfl
def fg_469_0 (N : Nat) (x0 : Value) (x1 : Int32) (x2 : Int32) (x3 : Int32) (h : am_H) : Option am_O := (if am_pOk 12 x0 h then am_cI true (fm_358 x0 x1 h) (fun v2 h3 => (if ¬ v2 = 0 then (fg_469_14 N x0 x1 x2 x3 x0 0 h3) else (fg_469_14 N x0 x1 x2 x3 x0 1 h3))) else none)
theorem rg_469_0 {X : am_X} {d : Nat} {N : Nat} {lv : am_LV} (x0 : Value) (x1 : Int32) (x2 : Int32) (x3 : Int32) (h : am_H) (o : am_O) (l0 : lv.lookup 0 = some x0) (l1 : lv.lookup 1 = some (.int x1)) (l2 : lv.lookup 2 = some (.int x2)) (l3 : lv.lookup 3 = some (.int x3)) (i0 : am_isR x0 = true) (hs : fg_469_0 N x0 x1 x2 x3 h = some o) : am_W X (d + 7) 469 0 lv [] h (fun q => q = o) := by
  unfold fg_469_0 at hs
  refine aw_vload_n (pc1 := 1) at_469_0 l0 i0 rfl ?_
  refine aw_vload_n (pc1 := 2) at_469_1 l0 i0 rfl ?_
  refine aw_iload_n (pc1 := 3) at_469_2 l1 rfl ?_
  obtain ⟨z1, hs1⟩ := am_ift hs
  clear hs
  refine aw_call (F := fm_358 x0 x1 h) (t := true) (na := 2) (kd := 1) (as := [x0, (.int x1)]) at_469_3 (am_k3v kb_358) mn_358 mk_358 rfl rfl (am_ok_v mi_358 (am_hl rfl (am_ccR i0 (am_ccI am_cats_0)) rfl) z1) (am_hc (am_ccR i0 am_cats_0) rfl) (fun _ => ⟨rfl, hh_469⟩) (fun o1 hz9 => rm_358 x0 x1 h o1 i0 hz9) ?_
  rcases am_cI_s hs1 with ⟨v2, h3, f4, hs2⟩ | hs2
  · clear hs1
    refine Or.inl ⟨_, _, f4, ?_⟩
    show am_W X _ 469 6 _ [(.int v2), x0] h3 _
    by_cases c5 : ¬ v2 = 0
    · rw [if_pos c5] at hs2
      refine aw_ifne_t at_469_6 c5 ?_
      refine aw_iconst (v := 0) (pc1 := 14) at_469_13 (by decide) rfl ?_
      exact rg_469_14 x0 x1 x2 x3 x0 0 h3 o l0 l1 l2 l3 i0 i0 hs2
    · rw [if_neg c5] at hs2
      refine aw_ifne_f (pc1 := 9) at_469_6 c5 rfl ?_
      refine aw_iconst (v := 1) (pc1 := 10) at_469_9 (by decide) rfl ?_
      refine aw_goto at_469_10 ?_
      exact rg_469_14 x0 x1 x2 x3 x0 1 h3 o l0 l1 l2 l3 i0 i0 hs2
  · clear hs1
    exact Or.inr hs2
def fm_469 (N : Nat) (y0 : Value) (y1 : Int32) (y2 : Int32) (y3 : Int32) (h : am_H) : Option am_O := fg_469_0 N y0 y1 y2 y3 h
theorem rm_469 {X : am_X} {d : Nat} {N : Nat} (y0 : Value) (y1 : Int32) (y2 : Int32) (y3 : Int32) (h : am_H) (o : am_O) (i0 : am_isR y0 = true) (hs : fm_469 N y0 y1 y2 y3 h = some o) : am_W X (d + 7) 469 0 (am_args 0 [y0, .int y1, .int y2, .int y3]) [] h (fun q => q = o) := by
  rw [am_args_R i0, am_args_I, am_args_I, am_args_I]
  exact rg_469_0 y0 y1 y2 y3 h o rfl rfl rfl rfl i0 hs
def fg_193_0 (x0 : Value) (h : am_H) : Option am_O := ((am_vL (am_pG 2048 x0 h)).bind fun v1 => ((am_pP 2048 x0 (.long ((v1 * 6364136223846793005) + 1442695040888963407)) h).bind fun h3 => ((am_vL (am_pG 2048 x0 h3)).bind fun v5 => some (.inl (some (.long ((Int64.toUInt64 v5 >>> (Int64.toUInt64 (Int32.toInt64 33) &&& Int64.toUInt64 63)).toInt64)), h3)))))
theorem rg_193_0 {X : am_X} {d : Nat} {lv : am_LV} (x0 : Value) (h : am_H) (o : am_O) (l0 : lv.lookup 0 = some x0) (i0 : am_isR x0 = true) (hs : fg_193_0 x0 h = some o) : am_W X (d) 193 0 lv [] h (fun q => q = o) := by
  unfold fg_193_0 at hs
  refine aw_vload_n (pc1 := 1) at_193_0 l0 i0 rfl ?_
  refine aw_vload_n (pc1 := 2) at_193_1 l0 i0 rfl ?_
  obtain ⟨v1, e2, hs1⟩ := am_bind hs
  clear hs
  refine aw_pG (pc1 := 5) at_193_2 (am_vL_s e2) rfl ?_
  refine aw_ldc2 (v := 6364136223846793005) (pc1 := 8) at_193_5 rfl rfl ?_
  refine aw_lmul (v := (v1 * 6364136223846793005)) (pc1 := 9) at_193_8 rfl rfl ?_
  refine aw_ldc2 (v := 1442695040888963407) (pc1 := 12) at_193_9 rfl rfl ?_
  refine aw_ladd (v := ((v1 * 6364136223846793005) + 1442695040888963407)) (pc1 := 13) at_193_12 rfl rfl ?_
  obtain ⟨h3, e4, hs2⟩ := am_bind hs1
  clear hs1
  refine aw_pP (pc1 := 16) at_193_13 e4 rfl ?_
  refine aw_vload_n (pc1 := 17) at_193_16 l0 i0 rfl ?_
  obtain ⟨v5, e6, hs3⟩ := am_bind hs2
  clear hs2
  refine aw_pG (pc1 := 20) at_193_17 (am_vL_s e6) rfl ?_
  refine aw_bipush (v := 33) (pc1 := 22) at_193_20 (by decide) rfl ?_
  refine aw_lushr (v := ((Int64.toUInt64 v5 >>> (Int64.toUInt64 (Int32.toInt64 33) &&& Int64.toUInt64 63)).toInt64)) (pc1 := 23) at_193_22 rfl rfl ?_
  cases hs3
  exact aw_lret at_193_23 rt_193 rfl
def fm_193 (y0 : Value) (h : am_H) : Option am_O := fg_193_0 y0 h
theorem rm_193 {X : am_X} {d : Nat} (y0 : Value) (h : am_H) (o : am_O) (i0 : am_isR y0 = true) (hs : fm_193 y0 h = some o) : am_W X (d) 193 0 (am_args 0 [y0]) [] h (fun q => q = o) := by
  rw [am_args_R i0]
  exact rg_193_0 y0 h o rfl i0 hs
def fg_192_18 (s0 : Int32) (h : am_H) : Option am_O := some (.inl (some (.int s0), h))
theorem rg_192_18 {X : am_X} {d : Nat} {lv : am_LV} (s0 : Int32) (h : am_H) (o : am_O) (hs : fg_192_18 s0 h = some o) : am_W X (d + 1) 192 18 lv [(.int s0)] h (fun q => q = o) := by
  unfold fg_192_18 at hs
  cases hs
  exact aw_iret at_192_18 (by rw [rt_192]; rfl) rfl
def fg_192_0 (x0 : Value) (x1 : Int32) (h : am_H) : Option am_O := (if am_pOk 8 x0 h then am_cL true (fm_193 x0 h) (fun v2 h3 => (if x1 ≤ 0 then (fg_192_18 0 h3) else (if ((Int32.toInt64 x1) : Int64) ≠ 0 then (fg_192_18 ((Int64.toInt32 (v2 - v2 / (Int32.toInt64 x1) * (Int32.toInt64 x1)))) h3) else none))) else none)
theorem rg_192_0 {X : am_X} {d : Nat} {lv : am_LV} (x0 : Value) (x1 : Int32) (h : am_H) (o : am_O) (l0 : lv.lookup 0 = some x0) (l1 : lv.lookup 1 = some (.int x1)) (i0 : am_isR x0 = true) (hs : fg_192_0 x0 x1 h = some o) : am_W X (d + 1) 192 0 lv [] h (fun q => q = o) := by
  unfold fg_192_0 at hs
  refine aw_vload_n (pc1 := 1) at_192_0 l0 i0 rfl ?_
  obtain ⟨z1, hs1⟩ := am_ift hs
  clear hs
  refine aw_call (F := fm_193 x0 h) (t := true) (na := 1) (kd := 1) (as := [x0]) at_192_1 (am_k3v kb_193) mn_193 mk_193 rfl rfl (am_ok_v mi_193 (am_hl rfl (am_ccR i0 am_cats_0) rfl) z1) (am_hc am_cats_0 rfl) (fun _ => ⟨rfl, hh_192⟩) (fun o1 hz9 => rm_193 x0 h o1 i0 hz9) ?_
  rcases am_cL_s hs1 with ⟨v2, h3, f4, hs2⟩ | hs2
  · clear hs1
    refine Or.inl ⟨_, _, f4, ?_⟩
    show am_W X _ 192 4 _ [(.long v2)] h3 _
    refine aw_lstore_n (lv1 := am_put2 _ 2 _) (pc1 := 5) at_192_4 rfl rfl ?_
    refine aw_iload_n (pc1 := 6) at_192_5 (am_lk2 l1 rfl rfl) rfl ?_
    by_cases c5 : x1 ≤ 0
    · rw [if_pos c5] at hs2
      refine aw_ifle_t at_192_6 c5 ?_
      refine aw_iconst (v := 0) (pc1 := 18) at_192_17 (by decide) rfl ?_
      exact rg_192_18 0 h3 o   hs2
    · rw [if_neg c5] at hs2
      refine aw_ifle_f (pc1 := 9) at_192_6 c5 rfl ?_
      refine aw_lload_n (pc1 := 10) at_192_9 am_lk02 rfl ?_
      refine aw_iload_n (pc1 := 11) at_192_10 (am_lk2 l1 rfl rfl) rfl ?_
      refine aw_i2l (v := (Int32.toInt64 x1)) (pc1 := 12) at_192_11 rfl rfl ?_
      obtain ⟨z6, hs3⟩ := am_ift hs2
      clear hs2
      refine aw_lrem (v := (v2 - v2 / (Int32.toInt64 x1) * (Int32.toInt64 x1))) (pc1 := 13) at_192_12 z6 rfl rfl ?_
      refine aw_l2i (v := (Int64.toInt32 (v2 - v2 / (Int32.toInt64 x1) * (Int32.toInt64 x1)))) (pc1 := 14) at_192_13 rfl rfl ?_
      refine aw_goto at_192_14 ?_
      exact rg_192_18 ((Int64.toInt32 (v2 - v2 / (Int32.toInt64 x1) * (Int32.toInt64 x1)))) h3 o   hs3
  · clear hs1
    exact Or.inr hs2
def fm_192 (y0 : Value) (y1 : Int32) (h : am_H) : Option am_O := fg_192_0 y0 y1 h
theorem rm_192 {X : am_X} {d : Nat} (y0 : Value) (y1 : Int32) (h : am_H) (o : am_O) (i0 : am_isR y0 = true) (hs : fm_192 y0 y1 h = some o) : am_W X (d + 1) 192 0 (am_args 0 [y0, .int y1]) [] h (fun q => q = o) := by
  rw [am_args_R i0, am_args_I]
  exact rg_192_0 y0 y1 h o rfl rfl i0 hs
def fg_194_31 (s0 : Int64) (h : am_H) : Option am_O := some (.inl (some (.long s0), h))
theorem rg_194_31 {X : am_X} {d : Nat} {lv : am_LV} (s0 : Int64) (h : am_H) (o : am_O) (hs : fg_194_31 s0 h = some o) : am_W X (d + 1) 194 31 lv [(.long s0)] h (fun q => q = o) := by
  unfold fg_194_31 at hs
  cases hs
  exact aw_lret at_194_31 rt_194 rfl
def fg_194_0 (x0 : Value) (x1 : Int64) (h : am_H) : Option am_O := (if am_pOk 8 x0 h then am_cL true (fm_193 x0 h) (fun v2 h3 => (if am_pOk 8 x0 h3 then am_cL true (fm_193 x0 h3) (fun v6 h7 => (if (lg_cmp x1 0) ≤ 0 then (fg_194_31 0 h7) else (if (x1 : Int64) ≠ 0 then (fg_194_31 ((((2147483648 * v2) + v6) - ((2147483648 * v2) + v6) / x1 * x1)) h7) else none))) else none)) else none)
theorem rg_194_0 {X : am_X} {d : Nat} {lv : am_LV} (x0 : Value) (x1 : Int64) (h : am_H) (o : am_O) (l0 : lv.lookup 0 = some x0) (l1 : lv.lookup 1 = some (.long x1)) (i0 : am_isR x0 = true) (hs : fg_194_0 x0 x1 h = some o) : am_W X (d + 1) 194 0 lv [] h (fun q => q = o) := by
  unfold fg_194_0 at hs
  refine aw_vload_n (pc1 := 1) at_194_0 l0 i0 rfl ?_
  obtain ⟨z1, hs1⟩ := am_ift hs
  clear hs
  refine aw_call (F := fm_193 x0 h) (t := true) (na := 1) (kd := 1) (as := [x0]) at_194_1 (am_k3v kb_193) mn_193 mk_193 rfl rfl (am_ok_v mi_193 (am_hl rfl (am_ccR i0 am_cats_0) rfl) z1) (am_hc am_cats_0 rfl) (fun _ => ⟨rfl, hh_194⟩) (fun o1 hz9 => rm_193 x0 h o1 i0 hz9) ?_
  rcases am_cL_s hs1 with ⟨v2, h3, f4, hs2⟩ | hs2
  · clear hs1
    refine Or.inl ⟨_, _, f4, ?_⟩
    show am_W X _ 194 4 _ [(.long v2)] h3 _
    refine aw_lstore_n (lv1 := am_put2 _ 3 _) (pc1 := 5) at_194_4 rfl rfl ?_
    refine aw_vload_n (pc1 := 6) at_194_5 (am_lk2 l0 rfl rfl) i0 rfl ?_
    obtain ⟨z5, hs3⟩ := am_ift hs2
    clear hs2
    refine aw_call (F := fm_193 x0 h3) (t := true) (na := 1) (kd := 1) (as := [x0]) at_194_6 (am_k3v kb_193) mn_193 mk_193 rfl rfl (am_ok_v mi_193 (am_hl rfl (am_ccR i0 am_cats_0) rfl) z5) (am_hc am_cats_0 rfl) (fun _ => ⟨rfl, hh_194⟩) (fun o1 hz9 => rm_193 x0 h3 o1 i0 hz9) ?_
    rcases am_cL_s hs3 with ⟨v6, h7, f8, hs4⟩ | hs4
    · clear hs3
      refine Or.inl ⟨_, _, f8, ?_⟩
      show am_W X _ 194 9 _ [(.long v6)] h7 _
      refine aw_lstore (lv1 := am_put2 _ 5 _) (pc1 := 11) at_194_9 rfl rfl ?_
      refine aw_lload_n (pc1 := 12) at_194_11 (am_lk2 (am_lk2 l1 rfl rfl) rfl rfl) rfl ?_
      refine aw_lconst (v := 0) (pc1 := 13) at_194_12 (by decide) rfl ?_
      refine aw_lcmp (v := (lg_cmp x1 0)) (pc1 := 14) at_194_13 rfl rfl ?_
      by_cases c9 : (lg_cmp x1 0) ≤ 0
      · rw [if_pos c9] at hs4
        refine aw_ifle_t at_194_14 c9 ?_
        refine aw_lconst (v := 0) (pc1 := 31) at_194_30 (by decide) rfl ?_
        exact rg_194_31 0 h7 o   hs4
      · rw [if_neg c9] at hs4
        refine aw_ifle_f (pc1 := 17) at_194_14 c9 rfl ?_
        refine aw_ldc2 (v := 2147483648) (pc1 := 20) at_194_17 rfl rfl ?_
        refine aw_lload_n (pc1 := 21) at_194_20 (am_lk2 am_lk02 rfl rfl) rfl ?_
        refine aw_lmul (v := (2147483648 * v2)) (pc1 := 22) at_194_21 rfl rfl ?_
        refine aw_lload (pc1 := 24) at_194_22 am_lk02 rfl ?_
        refine aw_ladd (v := ((2147483648 * v2) + v6)) (pc1 := 25) at_194_24 rfl rfl ?_
        refine aw_lload_n (pc1 := 26) at_194_25 (am_lk2 (am_lk2 l1 rfl rfl) rfl rfl) rfl ?_
        obtain ⟨z10, hs5⟩ := am_ift hs4
        clear hs4
        refine aw_lrem (v := (((2147483648 * v2) + v6) - ((2147483648 * v2) + v6) / x1 * x1)) (pc1 := 27) at_194_26 z10 rfl rfl ?_
        refine aw_goto at_194_27 ?_
        exact rg_194_31 ((((2147483648 * v2) + v6) - ((2147483648 * v2) + v6) / x1 * x1)) h7 o   hs5
    · clear hs3
      exact Or.inr hs4
  · clear hs1
    exact Or.inr hs2
def fm_194 (y0 : Value) (y1 : Int64) (h : am_H) : Option am_O := fg_194_0 y0 y1 h
theorem rm_194 {X : am_X} {d : Nat} (y0 : Value) (y1 : Int64) (h : am_H) (o : am_O) (i0 : am_isR y0 = true) (hs : fm_194 y0 y1 h = some o) : am_W X (d + 1) 194 0 (am_args 0 [y0, .long y1]) [] h (fun q => q = o) := by
  rw [am_args_R i0, am_args_L]
  exact rg_194_0 y0 y1 h o rfl rfl i0 hs
def fg_191_193 (N : Nat) (h : am_H) : Option am_O := some (.inl (none, h))
theorem rg_191_193 {X : am_X} {d : Nat} {N : Nat} {lv : am_LV} (h : am_H) (o : am_O) (hs : fg_191_193 N h = some o) : am_W X (d + 122) 191 193 lv [] h (fun q => q = o) := by
  unfold fg_191_193 at hs
  cases hs
  exact aw_vret at_191_193 rt_191 rfl
def fg_191_185 (N : Nat) (x0 : Value) (x1 : Value) (h : am_H) : Option am_O := ((am_vR (am_pG 0 x0 h)).bind fun v1 => (if am_pOk 3 v1 h then am_cV true (fm_60 v1 x1 h) (fun h5 => (fg_191_193 N h5)) else none))
theorem rg_191_185 {X : am_X} {d : Nat} {N : Nat} {lv : am_LV} (x0 : Value) (x1 : Value) (h : am_H) (o : am_O) (l0 : lv.lookup 0 = some x0) (l1 : lv.lookup 1 = some x1) (i0 : am_isR x0 = true) (i1 : am_isR x1 = true) (hs : fg_191_185 N x0 x1 h = some o) : am_W X (d + 122) 191 185 lv [] h (fun q => q = o) := by
  unfold fg_191_185 at hs
  refine aw_vload_n (pc1 := 186) at_191_185 l0 i0 rfl ?_
  obtain ⟨v1, e2, hs1⟩ := am_bind hs
  clear hs
  refine aw_pG (pc1 := 189) at_191_186 (am_vR_s e2).1 rfl ?_
  refine aw_vload_n (pc1 := 190) at_191_189 l1 i1 rfl ?_
  obtain ⟨z3, hs2⟩ := am_ift hs1
  clear hs1
  refine aw_call (F := fm_60 v1 x1 h) (t := true) (na := 2) (kd := 1) (as := [v1, x1]) at_191_190 (am_k3v kb_60) mn_60 mk_60 rfl rfl (am_ok_v mi_60 (am_hl rfl (am_ccR (am_vR_s e2).2 (am_ccR i1 am_cats_0)) rfl) z3) (am_hc am_cats_0 rfl) (fun _ => ⟨rfl, hh_191⟩) (fun o1 hz9 => rm_60 v1 x1 h o1 (am_vR_s e2).2 i1 hz9) ?_
  rcases am_cV_s hs2 with ⟨h5, f6, hs3⟩ | hs3
  · clear hs2
    refine Or.inl ⟨_, _, f6, ?_⟩
    show am_W X _ 191 193 _ [] h5 _
    exact rg_191_193 h5 o   hs3
  · clear hs2
    exact Or.inr hs3
def fg_191_97 (N : Nat) (x0 : Value) (x1 : Value) (x2 : Value) (x3 : Value) (x4 : Int32) (x5 : Int32) (x6 : Int32) (h : am_H) : Option am_O := (if am_pOk 4 x3 h then am_cL true (fm_15 x3 x5 x6 h) (fun v2 h3 => (if am_pOk 8 x2 h3 then am_cL true (fm_194 x2 v2 h3) (fun v6 h7 => ((am_vR (am_pG 1 x0 h7)).bind fun v9 => (if am_pOk 4 x3 h7 then am_cV true (fm_91 N x3 x5 x6 v6 v9 h7) (fun h13 => ((am_vR (am_pG 3 x0 h13)).bind fun v15 => ((am_vR (am_pG 1 x0 h13)).bind fun v17 => (if am_pOk 7 v15 h13 then am_cV true (fm_76 N v15 v17 h13) (fun h21 => ((am_vR (am_pG 1 x0 h21)).bind fun v23 => ((am_vR (am_pG 1 x0 h21)).bind fun v25 => ((am_vI (am_pG 771 v25 h21)).bind fun v27 => (if am_pOk 0 x0 h21 then am_cI true (fm_168 x0 v23 0 v27 h21) (fun v30 h31 => ((am_vR (am_pG 2 x0 h31)).bind fun v33 => ((am_vR (am_pG 1793 v33 h31)).bind fun v35 => ((am_pA 0 v35 x4 h31).bind fun v37 => ((am_vR (am_pG 3 x0 h31)).bind fun v39 => ((am_vR (am_pG 1794 v39 h31)).bind fun v41 => ((am_pA 0 v41 0 h31).bind fun v43 => (if 12 < ((v37 - 1) + v43) then (fg_191_185 N x0 x1 h31) else (if am_pOk 0 x0 h31 then am_cI true (fm_169 x0 x4 h31) (fun v47 h48 => (if ¬ v47 = 0 then (fg_191_193 N h48) else (fg_191_185 N x0 x1 h48))) else none))))))))) else none))))) else none)))) else none))) else none)) else none)
theorem rg_191_97 {X : am_X} {d : Nat} {N : Nat} {lv : am_LV} (x0 : Value) (x1 : Value) (x2 : Value) (x3 : Value) (x4 : Int32) (x5 : Int32) (x6 : Int32) (h : am_H) (o : am_O) (l0 : lv.lookup 0 = some x0) (l1 : lv.lookup 1 = some x1) (l2 : lv.lookup 2 = some x2) (l3 : lv.lookup 3 = some x3) (l4 : lv.lookup 4 = some (.int x4)) (l5 : lv.lookup 5 = some (.int x5)) (l6 : lv.lookup 6 = some (.int x6)) (i0 : am_isR x0 = true) (i1 : am_isR x1 = true) (i2 : am_isR x2 = true) (i3 : am_isR x3 = true) (hs : fg_191_97 N x0 x1 x2 x3 x4 x5 x6 h = some o) : am_W X (d + 122) 191 97 lv [] h (fun q => q = o) := by
  unfold fg_191_97 at hs
  refine aw_vload_n (pc1 := 98) at_191_97 l3 i3 rfl ?_
  refine aw_iload (pc1 := 100) at_191_98 l5 rfl ?_
  refine aw_iload (pc1 := 102) at_191_100 l6 rfl ?_
  refine aw_vload_n (pc1 := 103) at_191_102 l2 i2 rfl ?_
  refine aw_vload_n (pc1 := 104) at_191_103 l3 i3 rfl ?_
  refine aw_iload (pc1 := 106) at_191_104 l5 rfl ?_
  refine aw_iload (pc1 := 108) at_191_106 l6 rfl ?_
  obtain ⟨z1, hs1⟩ := am_ift hs
  clear hs
  refine aw_call (F := fm_15 x3 x5 x6 h) (t := true) (na := 3) (kd := 1) (as := [x3, (.int x5), (.int x6)]) at_191_108 (am_k3v kb_15) mn_15 mk_15 rfl rfl (am_ok_v mi_15 (am_hl rfl (am_ccR i3 (am_ccI (am_ccI am_cats_0))) rfl) z1) (am_hc (am_ccR i2 (am_ccI (am_ccI (am_ccR i3 am_cats_0)))) rfl) (fun _ => ⟨rfl, hh_191⟩) (fun o1 hz9 => rm_15 x3 x5 x6 h o1 i3 hz9) ?_
  rcases am_cL_s hs1 with ⟨v2, h3, f4, hs2⟩ | hs2
  · clear hs1
    refine Or.inl ⟨_, _, f4, ?_⟩
    show am_W X _ 191 111 _ [(.long v2), x2, (.int x6), (.int x5), x3] h3 _
    obtain ⟨z5, hs3⟩ := am_ift hs2
    clear hs2
    refine aw_call (F := fm_194 x2 v2 h3) (t := true) (na := 2) (kd := 1) (as := [x2, (.long v2)]) at_191_111 (am_k3v kb_194) mn_194 mk_194 rfl rfl (am_ok_v mi_194 (am_hl rfl (am_ccR i2 (am_ccL am_cats_0)) rfl) z5) (am_hc (am_ccI (am_ccI (am_ccR i3 am_cats_0))) rfl) (fun _ => ⟨rfl, hh_191⟩) (fun o1 hz9 => rm_194 x2 v2 h3 o1 i2 hz9) ?_
    rcases am_cL_s hs3 with ⟨v6, h7, f8, hs4⟩ | hs4
    · clear hs3
      refine Or.inl ⟨_, _, f8, ?_⟩
      show am_W X _ 191 114 _ [(.long v6), (.int x6), (.int x5), x3] h7 _
      refine aw_vload_n (pc1 := 115) at_191_114 l0 i0 rfl ?_
      obtain ⟨v9, e10, hs5⟩ := am_bind hs4
      clear hs4
      refine aw_pG (pc1 := 118) at_191_115 (am_vR_s e10).1 rfl ?_
      obtain ⟨z11, hs6⟩ := am_ift hs5
      clear hs5
      refine aw_call (F := fm_91 N x3 x5 x6 v6 v9 h7) (t := true) (na := 5) (kd := 1) (as := [x3, (.int x5), (.int x6), (.long v6), v9]) at_191_118 (am_k3v kb_91) mn_91 mk_91 rfl rfl (am_ok_v mi_91 (am_hl rfl (am_ccR i3 (am_ccI (am_ccI (am_ccL (am_ccR (am_vR_s e10).2 am_cats_0))))) rfl) z11) (am_hc am_cats_0 rfl) (fun _ => ⟨rfl, hh_191⟩) (fun o1 hz9 => rm_91 x3 x5 x6 v6 v9 h7 o1 i3 (am_vR_s e10).2 hz9) ?_
      rcases am_cV_s hs6 with ⟨h13, f14, hs7⟩ | hs7
      · clear hs6
        refine Or.inl ⟨_, _, f14, ?_⟩
        show am_W X _ 191 121 _ [] h13 _
        refine aw_vload_n (pc1 := 122) at_191_121 l0 i0 rfl ?_
        obtain ⟨v15, e16, hs8⟩ := am_bind hs7
        clear hs7
        refine aw_pG (pc1 := 125) at_191_122 (am_vR_s e16).1 rfl ?_
        refine aw_vload_n (pc1 := 126) at_191_125 l0 i0 rfl ?_
        obtain ⟨v17, e18, hs9⟩ := am_bind hs8
        clear hs8
        refine aw_pG (pc1 := 129) at_191_126 (am_vR_s e18).1 rfl ?_
        obtain ⟨z19, hs10⟩ := am_ift hs9
        clear hs9
        refine aw_call (F := fm_76 N v15 v17 h13) (t := true) (na := 2) (kd := 1) (as := [v15, v17]) at_191_129 (am_k3v kb_76) mn_76 mk_76 rfl rfl (am_ok_v mi_76 (am_hl rfl (am_ccR (am_vR_s e16).2 (am_ccR (am_vR_s e18).2 am_cats_0)) rfl) z19) (am_hc am_cats_0 rfl) (fun _ => ⟨rfl, hh_191⟩) (fun o1 hz9 => rm_76 v15 v17 h13 o1 (am_vR_s e16).2 (am_vR_s e18).2 hz9) ?_
        rcases am_cV_s hs10 with ⟨h21, f22, hs11⟩ | hs11
        · clear hs10
          refine Or.inl ⟨_, _, f22, ?_⟩
          show am_W X _ 191 132 _ [] h21 _
          refine aw_vload_n (pc1 := 133) at_191_132 l0 i0 rfl ?_
          refine aw_vload_n (pc1 := 134) at_191_133 l0 i0 rfl ?_
          obtain ⟨v23, e24, hs12⟩ := am_bind hs11
          clear hs11
          refine aw_pG (pc1 := 137) at_191_134 (am_vR_s e24).1 rfl ?_
          refine aw_iconst (v := 0) (pc1 := 138) at_191_137 (by decide) rfl ?_
          refine aw_vload_n (pc1 := 139) at_191_138 l0 i0 rfl ?_
          obtain ⟨v25, e26, hs13⟩ := am_bind hs12
          clear hs12
          refine aw_pG (pc1 := 142) at_191_139 (am_vR_s e26).1 rfl ?_
          obtain ⟨v27, e28, hs14⟩ := am_bind hs13
          clear hs13
          refine aw_pG (pc1 := 145) at_191_142 (am_vI_s e28) rfl ?_
          obtain ⟨z29, hs15⟩ := am_ift hs14
          clear hs14
          refine aw_call (F := fm_168 x0 v23 0 v27 h21) (t := true) (na := 4) (kd := 1) (as := [x0, v23, (.int 0), (.int v27)]) at_191_145 (am_k3v kb_168) mn_168 mk_168 rfl rfl (am_ok_v mi_168 (am_hl rfl (am_ccR i0 (am_ccR (am_vR_s e24).2 (am_ccI (am_ccI am_cats_0)))) rfl) z29) (am_hc am_cats_0 rfl) (fun _ => ⟨rfl, hh_191⟩) (fun o1 hz9 => rm_168 x0 v23 0 v27 h21 o1 i0 (am_vR_s e24).2 hz9) ?_
          rcases am_cI_s hs15 with ⟨v30, h31, f32, hs16⟩ | hs16
          · clear hs15
            refine Or.inl ⟨_, _, f32, ?_⟩
            show am_W X _ 191 148 _ [(.int v30)] h31 _
            refine aw_popi (pc1 := 149) at_191_148 rfl ?_
            refine aw_vload_n (pc1 := 150) at_191_149 l0 i0 rfl ?_
            obtain ⟨v33, e34, hs17⟩ := am_bind hs16
            clear hs16
            refine aw_pG (pc1 := 153) at_191_150 (am_vR_s e34).1 rfl ?_
            obtain ⟨v35, e36, hs18⟩ := am_bind hs17
            clear hs17
            refine aw_pG (pc1 := 156) at_191_153 (am_vR_s e36).1 rfl ?_
            refine aw_iload (pc1 := 158) at_191_156 l4 rfl ?_
            obtain ⟨v37, e38, hs19⟩ := am_bind hs18
            clear hs18
            refine aw_pA (pc1 := 159) at_191_158 (Or.inl ⟨rfl, rfl⟩) e38 rfl ?_
            refine aw_iconst (v := 1) (pc1 := 160) at_191_159 (by decide) rfl ?_
            refine aw_isub (v := (v37 - 1)) (pc1 := 161) at_191_160 rfl rfl ?_
            refine aw_vload_n (pc1 := 162) at_191_161 l0 i0 rfl ?_
            obtain ⟨v39, e40, hs20⟩ := am_bind hs19
            clear hs19
            refine aw_pG (pc1 := 165) at_191_162 (am_vR_s e40).1 rfl ?_
            obtain ⟨v41, e42, hs21⟩ := am_bind hs20
            clear hs20
            refine aw_pG (pc1 := 168) at_191_165 (am_vR_s e42).1 rfl ?_
            refine aw_iconst (v := 0) (pc1 := 169) at_191_168 (by decide) rfl ?_
            obtain ⟨v43, e44, hs22⟩ := am_bind hs21
            clear hs21
            refine aw_pA (pc1 := 170) at_191_169 (Or.inl ⟨rfl, rfl⟩) e44 rfl ?_
            refine aw_iadd (v := ((v37 - 1) + v43)) (pc1 := 171) at_191_170 rfl rfl ?_
            refine aw_bipush (v := 12) (pc1 := 173) at_191_171 (by decide) rfl ?_
            by_cases c45 : 12 < ((v37 - 1) + v43)
            · rw [if_pos c45] at hs22
              refine aw_icgt_t at_191_173 c45 ?_
              exact rg_191_185 x0 x1 h31 o l0 l1 i0 i1 hs22
            · rw [if_neg c45] at hs22
              refine aw_icgt_f (pc1 := 176) at_191_173 c45 rfl ?_
              refine aw_vload_n (pc1 := 177) at_191_176 l0 i0 rfl ?_
              refine aw_iload (pc1 := 179) at_191_177 l4 rfl ?_
              obtain ⟨z46, hs23⟩ := am_ift hs22
              clear hs22
              refine aw_call (F := fm_169 x0 x4 h31) (t := true) (na := 2) (kd := 1) (as := [x0, (.int x4)]) at_191_179 (am_k3v kb_169) mn_169 mk_169 rfl rfl (am_ok_v mi_169 (am_hl rfl (am_ccR i0 (am_ccI am_cats_0)) rfl) z46) (am_hc am_cats_0 rfl) (fun _ => ⟨rfl, hh_191⟩) (fun o1 hz9 => rm_169 x0 x4 h31 o1 i0 hz9) ?_
              rcases am_cI_s hs23 with ⟨v47, h48, f49, hs24⟩ | hs24
              · clear hs23
                refine Or.inl ⟨_, _, f49, ?_⟩
                show am_W X _ 191 182 _ [(.int v47)] h48 _
                by_cases c50 : ¬ v47 = 0
                · rw [if_pos c50] at hs24
                  refine aw_ifne_t at_191_182 c50 ?_
                  exact rg_191_193 h48 o   hs24
                · rw [if_neg c50] at hs24
                  refine aw_ifne_f (pc1 := 185) at_191_182 c50 rfl ?_
                  exact rg_191_185 x0 x1 h48 o l0 l1 i0 i1 hs24
              · clear hs23
                exact Or.inr hs24
          · clear hs15
            exact Or.inr hs16
        · clear hs10
          exact Or.inr hs11
      · clear hs6
        exact Or.inr hs7
    · clear hs3
      exact Or.inr hs4
  · clear hs1
    exact Or.inr hs2
def fg_191_71 (N : Nat) : Nat → Value → Value → Value → Value → Int32 → Int32 → Int32 → am_H → Option am_O
  | 0 => fun _ _ _ _ _ _ _ _ => none
  | K + 1 => fun x0 x1 x2 x3 x4 x5 x6 h => (if 12 ≤ x6 then (fg_191_97 N x0 x1 x2 x3 x4 x5 x6 h) else (if am_pOk 4 x3 h then am_cL true (fm_15 x3 x5 x6 h) (fun v3 h4 => (if ¬ (lg_cmp v3 0) = 0 then (fg_191_97 N x0 x1 x2 x3 x4 x5 x6 h4) else (fg_191_71 N K x0 x1 x2 x3 x4 x5 ((x6 + 1)) h4))) else none))
theorem rg_191_71 {X : am_X} {d : Nat} {N : Nat} : ∀ (K : Nat) (x0 : Value) (x1 : Value) (x2 : Value) (x3 : Value) (x4 : Int32) (x5 : Int32) (x6 : Int32) (h : am_H) (o : am_O), fg_191_71 N K x0 x1 x2 x3 x4 x5 x6 h = some o → ∀ lv : am_LV, (lv.lookup 0 = some x0) → (lv.lookup 1 = some x1) → (lv.lookup 2 = some x2) → (lv.lookup 3 = some x3) → (lv.lookup 4 = some (.int x4)) → (lv.lookup 5 = some (.int x5)) → (lv.lookup 6 = some (.int x6)) → (am_isR x0 = true) → (am_isR x1 = true) → (am_isR x2 = true) → (am_isR x3 = true) → am_W X (d + 122) 191 71 lv [] h (fun q => q = o) := by
  intro K
  induction K with
  | zero => intro x0 x1 x2 x3 x4 x5 x6 h o hs; cases hs
  | succ K ih =>
    intro x0 x1 x2 x3 x4 x5 x6 h o hs lv l0 l1 l2 l3 l4 l5 l6 i0 i1 i2 i3
    unfold fg_191_71 at hs
    refine aw_iload (pc1 := 73) at_191_71 l6 rfl ?_
    refine aw_bipush (v := 12) (pc1 := 75) at_191_73 (by decide) rfl ?_
    by_cases c1 : 12 ≤ x6
    · rw [if_pos c1] at hs
      refine aw_icge_t at_191_75 c1 ?_
      exact rg_191_97 x0 x1 x2 x3 x4 x5 x6 h o l0 l1 l2 l3 l4 l5 l6 i0 i1 i2 i3 hs
    · rw [if_neg c1] at hs
      refine aw_icge_f (pc1 := 78) at_191_75 c1 rfl ?_
      refine aw_vload_n (pc1 := 79) at_191_78 l3 i3 rfl ?_
      refine aw_iload (pc1 := 81) at_191_79 l5 rfl ?_
      refine aw_iload (pc1 := 83) at_191_81 l6 rfl ?_
      obtain ⟨z2, hs1⟩ := am_ift hs
      clear hs
      refine aw_call (F := fm_15 x3 x5 x6 h) (t := true) (na := 3) (kd := 1) (as := [x3, (.int x5), (.int x6)]) at_191_83 (am_k3v kb_15) mn_15 mk_15 rfl rfl (am_ok_v mi_15 (am_hl rfl (am_ccR i3 (am_ccI (am_ccI am_cats_0))) rfl) z2) (am_hc am_cats_0 rfl) (fun _ => ⟨rfl, hh_191⟩) (fun o1 hz9 => rm_15 x3 x5 x6 h o1 i3 hz9) ?_
      rcases am_cL_s hs1 with ⟨v3, h4, f5, hs2⟩ | hs2
      · clear hs1
        refine Or.inl ⟨_, _, f5, ?_⟩
        show am_W X _ 191 86 _ [(.long v3)] h4 _
        refine aw_lconst (v := 0) (pc1 := 87) at_191_86 (by decide) rfl ?_
        refine aw_lcmp (v := (lg_cmp v3 0)) (pc1 := 88) at_191_87 rfl rfl ?_
        by_cases c6 : ¬ (lg_cmp v3 0) = 0
        · rw [if_pos c6] at hs2
          refine aw_ifne_t at_191_88 c6 ?_
          exact rg_191_97 x0 x1 x2 x3 x4 x5 x6 h4 o l0 l1 l2 l3 l4 l5 l6 i0 i1 i2 i3 hs2
        · rw [if_neg c6] at hs2
          refine aw_ifne_f (pc1 := 91) at_191_88 c6 rfl ?_
          refine aw_iinc (v := (x6 + 1)) (c := 1) (lv1 := am_put1 _ 6 _) (pc1 := 94) at_191_91 l6 (by decide) rfl rfl rfl ?_
          refine aw_goto at_191_94 ?_
          exact ih x0 x1 x2 x3 x4 x5 ((x6 + 1)) h4 o hs2 _ (am_lk1 l0 rfl rfl) (am_lk1 l1 rfl rfl) (am_lk1 l2 rfl rfl) (am_lk1 l3 rfl rfl) (am_lk1 l4 rfl rfl) (am_lk1 l5 rfl rfl) am_lk0 i0 i1 i2 i3
      · clear hs1
        exact Or.inr hs2
def fg_191_59 (N : Nat) (x0 : Value) (x1 : Value) (x2 : Value) (x3 : Value) (x4 : Int32) (s0 : Int32) (s1 : Int32) (h : am_H) : Option am_O := (if am_pOk 8 x2 h then am_cI true (fm_192 x2 4 h) (fun v2 h3 => (fg_191_71 N N x0 x1 x2 x3 x4 ((s0 + s1)) ((1 + v2)) h3)) else none)
theorem rg_191_59 {X : am_X} {d : Nat} {N : Nat} {lv : am_LV} (x0 : Value) (x1 : Value) (x2 : Value) (x3 : Value) (x4 : Int32) (s0 : Int32) (s1 : Int32) (h : am_H) (o : am_O) (l0 : lv.lookup 0 = some x0) (l1 : lv.lookup 1 = some x1) (l2 : lv.lookup 2 = some x2) (l3 : lv.lookup 3 = some x3) (l4 : lv.lookup 4 = some (.int x4)) (i0 : am_isR x0 = true) (i1 : am_isR x1 = true) (i2 : am_isR x2 = true) (i3 : am_isR x3 = true) (hs : fg_191_59 N x0 x1 x2 x3 x4 s0 s1 h = some o) : am_W X (d + 122) 191 59 lv [(.int s1), (.int s0)] h (fun q => q = o) := by
  unfold fg_191_59 at hs
  refine aw_iadd (v := (s0 + s1)) (pc1 := 60) at_191_59 rfl rfl ?_
  refine aw_istore (lv1 := am_put1 _ 5 _) (pc1 := 62) at_191_60 rfl rfl ?_
  refine aw_iconst (v := 1) (pc1 := 63) at_191_62 (by decide) rfl ?_
  refine aw_vload_n (pc1 := 64) at_191_63 (am_lk1 l2 rfl rfl) i2 rfl ?_
  refine aw_iconst (v := 4) (pc1 := 65) at_191_64 (by decide) rfl ?_
  obtain ⟨z1, hs1⟩ := am_ift hs
  clear hs
  refine aw_call (F := fm_192 x2 4 h) (t := true) (na := 2) (kd := 1) (as := [x2, (.int 4)]) at_191_65 (am_k3v kb_192) mn_192 mk_192 rfl rfl (am_ok_v mi_192 (am_hl rfl (am_ccR i2 (am_ccI am_cats_0)) rfl) z1) (am_hc (am_ccI am_cats_0) rfl) (fun _ => ⟨rfl, hh_191⟩) (fun o1 hz9 => rm_192 x2 4 h o1 i2 hz9) ?_
  rcases am_cI_s hs1 with ⟨v2, h3, f4, hs2⟩ | hs2
  · clear hs1
    refine Or.inl ⟨_, _, f4, ?_⟩
    show am_W X _ 191 68 _ [(.int v2), (.int 1)] h3 _
    refine aw_iadd (v := (1 + v2)) (pc1 := 69) at_191_68 rfl rfl ?_
    refine aw_istore (lv1 := am_put1 _ 6 _) (pc1 := 71) at_191_69 rfl rfl ?_
    exact rg_191_71 N x0 x1 x2 x3 x4 ((s0 + s1)) ((1 + v2)) h3 o hs2 _ (am_lk1 (am_lk1 l0 rfl rfl) rfl rfl) (am_lk1 (am_lk1 l1 rfl rfl) rfl rfl) (am_lk1 (am_lk1 l2 rfl rfl) rfl rfl) (am_lk1 (am_lk1 l3 rfl rfl) rfl rfl) (am_lk1 (am_lk1 l4 rfl rfl) rfl rfl) (am_lk1 am_lk0 rfl rfl) am_lk0 i0 i1 i2 i3
  · clear hs1
    exact Or.inr hs2
def fg_191_41 (N : Nat) (x0 : Value) (x1 : Value) (x2 : Value) (x3 : Value) (x4 : Int32) (s0 : Int32) (h : am_H) : Option am_O := (if am_pOk 3 x1 h then am_cI true (fm_54 x1 x4 0 h) (fun v2 h3 => am_cI false (fm_11 v2 h3) (fun v5 h6 => (if v5 = 0 then (fg_191_59 N x0 x1 x2 x3 x4 s0 0 h6) else (fg_191_59 N x0 x1 x2 x3 x4 s0 1 h6)))) else none)
theorem rg_191_41 {X : am_X} {d : Nat} {N : Nat} {lv : am_LV} (x0 : Value) (x1 : Value) (x2 : Value) (x3 : Value) (x4 : Int32) (s0 : Int32) (h : am_H) (o : am_O) (l0 : lv.lookup 0 = some x0) (l1 : lv.lookup 1 = some x1) (l2 : lv.lookup 2 = some x2) (l3 : lv.lookup 3 = some x3) (l4 : lv.lookup 4 = some (.int x4)) (i0 : am_isR x0 = true) (i1 : am_isR x1 = true) (i2 : am_isR x2 = true) (i3 : am_isR x3 = true) (hs : fg_191_41 N x0 x1 x2 x3 x4 s0 h = some o) : am_W X (d + 122) 191 41 lv [(.int s0)] h (fun q => q = o) := by
  unfold fg_191_41 at hs
  refine aw_vload_n (pc1 := 42) at_191_41 l1 i1 rfl ?_
  refine aw_iload (pc1 := 44) at_191_42 l4 rfl ?_
  refine aw_iconst (v := 0) (pc1 := 45) at_191_44 (by decide) rfl ?_
  obtain ⟨z1, hs1⟩ := am_ift hs
  clear hs
  refine aw_call (F := fm_54 x1 x4 0 h) (t := true) (na := 3) (kd := 1) (as := [x1, (.int x4), (.int 0)]) at_191_45 (am_k3v kb_54) mn_54 mk_54 rfl rfl (am_ok_v mi_54 (am_hl rfl (am_ccR i1 (am_ccI (am_ccI am_cats_0))) rfl) z1) (am_hc (am_ccI am_cats_0) rfl) (fun _ => ⟨rfl, hh_191⟩) (fun o1 hz9 => rm_54 x1 x4 0 h o1 i1 hz9) ?_
  rcases am_cI_s hs1 with ⟨v2, h3, f4, hs2⟩ | hs2
  · clear hs1
    refine Or.inl ⟨_, _, f4, ?_⟩
    show am_W X _ 191 48 _ [(.int v2), (.int s0)] h3 _
    refine aw_call (F := fm_11 v2 h3) (t := false) (na := 1) (kd := 0) (as := [(.int v2)]) at_191_48 (am_k3s kb_11) mn_11 mk_11 rfl rfl (am_ok_s mi_11 (am_hl rfl (am_ccI am_cats_0) rfl)) (am_hc (am_ccI am_cats_0) rfl) (fun hz9 => by cases hz9) (fun o1 hz9 => rm_11 v2 h3 o1  hz9) ?_
    rcases am_cI_s hs2 with ⟨v5, h6, f7, hs3⟩ | hs3
    · clear hs2
      refine Or.inl ⟨_, _, f7, ?_⟩
      show am_W X _ 191 51 _ [(.int v5), (.int s0)] h6 _
      by_cases c8 : v5 = 0
      · rw [if_pos c8] at hs3
        refine aw_ifeq_t at_191_51 c8 ?_
        refine aw_iconst (v := 0) (pc1 := 59) at_191_58 (by decide) rfl ?_
        exact rg_191_59 x0 x1 x2 x3 x4 s0 0 h6 o l0 l1 l2 l3 l4 i0 i1 i2 i3 hs3
      · rw [if_neg c8] at hs3
        refine aw_ifeq_f (pc1 := 54) at_191_51 c8 rfl ?_
        refine aw_iconst (v := 1) (pc1 := 55) at_191_54 (by decide) rfl ?_
        refine aw_goto at_191_55 ?_
        exact rg_191_59 x0 x1 x2 x3 x4 s0 1 h6 o l0 l1 l2 l3 l4 i0 i1 i2 i3 hs3
    · clear hs2
      exact Or.inr hs3
  · clear hs1
    exact Or.inr hs2
def fg_191_0 (N : Nat) (x0 : Value) (x1 : Value) (x2 : Value) (x3 : Value) (h : am_H) : Option am_O := ((am_pP 5 x0 x1 h).bind fun h1 => ((am_vR (am_pG 2 x0 h1)).bind fun v3 => (if am_pOk 7 v3 h1 then am_cV true (fm_76 N v3 x1 h1) (fun h7 => ((am_vI (am_pG 771 x1 h7)).bind fun v9 => (if am_pOk 8 x2 h7 then am_cI true (fm_192 x2 v9 h7) (fun v12 h13 => ((am_vR (am_pG 2 x0 h13)).bind fun v15 => ((am_vR (am_pG 1795 v15 h13)).bind fun v17 => ((am_pA 2 v17 v12 h13).bind fun v19 => (if v19 = 0 then (fg_191_41 N x0 x1 x2 x3 v12 0 h13) else (fg_191_41 N x0 x1 x2 x3 v12 2 h13)))))) else none))) else none)))
theorem rg_191_0 {X : am_X} {d : Nat} {N : Nat} {lv : am_LV} (x0 : Value) (x1 : Value) (x2 : Value) (x3 : Value) (h : am_H) (o : am_O) (l0 : lv.lookup 0 = some x0) (l1 : lv.lookup 1 = some x1) (l2 : lv.lookup 2 = some x2) (l3 : lv.lookup 3 = some x3) (i0 : am_isR x0 = true) (i1 : am_isR x1 = true) (i2 : am_isR x2 = true) (i3 : am_isR x3 = true) (hs : fg_191_0 N x0 x1 x2 x3 h = some o) : am_W X (d + 122) 191 0 lv [] h (fun q => q = o) := by
  unfold fg_191_0 at hs
  refine aw_vload_n (pc1 := 1) at_191_0 l0 i0 rfl ?_
  refine aw_vload_n (pc1 := 2) at_191_1 l1 i1 rfl ?_
  obtain ⟨h1, e2, hs1⟩ := am_bind hs
  clear hs
  refine aw_pP (pc1 := 5) at_191_2 e2 rfl ?_
  refine aw_vload_n (pc1 := 6) at_191_5 l0 i0 rfl ?_
  obtain ⟨v3, e4, hs2⟩ := am_bind hs1
  clear hs1
  refine aw_pG (pc1 := 9) at_191_6 (am_vR_s e4).1 rfl ?_
  refine aw_vload_n (pc1 := 10) at_191_9 l1 i1 rfl ?_
  obtain ⟨z5, hs3⟩ := am_ift hs2
  clear hs2
  refine aw_call (F := fm_76 N v3 x1 h1) (t := true) (na := 2) (kd := 1) (as := [v3, x1]) at_191_10 (am_k3v kb_76) mn_76 mk_76 rfl rfl (am_ok_v mi_76 (am_hl rfl (am_ccR (am_vR_s e4).2 (am_ccR i1 am_cats_0)) rfl) z5) (am_hc am_cats_0 rfl) (fun _ => ⟨rfl, hh_191⟩) (fun o1 hz9 => rm_76 v3 x1 h1 o1 (am_vR_s e4).2 i1 hz9) ?_
  rcases am_cV_s hs3 with ⟨h7, f8, hs4⟩ | hs4
  · clear hs3
    refine Or.inl ⟨_, _, f8, ?_⟩
    show am_W X _ 191 13 _ [] h7 _
    refine aw_vload_n (pc1 := 14) at_191_13 l2 i2 rfl ?_
    refine aw_vload_n (pc1 := 15) at_191_14 l1 i1 rfl ?_
    obtain ⟨v9, e10, hs5⟩ := am_bind hs4
    clear hs4
    refine aw_pG (pc1 := 18) at_191_15 (am_vI_s e10) rfl ?_
    obtain ⟨z11, hs6⟩ := am_ift hs5
    clear hs5
    refine aw_call (F := fm_192 x2 v9 h7) (t := true) (na := 2) (kd := 1) (as := [x2, (.int v9)]) at_191_18 (am_k3v kb_192) mn_192 mk_192 rfl rfl (am_ok_v mi_192 (am_hl rfl (am_ccR i2 (am_ccI am_cats_0)) rfl) z11) (am_hc am_cats_0 rfl) (fun _ => ⟨rfl, hh_191⟩) (fun o1 hz9 => rm_192 x2 v9 h7 o1 i2 hz9) ?_
    rcases am_cI_s hs6 with ⟨v12, h13, f14, hs7⟩ | hs7
    · clear hs6
      refine Or.inl ⟨_, _, f14, ?_⟩
      show am_W X _ 191 21 _ [(.int v12)] h13 _
      refine aw_istore (lv1 := am_put1 _ 4 _) (pc1 := 23) at_191_21 rfl rfl ?_
      refine aw_vload_n (pc1 := 24) at_191_23 (am_lk1 l0 rfl rfl) i0 rfl ?_
      obtain ⟨v15, e16, hs8⟩ := am_bind hs7
      clear hs7
      refine aw_pG (pc1 := 27) at_191_24 (am_vR_s e16).1 rfl ?_
      obtain ⟨v17, e18, hs9⟩ := am_bind hs8
      clear hs8
      refine aw_pG (pc1 := 30) at_191_27 (am_vR_s e18).1 rfl ?_
      refine aw_iload (pc1 := 32) at_191_30 am_lk0 rfl ?_
      obtain ⟨v19, e20, hs10⟩ := am_bind hs9
      clear hs9
      refine aw_pA (pc1 := 33) at_191_32 (Or.inr (Or.inl ⟨rfl, rfl⟩)) e20 rfl ?_
      by_cases c21 : v19 = 0
      · rw [if_pos c21] at hs10
        refine aw_ifeq_t at_191_33 c21 ?_
        refine aw_iconst (v := 0) (pc1 := 41) at_191_40 (by decide) rfl ?_
        exact rg_191_41 x0 x1 x2 x3 v12 0 h13 o (am_lk1 l0 rfl rfl) (am_lk1 l1 rfl rfl) (am_lk1 l2 rfl rfl) (am_lk1 l3 rfl (by rw [am_isRc i3]; rfl)) am_lk0 i0 i1 i2 i3 hs10
      · rw [if_neg c21] at hs10
        refine aw_ifeq_f (pc1 := 36) at_191_33 c21 rfl ?_
        refine aw_iconst (v := 2) (pc1 := 37) at_191_36 (by decide) rfl ?_
        refine aw_goto at_191_37 ?_
        exact rg_191_41 x0 x1 x2 x3 v12 2 h13 o (am_lk1 l0 rfl rfl) (am_lk1 l1 rfl rfl) (am_lk1 l2 rfl rfl) (am_lk1 l3 rfl (by rw [am_isRc i3]; rfl)) am_lk0 i0 i1 i2 i3 hs10
    · clear hs6
      exact Or.inr hs7
  · clear hs3
    exact Or.inr hs4
def fm_191 (N : Nat) (y0 : Value) (y1 : Value) (y2 : Value) (y3 : Value) (h : am_H) : Option am_O := fg_191_0 N y0 y1 y2 y3 h
theorem rm_191 {X : am_X} {d : Nat} {N : Nat} (y0 : Value) (y1 : Value) (y2 : Value) (y3 : Value) (h : am_H) (o : am_O) (i0 : am_isR y0 = true) (i1 : am_isR y1 = true) (i2 : am_isR y2 = true) (i3 : am_isR y3 = true) (hs : fm_191 N y0 y1 y2 y3 h = some o) : am_W X (d + 122) 191 0 (am_args 0 [y0, y1, y2, y3]) [] h (fun q => q = o) := by
  rw [am_args_R i0, am_args_R i1, am_args_R i2, am_args_R i3]
  exact rg_191_0 y0 y1 y2 y3 h o rfl rfl rfl rfl i0 i1 i2 i3 hs
def fg_190_138 (N : Nat) (x1 : Int32) (x2 : Int32) (x3 : Int32) (x4 : Int64) (x7 : Int32) (s0 : Value) (s1 : Value) (s2 : Int32) (h : am_H) : Option am_O := (if am_pOk 11 s0 h then am_cI true (fm_59 s0 s1 s2 x1 x2 x3 x7 x4 h) (fun v2 h3 => some (.inl (some (.int v2), h3))) else none)
theorem rg_190_138 {X : am_X} {d : Nat} {N : Nat} {lv : am_LV} (x1 : Int32) (x2 : Int32) (x3 : Int32) (x4 : Int64) (x7 : Int32) (s0 : Value) (s1 : Value) (s2 : Int32) (h : am_H) (o : am_O) (l1 : lv.lookup 1 = some (.int x1)) (l2 : lv.lookup 2 = some (.int x2)) (l3 : lv.lookup 3 = some (.int x3)) (l4 : lv.lookup 4 = some (.long x4)) (l7 : lv.lookup 7 = some (.int x7)) (j0 : am_isR s0 = true) (j1 : am_isR s1 = true) (hs : fg_190_138 N x1 x2 x3 x4 x7 s0 s1 s2 h = some o) : am_W X (d + 123) 190 138 lv [(.int s2), s1, s0] h (fun q => q = o) := by
  unfold fg_190_138 at hs
  refine aw_iload_n (pc1 := 139) at_190_138 l1 rfl ?_
  refine aw_iload_n (pc1 := 140) at_190_139 l2 rfl ?_
  refine aw_iload_n (pc1 := 141) at_190_140 l3 rfl ?_
  refine aw_iload (pc1 := 143) at_190_141 l7 rfl ?_
  refine aw_lload (pc1 := 145) at_190_143 l4 rfl ?_
  obtain ⟨z1, hs1⟩ := am_ift hs
  clear hs
  refine aw_call (F := fm_59 s0 s1 s2 x1 x2 x3 x7 x4 h) (t := true) (na := 8) (kd := 1) (as := [s0, s1, (.int s2), (.int x1), (.int x2), (.int x3), (.int x7), (.long x4)]) at_190_145 (am_k3v kb_59) mn_59 mk_59 rfl rfl (am_ok_v mi_59 (am_hl rfl (am_ccR j0 (am_ccR j1 (am_ccI (am_ccI (am_ccI (am_ccI (am_ccI (am_ccL am_cats_0)))))))) rfl) z1) (am_hc am_cats_0 rfl) (fun _ => ⟨rfl, hh_190⟩) (fun o1 hz9 => rm_59 s0 s1 s2 x1 x2 x3 x7 x4 h o1 j0 j1 hz9) ?_
  rcases am_cI_s hs1 with ⟨v2, h3, f4, hs2⟩ | hs2
  · clear hs1
    refine Or.inl ⟨_, _, f4, ?_⟩
    show am_W X _ 190 148 _ [(.int v2)] h3 _
    cases hs2
    exact aw_iret at_190_148 (by rw [rt_190]; rfl) rfl
  · clear hs1
    exact Or.inr hs2
def fg_190_121 (N : Nat) (x0 : Value) (x1 : Int32) (x2 : Int32) (x3 : Int32) (x4 : Int64) (x7 : Int32) (h : am_H) : Option am_O := ((am_vR (am_pG 2823 x0 h)).bind fun v1 => ((am_vR (am_pG 0 v1 h)).bind fun v3 => (if 0 ≤ x2 then (fg_190_138 N x1 x2 x3 x4 x7 x0 v3 4 h) else (fg_190_138 N x1 x2 x3 x4 x7 x0 v3 3 h))))
theorem rg_190_121 {X : am_X} {d : Nat} {N : Nat} {lv : am_LV} (x0 : Value) (x1 : Int32) (x2 : Int32) (x3 : Int32) (x4 : Int64) (x7 : Int32) (h : am_H) (o : am_O) (l0 : lv.lookup 0 = some x0) (l1 : lv.lookup 1 = some (.int x1)) (l2 : lv.lookup 2 = some (.int x2)) (l3 : lv.lookup 3 = some (.int x3)) (l4 : lv.lookup 4 = some (.long x4)) (l7 : lv.lookup 7 = some (.int x7)) (i0 : am_isR x0 = true) (hs : fg_190_121 N x0 x1 x2 x3 x4 x7 h = some o) : am_W X (d + 123) 190 121 lv [] h (fun q => q = o) := by
  unfold fg_190_121 at hs
  refine aw_vload_n (pc1 := 122) at_190_121 l0 i0 rfl ?_
  refine aw_vload_n (pc1 := 123) at_190_122 l0 i0 rfl ?_
  obtain ⟨v1, e2, hs1⟩ := am_bind hs
  clear hs
  refine aw_pG (pc1 := 126) at_190_123 (am_vR_s e2).1 rfl ?_
  obtain ⟨v3, e4, hs2⟩ := am_bind hs1
  clear hs1
  refine aw_pG (pc1 := 129) at_190_126 (am_vR_s e4).1 rfl ?_
  refine aw_iload_n (pc1 := 130) at_190_129 l2 rfl ?_
  by_cases c5 : 0 ≤ x2
  · rw [if_pos c5] at hs2
    refine aw_ifge_t at_190_130 c5 ?_
    refine aw_iconst (v := 4) (pc1 := 138) at_190_137 (by decide) rfl ?_
    exact rg_190_138 x1 x2 x3 x4 x7 x0 v3 4 h o l1 l2 l3 l4 l7 i0 (am_vR_s e4).2 hs2
  · rw [if_neg c5] at hs2
    refine aw_ifge_f (pc1 := 133) at_190_130 c5 rfl ?_
    refine aw_iconst (v := 3) (pc1 := 134) at_190_133 (by decide) rfl ?_
    refine aw_goto at_190_134 ?_
    exact rg_190_138 x1 x2 x3 x4 x7 x0 v3 3 h o l1 l2 l3 l4 l7 i0 (am_vR_s e4).2 hs2
def fg_190_95 (N : Nat) (x0 : Value) (x1 : Int32) (x2 : Int32) (x3 : Int32) (x4 : Int64) (x6 : Value) (s0 : Int32) (h : am_H) : Option am_O := ((am_vR (am_pG 2823 x0 h)).bind fun v1 => (if am_pOk 0 v1 h then am_cI true (fm_187 N v1 s0 h) (fun v4 h5 => (if ¬ v4 = 0 then (fg_190_121 N x0 x1 x2 x3 x4 s0 h5) else ((am_vR (am_pG 2823 x0 h5)).bind fun v8 => ((am_vR (am_pG 0 v8 h5)).bind fun v10 => (if am_pOk 3 v10 h5 then am_cV true (fm_60 v10 x6 h5) (fun h14 => (fg_190_121 N x0 x1 x2 x3 x4 s0 h14)) else none))))) else none))
theorem rg_190_95 {X : am_X} {d : Nat} {N : Nat} {lv : am_LV} (x0 : Value) (x1 : Int32) (x2 : Int32) (x3 : Int32) (x4 : Int64) (x6 : Value) (s0 : Int32) (h : am_H) (o : am_O) (l0 : lv.lookup 0 = some x0) (l1 : lv.lookup 1 = some (.int x1)) (l2 : lv.lookup 2 = some (.int x2)) (l3 : lv.lookup 3 = some (.int x3)) (l4 : lv.lookup 4 = some (.long x4)) (l6 : lv.lookup 6 = some x6) (i0 : am_isR x0 = true) (i6 : am_isR x6 = true) (hs : fg_190_95 N x0 x1 x2 x3 x4 x6 s0 h = some o) : am_W X (d + 123) 190 95 lv [(.int s0)] h (fun q => q = o) := by
  unfold fg_190_95 at hs
  refine aw_istore (lv1 := am_put1 _ 7 _) (pc1 := 97) at_190_95 rfl rfl ?_
  refine aw_vload_n (pc1 := 98) at_190_97 (am_lk1 l0 rfl rfl) i0 rfl ?_
  obtain ⟨v1, e2, hs1⟩ := am_bind hs
  clear hs
  refine aw_pG (pc1 := 101) at_190_98 (am_vR_s e2).1 rfl ?_
  refine aw_iload (pc1 := 103) at_190_101 am_lk0 rfl ?_
  obtain ⟨z3, hs2⟩ := am_ift hs1
  clear hs1
  refine aw_call (F := fm_187 N v1 s0 h) (t := true) (na := 2) (kd := 1) (as := [v1, (.int s0)]) at_190_103 (am_k3v kb_187) mn_187 mk_187 rfl rfl (am_ok_v mi_187 (am_hl rfl (am_ccR (am_vR_s e2).2 (am_ccI am_cats_0)) rfl) z3) (am_hc am_cats_0 rfl) (fun _ => ⟨rfl, hh_190⟩) (fun o1 hz9 => rm_187 v1 s0 h o1 (am_vR_s e2).2 hz9) ?_
  rcases am_cI_s hs2 with ⟨v4, h5, f6, hs3⟩ | hs3
  · clear hs2
    refine Or.inl ⟨_, _, f6, ?_⟩
    show am_W X _ 190 106 _ [(.int v4)] h5 _
    by_cases c7 : ¬ v4 = 0
    · rw [if_pos c7] at hs3
      refine aw_ifne_t at_190_106 c7 ?_
      exact rg_190_121 x0 x1 x2 x3 x4 s0 h5 o (am_lk1 l0 rfl rfl) (am_lk1 l1 rfl rfl) (am_lk1 l2 rfl rfl) (am_lk1 l3 rfl rfl) (am_lk1 l4 rfl rfl) am_lk0 i0 hs3
    · rw [if_neg c7] at hs3
      refine aw_ifne_f (pc1 := 109) at_190_106 c7 rfl ?_
      refine aw_vload_n (pc1 := 110) at_190_109 (am_lk1 l0 rfl rfl) i0 rfl ?_
      obtain ⟨v8, e9, hs4⟩ := am_bind hs3
      clear hs3
      refine aw_pG (pc1 := 113) at_190_110 (am_vR_s e9).1 rfl ?_
      obtain ⟨v10, e11, hs5⟩ := am_bind hs4
      clear hs4
      refine aw_pG (pc1 := 116) at_190_113 (am_vR_s e11).1 rfl ?_
      refine aw_vload (pc1 := 118) at_190_116 (am_lk1 l6 rfl (by rw [am_isRc i6]; rfl)) i6 rfl ?_
      obtain ⟨z12, hs6⟩ := am_ift hs5
      clear hs5
      refine aw_call (F := fm_60 v10 x6 h5) (t := true) (na := 2) (kd := 1) (as := [v10, x6]) at_190_118 (am_k3v kb_60) mn_60 mk_60 rfl rfl (am_ok_v mi_60 (am_hl rfl (am_ccR (am_vR_s e11).2 (am_ccR i6 am_cats_0)) rfl) z12) (am_hc am_cats_0 rfl) (fun _ => ⟨rfl, hh_190⟩) (fun o1 hz9 => rm_60 v10 x6 h5 o1 (am_vR_s e11).2 i6 hz9) ?_
      rcases am_cV_s hs6 with ⟨h14, f15, hs7⟩ | hs7
      · clear hs6
        refine Or.inl ⟨_, _, f15, ?_⟩
        show am_W X _ 190 121 _ [] h14 _
        exact rg_190_121 x0 x1 x2 x3 x4 s0 h14 o (am_lk1 l0 rfl rfl) (am_lk1 l1 rfl rfl) (am_lk1 l2 rfl rfl) (am_lk1 l3 rfl rfl) (am_lk1 l4 rfl rfl) am_lk0 i0 hs7
      · clear hs6
        exact Or.inr hs7
  · clear hs2
    exact Or.inr hs3
def fg_190_63 (N : Nat) (x0 : Value) (x1 : Int32) (x2 : Int32) (x3 : Int32) (x4 : Int64) (x6 : Value) (s0 : Value) (s1 : Value) (s2 : Value) (h : am_H) : Option am_O := (if am_pOk 0 s0 h then am_cI true (fm_159 N s0 s1 s2 x3 h) (fun v2 h3 => ((am_vR (am_pG 2823 x0 h3)).bind fun v5 => (if am_pOk 0 v5 h3 then am_cI true (fm_162 N v5 h3) (fun v8 h9 => (if v8 ≤ 0 then (fg_190_95 N x0 x1 x2 x3 x4 x6 ((-1)) h9) else ((am_vR (am_pG 2835 x0 h9)).bind fun v12 => (if am_pOk 8 v12 h9 then am_cI true (fm_192 v12 v8 h9) (fun v15 h16 => (fg_190_95 N x0 x1 x2 x3 x4 x6 v15 h16)) else none)))) else none))) else none)
theorem rg_190_63 {X : am_X} {d : Nat} {N : Nat} {lv : am_LV} (x0 : Value) (x1 : Int32) (x2 : Int32) (x3 : Int32) (x4 : Int64) (x6 : Value) (s0 : Value) (s1 : Value) (s2 : Value) (h : am_H) (o : am_O) (l0 : lv.lookup 0 = some x0) (l1 : lv.lookup 1 = some (.int x1)) (l2 : lv.lookup 2 = some (.int x2)) (l3 : lv.lookup 3 = some (.int x3)) (l4 : lv.lookup 4 = some (.long x4)) (l6 : lv.lookup 6 = some x6) (i0 : am_isR x0 = true) (i6 : am_isR x6 = true) (j0 : am_isR s0 = true) (j1 : am_isR s1 = true) (j2 : am_isR s2 = true) (hs : fg_190_63 N x0 x1 x2 x3 x4 x6 s0 s1 s2 h = some o) : am_W X (d + 123) 190 63 lv [s2, s1, s0] h (fun q => q = o) := by
  unfold fg_190_63 at hs
  refine aw_iload_n (pc1 := 64) at_190_63 l3 rfl ?_
  obtain ⟨z1, hs1⟩ := am_ift hs
  clear hs
  refine aw_call (F := fm_159 N s0 s1 s2 x3 h) (t := true) (na := 4) (kd := 1) (as := [s0, s1, s2, (.int x3)]) at_190_64 (am_k3v kb_159) mn_159 mk_159 rfl rfl (am_ok_v mi_159 (am_hl rfl (am_ccR j0 (am_ccR j1 (am_ccR j2 (am_ccI am_cats_0)))) rfl) z1) (am_hc am_cats_0 rfl) (fun _ => ⟨rfl, hh_190⟩) (fun o1 hz9 => rm_159 s0 s1 s2 x3 h o1 j0 j1 j2 hz9) ?_
  rcases am_cI_s hs1 with ⟨v2, h3, f4, hs2⟩ | hs2
  · clear hs1
    refine Or.inl ⟨_, _, f4, ?_⟩
    show am_W X _ 190 67 _ [(.int v2)] h3 _
    refine aw_popi (pc1 := 68) at_190_67 rfl ?_
    refine aw_vload_n (pc1 := 69) at_190_68 l0 i0 rfl ?_
    obtain ⟨v5, e6, hs3⟩ := am_bind hs2
    clear hs2
    refine aw_pG (pc1 := 72) at_190_69 (am_vR_s e6).1 rfl ?_
    obtain ⟨z7, hs4⟩ := am_ift hs3
    clear hs3
    refine aw_call (F := fm_162 N v5 h3) (t := true) (na := 1) (kd := 1) (as := [v5]) at_190_72 (am_k3v kb_162) mn_162 mk_162 rfl rfl (am_ok_v mi_162 (am_hl rfl (am_ccR (am_vR_s e6).2 am_cats_0) rfl) z7) (am_hc am_cats_0 rfl) (fun _ => ⟨rfl, hh_190⟩) (fun o1 hz9 => rm_162 v5 h3 o1 (am_vR_s e6).2 hz9) ?_
    rcases am_cI_s hs4 with ⟨v8, h9, f10, hs5⟩ | hs5
    · clear hs4
      refine Or.inl ⟨_, _, f10, ?_⟩
      show am_W X _ 190 75 _ [(.int v8)] h9 _
      refine aw_istore (lv1 := am_put1 _ 8 _) (pc1 := 77) at_190_75 rfl rfl ?_
      refine aw_iload (pc1 := 79) at_190_77 am_lk0 rfl ?_
      by_cases c11 : v8 ≤ 0
      · rw [if_pos c11] at hs5
        refine aw_ifle_t at_190_79 c11 ?_
        refine aw_iconst (v := (-1)) (pc1 := 95) at_190_94 (by decide) rfl ?_
        exact rg_190_95 x0 x1 x2 x3 x4 x6 ((-1)) h9 o (am_lk1 l0 rfl rfl) (am_lk1 l1 rfl rfl) (am_lk1 l2 rfl rfl) (am_lk1 l3 rfl rfl) (am_lk1 l4 rfl rfl) (am_lk1 l6 rfl rfl) i0 i6 hs5
      · rw [if_neg c11] at hs5
        refine aw_ifle_f (pc1 := 82) at_190_79 c11 rfl ?_
        refine aw_vload_n (pc1 := 83) at_190_82 (am_lk1 l0 rfl rfl) i0 rfl ?_
        obtain ⟨v12, e13, hs6⟩ := am_bind hs5
        clear hs5
        refine aw_pG (pc1 := 86) at_190_83 (am_vR_s e13).1 rfl ?_
        refine aw_iload (pc1 := 88) at_190_86 am_lk0 rfl ?_
        obtain ⟨z14, hs7⟩ := am_ift hs6
        clear hs6
        refine aw_call (F := fm_192 v12 v8 h9) (t := true) (na := 2) (kd := 1) (as := [v12, (.int v8)]) at_190_88 (am_k3v kb_192) mn_192 mk_192 rfl rfl (am_ok_v mi_192 (am_hl rfl (am_ccR (am_vR_s e13).2 (am_ccI am_cats_0)) rfl) z14) (am_hc am_cats_0 rfl) (fun _ => ⟨rfl, hh_190⟩) (fun o1 hz9 => rm_192 v12 v8 h9 o1 (am_vR_s e13).2 hz9) ?_
        rcases am_cI_s hs7 with ⟨v15, h16, f17, hs8⟩ | hs8
        · clear hs7
          refine Or.inl ⟨_, _, f17, ?_⟩
          show am_W X _ 190 91 _ [(.int v15)] h16 _
          refine aw_goto at_190_91 ?_
          exact rg_190_95 x0 x1 x2 x3 x4 x6 v15 h16 o (am_lk1 l0 rfl rfl) (am_lk1 l1 rfl rfl) (am_lk1 l2 rfl rfl) (am_lk1 l3 rfl rfl) (am_lk1 l4 rfl rfl) (am_lk1 l6 rfl rfl) i0 i6 hs8
        · clear hs7
          exact Or.inr hs8
    · clear hs4
      exact Or.inr hs5
  · clear hs1
    exact Or.inr hs2
def fg_190_0 (N : Nat) (x0 : Value) (x1 : Int32) (x2 : Int32) (x3 : Int32) (x4 : Int64) (h : am_H) : Option am_O := (if am_pOk 11 x0 h then am_cR true (fm_63 x0 x1 h) (fun v2 h3 => ((am_vR (am_pG 2835 x0 h3)).bind fun v5 => ((am_pP 2048 v5 (.long x4) h3).bind fun h7 => (if ¬ x3 = 4 then ((am_vR (am_pG 2823 x0 h7)).bind fun v10 => (if 0 ≤ x2 then (if am_pOk 11 x0 h7 then am_cR true (fm_63 x0 x2 h7) (fun v14 h15 => (fg_190_63 N x0 x1 x2 x3 x4 v2 v10 v2 v14 h15)) else none) else (fg_190_63 N x0 x1 x2 x3 x4 v2 v10 v2 Value.null h7))) else ((am_vR (am_pG 2823 x0 h7)).bind fun v17 => ((am_vR (am_pG 2835 x0 h7)).bind fun v19 => ((am_vR (am_pG 2822 x0 h7)).bind fun v21 => (if am_pOk 0 v17 h7 then am_cV true (fm_191 N v17 v2 v19 v21 h7) (fun h25 => (fg_190_121 N x0 x1 x2 x3 x4 ((-1)) h25)) else none)))))))) else none)
theorem rg_190_0 {X : am_X} {d : Nat} {N : Nat} {lv : am_LV} (x0 : Value) (x1 : Int32) (x2 : Int32) (x3 : Int32) (x4 : Int64) (h : am_H) (o : am_O) (l0 : lv.lookup 0 = some x0) (l1 : lv.lookup 1 = some (.int x1)) (l2 : lv.lookup 2 = some (.int x2)) (l3 : lv.lookup 3 = some (.int x3)) (l4 : lv.lookup 4 = some (.long x4)) (i0 : am_isR x0 = true) (hs : fg_190_0 N x0 x1 x2 x3 x4 h = some o) : am_W X (d + 123) 190 0 lv [] h (fun q => q = o) := by
  unfold fg_190_0 at hs
  refine aw_vload_n (pc1 := 1) at_190_0 l0 i0 rfl ?_
  refine aw_iload_n (pc1 := 2) at_190_1 l1 rfl ?_
  obtain ⟨z1, hs1⟩ := am_ift hs
  clear hs
  refine aw_call (F := fm_63 x0 x1 h) (t := true) (na := 2) (kd := 1) (as := [x0, (.int x1)]) at_190_2 (am_k3v kb_63) mn_63 mk_63 rfl rfl (am_ok_v mi_63 (am_hl rfl (am_ccR i0 (am_ccI am_cats_0)) rfl) z1) (am_hc am_cats_0 rfl) (fun _ => ⟨rfl, hh_190⟩) (fun o1 hz9 => rm_63 x0 x1 h o1 i0 hz9) ?_
  rcases am_cR_s hs1 with ⟨v2, h3, f4, iv2, hs2⟩ | hs2
  · clear hs1
    refine Or.inl ⟨_, _, f4, ?_⟩
    show am_W X _ 190 5 _ [v2] h3 _
    refine aw_vstore (lv1 := am_put1 _ 6 _) (pc1 := 7) at_190_5 iv2 rfl rfl ?_
    refine aw_iconst (v := (-1)) (pc1 := 8) at_190_7 (by decide) rfl ?_
    refine aw_istore (lv1 := am_put1 _ 7 _) (pc1 := 10) at_190_8 rfl rfl ?_
    refine aw_vload_n (pc1 := 11) at_190_10 (am_lk1 (am_lk1 l0 rfl rfl) rfl rfl) i0 rfl ?_
    obtain ⟨v5, e6, hs3⟩ := am_bind hs2
    clear hs2
    refine aw_pG (pc1 := 14) at_190_11 (am_vR_s e6).1 rfl ?_
    refine aw_lload (pc1 := 16) at_190_14 (am_lk1 (am_lk1 l4 rfl rfl) rfl rfl) rfl ?_
    obtain ⟨h7, e8, hs4⟩ := am_bind hs3
    clear hs3
    refine aw_pP (pc1 := 19) at_190_16 e8 rfl ?_
    refine aw_iload_n (pc1 := 20) at_190_19 (am_lk1 (am_lk1 l3 rfl rfl) rfl rfl) rfl ?_
    refine aw_iconst (v := 4) (pc1 := 21) at_190_20 (by decide) rfl ?_
    by_cases c9 : ¬ x3 = 4
    · rw [if_pos c9] at hs4
      refine aw_icne_t at_190_21 c9 ?_
      refine aw_vload_n (pc1 := 45) at_190_44 (am_lk1 (am_lk1 l0 rfl rfl) rfl rfl) i0 rfl ?_
      obtain ⟨v10, e11, hs5⟩ := am_bind hs4
      clear hs4
      refine aw_pG (pc1 := 48) at_190_45 (am_vR_s e11).1 rfl ?_
      refine aw_vload (pc1 := 50) at_190_48 (am_lk1 am_lk0 rfl (by rw [am_isRc iv2]; rfl)) iv2 rfl ?_
      refine aw_iload_n (pc1 := 51) at_190_50 (am_lk1 (am_lk1 l2 rfl rfl) rfl rfl) rfl ?_
      by_cases c12 : 0 ≤ x2
      · rw [if_pos c12] at hs5
        refine aw_ifge_t at_190_51 c12 ?_
        refine aw_vload_n (pc1 := 59) at_190_58 (am_lk1 (am_lk1 l0 rfl rfl) rfl rfl) i0 rfl ?_
        refine aw_iload_n (pc1 := 60) at_190_59 (am_lk1 (am_lk1 l2 rfl rfl) rfl rfl) rfl ?_
        obtain ⟨z13, hs6⟩ := am_ift hs5
        clear hs5
        refine aw_call (F := fm_63 x0 x2 h7) (t := true) (na := 2) (kd := 1) (as := [x0, (.int x2)]) at_190_60 (am_k3v kb_63) mn_63 mk_63 rfl rfl (am_ok_v mi_63 (am_hl rfl (am_ccR i0 (am_ccI am_cats_0)) rfl) z13) (am_hc (am_ccR iv2 (am_ccR (am_vR_s e11).2 am_cats_0)) rfl) (fun _ => ⟨rfl, hh_190⟩) (fun o1 hz9 => rm_63 x0 x2 h7 o1 i0 hz9) ?_
        rcases am_cR_s hs6 with ⟨v14, h15, f16, iv14, hs7⟩ | hs7
        · clear hs6
          refine Or.inl ⟨_, _, f16, ?_⟩
          show am_W X _ 190 63 _ [v14, v2, v10] h15 _
          exact rg_190_63 x0 x1 x2 x3 x4 v2 v10 v2 v14 h15 o (am_lk1 (am_lk1 l0 rfl rfl) rfl rfl) (am_lk1 (am_lk1 l1 rfl rfl) rfl rfl) (am_lk1 (am_lk1 l2 rfl rfl) rfl rfl) (am_lk1 (am_lk1 l3 rfl rfl) rfl rfl) (am_lk1 (am_lk1 l4 rfl rfl) rfl rfl) (am_lk1 am_lk0 rfl (by rw [am_isRc iv2]; rfl)) i0 iv2 (am_vR_s e11).2 iv2 iv14 hs7
        · clear hs6
          exact Or.inr hs7
      · rw [if_neg c12] at hs5
        refine aw_ifge_f (pc1 := 54) at_190_51 c12 rfl ?_
        refine aw_null (pc1 := 55) at_190_54 rfl ?_
        refine aw_goto at_190_55 ?_
        exact rg_190_63 x0 x1 x2 x3 x4 v2 v10 v2 Value.null h7 o (am_lk1 (am_lk1 l0 rfl rfl) rfl rfl) (am_lk1 (am_lk1 l1 rfl rfl) rfl rfl) (am_lk1 (am_lk1 l2 rfl rfl) rfl rfl) (am_lk1 (am_lk1 l3 rfl rfl) rfl rfl) (am_lk1 (am_lk1 l4 rfl rfl) rfl rfl) (am_lk1 am_lk0 rfl (by rw [am_isRc iv2]; rfl)) i0 iv2 (am_vR_s e11).2 iv2 rfl hs5
    · rw [if_neg c9] at hs4
      refine aw_icne_f (pc1 := 24) at_190_21 c9 rfl ?_
      refine aw_vload_n (pc1 := 25) at_190_24 (am_lk1 (am_lk1 l0 rfl rfl) rfl rfl) i0 rfl ?_
      obtain ⟨v17, e18, hs8⟩ := am_bind hs4
      clear hs4
      refine aw_pG (pc1 := 28) at_190_25 (am_vR_s e18).1 rfl ?_
      refine aw_vload (pc1 := 30) at_190_28 (am_lk1 am_lk0 rfl (by rw [am_isRc iv2]; rfl)) iv2 rfl ?_
      refine aw_vload_n (pc1 := 31) at_190_30 (am_lk1 (am_lk1 l0 rfl rfl) rfl rfl) i0 rfl ?_
      obtain ⟨v19, e20, hs9⟩ := am_bind hs8
      clear hs8
      refine aw_pG (pc1 := 34) at_190_31 (am_vR_s e20).1 rfl ?_
      refine aw_vload_n (pc1 := 35) at_190_34 (am_lk1 (am_lk1 l0 rfl rfl) rfl rfl) i0 rfl ?_
      obtain ⟨v21, e22, hs10⟩ := am_bind hs9
      clear hs9
      refine aw_pG (pc1 := 38) at_190_35 (am_vR_s e22).1 rfl ?_
      obtain ⟨z23, hs11⟩ := am_ift hs10
      clear hs10
      refine aw_call (F := fm_191 N v17 v2 v19 v21 h7) (t := true) (na := 4) (kd := 1) (as := [v17, v2, v19, v21]) at_190_38 (am_k3v kb_191) mn_191 mk_191 rfl rfl (am_ok_v mi_191 (am_hl rfl (am_ccR (am_vR_s e18).2 (am_ccR iv2 (am_ccR (am_vR_s e20).2 (am_ccR (am_vR_s e22).2 am_cats_0)))) rfl) z23) (am_hc am_cats_0 rfl) (fun _ => ⟨rfl, hh_190⟩) (fun o1 hz9 => rm_191 v17 v2 v19 v21 h7 o1 (am_vR_s e18).2 iv2 (am_vR_s e20).2 (am_vR_s e22).2 hz9) ?_
      rcases am_cV_s hs11 with ⟨h25, f26, hs12⟩ | hs12
      · clear hs11
        refine Or.inl ⟨_, _, f26, ?_⟩
        show am_W X _ 190 41 _ [] h25 _
        refine aw_goto at_190_41 ?_
        exact rg_190_121 x0 x1 x2 x3 x4 ((-1)) h25 o (am_lk1 (am_lk1 l0 rfl rfl) rfl rfl) (am_lk1 (am_lk1 l1 rfl rfl) rfl rfl) (am_lk1 (am_lk1 l2 rfl rfl) rfl rfl) (am_lk1 (am_lk1 l3 rfl rfl) rfl rfl) (am_lk1 (am_lk1 l4 rfl rfl) rfl rfl) am_lk0 i0 hs12
      · clear hs11
        exact Or.inr hs12
  · clear hs1
    exact Or.inr hs2
def fm_190 (N : Nat) (y0 : Value) (y1 : Int32) (y2 : Int32) (y3 : Int32) (y4 : Int64) (h : am_H) : Option am_O := fg_190_0 N y0 y1 y2 y3 y4 h
theorem rm_190 {X : am_X} {d : Nat} {N : Nat} (y0 : Value) (y1 : Int32) (y2 : Int32) (y3 : Int32) (y4 : Int64) (h : am_H) (o : am_O) (i0 : am_isR y0 = true) (hs : fm_190 N y0 y1 y2 y3 y4 h = some o) : am_W X (d + 123) 190 0 (am_args 0 [y0, .int y1, .int y2, .int y3, .long y4]) [] h (fun q => q = o) := by
  rw [am_args_R i0, am_args_I, am_args_I, am_args_I, am_args_L]
  exact rg_190_0 y0 y1 y2 y3 y4 h o rfl rfl rfl rfl rfl i0 hs
def fg_189_40 (N : Nat) (x0 : Value) (x1 : Int32) (x2 : Int32) (x3 : Int64) (h : am_H) : Option am_O := (if am_pOk 11 x0 h then am_cV true (fm_32 x0 1 h) (fun h3 => (if am_pOk 11 x0 h3 then am_cI true (fm_190 N x0 x1 ((-1)) x2 x3 h3) (fun v6 h7 => some (.inl (some (.int v6), h7))) else none)) else none)
theorem rg_189_40 {X : am_X} {d : Nat} {N : Nat} {lv : am_LV} (x0 : Value) (x1 : Int32) (x2 : Int32) (x3 : Int64) (h : am_H) (o : am_O) (l0 : lv.lookup 0 = some x0) (l1 : lv.lookup 1 = some (.int x1)) (l2 : lv.lookup 2 = some (.int x2)) (l3 : lv.lookup 3 = some (.long x3)) (i0 : am_isR x0 = true) (hs : fg_189_40 N x0 x1 x2 x3 h = some o) : am_W X (d + 124) 189 40 lv [] h (fun q => q = o) := by
  unfold fg_189_40 at hs
  refine aw_vload_n (pc1 := 41) at_189_40 l0 i0 rfl ?_
  refine aw_iconst (v := 1) (pc1 := 42) at_189_41 (by decide) rfl ?_
  obtain ⟨z1, hs1⟩ := am_ift hs
  clear hs
  refine aw_call (F := fm_32 x0 1 h) (t := true) (na := 2) (kd := 1) (as := [x0, (.int 1)]) at_189_42 (am_k3v kb_32) mn_32 mk_32 rfl rfl (am_ok_v mi_32 (am_hl rfl (am_ccR i0 (am_ccI am_cats_0)) rfl) z1) (am_hc am_cats_0 rfl) (fun _ => ⟨rfl, hh_189⟩) (fun o1 hz9 => rm_32 x0 1 h o1 i0 hz9) ?_
  rcases am_cV_s hs1 with ⟨h3, f4, hs2⟩ | hs2
  · clear hs1
    refine Or.inl ⟨_, _, f4, ?_⟩
    show am_W X _ 189 45 _ [] h3 _
    refine aw_vload_n (pc1 := 46) at_189_45 l0 i0 rfl ?_
    refine aw_iload_n (pc1 := 47) at_189_46 l1 rfl ?_
    refine aw_iconst (v := (-1)) (pc1 := 48) at_189_47 (by decide) rfl ?_
    refine aw_iload_n (pc1 := 49) at_189_48 l2 rfl ?_
    refine aw_lload_n (pc1 := 50) at_189_49 l3 rfl ?_
    obtain ⟨z5, hs3⟩ := am_ift hs2
    clear hs2
    refine aw_call (F := fm_190 N x0 x1 ((-1)) x2 x3 h3) (t := true) (na := 5) (kd := 1) (as := [x0, (.int x1), (.int (-1)), (.int x2), (.long x3)]) at_189_50 (am_k3v kb_190) mn_190 mk_190 rfl rfl (am_ok_v mi_190 (am_hl rfl (am_ccR i0 (am_ccI (am_ccI (am_ccI (am_ccL am_cats_0))))) rfl) z5) (am_hc am_cats_0 rfl) (fun _ => ⟨rfl, hh_189⟩) (fun o1 hz9 => rm_190 x0 x1 ((-1)) x2 x3 h3 o1 i0 hz9) ?_
    rcases am_cI_s hs3 with ⟨v6, h7, f8, hs4⟩ | hs4
    · clear hs3
      refine Or.inl ⟨_, _, f8, ?_⟩
      show am_W X _ 189 53 _ [(.int v6)] h7 _
      cases hs4
      exact aw_iret at_189_53 (by rw [rt_189]; rfl) rfl
    · clear hs3
      exact Or.inr hs4
  · clear hs1
    exact Or.inr hs2
def fg_189_29 (N : Nat) (h : am_H) : Option am_O := some (.inr (0, h ++ [am_dummy]))
theorem rg_189_29 {X : am_X} {d : Nat} {N : Nat} {lv : am_LV} (h : am_H) (o : am_O) (hs : fg_189_29 N h = some o) : am_W X (d + 124) 189 29 lv [] h (fun q => q = o) := by
  unfold fg_189_29 at hs
  cases hs
  exact aw_throw at_189_29 rfl th_189_29 (am_hc am_cats_0 rfl) rfl
def fg_189_0 (N : Nat) (x0 : Value) (x1 : Int32) (x2 : Int32) (x3 : Int64) (h : am_H) : Option am_O := (if am_pOk 11 x0 h then am_cR true (fm_63 x0 x1 h) (fun v2 h3 => (if x2 < 0 then (fg_189_29 N h3) else (if 4 < x2 then (fg_189_29 N h3) else (if ¬ x2 = 4 then (fg_189_40 N x0 x1 x2 x3 h3) else ((am_vI (am_pG 769 v2 h3)).bind fun v8 => (if v8 = 0 then (fg_189_40 N x0 x1 x2 x3 h3) else (fg_189_29 N h3))))))) else none)
theorem rg_189_0 {X : am_X} {d : Nat} {N : Nat} {lv : am_LV} (x0 : Value) (x1 : Int32) (x2 : Int32) (x3 : Int64) (h : am_H) (o : am_O) (l0 : lv.lookup 0 = some x0) (l1 : lv.lookup 1 = some (.int x1)) (l2 : lv.lookup 2 = some (.int x2)) (l3 : lv.lookup 3 = some (.long x3)) (i0 : am_isR x0 = true) (hs : fg_189_0 N x0 x1 x2 x3 h = some o) : am_W X (d + 124) 189 0 lv [] h (fun q => q = o) := by
  unfold fg_189_0 at hs
  refine aw_vload_n (pc1 := 1) at_189_0 l0 i0 rfl ?_
  refine aw_iload_n (pc1 := 2) at_189_1 l1 rfl ?_
  obtain ⟨z1, hs1⟩ := am_ift hs
  clear hs
  refine aw_call (F := fm_63 x0 x1 h) (t := true) (na := 2) (kd := 1) (as := [x0, (.int x1)]) at_189_2 (am_k3v kb_63) mn_63 mk_63 rfl rfl (am_ok_v mi_63 (am_hl rfl (am_ccR i0 (am_ccI am_cats_0)) rfl) z1) (am_hc am_cats_0 rfl) (fun _ => ⟨rfl, hh_189⟩) (fun o1 hz9 => rm_63 x0 x1 h o1 i0 hz9) ?_
  rcases am_cR_s hs1 with ⟨v2, h3, f4, iv2, hs2⟩ | hs2
  · clear hs1
    refine Or.inl ⟨_, _, f4, ?_⟩
    show am_W X _ 189 5 _ [v2] h3 _
    refine aw_vstore (lv1 := am_put1 _ 5 _) (pc1 := 7) at_189_5 iv2 rfl rfl ?_
    refine aw_iload_n (pc1 := 8) at_189_7 (am_lk1 l2 rfl rfl) rfl ?_
    by_cases c5 : x2 < 0
    · rw [if_pos c5] at hs2
      refine aw_iflt_t at_189_8 c5 ?_
      exact rg_189_29 h3 o   hs2
    · rw [if_neg c5] at hs2
      refine aw_iflt_f (pc1 := 11) at_189_8 c5 rfl ?_
      refine aw_iload_n (pc1 := 12) at_189_11 (am_lk1 l2 rfl rfl) rfl ?_
      refine aw_iconst (v := 4) (pc1 := 13) at_189_12 (by decide) rfl ?_
      by_cases c6 : 4 < x2
      · rw [if_pos c6] at hs2
        refine aw_icgt_t at_189_13 c6 ?_
        exact rg_189_29 h3 o   hs2
      · rw [if_neg c6] at hs2
        refine aw_icgt_f (pc1 := 16) at_189_13 c6 rfl ?_
        refine aw_iload_n (pc1 := 17) at_189_16 (am_lk1 l2 rfl rfl) rfl ?_
        refine aw_iconst (v := 4) (pc1 := 18) at_189_17 (by decide) rfl ?_
        by_cases c7 : ¬ x2 = 4
        · rw [if_pos c7] at hs2
          refine aw_icne_t at_189_18 c7 ?_
          exact rg_189_40 x0 x1 x2 x3 h3 o (am_lk1 l0 rfl rfl) (am_lk1 l1 rfl rfl) (am_lk1 l2 rfl rfl) (am_lk1 l3 rfl rfl) i0 hs2
        · rw [if_neg c7] at hs2
          refine aw_icne_f (pc1 := 21) at_189_18 c7 rfl ?_
          refine aw_vload (pc1 := 23) at_189_21 am_lk0 iv2 rfl ?_
          obtain ⟨v8, e9, hs3⟩ := am_bind hs2
          clear hs2
          refine aw_pG (pc1 := 26) at_189_23 (am_vI_s e9) rfl ?_
          by_cases c10 : v8 = 0
          · rw [if_pos c10] at hs3
            refine aw_ifeq_t at_189_26 c10 ?_
            exact rg_189_40 x0 x1 x2 x3 h3 o (am_lk1 l0 rfl rfl) (am_lk1 l1 rfl rfl) (am_lk1 l2 rfl rfl) (am_lk1 l3 rfl rfl) i0 hs3
          · rw [if_neg c10] at hs3
            refine aw_ifeq_f (pc1 := 29) at_189_26 c10 rfl ?_
            exact rg_189_29 h3 o   hs3
  · clear hs1
    exact Or.inr hs2
def fm_189 (N : Nat) (y0 : Value) (y1 : Int32) (y2 : Int32) (y3 : Int64) (h : am_H) : Option am_O := fg_189_0 N y0 y1 y2 y3 h
theorem rm_189 {X : am_X} {d : Nat} {N : Nat} (y0 : Value) (y1 : Int32) (y2 : Int32) (y3 : Int64) (h : am_H) (o : am_O) (i0 : am_isR y0 = true) (hs : fm_189 N y0 y1 y2 y3 h = some o) : am_W X (d + 124) 189 0 (am_args 0 [y0, .int y1, .int y2, .long y3]) [] h (fun q => q = o) := by
  rw [am_args_R i0, am_args_I, am_args_I, am_args_L]
  exact rg_189_0 y0 y1 y2 y3 h o rfl rfl rfl rfl i0 hs
def fg_188_25 (N : Nat) (h : am_H) : Option am_O := some (.inl (some (.int 3), h))
theorem rg_188_25 {X : am_X} {d : Nat} {N : Nat} {lv : am_LV} (h : am_H) (o : am_O) (hs : fg_188_25 N h = some o) : am_W X (d + 125) 188 25 lv [] h (fun q => q = o) := by
  unfold fg_188_25 at hs
  refine aw_iconst (v := 3) (pc1 := 26) at_188_25 (by decide) rfl ?_
  cases hs
  exact aw_iret at_188_26 (by rw [rt_188]; rfl) rfl
def fg_188_21 (N : Nat) (h : am_H) : Option am_O := some (.inl (some (.int 2), h))
theorem rg_188_21 {X : am_X} {d : Nat} {N : Nat} {lv : am_LV} (h : am_H) (o : am_O) (hs : fg_188_21 N h = some o) : am_W X (d + 125) 188 21 lv [] h (fun q => q = o) := by
  unfold fg_188_21 at hs
  refine aw_iconst (v := 2) (pc1 := 22) at_188_21 (by decide) rfl ?_
  cases hs
  exact aw_iret at_188_22 (by rw [rt_188]; rfl) rfl
def fg_188_17 (N : Nat) (h : am_H) : Option am_O := some (.inl (some (.int 1), h))
theorem rg_188_17 {X : am_X} {d : Nat} {N : Nat} {lv : am_LV} (h : am_H) (o : am_O) (hs : fg_188_17 N h = some o) : am_W X (d + 125) 188 17 lv [] h (fun q => q = o) := by
  unfold fg_188_17 at hs
  refine aw_iconst (v := 1) (pc1 := 18) at_188_17 (by decide) rfl ?_
  cases hs
  exact aw_iret at_188_18 (by rw [rt_188]; rfl) rfl
def fg_188_0 (N : Nat) (x0 : Value) (x1 : Int32) (x2 : Int32) (x3 : Int64) (x5 : Value) (h : am_H) : Option am_O := (if am_pOk 11 x0 h then (match fm_189 N x0 x1 x2 x3 h with | some (.inl (some (.int v2), h3)) => ((am_pSL x5 0 (Int32.toInt64 v2) h3).bind fun h5 => some (.inl (some (.int 0), h5))) | some (.inr (0, h7)) => (fg_188_21 N h7) | some (.inr (1, h9)) => (fg_188_25 N h9) | some (.inr (2, h11)) => (fg_188_17 N h11) | _ => none) else none)
theorem rg_188_0 {X : am_X} {d : Nat} {N : Nat} {lv : am_LV} (x0 : Value) (x1 : Int32) (x2 : Int32) (x3 : Int64) (x5 : Value) (h : am_H) (o : am_O) (l0 : lv.lookup 0 = some x0) (l1 : lv.lookup 1 = some (.int x1)) (l2 : lv.lookup 2 = some (.int x2)) (l3 : lv.lookup 3 = some (.long x3)) (l5 : lv.lookup 5 = some x5) (i0 : am_isR x0 = true) (i5 : am_isR x5 = true) (hs : fg_188_0 N x0 x1 x2 x3 x5 h = some o) : am_W X (d + 125) 188 0 lv [] h (fun q => q = o) := by
  unfold fg_188_0 at hs
  refine aw_vload (pc1 := 2) at_188_0 l5 i5 rfl ?_
  refine aw_iconst (v := 0) (pc1 := 3) at_188_2 (by decide) rfl ?_
  refine aw_vload_n (pc1 := 4) at_188_3 l0 i0 rfl ?_
  refine aw_iload_n (pc1 := 5) at_188_4 l1 rfl ?_
  refine aw_iload_n (pc1 := 6) at_188_5 l2 rfl ?_
  refine aw_lload_n (pc1 := 7) at_188_6 l3 rfl ?_
  obtain ⟨z1, hs1⟩ := am_ift hs
  clear hs
  refine aw_callH (F := fm_189 N x0 x1 x2 x3 h) (na := 4) (kd := 1) (as := [x0, (.int x1), (.int x2), (.long x3)]) at_188_7 (am_k3v kb_189) mn_189 mk_189 rfl rfl (am_ok_v mi_189 (am_hl rfl (am_ccR i0 (am_ccI (am_ccI (am_ccL am_cats_0)))) rfl) z1) (am_hc (am_ccI (am_ccR i5 am_cats_0)) rfl) (fun o1 hz9 => rm_189 x0 x1 x2 x3 h o1 i0 hz9) ?_
  split at hs1
  · rename_i v2 h3 f4
    refine Or.inl ⟨_, _, f4, ?_⟩
    show am_W X _ 188 10 _ [(.int v2), (.int 0), x5] h3 _
    refine aw_i2l (v := (Int32.toInt64 v2)) (pc1 := 11) at_188_10 rfl rfl ?_
    obtain ⟨h5, e6, hs2⟩ := am_bind hs1
    clear hs1
    refine aw_pSL (pc1 := 12) at_188_11 e6 rfl ?_
    refine aw_goto at_188_12 ?_
    refine aw_iconst (v := 0) (pc1 := 28) at_188_27 (by decide) rfl ?_
    cases hs2
    exact aw_iret at_188_28 (by rw [rt_188]; rfl) rfl
  · rename_i h7 f8
    refine Or.inr ⟨_, _, 21, 6, f8, rfl, hn_188, hd_188_7_0, ?_⟩
    exact rg_188_21 h7 o   hs1
  · rename_i h9 f10
    refine Or.inr ⟨_, _, 25, 6, f10, rfl, hn_188, hd_188_7_1, ?_⟩
    exact rg_188_25 h9 o   hs1
  · rename_i h11 f12
    refine Or.inr ⟨_, _, 17, 6, f12, rfl, hn_188, hd_188_7_2, ?_⟩
    exact rg_188_17 h11 o   hs1
  · cases hs1
def fm_188 (N : Nat) (y0 : Value) (y1 : Int32) (y2 : Int32) (y3 : Int64) (y4 : Value) (h : am_H) : Option am_O := fg_188_0 N y0 y1 y2 y3 y4 h
theorem rm_188 {X : am_X} {d : Nat} {N : Nat} (y0 : Value) (y1 : Int32) (y2 : Int32) (y3 : Int64) (y4 : Value) (h : am_H) (o : am_O) (i0 : am_isR y0 = true) (i4 : am_isR y4 = true) (hs : fm_188 N y0 y1 y2 y3 y4 h = some o) : am_W X (d + 125) 188 0 (am_args 0 [y0, .int y1, .int y2, .long y3, y4]) [] h (fun q => q = o) := by
  rw [am_args_R i0, am_args_I, am_args_I, am_args_L, am_args_R i4]
  exact rg_188_0 y0 y1 y2 y3 y4 h o rfl rfl rfl rfl rfl i0 i4 hs
def fg_471_43 (s0 : Int32) (h : am_H) : Option am_O := (if am_rfit (some FieldType.boolean) s0 then some (.inl (some (.int s0), h)) else none)
theorem rg_471_43 {X : am_X} {d : Nat} {lv : am_LV} (s0 : Int32) (h : am_H) (o : am_O) (hs : fg_471_43 s0 h = some o) : am_W X (d + 2) 471 43 lv [(.int s0)] h (fun q => q = o) := by
  unfold fg_471_43 at hs
  obtain ⟨z1, hs1⟩ := am_ift hs
  clear hs
  cases hs1
  exact aw_iret at_471_43 (by rw [rt_471]; exact z1) rfl
def fg_471_42 (h : am_H) : Option am_O := (fg_471_43 0 h)
theorem rg_471_42 {X : am_X} {d : Nat} {lv : am_LV} (h : am_H) (o : am_O) (hs : fg_471_42 h = some o) : am_W X (d + 2) 471 42 lv [] h (fun q => q = o) := by
  unfold fg_471_42 at hs
  refine aw_iconst (v := 0) (pc1 := 43) at_471_42 (by decide) rfl ?_
  exact rg_471_43 0 h o   hs
def fg_471_38 (h : am_H) : Option am_O := (fg_471_43 1 h)
theorem rg_471_38 {X : am_X} {d : Nat} {lv : am_LV} (h : am_H) (o : am_O) (hs : fg_471_38 h = some o) : am_W X (d + 2) 471 38 lv [] h (fun q => q = o) := by
  unfold fg_471_38 at hs
  refine aw_iconst (v := 1) (pc1 := 39) at_471_38 (by decide) rfl ?_
  refine aw_goto at_471_39 ?_
  exact rg_471_43 1 h o   hs
def fg_471_34 (s0 : Value) (s1 : Int32) (h : am_H) : Option am_O := ((am_pA 0 s0 s1 h).bind fun v1 => (if ¬ v1 = 0 then (fg_471_42 h) else (fg_471_38 h)))
theorem rg_471_34 {X : am_X} {d : Nat} {lv : am_LV} (s0 : Value) (s1 : Int32) (h : am_H) (o : am_O) (j0 : am_isR s0 = true) (hs : fg_471_34 s0 s1 h = some o) : am_W X (d + 2) 471 34 lv [(.int s1), s0] h (fun q => q = o) := by
  unfold fg_471_34 at hs
  obtain ⟨v1, e2, hs1⟩ := am_bind hs
  clear hs
  refine aw_pA (pc1 := 35) at_471_34 (Or.inl ⟨rfl, rfl⟩) e2 rfl ?_
  by_cases c3 : ¬ v1 = 0
  · rw [if_pos c3] at hs1
    refine aw_ifne_t at_471_35 c3 ?_
    exact rg_471_42 h o   hs1
  · rw [if_neg c3] at hs1
    refine aw_ifne_f (pc1 := 38) at_471_35 c3 rfl ?_
    exact rg_471_38 h o   hs1
def fg_471_0 (x0 : Value) (x1 : Int32) (x2 : Int32) (h : am_H) : Option am_O := am_cI false (fm_327 ((Int32.toInt64 x2)) 0 3 h) (fun v1 h2 => (if ¬ v1 = 0 then (fg_471_38 h2) else (if ¬ x2 = 4 then (fg_471_42 h2) else ((am_vR (am_pG 3074 x0 h2)).bind fun v6 => (if am_pOk 12 x0 h2 then am_cI true (fm_358 x0 x1 h2) (fun v9 h10 => (if v9 = 0 then (fg_471_34 v6 0 h10) else (fg_471_34 v6 x1 h10))) else none)))))
theorem rg_471_0 {X : am_X} {d : Nat} {lv : am_LV} (x0 : Value) (x1 : Int32) (x2 : Int32) (h : am_H) (o : am_O) (l0 : lv.lookup 0 = some x0) (l1 : lv.lookup 1 = some (.int x1)) (l2 : lv.lookup 2 = some (.int x2)) (i0 : am_isR x0 = true) (hs : fg_471_0 x0 x1 x2 h = some o) : am_W X (d + 2) 471 0 lv [] h (fun q => q = o) := by
  unfold fg_471_0 at hs
  refine aw_iload_n (pc1 := 1) at_471_0 l2 rfl ?_
  refine aw_i2l (v := (Int32.toInt64 x2)) (pc1 := 2) at_471_1 rfl rfl ?_
  refine aw_lconst (v := 0) (pc1 := 3) at_471_2 (by decide) rfl ?_
  refine aw_ldc2 (v := 3) (pc1 := 6) at_471_3 rfl rfl ?_
  refine aw_call (F := fm_327 ((Int32.toInt64 x2)) 0 3 h) (t := false) (na := 3) (kd := 0) (as := [(.long (Int32.toInt64 x2)), (.long 0), (.long 3)]) at_471_6 (am_k3s kb_327) mn_327 mk_327 rfl rfl (am_ok_s mi_327 (am_hl rfl (am_ccL (am_ccL (am_ccL am_cats_0))) rfl)) (am_hc am_cats_0 rfl) (fun hz9 => by cases hz9) (fun o1 hz9 => rm_327 ((Int32.toInt64 x2)) 0 3 h o1  hz9) ?_
  rcases am_cI_s hs with ⟨v1, h2, f3, hs1⟩ | hs1
  · clear hs
    refine Or.inl ⟨_, _, f3, ?_⟩
    show am_W X _ 471 9 _ [(.int v1)] h2 _
    by_cases c4 : ¬ v1 = 0
    · rw [if_pos c4] at hs1
      refine aw_ifne_t at_471_9 c4 ?_
      exact rg_471_38 h2 o   hs1
    · rw [if_neg c4] at hs1
      refine aw_ifne_f (pc1 := 12) at_471_9 c4 rfl ?_
      refine aw_iload_n (pc1 := 13) at_471_12 l2 rfl ?_
      refine aw_iconst (v := 4) (pc1 := 14) at_471_13 (by decide) rfl ?_
      by_cases c5 : ¬ x2 = 4
      · rw [if_pos c5] at hs1
        refine aw_icne_t at_471_14 c5 ?_
        exact rg_471_42 h2 o   hs1
      · rw [if_neg c5] at hs1
        refine aw_icne_f (pc1 := 17) at_471_14 c5 rfl ?_
        refine aw_vload_n (pc1 := 18) at_471_17 l0 i0 rfl ?_
        obtain ⟨v6, e7, hs2⟩ := am_bind hs1
        clear hs1
        refine aw_pG (pc1 := 21) at_471_18 (am_vR_s e7).1 rfl ?_
        refine aw_vload_n (pc1 := 22) at_471_21 l0 i0 rfl ?_
        refine aw_iload_n (pc1 := 23) at_471_22 l1 rfl ?_
        obtain ⟨z8, hs3⟩ := am_ift hs2
        clear hs2
        refine aw_call (F := fm_358 x0 x1 h2) (t := true) (na := 2) (kd := 1) (as := [x0, (.int x1)]) at_471_23 (am_k3v kb_358) mn_358 mk_358 rfl rfl (am_ok_v mi_358 (am_hl rfl (am_ccR i0 (am_ccI am_cats_0)) rfl) z8) (am_hc (am_ccR (am_vR_s e7).2 am_cats_0) rfl) (fun _ => ⟨rfl, hh_471⟩) (fun o1 hz9 => rm_358 x0 x1 h2 o1 i0 hz9) ?_
        rcases am_cI_s hs3 with ⟨v9, h10, f11, hs4⟩ | hs4
        · clear hs3
          refine Or.inl ⟨_, _, f11, ?_⟩
          show am_W X _ 471 26 _ [(.int v9), v6] h10 _
          by_cases c12 : v9 = 0
          · rw [if_pos c12] at hs4
            refine aw_ifeq_t at_471_26 c12 ?_
            refine aw_iconst (v := 0) (pc1 := 34) at_471_33 (by decide) rfl ?_
            exact rg_471_34 v6 0 h10 o  (am_vR_s e7).2 hs4
          · rw [if_neg c12] at hs4
            refine aw_ifeq_f (pc1 := 29) at_471_26 c12 rfl ?_
            refine aw_iload_n (pc1 := 30) at_471_29 l1 rfl ?_
            refine aw_goto at_471_30 ?_
            exact rg_471_34 v6 x1 h10 o  (am_vR_s e7).2 hs4
        · clear hs3
          exact Or.inr hs4
  · clear hs
    exact Or.inr hs1
def fm_471 (y0 : Value) (y1 : Int32) (y2 : Int32) (h : am_H) : Option am_O := fg_471_0 y0 y1 y2 h
theorem rm_471 {X : am_X} {d : Nat} (y0 : Value) (y1 : Int32) (y2 : Int32) (h : am_H) (o : am_O) (i0 : am_isR y0 = true) (hs : fm_471 y0 y1 y2 h = some o) : am_W X (d + 2) 471 0 (am_args 0 [y0, .int y1, .int y2]) [] h (fun q => q = o) := by
  rw [am_args_R i0, am_args_I, am_args_I]
  exact rg_471_0 y0 y1 y2 h o rfl rfl rfl i0 hs
def fg_475_0 (x0 : Value) (h : am_H) : Option am_O := ((am_vL (am_pG 3168 x0 h)).bind fun v1 => ((am_pP 3168 x0 (.long ((v1 * 6364136223846793005) + 1442695040888963407)) h).bind fun h3 => ((am_vL (am_pG 3168 x0 h3)).bind fun v5 => some (.inl (some (.long ((Int64.toUInt64 v5 >>> (Int64.toUInt64 (Int32.toInt64 33) &&& Int64.toUInt64 63)).toInt64)), h3)))))
theorem rg_475_0 {X : am_X} {d : Nat} {lv : am_LV} (x0 : Value) (h : am_H) (o : am_O) (l0 : lv.lookup 0 = some x0) (i0 : am_isR x0 = true) (hs : fg_475_0 x0 h = some o) : am_W X (d) 475 0 lv [] h (fun q => q = o) := by
  unfold fg_475_0 at hs
  refine aw_vload_n (pc1 := 1) at_475_0 l0 i0 rfl ?_
  refine aw_vload_n (pc1 := 2) at_475_1 l0 i0 rfl ?_
  obtain ⟨v1, e2, hs1⟩ := am_bind hs
  clear hs
  refine aw_pG (pc1 := 5) at_475_2 (am_vL_s e2) rfl ?_
  refine aw_ldc2 (v := 6364136223846793005) (pc1 := 8) at_475_5 rfl rfl ?_
  refine aw_lmul (v := (v1 * 6364136223846793005)) (pc1 := 9) at_475_8 rfl rfl ?_
  refine aw_ldc2 (v := 1442695040888963407) (pc1 := 12) at_475_9 rfl rfl ?_
  refine aw_ladd (v := ((v1 * 6364136223846793005) + 1442695040888963407)) (pc1 := 13) at_475_12 rfl rfl ?_
  obtain ⟨h3, e4, hs2⟩ := am_bind hs1
  clear hs1
  refine aw_pP (pc1 := 16) at_475_13 e4 rfl ?_
  refine aw_vload_n (pc1 := 17) at_475_16 l0 i0 rfl ?_
  obtain ⟨v5, e6, hs3⟩ := am_bind hs2
  clear hs2
  refine aw_pG (pc1 := 20) at_475_17 (am_vL_s e6) rfl ?_
  refine aw_bipush (v := 33) (pc1 := 22) at_475_20 (by decide) rfl ?_
  refine aw_lushr (v := ((Int64.toUInt64 v5 >>> (Int64.toUInt64 (Int32.toInt64 33) &&& Int64.toUInt64 63)).toInt64)) (pc1 := 23) at_475_22 rfl rfl ?_
  cases hs3
  exact aw_lret at_475_23 rt_475 rfl
def fm_475 (y0 : Value) (h : am_H) : Option am_O := fg_475_0 y0 h
theorem rm_475 {X : am_X} {d : Nat} (y0 : Value) (h : am_H) (o : am_O) (i0 : am_isR y0 = true) (hs : fm_475 y0 h = some o) : am_W X (d) 475 0 (am_args 0 [y0]) [] h (fun q => q = o) := by
  rw [am_args_R i0]
  exact rg_475_0 y0 h o rfl i0 hs
def fg_474_0 (x0 : Value) (x1 : Int32) (h : am_H) : Option am_O := (if am_pOk 12 x0 h then am_cL true (fm_475 x0 h) (fun v2 h3 => (if ((Int32.toInt64 x1) : Int64) ≠ 0 then some (.inl (some (.int (Int64.toInt32 (v2 - v2 / (Int32.toInt64 x1) * (Int32.toInt64 x1)))), h3)) else none)) else none)
theorem rg_474_0 {X : am_X} {d : Nat} {lv : am_LV} (x0 : Value) (x1 : Int32) (h : am_H) (o : am_O) (l0 : lv.lookup 0 = some x0) (l1 : lv.lookup 1 = some (.int x1)) (i0 : am_isR x0 = true) (hs : fg_474_0 x0 x1 h = some o) : am_W X (d + 1) 474 0 lv [] h (fun q => q = o) := by
  unfold fg_474_0 at hs
  refine aw_vload_n (pc1 := 1) at_474_0 l0 i0 rfl ?_
  obtain ⟨z1, hs1⟩ := am_ift hs
  clear hs
  refine aw_call (F := fm_475 x0 h) (t := true) (na := 1) (kd := 1) (as := [x0]) at_474_1 (am_k3v kb_475) mn_475 mk_475 rfl rfl (am_ok_v mi_475 (am_hl rfl (am_ccR i0 am_cats_0) rfl) z1) (am_hc am_cats_0 rfl) (fun _ => ⟨rfl, hh_474⟩) (fun o1 hz9 => rm_475 x0 h o1 i0 hz9) ?_
  rcases am_cL_s hs1 with ⟨v2, h3, f4, hs2⟩ | hs2
  · clear hs1
    refine Or.inl ⟨_, _, f4, ?_⟩
    show am_W X _ 474 4 _ [(.long v2)] h3 _
    refine aw_iload_n (pc1 := 5) at_474_4 l1 rfl ?_
    refine aw_i2l (v := (Int32.toInt64 x1)) (pc1 := 6) at_474_5 rfl rfl ?_
    obtain ⟨z5, hs3⟩ := am_ift hs2
    clear hs2
    refine aw_lrem (v := (v2 - v2 / (Int32.toInt64 x1) * (Int32.toInt64 x1))) (pc1 := 7) at_474_6 z5 rfl rfl ?_
    refine aw_l2i (v := (Int64.toInt32 (v2 - v2 / (Int32.toInt64 x1) * (Int32.toInt64 x1)))) (pc1 := 8) at_474_7 rfl rfl ?_
    cases hs3
    exact aw_iret at_474_8 (by rw [rt_474]; rfl) rfl
  · clear hs1
    exact Or.inr hs2
def fm_474 (y0 : Value) (y1 : Int32) (h : am_H) : Option am_O := fg_474_0 y0 y1 h
theorem rm_474 {X : am_X} {d : Nat} (y0 : Value) (y1 : Int32) (h : am_H) (o : am_O) (i0 : am_isR y0 = true) (hs : fm_474 y0 y1 h = some o) : am_W X (d + 1) 474 0 (am_args 0 [y0, .int y1]) [] h (fun q => q = o) := by
  rw [am_args_R i0, am_args_I]
  exact rg_474_0 y0 y1 h o rfl rfl i0 hs
def fg_476_61 (N : Nat) (rec_4 : Value → Int32 → Int32 → Int32 → am_H → Option am_O) (x0 : Value) (x1 : Int32) (x2 : Int32) (x3 : Int32) (h : am_H) : Option am_O := (rec_4 x0 x1 x2 ((x3 + 1)) h)
theorem rg_476_61 {X : am_X} {d : Nat} {N : Nat} {rec_4 : Value → Int32 → Int32 → Int32 → am_H → Option am_O} (q_4 : ∀ (x0 : Value) (x1 : Int32) (x2 : Int32) (x3 : Int32) (h : am_H) (o : am_O), rec_4 x0 x1 x2 x3 h = some o → ∀ lv : am_LV, (lv.lookup 0 = some x0) → (lv.lookup 1 = some (.int x1)) → (lv.lookup 2 = some (.int x2)) → (lv.lookup 3 = some (.int x3)) → (am_isR x0 = true) → am_W X (d + 1) 476 4 lv [] h (fun q => q = o)) {lv : am_LV} (x0 : Value) (x1 : Int32) (x2 : Int32) (x3 : Int32) (h : am_H) (o : am_O) (l0 : lv.lookup 0 = some x0) (l1 : lv.lookup 1 = some (.int x1)) (l2 : lv.lookup 2 = some (.int x2)) (l3 : lv.lookup 3 = some (.int x3)) (i0 : am_isR x0 = true) (hs : fg_476_61 N rec_4 x0 x1 x2 x3 h = some o) : am_W X (d + 1) 476 61 lv [] h (fun q => q = o) := by
  unfold fg_476_61 at hs
  refine aw_iinc (v := (x3 + 1)) (c := 1) (lv1 := am_put1 _ 3 _) (pc1 := 64) at_476_61 l3 (by decide) rfl rfl rfl ?_
  refine aw_goto at_476_64 ?_
  exact q_4 x0 x1 x2 ((x3 + 1)) h o hs _ (am_lk1 l0 rfl rfl) (am_lk1 l1 rfl rfl) (am_lk1 l2 rfl rfl) am_lk0 i0
def fg_476_60 (N : Nat) (rec_4 : Value → Int32 → Int32 → Int32 → am_H → Option am_O) (x0 : Value) (x1 : Int32) (x3 : Int32) (s0 : Int32) (h : am_H) : Option am_O := (fg_476_61 N rec_4 x0 x1 s0 x3 h)
theorem rg_476_60 {X : am_X} {d : Nat} {N : Nat} {rec_4 : Value → Int32 → Int32 → Int32 → am_H → Option am_O} (q_4 : ∀ (x0 : Value) (x1 : Int32) (x2 : Int32) (x3 : Int32) (h : am_H) (o : am_O), rec_4 x0 x1 x2 x3 h = some o → ∀ lv : am_LV, (lv.lookup 0 = some x0) → (lv.lookup 1 = some (.int x1)) → (lv.lookup 2 = some (.int x2)) → (lv.lookup 3 = some (.int x3)) → (am_isR x0 = true) → am_W X (d + 1) 476 4 lv [] h (fun q => q = o)) {lv : am_LV} (x0 : Value) (x1 : Int32) (x3 : Int32) (s0 : Int32) (h : am_H) (o : am_O) (l0 : lv.lookup 0 = some x0) (l1 : lv.lookup 1 = some (.int x1)) (l3 : lv.lookup 3 = some (.int x3)) (i0 : am_isR x0 = true) (hs : fg_476_60 N rec_4 x0 x1 x3 s0 h = some o) : am_W X (d + 1) 476 60 lv [(.int s0)] h (fun q => q = o) := by
  unfold fg_476_60 at hs
  refine aw_istore_n (lv1 := am_put1 _ 2 _) (pc1 := 61) at_476_60 rfl rfl ?_
  exact rg_476_61 q_4 x0 x1 s0 x3 h o (am_lk1 l0 rfl rfl) (am_lk1 l1 rfl rfl) am_lk0 (am_lk1 l3 rfl rfl) i0 hs
def fg_476_59 (N : Nat) (rec_4 : Value → Int32 → Int32 → Int32 → am_H → Option am_O) (x0 : Value) (x1 : Int32) (x3 : Int32) (h : am_H) : Option am_O := (fg_476_60 N rec_4 x0 x1 x3 0 h)
theorem rg_476_59 {X : am_X} {d : Nat} {N : Nat} {rec_4 : Value → Int32 → Int32 → Int32 → am_H → Option am_O} (q_4 : ∀ (x0 : Value) (x1 : Int32) (x2 : Int32) (x3 : Int32) (h : am_H) (o : am_O), rec_4 x0 x1 x2 x3 h = some o → ∀ lv : am_LV, (lv.lookup 0 = some x0) → (lv.lookup 1 = some (.int x1)) → (lv.lookup 2 = some (.int x2)) → (lv.lookup 3 = some (.int x3)) → (am_isR x0 = true) → am_W X (d + 1) 476 4 lv [] h (fun q => q = o)) {lv : am_LV} (x0 : Value) (x1 : Int32) (x3 : Int32) (h : am_H) (o : am_O) (l0 : lv.lookup 0 = some x0) (l1 : lv.lookup 1 = some (.int x1)) (l3 : lv.lookup 3 = some (.int x3)) (i0 : am_isR x0 = true) (hs : fg_476_59 N rec_4 x0 x1 x3 h = some o) : am_W X (d + 1) 476 59 lv [] h (fun q => q = o) := by
  unfold fg_476_59 at hs
  refine aw_iconst (v := 0) (pc1 := 60) at_476_59 (by decide) rfl ?_
  exact rg_476_60 q_4 x0 x1 x3 0 h o l0 l1 l3 i0 hs
def fg_476_55 (N : Nat) (rec_4 : Value → Int32 → Int32 → Int32 → am_H → Option am_O) (x0 : Value) (x1 : Int32) (x3 : Int32) (h : am_H) : Option am_O := (fg_476_60 N rec_4 x0 x1 x3 1 h)
theorem rg_476_55 {X : am_X} {d : Nat} {N : Nat} {rec_4 : Value → Int32 → Int32 → Int32 → am_H → Option am_O} (q_4 : ∀ (x0 : Value) (x1 : Int32) (x2 : Int32) (x3 : Int32) (h : am_H) (o : am_O), rec_4 x0 x1 x2 x3 h = some o → ∀ lv : am_LV, (lv.lookup 0 = some x0) → (lv.lookup 1 = some (.int x1)) → (lv.lookup 2 = some (.int x2)) → (lv.lookup 3 = some (.int x3)) → (am_isR x0 = true) → am_W X (d + 1) 476 4 lv [] h (fun q => q = o)) {lv : am_LV} (x0 : Value) (x1 : Int32) (x3 : Int32) (h : am_H) (o : am_O) (l0 : lv.lookup 0 = some x0) (l1 : lv.lookup 1 = some (.int x1)) (l3 : lv.lookup 3 = some (.int x3)) (i0 : am_isR x0 = true) (hs : fg_476_55 N rec_4 x0 x1 x3 h = some o) : am_W X (d + 1) 476 55 lv [] h (fun q => q = o) := by
  unfold fg_476_55 at hs
  refine aw_iconst (v := 1) (pc1 := 56) at_476_55 (by decide) rfl ?_
  refine aw_goto at_476_56 ?_
  exact rg_476_60 q_4 x0 x1 x3 1 h o l0 l1 l3 i0 hs
def fg_476_4 (N : Nat) : Nat → Value → Int32 → Int32 → Int32 → am_H → Option am_O
  | 0 => fun _ _ _ _ _ => none
  | K + 1 => fun x0 x1 x2 x3 h => (if x1 ≤ x3 then (if am_rfit (some FieldType.boolean) x2 then some (.inl (some (.int x2), h)) else none) else ((am_vR (am_pG 3093 x0 h)).bind fun v3 => ((am_pA 0 v3 x3 h).bind fun v5 => (if v5 = 19 then (if am_pOk 12 x0 h then am_cI true (fm_393 N x0 x3 1 h) (fun v9 h10 => (if ¬ x2 = 0 then (fg_476_55 N (fg_476_4 N K) x0 x1 x3 h10) else (if x1 < v9 then (fg_476_59 N (fg_476_4 N K) x0 x1 x3 h10) else ((am_vR (am_pG 3098 x0 h10)).bind fun v14 => ((am_pA 0 v14 v9 h10).bind fun v16 => (if (v9 + v16) ≤ x1 then (fg_476_59 N (fg_476_4 N K) x0 x1 x3 h10) else (fg_476_55 N (fg_476_4 N K) x0 x1 x3 h10))))))) else none) else (fg_476_61 N (fg_476_4 N K) x0 x1 x2 x3 h)))))
theorem rg_476_4 {X : am_X} {d : Nat} {N : Nat} : ∀ (K : Nat) (x0 : Value) (x1 : Int32) (x2 : Int32) (x3 : Int32) (h : am_H) (o : am_O), fg_476_4 N K x0 x1 x2 x3 h = some o → ∀ lv : am_LV, (lv.lookup 0 = some x0) → (lv.lookup 1 = some (.int x1)) → (lv.lookup 2 = some (.int x2)) → (lv.lookup 3 = some (.int x3)) → (am_isR x0 = true) → am_W X (d + 1) 476 4 lv [] h (fun q => q = o) := by
  intro K
  induction K with
  | zero => intro x0 x1 x2 x3 h o hs; cases hs
  | succ K ih =>
    intro x0 x1 x2 x3 h o hs lv l0 l1 l2 l3 i0
    unfold fg_476_4 at hs
    refine aw_iload_n (pc1 := 5) at_476_4 l3 rfl ?_
    refine aw_iload_n (pc1 := 6) at_476_5 l1 rfl ?_
    by_cases c1 : x1 ≤ x3
    · rw [if_pos c1] at hs
      refine aw_icge_t at_476_6 c1 ?_
      refine aw_iload_n (pc1 := 68) at_476_67 l2 rfl ?_
      obtain ⟨z2, hs1⟩ := am_ift hs
      clear hs
      cases hs1
      exact aw_iret at_476_68 (by rw [rt_476]; exact z2) rfl
    · rw [if_neg c1] at hs
      refine aw_icge_f (pc1 := 9) at_476_6 c1 rfl ?_
      refine aw_vload_n (pc1 := 10) at_476_9 l0 i0 rfl ?_
      obtain ⟨v3, e4, hs2⟩ := am_bind hs
      clear hs
      refine aw_pG (pc1 := 13) at_476_10 (am_vR_s e4).1 rfl ?_
      refine aw_iload_n (pc1 := 14) at_476_13 l3 rfl ?_
      obtain ⟨v5, e6, hs3⟩ := am_bind hs2
      clear hs2
      refine aw_pA (pc1 := 15) at_476_14 (Or.inl ⟨rfl, rfl⟩) e6 rfl ?_
      refine aw_bipush (v := 19) (pc1 := 17) at_476_15 (by decide) rfl ?_
      by_cases c7 : v5 = 19
      · rw [if_pos c7] at hs3
        refine aw_iceq_t at_476_17 c7 ?_
        refine aw_vload_n (pc1 := 24) at_476_23 l0 i0 rfl ?_
        refine aw_iload_n (pc1 := 25) at_476_24 l3 rfl ?_
        refine aw_iconst (v := 1) (pc1 := 26) at_476_25 (by decide) rfl ?_
        obtain ⟨z8, hs4⟩ := am_ift hs3
        clear hs3
        refine aw_call (F := fm_393 N x0 x3 1 h) (t := true) (na := 3) (kd := 1) (as := [x0, (.int x3), (.int 1)]) at_476_26 (am_k3v kb_393) mn_393 mk_393 rfl rfl (am_ok_v mi_393 (am_hl rfl (am_ccR i0 (am_ccI (am_ccI am_cats_0))) rfl) z8) (am_hc am_cats_0 rfl) (fun _ => ⟨rfl, hh_476⟩) (fun o1 hz9 => rm_393 x0 x3 1 h o1 i0 hz9) ?_
        rcases am_cI_s hs4 with ⟨v9, h10, f11, hs5⟩ | hs5
        · clear hs4
          refine Or.inl ⟨_, _, f11, ?_⟩
          show am_W X _ 476 29 _ [(.int v9)] h10 _
          refine aw_istore (lv1 := am_put1 _ 4 _) (pc1 := 31) at_476_29 rfl rfl ?_
          refine aw_iload_n (pc1 := 32) at_476_31 (am_lk1 l2 rfl rfl) rfl ?_
          by_cases c12 : ¬ x2 = 0
          · rw [if_pos c12] at hs5
            refine aw_ifne_t at_476_32 c12 ?_
            exact rg_476_55 (fun z0 z1 z2 z3 h o hs5 => ih z0 z1 z2 z3 h o hs5) x0 x1 x3 h10 o (am_lk1 l0 rfl rfl) (am_lk1 l1 rfl rfl) (am_lk1 l3 rfl rfl) i0 hs5
          · rw [if_neg c12] at hs5
            refine aw_ifne_f (pc1 := 35) at_476_32 c12 rfl ?_
            refine aw_iload_n (pc1 := 36) at_476_35 (am_lk1 l1 rfl rfl) rfl ?_
            refine aw_iload (pc1 := 38) at_476_36 am_lk0 rfl ?_
            by_cases c13 : x1 < v9
            · rw [if_pos c13] at hs5
              refine aw_iclt_t at_476_38 c13 ?_
              exact rg_476_59 (fun z0 z1 z2 z3 h o hs5 => ih z0 z1 z2 z3 h o hs5) x0 x1 x3 h10 o (am_lk1 l0 rfl rfl) (am_lk1 l1 rfl rfl) (am_lk1 l3 rfl rfl) i0 hs5
            · rw [if_neg c13] at hs5
              refine aw_iclt_f (pc1 := 41) at_476_38 c13 rfl ?_
              refine aw_iload_n (pc1 := 42) at_476_41 (am_lk1 l1 rfl rfl) rfl ?_
              refine aw_iload (pc1 := 44) at_476_42 am_lk0 rfl ?_
              refine aw_vload_n (pc1 := 45) at_476_44 (am_lk1 l0 rfl rfl) i0 rfl ?_
              obtain ⟨v14, e15, hs6⟩ := am_bind hs5
              clear hs5
              refine aw_pG (pc1 := 48) at_476_45 (am_vR_s e15).1 rfl ?_
              refine aw_iload (pc1 := 50) at_476_48 am_lk0 rfl ?_
              obtain ⟨v16, e17, hs7⟩ := am_bind hs6
              clear hs6
              refine aw_pA (pc1 := 51) at_476_50 (Or.inl ⟨rfl, rfl⟩) e17 rfl ?_
              refine aw_iadd (v := (v9 + v16)) (pc1 := 52) at_476_51 rfl rfl ?_
              by_cases c18 : (v9 + v16) ≤ x1
              · rw [if_pos c18] at hs7
                refine aw_icge_t at_476_52 c18 ?_
                exact rg_476_59 (fun z0 z1 z2 z3 h o hs7 => ih z0 z1 z2 z3 h o hs7) x0 x1 x3 h10 o (am_lk1 l0 rfl rfl) (am_lk1 l1 rfl rfl) (am_lk1 l3 rfl rfl) i0 hs7
              · rw [if_neg c18] at hs7
                refine aw_icge_f (pc1 := 55) at_476_52 c18 rfl ?_
                exact rg_476_55 (fun z0 z1 z2 z3 h o hs7 => ih z0 z1 z2 z3 h o hs7) x0 x1 x3 h10 o (am_lk1 l0 rfl rfl) (am_lk1 l1 rfl rfl) (am_lk1 l3 rfl rfl) i0 hs7
        · clear hs4
          exact Or.inr hs5
      · rw [if_neg c7] at hs3
        refine aw_iceq_f (pc1 := 20) at_476_17 c7 rfl ?_
        refine aw_goto at_476_20 ?_
        exact rg_476_61 (fun z0 z1 z2 z3 h o hs3 => ih z0 z1 z2 z3 h o hs3) x0 x1 x2 x3 h o l0 l1 l2 l3 i0 hs3
def fg_476_0 (N : Nat) (x0 : Value) (x1 : Int32) (h : am_H) : Option am_O := (fg_476_4 N N x0 x1 0 0 h)
theorem rg_476_0 {X : am_X} {d : Nat} {N : Nat} {lv : am_LV} (x0 : Value) (x1 : Int32) (h : am_H) (o : am_O) (l0 : lv.lookup 0 = some x0) (l1 : lv.lookup 1 = some (.int x1)) (i0 : am_isR x0 = true) (hs : fg_476_0 N x0 x1 h = some o) : am_W X (d + 1) 476 0 lv [] h (fun q => q = o) := by
  unfold fg_476_0 at hs
  refine aw_iconst (v := 0) (pc1 := 1) at_476_0 (by decide) rfl ?_
  refine aw_istore_n (lv1 := am_put1 _ 2 _) (pc1 := 2) at_476_1 rfl rfl ?_
  refine aw_iconst (v := 0) (pc1 := 3) at_476_2 (by decide) rfl ?_
  refine aw_istore_n (lv1 := am_put1 _ 3 _) (pc1 := 4) at_476_3 rfl rfl ?_
  exact rg_476_4 N x0 x1 0 0 h o hs _ (am_lk1 (am_lk1 l0 rfl rfl) rfl rfl) (am_lk1 (am_lk1 l1 rfl rfl) rfl rfl) (am_lk1 am_lk0 rfl rfl) am_lk0 i0
def fm_476 (N : Nat) (y0 : Value) (y1 : Int32) (h : am_H) : Option am_O := fg_476_0 N y0 y1 h
theorem rm_476 {X : am_X} {d : Nat} {N : Nat} (y0 : Value) (y1 : Int32) (h : am_H) (o : am_O) (i0 : am_isR y0 = true) (hs : fm_476 N y0 y1 h = some o) : am_W X (d + 1) 476 0 (am_args 0 [y0, .int y1]) [] h (fun q => q = o) := by
  rw [am_args_R i0, am_args_I]
  exact rg_476_0 y0 y1 h o rfl rfl i0 hs
def fg_477_0 (x0 : Value) (x1 : Int64) (h : am_H) : Option am_O := (if am_pOk 12 x0 h then am_cL true (fm_475 x0 h) (fun v2 h3 => (if am_pOk 12 x0 h3 then am_cL true (fm_475 x0 h3) (fun v6 h7 => (if (x1 : Int64) ≠ 0 then some (.inl (some (.long (((2147483648 * v2) + v6) - ((2147483648 * v2) + v6) / x1 * x1)), h7)) else none)) else none)) else none)
theorem rg_477_0 {X : am_X} {d : Nat} {lv : am_LV} (x0 : Value) (x1 : Int64) (h : am_H) (o : am_O) (l0 : lv.lookup 0 = some x0) (l1 : lv.lookup 1 = some (.long x1)) (i0 : am_isR x0 = true) (hs : fg_477_0 x0 x1 h = some o) : am_W X (d + 1) 477 0 lv [] h (fun q => q = o) := by
  unfold fg_477_0 at hs
  refine aw_vload_n (pc1 := 1) at_477_0 l0 i0 rfl ?_
  obtain ⟨z1, hs1⟩ := am_ift hs
  clear hs
  refine aw_call (F := fm_475 x0 h) (t := true) (na := 1) (kd := 1) (as := [x0]) at_477_1 (am_k3v kb_475) mn_475 mk_475 rfl rfl (am_ok_v mi_475 (am_hl rfl (am_ccR i0 am_cats_0) rfl) z1) (am_hc am_cats_0 rfl) (fun _ => ⟨rfl, hh_477⟩) (fun o1 hz9 => rm_475 x0 h o1 i0 hz9) ?_
  rcases am_cL_s hs1 with ⟨v2, h3, f4, hs2⟩ | hs2
  · clear hs1
    refine Or.inl ⟨_, _, f4, ?_⟩
    show am_W X _ 477 4 _ [(.long v2)] h3 _
    refine aw_lstore_n (lv1 := am_put2 _ 3 _) (pc1 := 5) at_477_4 rfl rfl ?_
    refine aw_vload_n (pc1 := 6) at_477_5 (am_lk2 l0 rfl rfl) i0 rfl ?_
    obtain ⟨z5, hs3⟩ := am_ift hs2
    clear hs2
    refine aw_call (F := fm_475 x0 h3) (t := true) (na := 1) (kd := 1) (as := [x0]) at_477_6 (am_k3v kb_475) mn_475 mk_475 rfl rfl (am_ok_v mi_475 (am_hl rfl (am_ccR i0 am_cats_0) rfl) z5) (am_hc am_cats_0 rfl) (fun _ => ⟨rfl, hh_477⟩) (fun o1 hz9 => rm_475 x0 h3 o1 i0 hz9) ?_
    rcases am_cL_s hs3 with ⟨v6, h7, f8, hs4⟩ | hs4
    · clear hs3
      refine Or.inl ⟨_, _, f8, ?_⟩
      show am_W X _ 477 9 _ [(.long v6)] h7 _
      refine aw_lstore (lv1 := am_put2 _ 5 _) (pc1 := 11) at_477_9 rfl rfl ?_
      refine aw_ldc2 (v := 2147483648) (pc1 := 14) at_477_11 rfl rfl ?_
      refine aw_lload_n (pc1 := 15) at_477_14 (am_lk2 am_lk02 rfl rfl) rfl ?_
      refine aw_lmul (v := (2147483648 * v2)) (pc1 := 16) at_477_15 rfl rfl ?_
      refine aw_lload (pc1 := 18) at_477_16 am_lk02 rfl ?_
      refine aw_ladd (v := ((2147483648 * v2) + v6)) (pc1 := 19) at_477_18 rfl rfl ?_
      refine aw_lload_n (pc1 := 20) at_477_19 (am_lk2 (am_lk2 l1 rfl rfl) rfl rfl) rfl ?_
      obtain ⟨z9, hs5⟩ := am_ift hs4
      clear hs4
      refine aw_lrem (v := (((2147483648 * v2) + v6) - ((2147483648 * v2) + v6) / x1 * x1)) (pc1 := 21) at_477_20 z9 rfl rfl ?_
      cases hs5
      exact aw_lret at_477_21 rt_477 rfl
    · clear hs3
      exact Or.inr hs4
  · clear hs1
    exact Or.inr hs2
def fm_477 (y0 : Value) (y1 : Int64) (h : am_H) : Option am_O := fg_477_0 y0 y1 h
theorem rm_477 {X : am_X} {d : Nat} (y0 : Value) (y1 : Int64) (h : am_H) (o : am_O) (i0 : am_isR y0 = true) (hs : fm_477 y0 y1 h = some o) : am_W X (d + 1) 477 0 (am_args 0 [y0, .long y1]) [] h (fun q => q = o) := by
  rw [am_args_R i0, am_args_L]
  exact rg_477_0 y0 y1 h o rfl rfl i0 hs
def fg_473_140 (N : Nat) (h : am_H) : Option am_O := some (.inl (none, h))
theorem rg_473_140 {X : am_X} {d : Nat} {N : Nat} {lv : am_LV} (h : am_H) (o : am_O) (hs : fg_473_140 N h = some o) : am_W X (d + 6) 473 140 lv [] h (fun q => q = o) := by
  unfold fg_473_140 at hs
  cases hs
  exact aw_vret at_473_140 rt_473 rfl
def fg_473_57 (N : Nat) : Nat → Value → Int32 → Int32 → Int32 → Int32 → am_H → Option am_O
  | 0 => fun _ _ _ _ _ _ => none
  | K + 1 => fun x0 x1 x2 x4 x5 h => (if am_pOk 12 x0 h then am_cL true (fm_383 x0 x4 x5 x2 h) (fun v2 h3 => (if ¬ (lg_cmp v2 0) = 0 then (if am_pOk 12 x0 h3 then am_cL true (fm_383 x0 x4 x5 x2 h3) (fun v7 h8 => (if am_pOk 12 x0 h8 then am_cL true (fm_477 x0 v7 h8) (fun v11 h12 => (if am_pOk 12 x0 h12 then am_cV true (fm_451 x0 h12) (fun h16 => (if am_pOk 12 x0 h16 then am_cV true (fm_443 N x0 0 x1 h16) (fun h20 => (if am_pOk 12 x0 h20 then am_cV true (fm_386 N x0 x4 x5 x2 v11 h20) (fun h24 => ((am_vR (am_pG 3098 x0 h24)).bind fun v26 => ((am_pA 0 v26 x1 h24).bind fun v28 => ((am_vI (am_pG 3090 x0 h24)).bind fun v30 => (if am_pOk 12 x0 h24 then am_cV true (fm_443 N x0 ((x1 + v28)) v30 h24) (fun h34 => (if am_pOk 12 x0 h34 then am_cI true (fm_445 N x0 h34) (fun v37 h38 => (if ¬ v37 = 0 then (fg_473_140 N h38) else (if am_pOk 12 x0 h38 then am_cV true (fm_442 N x0 h38) (fun h43 => (fg_473_140 N h43)) else none))) else none)) else none))))) else none)) else none)) else none)) else none)) else none) else (fg_473_57 N K x0 x1 ((x2 + 1)) x4 x5 h3))) else none)
theorem rg_473_57 {X : am_X} {d : Nat} {N : Nat} : ∀ (K : Nat) (x0 : Value) (x1 : Int32) (x2 : Int32) (x4 : Int32) (x5 : Int32) (h : am_H) (o : am_O), fg_473_57 N K x0 x1 x2 x4 x5 h = some o → ∀ lv : am_LV, (lv.lookup 0 = some x0) → (lv.lookup 1 = some (.int x1)) → (lv.lookup 2 = some (.int x2)) → (lv.lookup 4 = some (.int x4)) → (lv.lookup 5 = some (.int x5)) → (am_isR x0 = true) → am_W X (d + 6) 473 57 lv [] h (fun q => q = o) := by
  intro K
  induction K with
  | zero => intro x0 x1 x2 x4 x5 h o hs; cases hs
  | succ K ih =>
    intro x0 x1 x2 x4 x5 h o hs lv l0 l1 l2 l4 l5 i0
    unfold fg_473_57 at hs
    refine aw_vload_n (pc1 := 58) at_473_57 l0 i0 rfl ?_
    refine aw_iload (pc1 := 60) at_473_58 l4 rfl ?_
    refine aw_iload (pc1 := 62) at_473_60 l5 rfl ?_
    refine aw_iload_n (pc1 := 63) at_473_62 l2 rfl ?_
    obtain ⟨z1, hs1⟩ := am_ift hs
    clear hs
    refine aw_call (F := fm_383 x0 x4 x5 x2 h) (t := true) (na := 4) (kd := 1) (as := [x0, (.int x4), (.int x5), (.int x2)]) at_473_63 (am_k3v kb_383) mn_383 mk_383 rfl rfl (am_ok_v mi_383 (am_hl rfl (am_ccR i0 (am_ccI (am_ccI (am_ccI am_cats_0)))) rfl) z1) (am_hc am_cats_0 rfl) (fun _ => ⟨rfl, hh_473⟩) (fun o1 hz9 => rm_383 x0 x4 x5 x2 h o1 i0 hz9) ?_
    rcases am_cL_s hs1 with ⟨v2, h3, f4, hs2⟩ | hs2
    · clear hs1
      refine Or.inl ⟨_, _, f4, ?_⟩
      show am_W X _ 473 66 _ [(.long v2)] h3 _
      refine aw_lconst (v := 0) (pc1 := 67) at_473_66 (by decide) rfl ?_
      refine aw_lcmp (v := (lg_cmp v2 0)) (pc1 := 68) at_473_67 rfl rfl ?_
      by_cases c5 : ¬ (lg_cmp v2 0) = 0
      · rw [if_pos c5] at hs2
        refine aw_ifne_t at_473_68 c5 ?_
        refine aw_vload_n (pc1 := 78) at_473_77 l0 i0 rfl ?_
        refine aw_vload_n (pc1 := 79) at_473_78 l0 i0 rfl ?_
        refine aw_iload (pc1 := 81) at_473_79 l4 rfl ?_
        refine aw_iload (pc1 := 83) at_473_81 l5 rfl ?_
        refine aw_iload_n (pc1 := 84) at_473_83 l2 rfl ?_
        obtain ⟨z6, hs3⟩ := am_ift hs2
        clear hs2
        refine aw_call (F := fm_383 x0 x4 x5 x2 h3) (t := true) (na := 4) (kd := 1) (as := [x0, (.int x4), (.int x5), (.int x2)]) at_473_84 (am_k3v kb_383) mn_383 mk_383 rfl rfl (am_ok_v mi_383 (am_hl rfl (am_ccR i0 (am_ccI (am_ccI (am_ccI am_cats_0)))) rfl) z6) (am_hc (am_ccR i0 am_cats_0) rfl) (fun _ => ⟨rfl, hh_473⟩) (fun o1 hz9 => rm_383 x0 x4 x5 x2 h3 o1 i0 hz9) ?_
        rcases am_cL_s hs3 with ⟨v7, h8, f9, hs4⟩ | hs4
        · clear hs3
          refine Or.inl ⟨_, _, f9, ?_⟩
          show am_W X _ 473 87 _ [(.long v7), x0] h8 _
          obtain ⟨z10, hs5⟩ := am_ift hs4
          clear hs4
          refine aw_call (F := fm_477 x0 v7 h8) (t := true) (na := 2) (kd := 1) (as := [x0, (.long v7)]) at_473_87 (am_k3v kb_477) mn_477 mk_477 rfl rfl (am_ok_v mi_477 (am_hl rfl (am_ccR i0 (am_ccL am_cats_0)) rfl) z10) (am_hc am_cats_0 rfl) (fun _ => ⟨rfl, hh_473⟩) (fun o1 hz9 => rm_477 x0 v7 h8 o1 i0 hz9) ?_
          rcases am_cL_s hs5 with ⟨v11, h12, f13, hs6⟩ | hs6
          · clear hs5
            refine Or.inl ⟨_, _, f13, ?_⟩
            show am_W X _ 473 90 _ [(.long v11)] h12 _
            refine aw_lstore (lv1 := am_put2 _ 6 _) (pc1 := 92) at_473_90 rfl rfl ?_
            refine aw_vload_n (pc1 := 93) at_473_92 (am_lk2 l0 rfl rfl) i0 rfl ?_
            obtain ⟨z14, hs7⟩ := am_ift hs6
            clear hs6
            refine aw_call (F := fm_451 x0 h12) (t := true) (na := 1) (kd := 1) (as := [x0]) at_473_93 (am_k3v kb_451) mn_451 mk_451 rfl rfl (am_ok_v mi_451 (am_hl rfl (am_ccR i0 am_cats_0) rfl) z14) (am_hc am_cats_0 rfl) (fun _ => ⟨rfl, hh_473⟩) (fun o1 hz9 => rm_451 x0 h12 o1 i0 hz9) ?_
            rcases am_cV_s hs7 with ⟨h16, f17, hs8⟩ | hs8
            · clear hs7
              refine Or.inl ⟨_, _, f17, ?_⟩
              show am_W X _ 473 96 _ [] h16 _
              refine aw_vload_n (pc1 := 97) at_473_96 (am_lk2 l0 rfl rfl) i0 rfl ?_
              refine aw_iconst (v := 0) (pc1 := 98) at_473_97 (by decide) rfl ?_
              refine aw_iload_n (pc1 := 99) at_473_98 (am_lk2 l1 rfl rfl) rfl ?_
              obtain ⟨z18, hs9⟩ := am_ift hs8
              clear hs8
              refine aw_call (F := fm_443 N x0 0 x1 h16) (t := true) (na := 3) (kd := 1) (as := [x0, (.int 0), (.int x1)]) at_473_99 (am_k3v kb_443) mn_443 mk_443 rfl rfl (am_ok_v mi_443 (am_hl rfl (am_ccR i0 (am_ccI (am_ccI am_cats_0))) rfl) z18) (am_hc am_cats_0 rfl) (fun _ => ⟨rfl, hh_473⟩) (fun o1 hz9 => rm_443 x0 0 x1 h16 o1 i0 hz9) ?_
              rcases am_cV_s hs9 with ⟨h20, f21, hs10⟩ | hs10
              · clear hs9
                refine Or.inl ⟨_, _, f21, ?_⟩
                show am_W X _ 473 102 _ [] h20 _
                refine aw_vload_n (pc1 := 103) at_473_102 (am_lk2 l0 rfl rfl) i0 rfl ?_
                refine aw_iload (pc1 := 105) at_473_103 (am_lk2 l4 rfl rfl) rfl ?_
                refine aw_iload (pc1 := 107) at_473_105 (am_lk2 l5 rfl rfl) rfl ?_
                refine aw_iload_n (pc1 := 108) at_473_107 (am_lk2 l2 rfl rfl) rfl ?_
                refine aw_lload (pc1 := 110) at_473_108 am_lk02 rfl ?_
                obtain ⟨z22, hs11⟩ := am_ift hs10
                clear hs10
                refine aw_call (F := fm_386 N x0 x4 x5 x2 v11 h20) (t := true) (na := 5) (kd := 1) (as := [x0, (.int x4), (.int x5), (.int x2), (.long v11)]) at_473_110 (am_k3v kb_386) mn_386 mk_386 rfl rfl (am_ok_v mi_386 (am_hl rfl (am_ccR i0 (am_ccI (am_ccI (am_ccI (am_ccL am_cats_0))))) rfl) z22) (am_hc am_cats_0 rfl) (fun _ => ⟨rfl, hh_473⟩) (fun o1 hz9 => rm_386 x0 x4 x5 x2 v11 h20 o1 i0 hz9) ?_
                rcases am_cV_s hs11 with ⟨h24, f25, hs12⟩ | hs12
                · clear hs11
                  refine Or.inl ⟨_, _, f25, ?_⟩
                  show am_W X _ 473 113 _ [] h24 _
                  refine aw_vload_n (pc1 := 114) at_473_113 (am_lk2 l0 rfl rfl) i0 rfl ?_
                  refine aw_iload_n (pc1 := 115) at_473_114 (am_lk2 l1 rfl rfl) rfl ?_
                  refine aw_vload_n (pc1 := 116) at_473_115 (am_lk2 l0 rfl rfl) i0 rfl ?_
                  obtain ⟨v26, e27, hs13⟩ := am_bind hs12
                  clear hs12
                  refine aw_pG (pc1 := 119) at_473_116 (am_vR_s e27).1 rfl ?_
                  refine aw_iload_n (pc1 := 120) at_473_119 (am_lk2 l1 rfl rfl) rfl ?_
                  obtain ⟨v28, e29, hs14⟩ := am_bind hs13
                  clear hs13
                  refine aw_pA (pc1 := 121) at_473_120 (Or.inl ⟨rfl, rfl⟩) e29 rfl ?_
                  refine aw_iadd (v := (x1 + v28)) (pc1 := 122) at_473_121 rfl rfl ?_
                  refine aw_vload_n (pc1 := 123) at_473_122 (am_lk2 l0 rfl rfl) i0 rfl ?_
                  obtain ⟨v30, e31, hs15⟩ := am_bind hs14
                  clear hs14
                  refine aw_pG (pc1 := 126) at_473_123 (am_vI_s e31) rfl ?_
                  obtain ⟨z32, hs16⟩ := am_ift hs15
                  clear hs15
                  refine aw_call (F := fm_443 N x0 ((x1 + v28)) v30 h24) (t := true) (na := 3) (kd := 1) (as := [x0, (.int (x1 + v28)), (.int v30)]) at_473_126 (am_k3v kb_443) mn_443 mk_443 rfl rfl (am_ok_v mi_443 (am_hl rfl (am_ccR i0 (am_ccI (am_ccI am_cats_0))) rfl) z32) (am_hc am_cats_0 rfl) (fun _ => ⟨rfl, hh_473⟩) (fun o1 hz9 => rm_443 x0 ((x1 + v28)) v30 h24 o1 i0 hz9) ?_
                  rcases am_cV_s hs16 with ⟨h34, f35, hs17⟩ | hs17
                  · clear hs16
                    refine Or.inl ⟨_, _, f35, ?_⟩
                    show am_W X _ 473 129 _ [] h34 _
                    refine aw_vload_n (pc1 := 130) at_473_129 (am_lk2 l0 rfl rfl) i0 rfl ?_
                    obtain ⟨z36, hs18⟩ := am_ift hs17
                    clear hs17
                    refine aw_call (F := fm_445 N x0 h34) (t := true) (na := 1) (kd := 1) (as := [x0]) at_473_130 (am_k3v kb_445) mn_445 mk_445 rfl rfl (am_ok_v mi_445 (am_hl rfl (am_ccR i0 am_cats_0) rfl) z36) (am_hc am_cats_0 rfl) (fun _ => ⟨rfl, hh_473⟩) (fun o1 hz9 => rm_445 x0 h34 o1 i0 hz9) ?_
                    rcases am_cI_s hs18 with ⟨v37, h38, f39, hs19⟩ | hs19
                    · clear hs18
                      refine Or.inl ⟨_, _, f39, ?_⟩
                      show am_W X _ 473 133 _ [(.int v37)] h38 _
                      by_cases c40 : ¬ v37 = 0
                      · rw [if_pos c40] at hs19
                        refine aw_ifne_t at_473_133 c40 ?_
                        exact rg_473_140 h38 o   hs19
                      · rw [if_neg c40] at hs19
                        refine aw_ifne_f (pc1 := 136) at_473_133 c40 rfl ?_
                        refine aw_vload_n (pc1 := 137) at_473_136 (am_lk2 l0 rfl rfl) i0 rfl ?_
                        obtain ⟨z41, hs20⟩ := am_ift hs19
                        clear hs19
                        refine aw_call (F := fm_442 N x0 h38) (t := true) (na := 1) (kd := 1) (as := [x0]) at_473_137 (am_k3v kb_442) mn_442 mk_442 rfl rfl (am_ok_v mi_442 (am_hl rfl (am_ccR i0 am_cats_0) rfl) z41) (am_hc am_cats_0 rfl) (fun _ => ⟨rfl, hh_473⟩) (fun o1 hz9 => rm_442 x0 h38 o1 i0 hz9) ?_
                        rcases am_cV_s hs20 with ⟨h43, f44, hs21⟩ | hs21
                        · clear hs20
                          refine Or.inl ⟨_, _, f44, ?_⟩
                          show am_W X _ 473 140 _ [] h43 _
                          exact rg_473_140 h43 o   hs21
                        · clear hs20
                          exact Or.inr hs21
                    · clear hs18
                      exact Or.inr hs19
                  · clear hs16
                    exact Or.inr hs17
                · clear hs11
                  exact Or.inr hs12
              · clear hs9
                exact Or.inr hs10
            · clear hs7
              exact Or.inr hs8
          · clear hs5
            exact Or.inr hs6
        · clear hs3
          exact Or.inr hs4
      · rw [if_neg c5] at hs2
        refine aw_ifne_f (pc1 := 71) at_473_68 c5 rfl ?_
        refine aw_iinc (v := (x2 + 1)) (c := 1) (lv1 := am_put1 _ 2 _) (pc1 := 74) at_473_71 l2 (by decide) rfl rfl rfl ?_
        refine aw_goto at_473_74 ?_
        exact ih x0 x1 ((x2 + 1)) x4 x5 h3 o hs2 _ (am_lk1 l0 rfl rfl) (am_lk1 l1 rfl rfl) am_lk0 (am_lk1 l4 rfl rfl) (am_lk1 l5 rfl rfl) i0
    · clear hs1
      exact Or.inr hs2
def fg_473_51 (N : Nat) (x0 : Value) (x1 : Int32) (x2 : Int32) (x4 : Int32) (s0 : Int32) (h : am_H) : Option am_O := (if am_pOk 12 x0 h then am_cV true (fm_377 N x0 h) (fun h3 => (fg_473_57 N N x0 x1 x2 x4 s0 h3)) else none)
theorem rg_473_51 {X : am_X} {d : Nat} {N : Nat} {lv : am_LV} (x0 : Value) (x1 : Int32) (x2 : Int32) (x4 : Int32) (s0 : Int32) (h : am_H) (o : am_O) (l0 : lv.lookup 0 = some x0) (l1 : lv.lookup 1 = some (.int x1)) (l2 : lv.lookup 2 = some (.int x2)) (l4 : lv.lookup 4 = some (.int x4)) (i0 : am_isR x0 = true) (hs : fg_473_51 N x0 x1 x2 x4 s0 h = some o) : am_W X (d + 6) 473 51 lv [(.int s0)] h (fun q => q = o) := by
  unfold fg_473_51 at hs
  refine aw_istore (lv1 := am_put1 _ 5 _) (pc1 := 53) at_473_51 rfl rfl ?_
  refine aw_vload_n (pc1 := 54) at_473_53 (am_lk1 l0 rfl rfl) i0 rfl ?_
  obtain ⟨z1, hs1⟩ := am_ift hs
  clear hs
  refine aw_call (F := fm_377 N x0 h) (t := true) (na := 1) (kd := 1) (as := [x0]) at_473_54 (am_k3v kb_377) mn_377 mk_377 rfl rfl (am_ok_v mi_377 (am_hl rfl (am_ccR i0 am_cats_0) rfl) z1) (am_hc am_cats_0 rfl) (fun _ => ⟨rfl, hh_473⟩) (fun o1 hz9 => rm_377 x0 h o1 i0 hz9) ?_
  rcases am_cV_s hs1 with ⟨h3, f4, hs2⟩ | hs2
  · clear hs1
    refine Or.inl ⟨_, _, f4, ?_⟩
    show am_W X _ 473 57 _ [] h3 _
    exact rg_473_57 N x0 x1 x2 x4 s0 h3 o hs2 _ (am_lk1 l0 rfl rfl) (am_lk1 l1 rfl rfl) (am_lk1 l2 rfl rfl) (am_lk1 l4 rfl rfl) am_lk0 i0
  · clear hs1
    exact Or.inr hs2
def fg_473_32 (N : Nat) (x0 : Value) (x1 : Int32) (x2 : Int32) (s0 : Int32) (h : am_H) : Option am_O := ((am_vR (am_pG 3093 x0 h)).bind fun v1 => ((am_pA 0 v1 x1 h).bind fun v3 => am_cI false (fm_334 v3 h) (fun v5 h6 => (if v5 = 0 then (fg_473_51 N x0 x1 x2 s0 0 h6) else (fg_473_51 N x0 x1 x2 s0 1 h6)))))
theorem rg_473_32 {X : am_X} {d : Nat} {N : Nat} {lv : am_LV} (x0 : Value) (x1 : Int32) (x2 : Int32) (s0 : Int32) (h : am_H) (o : am_O) (l0 : lv.lookup 0 = some x0) (l1 : lv.lookup 1 = some (.int x1)) (l2 : lv.lookup 2 = some (.int x2)) (i0 : am_isR x0 = true) (hs : fg_473_32 N x0 x1 x2 s0 h = some o) : am_W X (d + 6) 473 32 lv [(.int s0)] h (fun q => q = o) := by
  unfold fg_473_32 at hs
  refine aw_istore (lv1 := am_put1 _ 4 _) (pc1 := 34) at_473_32 rfl rfl ?_
  refine aw_vload_n (pc1 := 35) at_473_34 (am_lk1 l0 rfl rfl) i0 rfl ?_
  obtain ⟨v1, e2, hs1⟩ := am_bind hs
  clear hs
  refine aw_pG (pc1 := 38) at_473_35 (am_vR_s e2).1 rfl ?_
  refine aw_iload_n (pc1 := 39) at_473_38 (am_lk1 l1 rfl rfl) rfl ?_
  obtain ⟨v3, e4, hs2⟩ := am_bind hs1
  clear hs1
  refine aw_pA (pc1 := 40) at_473_39 (Or.inl ⟨rfl, rfl⟩) e4 rfl ?_
  refine aw_call (F := fm_334 v3 h) (t := false) (na := 1) (kd := 0) (as := [(.int v3)]) at_473_40 (am_k3s kb_334) mn_334 mk_334 rfl rfl (am_ok_s mi_334 (am_hl rfl (am_ccI am_cats_0) rfl)) (am_hc am_cats_0 rfl) (fun hz9 => by cases hz9) (fun o1 hz9 => rm_334 v3 h o1  hz9) ?_
  rcases am_cI_s hs2 with ⟨v5, h6, f7, hs3⟩ | hs3
  · clear hs2
    refine Or.inl ⟨_, _, f7, ?_⟩
    show am_W X _ 473 43 _ [(.int v5)] h6 _
    by_cases c8 : v5 = 0
    · rw [if_pos c8] at hs3
      refine aw_ifeq_t at_473_43 c8 ?_
      refine aw_iconst (v := 0) (pc1 := 51) at_473_50 (by decide) rfl ?_
      exact rg_473_51 x0 x1 x2 s0 0 h6 o (am_lk1 l0 rfl rfl) (am_lk1 l1 rfl rfl) (am_lk1 l2 rfl rfl) am_lk0 i0 hs3
    · rw [if_neg c8] at hs3
      refine aw_ifeq_f (pc1 := 46) at_473_43 c8 rfl ?_
      refine aw_iconst (v := 1) (pc1 := 47) at_473_46 (by decide) rfl ?_
      refine aw_goto at_473_47 ?_
      exact rg_473_51 x0 x1 x2 s0 1 h6 o (am_lk1 l0 rfl rfl) (am_lk1 l1 rfl rfl) (am_lk1 l2 rfl rfl) am_lk0 i0 hs3
  · clear hs2
    exact Or.inr hs3
def fg_473_0 (N : Nat) (x0 : Value) (h : am_H) : Option am_O := ((am_vI (am_pG 3090 x0 h)).bind fun v1 => (if am_pOk 12 x0 h then am_cI true (fm_474 x0 v1 h) (fun v4 h5 => (if am_pOk 12 x0 h5 then am_cI true (fm_474 x0 4 h5) (fun v8 h9 => (if am_pOk 12 x0 h9 then am_cI true (fm_476 N x0 v4 h9) (fun v12 h13 => (if v12 = 0 then (fg_473_32 N x0 v4 ((1 + v8)) 0 h13) else (fg_473_32 N x0 v4 ((1 + v8)) 1 h13))) else none)) else none)) else none))
theorem rg_473_0 {X : am_X} {d : Nat} {N : Nat} {lv : am_LV} (x0 : Value) (h : am_H) (o : am_O) (l0 : lv.lookup 0 = some x0) (i0 : am_isR x0 = true) (hs : fg_473_0 N x0 h = some o) : am_W X (d + 6) 473 0 lv [] h (fun q => q = o) := by
  unfold fg_473_0 at hs
  refine aw_vload_n (pc1 := 1) at_473_0 l0 i0 rfl ?_
  refine aw_vload_n (pc1 := 2) at_473_1 l0 i0 rfl ?_
  obtain ⟨v1, e2, hs1⟩ := am_bind hs
  clear hs
  refine aw_pG (pc1 := 5) at_473_2 (am_vI_s e2) rfl ?_
  obtain ⟨z3, hs2⟩ := am_ift hs1
  clear hs1
  refine aw_call (F := fm_474 x0 v1 h) (t := true) (na := 2) (kd := 1) (as := [x0, (.int v1)]) at_473_5 (am_k3v kb_474) mn_474 mk_474 rfl rfl (am_ok_v mi_474 (am_hl rfl (am_ccR i0 (am_ccI am_cats_0)) rfl) z3) (am_hc am_cats_0 rfl) (fun _ => ⟨rfl, hh_473⟩) (fun o1 hz9 => rm_474 x0 v1 h o1 i0 hz9) ?_
  rcases am_cI_s hs2 with ⟨v4, h5, f6, hs3⟩ | hs3
  · clear hs2
    refine Or.inl ⟨_, _, f6, ?_⟩
    show am_W X _ 473 8 _ [(.int v4)] h5 _
    refine aw_istore_n (lv1 := am_put1 _ 1 _) (pc1 := 9) at_473_8 rfl rfl ?_
    refine aw_iconst (v := 1) (pc1 := 10) at_473_9 (by decide) rfl ?_
    refine aw_vload_n (pc1 := 11) at_473_10 (am_lk1 l0 rfl (by rw [am_isRc i0]; rfl)) i0 rfl ?_
    refine aw_iconst (v := 4) (pc1 := 12) at_473_11 (by decide) rfl ?_
    obtain ⟨z7, hs4⟩ := am_ift hs3
    clear hs3
    refine aw_call (F := fm_474 x0 4 h5) (t := true) (na := 2) (kd := 1) (as := [x0, (.int 4)]) at_473_12 (am_k3v kb_474) mn_474 mk_474 rfl rfl (am_ok_v mi_474 (am_hl rfl (am_ccR i0 (am_ccI am_cats_0)) rfl) z7) (am_hc (am_ccI am_cats_0) rfl) (fun _ => ⟨rfl, hh_473⟩) (fun o1 hz9 => rm_474 x0 4 h5 o1 i0 hz9) ?_
    rcases am_cI_s hs4 with ⟨v8, h9, f10, hs5⟩ | hs5
    · clear hs4
      refine Or.inl ⟨_, _, f10, ?_⟩
      show am_W X _ 473 15 _ [(.int v8), (.int 1)] h9 _
      refine aw_iadd (v := (1 + v8)) (pc1 := 16) at_473_15 rfl rfl ?_
      refine aw_istore_n (lv1 := am_put1 _ 2 _) (pc1 := 17) at_473_16 rfl rfl ?_
      refine aw_vload_n (pc1 := 18) at_473_17 (am_lk1 (am_lk1 l0 rfl (by rw [am_isRc i0]; rfl)) rfl rfl) i0 rfl ?_
      refine aw_iload_n (pc1 := 19) at_473_18 (am_lk1 am_lk0 rfl rfl) rfl ?_
      obtain ⟨z11, hs6⟩ := am_ift hs5
      clear hs5
      refine aw_call (F := fm_476 N x0 v4 h9) (t := true) (na := 2) (kd := 1) (as := [x0, (.int v4)]) at_473_19 (am_k3v kb_476) mn_476 mk_476 rfl rfl (am_ok_v mi_476 (am_hl rfl (am_ccR i0 (am_ccI am_cats_0)) rfl) z11) (am_hc am_cats_0 rfl) (fun _ => ⟨rfl, hh_473⟩) (fun o1 hz9 => rm_476 x0 v4 h9 o1 i0 hz9) ?_
      rcases am_cI_s hs6 with ⟨v12, h13, f14, hs7⟩ | hs7
      · clear hs6
        refine Or.inl ⟨_, _, f14, ?_⟩
        show am_W X _ 473 22 _ [(.int v12)] h13 _
        refine aw_istore_n (lv1 := am_put1 _ 3 _) (pc1 := 23) at_473_22 rfl rfl ?_
        refine aw_iload_n (pc1 := 24) at_473_23 am_lk0 rfl ?_
        by_cases c15 : v12 = 0
        · rw [if_pos c15] at hs7
          refine aw_ifeq_t at_473_24 c15 ?_
          refine aw_iconst (v := 0) (pc1 := 32) at_473_31 (by decide) rfl ?_
          exact rg_473_32 x0 v4 ((1 + v8)) 0 h13 o (am_lk1 (am_lk1 (am_lk1 l0 rfl (by rw [am_isRc i0]; rfl)) rfl rfl) rfl rfl) (am_lk1 (am_lk1 am_lk0 rfl rfl) rfl rfl) (am_lk1 am_lk0 rfl rfl) i0 hs7
        · rw [if_neg c15] at hs7
          refine aw_ifeq_f (pc1 := 27) at_473_24 c15 rfl ?_
          refine aw_iconst (v := 1) (pc1 := 28) at_473_27 (by decide) rfl ?_
          refine aw_goto at_473_28 ?_
          exact rg_473_32 x0 v4 ((1 + v8)) 1 h13 o (am_lk1 (am_lk1 (am_lk1 l0 rfl (by rw [am_isRc i0]; rfl)) rfl rfl) rfl rfl) (am_lk1 (am_lk1 am_lk0 rfl rfl) rfl rfl) (am_lk1 am_lk0 rfl rfl) i0 hs7
      · clear hs6
        exact Or.inr hs7
    · clear hs4
      exact Or.inr hs5
  · clear hs2
    exact Or.inr hs3
def fm_473 (N : Nat) (y0 : Value) (h : am_H) : Option am_O := fg_473_0 N y0 h
theorem rm_473 {X : am_X} {d : Nat} {N : Nat} (y0 : Value) (h : am_H) (o : am_O) (i0 : am_isR y0 = true) (hs : fm_473 N y0 h = some o) : am_W X (d + 6) 473 0 (am_args 0 [y0]) [] h (fun q => q = o) := by
  rw [am_args_R i0]
  exact rg_473_0 y0 h o rfl i0 hs
def fg_472_0 (N : Nat) (x0 : Value) (x1 : Int32) (x2 : Int64) (h : am_H) : Option am_O := ((am_pP 3168 x0 (.long x2) h).bind fun h1 => ((am_pP 3169 x0 (.int (-1)) h1).bind fun h3 => (if ¬ x1 = 4 then (if am_pOk 12 x0 h3 then am_cI true (fm_439 N x0 x1 ((-1)) h3) (fun v7 h8 => (if ¬ v7 = 0 then (if am_pOk 12 x0 h8 then am_cI true (fm_474 x0 v7 h8) (fun v12 h13 => ((am_pP 3169 x0 (.int v12) h13).bind fun h15 => ((am_vI (am_pG 3169 x0 h15)).bind fun v17 => (if am_pOk 12 x0 h15 then am_cI true (fm_439 N x0 x1 v17 h15) (fun v20 h21 => some (.inl (none, h21))) else none)))) else none) else (if am_pOk 12 x0 h8 then am_cV true (fm_442 N x0 h8) (fun h25 => some (.inl (none, h25))) else none))) else none) else (if am_pOk 12 x0 h3 then am_cV true (fm_473 N x0 h3) (fun h29 => some (.inl (none, h29))) else none))))
theorem rg_472_0 {X : am_X} {d : Nat} {N : Nat} {lv : am_LV} (x0 : Value) (x1 : Int32) (x2 : Int64) (h : am_H) (o : am_O) (l0 : lv.lookup 0 = some x0) (l1 : lv.lookup 1 = some (.int x1)) (l2 : lv.lookup 2 = some (.long x2)) (i0 : am_isR x0 = true) (hs : fg_472_0 N x0 x1 x2 h = some o) : am_W X (d + 7) 472 0 lv [] h (fun q => q = o) := by
  unfold fg_472_0 at hs
  refine aw_vload_n (pc1 := 1) at_472_0 l0 i0 rfl ?_
  refine aw_lload_n (pc1 := 2) at_472_1 l2 rfl ?_
  obtain ⟨h1, e2, hs1⟩ := am_bind hs
  clear hs
  refine aw_pP (pc1 := 5) at_472_2 e2 rfl ?_
  refine aw_vload_n (pc1 := 6) at_472_5 l0 i0 rfl ?_
  refine aw_iconst (v := (-1)) (pc1 := 7) at_472_6 (by decide) rfl ?_
  obtain ⟨h3, e4, hs2⟩ := am_bind hs1
  clear hs1
  refine aw_pP (pc1 := 10) at_472_7 e4 rfl ?_
  refine aw_iload_n (pc1 := 11) at_472_10 l1 rfl ?_
  refine aw_iconst (v := 4) (pc1 := 12) at_472_11 (by decide) rfl ?_
  by_cases c5 : ¬ x1 = 4
  · rw [if_pos c5] at hs2
    refine aw_icne_t at_472_12 c5 ?_
    refine aw_vload_n (pc1 := 21) at_472_20 l0 i0 rfl ?_
    refine aw_iload_n (pc1 := 22) at_472_21 l1 rfl ?_
    refine aw_iconst (v := (-1)) (pc1 := 23) at_472_22 (by decide) rfl ?_
    obtain ⟨z6, hs3⟩ := am_ift hs2
    clear hs2
    refine aw_call (F := fm_439 N x0 x1 ((-1)) h3) (t := true) (na := 3) (kd := 1) (as := [x0, (.int x1), (.int (-1))]) at_472_23 (am_k3v kb_439) mn_439 mk_439 rfl rfl (am_ok_v mi_439 (am_hl rfl (am_ccR i0 (am_ccI (am_ccI am_cats_0))) rfl) z6) (am_hc am_cats_0 rfl) (fun _ => ⟨rfl, hh_472⟩) (fun o1 hz9 => rm_439 x0 x1 ((-1)) h3 o1 i0 hz9) ?_
    rcases am_cI_s hs3 with ⟨v7, h8, f9, hs4⟩ | hs4
    · clear hs3
      refine Or.inl ⟨_, _, f9, ?_⟩
      show am_W X _ 472 26 _ [(.int v7)] h8 _
      refine aw_istore (lv1 := am_put1 _ 4 _) (pc1 := 28) at_472_26 rfl rfl ?_
      refine aw_iload (pc1 := 30) at_472_28 am_lk0 rfl ?_
      by_cases c10 : ¬ v7 = 0
      · rw [if_pos c10] at hs4
        refine aw_ifne_t at_472_30 c10 ?_
        refine aw_vload_n (pc1 := 39) at_472_38 (am_lk1 l0 rfl rfl) i0 rfl ?_
        refine aw_vload_n (pc1 := 40) at_472_39 (am_lk1 l0 rfl rfl) i0 rfl ?_
        refine aw_iload (pc1 := 42) at_472_40 am_lk0 rfl ?_
        obtain ⟨z11, hs5⟩ := am_ift hs4
        clear hs4
        refine aw_call (F := fm_474 x0 v7 h8) (t := true) (na := 2) (kd := 1) (as := [x0, (.int v7)]) at_472_42 (am_k3v kb_474) mn_474 mk_474 rfl rfl (am_ok_v mi_474 (am_hl rfl (am_ccR i0 (am_ccI am_cats_0)) rfl) z11) (am_hc (am_ccR i0 am_cats_0) rfl) (fun _ => ⟨rfl, hh_472⟩) (fun o1 hz9 => rm_474 x0 v7 h8 o1 i0 hz9) ?_
        rcases am_cI_s hs5 with ⟨v12, h13, f14, hs6⟩ | hs6
        · clear hs5
          refine Or.inl ⟨_, _, f14, ?_⟩
          show am_W X _ 472 45 _ [(.int v12), x0] h13 _
          obtain ⟨h15, e16, hs7⟩ := am_bind hs6
          clear hs6
          refine aw_pP (pc1 := 48) at_472_45 e16 rfl ?_
          refine aw_vload_n (pc1 := 49) at_472_48 (am_lk1 l0 rfl rfl) i0 rfl ?_
          refine aw_iload_n (pc1 := 50) at_472_49 (am_lk1 l1 rfl rfl) rfl ?_
          refine aw_vload_n (pc1 := 51) at_472_50 (am_lk1 l0 rfl rfl) i0 rfl ?_
          obtain ⟨v17, e18, hs8⟩ := am_bind hs7
          clear hs7
          refine aw_pG (pc1 := 54) at_472_51 (am_vI_s e18) rfl ?_
          obtain ⟨z19, hs9⟩ := am_ift hs8
          clear hs8
          refine aw_call (F := fm_439 N x0 x1 v17 h15) (t := true) (na := 3) (kd := 1) (as := [x0, (.int x1), (.int v17)]) at_472_54 (am_k3v kb_439) mn_439 mk_439 rfl rfl (am_ok_v mi_439 (am_hl rfl (am_ccR i0 (am_ccI (am_ccI am_cats_0))) rfl) z19) (am_hc am_cats_0 rfl) (fun _ => ⟨rfl, hh_472⟩) (fun o1 hz9 => rm_439 x0 x1 v17 h15 o1 i0 hz9) ?_
          rcases am_cI_s hs9 with ⟨v20, h21, f22, hs10⟩ | hs10
          · clear hs9
            refine Or.inl ⟨_, _, f22, ?_⟩
            show am_W X _ 472 57 _ [(.int v20)] h21 _
            refine aw_popi (pc1 := 58) at_472_57 rfl ?_
            cases hs10
            exact aw_vret at_472_58 rt_472 rfl
          · clear hs9
            exact Or.inr hs10
        · clear hs5
          exact Or.inr hs6
      · rw [if_neg c10] at hs4
        refine aw_ifne_f (pc1 := 33) at_472_30 c10 rfl ?_
        refine aw_vload_n (pc1 := 34) at_472_33 (am_lk1 l0 rfl rfl) i0 rfl ?_
        obtain ⟨z23, hs11⟩ := am_ift hs4
        clear hs4
        refine aw_call (F := fm_442 N x0 h8) (t := true) (na := 1) (kd := 1) (as := [x0]) at_472_34 (am_k3v kb_442) mn_442 mk_442 rfl rfl (am_ok_v mi_442 (am_hl rfl (am_ccR i0 am_cats_0) rfl) z23) (am_hc am_cats_0 rfl) (fun _ => ⟨rfl, hh_472⟩) (fun o1 hz9 => rm_442 x0 h8 o1 i0 hz9) ?_
        rcases am_cV_s hs11 with ⟨h25, f26, hs12⟩ | hs12
        · clear hs11
          refine Or.inl ⟨_, _, f26, ?_⟩
          show am_W X _ 472 37 _ [] h25 _
          cases hs12
          exact aw_vret at_472_37 rt_472 rfl
        · clear hs11
          exact Or.inr hs12
    · clear hs3
      exact Or.inr hs4
  · rw [if_neg c5] at hs2
    refine aw_icne_f (pc1 := 15) at_472_12 c5 rfl ?_
    refine aw_vload_n (pc1 := 16) at_472_15 l0 i0 rfl ?_
    obtain ⟨z27, hs13⟩ := am_ift hs2
    clear hs2
    refine aw_call (F := fm_473 N x0 h3) (t := true) (na := 1) (kd := 1) (as := [x0]) at_472_16 (am_k3v kb_473) mn_473 mk_473 rfl rfl (am_ok_v mi_473 (am_hl rfl (am_ccR i0 am_cats_0) rfl) z27) (am_hc am_cats_0 rfl) (fun _ => ⟨rfl, hh_472⟩) (fun o1 hz9 => rm_473 x0 h3 o1 i0 hz9) ?_
    rcases am_cV_s hs13 with ⟨h29, f30, hs14⟩ | hs14
    · clear hs13
      refine Or.inl ⟨_, _, f30, ?_⟩
      show am_W X _ 472 19 _ [] h29 _
      cases hs14
      exact aw_vret at_472_19 rt_472 rfl
    · clear hs13
      exact Or.inr hs14
def fm_472 (N : Nat) (y0 : Value) (y1 : Int32) (y2 : Int64) (h : am_H) : Option am_O := fg_472_0 N y0 y1 y2 h
theorem rm_472 {X : am_X} {d : Nat} {N : Nat} (y0 : Value) (y1 : Int32) (y2 : Int64) (h : am_H) (o : am_O) (i0 : am_isR y0 = true) (hs : fm_472 N y0 y1 y2 h = some o) : am_W X (d + 7) 472 0 (am_args 0 [y0, .int y1, .long y2]) [] h (fun q => q = o) := by
  rw [am_args_R i0, am_args_I, am_args_L]
  exact rg_472_0 y0 y1 y2 h o rfl rfl rfl i0 hs
def fg_470_41 (N : Nat) (x0 : Value) (x1 : Int32) (x2 : Int32) (x3 : Int64) (s0 : Value) (s1 : Int32) (h : am_H) : Option am_O := ((am_pP 3072 s0 (.int s1) h).bind fun h1 => ((am_vI (am_pG 3072 x0 h1)).bind fun v3 => (if v3 ≤ 0 then (if am_pOk 12 x0 h1 then am_cV true (fm_391 N x0 x1 h1) (fun h8 => (if am_pOk 12 x0 h8 then am_cV true (fm_472 N x0 x2 x3 h8) (fun h12 => ((am_vI (am_pG 3169 x0 h12)).bind fun v14 => (if am_pOk 12 x0 h12 then am_cI true (fm_356 N x0 3 x1 ((-1)) x2 v14 x3 h12) (fun v17 h18 => some (.inl (some (.int v17), h18))) else none))) else none)) else none) else some (.inl (some (.int 0), h1)))))
theorem rg_470_41 {X : am_X} {d : Nat} {N : Nat} {lv : am_LV} (x0 : Value) (x1 : Int32) (x2 : Int32) (x3 : Int64) (s0 : Value) (s1 : Int32) (h : am_H) (o : am_O) (l0 : lv.lookup 0 = some x0) (l1 : lv.lookup 1 = some (.int x1)) (l2 : lv.lookup 2 = some (.int x2)) (l3 : lv.lookup 3 = some (.long x3)) (i0 : am_isR x0 = true) (j0 : am_isR s0 = true) (hs : fg_470_41 N x0 x1 x2 x3 s0 s1 h = some o) : am_W X (d + 8) 470 41 lv [(.int s1), s0] h (fun q => q = o) := by
  unfold fg_470_41 at hs
  obtain ⟨h1, e2, hs1⟩ := am_bind hs
  clear hs
  refine aw_pP (pc1 := 44) at_470_41 e2 rfl ?_
  refine aw_vload_n (pc1 := 45) at_470_44 l0 i0 rfl ?_
  obtain ⟨v3, e4, hs2⟩ := am_bind hs1
  clear hs1
  refine aw_pG (pc1 := 48) at_470_45 (am_vI_s e4) rfl ?_
  by_cases c5 : v3 ≤ 0
  · rw [if_pos c5] at hs2
    refine aw_ifle_t at_470_48 c5 ?_
    refine aw_vload_n (pc1 := 54) at_470_53 l0 i0 rfl ?_
    refine aw_iload_n (pc1 := 55) at_470_54 l1 rfl ?_
    obtain ⟨z6, hs3⟩ := am_ift hs2
    clear hs2
    refine aw_call (F := fm_391 N x0 x1 h1) (t := true) (na := 2) (kd := 1) (as := [x0, (.int x1)]) at_470_55 (am_k3v kb_391) mn_391 mk_391 rfl rfl (am_ok_v mi_391 (am_hl rfl (am_ccR i0 (am_ccI am_cats_0)) rfl) z6) (am_hc am_cats_0 rfl) (fun _ => ⟨rfl, hh_470⟩) (fun o1 hz9 => rm_391 x0 x1 h1 o1 i0 hz9) ?_
    rcases am_cV_s hs3 with ⟨h8, f9, hs4⟩ | hs4
    · clear hs3
      refine Or.inl ⟨_, _, f9, ?_⟩
      show am_W X _ 470 58 _ [] h8 _
      refine aw_vload_n (pc1 := 59) at_470_58 l0 i0 rfl ?_
      refine aw_iload_n (pc1 := 60) at_470_59 l2 rfl ?_
      refine aw_lload_n (pc1 := 61) at_470_60 l3 rfl ?_
      obtain ⟨z10, hs5⟩ := am_ift hs4
      clear hs4
      refine aw_call (F := fm_472 N x0 x2 x3 h8) (t := true) (na := 3) (kd := 1) (as := [x0, (.int x2), (.long x3)]) at_470_61 (am_k3v kb_472) mn_472 mk_472 rfl rfl (am_ok_v mi_472 (am_hl rfl (am_ccR i0 (am_ccI (am_ccL am_cats_0))) rfl) z10) (am_hc am_cats_0 rfl) (fun _ => ⟨rfl, hh_470⟩) (fun o1 hz9 => rm_472 x0 x2 x3 h8 o1 i0 hz9) ?_
      rcases am_cV_s hs5 with ⟨h12, f13, hs6⟩ | hs6
      · clear hs5
        refine Or.inl ⟨_, _, f13, ?_⟩
        show am_W X _ 470 64 _ [] h12 _
        refine aw_vload_n (pc1 := 65) at_470_64 l0 i0 rfl ?_
        refine aw_iconst (v := 3) (pc1 := 66) at_470_65 (by decide) rfl ?_
        refine aw_iload_n (pc1 := 67) at_470_66 l1 rfl ?_
        refine aw_iconst (v := (-1)) (pc1 := 68) at_470_67 (by decide) rfl ?_
        refine aw_iload_n (pc1 := 69) at_470_68 l2 rfl ?_
        refine aw_vload_n (pc1 := 70) at_470_69 l0 i0 rfl ?_
        obtain ⟨v14, e15, hs7⟩ := am_bind hs6
        clear hs6
        refine aw_pG (pc1 := 73) at_470_70 (am_vI_s e15) rfl ?_
        refine aw_lload_n (pc1 := 74) at_470_73 l3 rfl ?_
        obtain ⟨z16, hs8⟩ := am_ift hs7
        clear hs7
        refine aw_call (F := fm_356 N x0 3 x1 ((-1)) x2 v14 x3 h12) (t := true) (na := 7) (kd := 1) (as := [x0, (.int 3), (.int x1), (.int (-1)), (.int x2), (.int v14), (.long x3)]) at_470_74 (am_k3v kb_356) mn_356 mk_356 rfl rfl (am_ok_v mi_356 (am_hl rfl (am_ccR i0 (am_ccI (am_ccI (am_ccI (am_ccI (am_ccI (am_ccL am_cats_0))))))) rfl) z16) (am_hc am_cats_0 rfl) (fun _ => ⟨rfl, hh_470⟩) (fun o1 hz9 => rm_356 x0 3 x1 ((-1)) x2 v14 x3 h12 o1 i0 hz9) ?_
        rcases am_cI_s hs8 with ⟨v17, h18, f19, hs9⟩ | hs9
        · clear hs8
          refine Or.inl ⟨_, _, f19, ?_⟩
          show am_W X _ 470 77 _ [(.int v17)] h18 _
          cases hs9
          exact aw_iret at_470_77 (by rw [rt_470]; rfl) rfl
        · clear hs8
          exact Or.inr hs9
      · clear hs5
        exact Or.inr hs6
    · clear hs3
      exact Or.inr hs4
  · rw [if_neg c5] at hs2
    refine aw_ifle_f (pc1 := 51) at_470_48 c5 rfl ?_
    refine aw_iconst (v := 0) (pc1 := 52) at_470_51 (by decide) rfl ?_
    cases hs2
    exact aw_iret at_470_52 (by rw [rt_470]; rfl) rfl
def fg_470_0 (N : Nat) (x0 : Value) (x1 : Int32) (x2 : Int32) (x3 : Int64) (h : am_H) : Option am_O := (if am_pOk 12 x0 h then am_cI true (fm_358 x0 x1 h) (fun v2 h3 => (if ¬ v2 = 0 then (if am_pOk 12 x0 h3 then am_cI true (fm_471 x0 x1 x2 h3) (fun v7 h8 => (if ¬ v7 = 0 then ((am_vI (am_pG 3073 x0 h8)).bind fun v11 => (if ¬ v11 = 600 then (fg_470_41 N x0 x1 x2 x3 x0 0 h8) else (fg_470_41 N x0 x1 x2 x3 x0 3 h8))) else (fg_470_41 N x0 x1 x2 x3 x0 2 h8))) else none) else (fg_470_41 N x0 x1 x2 x3 x0 1 h3))) else none)
theorem rg_470_0 {X : am_X} {d : Nat} {N : Nat} {lv : am_LV} (x0 : Value) (x1 : Int32) (x2 : Int32) (x3 : Int64) (h : am_H) (o : am_O) (l0 : lv.lookup 0 = some x0) (l1 : lv.lookup 1 = some (.int x1)) (l2 : lv.lookup 2 = some (.int x2)) (l3 : lv.lookup 3 = some (.long x3)) (i0 : am_isR x0 = true) (hs : fg_470_0 N x0 x1 x2 x3 h = some o) : am_W X (d + 8) 470 0 lv [] h (fun q => q = o) := by
  unfold fg_470_0 at hs
  refine aw_vload_n (pc1 := 1) at_470_0 l0 i0 rfl ?_
  refine aw_vload_n (pc1 := 2) at_470_1 l0 i0 rfl ?_
  refine aw_iload_n (pc1 := 3) at_470_2 l1 rfl ?_
  obtain ⟨z1, hs1⟩ := am_ift hs
  clear hs
  refine aw_call (F := fm_358 x0 x1 h) (t := true) (na := 2) (kd := 1) (as := [x0, (.int x1)]) at_470_3 (am_k3v kb_358) mn_358 mk_358 rfl rfl (am_ok_v mi_358 (am_hl rfl (am_ccR i0 (am_ccI am_cats_0)) rfl) z1) (am_hc (am_ccR i0 am_cats_0) rfl) (fun _ => ⟨rfl, hh_470⟩) (fun o1 hz9 => rm_358 x0 x1 h o1 i0 hz9) ?_
  rcases am_cI_s hs1 with ⟨v2, h3, f4, hs2⟩ | hs2
  · clear hs1
    refine Or.inl ⟨_, _, f4, ?_⟩
    show am_W X _ 470 6 _ [(.int v2), x0] h3 _
    by_cases c5 : ¬ v2 = 0
    · rw [if_pos c5] at hs2
      refine aw_ifne_t at_470_6 c5 ?_
      refine aw_vload_n (pc1 := 14) at_470_13 l0 i0 rfl ?_
      refine aw_iload_n (pc1 := 15) at_470_14 l1 rfl ?_
      refine aw_iload_n (pc1 := 16) at_470_15 l2 rfl ?_
      obtain ⟨z6, hs3⟩ := am_ift hs2
      clear hs2
      refine aw_call (F := fm_471 x0 x1 x2 h3) (t := true) (na := 3) (kd := 1) (as := [x0, (.int x1), (.int x2)]) at_470_16 (am_k3v kb_471) mn_471 mk_471 rfl rfl (am_ok_v mi_471 (am_hl rfl (am_ccR i0 (am_ccI (am_ccI am_cats_0))) rfl) z6) (am_hc (am_ccR i0 am_cats_0) rfl) (fun _ => ⟨rfl, hh_470⟩) (fun o1 hz9 => rm_471 x0 x1 x2 h3 o1 i0 hz9) ?_
      rcases am_cI_s hs3 with ⟨v7, h8, f9, hs4⟩ | hs4
      · clear hs3
        refine Or.inl ⟨_, _, f9, ?_⟩
        show am_W X _ 470 19 _ [(.int v7), x0] h8 _
        by_cases c10 : ¬ v7 = 0
        · rw [if_pos c10] at hs4
          refine aw_ifne_t at_470_19 c10 ?_
          refine aw_vload_n (pc1 := 27) at_470_26 l0 i0 rfl ?_
          obtain ⟨v11, e12, hs5⟩ := am_bind hs4
          clear hs4
          refine aw_pG (pc1 := 30) at_470_27 (am_vI_s e12) rfl ?_
          refine aw_sipush (v := 600) (pc1 := 33) at_470_30 (by decide) rfl ?_
          by_cases c13 : ¬ v11 = 600
          · rw [if_pos c13] at hs5
            refine aw_icne_t at_470_33 c13 ?_
            refine aw_iconst (v := 0) (pc1 := 41) at_470_40 (by decide) rfl ?_
            exact rg_470_41 x0 x1 x2 x3 x0 0 h8 o l0 l1 l2 l3 i0 i0 hs5
          · rw [if_neg c13] at hs5
            refine aw_icne_f (pc1 := 36) at_470_33 c13 rfl ?_
            refine aw_iconst (v := 3) (pc1 := 37) at_470_36 (by decide) rfl ?_
            refine aw_goto at_470_37 ?_
            exact rg_470_41 x0 x1 x2 x3 x0 3 h8 o l0 l1 l2 l3 i0 i0 hs5
        · rw [if_neg c10] at hs4
          refine aw_ifne_f (pc1 := 22) at_470_19 c10 rfl ?_
          refine aw_iconst (v := 2) (pc1 := 23) at_470_22 (by decide) rfl ?_
          refine aw_goto at_470_23 ?_
          exact rg_470_41 x0 x1 x2 x3 x0 2 h8 o l0 l1 l2 l3 i0 i0 hs4
      · clear hs3
        exact Or.inr hs4
    · rw [if_neg c5] at hs2
      refine aw_ifne_f (pc1 := 9) at_470_6 c5 rfl ?_
      refine aw_iconst (v := 1) (pc1 := 10) at_470_9 (by decide) rfl ?_
      refine aw_goto at_470_10 ?_
      exact rg_470_41 x0 x1 x2 x3 x0 1 h3 o l0 l1 l2 l3 i0 i0 hs2
  · clear hs1
    exact Or.inr hs2
def fm_470 (N : Nat) (y0 : Value) (y1 : Int32) (y2 : Int32) (y3 : Int64) (h : am_H) : Option am_O := fg_470_0 N y0 y1 y2 y3 h
theorem rm_470 {X : am_X} {d : Nat} {N : Nat} (y0 : Value) (y1 : Int32) (y2 : Int32) (y3 : Int64) (h : am_H) (o : am_O) (i0 : am_isR y0 = true) (hs : fm_470 N y0 y1 y2 y3 h = some o) : am_W X (d + 8) 470 0 (am_args 0 [y0, .int y1, .int y2, .long y3]) [] h (fun q => q = o) := by
  rw [am_args_R i0, am_args_I, am_args_I, am_args_L]
  exact rg_470_0 y0 y1 y2 y3 h o rfl rfl rfl rfl i0 hs
def fg_196_0 (N : Nat) (x0 : Value) (x1 : Int32) (x2 : Int32) (h : am_H) : Option am_O := (if am_pOk 11 x0 h then am_cR true (fm_63 x0 x1 h) (fun v2 h3 => ((am_vR (am_pG 2823 x0 h3)).bind fun v5 => (if am_pOk 11 x0 h3 then am_cR true (fm_63 x0 x2 h3) (fun v8 h9 => (if am_pOk 0 v5 h9 then am_cI true (fm_159 N v5 v2 v8 0 h9) (fun v12 h13 => ((am_vR (am_pG 2823 x0 h13)).bind fun v15 => (if am_pOk 0 v15 h13 then am_cI true (fm_162 N v15 h13) (fun v18 h19 => some (.inl (some (.int v18), h19))) else none))) else none)) else none))) else none)
theorem rg_196_0 {X : am_X} {d : Nat} {N : Nat} {lv : am_LV} (x0 : Value) (x1 : Int32) (x2 : Int32) (h : am_H) (o : am_O) (l0 : lv.lookup 0 = some x0) (l1 : lv.lookup 1 = some (.int x1)) (l2 : lv.lookup 2 = some (.int x2)) (i0 : am_isR x0 = true) (hs : fg_196_0 N x0 x1 x2 h = some o) : am_W X (d + 5) 196 0 lv [] h (fun q => q = o) := by
  unfold fg_196_0 at hs
  refine aw_vload_n (pc1 := 1) at_196_0 l0 i0 rfl ?_
  refine aw_iload_n (pc1 := 2) at_196_1 l1 rfl ?_
  obtain ⟨z1, hs1⟩ := am_ift hs
  clear hs
  refine aw_call (F := fm_63 x0 x1 h) (t := true) (na := 2) (kd := 1) (as := [x0, (.int x1)]) at_196_2 (am_k3v kb_63) mn_63 mk_63 rfl rfl (am_ok_v mi_63 (am_hl rfl (am_ccR i0 (am_ccI am_cats_0)) rfl) z1) (am_hc am_cats_0 rfl) (fun _ => ⟨rfl, hh_196⟩) (fun o1 hz9 => rm_63 x0 x1 h o1 i0 hz9) ?_
  rcases am_cR_s hs1 with ⟨v2, h3, f4, iv2, hs2⟩ | hs2
  · clear hs1
    refine Or.inl ⟨_, _, f4, ?_⟩
    show am_W X _ 196 5 _ [v2] h3 _
    refine aw_vstore_n (lv1 := am_put1 _ 3 _) (pc1 := 6) at_196_5 iv2 rfl rfl ?_
    refine aw_vload_n (pc1 := 7) at_196_6 (am_lk1 l0 rfl rfl) i0 rfl ?_
    obtain ⟨v5, e6, hs3⟩ := am_bind hs2
    clear hs2
    refine aw_pG (pc1 := 10) at_196_7 (am_vR_s e6).1 rfl ?_
    refine aw_vload_n (pc1 := 11) at_196_10 am_lk0 iv2 rfl ?_
    refine aw_vload_n (pc1 := 12) at_196_11 (am_lk1 l0 rfl rfl) i0 rfl ?_
    refine aw_iload_n (pc1 := 13) at_196_12 (am_lk1 l2 rfl rfl) rfl ?_
    obtain ⟨z7, hs4⟩ := am_ift hs3
    clear hs3
    refine aw_call (F := fm_63 x0 x2 h3) (t := true) (na := 2) (kd := 1) (as := [x0, (.int x2)]) at_196_13 (am_k3v kb_63) mn_63 mk_63 rfl rfl (am_ok_v mi_63 (am_hl rfl (am_ccR i0 (am_ccI am_cats_0)) rfl) z7) (am_hc (am_ccR iv2 (am_ccR (am_vR_s e6).2 am_cats_0)) rfl) (fun _ => ⟨rfl, hh_196⟩) (fun o1 hz9 => rm_63 x0 x2 h3 o1 i0 hz9) ?_
    rcases am_cR_s hs4 with ⟨v8, h9, f10, iv8, hs5⟩ | hs5
    · clear hs4
      refine Or.inl ⟨_, _, f10, ?_⟩
      show am_W X _ 196 16 _ [v8, v2, v5] h9 _
      refine aw_iconst (v := 0) (pc1 := 17) at_196_16 (by decide) rfl ?_
      obtain ⟨z11, hs6⟩ := am_ift hs5
      clear hs5
      refine aw_call (F := fm_159 N v5 v2 v8 0 h9) (t := true) (na := 4) (kd := 1) (as := [v5, v2, v8, (.int 0)]) at_196_17 (am_k3v kb_159) mn_159 mk_159 rfl rfl (am_ok_v mi_159 (am_hl rfl (am_ccR (am_vR_s e6).2 (am_ccR iv2 (am_ccR iv8 (am_ccI am_cats_0)))) rfl) z11) (am_hc am_cats_0 rfl) (fun _ => ⟨rfl, hh_196⟩) (fun o1 hz9 => rm_159 v5 v2 v8 0 h9 o1 (am_vR_s e6).2 iv2 iv8 hz9) ?_
      rcases am_cI_s hs6 with ⟨v12, h13, f14, hs7⟩ | hs7
      · clear hs6
        refine Or.inl ⟨_, _, f14, ?_⟩
        show am_W X _ 196 20 _ [(.int v12)] h13 _
        refine aw_popi (pc1 := 21) at_196_20 rfl ?_
        refine aw_vload_n (pc1 := 22) at_196_21 (am_lk1 l0 rfl rfl) i0 rfl ?_
        obtain ⟨v15, e16, hs8⟩ := am_bind hs7
        clear hs7
        refine aw_pG (pc1 := 25) at_196_22 (am_vR_s e16).1 rfl ?_
        obtain ⟨z17, hs9⟩ := am_ift hs8
        clear hs8
        refine aw_call (F := fm_162 N v15 h13) (t := true) (na := 1) (kd := 1) (as := [v15]) at_196_25 (am_k3v kb_162) mn_162 mk_162 rfl rfl (am_ok_v mi_162 (am_hl rfl (am_ccR (am_vR_s e16).2 am_cats_0) rfl) z17) (am_hc am_cats_0 rfl) (fun _ => ⟨rfl, hh_196⟩) (fun o1 hz9 => rm_162 v15 h13 o1 (am_vR_s e16).2 hz9) ?_
        rcases am_cI_s hs9 with ⟨v18, h19, f20, hs10⟩ | hs10
        · clear hs9
          refine Or.inl ⟨_, _, f20, ?_⟩
          show am_W X _ 196 28 _ [(.int v18)] h19 _
          cases hs10
          exact aw_iret at_196_28 (by rw [rt_196]; rfl) rfl
        · clear hs9
          exact Or.inr hs10
      · clear hs6
        exact Or.inr hs7
    · clear hs4
      exact Or.inr hs5
  · clear hs1
    exact Or.inr hs2
def fm_196 (N : Nat) (y0 : Value) (y1 : Int32) (y2 : Int32) (h : am_H) : Option am_O := fg_196_0 N y0 y1 y2 h
theorem rm_196 {X : am_X} {d : Nat} {N : Nat} (y0 : Value) (y1 : Int32) (y2 : Int32) (h : am_H) (o : am_O) (i0 : am_isR y0 = true) (hs : fm_196 N y0 y1 y2 h = some o) : am_W X (d + 5) 196 0 (am_args 0 [y0, .int y1, .int y2]) [] h (fun q => q = o) := by
  rw [am_args_R i0, am_args_I, am_args_I]
  exact rg_196_0 y0 y1 y2 h o rfl rfl rfl i0 hs
def fg_195_15 (N : Nat) (h : am_H) : Option am_O := some (.inl (some (.int 1), h))
theorem rg_195_15 {X : am_X} {d : Nat} {N : Nat} {lv : am_LV} (h : am_H) (o : am_O) (hs : fg_195_15 N h = some o) : am_W X (d + 6) 195 15 lv [] h (fun q => q = o) := by
  unfold fg_195_15 at hs
  refine aw_iconst (v := 1) (pc1 := 16) at_195_15 (by decide) rfl ?_
  cases hs
  exact aw_iret at_195_16 (by rw [rt_195]; rfl) rfl
def fg_195_0 (N : Nat) (x0 : Value) (x1 : Int32) (x2 : Int32) (x3 : Value) (h : am_H) : Option am_O := (if am_pOk 11 x0 h then (match fm_196 N x0 x1 x2 h with | some (.inl (some (.int v2), h3)) => ((am_pSL x3 0 (Int32.toInt64 v2) h3).bind fun h5 => some (.inl (some (.int 0), h5))) | some (.inr (2, h7)) => (fg_195_15 N h7) | _ => none) else none)
theorem rg_195_0 {X : am_X} {d : Nat} {N : Nat} {lv : am_LV} (x0 : Value) (x1 : Int32) (x2 : Int32) (x3 : Value) (h : am_H) (o : am_O) (l0 : lv.lookup 0 = some x0) (l1 : lv.lookup 1 = some (.int x1)) (l2 : lv.lookup 2 = some (.int x2)) (l3 : lv.lookup 3 = some x3) (i0 : am_isR x0 = true) (i3 : am_isR x3 = true) (hs : fg_195_0 N x0 x1 x2 x3 h = some o) : am_W X (d + 6) 195 0 lv [] h (fun q => q = o) := by
  unfold fg_195_0 at hs
  refine aw_vload_n (pc1 := 1) at_195_0 l3 i3 rfl ?_
  refine aw_iconst (v := 0) (pc1 := 2) at_195_1 (by decide) rfl ?_
  refine aw_vload_n (pc1 := 3) at_195_2 l0 i0 rfl ?_
  refine aw_iload_n (pc1 := 4) at_195_3 l1 rfl ?_
  refine aw_iload_n (pc1 := 5) at_195_4 l2 rfl ?_
  obtain ⟨z1, hs1⟩ := am_ift hs
  clear hs
  refine aw_callH (F := fm_196 N x0 x1 x2 h) (na := 3) (kd := 1) (as := [x0, (.int x1), (.int x2)]) at_195_5 (am_k3v kb_196) mn_196 mk_196 rfl rfl (am_ok_v mi_196 (am_hl rfl (am_ccR i0 (am_ccI (am_ccI am_cats_0))) rfl) z1) (am_hc (am_ccI (am_ccR i3 am_cats_0)) rfl) (fun o1 hz9 => rm_196 x0 x1 x2 h o1 i0 hz9) ?_
  split at hs1
  · rename_i v2 h3 f4
    refine Or.inl ⟨_, _, f4, ?_⟩
    show am_W X _ 195 8 _ [(.int v2), (.int 0), x3] h3 _
    refine aw_i2l (v := (Int32.toInt64 v2)) (pc1 := 9) at_195_8 rfl rfl ?_
    obtain ⟨h5, e6, hs2⟩ := am_bind hs1
    clear hs1
    refine aw_pSL (pc1 := 10) at_195_9 e6 rfl ?_
    refine aw_goto at_195_10 ?_
    refine aw_iconst (v := 0) (pc1 := 18) at_195_17 (by decide) rfl ?_
    cases hs2
    exact aw_iret at_195_18 (by rw [rt_195]; rfl) rfl
  · rename_i h7 f8
    refine Or.inr ⟨_, _, 15, 4, f8, rfl, hn_195, hd_195_5_2, ?_⟩
    exact rg_195_15 h7 o   hs1
  · cases hs1
def fm_195 (N : Nat) (y0 : Value) (y1 : Int32) (y2 : Int32) (y3 : Value) (h : am_H) : Option am_O := fg_195_0 N y0 y1 y2 y3 h
theorem rm_195 {X : am_X} {d : Nat} {N : Nat} (y0 : Value) (y1 : Int32) (y2 : Int32) (y3 : Value) (h : am_H) (o : am_O) (i0 : am_isR y0 = true) (i3 : am_isR y3 = true) (hs : fm_195 N y0 y1 y2 y3 h = some o) : am_W X (d + 6) 195 0 (am_args 0 [y0, .int y1, .int y2, y3]) [] h (fun q => q = o) := by
  rw [am_args_R i0, am_args_I, am_args_I, am_args_R i3]
  exact rg_195_0 y0 y1 y2 y3 h o rfl rfl rfl rfl i0 i3 hs
def fg_479_45 (s0 : Int32) (h : am_H) : Option am_O := (if am_rfit (some FieldType.boolean) s0 then some (.inl (some (.int s0), h)) else none)
theorem rg_479_45 {X : am_X} {d : Nat} {lv : am_LV} (s0 : Int32) (h : am_H) (o : am_O) (hs : fg_479_45 s0 h = some o) : am_W X (d) 479 45 lv [(.int s0)] h (fun q => q = o) := by
  unfold fg_479_45 at hs
  obtain ⟨z1, hs1⟩ := am_ift hs
  clear hs
  cases hs1
  exact aw_iret at_479_45 (by rw [rt_479]; exact z1) rfl
def fg_479_44 (h : am_H) : Option am_O := (fg_479_45 0 h)
theorem rg_479_44 {X : am_X} {d : Nat} {lv : am_LV} (h : am_H) (o : am_O) (hs : fg_479_44 h = some o) : am_W X (d) 479 44 lv [] h (fun q => q = o) := by
  unfold fg_479_44 at hs
  refine aw_iconst (v := 0) (pc1 := 45) at_479_44 (by decide) rfl ?_
  exact rg_479_45 0 h o   hs
def fg_479_40 (h : am_H) : Option am_O := (fg_479_45 1 h)
theorem rg_479_40 {X : am_X} {d : Nat} {lv : am_LV} (h : am_H) (o : am_O) (hs : fg_479_40 h = some o) : am_W X (d) 479 40 lv [] h (fun q => q = o) := by
  unfold fg_479_40 at hs
  refine aw_iconst (v := 1) (pc1 := 41) at_479_40 (by decide) rfl ?_
  refine aw_goto at_479_41 ?_
  exact rg_479_45 1 h o   hs
def fg_479_0 (x0 : Value) (x1 : Int32) (x2 : Int32) (h : am_H) : Option am_O := ((am_vR (am_pG 3074 x0 h)).bind fun v1 => ((am_pA 0 v1 x1 h).bind fun v3 => ((am_vR (am_pG 3074 x0 h)).bind fun v5 => ((am_pA 0 v5 x2 h).bind fun v7 => (if ¬ v3 = v7 then (fg_479_44 h) else ((am_vR (am_pG 3074 x0 h)).bind fun v10 => ((am_pA 0 v10 x1 h).bind fun v12 => (if ¬ v12 = 3 then (fg_479_40 h) else ((am_vR (am_pG 3076 x0 h)).bind fun v15 => ((am_pA 0 v15 x1 h).bind fun v17 => ((am_vR (am_pG 3076 x0 h)).bind fun v19 => ((am_pA 0 v19 x2 h).bind fun v21 => (if ¬ v17 = v21 then (fg_479_44 h) else (fg_479_40 h))))))))))))))
theorem rg_479_0 {X : am_X} {d : Nat} {lv : am_LV} (x0 : Value) (x1 : Int32) (x2 : Int32) (h : am_H) (o : am_O) (l0 : lv.lookup 0 = some x0) (l1 : lv.lookup 1 = some (.int x1)) (l2 : lv.lookup 2 = some (.int x2)) (i0 : am_isR x0 = true) (hs : fg_479_0 x0 x1 x2 h = some o) : am_W X (d) 479 0 lv [] h (fun q => q = o) := by
  unfold fg_479_0 at hs
  refine aw_vload_n (pc1 := 1) at_479_0 l0 i0 rfl ?_
  obtain ⟨v1, e2, hs1⟩ := am_bind hs
  clear hs
  refine aw_pG (pc1 := 4) at_479_1 (am_vR_s e2).1 rfl ?_
  refine aw_iload_n (pc1 := 5) at_479_4 l1 rfl ?_
  obtain ⟨v3, e4, hs2⟩ := am_bind hs1
  clear hs1
  refine aw_pA (pc1 := 6) at_479_5 (Or.inl ⟨rfl, rfl⟩) e4 rfl ?_
  refine aw_vload_n (pc1 := 7) at_479_6 l0 i0 rfl ?_
  obtain ⟨v5, e6, hs3⟩ := am_bind hs2
  clear hs2
  refine aw_pG (pc1 := 10) at_479_7 (am_vR_s e6).1 rfl ?_
  refine aw_iload_n (pc1 := 11) at_479_10 l2 rfl ?_
  obtain ⟨v7, e8, hs4⟩ := am_bind hs3
  clear hs3
  refine aw_pA (pc1 := 12) at_479_11 (Or.inl ⟨rfl, rfl⟩) e8 rfl ?_
  by_cases c9 : ¬ v3 = v7
  · rw [if_pos c9] at hs4
    refine aw_icne_t at_479_12 c9 ?_
    exact rg_479_44 h o   hs4
  · rw [if_neg c9] at hs4
    refine aw_icne_f (pc1 := 15) at_479_12 c9 rfl ?_
    refine aw_vload_n (pc1 := 16) at_479_15 l0 i0 rfl ?_
    obtain ⟨v10, e11, hs5⟩ := am_bind hs4
    clear hs4
    refine aw_pG (pc1 := 19) at_479_16 (am_vR_s e11).1 rfl ?_
    refine aw_iload_n (pc1 := 20) at_479_19 l1 rfl ?_
    obtain ⟨v12, e13, hs6⟩ := am_bind hs5
    clear hs5
    refine aw_pA (pc1 := 21) at_479_20 (Or.inl ⟨rfl, rfl⟩) e13 rfl ?_
    refine aw_iconst (v := 3) (pc1 := 22) at_479_21 (by decide) rfl ?_
    by_cases c14 : ¬ v12 = 3
    · rw [if_pos c14] at hs6
      refine aw_icne_t at_479_22 c14 ?_
      exact rg_479_40 h o   hs6
    · rw [if_neg c14] at hs6
      refine aw_icne_f (pc1 := 25) at_479_22 c14 rfl ?_
      refine aw_vload_n (pc1 := 26) at_479_25 l0 i0 rfl ?_
      obtain ⟨v15, e16, hs7⟩ := am_bind hs6
      clear hs6
      refine aw_pG (pc1 := 29) at_479_26 (am_vR_s e16).1 rfl ?_
      refine aw_iload_n (pc1 := 30) at_479_29 l1 rfl ?_
      obtain ⟨v17, e18, hs8⟩ := am_bind hs7
      clear hs7
      refine aw_pA (pc1 := 31) at_479_30 (Or.inl ⟨rfl, rfl⟩) e18 rfl ?_
      refine aw_vload_n (pc1 := 32) at_479_31 l0 i0 rfl ?_
      obtain ⟨v19, e20, hs9⟩ := am_bind hs8
      clear hs8
      refine aw_pG (pc1 := 35) at_479_32 (am_vR_s e20).1 rfl ?_
      refine aw_iload_n (pc1 := 36) at_479_35 l2 rfl ?_
      obtain ⟨v21, e22, hs10⟩ := am_bind hs9
      clear hs9
      refine aw_pA (pc1 := 37) at_479_36 (Or.inl ⟨rfl, rfl⟩) e22 rfl ?_
      by_cases c23 : ¬ v17 = v21
      · rw [if_pos c23] at hs10
        refine aw_icne_t at_479_37 c23 ?_
        exact rg_479_44 h o   hs10
      · rw [if_neg c23] at hs10
        refine aw_icne_f (pc1 := 40) at_479_37 c23 rfl ?_
        exact rg_479_40 h o   hs10
def fm_479 (y0 : Value) (y1 : Int32) (y2 : Int32) (h : am_H) : Option am_O := fg_479_0 y0 y1 y2 h
theorem rm_479 {X : am_X} {d : Nat} (y0 : Value) (y1 : Int32) (y2 : Int32) (h : am_H) (o : am_O) (i0 : am_isR y0 = true) (hs : fm_479 y0 y1 y2 h = some o) : am_W X (d) 479 0 (am_args 0 [y0, .int y1, .int y2]) [] h (fun q => q = o) := by
  rw [am_args_R i0, am_args_I, am_args_I]
  exact rg_479_0 y0 y1 y2 h o rfl rfl rfl i0 hs
def fg_480_129 (N : Nat) (h : am_H) : Option am_O := some (.inl (none, h))
theorem rg_480_129 {X : am_X} {d : Nat} {N : Nat} {lv : am_LV} (h : am_H) (o : am_O) (hs : fg_480_129 N h = some o) : am_W X (d + 1) 480 129 lv [] h (fun q => q = o) := by
  unfold fg_480_129 at hs
  cases hs
  exact aw_vret at_480_129 rt_480 rfl
def fg_480_85 (N : Nat) (rec_67 : Value → Int32 → Int32 → am_H → Option am_O) : Nat → Value → Int32 → Int32 → Int32 → Int32 → am_H → Option am_O
  | 0 => fun _ _ _ _ _ _ => none
  | K + 1 => fun x0 x1 x2 x3 x4 h => ((am_vR (am_pG 3096 x0 h)).bind fun v1 => ((am_pA 0 v1 x2 h).bind fun v3 => am_cI false (fm_343 v3 h) (fun v5 h6 => (if v5 ≤ x4 then ((am_vR (am_pG 3099 x0 h6)).bind fun v9 => ((am_pS 0 v9 x2 x3 h6).bind fun h11 => (rec_67 x0 x1 ((x2 + (-1))) h11))) else ((am_vR (am_pG 3099 x0 h6)).bind fun v13 => ((am_pA 0 v13 (x2 + x3) h6).bind fun v15 => (fg_480_85 N rec_67 K x0 x1 x2 ((x3 + v15)) ((x4 + 1)) h6)))))))
theorem rg_480_85 {X : am_X} {d : Nat} {N : Nat} {rec_67 : Value → Int32 → Int32 → am_H → Option am_O} (q_67 : ∀ (x0 : Value) (x1 : Int32) (x2 : Int32) (h : am_H) (o : am_O), rec_67 x0 x1 x2 h = some o → ∀ lv : am_LV, (lv.lookup 0 = some x0) → (lv.lookup 1 = some (.int x1)) → (lv.lookup 2 = some (.int x2)) → (am_isR x0 = true) → am_W X (d + 1) 480 67 lv [] h (fun q => q = o)) : ∀ (K : Nat) (x0 : Value) (x1 : Int32) (x2 : Int32) (x3 : Int32) (x4 : Int32) (h : am_H) (o : am_O), fg_480_85 N rec_67 K x0 x1 x2 x3 x4 h = some o → ∀ lv : am_LV, (lv.lookup 0 = some x0) → (lv.lookup 1 = some (.int x1)) → (lv.lookup 2 = some (.int x2)) → (lv.lookup 3 = some (.int x3)) → (lv.lookup 4 = some (.int x4)) → (am_isR x0 = true) → am_W X (d + 1) 480 85 lv [] h (fun q => q = o) := by
  intro K
  induction K with
  | zero => intro x0 x1 x2 x3 x4 h o hs; cases hs
  | succ K ih =>
    intro x0 x1 x2 x3 x4 h o hs lv l0 l1 l2 l3 l4 i0
    unfold fg_480_85 at hs
    refine aw_iload (pc1 := 87) at_480_85 l4 rfl ?_
    refine aw_vload_n (pc1 := 88) at_480_87 l0 i0 rfl ?_
    obtain ⟨v1, e2, hs1⟩ := am_bind hs
    clear hs
    refine aw_pG (pc1 := 91) at_480_88 (am_vR_s e2).1 rfl ?_
    refine aw_iload_n (pc1 := 92) at_480_91 l2 rfl ?_
    obtain ⟨v3, e4, hs2⟩ := am_bind hs1
    clear hs1
    refine aw_pA (pc1 := 93) at_480_92 (Or.inl ⟨rfl, rfl⟩) e4 rfl ?_
    refine aw_call (F := fm_343 v3 h) (t := false) (na := 1) (kd := 0) (as := [(.int v3)]) at_480_93 (am_k3s kb_343) mn_343 mk_343 rfl rfl (am_ok_s mi_343 (am_hl rfl (am_ccI am_cats_0) rfl)) (am_hc (am_ccI am_cats_0) rfl) (fun hz9 => by cases hz9) (fun o1 hz9 => rm_343 v3 h o1  hz9) ?_
    rcases am_cI_s hs2 with ⟨v5, h6, f7, hs3⟩ | hs3
    · clear hs2
      refine Or.inl ⟨_, _, f7, ?_⟩
      show am_W X _ 480 96 _ [(.int v5), (.int x4)] h6 _
      by_cases c8 : v5 ≤ x4
      · rw [if_pos c8] at hs3
        refine aw_icge_t at_480_96 c8 ?_
        refine aw_vload_n (pc1 := 117) at_480_116 l0 i0 rfl ?_
        obtain ⟨v9, e10, hs4⟩ := am_bind hs3
        clear hs3
        refine aw_pG (pc1 := 120) at_480_117 (am_vR_s e10).1 rfl ?_
        refine aw_iload_n (pc1 := 121) at_480_120 l2 rfl ?_
        refine aw_iload_n (pc1 := 122) at_480_121 l3 rfl ?_
        obtain ⟨h11, e12, hs5⟩ := am_bind hs4
        clear hs4
        refine aw_pS (pc1 := 123) at_480_122 (Or.inl ⟨rfl, rfl⟩) e12 rfl ?_
        refine aw_iinc (v := (x2 + (-1))) (c := (-1)) (lv1 := am_put1 _ 2 _) (pc1 := 126) at_480_123 l2 (by decide) rfl rfl rfl ?_
        refine aw_goto at_480_126 ?_
        exact q_67 x0 x1 ((x2 + (-1))) h11 o hs5 _ (am_lk1 l0 rfl rfl) (am_lk1 l1 rfl rfl) am_lk0 i0
      · rw [if_neg c8] at hs3
        refine aw_icge_f (pc1 := 99) at_480_96 c8 rfl ?_
        refine aw_iload_n (pc1 := 100) at_480_99 l3 rfl ?_
        refine aw_vload_n (pc1 := 101) at_480_100 l0 i0 rfl ?_
        obtain ⟨v13, e14, hs6⟩ := am_bind hs3
        clear hs3
        refine aw_pG (pc1 := 104) at_480_101 (am_vR_s e14).1 rfl ?_
        refine aw_iload_n (pc1 := 105) at_480_104 l2 rfl ?_
        refine aw_iload_n (pc1 := 106) at_480_105 l3 rfl ?_
        refine aw_iadd (v := (x2 + x3)) (pc1 := 107) at_480_106 rfl rfl ?_
        obtain ⟨v15, e16, hs7⟩ := am_bind hs6
        clear hs6
        refine aw_pA (pc1 := 108) at_480_107 (Or.inl ⟨rfl, rfl⟩) e16 rfl ?_
        refine aw_iadd (v := (x3 + v15)) (pc1 := 109) at_480_108 rfl rfl ?_
        refine aw_istore_n (lv1 := am_put1 _ 3 _) (pc1 := 110) at_480_109 rfl rfl ?_
        refine aw_iinc (v := (x4 + 1)) (c := 1) (lv1 := am_put1 _ 4 _) (pc1 := 113) at_480_110 (am_lk1 l4 rfl rfl) (by decide) rfl rfl rfl ?_
        refine aw_goto at_480_113 ?_
        exact ih x0 x1 x2 ((x3 + v15)) ((x4 + 1)) h6 o hs7 _ (am_lk1 (am_lk1 l0 rfl rfl) rfl rfl) (am_lk1 (am_lk1 l1 rfl rfl) rfl rfl) (am_lk1 (am_lk1 l2 rfl rfl) rfl rfl) (am_lk1 am_lk0 rfl rfl) am_lk0 i0
    · clear hs2
      exact Or.inr hs3
def fg_480_67 (N : Nat) : Nat → Value → Int32 → Int32 → am_H → Option am_O
  | 0 => fun _ _ _ _ => none
  | K + 1 => fun x0 x1 x2 h => (if x2 < 0 then (fg_480_129 N h) else ((am_vR (am_pG 3074 x0 h)).bind fun v2 => ((am_pA 0 v2 x1 h).bind fun v4 => (if ¬ v4 = 0 then (fg_480_129 N h) else (fg_480_85 N (fg_480_67 N K) N x0 x1 x2 1 0 h)))))
theorem rg_480_67 {X : am_X} {d : Nat} {N : Nat} : ∀ (K : Nat) (x0 : Value) (x1 : Int32) (x2 : Int32) (h : am_H) (o : am_O), fg_480_67 N K x0 x1 x2 h = some o → ∀ lv : am_LV, (lv.lookup 0 = some x0) → (lv.lookup 1 = some (.int x1)) → (lv.lookup 2 = some (.int x2)) → (am_isR x0 = true) → am_W X (d + 1) 480 67 lv [] h (fun q => q = o) := by
  intro K
  induction K with
  | zero => intro x0 x1 x2 h o hs; cases hs
  | succ K ih =>
    intro x0 x1 x2 h o hs lv l0 l1 l2 i0
    unfold fg_480_67 at hs
    refine aw_iload_n (pc1 := 68) at_480_67 l2 rfl ?_
    by_cases c1 : x2 < 0
    · rw [if_pos c1] at hs
      refine aw_iflt_t at_480_68 c1 ?_
      exact rg_480_129 h o   hs
    · rw [if_neg c1] at hs
      refine aw_iflt_f (pc1 := 71) at_480_68 c1 rfl ?_
      refine aw_vload_n (pc1 := 72) at_480_71 l0 i0 rfl ?_
      obtain ⟨v2, e3, hs1⟩ := am_bind hs
      clear hs
      refine aw_pG (pc1 := 75) at_480_72 (am_vR_s e3).1 rfl ?_
      refine aw_iload_n (pc1 := 76) at_480_75 l1 rfl ?_
      obtain ⟨v4, e5, hs2⟩ := am_bind hs1
      clear hs1
      refine aw_pA (pc1 := 77) at_480_76 (Or.inl ⟨rfl, rfl⟩) e5 rfl ?_
      by_cases c6 : ¬ v4 = 0
      · rw [if_pos c6] at hs2
        refine aw_ifne_t at_480_77 c6 ?_
        exact rg_480_129 h o   hs2
      · rw [if_neg c6] at hs2
        refine aw_ifne_f (pc1 := 80) at_480_77 c6 rfl ?_
        refine aw_iconst (v := 1) (pc1 := 81) at_480_80 (by decide) rfl ?_
        refine aw_istore_n (lv1 := am_put1 _ 3 _) (pc1 := 82) at_480_81 rfl rfl ?_
        refine aw_iconst (v := 0) (pc1 := 83) at_480_82 (by decide) rfl ?_
        refine aw_istore (lv1 := am_put1 _ 4 _) (pc1 := 85) at_480_83 rfl rfl ?_
        exact rg_480_85 (fun z0 z1 z2 h o hs2 => ih z0 z1 z2 h o hs2) N x0 x1 x2 1 0 h o hs2 _ (am_lk1 (am_lk1 l0 rfl rfl) rfl rfl) (am_lk1 (am_lk1 l1 rfl rfl) rfl rfl) (am_lk1 (am_lk1 l2 rfl rfl) rfl rfl) (am_lk1 am_lk0 rfl rfl) am_lk0 i0
def fg_480_12 (N : Nat) : Nat → Value → Int32 → Int32 → am_H → Option am_O
  | 0 => fun _ _ _ _ => none
  | K + 1 => fun x0 x1 x2 h => ((am_vI (am_pG 3095 x0 h)).bind fun v1 => (if v1 ≤ x2 then ((am_vI (am_pG 3095 x0 h)).bind fun v4 => (fg_480_67 N N x0 x1 ((v4 - 1)) h)) else ((am_vR (am_pG 3096 x0 h)).bind fun v6 => ((am_vR (am_pG 3083 x0 h)).bind fun v8 => ((am_pA 0 v8 ((60 * x1) + x2) h).bind fun v10 => ((am_pS 0 v6 x2 v10 h).bind fun h12 => ((am_vR (am_pG 3097 x0 h12)).bind fun v14 => ((am_vR (am_pG 3084 x0 h12)).bind fun v16 => ((am_pA 0 v16 ((60 * x1) + x2) h12).bind fun v18 => ((am_pS 0 v14 x2 v18 h12).bind fun h20 => (fg_480_12 N K x0 x1 ((x2 + 1)) h20)))))))))))
theorem rg_480_12 {X : am_X} {d : Nat} {N : Nat} : ∀ (K : Nat) (x0 : Value) (x1 : Int32) (x2 : Int32) (h : am_H) (o : am_O), fg_480_12 N K x0 x1 x2 h = some o → ∀ lv : am_LV, (lv.lookup 0 = some x0) → (lv.lookup 1 = some (.int x1)) → (lv.lookup 2 = some (.int x2)) → (am_isR x0 = true) → am_W X (d + 1) 480 12 lv [] h (fun q => q = o) := by
  intro K
  induction K with
  | zero => intro x0 x1 x2 h o hs; cases hs
  | succ K ih =>
    intro x0 x1 x2 h o hs lv l0 l1 l2 i0
    unfold fg_480_12 at hs
    refine aw_iload_n (pc1 := 13) at_480_12 l2 rfl ?_
    refine aw_vload_n (pc1 := 14) at_480_13 l0 i0 rfl ?_
    obtain ⟨v1, e2, hs1⟩ := am_bind hs
    clear hs
    refine aw_pG (pc1 := 17) at_480_14 (am_vI_s e2) rfl ?_
    by_cases c3 : v1 ≤ x2
    · rw [if_pos c3] at hs1
      refine aw_icge_t at_480_17 c3 ?_
      refine aw_vload_n (pc1 := 61) at_480_60 l0 i0 rfl ?_
      obtain ⟨v4, e5, hs2⟩ := am_bind hs1
      clear hs1
      refine aw_pG (pc1 := 64) at_480_61 (am_vI_s e5) rfl ?_
      refine aw_iconst (v := 1) (pc1 := 65) at_480_64 (by decide) rfl ?_
      refine aw_isub (v := (v4 - 1)) (pc1 := 66) at_480_65 rfl rfl ?_
      refine aw_istore_n (lv1 := am_put1 _ 2 _) (pc1 := 67) at_480_66 rfl rfl ?_
      exact rg_480_67 N x0 x1 ((v4 - 1)) h o hs2 _ (am_lk1 l0 rfl rfl) (am_lk1 l1 rfl rfl) am_lk0 i0
    · rw [if_neg c3] at hs1
      refine aw_icge_f (pc1 := 20) at_480_17 c3 rfl ?_
      refine aw_vload_n (pc1 := 21) at_480_20 l0 i0 rfl ?_
      obtain ⟨v6, e7, hs3⟩ := am_bind hs1
      clear hs1
      refine aw_pG (pc1 := 24) at_480_21 (am_vR_s e7).1 rfl ?_
      refine aw_iload_n (pc1 := 25) at_480_24 l2 rfl ?_
      refine aw_vload_n (pc1 := 26) at_480_25 l0 i0 rfl ?_
      obtain ⟨v8, e9, hs4⟩ := am_bind hs3
      clear hs3
      refine aw_pG (pc1 := 29) at_480_26 (am_vR_s e9).1 rfl ?_
      refine aw_bipush (v := 60) (pc1 := 31) at_480_29 (by decide) rfl ?_
      refine aw_iload_n (pc1 := 32) at_480_31 l1 rfl ?_
      refine aw_imul (v := (60 * x1)) (pc1 := 33) at_480_32 rfl rfl ?_
      refine aw_iload_n (pc1 := 34) at_480_33 l2 rfl ?_
      refine aw_iadd (v := ((60 * x1) + x2)) (pc1 := 35) at_480_34 rfl rfl ?_
      obtain ⟨v10, e11, hs5⟩ := am_bind hs4
      clear hs4
      refine aw_pA (pc1 := 36) at_480_35 (Or.inl ⟨rfl, rfl⟩) e11 rfl ?_
      obtain ⟨h12, e13, hs6⟩ := am_bind hs5
      clear hs5
      refine aw_pS (pc1 := 37) at_480_36 (Or.inl ⟨rfl, rfl⟩) e13 rfl ?_
      refine aw_vload_n (pc1 := 38) at_480_37 l0 i0 rfl ?_
      obtain ⟨v14, e15, hs7⟩ := am_bind hs6
      clear hs6
      refine aw_pG (pc1 := 41) at_480_38 (am_vR_s e15).1 rfl ?_
      refine aw_iload_n (pc1 := 42) at_480_41 l2 rfl ?_
      refine aw_vload_n (pc1 := 43) at_480_42 l0 i0 rfl ?_
      obtain ⟨v16, e17, hs8⟩ := am_bind hs7
      clear hs7
      refine aw_pG (pc1 := 46) at_480_43 (am_vR_s e17).1 rfl ?_
      refine aw_bipush (v := 60) (pc1 := 48) at_480_46 (by decide) rfl ?_
      refine aw_iload_n (pc1 := 49) at_480_48 l1 rfl ?_
      refine aw_imul (v := (60 * x1)) (pc1 := 50) at_480_49 rfl rfl ?_
      refine aw_iload_n (pc1 := 51) at_480_50 l2 rfl ?_
      refine aw_iadd (v := ((60 * x1) + x2)) (pc1 := 52) at_480_51 rfl rfl ?_
      obtain ⟨v18, e19, hs9⟩ := am_bind hs8
      clear hs8
      refine aw_pA (pc1 := 53) at_480_52 (Or.inl ⟨rfl, rfl⟩) e19 rfl ?_
      obtain ⟨h20, e21, hs10⟩ := am_bind hs9
      clear hs9
      refine aw_pS (pc1 := 54) at_480_53 (Or.inl ⟨rfl, rfl⟩) e21 rfl ?_
      refine aw_iinc (v := (x2 + 1)) (c := 1) (lv1 := am_put1 _ 2 _) (pc1 := 57) at_480_54 l2 (by decide) rfl rfl rfl ?_
      refine aw_goto at_480_57 ?_
      exact ih x0 x1 ((x2 + 1)) h20 o hs10 _ (am_lk1 l0 rfl rfl) (am_lk1 l1 rfl rfl) am_lk0 i0
def fg_480_0 (N : Nat) (x0 : Value) (x1 : Int32) (h : am_H) : Option am_O := ((am_vR (am_pG 3075 x0 h)).bind fun v1 => ((am_pA 0 v1 x1 h).bind fun v3 => ((am_pP 3095 x0 (.int v3) h).bind fun h5 => (fg_480_12 N N x0 x1 0 h5))))
theorem rg_480_0 {X : am_X} {d : Nat} {N : Nat} {lv : am_LV} (x0 : Value) (x1 : Int32) (h : am_H) (o : am_O) (l0 : lv.lookup 0 = some x0) (l1 : lv.lookup 1 = some (.int x1)) (i0 : am_isR x0 = true) (hs : fg_480_0 N x0 x1 h = some o) : am_W X (d + 1) 480 0 lv [] h (fun q => q = o) := by
  unfold fg_480_0 at hs
  refine aw_vload_n (pc1 := 1) at_480_0 l0 i0 rfl ?_
  refine aw_vload_n (pc1 := 2) at_480_1 l0 i0 rfl ?_
  obtain ⟨v1, e2, hs1⟩ := am_bind hs
  clear hs
  refine aw_pG (pc1 := 5) at_480_2 (am_vR_s e2).1 rfl ?_
  refine aw_iload_n (pc1 := 6) at_480_5 l1 rfl ?_
  obtain ⟨v3, e4, hs2⟩ := am_bind hs1
  clear hs1
  refine aw_pA (pc1 := 7) at_480_6 (Or.inl ⟨rfl, rfl⟩) e4 rfl ?_
  obtain ⟨h5, e6, hs3⟩ := am_bind hs2
  clear hs2
  refine aw_pP (pc1 := 10) at_480_7 e6 rfl ?_
  refine aw_iconst (v := 0) (pc1 := 11) at_480_10 (by decide) rfl ?_
  refine aw_istore_n (lv1 := am_put1 _ 2 _) (pc1 := 12) at_480_11 rfl rfl ?_
  exact rg_480_12 N x0 x1 0 h5 o hs3 _ (am_lk1 l0 rfl rfl) (am_lk1 l1 rfl rfl) am_lk0 i0
def fm_480 (N : Nat) (y0 : Value) (y1 : Int32) (h : am_H) : Option am_O := fg_480_0 N y0 y1 h
theorem rm_480 {X : am_X} {d : Nat} {N : Nat} (y0 : Value) (y1 : Int32) (h : am_H) (o : am_O) (i0 : am_isR y0 = true) (hs : fm_480 N y0 y1 h = some o) : am_W X (d + 1) 480 0 (am_args 0 [y0, .int y1]) [] h (fun q => q = o) := by
  rw [am_args_R i0, am_args_I]
  exact rg_480_0 y0 y1 h o rfl rfl i0 hs
def fg_483_2 (N : Nat) : Nat → Value → Int32 → Int32 → am_H → Option am_O
  | 0 => fun _ _ _ _ => none
  | K + 1 => fun x0 x2 x3 h => (if x2 ≤ x3 then some (.inl (none, h)) else ((am_vR (am_pG 3096 x0 h)).bind fun v2 => ((am_pA 0 v2 x3 h).bind fun v4 => ((am_vR (am_pG 3097 x0 h)).bind fun v6 => ((am_pA 0 v6 x3 h).bind fun v8 => (if am_pOk 12 x0 h then am_cV true (fm_335 x0 v4 v8 h) (fun h12 => (fg_483_2 N K x0 x2 ((x3 + 1)) h12)) else none))))))
theorem rg_483_2 {X : am_X} {d : Nat} {N : Nat} : ∀ (K : Nat) (x0 : Value) (x2 : Int32) (x3 : Int32) (h : am_H) (o : am_O), fg_483_2 N K x0 x2 x3 h = some o → ∀ lv : am_LV, (lv.lookup 0 = some x0) → (lv.lookup 2 = some (.int x2)) → (lv.lookup 3 = some (.int x3)) → (am_isR x0 = true) → am_W X (d + 1) 483 2 lv [] h (fun q => q = o) := by
  intro K
  induction K with
  | zero => intro x0 x2 x3 h o hs; cases hs
  | succ K ih =>
    intro x0 x2 x3 h o hs lv l0 l2 l3 i0
    unfold fg_483_2 at hs
    refine aw_iload_n (pc1 := 3) at_483_2 l3 rfl ?_
    refine aw_iload_n (pc1 := 4) at_483_3 l2 rfl ?_
    by_cases c1 : x2 ≤ x3
    · rw [if_pos c1] at hs
      refine aw_icge_t at_483_4 c1 ?_
      cases hs
      exact aw_vret at_483_29 rt_483 rfl
    · rw [if_neg c1] at hs
      refine aw_icge_f (pc1 := 7) at_483_4 c1 rfl ?_
      refine aw_vload_n (pc1 := 8) at_483_7 l0 i0 rfl ?_
      refine aw_vload_n (pc1 := 9) at_483_8 l0 i0 rfl ?_
      obtain ⟨v2, e3, hs1⟩ := am_bind hs
      clear hs
      refine aw_pG (pc1 := 12) at_483_9 (am_vR_s e3).1 rfl ?_
      refine aw_iload_n (pc1 := 13) at_483_12 l3 rfl ?_
      obtain ⟨v4, e5, hs2⟩ := am_bind hs1
      clear hs1
      refine aw_pA (pc1 := 14) at_483_13 (Or.inl ⟨rfl, rfl⟩) e5 rfl ?_
      refine aw_vload_n (pc1 := 15) at_483_14 l0 i0 rfl ?_
      obtain ⟨v6, e7, hs3⟩ := am_bind hs2
      clear hs2
      refine aw_pG (pc1 := 18) at_483_15 (am_vR_s e7).1 rfl ?_
      refine aw_iload_n (pc1 := 19) at_483_18 l3 rfl ?_
      obtain ⟨v8, e9, hs4⟩ := am_bind hs3
      clear hs3
      refine aw_pA (pc1 := 20) at_483_19 (Or.inl ⟨rfl, rfl⟩) e9 rfl ?_
      obtain ⟨z10, hs5⟩ := am_ift hs4
      clear hs4
      refine aw_call (F := fm_335 x0 v4 v8 h) (t := true) (na := 3) (kd := 1) (as := [x0, (.int v4), (.int v8)]) at_483_20 (am_k3v kb_335) mn_335 mk_335 rfl rfl (am_ok_v mi_335 (am_hl rfl (am_ccR i0 (am_ccI (am_ccI am_cats_0))) rfl) z10) (am_hc am_cats_0 rfl) (fun _ => ⟨rfl, hh_483⟩) (fun o1 hz9 => rm_335 x0 v4 v8 h o1 i0 hz9) ?_
      rcases am_cV_s hs5 with ⟨h12, f13, hs6⟩ | hs6
      · clear hs5
        refine Or.inl ⟨_, _, f13, ?_⟩
        show am_W X _ 483 23 _ [] h12 _
        refine aw_iinc (v := (x3 + 1)) (c := 1) (lv1 := am_put1 _ 3 _) (pc1 := 26) at_483_23 l3 (by decide) rfl rfl rfl ?_
        refine aw_goto at_483_26 ?_
        exact ih x0 x2 ((x3 + 1)) h12 o hs6 _ (am_lk1 l0 rfl rfl) (am_lk1 l2 rfl rfl) am_lk0 i0
      · clear hs5
        exact Or.inr hs6
def fg_483_0 (N : Nat) (x0 : Value) (x1 : Int32) (x2 : Int32) (h : am_H) : Option am_O := (fg_483_2 N N x0 x2 x1 h)
theorem rg_483_0 {X : am_X} {d : Nat} {N : Nat} {lv : am_LV} (x0 : Value) (x1 : Int32) (x2 : Int32) (h : am_H) (o : am_O) (l0 : lv.lookup 0 = some x0) (l1 : lv.lookup 1 = some (.int x1)) (l2 : lv.lookup 2 = some (.int x2)) (i0 : am_isR x0 = true) (hs : fg_483_0 N x0 x1 x2 h = some o) : am_W X (d + 1) 483 0 lv [] h (fun q => q = o) := by
  unfold fg_483_0 at hs
  refine aw_iload_n (pc1 := 1) at_483_0 l1 rfl ?_
  refine aw_istore_n (lv1 := am_put1 _ 3 _) (pc1 := 2) at_483_1 rfl rfl ?_
  exact rg_483_2 N x0 x2 x1 h o hs _ (am_lk1 l0 rfl rfl) (am_lk1 l2 rfl rfl) am_lk0 i0
def fm_483 (N : Nat) (y0 : Value) (y1 : Int32) (y2 : Int32) (h : am_H) : Option am_O := fg_483_0 N y0 y1 y2 h
theorem rm_483 {X : am_X} {d : Nat} {N : Nat} (y0 : Value) (y1 : Int32) (y2 : Int32) (h : am_H) (o : am_O) (i0 : am_isR y0 = true) (hs : fm_483 N y0 y1 y2 h = some o) : am_W X (d + 1) 483 0 (am_args 0 [y0, .int y1, .int y2]) [] h (fun q => q = o) := by
  rw [am_args_R i0, am_args_I, am_args_I]
  exact rg_483_0 y0 y1 y2 h o rfl rfl rfl i0 hs
def fg_482_140 (N : Nat) (h : am_H) : Option am_O := some (.inl (none, h))
theorem rg_482_140 {X : am_X} {d : Nat} {N : Nat} {lv : am_LV} (h : am_H) (o : am_O) (hs : fg_482_140 N h = some o) : am_W X (d + 4) 482 140 lv [] h (fun q => q = o) := by
  unfold fg_482_140 at hs
  cases hs
  exact aw_vret at_482_140 rt_482 rfl
def fg_482_134 (N : Nat) (rec_2 : Value → Int32 → am_H → Option am_O) (x0 : Value) (x1 : Int32) (h : am_H) : Option am_O := (rec_2 x0 ((x1 + 1)) h)
theorem rg_482_134 {X : am_X} {d : Nat} {N : Nat} {rec_2 : Value → Int32 → am_H → Option am_O} (q_2 : ∀ (x0 : Value) (x1 : Int32) (h : am_H) (o : am_O), rec_2 x0 x1 h = some o → ∀ lv : am_LV, (lv.lookup 0 = some x0) → (lv.lookup 1 = some (.int x1)) → (am_isR x0 = true) → am_W X (d + 4) 482 2 lv [] h (fun q => q = o)) {lv : am_LV} (x0 : Value) (x1 : Int32) (h : am_H) (o : am_O) (l0 : lv.lookup 0 = some x0) (l1 : lv.lookup 1 = some (.int x1)) (i0 : am_isR x0 = true) (hs : fg_482_134 N rec_2 x0 x1 h = some o) : am_W X (d + 4) 482 134 lv [] h (fun q => q = o) := by
  unfold fg_482_134 at hs
  refine aw_iinc (v := (x1 + 1)) (c := 1) (lv1 := am_put1 _ 1 _) (pc1 := 137) at_482_134 l1 (by decide) rfl rfl rfl ?_
  refine aw_goto at_482_137 ?_
  exact q_2 x0 ((x1 + 1)) h o hs _ (am_lk1 l0 rfl (by rw [am_isRc i0]; rfl)) am_lk0 i0
def fg_482_128 (N : Nat) (rec_2 : Value → Int32 → am_H → Option am_O) (rec_19 : Value → Int32 → Int32 → am_H → Option am_O) (x0 : Value) (x1 : Int32) (x2 : Int32) (h : am_H) : Option am_O := (rec_19 x0 x1 ((x2 + 1)) h)
theorem rg_482_128 {X : am_X} {d : Nat} {N : Nat} {rec_2 : Value → Int32 → am_H → Option am_O} {rec_19 : Value → Int32 → Int32 → am_H → Option am_O} (q_2 : ∀ (x0 : Value) (x1 : Int32) (h : am_H) (o : am_O), rec_2 x0 x1 h = some o → ∀ lv : am_LV, (lv.lookup 0 = some x0) → (lv.lookup 1 = some (.int x1)) → (am_isR x0 = true) → am_W X (d + 4) 482 2 lv [] h (fun q => q = o)) (q_19 : ∀ (x0 : Value) (x1 : Int32) (x2 : Int32) (h : am_H) (o : am_O), rec_19 x0 x1 x2 h = some o → ∀ lv : am_LV, (lv.lookup 0 = some x0) → (lv.lookup 1 = some (.int x1)) → (lv.lookup 2 = some (.int x2)) → (am_isR x0 = true) → am_W X (d + 4) 482 19 lv [] h (fun q => q = o)) {lv : am_LV} (x0 : Value) (x1 : Int32) (x2 : Int32) (h : am_H) (o : am_O) (l0 : lv.lookup 0 = some x0) (l1 : lv.lookup 1 = some (.int x1)) (l2 : lv.lookup 2 = some (.int x2)) (i0 : am_isR x0 = true) (hs : fg_482_128 N rec_2 rec_19 x0 x1 x2 h = some o) : am_W X (d + 4) 482 128 lv [] h (fun q => q = o) := by
  unfold fg_482_128 at hs
  refine aw_iinc (v := (x2 + 1)) (c := 1) (lv1 := am_put1 _ 2 _) (pc1 := 131) at_482_128 l2 (by decide) rfl rfl rfl ?_
  refine aw_goto at_482_131 ?_
  exact q_19 x0 x1 ((x2 + 1)) h o hs _ (am_lk1 l0 rfl rfl) (am_lk1 l1 rfl rfl) am_lk0 i0
def fg_482_19 (N : Nat) (rec_2 : Value → Int32 → am_H → Option am_O) : Nat → Value → Int32 → Int32 → am_H → Option am_O
  | 0 => fun _ _ _ _ => none
  | K + 1 => fun x0 x1 x2 h => ((am_vI (am_pG 3095 x0 h)).bind fun v1 => (if v1 ≤ x2 then (fg_482_134 N rec_2 x0 x1 h) else ((am_vI (am_pG 3167 x0 h)).bind fun v4 => (if ¬ v4 = 0 then (fg_482_134 N rec_2 x0 x1 h) else ((am_vR (am_pG 3093 x0 h)).bind fun v7 => ((am_pA 0 v7 x1 h).bind fun v9 => am_cI false (fm_334 v9 h) (fun v11 h12 => ((am_vR (am_pG 3096 x0 h12)).bind fun v14 => ((am_pA 0 v14 x2 h12).bind fun v16 => am_cI false (fm_334 v16 h12) (fun v18 h19 => (if ¬ v11 = v18 then (fg_482_128 N rec_2 (fg_482_19 N rec_2 K) x0 x1 x2 h19) else ((am_vI (am_pG 3090 x0 h19)).bind fun v22 => ((am_vR (am_pG 3098 x0 h19)).bind fun v24 => ((am_pA 0 v24 x1 h19).bind fun v26 => ((am_vR (am_pG 3099 x0 h19)).bind fun v28 => ((am_pA 0 v28 x2 h19).bind fun v30 => (if ((v22 - v26) + v30) ≤ 60 then (if am_pOk 12 x0 h19 then am_cV true (fm_451 x0 h19) (fun h35 => (if am_pOk 12 x0 h35 then am_cV true (fm_443 N x0 0 x1 h35) (fun h39 => ((am_vR (am_pG 3099 x0 h39)).bind fun v41 => ((am_pA 0 v41 x2 h39).bind fun v43 => (if am_pOk 12 x0 h39 then am_cV true (fm_483 N x0 x2 ((x2 + v43)) h39) (fun h47 => ((am_vR (am_pG 3098 x0 h47)).bind fun v49 => ((am_pA 0 v49 x1 h47).bind fun v51 => ((am_vI (am_pG 3090 x0 h47)).bind fun v53 => (if am_pOk 12 x0 h47 then am_cV true (fm_443 N x0 ((x1 + v51)) v53 h47) (fun h57 => (if am_pOk 12 x0 h57 then am_cI true (fm_444 N x0 h57) (fun v60 h61 => ((am_pP 3167 x0 (.int v60) h61).bind fun h63 => (fg_482_128 N rec_2 (fg_482_19 N rec_2 K) x0 x1 x2 h63))) else none)) else none))))) else none)))) else none)) else none) else (fg_482_128 N rec_2 (fg_482_19 N rec_2 K) x0 x1 x2 h19))))))))))))))))))
theorem rg_482_19 {X : am_X} {d : Nat} {N : Nat} {rec_2 : Value → Int32 → am_H → Option am_O} (q_2 : ∀ (x0 : Value) (x1 : Int32) (h : am_H) (o : am_O), rec_2 x0 x1 h = some o → ∀ lv : am_LV, (lv.lookup 0 = some x0) → (lv.lookup 1 = some (.int x1)) → (am_isR x0 = true) → am_W X (d + 4) 482 2 lv [] h (fun q => q = o)) : ∀ (K : Nat) (x0 : Value) (x1 : Int32) (x2 : Int32) (h : am_H) (o : am_O), fg_482_19 N rec_2 K x0 x1 x2 h = some o → ∀ lv : am_LV, (lv.lookup 0 = some x0) → (lv.lookup 1 = some (.int x1)) → (lv.lookup 2 = some (.int x2)) → (am_isR x0 = true) → am_W X (d + 4) 482 19 lv [] h (fun q => q = o) := by
  intro K
  induction K with
  | zero => intro x0 x1 x2 h o hs; cases hs
  | succ K ih =>
    intro x0 x1 x2 h o hs lv l0 l1 l2 i0
    unfold fg_482_19 at hs
    refine aw_iload_n (pc1 := 20) at_482_19 l2 rfl ?_
    refine aw_vload_n (pc1 := 21) at_482_20 l0 i0 rfl ?_
    obtain ⟨v1, e2, hs1⟩ := am_bind hs
    clear hs
    refine aw_pG (pc1 := 24) at_482_21 (am_vI_s e2) rfl ?_
    by_cases c3 : v1 ≤ x2
    · rw [if_pos c3] at hs1
      refine aw_icge_t at_482_24 c3 ?_
      exact rg_482_134 q_2 x0 x1 h o l0 l1 i0 hs1
    · rw [if_neg c3] at hs1
      refine aw_icge_f (pc1 := 27) at_482_24 c3 rfl ?_
      refine aw_vload_n (pc1 := 28) at_482_27 l0 i0 rfl ?_
      obtain ⟨v4, e5, hs2⟩ := am_bind hs1
      clear hs1
      refine aw_pG (pc1 := 31) at_482_28 (am_vI_s e5) rfl ?_
      by_cases c6 : ¬ v4 = 0
      · rw [if_pos c6] at hs2
        refine aw_ifne_t at_482_31 c6 ?_
        exact rg_482_134 q_2 x0 x1 h o l0 l1 i0 hs2
      · rw [if_neg c6] at hs2
        refine aw_ifne_f (pc1 := 34) at_482_31 c6 rfl ?_
        refine aw_vload_n (pc1 := 35) at_482_34 l0 i0 rfl ?_
        obtain ⟨v7, e8, hs3⟩ := am_bind hs2
        clear hs2
        refine aw_pG (pc1 := 38) at_482_35 (am_vR_s e8).1 rfl ?_
        refine aw_iload_n (pc1 := 39) at_482_38 l1 rfl ?_
        obtain ⟨v9, e10, hs4⟩ := am_bind hs3
        clear hs3
        refine aw_pA (pc1 := 40) at_482_39 (Or.inl ⟨rfl, rfl⟩) e10 rfl ?_
        refine aw_call (F := fm_334 v9 h) (t := false) (na := 1) (kd := 0) (as := [(.int v9)]) at_482_40 (am_k3s kb_334) mn_334 mk_334 rfl rfl (am_ok_s mi_334 (am_hl rfl (am_ccI am_cats_0) rfl)) (am_hc am_cats_0 rfl) (fun hz9 => by cases hz9) (fun o1 hz9 => rm_334 v9 h o1  hz9) ?_
        rcases am_cI_s hs4 with ⟨v11, h12, f13, hs5⟩ | hs5
        · clear hs4
          refine Or.inl ⟨_, _, f13, ?_⟩
          show am_W X _ 482 43 _ [(.int v11)] h12 _
          refine aw_vload_n (pc1 := 44) at_482_43 l0 i0 rfl ?_
          obtain ⟨v14, e15, hs6⟩ := am_bind hs5
          clear hs5
          refine aw_pG (pc1 := 47) at_482_44 (am_vR_s e15).1 rfl ?_
          refine aw_iload_n (pc1 := 48) at_482_47 l2 rfl ?_
          obtain ⟨v16, e17, hs7⟩ := am_bind hs6
          clear hs6
          refine aw_pA (pc1 := 49) at_482_48 (Or.inl ⟨rfl, rfl⟩) e17 rfl ?_
          refine aw_call (F := fm_334 v16 h12) (t := false) (na := 1) (kd := 0) (as := [(.int v16)]) at_482_49 (am_k3s kb_334) mn_334 mk_334 rfl rfl (am_ok_s mi_334 (am_hl rfl (am_ccI am_cats_0) rfl)) (am_hc (am_ccI am_cats_0) rfl) (fun hz9 => by cases hz9) (fun o1 hz9 => rm_334 v16 h12 o1  hz9) ?_
          rcases am_cI_s hs7 with ⟨v18, h19, f20, hs8⟩ | hs8
          · clear hs7
            refine Or.inl ⟨_, _, f20, ?_⟩
            show am_W X _ 482 52 _ [(.int v18), (.int v11)] h19 _
            by_cases c21 : ¬ v11 = v18
            · rw [if_pos c21] at hs8
              refine aw_icne_t at_482_52 c21 ?_
              exact rg_482_128 q_2 (fun z0 z1 z2 h o hs8 => ih z0 z1 z2 h o hs8) x0 x1 x2 h19 o l0 l1 l2 i0 hs8
            · rw [if_neg c21] at hs8
              refine aw_icne_f (pc1 := 55) at_482_52 c21 rfl ?_
              refine aw_vload_n (pc1 := 56) at_482_55 l0 i0 rfl ?_
              obtain ⟨v22, e23, hs9⟩ := am_bind hs8
              clear hs8
              refine aw_pG (pc1 := 59) at_482_56 (am_vI_s e23) rfl ?_
              refine aw_vload_n (pc1 := 60) at_482_59 l0 i0 rfl ?_
              obtain ⟨v24, e25, hs10⟩ := am_bind hs9
              clear hs9
              refine aw_pG (pc1 := 63) at_482_60 (am_vR_s e25).1 rfl ?_
              refine aw_iload_n (pc1 := 64) at_482_63 l1 rfl ?_
              obtain ⟨v26, e27, hs11⟩ := am_bind hs10
              clear hs10
              refine aw_pA (pc1 := 65) at_482_64 (Or.inl ⟨rfl, rfl⟩) e27 rfl ?_
              refine aw_isub (v := (v22 - v26)) (pc1 := 66) at_482_65 rfl rfl ?_
              refine aw_vload_n (pc1 := 67) at_482_66 l0 i0 rfl ?_
              obtain ⟨v28, e29, hs12⟩ := am_bind hs11
              clear hs11
              refine aw_pG (pc1 := 70) at_482_67 (am_vR_s e29).1 rfl ?_
              refine aw_iload_n (pc1 := 71) at_482_70 l2 rfl ?_
              obtain ⟨v30, e31, hs13⟩ := am_bind hs12
              clear hs12
              refine aw_pA (pc1 := 72) at_482_71 (Or.inl ⟨rfl, rfl⟩) e31 rfl ?_
              refine aw_iadd (v := ((v22 - v26) + v30)) (pc1 := 73) at_482_72 rfl rfl ?_
              refine aw_bipush (v := 60) (pc1 := 75) at_482_73 (by decide) rfl ?_
              by_cases c32 : ((v22 - v26) + v30) ≤ 60
              · rw [if_pos c32] at hs13
                refine aw_icle_t at_482_75 c32 ?_
                refine aw_vload_n (pc1 := 82) at_482_81 l0 i0 rfl ?_
                obtain ⟨z33, hs14⟩ := am_ift hs13
                clear hs13
                refine aw_call (F := fm_451 x0 h19) (t := true) (na := 1) (kd := 1) (as := [x0]) at_482_82 (am_k3v kb_451) mn_451 mk_451 rfl rfl (am_ok_v mi_451 (am_hl rfl (am_ccR i0 am_cats_0) rfl) z33) (am_hc am_cats_0 rfl) (fun _ => ⟨rfl, hh_482⟩) (fun o1 hz9 => rm_451 x0 h19 o1 i0 hz9) ?_
                rcases am_cV_s hs14 with ⟨h35, f36, hs15⟩ | hs15
                · clear hs14
                  refine Or.inl ⟨_, _, f36, ?_⟩
                  show am_W X _ 482 85 _ [] h35 _
                  refine aw_vload_n (pc1 := 86) at_482_85 l0 i0 rfl ?_
                  refine aw_iconst (v := 0) (pc1 := 87) at_482_86 (by decide) rfl ?_
                  refine aw_iload_n (pc1 := 88) at_482_87 l1 rfl ?_
                  obtain ⟨z37, hs16⟩ := am_ift hs15
                  clear hs15
                  refine aw_call (F := fm_443 N x0 0 x1 h35) (t := true) (na := 3) (kd := 1) (as := [x0, (.int 0), (.int x1)]) at_482_88 (am_k3v kb_443) mn_443 mk_443 rfl rfl (am_ok_v mi_443 (am_hl rfl (am_ccR i0 (am_ccI (am_ccI am_cats_0))) rfl) z37) (am_hc am_cats_0 rfl) (fun _ => ⟨rfl, hh_482⟩) (fun o1 hz9 => rm_443 x0 0 x1 h35 o1 i0 hz9) ?_
                  rcases am_cV_s hs16 with ⟨h39, f40, hs17⟩ | hs17
                  · clear hs16
                    refine Or.inl ⟨_, _, f40, ?_⟩
                    show am_W X _ 482 91 _ [] h39 _
                    refine aw_vload_n (pc1 := 92) at_482_91 l0 i0 rfl ?_
                    refine aw_iload_n (pc1 := 93) at_482_92 l2 rfl ?_
                    refine aw_iload_n (pc1 := 94) at_482_93 l2 rfl ?_
                    refine aw_vload_n (pc1 := 95) at_482_94 l0 i0 rfl ?_
                    obtain ⟨v41, e42, hs18⟩ := am_bind hs17
                    clear hs17
                    refine aw_pG (pc1 := 98) at_482_95 (am_vR_s e42).1 rfl ?_
                    refine aw_iload_n (pc1 := 99) at_482_98 l2 rfl ?_
                    obtain ⟨v43, e44, hs19⟩ := am_bind hs18
                    clear hs18
                    refine aw_pA (pc1 := 100) at_482_99 (Or.inl ⟨rfl, rfl⟩) e44 rfl ?_
                    refine aw_iadd (v := (x2 + v43)) (pc1 := 101) at_482_100 rfl rfl ?_
                    obtain ⟨z45, hs20⟩ := am_ift hs19
                    clear hs19
                    refine aw_call (F := fm_483 N x0 x2 ((x2 + v43)) h39) (t := true) (na := 3) (kd := 1) (as := [x0, (.int x2), (.int (x2 + v43))]) at_482_101 (am_k3v kb_483) mn_483 mk_483 rfl rfl (am_ok_v mi_483 (am_hl rfl (am_ccR i0 (am_ccI (am_ccI am_cats_0))) rfl) z45) (am_hc am_cats_0 rfl) (fun _ => ⟨rfl, hh_482⟩) (fun o1 hz9 => rm_483 x0 x2 ((x2 + v43)) h39 o1 i0 hz9) ?_
                    rcases am_cV_s hs20 with ⟨h47, f48, hs21⟩ | hs21
                    · clear hs20
                      refine Or.inl ⟨_, _, f48, ?_⟩
                      show am_W X _ 482 104 _ [] h47 _
                      refine aw_vload_n (pc1 := 105) at_482_104 l0 i0 rfl ?_
                      refine aw_iload_n (pc1 := 106) at_482_105 l1 rfl ?_
                      refine aw_vload_n (pc1 := 107) at_482_106 l0 i0 rfl ?_
                      obtain ⟨v49, e50, hs22⟩ := am_bind hs21
                      clear hs21
                      refine aw_pG (pc1 := 110) at_482_107 (am_vR_s e50).1 rfl ?_
                      refine aw_iload_n (pc1 := 111) at_482_110 l1 rfl ?_
                      obtain ⟨v51, e52, hs23⟩ := am_bind hs22
                      clear hs22
                      refine aw_pA (pc1 := 112) at_482_111 (Or.inl ⟨rfl, rfl⟩) e52 rfl ?_
                      refine aw_iadd (v := (x1 + v51)) (pc1 := 113) at_482_112 rfl rfl ?_
                      refine aw_vload_n (pc1 := 114) at_482_113 l0 i0 rfl ?_
                      obtain ⟨v53, e54, hs24⟩ := am_bind hs23
                      clear hs23
                      refine aw_pG (pc1 := 117) at_482_114 (am_vI_s e54) rfl ?_
                      obtain ⟨z55, hs25⟩ := am_ift hs24
                      clear hs24
                      refine aw_call (F := fm_443 N x0 ((x1 + v51)) v53 h47) (t := true) (na := 3) (kd := 1) (as := [x0, (.int (x1 + v51)), (.int v53)]) at_482_117 (am_k3v kb_443) mn_443 mk_443 rfl rfl (am_ok_v mi_443 (am_hl rfl (am_ccR i0 (am_ccI (am_ccI am_cats_0))) rfl) z55) (am_hc am_cats_0 rfl) (fun _ => ⟨rfl, hh_482⟩) (fun o1 hz9 => rm_443 x0 ((x1 + v51)) v53 h47 o1 i0 hz9) ?_
                      rcases am_cV_s hs25 with ⟨h57, f58, hs26⟩ | hs26
                      · clear hs25
                        refine Or.inl ⟨_, _, f58, ?_⟩
                        show am_W X _ 482 120 _ [] h57 _
                        refine aw_vload_n (pc1 := 121) at_482_120 l0 i0 rfl ?_
                        refine aw_vload_n (pc1 := 122) at_482_121 l0 i0 rfl ?_
                        obtain ⟨z59, hs27⟩ := am_ift hs26
                        clear hs26
                        refine aw_call (F := fm_444 N x0 h57) (t := true) (na := 1) (kd := 1) (as := [x0]) at_482_122 (am_k3v kb_444) mn_444 mk_444 rfl rfl (am_ok_v mi_444 (am_hl rfl (am_ccR i0 am_cats_0) rfl) z59) (am_hc (am_ccR i0 am_cats_0) rfl) (fun _ => ⟨rfl, hh_482⟩) (fun o1 hz9 => rm_444 x0 h57 o1 i0 hz9) ?_
                        rcases am_cI_s hs27 with ⟨v60, h61, f62, hs28⟩ | hs28
                        · clear hs27
                          refine Or.inl ⟨_, _, f62, ?_⟩
                          show am_W X _ 482 125 _ [(.int v60), x0] h61 _
                          obtain ⟨h63, e64, hs29⟩ := am_bind hs28
                          clear hs28
                          refine aw_pP (pc1 := 128) at_482_125 e64 rfl ?_
                          exact rg_482_128 q_2 (fun z0 z1 z2 h o hs29 => ih z0 z1 z2 h o hs29) x0 x1 x2 h63 o l0 l1 l2 i0 hs29
                        · clear hs27
                          exact Or.inr hs28
                      · clear hs25
                        exact Or.inr hs26
                    · clear hs20
                      exact Or.inr hs21
                  · clear hs16
                    exact Or.inr hs17
                · clear hs14
                  exact Or.inr hs15
              · rw [if_neg c32] at hs13
                refine aw_icle_f (pc1 := 78) at_482_75 c32 rfl ?_
                refine aw_goto at_482_78 ?_
                exact rg_482_128 q_2 (fun z0 z1 z2 h o hs13 => ih z0 z1 z2 h o hs13) x0 x1 x2 h19 o l0 l1 l2 i0 hs13
          · clear hs7
            exact Or.inr hs8
        · clear hs4
          exact Or.inr hs5
def fg_482_2 (N : Nat) : Nat → Value → Int32 → am_H → Option am_O
  | 0 => fun _ _ _ => none
  | K + 1 => fun x0 x1 h => ((am_vI (am_pG 3090 x0 h)).bind fun v1 => (if v1 ≤ x1 then (fg_482_140 N h) else ((am_vI (am_pG 3167 x0 h)).bind fun v4 => (if ¬ v4 = 0 then (fg_482_140 N h) else (fg_482_19 N (fg_482_2 N K) N x0 x1 0 h)))))
theorem rg_482_2 {X : am_X} {d : Nat} {N : Nat} : ∀ (K : Nat) (x0 : Value) (x1 : Int32) (h : am_H) (o : am_O), fg_482_2 N K x0 x1 h = some o → ∀ lv : am_LV, (lv.lookup 0 = some x0) → (lv.lookup 1 = some (.int x1)) → (am_isR x0 = true) → am_W X (d + 4) 482 2 lv [] h (fun q => q = o) := by
  intro K
  induction K with
  | zero => intro x0 x1 h o hs; cases hs
  | succ K ih =>
    intro x0 x1 h o hs lv l0 l1 i0
    unfold fg_482_2 at hs
    refine aw_iload_n (pc1 := 3) at_482_2 l1 rfl ?_
    refine aw_vload_n (pc1 := 4) at_482_3 l0 i0 rfl ?_
    obtain ⟨v1, e2, hs1⟩ := am_bind hs
    clear hs
    refine aw_pG (pc1 := 7) at_482_4 (am_vI_s e2) rfl ?_
    by_cases c3 : v1 ≤ x1
    · rw [if_pos c3] at hs1
      refine aw_icge_t at_482_7 c3 ?_
      exact rg_482_140 h o   hs1
    · rw [if_neg c3] at hs1
      refine aw_icge_f (pc1 := 10) at_482_7 c3 rfl ?_
      refine aw_vload_n (pc1 := 11) at_482_10 l0 i0 rfl ?_
      obtain ⟨v4, e5, hs2⟩ := am_bind hs1
      clear hs1
      refine aw_pG (pc1 := 14) at_482_11 (am_vI_s e5) rfl ?_
      by_cases c6 : ¬ v4 = 0
      · rw [if_pos c6] at hs2
        refine aw_ifne_t at_482_14 c6 ?_
        exact rg_482_140 h o   hs2
      · rw [if_neg c6] at hs2
        refine aw_ifne_f (pc1 := 17) at_482_14 c6 rfl ?_
        refine aw_iconst (v := 0) (pc1 := 18) at_482_17 (by decide) rfl ?_
        refine aw_istore_n (lv1 := am_put1 _ 2 _) (pc1 := 19) at_482_18 rfl rfl ?_
        exact rg_482_19 (fun z0 z1 h o hs2 => ih z0 z1 h o hs2) N x0 x1 0 h o hs2 _ (am_lk1 l0 rfl rfl) (am_lk1 l1 rfl rfl) am_lk0 i0
def fg_482_0 (N : Nat) (x0 : Value) (h : am_H) : Option am_O := (fg_482_2 N N x0 0 h)
theorem rg_482_0 {X : am_X} {d : Nat} {N : Nat} {lv : am_LV} (x0 : Value) (h : am_H) (o : am_O) (l0 : lv.lookup 0 = some x0) (i0 : am_isR x0 = true) (hs : fg_482_0 N x0 h = some o) : am_W X (d + 4) 482 0 lv [] h (fun q => q = o) := by
  unfold fg_482_0 at hs
  refine aw_iconst (v := 0) (pc1 := 1) at_482_0 (by decide) rfl ?_
  refine aw_istore_n (lv1 := am_put1 _ 1 _) (pc1 := 2) at_482_1 rfl rfl ?_
  exact rg_482_2 N x0 0 h o hs _ (am_lk1 l0 rfl (by rw [am_isRc i0]; rfl)) am_lk0 i0
def fm_482 (N : Nat) (y0 : Value) (h : am_H) : Option am_O := fg_482_0 N y0 h
theorem rm_482 {X : am_X} {d : Nat} {N : Nat} (y0 : Value) (h : am_H) (o : am_O) (i0 : am_isR y0 = true) (hs : fm_482 N y0 h = some o) : am_W X (d + 4) 482 0 (am_args 0 [y0]) [] h (fun q => q = o) := by
  rw [am_args_R i0]
  exact rg_482_0 y0 h o rfl i0 hs
def fg_484_110 (N : Nat) (h : am_H) : Option am_O := some (.inl (none, h))
theorem rg_484_110 {X : am_X} {d : Nat} {N : Nat} {lv : am_LV} (h : am_H) (o : am_O) (hs : fg_484_110 N h = some o) : am_W X (d + 4) 484 110 lv [] h (fun q => q = o) := by
  unfold fg_484_110 at hs
  cases hs
  exact aw_vret at_484_110 rt_484 rfl
def fg_484_90 (N : Nat) (rec_2 : Value → Int32 → am_H → Option am_O) (rec_38 : Value → Int32 → Int32 → am_H → Option am_O) (x0 : Value) (x1 : Int32) (x2 : Int32) (h : am_H) : Option am_O := (rec_38 x0 x1 ((x2 + 1)) h)
theorem rg_484_90 {X : am_X} {d : Nat} {N : Nat} {rec_2 : Value → Int32 → am_H → Option am_O} {rec_38 : Value → Int32 → Int32 → am_H → Option am_O} (q_2 : ∀ (x0 : Value) (x1 : Int32) (h : am_H) (o : am_O), rec_2 x0 x1 h = some o → ∀ lv : am_LV, (lv.lookup 0 = some x0) → (lv.lookup 1 = some (.int x1)) → (am_isR x0 = true) → am_W X (d + 4) 484 2 lv [] h (fun q => q = o)) (q_38 : ∀ (x0 : Value) (x1 : Int32) (x2 : Int32) (h : am_H) (o : am_O), rec_38 x0 x1 x2 h = some o → ∀ lv : am_LV, (lv.lookup 0 = some x0) → (lv.lookup 1 = some (.int x1)) → (lv.lookup 2 = some (.int x2)) → (am_isR x0 = true) → am_W X (d + 4) 484 38 lv [] h (fun q => q = o)) {lv : am_LV} (x0 : Value) (x1 : Int32) (x2 : Int32) (h : am_H) (o : am_O) (l0 : lv.lookup 0 = some x0) (l1 : lv.lookup 1 = some (.int x1)) (l2 : lv.lookup 2 = some (.int x2)) (i0 : am_isR x0 = true) (hs : fg_484_90 N rec_2 rec_38 x0 x1 x2 h = some o) : am_W X (d + 4) 484 90 lv [] h (fun q => q = o) := by
  unfold fg_484_90 at hs
  refine aw_iinc (v := (x2 + 1)) (c := 1) (lv1 := am_put1 _ 2 _) (pc1 := 93) at_484_90 l2 (by decide) rfl rfl rfl ?_
  refine aw_goto at_484_93 ?_
  exact q_38 x0 x1 ((x2 + 1)) h o hs _ (am_lk1 l0 rfl rfl) (am_lk1 l1 rfl rfl) am_lk0 i0
def fg_484_38 (N : Nat) (rec_2 : Value → Int32 → am_H → Option am_O) : Nat → Value → Int32 → Int32 → am_H → Option am_O
  | 0 => fun _ _ _ _ => none
  | K + 1 => fun x0 x1 x2 h => ((am_vI (am_pG 3090 x0 h)).bind fun v1 => (if v1 ≤ x2 then (if am_pOk 12 x0 h then am_cI true (fm_444 N x0 h) (fun v5 h6 => ((am_pP 3167 x0 (.int v5) h6).bind fun h8 => (rec_2 x0 ((x1 + 1)) h8))) else none) else (if ¬ ((x1 >>> (x2 &&& 31)) &&& 1) = 1 then ((am_vR (am_pG 3093 x0 h)).bind fun v11 => ((am_pA 0 v11 x2 h).bind fun v13 => ((am_vR (am_pG 3094 x0 h)).bind fun v15 => ((am_pA 0 v15 x2 h).bind fun v17 => (if am_pOk 12 x0 h then am_cV true (fm_335 x0 v13 v17 h) (fun h21 => (fg_484_90 N rec_2 (fg_484_38 N rec_2 K) x0 x1 x2 h21)) else none))))) else ((am_vR (am_pG 3096 x0 h)).bind fun v23 => ((am_pA 0 v23 x2 h).bind fun v25 => ((am_vR (am_pG 3097 x0 h)).bind fun v27 => ((am_pA 0 v27 x2 h).bind fun v29 => (if am_pOk 12 x0 h then am_cV true (fm_335 x0 v25 v29 h) (fun h33 => (fg_484_90 N rec_2 (fg_484_38 N rec_2 K) x0 x1 x2 h33)) else none))))))))
theorem rg_484_38 {X : am_X} {d : Nat} {N : Nat} {rec_2 : Value → Int32 → am_H → Option am_O} (q_2 : ∀ (x0 : Value) (x1 : Int32) (h : am_H) (o : am_O), rec_2 x0 x1 h = some o → ∀ lv : am_LV, (lv.lookup 0 = some x0) → (lv.lookup 1 = some (.int x1)) → (am_isR x0 = true) → am_W X (d + 4) 484 2 lv [] h (fun q => q = o)) : ∀ (K : Nat) (x0 : Value) (x1 : Int32) (x2 : Int32) (h : am_H) (o : am_O), fg_484_38 N rec_2 K x0 x1 x2 h = some o → ∀ lv : am_LV, (lv.lookup 0 = some x0) → (lv.lookup 1 = some (.int x1)) → (lv.lookup 2 = some (.int x2)) → (am_isR x0 = true) → am_W X (d + 4) 484 38 lv [] h (fun q => q = o) := by
  intro K
  induction K with
  | zero => intro x0 x1 x2 h o hs; cases hs
  | succ K ih =>
    intro x0 x1 x2 h o hs lv l0 l1 l2 i0
    unfold fg_484_38 at hs
    refine aw_iload_n (pc1 := 39) at_484_38 l2 rfl ?_
    refine aw_vload_n (pc1 := 40) at_484_39 l0 i0 rfl ?_
    obtain ⟨v1, e2, hs1⟩ := am_bind hs
    clear hs
    refine aw_pG (pc1 := 43) at_484_40 (am_vI_s e2) rfl ?_
    by_cases c3 : v1 ≤ x2
    · rw [if_pos c3] at hs1
      refine aw_icge_t at_484_43 c3 ?_
      refine aw_vload_n (pc1 := 97) at_484_96 l0 i0 rfl ?_
      refine aw_vload_n (pc1 := 98) at_484_97 l0 i0 rfl ?_
      obtain ⟨z4, hs2⟩ := am_ift hs1
      clear hs1
      refine aw_call (F := fm_444 N x0 h) (t := true) (na := 1) (kd := 1) (as := [x0]) at_484_98 (am_k3v kb_444) mn_444 mk_444 rfl rfl (am_ok_v mi_444 (am_hl rfl (am_ccR i0 am_cats_0) rfl) z4) (am_hc (am_ccR i0 am_cats_0) rfl) (fun _ => ⟨rfl, hh_484⟩) (fun o1 hz9 => rm_444 x0 h o1 i0 hz9) ?_
      rcases am_cI_s hs2 with ⟨v5, h6, f7, hs3⟩ | hs3
      · clear hs2
        refine Or.inl ⟨_, _, f7, ?_⟩
        show am_W X _ 484 101 _ [(.int v5), x0] h6 _
        obtain ⟨h8, e9, hs4⟩ := am_bind hs3
        clear hs3
        refine aw_pP (pc1 := 104) at_484_101 e9 rfl ?_
        refine aw_iinc (v := (x1 + 1)) (c := 1) (lv1 := am_put1 _ 1 _) (pc1 := 107) at_484_104 l1 (by decide) rfl rfl rfl ?_
        refine aw_goto at_484_107 ?_
        exact q_2 x0 ((x1 + 1)) h8 o hs4 _ (am_lk1 l0 rfl (by rw [am_isRc i0]; rfl)) am_lk0 i0
      · clear hs2
        exact Or.inr hs3
    · rw [if_neg c3] at hs1
      refine aw_icge_f (pc1 := 46) at_484_43 c3 rfl ?_
      refine aw_iload_n (pc1 := 47) at_484_46 l1 rfl ?_
      refine aw_iload_n (pc1 := 48) at_484_47 l2 rfl ?_
      refine aw_ishr (v := (x1 >>> (x2 &&& 31))) (pc1 := 49) at_484_48 rfl rfl ?_
      refine aw_iconst (v := 1) (pc1 := 50) at_484_49 (by decide) rfl ?_
      refine aw_iand (v := ((x1 >>> (x2 &&& 31)) &&& 1)) (pc1 := 51) at_484_50 rfl rfl ?_
      refine aw_iconst (v := 1) (pc1 := 52) at_484_51 (by decide) rfl ?_
      by_cases c10 : ¬ ((x1 >>> (x2 &&& 31)) &&& 1) = 1
      · rw [if_pos c10] at hs1
        refine aw_icne_t at_484_52 c10 ?_
        refine aw_vload_n (pc1 := 75) at_484_74 l0 i0 rfl ?_
        refine aw_vload_n (pc1 := 76) at_484_75 l0 i0 rfl ?_
        obtain ⟨v11, e12, hs5⟩ := am_bind hs1
        clear hs1
        refine aw_pG (pc1 := 79) at_484_76 (am_vR_s e12).1 rfl ?_
        refine aw_iload_n (pc1 := 80) at_484_79 l2 rfl ?_
        obtain ⟨v13, e14, hs6⟩ := am_bind hs5
        clear hs5
        refine aw_pA (pc1 := 81) at_484_80 (Or.inl ⟨rfl, rfl⟩) e14 rfl ?_
        refine aw_vload_n (pc1 := 82) at_484_81 l0 i0 rfl ?_
        obtain ⟨v15, e16, hs7⟩ := am_bind hs6
        clear hs6
        refine aw_pG (pc1 := 85) at_484_82 (am_vR_s e16).1 rfl ?_
        refine aw_iload_n (pc1 := 86) at_484_85 l2 rfl ?_
        obtain ⟨v17, e18, hs8⟩ := am_bind hs7
        clear hs7
        refine aw_pA (pc1 := 87) at_484_86 (Or.inl ⟨rfl, rfl⟩) e18 rfl ?_
        obtain ⟨z19, hs9⟩ := am_ift hs8
        clear hs8
        refine aw_call (F := fm_335 x0 v13 v17 h) (t := true) (na := 3) (kd := 1) (as := [x0, (.int v13), (.int v17)]) at_484_87 (am_k3v kb_335) mn_335 mk_335 rfl rfl (am_ok_v mi_335 (am_hl rfl (am_ccR i0 (am_ccI (am_ccI am_cats_0))) rfl) z19) (am_hc am_cats_0 rfl) (fun _ => ⟨rfl, hh_484⟩) (fun o1 hz9 => rm_335 x0 v13 v17 h o1 i0 hz9) ?_
        rcases am_cV_s hs9 with ⟨h21, f22, hs10⟩ | hs10
        · clear hs9
          refine Or.inl ⟨_, _, f22, ?_⟩
          show am_W X _ 484 90 _ [] h21 _
          exact rg_484_90 q_2 (fun z0 z1 z2 h o hs10 => ih z0 z1 z2 h o hs10) x0 x1 x2 h21 o l0 l1 l2 i0 hs10
        · clear hs9
          exact Or.inr hs10
      · rw [if_neg c10] at hs1
        refine aw_icne_f (pc1 := 55) at_484_52 c10 rfl ?_
        refine aw_vload_n (pc1 := 56) at_484_55 l0 i0 rfl ?_
        refine aw_vload_n (pc1 := 57) at_484_56 l0 i0 rfl ?_
        obtain ⟨v23, e24, hs11⟩ := am_bind hs1
        clear hs1
        refine aw_pG (pc1 := 60) at_484_57 (am_vR_s e24).1 rfl ?_
        refine aw_iload_n (pc1 := 61) at_484_60 l2 rfl ?_
        obtain ⟨v25, e26, hs12⟩ := am_bind hs11
        clear hs11
        refine aw_pA (pc1 := 62) at_484_61 (Or.inl ⟨rfl, rfl⟩) e26 rfl ?_
        refine aw_vload_n (pc1 := 63) at_484_62 l0 i0 rfl ?_
        obtain ⟨v27, e28, hs13⟩ := am_bind hs12
        clear hs12
        refine aw_pG (pc1 := 66) at_484_63 (am_vR_s e28).1 rfl ?_
        refine aw_iload_n (pc1 := 67) at_484_66 l2 rfl ?_
        obtain ⟨v29, e30, hs14⟩ := am_bind hs13
        clear hs13
        refine aw_pA (pc1 := 68) at_484_67 (Or.inl ⟨rfl, rfl⟩) e30 rfl ?_
        obtain ⟨z31, hs15⟩ := am_ift hs14
        clear hs14
        refine aw_call (F := fm_335 x0 v25 v29 h) (t := true) (na := 3) (kd := 1) (as := [x0, (.int v25), (.int v29)]) at_484_68 (am_k3v kb_335) mn_335 mk_335 rfl rfl (am_ok_v mi_335 (am_hl rfl (am_ccR i0 (am_ccI (am_ccI am_cats_0))) rfl) z31) (am_hc am_cats_0 rfl) (fun _ => ⟨rfl, hh_484⟩) (fun o1 hz9 => rm_335 x0 v25 v29 h o1 i0 hz9) ?_
        rcases am_cV_s hs15 with ⟨h33, f34, hs16⟩ | hs16
        · clear hs15
          refine Or.inl ⟨_, _, f34, ?_⟩
          show am_W X _ 484 71 _ [] h33 _
          refine aw_goto at_484_71 ?_
          exact rg_484_90 q_2 (fun z0 z1 z2 h o hs16 => ih z0 z1 z2 h o hs16) x0 x1 x2 h33 o l0 l1 l2 i0 hs16
        · clear hs15
          exact Or.inr hs16
def fg_484_2 (N : Nat) : Nat → Value → Int32 → am_H → Option am_O
  | 0 => fun _ _ _ => none
  | K + 1 => fun x0 x1 h => ((am_vI (am_pG 3090 x0 h)).bind fun v1 => (if ((1 <<< (v1 &&& 31)) - 1) ≤ x1 then (fg_484_110 N h) else ((am_vI (am_pG 3090 x0 h)).bind fun v4 => ((am_vI (am_pG 3095 x0 h)).bind fun v6 => (if ¬ v4 = v6 then (fg_484_110 N h) else ((am_vI (am_pG 3167 x0 h)).bind fun v9 => (if ¬ v9 = 0 then (fg_484_110 N h) else (if am_pOk 12 x0 h then am_cV true (fm_451 x0 h) (fun h14 => (fg_484_38 N (fg_484_2 N K) N x0 x1 0 h14)) else none))))))))
theorem rg_484_2 {X : am_X} {d : Nat} {N : Nat} : ∀ (K : Nat) (x0 : Value) (x1 : Int32) (h : am_H) (o : am_O), fg_484_2 N K x0 x1 h = some o → ∀ lv : am_LV, (lv.lookup 0 = some x0) → (lv.lookup 1 = some (.int x1)) → (am_isR x0 = true) → am_W X (d + 4) 484 2 lv [] h (fun q => q = o) := by
  intro K
  induction K with
  | zero => intro x0 x1 h o hs; cases hs
  | succ K ih =>
    intro x0 x1 h o hs lv l0 l1 i0
    unfold fg_484_2 at hs
    refine aw_iload_n (pc1 := 3) at_484_2 l1 rfl ?_
    refine aw_iconst (v := 1) (pc1 := 4) at_484_3 (by decide) rfl ?_
    refine aw_vload_n (pc1 := 5) at_484_4 l0 i0 rfl ?_
    obtain ⟨v1, e2, hs1⟩ := am_bind hs
    clear hs
    refine aw_pG (pc1 := 8) at_484_5 (am_vI_s e2) rfl ?_
    refine aw_ishl (v := (1 <<< (v1 &&& 31))) (pc1 := 9) at_484_8 rfl rfl ?_
    refine aw_iconst (v := 1) (pc1 := 10) at_484_9 (by decide) rfl ?_
    refine aw_isub (v := ((1 <<< (v1 &&& 31)) - 1)) (pc1 := 11) at_484_10 rfl rfl ?_
    by_cases c3 : ((1 <<< (v1 &&& 31)) - 1) ≤ x1
    · rw [if_pos c3] at hs1
      refine aw_icge_t at_484_11 c3 ?_
      exact rg_484_110 h o   hs1
    · rw [if_neg c3] at hs1
      refine aw_icge_f (pc1 := 14) at_484_11 c3 rfl ?_
      refine aw_vload_n (pc1 := 15) at_484_14 l0 i0 rfl ?_
      obtain ⟨v4, e5, hs2⟩ := am_bind hs1
      clear hs1
      refine aw_pG (pc1 := 18) at_484_15 (am_vI_s e5) rfl ?_
      refine aw_vload_n (pc1 := 19) at_484_18 l0 i0 rfl ?_
      obtain ⟨v6, e7, hs3⟩ := am_bind hs2
      clear hs2
      refine aw_pG (pc1 := 22) at_484_19 (am_vI_s e7) rfl ?_
      by_cases c8 : ¬ v4 = v6
      · rw [if_pos c8] at hs3
        refine aw_icne_t at_484_22 c8 ?_
        exact rg_484_110 h o   hs3
      · rw [if_neg c8] at hs3
        refine aw_icne_f (pc1 := 25) at_484_22 c8 rfl ?_
        refine aw_vload_n (pc1 := 26) at_484_25 l0 i0 rfl ?_
        obtain ⟨v9, e10, hs4⟩ := am_bind hs3
        clear hs3
        refine aw_pG (pc1 := 29) at_484_26 (am_vI_s e10) rfl ?_
        by_cases c11 : ¬ v9 = 0
        · rw [if_pos c11] at hs4
          refine aw_ifne_t at_484_29 c11 ?_
          exact rg_484_110 h o   hs4
        · rw [if_neg c11] at hs4
          refine aw_ifne_f (pc1 := 32) at_484_29 c11 rfl ?_
          refine aw_vload_n (pc1 := 33) at_484_32 l0 i0 rfl ?_
          obtain ⟨z12, hs5⟩ := am_ift hs4
          clear hs4
          refine aw_call (F := fm_451 x0 h) (t := true) (na := 1) (kd := 1) (as := [x0]) at_484_33 (am_k3v kb_451) mn_451 mk_451 rfl rfl (am_ok_v mi_451 (am_hl rfl (am_ccR i0 am_cats_0) rfl) z12) (am_hc am_cats_0 rfl) (fun _ => ⟨rfl, hh_484⟩) (fun o1 hz9 => rm_451 x0 h o1 i0 hz9) ?_
          rcases am_cV_s hs5 with ⟨h14, f15, hs6⟩ | hs6
          · clear hs5
            refine Or.inl ⟨_, _, f15, ?_⟩
            show am_W X _ 484 36 _ [] h14 _
            refine aw_iconst (v := 0) (pc1 := 37) at_484_36 (by decide) rfl ?_
            refine aw_istore_n (lv1 := am_put1 _ 2 _) (pc1 := 38) at_484_37 rfl rfl ?_
            exact rg_484_38 (fun z0 z1 h o hs6 => ih z0 z1 h o hs6) N x0 x1 0 h14 o hs6 _ (am_lk1 l0 rfl rfl) (am_lk1 l1 rfl rfl) am_lk0 i0
          · clear hs5
            exact Or.inr hs6
def fg_484_0 (N : Nat) (x0 : Value) (h : am_H) : Option am_O := (fg_484_2 N N x0 1 h)
theorem rg_484_0 {X : am_X} {d : Nat} {N : Nat} {lv : am_LV} (x0 : Value) (h : am_H) (o : am_O) (l0 : lv.lookup 0 = some x0) (i0 : am_isR x0 = true) (hs : fg_484_0 N x0 h = some o) : am_W X (d + 4) 484 0 lv [] h (fun q => q = o) := by
  unfold fg_484_0 at hs
  refine aw_iconst (v := 1) (pc1 := 1) at_484_0 (by decide) rfl ?_
  refine aw_istore_n (lv1 := am_put1 _ 1 _) (pc1 := 2) at_484_1 rfl rfl ?_
  exact rg_484_2 N x0 1 h o hs _ (am_lk1 l0 rfl (by rw [am_isRc i0]; rfl)) am_lk0 i0
def fm_484 (N : Nat) (y0 : Value) (h : am_H) : Option am_O := fg_484_0 N y0 h
theorem rm_484 {X : am_X} {d : Nat} {N : Nat} (y0 : Value) (h : am_H) (o : am_O) (i0 : am_isR y0 = true) (hs : fm_484 N y0 h = some o) : am_W X (d + 4) 484 0 (am_args 0 [y0]) [] h (fun q => q = o) := by
  rw [am_args_R i0]
  exact rg_484_0 y0 h o rfl i0 hs
def fg_485_73 (N : Nat) (h : am_H) : Option am_O := some (.inl (none, h))
theorem rg_485_73 {X : am_X} {d : Nat} {N : Nat} {lv : am_LV} (h : am_H) (o : am_O) (hs : fg_485_73 N h = some o) : am_W X (d + 4) 485 73 lv [] h (fun q => q = o) := by
  unfold fg_485_73 at hs
  cases hs
  exact aw_vret at_485_73 rt_485 rfl
def fg_485_67 (N : Nat) (rec_2 : Value → Int32 → am_H → Option am_O) (x0 : Value) (x1 : Int32) (h : am_H) : Option am_O := (rec_2 x0 ((x1 + 1)) h)
theorem rg_485_67 {X : am_X} {d : Nat} {N : Nat} {rec_2 : Value → Int32 → am_H → Option am_O} (q_2 : ∀ (x0 : Value) (x1 : Int32) (h : am_H) (o : am_O), rec_2 x0 x1 h = some o → ∀ lv : am_LV, (lv.lookup 0 = some x0) → (lv.lookup 1 = some (.int x1)) → (am_isR x0 = true) → am_W X (d + 4) 485 2 lv [] h (fun q => q = o)) {lv : am_LV} (x0 : Value) (x1 : Int32) (h : am_H) (o : am_O) (l0 : lv.lookup 0 = some x0) (l1 : lv.lookup 1 = some (.int x1)) (i0 : am_isR x0 = true) (hs : fg_485_67 N rec_2 x0 x1 h = some o) : am_W X (d + 4) 485 67 lv [] h (fun q => q = o) := by
  unfold fg_485_67 at hs
  refine aw_iinc (v := (x1 + 1)) (c := 1) (lv1 := am_put1 _ 1 _) (pc1 := 70) at_485_67 l1 (by decide) rfl rfl rfl ?_
  refine aw_goto at_485_70 ?_
  exact q_2 x0 ((x1 + 1)) h o hs _ (am_lk1 l0 rfl (by rw [am_isRc i0]; rfl)) am_lk0 i0
def fg_485_19 (N : Nat) (rec_2 : Value → Int32 → am_H → Option am_O) : Nat → Value → Int32 → Int32 → am_H → Option am_O
  | 0 => fun _ _ _ _ => none
  | K + 1 => fun x0 x1 x2 h => ((am_vI (am_pG 3095 x0 h)).bind fun v1 => (if v1 < x2 then (fg_485_67 N rec_2 x0 x1 h) else ((am_vI (am_pG 3167 x0 h)).bind fun v4 => (if ¬ v4 = 0 then (fg_485_67 N rec_2 x0 x1 h) else (if am_pOk 12 x0 h then am_cV true (fm_451 x0 h) (fun h9 => (if am_pOk 12 x0 h9 then am_cV true (fm_443 N x0 0 x1 h9) (fun h13 => ((am_vI (am_pG 3095 x0 h13)).bind fun v15 => (if am_pOk 12 x0 h13 then am_cV true (fm_483 N x0 x2 v15 h13) (fun h19 => (if am_pOk 12 x0 h19 then am_cI true (fm_444 N x0 h19) (fun v22 h23 => ((am_pP 3167 x0 (.int v22) h23).bind fun h25 => (fg_485_19 N rec_2 K x0 x1 ((x2 + 1)) h25))) else none)) else none))) else none)) else none)))))
theorem rg_485_19 {X : am_X} {d : Nat} {N : Nat} {rec_2 : Value → Int32 → am_H → Option am_O} (q_2 : ∀ (x0 : Value) (x1 : Int32) (h : am_H) (o : am_O), rec_2 x0 x1 h = some o → ∀ lv : am_LV, (lv.lookup 0 = some x0) → (lv.lookup 1 = some (.int x1)) → (am_isR x0 = true) → am_W X (d + 4) 485 2 lv [] h (fun q => q = o)) : ∀ (K : Nat) (x0 : Value) (x1 : Int32) (x2 : Int32) (h : am_H) (o : am_O), fg_485_19 N rec_2 K x0 x1 x2 h = some o → ∀ lv : am_LV, (lv.lookup 0 = some x0) → (lv.lookup 1 = some (.int x1)) → (lv.lookup 2 = some (.int x2)) → (am_isR x0 = true) → am_W X (d + 4) 485 19 lv [] h (fun q => q = o) := by
  intro K
  induction K with
  | zero => intro x0 x1 x2 h o hs; cases hs
  | succ K ih =>
    intro x0 x1 x2 h o hs lv l0 l1 l2 i0
    unfold fg_485_19 at hs
    refine aw_iload_n (pc1 := 20) at_485_19 l2 rfl ?_
    refine aw_vload_n (pc1 := 21) at_485_20 l0 i0 rfl ?_
    obtain ⟨v1, e2, hs1⟩ := am_bind hs
    clear hs
    refine aw_pG (pc1 := 24) at_485_21 (am_vI_s e2) rfl ?_
    by_cases c3 : v1 < x2
    · rw [if_pos c3] at hs1
      refine aw_icgt_t at_485_24 c3 ?_
      exact rg_485_67 q_2 x0 x1 h o l0 l1 i0 hs1
    · rw [if_neg c3] at hs1
      refine aw_icgt_f (pc1 := 27) at_485_24 c3 rfl ?_
      refine aw_vload_n (pc1 := 28) at_485_27 l0 i0 rfl ?_
      obtain ⟨v4, e5, hs2⟩ := am_bind hs1
      clear hs1
      refine aw_pG (pc1 := 31) at_485_28 (am_vI_s e5) rfl ?_
      by_cases c6 : ¬ v4 = 0
      · rw [if_pos c6] at hs2
        refine aw_ifne_t at_485_31 c6 ?_
        exact rg_485_67 q_2 x0 x1 h o l0 l1 i0 hs2
      · rw [if_neg c6] at hs2
        refine aw_ifne_f (pc1 := 34) at_485_31 c6 rfl ?_
        refine aw_vload_n (pc1 := 35) at_485_34 l0 i0 rfl ?_
        obtain ⟨z7, hs3⟩ := am_ift hs2
        clear hs2
        refine aw_call (F := fm_451 x0 h) (t := true) (na := 1) (kd := 1) (as := [x0]) at_485_35 (am_k3v kb_451) mn_451 mk_451 rfl rfl (am_ok_v mi_451 (am_hl rfl (am_ccR i0 am_cats_0) rfl) z7) (am_hc am_cats_0 rfl) (fun _ => ⟨rfl, hh_485⟩) (fun o1 hz9 => rm_451 x0 h o1 i0 hz9) ?_
        rcases am_cV_s hs3 with ⟨h9, f10, hs4⟩ | hs4
        · clear hs3
          refine Or.inl ⟨_, _, f10, ?_⟩
          show am_W X _ 485 38 _ [] h9 _
          refine aw_vload_n (pc1 := 39) at_485_38 l0 i0 rfl ?_
          refine aw_iconst (v := 0) (pc1 := 40) at_485_39 (by decide) rfl ?_
          refine aw_iload_n (pc1 := 41) at_485_40 l1 rfl ?_
          obtain ⟨z11, hs5⟩ := am_ift hs4
          clear hs4
          refine aw_call (F := fm_443 N x0 0 x1 h9) (t := true) (na := 3) (kd := 1) (as := [x0, (.int 0), (.int x1)]) at_485_41 (am_k3v kb_443) mn_443 mk_443 rfl rfl (am_ok_v mi_443 (am_hl rfl (am_ccR i0 (am_ccI (am_ccI am_cats_0))) rfl) z11) (am_hc am_cats_0 rfl) (fun _ => ⟨rfl, hh_485⟩) (fun o1 hz9 => rm_443 x0 0 x1 h9 o1 i0 hz9) ?_
          rcases am_cV_s hs5 with ⟨h13, f14, hs6⟩ | hs6
          · clear hs5
            refine Or.inl ⟨_, _, f14, ?_⟩
            show am_W X _ 485 44 _ [] h13 _
            refine aw_vload_n (pc1 := 45) at_485_44 l0 i0 rfl ?_
            refine aw_iload_n (pc1 := 46) at_485_45 l2 rfl ?_
            refine aw_vload_n (pc1 := 47) at_485_46 l0 i0 rfl ?_
            obtain ⟨v15, e16, hs7⟩ := am_bind hs6
            clear hs6
            refine aw_pG (pc1 := 50) at_485_47 (am_vI_s e16) rfl ?_
            obtain ⟨z17, hs8⟩ := am_ift hs7
            clear hs7
            refine aw_call (F := fm_483 N x0 x2 v15 h13) (t := true) (na := 3) (kd := 1) (as := [x0, (.int x2), (.int v15)]) at_485_50 (am_k3v kb_483) mn_483 mk_483 rfl rfl (am_ok_v mi_483 (am_hl rfl (am_ccR i0 (am_ccI (am_ccI am_cats_0))) rfl) z17) (am_hc am_cats_0 rfl) (fun _ => ⟨rfl, hh_485⟩) (fun o1 hz9 => rm_483 x0 x2 v15 h13 o1 i0 hz9) ?_
            rcases am_cV_s hs8 with ⟨h19, f20, hs9⟩ | hs9
            · clear hs8
              refine Or.inl ⟨_, _, f20, ?_⟩
              show am_W X _ 485 53 _ [] h19 _
              refine aw_vload_n (pc1 := 54) at_485_53 l0 i0 rfl ?_
              refine aw_vload_n (pc1 := 55) at_485_54 l0 i0 rfl ?_
              obtain ⟨z21, hs10⟩ := am_ift hs9
              clear hs9
              refine aw_call (F := fm_444 N x0 h19) (t := true) (na := 1) (kd := 1) (as := [x0]) at_485_55 (am_k3v kb_444) mn_444 mk_444 rfl rfl (am_ok_v mi_444 (am_hl rfl (am_ccR i0 am_cats_0) rfl) z21) (am_hc (am_ccR i0 am_cats_0) rfl) (fun _ => ⟨rfl, hh_485⟩) (fun o1 hz9 => rm_444 x0 h19 o1 i0 hz9) ?_
              rcases am_cI_s hs10 with ⟨v22, h23, f24, hs11⟩ | hs11
              · clear hs10
                refine Or.inl ⟨_, _, f24, ?_⟩
                show am_W X _ 485 58 _ [(.int v22), x0] h23 _
                obtain ⟨h25, e26, hs12⟩ := am_bind hs11
                clear hs11
                refine aw_pP (pc1 := 61) at_485_58 e26 rfl ?_
                refine aw_iinc (v := (x2 + 1)) (c := 1) (lv1 := am_put1 _ 2 _) (pc1 := 64) at_485_61 l2 (by decide) rfl rfl rfl ?_
                refine aw_goto at_485_64 ?_
                exact ih x0 x1 ((x2 + 1)) h25 o hs12 _ (am_lk1 l0 rfl rfl) (am_lk1 l1 rfl rfl) am_lk0 i0
              · clear hs10
                exact Or.inr hs11
            · clear hs8
              exact Or.inr hs9
          · clear hs5
            exact Or.inr hs6
        · clear hs3
          exact Or.inr hs4
def fg_485_2 (N : Nat) : Nat → Value → Int32 → am_H → Option am_O
  | 0 => fun _ _ _ => none
  | K + 1 => fun x0 x1 h => ((am_vI (am_pG 3090 x0 h)).bind fun v1 => (if v1 < x1 then (fg_485_73 N h) else ((am_vI (am_pG 3167 x0 h)).bind fun v4 => (if ¬ v4 = 0 then (fg_485_73 N h) else (fg_485_19 N (fg_485_2 N K) N x0 x1 0 h)))))
theorem rg_485_2 {X : am_X} {d : Nat} {N : Nat} : ∀ (K : Nat) (x0 : Value) (x1 : Int32) (h : am_H) (o : am_O), fg_485_2 N K x0 x1 h = some o → ∀ lv : am_LV, (lv.lookup 0 = some x0) → (lv.lookup 1 = some (.int x1)) → (am_isR x0 = true) → am_W X (d + 4) 485 2 lv [] h (fun q => q = o) := by
  intro K
  induction K with
  | zero => intro x0 x1 h o hs; cases hs
  | succ K ih =>
    intro x0 x1 h o hs lv l0 l1 i0
    unfold fg_485_2 at hs
    refine aw_iload_n (pc1 := 3) at_485_2 l1 rfl ?_
    refine aw_vload_n (pc1 := 4) at_485_3 l0 i0 rfl ?_
    obtain ⟨v1, e2, hs1⟩ := am_bind hs
    clear hs
    refine aw_pG (pc1 := 7) at_485_4 (am_vI_s e2) rfl ?_
    by_cases c3 : v1 < x1
    · rw [if_pos c3] at hs1
      refine aw_icgt_t at_485_7 c3 ?_
      exact rg_485_73 h o   hs1
    · rw [if_neg c3] at hs1
      refine aw_icgt_f (pc1 := 10) at_485_7 c3 rfl ?_
      refine aw_vload_n (pc1 := 11) at_485_10 l0 i0 rfl ?_
      obtain ⟨v4, e5, hs2⟩ := am_bind hs1
      clear hs1
      refine aw_pG (pc1 := 14) at_485_11 (am_vI_s e5) rfl ?_
      by_cases c6 : ¬ v4 = 0
      · rw [if_pos c6] at hs2
        refine aw_ifne_t at_485_14 c6 ?_
        exact rg_485_73 h o   hs2
      · rw [if_neg c6] at hs2
        refine aw_ifne_f (pc1 := 17) at_485_14 c6 rfl ?_
        refine aw_iconst (v := 0) (pc1 := 18) at_485_17 (by decide) rfl ?_
        refine aw_istore_n (lv1 := am_put1 _ 2 _) (pc1 := 19) at_485_18 rfl rfl ?_
        exact rg_485_19 (fun z0 z1 h o hs2 => ih z0 z1 h o hs2) N x0 x1 0 h o hs2 _ (am_lk1 l0 rfl rfl) (am_lk1 l1 rfl rfl) am_lk0 i0
def fg_485_0 (N : Nat) (x0 : Value) (h : am_H) : Option am_O := (fg_485_2 N N x0 0 h)
theorem rg_485_0 {X : am_X} {d : Nat} {N : Nat} {lv : am_LV} (x0 : Value) (h : am_H) (o : am_O) (l0 : lv.lookup 0 = some x0) (i0 : am_isR x0 = true) (hs : fg_485_0 N x0 h = some o) : am_W X (d + 4) 485 0 lv [] h (fun q => q = o) := by
  unfold fg_485_0 at hs
  refine aw_iconst (v := 0) (pc1 := 1) at_485_0 (by decide) rfl ?_
  refine aw_istore_n (lv1 := am_put1 _ 1 _) (pc1 := 2) at_485_1 rfl rfl ?_
  exact rg_485_2 N x0 0 h o hs _ (am_lk1 l0 rfl (by rw [am_isRc i0]; rfl)) am_lk0 i0
def fm_485 (N : Nat) (y0 : Value) (h : am_H) : Option am_O := fg_485_0 N y0 h
theorem rm_485 {X : am_X} {d : Nat} {N : Nat} (y0 : Value) (h : am_H) (o : am_O) (i0 : am_isR y0 = true) (hs : fm_485 N y0 h = some o) : am_W X (d + 4) 485 0 (am_args 0 [y0]) [] h (fun q => q = o) := by
  rw [am_args_R i0]
  exact rg_485_0 y0 h o rfl i0 hs
def fg_481_48 (N : Nat) (x0 : Value) (h : am_H) : Option am_O := ((am_vI (am_pG 3166 x0 h)).bind fun v1 => some (.inl (some (.int v1), h)))
theorem rg_481_48 {X : am_X} {d : Nat} {N : Nat} {lv : am_LV} (x0 : Value) (h : am_H) (o : am_O) (l0 : lv.lookup 0 = some x0) (i0 : am_isR x0 = true) (hs : fg_481_48 N x0 h = some o) : am_W X (d + 5) 481 48 lv [] h (fun q => q = o) := by
  unfold fg_481_48 at hs
  refine aw_vload_n (pc1 := 49) at_481_48 l0 i0 rfl ?_
  obtain ⟨v1, e2, hs1⟩ := am_bind hs
  clear hs
  refine aw_pG (pc1 := 52) at_481_49 (am_vI_s e2) rfl ?_
  cases hs1
  exact aw_iret at_481_52 (by rw [rt_481]; rfl) rfl
def fg_481_0 (N : Nat) (x0 : Value) (x1 : Int32) (h : am_H) : Option am_O := ((am_pP 3165 x0 (.int x1) h).bind fun h1 => ((am_pP 3166 x0 (.int 0) h1).bind fun h3 => ((am_pP 3167 x0 (.int 0) h3).bind fun h5 => ((am_vI (am_pG 3092 x0 h5)).bind fun v7 => (if ¬ v7 = 0 then ((am_vI (am_pG 3092 x0 h5)).bind fun v10 => (if ¬ v10 = 2 then (if am_pOk 12 x0 h5 then am_cV true (fm_485 N x0 h5) (fun h15 => (fg_481_48 N x0 h15)) else none) else (if am_pOk 12 x0 h5 then am_cV true (fm_484 N x0 h5) (fun h19 => (fg_481_48 N x0 h19)) else none))) else (if am_pOk 12 x0 h5 then am_cV true (fm_482 N x0 h5) (fun h23 => (fg_481_48 N x0 h23)) else none))))))
theorem rg_481_0 {X : am_X} {d : Nat} {N : Nat} {lv : am_LV} (x0 : Value) (x1 : Int32) (h : am_H) (o : am_O) (l0 : lv.lookup 0 = some x0) (l1 : lv.lookup 1 = some (.int x1)) (i0 : am_isR x0 = true) (hs : fg_481_0 N x0 x1 h = some o) : am_W X (d + 5) 481 0 lv [] h (fun q => q = o) := by
  unfold fg_481_0 at hs
  refine aw_vload_n (pc1 := 1) at_481_0 l0 i0 rfl ?_
  refine aw_iload_n (pc1 := 2) at_481_1 l1 rfl ?_
  obtain ⟨h1, e2, hs1⟩ := am_bind hs
  clear hs
  refine aw_pP (pc1 := 5) at_481_2 e2 rfl ?_
  refine aw_vload_n (pc1 := 6) at_481_5 l0 i0 rfl ?_
  refine aw_iconst (v := 0) (pc1 := 7) at_481_6 (by decide) rfl ?_
  obtain ⟨h3, e4, hs2⟩ := am_bind hs1
  clear hs1
  refine aw_pP (pc1 := 10) at_481_7 e4 rfl ?_
  refine aw_vload_n (pc1 := 11) at_481_10 l0 i0 rfl ?_
  refine aw_iconst (v := 0) (pc1 := 12) at_481_11 (by decide) rfl ?_
  obtain ⟨h5, e6, hs3⟩ := am_bind hs2
  clear hs2
  refine aw_pP (pc1 := 15) at_481_12 e6 rfl ?_
  refine aw_vload_n (pc1 := 16) at_481_15 l0 i0 rfl ?_
  obtain ⟨v7, e8, hs4⟩ := am_bind hs3
  clear hs3
  refine aw_pG (pc1 := 19) at_481_16 (am_vI_s e8) rfl ?_
  by_cases c9 : ¬ v7 = 0
  · rw [if_pos c9] at hs4
    refine aw_ifne_t at_481_19 c9 ?_
    refine aw_vload_n (pc1 := 30) at_481_29 l0 i0 rfl ?_
    obtain ⟨v10, e11, hs5⟩ := am_bind hs4
    clear hs4
    refine aw_pG (pc1 := 33) at_481_30 (am_vI_s e11) rfl ?_
    refine aw_iconst (v := 2) (pc1 := 34) at_481_33 (by decide) rfl ?_
    by_cases c12 : ¬ v10 = 2
    · rw [if_pos c12] at hs5
      refine aw_icne_t at_481_34 c12 ?_
      refine aw_vload_n (pc1 := 45) at_481_44 l0 i0 rfl ?_
      obtain ⟨z13, hs6⟩ := am_ift hs5
      clear hs5
      refine aw_call (F := fm_485 N x0 h5) (t := true) (na := 1) (kd := 1) (as := [x0]) at_481_45 (am_k3v kb_485) mn_485 mk_485 rfl rfl (am_ok_v mi_485 (am_hl rfl (am_ccR i0 am_cats_0) rfl) z13) (am_hc am_cats_0 rfl) (fun _ => ⟨rfl, hh_481⟩) (fun o1 hz9 => rm_485 x0 h5 o1 i0 hz9) ?_
      rcases am_cV_s hs6 with ⟨h15, f16, hs7⟩ | hs7
      · clear hs6
        refine Or.inl ⟨_, _, f16, ?_⟩
        show am_W X _ 481 48 _ [] h15 _
        exact rg_481_48 x0 h15 o l0 i0 hs7
      · clear hs6
        exact Or.inr hs7
    · rw [if_neg c12] at hs5
      refine aw_icne_f (pc1 := 37) at_481_34 c12 rfl ?_
      refine aw_vload_n (pc1 := 38) at_481_37 l0 i0 rfl ?_
      obtain ⟨z17, hs8⟩ := am_ift hs5
      clear hs5
      refine aw_call (F := fm_484 N x0 h5) (t := true) (na := 1) (kd := 1) (as := [x0]) at_481_38 (am_k3v kb_484) mn_484 mk_484 rfl rfl (am_ok_v mi_484 (am_hl rfl (am_ccR i0 am_cats_0) rfl) z17) (am_hc am_cats_0 rfl) (fun _ => ⟨rfl, hh_481⟩) (fun o1 hz9 => rm_484 x0 h5 o1 i0 hz9) ?_
      rcases am_cV_s hs8 with ⟨h19, f20, hs9⟩ | hs9
      · clear hs8
        refine Or.inl ⟨_, _, f20, ?_⟩
        show am_W X _ 481 41 _ [] h19 _
        refine aw_goto at_481_41 ?_
        exact rg_481_48 x0 h19 o l0 i0 hs9
      · clear hs8
        exact Or.inr hs9
  · rw [if_neg c9] at hs4
    refine aw_ifne_f (pc1 := 22) at_481_19 c9 rfl ?_
    refine aw_vload_n (pc1 := 23) at_481_22 l0 i0 rfl ?_
    obtain ⟨z21, hs10⟩ := am_ift hs4
    clear hs4
    refine aw_call (F := fm_482 N x0 h5) (t := true) (na := 1) (kd := 1) (as := [x0]) at_481_23 (am_k3v kb_482) mn_482 mk_482 rfl rfl (am_ok_v mi_482 (am_hl rfl (am_ccR i0 am_cats_0) rfl) z21) (am_hc am_cats_0 rfl) (fun _ => ⟨rfl, hh_481⟩) (fun o1 hz9 => rm_482 x0 h5 o1 i0 hz9) ?_
    rcases am_cV_s hs10 with ⟨h23, f24, hs11⟩ | hs11
    · clear hs10
      refine Or.inl ⟨_, _, f24, ?_⟩
      show am_W X _ 481 26 _ [] h23 _
      refine aw_goto at_481_26 ?_
      exact rg_481_48 x0 h23 o l0 i0 hs11
    · clear hs10
      exact Or.inr hs11
def fm_481 (N : Nat) (y0 : Value) (y1 : Int32) (h : am_H) : Option am_O := fg_481_0 N y0 y1 h
theorem rm_481 {X : am_X} {d : Nat} {N : Nat} (y0 : Value) (y1 : Int32) (h : am_H) (o : am_O) (i0 : am_isR y0 = true) (hs : fm_481 N y0 y1 h = some o) : am_W X (d + 5) 481 0 (am_args 0 [y0, .int y1]) [] h (fun q => q = o) := by
  rw [am_args_R i0, am_args_I]
  exact rg_481_0 y0 y1 h o rfl rfl i0 hs
def fg_478_41 (N : Nat) (h : am_H) : Option am_O := some (.inl (some (.int 0), h))
theorem rg_478_41 {X : am_X} {d : Nat} {N : Nat} {lv : am_LV} (h : am_H) (o : am_O) (hs : fg_478_41 N h = some o) : am_W X (d + 6) 478 41 lv [] h (fun q => q = o) := by
  unfold fg_478_41 at hs
  refine aw_iconst (v := 0) (pc1 := 42) at_478_41 (by decide) rfl ?_
  cases hs
  exact aw_iret at_478_42 (by rw [rt_478]; rfl) rfl
def fg_478_22 (N : Nat) (x0 : Value) (x1 : Int32) (x2 : Int32) (s0 : Value) (s1 : Int32) (h : am_H) : Option am_O := ((am_pP 3072 s0 (.int s1) h).bind fun h1 => ((am_vI (am_pG 3072 x0 h1)).bind fun v3 => (if 0 < v3 then (fg_478_41 N h1) else (if am_pOk 12 x0 h1 then am_cI true (fm_479 x0 x1 x2 h1) (fun v7 h8 => (if ¬ v7 = 0 then (if am_pOk 12 x0 h8 then am_cV true (fm_391 N x0 x1 h8) (fun h13 => (if am_pOk 12 x0 h13 then am_cV true (fm_480 N x0 x2 h13) (fun h17 => (if am_pOk 12 x0 h17 then am_cI true (fm_481 N x0 ((-1)) h17) (fun v20 h21 => some (.inl (some (.int v20), h21))) else none)) else none)) else none) else (fg_478_41 N h8))) else none))))
theorem rg_478_22 {X : am_X} {d : Nat} {N : Nat} {lv : am_LV} (x0 : Value) (x1 : Int32) (x2 : Int32) (s0 : Value) (s1 : Int32) (h : am_H) (o : am_O) (l0 : lv.lookup 0 = some x0) (l1 : lv.lookup 1 = some (.int x1)) (l2 : lv.lookup 2 = some (.int x2)) (i0 : am_isR x0 = true) (j0 : am_isR s0 = true) (hs : fg_478_22 N x0 x1 x2 s0 s1 h = some o) : am_W X (d + 6) 478 22 lv [(.int s1), s0] h (fun q => q = o) := by
  unfold fg_478_22 at hs
  obtain ⟨h1, e2, hs1⟩ := am_bind hs
  clear hs
  refine aw_pP (pc1 := 25) at_478_22 e2 rfl ?_
  refine aw_vload_n (pc1 := 26) at_478_25 l0 i0 rfl ?_
  obtain ⟨v3, e4, hs2⟩ := am_bind hs1
  clear hs1
  refine aw_pG (pc1 := 29) at_478_26 (am_vI_s e4) rfl ?_
  by_cases c5 : 0 < v3
  · rw [if_pos c5] at hs2
    refine aw_ifgt_t at_478_29 c5 ?_
    exact rg_478_41 h1 o   hs2
  · rw [if_neg c5] at hs2
    refine aw_ifgt_f (pc1 := 32) at_478_29 c5 rfl ?_
    refine aw_vload_n (pc1 := 33) at_478_32 l0 i0 rfl ?_
    refine aw_iload_n (pc1 := 34) at_478_33 l1 rfl ?_
    refine aw_iload_n (pc1 := 35) at_478_34 l2 rfl ?_
    obtain ⟨z6, hs3⟩ := am_ift hs2
    clear hs2
    refine aw_call (F := fm_479 x0 x1 x2 h1) (t := true) (na := 3) (kd := 1) (as := [x0, (.int x1), (.int x2)]) at_478_35 (am_k3v kb_479) mn_479 mk_479 rfl rfl (am_ok_v mi_479 (am_hl rfl (am_ccR i0 (am_ccI (am_ccI am_cats_0))) rfl) z6) (am_hc am_cats_0 rfl) (fun _ => ⟨rfl, hh_478⟩) (fun o1 hz9 => rm_479 x0 x1 x2 h1 o1 i0 hz9) ?_
    rcases am_cI_s hs3 with ⟨v7, h8, f9, hs4⟩ | hs4
    · clear hs3
      refine Or.inl ⟨_, _, f9, ?_⟩
      show am_W X _ 478 38 _ [(.int v7)] h8 _
      by_cases c10 : ¬ v7 = 0
      · rw [if_pos c10] at hs4
        refine aw_ifne_t at_478_38 c10 ?_
        refine aw_vload_n (pc1 := 44) at_478_43 l0 i0 rfl ?_
        refine aw_iload_n (pc1 := 45) at_478_44 l1 rfl ?_
        obtain ⟨z11, hs5⟩ := am_ift hs4
        clear hs4
        refine aw_call (F := fm_391 N x0 x1 h8) (t := true) (na := 2) (kd := 1) (as := [x0, (.int x1)]) at_478_45 (am_k3v kb_391) mn_391 mk_391 rfl rfl (am_ok_v mi_391 (am_hl rfl (am_ccR i0 (am_ccI am_cats_0)) rfl) z11) (am_hc am_cats_0 rfl) (fun _ => ⟨rfl, hh_478⟩) (fun o1 hz9 => rm_391 x0 x1 h8 o1 i0 hz9) ?_
        rcases am_cV_s hs5 with ⟨h13, f14, hs6⟩ | hs6
        · clear hs5
          refine Or.inl ⟨_, _, f14, ?_⟩
          show am_W X _ 478 48 _ [] h13 _
          refine aw_vload_n (pc1 := 49) at_478_48 l0 i0 rfl ?_
          refine aw_iload_n (pc1 := 50) at_478_49 l2 rfl ?_
          obtain ⟨z15, hs7⟩ := am_ift hs6
          clear hs6
          refine aw_call (F := fm_480 N x0 x2 h13) (t := true) (na := 2) (kd := 1) (as := [x0, (.int x2)]) at_478_50 (am_k3v kb_480) mn_480 mk_480 rfl rfl (am_ok_v mi_480 (am_hl rfl (am_ccR i0 (am_ccI am_cats_0)) rfl) z15) (am_hc am_cats_0 rfl) (fun _ => ⟨rfl, hh_478⟩) (fun o1 hz9 => rm_480 x0 x2 h13 o1 i0 hz9) ?_
          rcases am_cV_s hs7 with ⟨h17, f18, hs8⟩ | hs8
          · clear hs7
            refine Or.inl ⟨_, _, f18, ?_⟩
            show am_W X _ 478 53 _ [] h17 _
            refine aw_vload_n (pc1 := 54) at_478_53 l0 i0 rfl ?_
            refine aw_iconst (v := (-1)) (pc1 := 55) at_478_54 (by decide) rfl ?_
            obtain ⟨z19, hs9⟩ := am_ift hs8
            clear hs8
            refine aw_call (F := fm_481 N x0 ((-1)) h17) (t := true) (na := 2) (kd := 1) (as := [x0, (.int (-1))]) at_478_55 (am_k3v kb_481) mn_481 mk_481 rfl rfl (am_ok_v mi_481 (am_hl rfl (am_ccR i0 (am_ccI am_cats_0)) rfl) z19) (am_hc am_cats_0 rfl) (fun _ => ⟨rfl, hh_478⟩) (fun o1 hz9 => rm_481 x0 ((-1)) h17 o1 i0 hz9) ?_
            rcases am_cI_s hs9 with ⟨v20, h21, f22, hs10⟩ | hs10
            · clear hs9
              refine Or.inl ⟨_, _, f22, ?_⟩
              show am_W X _ 478 58 _ [(.int v20)] h21 _
              cases hs10
              exact aw_iret at_478_58 (by rw [rt_478]; rfl) rfl
            · clear hs9
              exact Or.inr hs10
          · clear hs7
            exact Or.inr hs8
        · clear hs5
          exact Or.inr hs6
      · rw [if_neg c10] at hs4
        refine aw_ifne_f (pc1 := 41) at_478_38 c10 rfl ?_
        exact rg_478_41 h8 o   hs4
    · clear hs3
      exact Or.inr hs4
def fg_478_21 (N : Nat) (x0 : Value) (x1 : Int32) (x2 : Int32) (s0 : Value) (h : am_H) : Option am_O := (fg_478_22 N x0 x1 x2 s0 1 h)
theorem rg_478_21 {X : am_X} {d : Nat} {N : Nat} {lv : am_LV} (x0 : Value) (x1 : Int32) (x2 : Int32) (s0 : Value) (h : am_H) (o : am_O) (l0 : lv.lookup 0 = some x0) (l1 : lv.lookup 1 = some (.int x1)) (l2 : lv.lookup 2 = some (.int x2)) (i0 : am_isR x0 = true) (j0 : am_isR s0 = true) (hs : fg_478_21 N x0 x1 x2 s0 h = some o) : am_W X (d + 6) 478 21 lv [s0] h (fun q => q = o) := by
  unfold fg_478_21 at hs
  refine aw_iconst (v := 1) (pc1 := 22) at_478_21 (by decide) rfl ?_
  exact rg_478_22 x0 x1 x2 s0 1 h o l0 l1 l2 i0 j0 hs
def fg_478_0 (N : Nat) (x0 : Value) (x1 : Int32) (x2 : Int32) (h : am_H) : Option am_O := (if am_pOk 12 x0 h then am_cI true (fm_358 x0 x1 h) (fun v2 h3 => (if v2 = 0 then (fg_478_21 N x0 x1 x2 x0 h3) else (if am_pOk 12 x0 h3 then am_cI true (fm_358 x0 x2 h3) (fun v7 h8 => (if v7 = 0 then (fg_478_21 N x0 x1 x2 x0 h8) else (fg_478_22 N x0 x1 x2 x0 0 h8))) else none))) else none)
theorem rg_478_0 {X : am_X} {d : Nat} {N : Nat} {lv : am_LV} (x0 : Value) (x1 : Int32) (x2 : Int32) (h : am_H) (o : am_O) (l0 : lv.lookup 0 = some x0) (l1 : lv.lookup 1 = some (.int x1)) (l2 : lv.lookup 2 = some (.int x2)) (i0 : am_isR x0 = true) (hs : fg_478_0 N x0 x1 x2 h = some o) : am_W X (d + 6) 478 0 lv [] h (fun q => q = o) := by
  unfold fg_478_0 at hs
  refine aw_vload_n (pc1 := 1) at_478_0 l0 i0 rfl ?_
  refine aw_vload_n (pc1 := 2) at_478_1 l0 i0 rfl ?_
  refine aw_iload_n (pc1 := 3) at_478_2 l1 rfl ?_
  obtain ⟨z1, hs1⟩ := am_ift hs
  clear hs
  refine aw_call (F := fm_358 x0 x1 h) (t := true) (na := 2) (kd := 1) (as := [x0, (.int x1)]) at_478_3 (am_k3v kb_358) mn_358 mk_358 rfl rfl (am_ok_v mi_358 (am_hl rfl (am_ccR i0 (am_ccI am_cats_0)) rfl) z1) (am_hc (am_ccR i0 am_cats_0) rfl) (fun _ => ⟨rfl, hh_478⟩) (fun o1 hz9 => rm_358 x0 x1 h o1 i0 hz9) ?_
  rcases am_cI_s hs1 with ⟨v2, h3, f4, hs2⟩ | hs2
  · clear hs1
    refine Or.inl ⟨_, _, f4, ?_⟩
    show am_W X _ 478 6 _ [(.int v2), x0] h3 _
    by_cases c5 : v2 = 0
    · rw [if_pos c5] at hs2
      refine aw_ifeq_t at_478_6 c5 ?_
      exact rg_478_21 x0 x1 x2 x0 h3 o l0 l1 l2 i0 i0 hs2
    · rw [if_neg c5] at hs2
      refine aw_ifeq_f (pc1 := 9) at_478_6 c5 rfl ?_
      refine aw_vload_n (pc1 := 10) at_478_9 l0 i0 rfl ?_
      refine aw_iload_n (pc1 := 11) at_478_10 l2 rfl ?_
      obtain ⟨z6, hs3⟩ := am_ift hs2
      clear hs2
      refine aw_call (F := fm_358 x0 x2 h3) (t := true) (na := 2) (kd := 1) (as := [x0, (.int x2)]) at_478_11 (am_k3v kb_358) mn_358 mk_358 rfl rfl (am_ok_v mi_358 (am_hl rfl (am_ccR i0 (am_ccI am_cats_0)) rfl) z6) (am_hc (am_ccR i0 am_cats_0) rfl) (fun _ => ⟨rfl, hh_478⟩) (fun o1 hz9 => rm_358 x0 x2 h3 o1 i0 hz9) ?_
      rcases am_cI_s hs3 with ⟨v7, h8, f9, hs4⟩ | hs4
      · clear hs3
        refine Or.inl ⟨_, _, f9, ?_⟩
        show am_W X _ 478 14 _ [(.int v7), x0] h8 _
        by_cases c10 : v7 = 0
        · rw [if_pos c10] at hs4
          refine aw_ifeq_t at_478_14 c10 ?_
          exact rg_478_21 x0 x1 x2 x0 h8 o l0 l1 l2 i0 i0 hs4
        · rw [if_neg c10] at hs4
          refine aw_ifeq_f (pc1 := 17) at_478_14 c10 rfl ?_
          refine aw_iconst (v := 0) (pc1 := 18) at_478_17 (by decide) rfl ?_
          refine aw_goto at_478_18 ?_
          exact rg_478_22 x0 x1 x2 x0 0 h8 o l0 l1 l2 i0 i0 hs4
      · clear hs3
        exact Or.inr hs4
  · clear hs1
    exact Or.inr hs2
def fm_478 (N : Nat) (y0 : Value) (y1 : Int32) (y2 : Int32) (h : am_H) : Option am_O := fg_478_0 N y0 y1 y2 h
theorem rm_478 {X : am_X} {d : Nat} {N : Nat} (y0 : Value) (y1 : Int32) (y2 : Int32) (h : am_H) (o : am_O) (i0 : am_isR y0 = true) (hs : fm_478 N y0 y1 y2 h = some o) : am_W X (d + 6) 478 0 (am_args 0 [y0, .int y1, .int y2]) [] h (fun q => q = o) := by
  rw [am_args_R i0, am_args_I, am_args_I]
  exact rg_478_0 y0 y1 y2 h o rfl rfl rfl i0 hs
def fg_198_0 (N : Nat) (x0 : Value) (x1 : Int32) (x2 : Int32) (x3 : Int64) (h : am_H) : Option am_O := (if am_pOk 11 x0 h then am_cR true (fm_63 x0 x1 h) (fun v2 h3 => ((am_vI (am_pG 769 v2 h3)).bind fun v5 => (if am_pOk 11 x0 h3 then am_cR true (fm_63 x0 x2 h3) (fun v8 h9 => ((am_vI (am_pG 769 v8 h9)).bind fun v11 => (if v5 = v11 then (if am_pOk 11 x0 h9 then am_cV true (fm_32 x0 1 h9) (fun h16 => (if am_pOk 11 x0 h16 then am_cI true (fm_190 N x0 x1 x2 ((-1)) x3 h16) (fun v19 h20 => some (.inl (some (.int v19), h20))) else none)) else none) else some (.inr (0, h9 ++ [am_dummy]))))) else none))) else none)
theorem rg_198_0 {X : am_X} {d : Nat} {N : Nat} {lv : am_LV} (x0 : Value) (x1 : Int32) (x2 : Int32) (x3 : Int64) (h : am_H) (o : am_O) (l0 : lv.lookup 0 = some x0) (l1 : lv.lookup 1 = some (.int x1)) (l2 : lv.lookup 2 = some (.int x2)) (l3 : lv.lookup 3 = some (.long x3)) (i0 : am_isR x0 = true) (hs : fg_198_0 N x0 x1 x2 x3 h = some o) : am_W X (d + 124) 198 0 lv [] h (fun q => q = o) := by
  unfold fg_198_0 at hs
  refine aw_vload_n (pc1 := 1) at_198_0 l0 i0 rfl ?_
  refine aw_iload_n (pc1 := 2) at_198_1 l1 rfl ?_
  obtain ⟨z1, hs1⟩ := am_ift hs
  clear hs
  refine aw_call (F := fm_63 x0 x1 h) (t := true) (na := 2) (kd := 1) (as := [x0, (.int x1)]) at_198_2 (am_k3v kb_63) mn_63 mk_63 rfl rfl (am_ok_v mi_63 (am_hl rfl (am_ccR i0 (am_ccI am_cats_0)) rfl) z1) (am_hc am_cats_0 rfl) (fun _ => ⟨rfl, hh_198⟩) (fun o1 hz9 => rm_63 x0 x1 h o1 i0 hz9) ?_
  rcases am_cR_s hs1 with ⟨v2, h3, f4, iv2, hs2⟩ | hs2
  · clear hs1
    refine Or.inl ⟨_, _, f4, ?_⟩
    show am_W X _ 198 5 _ [v2] h3 _
    refine aw_vstore (lv1 := am_put1 _ 5 _) (pc1 := 7) at_198_5 iv2 rfl rfl ?_
    refine aw_vload (pc1 := 9) at_198_7 am_lk0 iv2 rfl ?_
    obtain ⟨v5, e6, hs3⟩ := am_bind hs2
    clear hs2
    refine aw_pG (pc1 := 12) at_198_9 (am_vI_s e6) rfl ?_
    refine aw_vload_n (pc1 := 13) at_198_12 (am_lk1 l0 rfl rfl) i0 rfl ?_
    refine aw_iload_n (pc1 := 14) at_198_13 (am_lk1 l2 rfl rfl) rfl ?_
    obtain ⟨z7, hs4⟩ := am_ift hs3
    clear hs3
    refine aw_call (F := fm_63 x0 x2 h3) (t := true) (na := 2) (kd := 1) (as := [x0, (.int x2)]) at_198_14 (am_k3v kb_63) mn_63 mk_63 rfl rfl (am_ok_v mi_63 (am_hl rfl (am_ccR i0 (am_ccI am_cats_0)) rfl) z7) (am_hc (am_ccI am_cats_0) rfl) (fun _ => ⟨rfl, hh_198⟩) (fun o1 hz9 => rm_63 x0 x2 h3 o1 i0 hz9) ?_
    rcases am_cR_s hs4 with ⟨v8, h9, f10, iv8, hs5⟩ | hs5
    · clear hs4
      refine Or.inl ⟨_, _, f10, ?_⟩
      show am_W X _ 198 17 _ [v8, (.int v5)] h9 _
      obtain ⟨v11, e12, hs6⟩ := am_bind hs5
      clear hs5
      refine aw_pG (pc1 := 20) at_198_17 (am_vI_s e12) rfl ?_
      by_cases c13 : v5 = v11
      · rw [if_pos c13] at hs6
        refine aw_iceq_t at_198_20 c13 ?_
        refine aw_vload_n (pc1 := 35) at_198_34 (am_lk1 l0 rfl rfl) i0 rfl ?_
        refine aw_iconst (v := 1) (pc1 := 36) at_198_35 (by decide) rfl ?_
        obtain ⟨z14, hs7⟩ := am_ift hs6
        clear hs6
        refine aw_call (F := fm_32 x0 1 h9) (t := true) (na := 2) (kd := 1) (as := [x0, (.int 1)]) at_198_36 (am_k3v kb_32) mn_32 mk_32 rfl rfl (am_ok_v mi_32 (am_hl rfl (am_ccR i0 (am_ccI am_cats_0)) rfl) z14) (am_hc am_cats_0 rfl) (fun _ => ⟨rfl, hh_198⟩) (fun o1 hz9 => rm_32 x0 1 h9 o1 i0 hz9) ?_
        rcases am_cV_s hs7 with ⟨h16, f17, hs8⟩ | hs8
        · clear hs7
          refine Or.inl ⟨_, _, f17, ?_⟩
          show am_W X _ 198 39 _ [] h16 _
          refine aw_vload_n (pc1 := 40) at_198_39 (am_lk1 l0 rfl rfl) i0 rfl ?_
          refine aw_iload_n (pc1 := 41) at_198_40 (am_lk1 l1 rfl rfl) rfl ?_
          refine aw_iload_n (pc1 := 42) at_198_41 (am_lk1 l2 rfl rfl) rfl ?_
          refine aw_iconst (v := (-1)) (pc1 := 43) at_198_42 (by decide) rfl ?_
          refine aw_lload_n (pc1 := 44) at_198_43 (am_lk1 l3 rfl rfl) rfl ?_
          obtain ⟨z18, hs9⟩ := am_ift hs8
          clear hs8
          refine aw_call (F := fm_190 N x0 x1 x2 ((-1)) x3 h16) (t := true) (na := 5) (kd := 1) (as := [x0, (.int x1), (.int x2), (.int (-1)), (.long x3)]) at_198_44 (am_k3v kb_190) mn_190 mk_190 rfl rfl (am_ok_v mi_190 (am_hl rfl (am_ccR i0 (am_ccI (am_ccI (am_ccI (am_ccL am_cats_0))))) rfl) z18) (am_hc am_cats_0 rfl) (fun _ => ⟨rfl, hh_198⟩) (fun o1 hz9 => rm_190 x0 x1 x2 ((-1)) x3 h16 o1 i0 hz9) ?_
          rcases am_cI_s hs9 with ⟨v19, h20, f21, hs10⟩ | hs10
          · clear hs9
            refine Or.inl ⟨_, _, f21, ?_⟩
            show am_W X _ 198 47 _ [(.int v19)] h20 _
            cases hs10
            exact aw_iret at_198_47 (by rw [rt_198]; rfl) rfl
          · clear hs9
            exact Or.inr hs10
        · clear hs7
          exact Or.inr hs8
      · rw [if_neg c13] at hs6
        refine aw_iceq_f (pc1 := 23) at_198_20 c13 rfl ?_
        cases hs6
        exact aw_throw at_198_23 rfl th_198_23 (am_hc am_cats_0 rfl) rfl
    · clear hs4
      exact Or.inr hs5
  · clear hs1
    exact Or.inr hs2
def fm_198 (N : Nat) (y0 : Value) (y1 : Int32) (y2 : Int32) (y3 : Int64) (h : am_H) : Option am_O := fg_198_0 N y0 y1 y2 y3 h
theorem rm_198 {X : am_X} {d : Nat} {N : Nat} (y0 : Value) (y1 : Int32) (y2 : Int32) (y3 : Int64) (h : am_H) (o : am_O) (i0 : am_isR y0 = true) (hs : fm_198 N y0 y1 y2 y3 h = some o) : am_W X (d + 124) 198 0 (am_args 0 [y0, .int y1, .int y2, .long y3]) [] h (fun q => q = o) := by
  rw [am_args_R i0, am_args_I, am_args_I, am_args_L]
  exact rg_198_0 y0 y1 y2 y3 h o rfl rfl rfl rfl i0 hs
def fg_197_25 (N : Nat) (h : am_H) : Option am_O := some (.inl (some (.int 3), h))
theorem rg_197_25 {X : am_X} {d : Nat} {N : Nat} {lv : am_LV} (h : am_H) (o : am_O) (hs : fg_197_25 N h = some o) : am_W X (d + 125) 197 25 lv [] h (fun q => q = o) := by
  unfold fg_197_25 at hs
  refine aw_iconst (v := 3) (pc1 := 26) at_197_25 (by decide) rfl ?_
  cases hs
  exact aw_iret at_197_26 (by rw [rt_197]; rfl) rfl
def fg_197_21 (N : Nat) (h : am_H) : Option am_O := some (.inl (some (.int 2), h))
theorem rg_197_21 {X : am_X} {d : Nat} {N : Nat} {lv : am_LV} (h : am_H) (o : am_O) (hs : fg_197_21 N h = some o) : am_W X (d + 125) 197 21 lv [] h (fun q => q = o) := by
  unfold fg_197_21 at hs
  refine aw_iconst (v := 2) (pc1 := 22) at_197_21 (by decide) rfl ?_
  cases hs
  exact aw_iret at_197_22 (by rw [rt_197]; rfl) rfl
def fg_197_17 (N : Nat) (h : am_H) : Option am_O := some (.inl (some (.int 1), h))
theorem rg_197_17 {X : am_X} {d : Nat} {N : Nat} {lv : am_LV} (h : am_H) (o : am_O) (hs : fg_197_17 N h = some o) : am_W X (d + 125) 197 17 lv [] h (fun q => q = o) := by
  unfold fg_197_17 at hs
  refine aw_iconst (v := 1) (pc1 := 18) at_197_17 (by decide) rfl ?_
  cases hs
  exact aw_iret at_197_18 (by rw [rt_197]; rfl) rfl
def fg_197_0 (N : Nat) (x0 : Value) (x1 : Int32) (x2 : Int32) (x3 : Int64) (x5 : Value) (h : am_H) : Option am_O := (if am_pOk 11 x0 h then (match fm_198 N x0 x1 x2 x3 h with | some (.inl (some (.int v2), h3)) => ((am_pSL x5 0 (Int32.toInt64 v2) h3).bind fun h5 => some (.inl (some (.int 0), h5))) | some (.inr (0, h7)) => (fg_197_21 N h7) | some (.inr (1, h9)) => (fg_197_25 N h9) | some (.inr (2, h11)) => (fg_197_17 N h11) | _ => none) else none)
theorem rg_197_0 {X : am_X} {d : Nat} {N : Nat} {lv : am_LV} (x0 : Value) (x1 : Int32) (x2 : Int32) (x3 : Int64) (x5 : Value) (h : am_H) (o : am_O) (l0 : lv.lookup 0 = some x0) (l1 : lv.lookup 1 = some (.int x1)) (l2 : lv.lookup 2 = some (.int x2)) (l3 : lv.lookup 3 = some (.long x3)) (l5 : lv.lookup 5 = some x5) (i0 : am_isR x0 = true) (i5 : am_isR x5 = true) (hs : fg_197_0 N x0 x1 x2 x3 x5 h = some o) : am_W X (d + 125) 197 0 lv [] h (fun q => q = o) := by
  unfold fg_197_0 at hs
  refine aw_vload (pc1 := 2) at_197_0 l5 i5 rfl ?_
  refine aw_iconst (v := 0) (pc1 := 3) at_197_2 (by decide) rfl ?_
  refine aw_vload_n (pc1 := 4) at_197_3 l0 i0 rfl ?_
  refine aw_iload_n (pc1 := 5) at_197_4 l1 rfl ?_
  refine aw_iload_n (pc1 := 6) at_197_5 l2 rfl ?_
  refine aw_lload_n (pc1 := 7) at_197_6 l3 rfl ?_
  obtain ⟨z1, hs1⟩ := am_ift hs
  clear hs
  refine aw_callH (F := fm_198 N x0 x1 x2 x3 h) (na := 4) (kd := 1) (as := [x0, (.int x1), (.int x2), (.long x3)]) at_197_7 (am_k3v kb_198) mn_198 mk_198 rfl rfl (am_ok_v mi_198 (am_hl rfl (am_ccR i0 (am_ccI (am_ccI (am_ccL am_cats_0)))) rfl) z1) (am_hc (am_ccI (am_ccR i5 am_cats_0)) rfl) (fun o1 hz9 => rm_198 x0 x1 x2 x3 h o1 i0 hz9) ?_
  split at hs1
  · rename_i v2 h3 f4
    refine Or.inl ⟨_, _, f4, ?_⟩
    show am_W X _ 197 10 _ [(.int v2), (.int 0), x5] h3 _
    refine aw_i2l (v := (Int32.toInt64 v2)) (pc1 := 11) at_197_10 rfl rfl ?_
    obtain ⟨h5, e6, hs2⟩ := am_bind hs1
    clear hs1
    refine aw_pSL (pc1 := 12) at_197_11 e6 rfl ?_
    refine aw_goto at_197_12 ?_
    refine aw_iconst (v := 0) (pc1 := 28) at_197_27 (by decide) rfl ?_
    cases hs2
    exact aw_iret at_197_28 (by rw [rt_197]; rfl) rfl
  · rename_i h7 f8
    refine Or.inr ⟨_, _, 21, 6, f8, rfl, hn_197, hd_197_7_0, ?_⟩
    exact rg_197_21 h7 o   hs1
  · rename_i h9 f10
    refine Or.inr ⟨_, _, 25, 6, f10, rfl, hn_197, hd_197_7_1, ?_⟩
    exact rg_197_25 h9 o   hs1
  · rename_i h11 f12
    refine Or.inr ⟨_, _, 17, 6, f12, rfl, hn_197, hd_197_7_2, ?_⟩
    exact rg_197_17 h11 o   hs1
  · cases hs1
def fm_197 (N : Nat) (y0 : Value) (y1 : Int32) (y2 : Int32) (y3 : Int64) (y4 : Value) (h : am_H) : Option am_O := fg_197_0 N y0 y1 y2 y3 y4 h
theorem rm_197 {X : am_X} {d : Nat} {N : Nat} (y0 : Value) (y1 : Int32) (y2 : Int32) (y3 : Int64) (y4 : Value) (h : am_H) (o : am_O) (i0 : am_isR y0 = true) (i4 : am_isR y4 = true) (hs : fm_197 N y0 y1 y2 y3 y4 h = some o) : am_W X (d + 125) 197 0 (am_args 0 [y0, .int y1, .int y2, .long y3, y4]) [] h (fun q => q = o) := by
  rw [am_args_R i0, am_args_I, am_args_I, am_args_L, am_args_R i4]
  exact rg_197_0 y0 y1 y2 y3 y4 h o rfl rfl rfl rfl rfl i0 i4 hs
