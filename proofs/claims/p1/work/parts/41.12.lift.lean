/-! ===== methods as functions ===== -/
def fg_585_195 (N : Nat) (rec_162 : Value → Int32 → Int32 → am_H → Option am_O) (x0 : Value) (x1 : Int32) (x2 : Int32) (h : am_H) : Option am_O := (rec_162 x0 x1 ((x2 + 1)) h)
theorem rg_585_195 {X : am_X} {d : Nat} {N : Nat} {rec_162 : Value → Int32 → Int32 → am_H → Option am_O} (q_162 : ∀ (x0 : Value) (x1 : Int32) (x2 : Int32) (h : am_H) (o : am_O), rec_162 x0 x1 x2 h = some o → ∀ lv : am_LV, (lv.lookup 0 = some x0) → (lv.lookup 1 = some (.int x1)) → (lv.lookup 2 = some (.int x2)) → (am_isR x0 = true) → am_W X (d + 3) 585 162 lv [] h (fun q => q = o)) {lv : am_LV} (x0 : Value) (x1 : Int32) (x2 : Int32) (h : am_H) (o : am_O) (l0 : lv.lookup 0 = some x0) (l1 : lv.lookup 1 = some (.int x1)) (l2 : lv.lookup 2 = some (.int x2)) (i0 : am_isR x0 = true) (hs : fg_585_195 N rec_162 x0 x1 x2 h = some o) : am_W X (d + 3) 585 195 lv [] h (fun q => q = o) := by
  unfold fg_585_195 at hs
  refine aw_iinc (v := (x2 + 1)) (c := 1) (lv1 := am_put1 _ 2 _) (pc1 := 198) at_585_195 l2 (by decide) rfl rfl rfl ?_
  refine aw_goto at_585_198 ?_
  exact q_162 x0 x1 ((x2 + 1)) h o hs _ (am_lk1 l0 rfl rfl) (am_lk1 l1 rfl rfl) am_lk0 i0
def fg_585_162 (N : Nat) : Nat → Value → Int32 → Int32 → am_H → Option am_O
  | 0 => fun _ _ _ _ => none
  | K + 1 => fun x0 x1 x2 h => ((am_vI (am_pG 3090 x0 h)).bind fun v1 => (if v1 ≤ x2 then (if am_pOk 12 x0 h then am_cI true (fm_356 N x0 7 x1 ((-1)) ((-1)) ((-1)) 0 h) (fun v5 h6 => some (.inl (some (.int v5), h6))) else none) else ((am_vR (am_pG 3208 x0 h)).bind fun v8 => ((am_pA 2 v8 x2 h).bind fun v10 => (if v10 = 0 then (fg_585_195 N (fg_585_162 N K) x0 x1 x2 h) else ((am_vR (am_pG 3093 x0 h)).bind fun v13 => ((am_pA 0 v13 x2 h).bind fun v15 => ((am_vR (am_pG 3094 x0 h)).bind fun v17 => ((am_pA 0 v17 x2 h).bind fun v19 => (if am_pOk 12 x0 h then am_cV true (fm_335 x0 v15 v19 h) (fun h23 => (fg_585_195 N (fg_585_162 N K) x0 x1 x2 h23)) else none))))))))))
theorem rg_585_162 {X : am_X} {d : Nat} {N : Nat} : ∀ (K : Nat) (x0 : Value) (x1 : Int32) (x2 : Int32) (h : am_H) (o : am_O), fg_585_162 N K x0 x1 x2 h = some o → ∀ lv : am_LV, (lv.lookup 0 = some x0) → (lv.lookup 1 = some (.int x1)) → (lv.lookup 2 = some (.int x2)) → (am_isR x0 = true) → am_W X (d + 3) 585 162 lv [] h (fun q => q = o) := by
  intro K
  induction K with
  | zero => intro x0 x1 x2 h o hs; cases hs
  | succ K ih =>
    intro x0 x1 x2 h o hs lv l0 l1 l2 i0
    unfold fg_585_162 at hs
    refine aw_iload_n (pc1 := 163) at_585_162 l2 rfl ?_
    refine aw_vload_n (pc1 := 164) at_585_163 l0 i0 rfl ?_
    obtain ⟨v1, e2, hs1⟩ := am_bind hs
    clear hs
    refine aw_pG (pc1 := 167) at_585_164 (am_vI_s e2) rfl ?_
    by_cases c3 : v1 ≤ x2
    · rw [if_pos c3] at hs1
      refine aw_icge_t at_585_167 c3 ?_
      refine aw_vload_n (pc1 := 202) at_585_201 l0 i0 rfl ?_
      refine aw_bipush (v := 7) (pc1 := 204) at_585_202 (by decide) rfl ?_
      refine aw_iload_n (pc1 := 205) at_585_204 l1 rfl ?_
      refine aw_iconst (v := (-1)) (pc1 := 206) at_585_205 (by decide) rfl ?_
      refine aw_iconst (v := (-1)) (pc1 := 207) at_585_206 (by decide) rfl ?_
      refine aw_iconst (v := (-1)) (pc1 := 208) at_585_207 (by decide) rfl ?_
      refine aw_lconst (v := 0) (pc1 := 209) at_585_208 (by decide) rfl ?_
      obtain ⟨z4, hs2⟩ := am_ift hs1
      clear hs1
      refine aw_call (F := fm_356 N x0 7 x1 ((-1)) ((-1)) ((-1)) 0 h) (t := true) (na := 7) (kd := 1) (as := [x0, (.int 7), (.int x1), (.int (-1)), (.int (-1)), (.int (-1)), (.long 0)]) at_585_209 (am_k3v kb_356) mn_356 mk_356 rfl rfl (am_ok_v mi_356 (am_hl rfl (am_ccR i0 (am_ccI (am_ccI (am_ccI (am_ccI (am_ccI (am_ccL am_cats_0))))))) rfl) z4) (am_hc am_cats_0 rfl) (fun _ => ⟨rfl, hh_585⟩) (fun o1 hz9 => rm_356 x0 7 x1 ((-1)) ((-1)) ((-1)) 0 h o1 i0 hz9) ?_
      rcases am_cI_s hs2 with ⟨v5, h6, f7, hs3⟩ | hs3
      · clear hs2
        refine Or.inl ⟨_, _, f7, ?_⟩
        show am_W X _ 585 212 _ [(.int v5)] h6 _
        cases hs3
        exact aw_iret at_585_212 (by rw [rt_585]; rfl) rfl
      · clear hs2
        exact Or.inr hs3
    · rw [if_neg c3] at hs1
      refine aw_icge_f (pc1 := 170) at_585_167 c3 rfl ?_
      refine aw_vload_n (pc1 := 171) at_585_170 l0 i0 rfl ?_
      obtain ⟨v8, e9, hs4⟩ := am_bind hs1
      clear hs1
      refine aw_pG (pc1 := 174) at_585_171 (am_vR_s e9).1 rfl ?_
      refine aw_iload_n (pc1 := 175) at_585_174 l2 rfl ?_
      obtain ⟨v10, e11, hs5⟩ := am_bind hs4
      clear hs4
      refine aw_pA (pc1 := 176) at_585_175 (Or.inr (Or.inl ⟨rfl, rfl⟩)) e11 rfl ?_
      by_cases c12 : v10 = 0
      · rw [if_pos c12] at hs5
        refine aw_ifeq_t at_585_176 c12 ?_
        exact rg_585_195 (fun z0 z1 z2 h o hs5 => ih z0 z1 z2 h o hs5) x0 x1 x2 h o l0 l1 l2 i0 hs5
      · rw [if_neg c12] at hs5
        refine aw_ifeq_f (pc1 := 179) at_585_176 c12 rfl ?_
        refine aw_vload_n (pc1 := 180) at_585_179 l0 i0 rfl ?_
        refine aw_vload_n (pc1 := 181) at_585_180 l0 i0 rfl ?_
        obtain ⟨v13, e14, hs6⟩ := am_bind hs5
        clear hs5
        refine aw_pG (pc1 := 184) at_585_181 (am_vR_s e14).1 rfl ?_
        refine aw_iload_n (pc1 := 185) at_585_184 l2 rfl ?_
        obtain ⟨v15, e16, hs7⟩ := am_bind hs6
        clear hs6
        refine aw_pA (pc1 := 186) at_585_185 (Or.inl ⟨rfl, rfl⟩) e16 rfl ?_
        refine aw_vload_n (pc1 := 187) at_585_186 l0 i0 rfl ?_
        obtain ⟨v17, e18, hs8⟩ := am_bind hs7
        clear hs7
        refine aw_pG (pc1 := 190) at_585_187 (am_vR_s e18).1 rfl ?_
        refine aw_iload_n (pc1 := 191) at_585_190 l2 rfl ?_
        obtain ⟨v19, e20, hs9⟩ := am_bind hs8
        clear hs8
        refine aw_pA (pc1 := 192) at_585_191 (Or.inl ⟨rfl, rfl⟩) e20 rfl ?_
        obtain ⟨z21, hs10⟩ := am_ift hs9
        clear hs9
        refine aw_call (F := fm_335 x0 v15 v19 h) (t := true) (na := 3) (kd := 1) (as := [x0, (.int v15), (.int v19)]) at_585_192 (am_k3v kb_335) mn_335 mk_335 rfl rfl (am_ok_v mi_335 (am_hl rfl (am_ccR i0 (am_ccI (am_ccI am_cats_0))) rfl) z21) (am_hc am_cats_0 rfl) (fun _ => ⟨rfl, hh_585⟩) (fun o1 hz9 => rm_335 x0 v15 v19 h o1 i0 hz9) ?_
        rcases am_cV_s hs10 with ⟨h23, f24, hs11⟩ | hs11
        · clear hs10
          refine Or.inl ⟨_, _, f24, ?_⟩
          show am_W X _ 585 195 _ [] h23 _
          exact rg_585_195 (fun z0 z1 z2 h o hs11 => ih z0 z1 z2 h o hs11) x0 x1 x2 h23 o l0 l1 l2 i0 hs11
        · clear hs10
          exact Or.inr hs11
def fg_585_139 (N : Nat) (rec_77 : Value → Int32 → Int32 → am_H → Option am_O) (rec_116 : Value → Int32 → Int32 → Int32 → am_H → Option am_O) (x0 : Value) (x1 : Int32) (x2 : Int32) (x3 : Int32) (h : am_H) : Option am_O := (rec_116 x0 x1 x2 ((x3 + 1)) h)
theorem rg_585_139 {X : am_X} {d : Nat} {N : Nat} {rec_77 : Value → Int32 → Int32 → am_H → Option am_O} {rec_116 : Value → Int32 → Int32 → Int32 → am_H → Option am_O} (q_77 : ∀ (x0 : Value) (x1 : Int32) (x2 : Int32) (h : am_H) (o : am_O), rec_77 x0 x1 x2 h = some o → ∀ lv : am_LV, (lv.lookup 0 = some x0) → (lv.lookup 1 = some (.int x1)) → (lv.lookup 2 = some (.int x2)) → (am_isR x0 = true) → am_W X (d + 3) 585 77 lv [] h (fun q => q = o)) (q_116 : ∀ (x0 : Value) (x1 : Int32) (x2 : Int32) (x3 : Int32) (h : am_H) (o : am_O), rec_116 x0 x1 x2 x3 h = some o → ∀ lv : am_LV, (lv.lookup 0 = some x0) → (lv.lookup 1 = some (.int x1)) → (lv.lookup 2 = some (.int x2)) → (lv.lookup 3 = some (.int x3)) → (am_isR x0 = true) → am_W X (d + 3) 585 116 lv [] h (fun q => q = o)) {lv : am_LV} (x0 : Value) (x1 : Int32) (x2 : Int32) (x3 : Int32) (h : am_H) (o : am_O) (l0 : lv.lookup 0 = some x0) (l1 : lv.lookup 1 = some (.int x1)) (l2 : lv.lookup 2 = some (.int x2)) (l3 : lv.lookup 3 = some (.int x3)) (i0 : am_isR x0 = true) (hs : fg_585_139 N rec_77 rec_116 x0 x1 x2 x3 h = some o) : am_W X (d + 3) 585 139 lv [] h (fun q => q = o) := by
  unfold fg_585_139 at hs
  refine aw_iinc (v := (x3 + 1)) (c := 1) (lv1 := am_put1 _ 3 _) (pc1 := 142) at_585_139 l3 (by decide) rfl rfl rfl ?_
  refine aw_goto at_585_142 ?_
  exact q_116 x0 x1 x2 ((x3 + 1)) h o hs _ (am_lk1 l0 rfl rfl) (am_lk1 l1 rfl rfl) (am_lk1 l2 rfl rfl) am_lk0 i0
def fg_585_116 (N : Nat) (rec_77 : Value → Int32 → Int32 → am_H → Option am_O) : Nat → Value → Int32 → Int32 → Int32 → am_H → Option am_O
  | 0 => fun _ _ _ _ _ => none
  | K + 1 => fun x0 x1 x2 x3 h => ((am_vI (am_pG 3086 x0 h)).bind fun v1 => (if v1 ≤ x3 then (rec_77 x0 x1 ((x2 + 1)) h) else (if am_pOk 12 x0 h then am_cI true (fm_418 x0 x3 h) (fun v5 h6 => (if v5 = 0 then (fg_585_139 N rec_77 (fg_585_116 N rec_77 K) x0 x1 x2 x3 h6) else ((am_vR (am_pG 3208 x0 h6)).bind fun v9 => ((am_pS 2 v9 x3 1 h6).bind fun h11 => (fg_585_139 N rec_77 (fg_585_116 N rec_77 K) x0 x1 x2 x3 h11))))) else none)))
theorem rg_585_116 {X : am_X} {d : Nat} {N : Nat} {rec_77 : Value → Int32 → Int32 → am_H → Option am_O} (q_77 : ∀ (x0 : Value) (x1 : Int32) (x2 : Int32) (h : am_H) (o : am_O), rec_77 x0 x1 x2 h = some o → ∀ lv : am_LV, (lv.lookup 0 = some x0) → (lv.lookup 1 = some (.int x1)) → (lv.lookup 2 = some (.int x2)) → (am_isR x0 = true) → am_W X (d + 3) 585 77 lv [] h (fun q => q = o)) : ∀ (K : Nat) (x0 : Value) (x1 : Int32) (x2 : Int32) (x3 : Int32) (h : am_H) (o : am_O), fg_585_116 N rec_77 K x0 x1 x2 x3 h = some o → ∀ lv : am_LV, (lv.lookup 0 = some x0) → (lv.lookup 1 = some (.int x1)) → (lv.lookup 2 = some (.int x2)) → (lv.lookup 3 = some (.int x3)) → (am_isR x0 = true) → am_W X (d + 3) 585 116 lv [] h (fun q => q = o) := by
  intro K
  induction K with
  | zero => intro x0 x1 x2 x3 h o hs; cases hs
  | succ K ih =>
    intro x0 x1 x2 x3 h o hs lv l0 l1 l2 l3 i0
    unfold fg_585_116 at hs
    refine aw_iload_n (pc1 := 117) at_585_116 l3 rfl ?_
    refine aw_vload_n (pc1 := 118) at_585_117 l0 i0 rfl ?_
    obtain ⟨v1, e2, hs1⟩ := am_bind hs
    clear hs
    refine aw_pG (pc1 := 121) at_585_118 (am_vI_s e2) rfl ?_
    by_cases c3 : v1 ≤ x3
    · rw [if_pos c3] at hs1
      refine aw_icge_t at_585_121 c3 ?_
      refine aw_iinc (v := (x2 + 1)) (c := 1) (lv1 := am_put1 _ 2 _) (pc1 := 148) at_585_145 l2 (by decide) rfl rfl rfl ?_
      refine aw_goto at_585_148 ?_
      exact q_77 x0 x1 ((x2 + 1)) h o hs1 _ (am_lk1 l0 rfl rfl) (am_lk1 l1 rfl rfl) am_lk0 i0
    · rw [if_neg c3] at hs1
      refine aw_icge_f (pc1 := 124) at_585_121 c3 rfl ?_
      refine aw_vload_n (pc1 := 125) at_585_124 l0 i0 rfl ?_
      refine aw_iload_n (pc1 := 126) at_585_125 l3 rfl ?_
      obtain ⟨z4, hs2⟩ := am_ift hs1
      clear hs1
      refine aw_call (F := fm_418 x0 x3 h) (t := true) (na := 2) (kd := 1) (as := [x0, (.int x3)]) at_585_126 (am_k3v kb_418) mn_418 mk_418 rfl rfl (am_ok_v mi_418 (am_hl rfl (am_ccR i0 (am_ccI am_cats_0)) rfl) z4) (am_hc am_cats_0 rfl) (fun _ => ⟨rfl, hh_585⟩) (fun o1 hz9 => rm_418 x0 x3 h o1 i0 hz9) ?_
      rcases am_cI_s hs2 with ⟨v5, h6, f7, hs3⟩ | hs3
      · clear hs2
        refine Or.inl ⟨_, _, f7, ?_⟩
        show am_W X _ 585 129 _ [(.int v5)] h6 _
        by_cases c8 : v5 = 0
        · rw [if_pos c8] at hs3
          refine aw_ifeq_t at_585_129 c8 ?_
          exact rg_585_139 q_77 (fun z0 z1 z2 z3 h o hs3 => ih z0 z1 z2 z3 h o hs3) x0 x1 x2 x3 h6 o l0 l1 l2 l3 i0 hs3
        · rw [if_neg c8] at hs3
          refine aw_ifeq_f (pc1 := 132) at_585_129 c8 rfl ?_
          refine aw_vload_n (pc1 := 133) at_585_132 l0 i0 rfl ?_
          obtain ⟨v9, e10, hs4⟩ := am_bind hs3
          clear hs3
          refine aw_pG (pc1 := 136) at_585_133 (am_vR_s e10).1 rfl ?_
          refine aw_iload_n (pc1 := 137) at_585_136 l3 rfl ?_
          refine aw_iconst (v := 1) (pc1 := 138) at_585_137 (by decide) rfl ?_
          obtain ⟨h11, e12, hs5⟩ := am_bind hs4
          clear hs4
          refine aw_pS (pc1 := 139) at_585_138 (Or.inr (Or.inl ⟨rfl, rfl⟩)) e12 rfl ?_
          exact rg_585_139 q_77 (fun z0 z1 z2 z3 h o hs5 => ih z0 z1 z2 z3 h o hs5) x0 x1 x2 x3 h11 o l0 l1 l2 l3 i0 hs5
      · clear hs2
        exact Or.inr hs3
def fg_585_89 (N : Nat) (rec_77 : Value → Int32 → Int32 → am_H → Option am_O) : Nat → Value → Int32 → Int32 → Int32 → am_H → Option am_O
  | 0 => fun _ _ _ _ _ => none
  | K + 1 => fun x0 x1 x2 x3 h => ((am_vI (am_pG 3087 x0 h)).bind fun v1 => (if v1 ≤ x3 then (fg_585_116 N rec_77 N x0 x1 x2 0 h) else ((am_vR (am_pG 3100 x0 h)).bind fun v4 => ((am_pS 0 v4 x3 ((x2 >>> (x3 &&& 31)) &&& 1) h).bind fun h6 => (fg_585_89 N rec_77 K x0 x1 x2 ((x3 + 1)) h6)))))
theorem rg_585_89 {X : am_X} {d : Nat} {N : Nat} {rec_77 : Value → Int32 → Int32 → am_H → Option am_O} (q_77 : ∀ (x0 : Value) (x1 : Int32) (x2 : Int32) (h : am_H) (o : am_O), rec_77 x0 x1 x2 h = some o → ∀ lv : am_LV, (lv.lookup 0 = some x0) → (lv.lookup 1 = some (.int x1)) → (lv.lookup 2 = some (.int x2)) → (am_isR x0 = true) → am_W X (d + 3) 585 77 lv [] h (fun q => q = o)) : ∀ (K : Nat) (x0 : Value) (x1 : Int32) (x2 : Int32) (x3 : Int32) (h : am_H) (o : am_O), fg_585_89 N rec_77 K x0 x1 x2 x3 h = some o → ∀ lv : am_LV, (lv.lookup 0 = some x0) → (lv.lookup 1 = some (.int x1)) → (lv.lookup 2 = some (.int x2)) → (lv.lookup 3 = some (.int x3)) → (am_isR x0 = true) → am_W X (d + 3) 585 89 lv [] h (fun q => q = o) := by
  intro K
  induction K with
  | zero => intro x0 x1 x2 x3 h o hs; cases hs
  | succ K ih =>
    intro x0 x1 x2 x3 h o hs lv l0 l1 l2 l3 i0
    unfold fg_585_89 at hs
    refine aw_iload_n (pc1 := 90) at_585_89 l3 rfl ?_
    refine aw_vload_n (pc1 := 91) at_585_90 l0 i0 rfl ?_
    obtain ⟨v1, e2, hs1⟩ := am_bind hs
    clear hs
    refine aw_pG (pc1 := 94) at_585_91 (am_vI_s e2) rfl ?_
    by_cases c3 : v1 ≤ x3
    · rw [if_pos c3] at hs1
      refine aw_icge_t at_585_94 c3 ?_
      refine aw_iconst (v := 0) (pc1 := 115) at_585_114 (by decide) rfl ?_
      refine aw_istore_n (lv1 := am_put1 _ 3 _) (pc1 := 116) at_585_115 rfl rfl ?_
      exact rg_585_116 q_77 N x0 x1 x2 0 h o hs1 _ (am_lk1 l0 rfl rfl) (am_lk1 l1 rfl rfl) (am_lk1 l2 rfl rfl) am_lk0 i0
    · rw [if_neg c3] at hs1
      refine aw_icge_f (pc1 := 97) at_585_94 c3 rfl ?_
      refine aw_vload_n (pc1 := 98) at_585_97 l0 i0 rfl ?_
      obtain ⟨v4, e5, hs2⟩ := am_bind hs1
      clear hs1
      refine aw_pG (pc1 := 101) at_585_98 (am_vR_s e5).1 rfl ?_
      refine aw_iload_n (pc1 := 102) at_585_101 l3 rfl ?_
      refine aw_iload_n (pc1 := 103) at_585_102 l2 rfl ?_
      refine aw_iload_n (pc1 := 104) at_585_103 l3 rfl ?_
      refine aw_ishr (v := (x2 >>> (x3 &&& 31))) (pc1 := 105) at_585_104 rfl rfl ?_
      refine aw_iconst (v := 1) (pc1 := 106) at_585_105 (by decide) rfl ?_
      refine aw_iand (v := ((x2 >>> (x3 &&& 31)) &&& 1)) (pc1 := 107) at_585_106 rfl rfl ?_
      obtain ⟨h6, e7, hs3⟩ := am_bind hs2
      clear hs2
      refine aw_pS (pc1 := 108) at_585_107 (Or.inl ⟨rfl, rfl⟩) e7 rfl ?_
      refine aw_iinc (v := (x3 + 1)) (c := 1) (lv1 := am_put1 _ 3 _) (pc1 := 111) at_585_108 l3 (by decide) rfl rfl rfl ?_
      refine aw_goto at_585_111 ?_
      exact ih x0 x1 x2 ((x3 + 1)) h6 o hs3 _ (am_lk1 l0 rfl rfl) (am_lk1 l1 rfl rfl) (am_lk1 l2 rfl rfl) am_lk0 i0
def fg_585_77 (N : Nat) : Nat → Value → Int32 → Int32 → am_H → Option am_O
  | 0 => fun _ _ _ _ => none
  | K + 1 => fun x0 x1 x2 h => ((am_vI (am_pG 3087 x0 h)).bind fun v1 => (if (1 <<< (v1 &&& 31)) ≤ x2 then (if am_pOk 12 x0 h then am_cV true (fm_391 N x0 x1 h) (fun h6 => (if am_pOk 12 x0 h6 then am_cV true (fm_451 x0 h6) (fun h10 => (fg_585_162 N N x0 x1 0 h10)) else none)) else none) else (fg_585_89 N (fg_585_77 N K) N x0 x1 x2 0 h)))
theorem rg_585_77 {X : am_X} {d : Nat} {N : Nat} : ∀ (K : Nat) (x0 : Value) (x1 : Int32) (x2 : Int32) (h : am_H) (o : am_O), fg_585_77 N K x0 x1 x2 h = some o → ∀ lv : am_LV, (lv.lookup 0 = some x0) → (lv.lookup 1 = some (.int x1)) → (lv.lookup 2 = some (.int x2)) → (am_isR x0 = true) → am_W X (d + 3) 585 77 lv [] h (fun q => q = o) := by
  intro K
  induction K with
  | zero => intro x0 x1 x2 h o hs; cases hs
  | succ K ih =>
    intro x0 x1 x2 h o hs lv l0 l1 l2 i0
    unfold fg_585_77 at hs
    refine aw_iload_n (pc1 := 78) at_585_77 l2 rfl ?_
    refine aw_iconst (v := 1) (pc1 := 79) at_585_78 (by decide) rfl ?_
    refine aw_vload_n (pc1 := 80) at_585_79 l0 i0 rfl ?_
    obtain ⟨v1, e2, hs1⟩ := am_bind hs
    clear hs
    refine aw_pG (pc1 := 83) at_585_80 (am_vI_s e2) rfl ?_
    refine aw_ishl (v := (1 <<< (v1 &&& 31))) (pc1 := 84) at_585_83 rfl rfl ?_
    by_cases c3 : (1 <<< (v1 &&& 31)) ≤ x2
    · rw [if_pos c3] at hs1
      refine aw_icge_t at_585_84 c3 ?_
      refine aw_vload_n (pc1 := 152) at_585_151 l0 i0 rfl ?_
      refine aw_iload_n (pc1 := 153) at_585_152 l1 rfl ?_
      obtain ⟨z4, hs2⟩ := am_ift hs1
      clear hs1
      refine aw_call (F := fm_391 N x0 x1 h) (t := true) (na := 2) (kd := 1) (as := [x0, (.int x1)]) at_585_153 (am_k3v kb_391) mn_391 mk_391 rfl rfl (am_ok_v mi_391 (am_hl rfl (am_ccR i0 (am_ccI am_cats_0)) rfl) z4) (am_hc am_cats_0 rfl) (fun _ => ⟨rfl, hh_585⟩) (fun o1 hz9 => rm_391 x0 x1 h o1 i0 hz9) ?_
      rcases am_cV_s hs2 with ⟨h6, f7, hs3⟩ | hs3
      · clear hs2
        refine Or.inl ⟨_, _, f7, ?_⟩
        show am_W X _ 585 156 _ [] h6 _
        refine aw_vload_n (pc1 := 157) at_585_156 l0 i0 rfl ?_
        obtain ⟨z8, hs4⟩ := am_ift hs3
        clear hs3
        refine aw_call (F := fm_451 x0 h6) (t := true) (na := 1) (kd := 1) (as := [x0]) at_585_157 (am_k3v kb_451) mn_451 mk_451 rfl rfl (am_ok_v mi_451 (am_hl rfl (am_ccR i0 am_cats_0) rfl) z8) (am_hc am_cats_0 rfl) (fun _ => ⟨rfl, hh_585⟩) (fun o1 hz9 => rm_451 x0 h6 o1 i0 hz9) ?_
        rcases am_cV_s hs4 with ⟨h10, f11, hs5⟩ | hs5
        · clear hs4
          refine Or.inl ⟨_, _, f11, ?_⟩
          show am_W X _ 585 160 _ [] h10 _
          refine aw_iconst (v := 0) (pc1 := 161) at_585_160 (by decide) rfl ?_
          refine aw_istore_n (lv1 := am_put1 _ 2 _) (pc1 := 162) at_585_161 rfl rfl ?_
          exact rg_585_162 N x0 x1 0 h10 o hs5 _ (am_lk1 l0 rfl rfl) (am_lk1 l1 rfl rfl) am_lk0 i0
        · clear hs4
          exact Or.inr hs5
      · clear hs2
        exact Or.inr hs3
    · rw [if_neg c3] at hs1
      refine aw_icge_f (pc1 := 87) at_585_84 c3 rfl ?_
      refine aw_iconst (v := 0) (pc1 := 88) at_585_87 (by decide) rfl ?_
      refine aw_istore_n (lv1 := am_put1 _ 3 _) (pc1 := 89) at_585_88 rfl rfl ?_
      exact rg_585_89 (fun z0 z1 z2 h o hs1 => ih z0 z1 z2 h o hs1) N x0 x1 x2 0 h o hs1 _ (am_lk1 l0 rfl rfl) (am_lk1 l1 rfl rfl) (am_lk1 l2 rfl rfl) am_lk0 i0
def fg_585_54 (N : Nat) : Nat → Value → Int32 → Int32 → am_H → Option am_O
  | 0 => fun _ _ _ _ => none
  | K + 1 => fun x0 x1 x2 h => ((am_vI (am_pG 3086 x0 h)).bind fun v1 => (if v1 ≤ x2 then (fg_585_77 N N x0 x1 0 h) else ((am_vR (am_pG 3208 x0 h)).bind fun v4 => ((am_pS 2 v4 x2 0 h).bind fun h6 => (fg_585_54 N K x0 x1 ((x2 + 1)) h6)))))
theorem rg_585_54 {X : am_X} {d : Nat} {N : Nat} : ∀ (K : Nat) (x0 : Value) (x1 : Int32) (x2 : Int32) (h : am_H) (o : am_O), fg_585_54 N K x0 x1 x2 h = some o → ∀ lv : am_LV, (lv.lookup 0 = some x0) → (lv.lookup 1 = some (.int x1)) → (lv.lookup 2 = some (.int x2)) → (am_isR x0 = true) → am_W X (d + 3) 585 54 lv [] h (fun q => q = o) := by
  intro K
  induction K with
  | zero => intro x0 x1 x2 h o hs; cases hs
  | succ K ih =>
    intro x0 x1 x2 h o hs lv l0 l1 l2 i0
    unfold fg_585_54 at hs
    refine aw_iload_n (pc1 := 55) at_585_54 l2 rfl ?_
    refine aw_vload_n (pc1 := 56) at_585_55 l0 i0 rfl ?_
    obtain ⟨v1, e2, hs1⟩ := am_bind hs
    clear hs
    refine aw_pG (pc1 := 59) at_585_56 (am_vI_s e2) rfl ?_
    by_cases c3 : v1 ≤ x2
    · rw [if_pos c3] at hs1
      refine aw_icge_t at_585_59 c3 ?_
      refine aw_iconst (v := 0) (pc1 := 76) at_585_75 (by decide) rfl ?_
      refine aw_istore_n (lv1 := am_put1 _ 2 _) (pc1 := 77) at_585_76 rfl rfl ?_
      exact rg_585_77 N x0 x1 0 h o hs1 _ (am_lk1 l0 rfl rfl) (am_lk1 l1 rfl rfl) am_lk0 i0
    · rw [if_neg c3] at hs1
      refine aw_icge_f (pc1 := 62) at_585_59 c3 rfl ?_
      refine aw_vload_n (pc1 := 63) at_585_62 l0 i0 rfl ?_
      obtain ⟨v4, e5, hs2⟩ := am_bind hs1
      clear hs1
      refine aw_pG (pc1 := 66) at_585_63 (am_vR_s e5).1 rfl ?_
      refine aw_iload_n (pc1 := 67) at_585_66 l2 rfl ?_
      refine aw_iconst (v := 0) (pc1 := 68) at_585_67 (by decide) rfl ?_
      obtain ⟨h6, e7, hs3⟩ := am_bind hs2
      clear hs2
      refine aw_pS (pc1 := 69) at_585_68 (Or.inr (Or.inl ⟨rfl, rfl⟩)) e7 rfl ?_
      refine aw_iinc (v := (x2 + 1)) (c := 1) (lv1 := am_put1 _ 2 _) (pc1 := 72) at_585_69 l2 (by decide) rfl rfl rfl ?_
      refine aw_goto at_585_72 ?_
      exact ih x0 x1 ((x2 + 1)) h6 o hs3 _ (am_lk1 l0 rfl rfl) (am_lk1 l1 rfl rfl) am_lk0 i0
def fg_585_35 (N : Nat) (x0 : Value) (x1 : Int32) (s0 : Value) (s1 : Int32) (h : am_H) : Option am_O := ((am_pP 3072 s0 (.int s1) h).bind fun h1 => ((am_vI (am_pG 3072 x0 h1)).bind fun v3 => (if v3 ≤ 0 then (if am_pOk 12 x0 h1 then am_cV true (fm_359 N x0 x1 h1) (fun h8 => (fg_585_54 N N x0 x1 0 h8)) else none) else some (.inl (some (.int 0), h1)))))
theorem rg_585_35 {X : am_X} {d : Nat} {N : Nat} {lv : am_LV} (x0 : Value) (x1 : Int32) (s0 : Value) (s1 : Int32) (h : am_H) (o : am_O) (l0 : lv.lookup 0 = some x0) (l1 : lv.lookup 1 = some (.int x1)) (i0 : am_isR x0 = true) (j0 : am_isR s0 = true) (hs : fg_585_35 N x0 x1 s0 s1 h = some o) : am_W X (d + 3) 585 35 lv [(.int s1), s0] h (fun q => q = o) := by
  unfold fg_585_35 at hs
  obtain ⟨h1, e2, hs1⟩ := am_bind hs
  clear hs
  refine aw_pP (pc1 := 38) at_585_35 e2 rfl ?_
  refine aw_vload_n (pc1 := 39) at_585_38 l0 i0 rfl ?_
  obtain ⟨v3, e4, hs2⟩ := am_bind hs1
  clear hs1
  refine aw_pG (pc1 := 42) at_585_39 (am_vI_s e4) rfl ?_
  by_cases c5 : v3 ≤ 0
  · rw [if_pos c5] at hs2
    refine aw_ifle_t at_585_42 c5 ?_
    refine aw_vload_n (pc1 := 48) at_585_47 l0 i0 rfl ?_
    refine aw_iload_n (pc1 := 49) at_585_48 l1 rfl ?_
    obtain ⟨z6, hs3⟩ := am_ift hs2
    clear hs2
    refine aw_call (F := fm_359 N x0 x1 h1) (t := true) (na := 2) (kd := 1) (as := [x0, (.int x1)]) at_585_49 (am_k3v kb_359) mn_359 mk_359 rfl rfl (am_ok_v mi_359 (am_hl rfl (am_ccR i0 (am_ccI am_cats_0)) rfl) z6) (am_hc am_cats_0 rfl) (fun _ => ⟨rfl, hh_585⟩) (fun o1 hz9 => rm_359 x0 x1 h1 o1 i0 hz9) ?_
    rcases am_cV_s hs3 with ⟨h8, f9, hs4⟩ | hs4
    · clear hs3
      refine Or.inl ⟨_, _, f9, ?_⟩
      show am_W X _ 585 52 _ [] h8 _
      refine aw_iconst (v := 0) (pc1 := 53) at_585_52 (by decide) rfl ?_
      refine aw_istore_n (lv1 := am_put1 _ 2 _) (pc1 := 54) at_585_53 rfl rfl ?_
      exact rg_585_54 N x0 x1 0 h8 o hs4 _ (am_lk1 l0 rfl rfl) (am_lk1 l1 rfl rfl) am_lk0 i0
    · clear hs3
      exact Or.inr hs4
  · rw [if_neg c5] at hs2
    refine aw_ifle_f (pc1 := 45) at_585_42 c5 rfl ?_
    refine aw_iconst (v := 0) (pc1 := 46) at_585_45 (by decide) rfl ?_
    cases hs2
    exact aw_iret at_585_46 (by rw [rt_585]; rfl) rfl
def fg_585_31 (N : Nat) (x0 : Value) (x1 : Int32) (s0 : Value) (h : am_H) : Option am_O := ((am_vI (am_pG 3072 x0 h)).bind fun v1 => (fg_585_35 N x0 x1 s0 v1 h))
theorem rg_585_31 {X : am_X} {d : Nat} {N : Nat} {lv : am_LV} (x0 : Value) (x1 : Int32) (s0 : Value) (h : am_H) (o : am_O) (l0 : lv.lookup 0 = some x0) (l1 : lv.lookup 1 = some (.int x1)) (i0 : am_isR x0 = true) (j0 : am_isR s0 = true) (hs : fg_585_31 N x0 x1 s0 h = some o) : am_W X (d + 3) 585 31 lv [s0] h (fun q => q = o) := by
  unfold fg_585_31 at hs
  refine aw_vload_n (pc1 := 32) at_585_31 l0 i0 rfl ?_
  obtain ⟨v1, e2, hs1⟩ := am_bind hs
  clear hs
  refine aw_pG (pc1 := 35) at_585_32 (am_vI_s e2) rfl ?_
  exact rg_585_35 x0 x1 s0 v1 h o l0 l1 i0 j0 hs1
def fg_585_0 (N : Nat) (x0 : Value) (x1 : Int32) (h : am_H) : Option am_O := (if am_pOk 12 x0 h then am_cI true (fm_586 x0 x1 h) (fun v2 h3 => ((am_pP 3072 x0 (.int v2) h3).bind fun h5 => ((am_vI (am_pG 3072 x0 h5)).bind fun v7 => (if ¬ v7 = 0 then (fg_585_31 N x0 x1 x0 h5) else ((am_vI (am_pG 3073 x0 h5)).bind fun v10 => (if ¬ v10 = 600 then (fg_585_31 N x0 x1 x0 h5) else (fg_585_35 N x0 x1 x0 3 h5))))))) else none)
theorem rg_585_0 {X : am_X} {d : Nat} {N : Nat} {lv : am_LV} (x0 : Value) (x1 : Int32) (h : am_H) (o : am_O) (l0 : lv.lookup 0 = some x0) (l1 : lv.lookup 1 = some (.int x1)) (i0 : am_isR x0 = true) (hs : fg_585_0 N x0 x1 h = some o) : am_W X (d + 3) 585 0 lv [] h (fun q => q = o) := by
  unfold fg_585_0 at hs
  refine aw_vload_n (pc1 := 1) at_585_0 l0 i0 rfl ?_
  refine aw_vload_n (pc1 := 2) at_585_1 l0 i0 rfl ?_
  refine aw_iload_n (pc1 := 3) at_585_2 l1 rfl ?_
  obtain ⟨z1, hs1⟩ := am_ift hs
  clear hs
  refine aw_call (F := fm_586 x0 x1 h) (t := true) (na := 2) (kd := 1) (as := [x0, (.int x1)]) at_585_3 (am_k3v kb_586) mn_586 mk_586 rfl rfl (am_ok_v mi_586 (am_hl rfl (am_ccR i0 (am_ccI am_cats_0)) rfl) z1) (am_hc (am_ccR i0 am_cats_0) rfl) (fun _ => ⟨rfl, hh_585⟩) (fun o1 hz9 => rm_586 x0 x1 h o1 i0 hz9) ?_
  rcases am_cI_s hs1 with ⟨v2, h3, f4, hs2⟩ | hs2
  · clear hs1
    refine Or.inl ⟨_, _, f4, ?_⟩
    show am_W X _ 585 6 _ [(.int v2), x0] h3 _
    obtain ⟨h5, e6, hs3⟩ := am_bind hs2
    clear hs2
    refine aw_pP (pc1 := 9) at_585_6 e6 rfl ?_
    refine aw_vload_n (pc1 := 10) at_585_9 l0 i0 rfl ?_
    refine aw_vload_n (pc1 := 11) at_585_10 l0 i0 rfl ?_
    obtain ⟨v7, e8, hs4⟩ := am_bind hs3
    clear hs3
    refine aw_pG (pc1 := 14) at_585_11 (am_vI_s e8) rfl ?_
    by_cases c9 : ¬ v7 = 0
    · rw [if_pos c9] at hs4
      refine aw_ifne_t at_585_14 c9 ?_
      exact rg_585_31 x0 x1 x0 h5 o l0 l1 i0 i0 hs4
    · rw [if_neg c9] at hs4
      refine aw_ifne_f (pc1 := 17) at_585_14 c9 rfl ?_
      refine aw_vload_n (pc1 := 18) at_585_17 l0 i0 rfl ?_
      obtain ⟨v10, e11, hs5⟩ := am_bind hs4
      clear hs4
      refine aw_pG (pc1 := 21) at_585_18 (am_vI_s e11) rfl ?_
      refine aw_sipush (v := 600) (pc1 := 24) at_585_21 (by decide) rfl ?_
      by_cases c12 : ¬ v10 = 600
      · rw [if_pos c12] at hs5
        refine aw_icne_t at_585_24 c12 ?_
        exact rg_585_31 x0 x1 x0 h5 o l0 l1 i0 i0 hs5
      · rw [if_neg c12] at hs5
        refine aw_icne_f (pc1 := 27) at_585_24 c12 rfl ?_
        refine aw_iconst (v := 3) (pc1 := 28) at_585_27 (by decide) rfl ?_
        refine aw_goto at_585_28 ?_
        exact rg_585_35 x0 x1 x0 3 h5 o l0 l1 i0 i0 hs5
  · clear hs1
    exact Or.inr hs2
def fm_585 (N : Nat) (y0 : Value) (y1 : Int32) (h : am_H) : Option am_O := fg_585_0 N y0 y1 h
theorem rm_585 {X : am_X} {d : Nat} {N : Nat} (y0 : Value) (y1 : Int32) (h : am_H) (o : am_O) (i0 : am_isR y0 = true) (hs : fm_585 N y0 y1 h = some o) : am_W X (d + 3) 585 0 (am_args 0 [y0, .int y1]) [] h (fun q => q = o) := by
  rw [am_args_R i0, am_args_I]
  exact rg_585_0 y0 y1 h o rfl rfl i0 hs
def fg_319_2 (N : Nat) : Nat → Value → Int32 → am_H → Option am_O
  | 0 => fun _ _ _ => none
  | K + 1 => fun x1 x2 h => ((am_vI (am_pG 770 x1 h)).bind fun v1 => (if (1 <<< (v1 &&& 31)) ≤ x2 then some (.inl (some (.int (-1)), h)) else am_cI false (fm_291 N x1 x2 h) (fun v4 h5 => am_cI false (fm_242 v4 h5) (fun v7 h8 => ((am_vI (am_pG 770 x1 h8)).bind fun v10 => ((am_vI (am_pG 770 x1 h8)).bind fun v12 => (if v4 = ((1 <<< (v10 &&& 31)) - (1 <<< ((v12 - v7) &&& 31))) then (fg_319_2 N K x1 ((x2 + 1)) h8) else some (.inl (some (.int x2), h8)))))))))
theorem rg_319_2 {X : am_X} {d : Nat} {N : Nat} : ∀ (K : Nat) (x1 : Value) (x2 : Int32) (h : am_H) (o : am_O), fg_319_2 N K x1 x2 h = some o → ∀ lv : am_LV, (lv.lookup 1 = some x1) → (lv.lookup 2 = some (.int x2)) → (am_isR x1 = true) → am_W X (d + 2) 319 2 lv [] h (fun q => q = o) := by
  intro K
  induction K with
  | zero => intro x1 x2 h o hs; cases hs
  | succ K ih =>
    intro x1 x2 h o hs lv l1 l2 i1
    unfold fg_319_2 at hs
    refine aw_iload_n (pc1 := 3) at_319_2 l2 rfl ?_
    refine aw_iconst (v := 1) (pc1 := 4) at_319_3 (by decide) rfl ?_
    refine aw_vload_n (pc1 := 5) at_319_4 l1 i1 rfl ?_
    obtain ⟨v1, e2, hs1⟩ := am_bind hs
    clear hs
    refine aw_pG (pc1 := 8) at_319_5 (am_vI_s e2) rfl ?_
    refine aw_ishl (v := (1 <<< (v1 &&& 31))) (pc1 := 9) at_319_8 rfl rfl ?_
    by_cases c3 : (1 <<< (v1 &&& 31)) ≤ x2
    · rw [if_pos c3] at hs1
      refine aw_icge_t at_319_9 c3 ?_
      refine aw_iconst (v := (-1)) (pc1 := 53) at_319_52 (by decide) rfl ?_
      cases hs1
      exact aw_iret at_319_53 (by rw [rt_319]; rfl) rfl
    · rw [if_neg c3] at hs1
      refine aw_icge_f (pc1 := 12) at_319_9 c3 rfl ?_
      refine aw_vload_n (pc1 := 13) at_319_12 l1 i1 rfl ?_
      refine aw_iload_n (pc1 := 14) at_319_13 l2 rfl ?_
      refine aw_call (F := fm_291 N x1 x2 h) (t := false) (na := 2) (kd := 0) (as := [x1, (.int x2)]) at_319_14 (am_k3s kb_291) mn_291 mk_291 rfl rfl (am_ok_s mi_291 (am_hl rfl (am_ccR i1 (am_ccI am_cats_0)) rfl)) (am_hc am_cats_0 rfl) (fun hz9 => by cases hz9) (fun o1 hz9 => rm_291 x1 x2 h o1 i1 hz9) ?_
      rcases am_cI_s hs1 with ⟨v4, h5, f6, hs2⟩ | hs2
      · clear hs1
        refine Or.inl ⟨_, _, f6, ?_⟩
        show am_W X _ 319 17 _ [(.int v4)] h5 _
        refine aw_istore_n (lv1 := am_put1 _ 3 _) (pc1 := 18) at_319_17 rfl rfl ?_
        refine aw_iload_n (pc1 := 19) at_319_18 am_lk0 rfl ?_
        refine aw_call (F := fm_242 v4 h5) (t := false) (na := 1) (kd := 0) (as := [(.int v4)]) at_319_19 (am_k3s kb_242) mn_242 mk_242 rfl rfl (am_ok_s mi_242 (am_hl rfl (am_ccI am_cats_0) rfl)) (am_hc am_cats_0 rfl) (fun hz9 => by cases hz9) (fun o1 hz9 => rm_242 v4 h5 o1  hz9) ?_
        rcases am_cI_s hs2 with ⟨v7, h8, f9, hs3⟩ | hs3
        · clear hs2
          refine Or.inl ⟨_, _, f9, ?_⟩
          show am_W X _ 319 22 _ [(.int v7)] h8 _
          refine aw_istore (lv1 := am_put1 _ 4 _) (pc1 := 24) at_319_22 rfl rfl ?_
          refine aw_iload_n (pc1 := 25) at_319_24 (am_lk1 am_lk0 rfl rfl) rfl ?_
          refine aw_iconst (v := 1) (pc1 := 26) at_319_25 (by decide) rfl ?_
          refine aw_vload_n (pc1 := 27) at_319_26 (am_lk1 (am_lk1 l1 rfl rfl) rfl rfl) i1 rfl ?_
          obtain ⟨v10, e11, hs4⟩ := am_bind hs3
          clear hs3
          refine aw_pG (pc1 := 30) at_319_27 (am_vI_s e11) rfl ?_
          refine aw_ishl (v := (1 <<< (v10 &&& 31))) (pc1 := 31) at_319_30 rfl rfl ?_
          refine aw_iconst (v := 1) (pc1 := 32) at_319_31 (by decide) rfl ?_
          refine aw_vload_n (pc1 := 33) at_319_32 (am_lk1 (am_lk1 l1 rfl rfl) rfl rfl) i1 rfl ?_
          obtain ⟨v12, e13, hs5⟩ := am_bind hs4
          clear hs4
          refine aw_pG (pc1 := 36) at_319_33 (am_vI_s e13) rfl ?_
          refine aw_iload (pc1 := 38) at_319_36 am_lk0 rfl ?_
          refine aw_isub (v := (v12 - v7)) (pc1 := 39) at_319_38 rfl rfl ?_
          refine aw_ishl (v := (1 <<< ((v12 - v7) &&& 31))) (pc1 := 40) at_319_39 rfl rfl ?_
          refine aw_isub (v := ((1 <<< (v10 &&& 31)) - (1 <<< ((v12 - v7) &&& 31)))) (pc1 := 41) at_319_40 rfl rfl ?_
          by_cases c14 : v4 = ((1 <<< (v10 &&& 31)) - (1 <<< ((v12 - v7) &&& 31)))
          · rw [if_pos c14] at hs5
            refine aw_iceq_t at_319_41 c14 ?_
            refine aw_iinc (v := (x2 + 1)) (c := 1) (lv1 := am_put1 _ 2 _) (pc1 := 49) at_319_46 (am_lk1 (am_lk1 l2 rfl rfl) rfl rfl) (by decide) rfl rfl rfl ?_
            refine aw_goto at_319_49 ?_
            exact ih x1 ((x2 + 1)) h8 o hs5 _ (am_lk1 (am_lk1 (am_lk1 l1 rfl rfl) rfl rfl) rfl (by rw [am_isRc i1]; rfl)) am_lk0 i1
          · rw [if_neg c14] at hs5
            refine aw_iceq_f (pc1 := 44) at_319_41 c14 rfl ?_
            refine aw_iload_n (pc1 := 45) at_319_44 (am_lk1 (am_lk1 l2 rfl rfl) rfl rfl) rfl ?_
            cases hs5
            exact aw_iret at_319_45 (by rw [rt_319]; rfl) rfl
        · clear hs2
          exact Or.inr hs3
      · clear hs1
        exact Or.inr hs2
def fg_319_0 (N : Nat) (x1 : Value) (h : am_H) : Option am_O := (fg_319_2 N N x1 0 h)
theorem rg_319_0 {X : am_X} {d : Nat} {N : Nat} {lv : am_LV} (x1 : Value) (h : am_H) (o : am_O) (l1 : lv.lookup 1 = some x1) (i1 : am_isR x1 = true) (hs : fg_319_0 N x1 h = some o) : am_W X (d + 2) 319 0 lv [] h (fun q => q = o) := by
  unfold fg_319_0 at hs
  refine aw_iconst (v := 0) (pc1 := 1) at_319_0 (by decide) rfl ?_
  refine aw_istore_n (lv1 := am_put1 _ 2 _) (pc1 := 2) at_319_1 rfl rfl ?_
  exact rg_319_2 N x1 0 h o hs _ (am_lk1 l1 rfl (by rw [am_isRc i1]; rfl)) am_lk0 i1
def fm_319 (N : Nat) (y0 : Value) (y1 : Value) (h : am_H) : Option am_O := fg_319_0 N y1 h
theorem rm_319 {X : am_X} {d : Nat} {N : Nat} (y0 : Value) (y1 : Value) (h : am_H) (o : am_O) (i0 : am_isR y0 = true) (i1 : am_isR y1 = true) (hs : fm_319 N y0 y1 h = some o) : am_W X (d + 2) 319 0 (am_args 0 [y0, y1]) [] h (fun q => q = o) := by
  rw [am_args_R i0, am_args_R i1]
  exact rg_319_0 y1 h o rfl i1 hs
def fg_318_0 (N : Nat) (x0 : Value) (x1 : Int32) (h : am_H) : Option am_O := ((am_vR (am_pG 2825 x0 h)).bind fun v1 => (if am_pOk 11 x0 h then am_cR true (fm_315 x0 x1 h) (fun v4 h5 => (if am_pOk 10 v1 h5 then am_cI true (fm_319 N v1 v4 h5) (fun v8 h9 => some (.inl (some (.int v8), h9))) else none)) else none))
theorem rg_318_0 {X : am_X} {d : Nat} {N : Nat} {lv : am_LV} (x0 : Value) (x1 : Int32) (h : am_H) (o : am_O) (l0 : lv.lookup 0 = some x0) (l1 : lv.lookup 1 = some (.int x1)) (i0 : am_isR x0 = true) (hs : fg_318_0 N x0 x1 h = some o) : am_W X (d + 3) 318 0 lv [] h (fun q => q = o) := by
  unfold fg_318_0 at hs
  refine aw_vload_n (pc1 := 1) at_318_0 l0 i0 rfl ?_
  obtain ⟨v1, e2, hs1⟩ := am_bind hs
  clear hs
  refine aw_pG (pc1 := 4) at_318_1 (am_vR_s e2).1 rfl ?_
  refine aw_vload_n (pc1 := 5) at_318_4 l0 i0 rfl ?_
  refine aw_iload_n (pc1 := 6) at_318_5 l1 rfl ?_
  obtain ⟨z3, hs2⟩ := am_ift hs1
  clear hs1
  refine aw_call (F := fm_315 x0 x1 h) (t := true) (na := 2) (kd := 1) (as := [x0, (.int x1)]) at_318_6 (am_k3v kb_315) mn_315 mk_315 rfl rfl (am_ok_v mi_315 (am_hl rfl (am_ccR i0 (am_ccI am_cats_0)) rfl) z3) (am_hc (am_ccR (am_vR_s e2).2 am_cats_0) rfl) (fun _ => ⟨rfl, hh_318⟩) (fun o1 hz9 => rm_315 x0 x1 h o1 i0 hz9) ?_
  rcases am_cR_s hs2 with ⟨v4, h5, f6, iv4, hs3⟩ | hs3
  · clear hs2
    refine Or.inl ⟨_, _, f6, ?_⟩
    show am_W X _ 318 9 _ [v4, v1] h5 _
    obtain ⟨z7, hs4⟩ := am_ift hs3
    clear hs3
    refine aw_call (F := fm_319 N v1 v4 h5) (t := true) (na := 2) (kd := 1) (as := [v1, v4]) at_318_9 (am_k3v kb_319) mn_319 mk_319 rfl rfl (am_ok_v mi_319 (am_hl rfl (am_ccR (am_vR_s e2).2 (am_ccR iv4 am_cats_0)) rfl) z7) (am_hc am_cats_0 rfl) (fun _ => ⟨rfl, hh_318⟩) (fun o1 hz9 => rm_319 v1 v4 h5 o1 (am_vR_s e2).2 iv4 hz9) ?_
    rcases am_cI_s hs4 with ⟨v8, h9, f10, hs5⟩ | hs5
    · clear hs4
      refine Or.inl ⟨_, _, f10, ?_⟩
      show am_W X _ 318 12 _ [(.int v8)] h9 _
      cases hs5
      exact aw_iret at_318_12 (by rw [rt_318]; rfl) rfl
    · clear hs4
      exact Or.inr hs5
  · clear hs2
    exact Or.inr hs3
def fm_318 (N : Nat) (y0 : Value) (y1 : Int32) (h : am_H) : Option am_O := fg_318_0 N y0 y1 h
theorem rm_318 {X : am_X} {d : Nat} {N : Nat} (y0 : Value) (y1 : Int32) (h : am_H) (o : am_O) (i0 : am_isR y0 = true) (hs : fm_318 N y0 y1 h = some o) : am_W X (d + 3) 318 0 (am_args 0 [y0, .int y1]) [] h (fun q => q = o) := by
  rw [am_args_R i0, am_args_I]
  exact rg_318_0 y0 y1 h o rfl rfl i0 hs
def fg_317_16 (N : Nat) (h : am_H) : Option am_O := some (.inl (some (.int 2), h))
theorem rg_317_16 {X : am_X} {d : Nat} {N : Nat} {lv : am_LV} (h : am_H) (o : am_O) (hs : fg_317_16 N h = some o) : am_W X (d + 4) 317 16 lv [] h (fun q => q = o) := by
  unfold fg_317_16 at hs
  refine aw_iconst (v := 2) (pc1 := 17) at_317_16 (by decide) rfl ?_
  cases hs
  exact aw_iret at_317_17 (by rw [rt_317]; rfl) rfl
def fg_317_13 (N : Nat) (h : am_H) : Option am_O := some (.inl (some (.int 1), h))
theorem rg_317_13 {X : am_X} {d : Nat} {N : Nat} {lv : am_LV} (h : am_H) (o : am_O) (hs : fg_317_13 N h = some o) : am_W X (d + 4) 317 13 lv [] h (fun q => q = o) := by
  unfold fg_317_13 at hs
  refine aw_iconst (v := 1) (pc1 := 14) at_317_13 (by decide) rfl ?_
  cases hs
  exact aw_iret at_317_14 (by rw [rt_317]; rfl) rfl
def fg_317_0 (N : Nat) (x0 : Value) (x1 : Int32) (x2 : Value) (h : am_H) : Option am_O := (if am_pOk 11 x0 h then (match fm_318 N x0 x1 h with | some (.inl (some (.int v2), h3)) => ((am_pSL x2 0 (Int32.toInt64 v2) h3).bind fun h5 => some (.inl (some (.int 0), h5))) | some (.inr (0, h7)) => (fg_317_16 N h7) | some (.inr (2, h9)) => (fg_317_13 N h9) | _ => none) else none)
theorem rg_317_0 {X : am_X} {d : Nat} {N : Nat} {lv : am_LV} (x0 : Value) (x1 : Int32) (x2 : Value) (h : am_H) (o : am_O) (l0 : lv.lookup 0 = some x0) (l1 : lv.lookup 1 = some (.int x1)) (l2 : lv.lookup 2 = some x2) (i0 : am_isR x0 = true) (i2 : am_isR x2 = true) (hs : fg_317_0 N x0 x1 x2 h = some o) : am_W X (d + 4) 317 0 lv [] h (fun q => q = o) := by
  unfold fg_317_0 at hs
  refine aw_vload_n (pc1 := 1) at_317_0 l2 i2 rfl ?_
  refine aw_iconst (v := 0) (pc1 := 2) at_317_1 (by decide) rfl ?_
  refine aw_vload_n (pc1 := 3) at_317_2 l0 i0 rfl ?_
  refine aw_iload_n (pc1 := 4) at_317_3 l1 rfl ?_
  obtain ⟨z1, hs1⟩ := am_ift hs
  clear hs
  refine aw_callH (F := fm_318 N x0 x1 h) (na := 2) (kd := 1) (as := [x0, (.int x1)]) at_317_4 (am_k3v kb_318) mn_318 mk_318 rfl rfl (am_ok_v mi_318 (am_hl rfl (am_ccR i0 (am_ccI am_cats_0)) rfl) z1) (am_hc (am_ccI (am_ccR i2 am_cats_0)) rfl) (fun o1 hz9 => rm_318 x0 x1 h o1 i0 hz9) ?_
  split at hs1
  · rename_i v2 h3 f4
    refine Or.inl ⟨_, _, f4, ?_⟩
    show am_W X _ 317 7 _ [(.int v2), (.int 0), x2] h3 _
    refine aw_i2l (v := (Int32.toInt64 v2)) (pc1 := 8) at_317_7 rfl rfl ?_
    obtain ⟨h5, e6, hs2⟩ := am_bind hs1
    clear hs1
    refine aw_pSL (pc1 := 9) at_317_8 e6 rfl ?_
    refine aw_goto at_317_9 ?_
    refine aw_iconst (v := 0) (pc1 := 19) at_317_18 (by decide) rfl ?_
    cases hs2
    exact aw_iret at_317_19 (by rw [rt_317]; rfl) rfl
  · rename_i h7 f8
    refine Or.inr ⟨_, _, 16, 3, f8, rfl, hn_317, hd_317_4_0, ?_⟩
    exact rg_317_16 h7 o   hs1
  · rename_i h9 f10
    refine Or.inr ⟨_, _, 13, 3, f10, rfl, hn_317, hd_317_4_2, ?_⟩
    exact rg_317_13 h9 o   hs1
  · cases hs1
def fm_317 (N : Nat) (y0 : Value) (y1 : Int32) (y2 : Value) (h : am_H) : Option am_O := fg_317_0 N y0 y1 y2 h
theorem rm_317 {X : am_X} {d : Nat} {N : Nat} (y0 : Value) (y1 : Int32) (y2 : Value) (h : am_H) (o : am_O) (i0 : am_isR y0 = true) (i2 : am_isR y2 = true) (hs : fm_317 N y0 y1 y2 h = some o) : am_W X (d + 4) 317 0 (am_args 0 [y0, .int y1, y2]) [] h (fun q => q = o) := by
  rw [am_args_R i0, am_args_I, am_args_R i2]
  exact rg_317_0 y0 y1 y2 h o rfl rfl rfl i0 i2 hs
def fg_587_83 (N : Nat) (rec_25 : Value → Int32 → am_H → Option am_O) (rec_47 : Value → Int32 → Int32 → Int32 → Int32 → am_H → Option am_O) (x0 : Value) (x2 : Int32) (x3 : Int32) (x5 : Int32) (s0 : Int32) (h : am_H) : Option am_O := (rec_47 x0 x2 x3 s0 ((x5 + 1)) h)
theorem rg_587_83 {X : am_X} {d : Nat} {N : Nat} {rec_25 : Value → Int32 → am_H → Option am_O} {rec_47 : Value → Int32 → Int32 → Int32 → Int32 → am_H → Option am_O} (q_25 : ∀ (x0 : Value) (x2 : Int32) (h : am_H) (o : am_O), rec_25 x0 x2 h = some o → ∀ lv : am_LV, (lv.lookup 0 = some x0) → (lv.lookup 2 = some (.int x2)) → (am_isR x0 = true) → am_W X (d + 3) 587 25 lv [] h (fun q => q = o)) (q_47 : ∀ (x0 : Value) (x2 : Int32) (x3 : Int32) (x4 : Int32) (x5 : Int32) (h : am_H) (o : am_O), rec_47 x0 x2 x3 x4 x5 h = some o → ∀ lv : am_LV, (lv.lookup 0 = some x0) → (lv.lookup 2 = some (.int x2)) → (lv.lookup 3 = some (.int x3)) → (lv.lookup 4 = some (.int x4)) → (lv.lookup 5 = some (.int x5)) → (am_isR x0 = true) → am_W X (d + 3) 587 47 lv [] h (fun q => q = o)) {lv : am_LV} (x0 : Value) (x2 : Int32) (x3 : Int32) (x5 : Int32) (s0 : Int32) (h : am_H) (o : am_O) (l0 : lv.lookup 0 = some x0) (l2 : lv.lookup 2 = some (.int x2)) (l3 : lv.lookup 3 = some (.int x3)) (l5 : lv.lookup 5 = some (.int x5)) (i0 : am_isR x0 = true) (hs : fg_587_83 N rec_25 rec_47 x0 x2 x3 x5 s0 h = some o) : am_W X (d + 3) 587 83 lv [(.int s0)] h (fun q => q = o) := by
  unfold fg_587_83 at hs
  refine aw_istore (lv1 := am_put1 _ 4 _) (pc1 := 85) at_587_83 rfl rfl ?_
  refine aw_iinc (v := (x5 + 1)) (c := 1) (lv1 := am_put1 _ 5 _) (pc1 := 88) at_587_85 (am_lk1 l5 rfl rfl) (by decide) rfl rfl rfl ?_
  refine aw_goto at_587_88 ?_
  exact q_47 x0 x2 x3 s0 ((x5 + 1)) h o hs _ (am_lk1 (am_lk1 l0 rfl rfl) rfl rfl) (am_lk1 (am_lk1 l2 rfl rfl) rfl rfl) (am_lk1 (am_lk1 l3 rfl rfl) rfl rfl) (am_lk1 am_lk0 rfl rfl) am_lk0 i0
def fg_587_82 (N : Nat) (rec_25 : Value → Int32 → am_H → Option am_O) (rec_47 : Value → Int32 → Int32 → Int32 → Int32 → am_H → Option am_O) (x0 : Value) (x2 : Int32) (x3 : Int32) (x5 : Int32) (h : am_H) : Option am_O := (fg_587_83 N rec_25 rec_47 x0 x2 x3 x5 0 h)
theorem rg_587_82 {X : am_X} {d : Nat} {N : Nat} {rec_25 : Value → Int32 → am_H → Option am_O} {rec_47 : Value → Int32 → Int32 → Int32 → Int32 → am_H → Option am_O} (q_25 : ∀ (x0 : Value) (x2 : Int32) (h : am_H) (o : am_O), rec_25 x0 x2 h = some o → ∀ lv : am_LV, (lv.lookup 0 = some x0) → (lv.lookup 2 = some (.int x2)) → (am_isR x0 = true) → am_W X (d + 3) 587 25 lv [] h (fun q => q = o)) (q_47 : ∀ (x0 : Value) (x2 : Int32) (x3 : Int32) (x4 : Int32) (x5 : Int32) (h : am_H) (o : am_O), rec_47 x0 x2 x3 x4 x5 h = some o → ∀ lv : am_LV, (lv.lookup 0 = some x0) → (lv.lookup 2 = some (.int x2)) → (lv.lookup 3 = some (.int x3)) → (lv.lookup 4 = some (.int x4)) → (lv.lookup 5 = some (.int x5)) → (am_isR x0 = true) → am_W X (d + 3) 587 47 lv [] h (fun q => q = o)) {lv : am_LV} (x0 : Value) (x2 : Int32) (x3 : Int32) (x5 : Int32) (h : am_H) (o : am_O) (l0 : lv.lookup 0 = some x0) (l2 : lv.lookup 2 = some (.int x2)) (l3 : lv.lookup 3 = some (.int x3)) (l5 : lv.lookup 5 = some (.int x5)) (i0 : am_isR x0 = true) (hs : fg_587_82 N rec_25 rec_47 x0 x2 x3 x5 h = some o) : am_W X (d + 3) 587 82 lv [] h (fun q => q = o) := by
  unfold fg_587_82 at hs
  refine aw_iconst (v := 0) (pc1 := 83) at_587_82 (by decide) rfl ?_
  exact rg_587_83 q_25 q_47 x0 x2 x3 x5 0 h o l0 l2 l3 l5 i0 hs
def fg_587_47 (N : Nat) (rec_25 : Value → Int32 → am_H → Option am_O) : Nat → Value → Int32 → Int32 → Int32 → Int32 → am_H → Option am_O
  | 0 => fun _ _ _ _ _ _ => none
  | K + 1 => fun x0 x2 x3 x4 x5 h => ((am_vI (am_pG 3087 x0 h)).bind fun v1 => (if v1 ≤ x5 then (if ¬ x4 = 0 then (rec_25 x0 ((x2 + 1)) h) else some (.inl (some (.int x2), h))) else (if x4 = 0 then (fg_587_82 N rec_25 (fg_587_47 N rec_25 K) x0 x2 x3 x5 h) else (if ((x3 >>> (x5 &&& 31)) &&& 1) < ((x3 >>> ((x5 - 1) &&& 31)) &&& 1) then (fg_587_82 N rec_25 (fg_587_47 N rec_25 K) x0 x2 x3 x5 h) else (fg_587_83 N rec_25 (fg_587_47 N rec_25 K) x0 x2 x3 x5 1 h)))))
theorem rg_587_47 {X : am_X} {d : Nat} {N : Nat} {rec_25 : Value → Int32 → am_H → Option am_O} (q_25 : ∀ (x0 : Value) (x2 : Int32) (h : am_H) (o : am_O), rec_25 x0 x2 h = some o → ∀ lv : am_LV, (lv.lookup 0 = some x0) → (lv.lookup 2 = some (.int x2)) → (am_isR x0 = true) → am_W X (d + 3) 587 25 lv [] h (fun q => q = o)) : ∀ (K : Nat) (x0 : Value) (x2 : Int32) (x3 : Int32) (x4 : Int32) (x5 : Int32) (h : am_H) (o : am_O), fg_587_47 N rec_25 K x0 x2 x3 x4 x5 h = some o → ∀ lv : am_LV, (lv.lookup 0 = some x0) → (lv.lookup 2 = some (.int x2)) → (lv.lookup 3 = some (.int x3)) → (lv.lookup 4 = some (.int x4)) → (lv.lookup 5 = some (.int x5)) → (am_isR x0 = true) → am_W X (d + 3) 587 47 lv [] h (fun q => q = o) := by
  intro K
  induction K with
  | zero => intro x0 x2 x3 x4 x5 h o hs; cases hs
  | succ K ih =>
    intro x0 x2 x3 x4 x5 h o hs lv l0 l2 l3 l4 l5 i0
    unfold fg_587_47 at hs
    refine aw_iload (pc1 := 49) at_587_47 l5 rfl ?_
    refine aw_vload_n (pc1 := 50) at_587_49 l0 i0 rfl ?_
    obtain ⟨v1, e2, hs1⟩ := am_bind hs
    clear hs
    refine aw_pG (pc1 := 53) at_587_50 (am_vI_s e2) rfl ?_
    by_cases c3 : v1 ≤ x5
    · rw [if_pos c3] at hs1
      refine aw_icge_t at_587_53 c3 ?_
      refine aw_iload (pc1 := 93) at_587_91 l4 rfl ?_
      by_cases c4 : ¬ x4 = 0
      · rw [if_pos c4] at hs1
        refine aw_ifne_t at_587_93 c4 ?_
        refine aw_iinc (v := (x2 + 1)) (c := 1) (lv1 := am_put1 _ 2 _) (pc1 := 101) at_587_98 l2 (by decide) rfl rfl rfl ?_
        refine aw_goto at_587_101 ?_
        exact q_25 x0 ((x2 + 1)) h o hs1 _ (am_lk1 l0 rfl rfl) am_lk0 i0
      · rw [if_neg c4] at hs1
        refine aw_ifne_f (pc1 := 96) at_587_93 c4 rfl ?_
        refine aw_iload_n (pc1 := 97) at_587_96 l2 rfl ?_
        cases hs1
        exact aw_iret at_587_97 (by rw [rt_587]; rfl) rfl
    · rw [if_neg c3] at hs1
      refine aw_icge_f (pc1 := 56) at_587_53 c3 rfl ?_
      refine aw_iload (pc1 := 58) at_587_56 l4 rfl ?_
      by_cases c5 : x4 = 0
      · rw [if_pos c5] at hs1
        refine aw_ifeq_t at_587_58 c5 ?_
        exact rg_587_82 q_25 (fun z0 z1 z2 z3 z4 h o hs1 => ih z0 z1 z2 z3 z4 h o hs1) x0 x2 x3 x5 h o l0 l2 l3 l5 i0 hs1
      · rw [if_neg c5] at hs1
        refine aw_ifeq_f (pc1 := 61) at_587_58 c5 rfl ?_
        refine aw_iload_n (pc1 := 62) at_587_61 l3 rfl ?_
        refine aw_iload (pc1 := 64) at_587_62 l5 rfl ?_
        refine aw_iconst (v := 1) (pc1 := 65) at_587_64 (by decide) rfl ?_
        refine aw_isub (v := (x5 - 1)) (pc1 := 66) at_587_65 rfl rfl ?_
        refine aw_ishr (v := (x3 >>> ((x5 - 1) &&& 31))) (pc1 := 67) at_587_66 rfl rfl ?_
        refine aw_iconst (v := 1) (pc1 := 68) at_587_67 (by decide) rfl ?_
        refine aw_iand (v := ((x3 >>> ((x5 - 1) &&& 31)) &&& 1)) (pc1 := 69) at_587_68 rfl rfl ?_
        refine aw_iload_n (pc1 := 70) at_587_69 l3 rfl ?_
        refine aw_iload (pc1 := 72) at_587_70 l5 rfl ?_
        refine aw_ishr (v := (x3 >>> (x5 &&& 31))) (pc1 := 73) at_587_72 rfl rfl ?_
        refine aw_iconst (v := 1) (pc1 := 74) at_587_73 (by decide) rfl ?_
        refine aw_iand (v := ((x3 >>> (x5 &&& 31)) &&& 1)) (pc1 := 75) at_587_74 rfl rfl ?_
        by_cases c6 : ((x3 >>> (x5 &&& 31)) &&& 1) < ((x3 >>> ((x5 - 1) &&& 31)) &&& 1)
        · rw [if_pos c6] at hs1
          refine aw_icgt_t at_587_75 c6 ?_
          exact rg_587_82 q_25 (fun z0 z1 z2 z3 z4 h o hs1 => ih z0 z1 z2 z3 z4 h o hs1) x0 x2 x3 x5 h o l0 l2 l3 l5 i0 hs1
        · rw [if_neg c6] at hs1
          refine aw_icgt_f (pc1 := 78) at_587_75 c6 rfl ?_
          refine aw_iconst (v := 1) (pc1 := 79) at_587_78 (by decide) rfl ?_
          refine aw_goto at_587_79 ?_
          exact rg_587_83 q_25 (fun z0 z1 z2 z3 z4 h o hs1 => ih z0 z1 z2 z3 z4 h o hs1) x0 x2 x3 x5 1 h o l0 l2 l3 l5 i0 hs1
def fg_587_25 (N : Nat) : Nat → Value → Int32 → am_H → Option am_O
  | 0 => fun _ _ _ => none
  | K + 1 => fun x0 x2 h => ((am_vI (am_pG 3087 x0 h)).bind fun v1 => (if (1 <<< (v1 &&& 31)) ≤ x2 then some (.inl (some (.int (-1)), h)) else (if am_pOk 12 x0 h then am_cI true (fm_571 N x0 x2 h) (fun v5 h6 => (fg_587_47 N (fg_587_25 N K) N x0 x2 v5 1 1 h6)) else none)))
theorem rg_587_25 {X : am_X} {d : Nat} {N : Nat} : ∀ (K : Nat) (x0 : Value) (x2 : Int32) (h : am_H) (o : am_O), fg_587_25 N K x0 x2 h = some o → ∀ lv : am_LV, (lv.lookup 0 = some x0) → (lv.lookup 2 = some (.int x2)) → (am_isR x0 = true) → am_W X (d + 3) 587 25 lv [] h (fun q => q = o) := by
  intro K
  induction K with
  | zero => intro x0 x2 h o hs; cases hs
  | succ K ih =>
    intro x0 x2 h o hs lv l0 l2 i0
    unfold fg_587_25 at hs
    refine aw_iload_n (pc1 := 26) at_587_25 l2 rfl ?_
    refine aw_iconst (v := 1) (pc1 := 27) at_587_26 (by decide) rfl ?_
    refine aw_vload_n (pc1 := 28) at_587_27 l0 i0 rfl ?_
    obtain ⟨v1, e2, hs1⟩ := am_bind hs
    clear hs
    refine aw_pG (pc1 := 31) at_587_28 (am_vI_s e2) rfl ?_
    refine aw_ishl (v := (1 <<< (v1 &&& 31))) (pc1 := 32) at_587_31 rfl rfl ?_
    by_cases c3 : (1 <<< (v1 &&& 31)) ≤ x2
    · rw [if_pos c3] at hs1
      refine aw_icge_t at_587_32 c3 ?_
      refine aw_iconst (v := (-1)) (pc1 := 105) at_587_104 (by decide) rfl ?_
      cases hs1
      exact aw_iret at_587_105 (by rw [rt_587]; rfl) rfl
    · rw [if_neg c3] at hs1
      refine aw_icge_f (pc1 := 35) at_587_32 c3 rfl ?_
      refine aw_vload_n (pc1 := 36) at_587_35 l0 i0 rfl ?_
      refine aw_iload_n (pc1 := 37) at_587_36 l2 rfl ?_
      obtain ⟨z4, hs2⟩ := am_ift hs1
      clear hs1
      refine aw_call (F := fm_571 N x0 x2 h) (t := true) (na := 2) (kd := 1) (as := [x0, (.int x2)]) at_587_37 (am_k3v kb_571) mn_571 mk_571 rfl rfl (am_ok_v mi_571 (am_hl rfl (am_ccR i0 (am_ccI am_cats_0)) rfl) z4) (am_hc am_cats_0 rfl) (fun _ => ⟨rfl, hh_587⟩) (fun o1 hz9 => rm_571 x0 x2 h o1 i0 hz9) ?_
      rcases am_cI_s hs2 with ⟨v5, h6, f7, hs3⟩ | hs3
      · clear hs2
        refine Or.inl ⟨_, _, f7, ?_⟩
        show am_W X _ 587 40 _ [(.int v5)] h6 _
        refine aw_istore_n (lv1 := am_put1 _ 3 _) (pc1 := 41) at_587_40 rfl rfl ?_
        refine aw_iconst (v := 1) (pc1 := 42) at_587_41 (by decide) rfl ?_
        refine aw_istore (lv1 := am_put1 _ 4 _) (pc1 := 44) at_587_42 rfl rfl ?_
        refine aw_iconst (v := 1) (pc1 := 45) at_587_44 (by decide) rfl ?_
        refine aw_istore (lv1 := am_put1 _ 5 _) (pc1 := 47) at_587_45 rfl rfl ?_
        exact rg_587_47 (fun z0 z1 h o hs3 => ih z0 z1 h o hs3) N x0 x2 v5 1 1 h6 o hs3 _ (am_lk1 (am_lk1 (am_lk1 l0 rfl rfl) rfl rfl) rfl rfl) (am_lk1 (am_lk1 (am_lk1 l2 rfl rfl) rfl rfl) rfl rfl) (am_lk1 (am_lk1 am_lk0 rfl rfl) rfl rfl) (am_lk1 am_lk0 rfl rfl) am_lk0 i0
      · clear hs2
        exact Or.inr hs3
def fg_587_0 (N : Nat) (x0 : Value) (x1 : Int32) (h : am_H) : Option am_O := (if am_pOk 12 x0 h then am_cI true (fm_586 x0 x1 h) (fun v2 h3 => ((am_pP 3072 x0 (.int v2) h3).bind fun h5 => ((am_vI (am_pG 3072 x0 h5)).bind fun v7 => (if v7 ≤ 0 then (if am_pOk 12 x0 h5 then am_cV true (fm_359 N x0 x1 h5) (fun h12 => (fg_587_25 N N x0 0 h12)) else none) else some (.inl (some (.int 0), h5)))))) else none)
theorem rg_587_0 {X : am_X} {d : Nat} {N : Nat} {lv : am_LV} (x0 : Value) (x1 : Int32) (h : am_H) (o : am_O) (l0 : lv.lookup 0 = some x0) (l1 : lv.lookup 1 = some (.int x1)) (i0 : am_isR x0 = true) (hs : fg_587_0 N x0 x1 h = some o) : am_W X (d + 3) 587 0 lv [] h (fun q => q = o) := by
  unfold fg_587_0 at hs
  refine aw_vload_n (pc1 := 1) at_587_0 l0 i0 rfl ?_
  refine aw_vload_n (pc1 := 2) at_587_1 l0 i0 rfl ?_
  refine aw_iload_n (pc1 := 3) at_587_2 l1 rfl ?_
  obtain ⟨z1, hs1⟩ := am_ift hs
  clear hs
  refine aw_call (F := fm_586 x0 x1 h) (t := true) (na := 2) (kd := 1) (as := [x0, (.int x1)]) at_587_3 (am_k3v kb_586) mn_586 mk_586 rfl rfl (am_ok_v mi_586 (am_hl rfl (am_ccR i0 (am_ccI am_cats_0)) rfl) z1) (am_hc (am_ccR i0 am_cats_0) rfl) (fun _ => ⟨rfl, hh_587⟩) (fun o1 hz9 => rm_586 x0 x1 h o1 i0 hz9) ?_
  rcases am_cI_s hs1 with ⟨v2, h3, f4, hs2⟩ | hs2
  · clear hs1
    refine Or.inl ⟨_, _, f4, ?_⟩
    show am_W X _ 587 6 _ [(.int v2), x0] h3 _
    obtain ⟨h5, e6, hs3⟩ := am_bind hs2
    clear hs2
    refine aw_pP (pc1 := 9) at_587_6 e6 rfl ?_
    refine aw_vload_n (pc1 := 10) at_587_9 l0 i0 rfl ?_
    obtain ⟨v7, e8, hs4⟩ := am_bind hs3
    clear hs3
    refine aw_pG (pc1 := 13) at_587_10 (am_vI_s e8) rfl ?_
    by_cases c9 : v7 ≤ 0
    · rw [if_pos c9] at hs4
      refine aw_ifle_t at_587_13 c9 ?_
      refine aw_vload_n (pc1 := 19) at_587_18 l0 i0 rfl ?_
      refine aw_iload_n (pc1 := 20) at_587_19 l1 rfl ?_
      obtain ⟨z10, hs5⟩ := am_ift hs4
      clear hs4
      refine aw_call (F := fm_359 N x0 x1 h5) (t := true) (na := 2) (kd := 1) (as := [x0, (.int x1)]) at_587_20 (am_k3v kb_359) mn_359 mk_359 rfl rfl (am_ok_v mi_359 (am_hl rfl (am_ccR i0 (am_ccI am_cats_0)) rfl) z10) (am_hc am_cats_0 rfl) (fun _ => ⟨rfl, hh_587⟩) (fun o1 hz9 => rm_359 x0 x1 h5 o1 i0 hz9) ?_
      rcases am_cV_s hs5 with ⟨h12, f13, hs6⟩ | hs6
      · clear hs5
        refine Or.inl ⟨_, _, f13, ?_⟩
        show am_W X _ 587 23 _ [] h12 _
        refine aw_iconst (v := 0) (pc1 := 24) at_587_23 (by decide) rfl ?_
        refine aw_istore_n (lv1 := am_put1 _ 2 _) (pc1 := 25) at_587_24 rfl rfl ?_
        exact rg_587_25 N x0 0 h12 o hs6 _ (am_lk1 l0 rfl rfl) am_lk0 i0
      · clear hs5
        exact Or.inr hs6
    · rw [if_neg c9] at hs4
      refine aw_ifle_f (pc1 := 16) at_587_13 c9 rfl ?_
      refine aw_iconst (v := 0) (pc1 := 17) at_587_16 (by decide) rfl ?_
      cases hs4
      exact aw_iret at_587_17 (by rw [rt_587]; rfl) rfl
  · clear hs1
    exact Or.inr hs2
def fm_587 (N : Nat) (y0 : Value) (y1 : Int32) (h : am_H) : Option am_O := fg_587_0 N y0 y1 h
theorem rm_587 {X : am_X} {d : Nat} {N : Nat} (y0 : Value) (y1 : Int32) (h : am_H) (o : am_O) (i0 : am_isR y0 = true) (hs : fm_587 N y0 y1 h = some o) : am_W X (d + 3) 587 0 (am_args 0 [y0, .int y1]) [] h (fun q => q = o) := by
  rw [am_args_R i0, am_args_I]
  exact rg_587_0 y0 y1 h o rfl rfl i0 hs
def fg_322_112 (N : Nat) (rec_12 : Value → Value → Int32 → Int32 → am_H → Option am_O) (x0 : Value) (x1 : Value) (x2 : Int32) (x3 : Int32) (h : am_H) : Option am_O := (rec_12 x0 x1 x2 ((x3 + 1)) h)
theorem rg_322_112 {X : am_X} {d : Nat} {N : Nat} {rec_12 : Value → Value → Int32 → Int32 → am_H → Option am_O} (q_12 : ∀ (x0 : Value) (x1 : Value) (x2 : Int32) (x3 : Int32) (h : am_H) (o : am_O), rec_12 x0 x1 x2 x3 h = some o → ∀ lv : am_LV, (lv.lookup 0 = some x0) → (lv.lookup 1 = some x1) → (lv.lookup 2 = some (.int x2)) → (lv.lookup 3 = some (.int x3)) → (am_isR x0 = true) → (am_isR x1 = true) → am_W X (d + 1) 322 12 lv [] h (fun q => q = o)) {lv : am_LV} (x0 : Value) (x1 : Value) (x2 : Int32) (x3 : Int32) (h : am_H) (o : am_O) (l0 : lv.lookup 0 = some x0) (l1 : lv.lookup 1 = some x1) (l2 : lv.lookup 2 = some (.int x2)) (l3 : lv.lookup 3 = some (.int x3)) (i0 : am_isR x0 = true) (i1 : am_isR x1 = true) (hs : fg_322_112 N rec_12 x0 x1 x2 x3 h = some o) : am_W X (d + 1) 322 112 lv [] h (fun q => q = o) := by
  unfold fg_322_112 at hs
  refine aw_iinc (v := (x3 + 1)) (c := 1) (lv1 := am_put1 _ 3 _) (pc1 := 115) at_322_112 l3 (by decide) rfl rfl rfl ?_
  refine aw_goto at_322_115 ?_
  exact q_12 x0 x1 x2 ((x3 + 1)) h o hs _ (am_lk1 l0 rfl rfl) (am_lk1 l1 rfl rfl) (am_lk1 l2 rfl rfl) am_lk0 i0 i1
def fg_322_12 (N : Nat) : Nat → Value → Value → Int32 → Int32 → am_H → Option am_O
  | 0 => fun _ _ _ _ _ => none
  | K + 1 => fun x0 x1 x2 x3 h => ((am_vI (am_pG 771 x1 h)).bind fun v1 => (if v1 ≤ x3 then some (.inl (some (.int x2), h)) else (if am_pOk 3 x1 h then am_cI true (fm_54 x1 x3 0 h) (fun v5 h6 => (if am_pOk 3 x1 h6 then am_cI true (fm_54 x1 x3 1 h6) (fun v9 h10 => (if v5 < 0 then (fg_322_112 N (fg_322_12 N K) x0 x1 x2 x3 h10) else ((am_vR (am_pG 2570 x0 h10)).bind fun v13 => ((am_pLen v13 h10).bind fun v15 => (if v15 ≤ v5 then (fg_322_112 N (fg_322_12 N K) x0 x1 x2 x3 h10) else (if v9 < 0 then (fg_322_112 N (fg_322_12 N K) x0 x1 x2 x3 h10) else ((am_vR (am_pG 2570 x0 h10)).bind fun v19 => ((am_pLen v19 h10).bind fun v21 => (if v21 ≤ v9 then (fg_322_112 N (fg_322_12 N K) x0 x1 x2 x3 h10) else ((am_vR (am_pG 2570 x0 h10)).bind fun v24 => ((am_pA 0 v24 v5 h10).bind fun v26 => ((am_vR (am_pG 2570 x0 h10)).bind fun v28 => ((am_pA 0 v28 v9 h10).bind fun v30 => am_cI false (fm_37 v26 v30 h10) (fun v32 h33 => ((am_vR (am_pG 2570 x0 h33)).bind fun v35 => ((am_pS 0 v35 v5 (v32 + 1) h33).bind fun h37 => ((am_vR (am_pG 2570 x0 h37)).bind fun v39 => ((am_pS 0 v39 v9 (v32 + 1) h37).bind fun h41 => am_cI false (fm_37 x2 ((v32 + 1)) h41) (fun v43 h44 => (fg_322_112 N (fg_322_12 N K) x0 x1 v43 x3 h44)))))))))))))))))))) else none)) else none)))
theorem rg_322_12 {X : am_X} {d : Nat} {N : Nat} : ∀ (K : Nat) (x0 : Value) (x1 : Value) (x2 : Int32) (x3 : Int32) (h : am_H) (o : am_O), fg_322_12 N K x0 x1 x2 x3 h = some o → ∀ lv : am_LV, (lv.lookup 0 = some x0) → (lv.lookup 1 = some x1) → (lv.lookup 2 = some (.int x2)) → (lv.lookup 3 = some (.int x3)) → (am_isR x0 = true) → (am_isR x1 = true) → am_W X (d + 1) 322 12 lv [] h (fun q => q = o) := by
  intro K
  induction K with
  | zero => intro x0 x1 x2 x3 h o hs; cases hs
  | succ K ih =>
    intro x0 x1 x2 x3 h o hs lv l0 l1 l2 l3 i0 i1
    unfold fg_322_12 at hs
    refine aw_iload_n (pc1 := 13) at_322_12 l3 rfl ?_
    refine aw_vload_n (pc1 := 14) at_322_13 l1 i1 rfl ?_
    obtain ⟨v1, e2, hs1⟩ := am_bind hs
    clear hs
    refine aw_pG (pc1 := 17) at_322_14 (am_vI_s e2) rfl ?_
    by_cases c3 : v1 ≤ x3
    · rw [if_pos c3] at hs1
      refine aw_icge_t at_322_17 c3 ?_
      refine aw_iload_n (pc1 := 119) at_322_118 l2 rfl ?_
      cases hs1
      exact aw_iret at_322_119 (by rw [rt_322]; rfl) rfl
    · rw [if_neg c3] at hs1
      refine aw_icge_f (pc1 := 20) at_322_17 c3 rfl ?_
      refine aw_vload_n (pc1 := 21) at_322_20 l1 i1 rfl ?_
      refine aw_iload_n (pc1 := 22) at_322_21 l3 rfl ?_
      refine aw_iconst (v := 0) (pc1 := 23) at_322_22 (by decide) rfl ?_
      obtain ⟨z4, hs2⟩ := am_ift hs1
      clear hs1
      refine aw_call (F := fm_54 x1 x3 0 h) (t := true) (na := 3) (kd := 1) (as := [x1, (.int x3), (.int 0)]) at_322_23 (am_k3v kb_54) mn_54 mk_54 rfl rfl (am_ok_v mi_54 (am_hl rfl (am_ccR i1 (am_ccI (am_ccI am_cats_0))) rfl) z4) (am_hc am_cats_0 rfl) (fun _ => ⟨rfl, hh_322⟩) (fun o1 hz9 => rm_54 x1 x3 0 h o1 i1 hz9) ?_
      rcases am_cI_s hs2 with ⟨v5, h6, f7, hs3⟩ | hs3
      · clear hs2
        refine Or.inl ⟨_, _, f7, ?_⟩
        show am_W X _ 322 26 _ [(.int v5)] h6 _
        refine aw_istore (lv1 := am_put1 _ 4 _) (pc1 := 28) at_322_26 rfl rfl ?_
        refine aw_vload_n (pc1 := 29) at_322_28 (am_lk1 l1 rfl rfl) i1 rfl ?_
        refine aw_iload_n (pc1 := 30) at_322_29 (am_lk1 l3 rfl rfl) rfl ?_
        refine aw_iconst (v := 1) (pc1 := 31) at_322_30 (by decide) rfl ?_
        obtain ⟨z8, hs4⟩ := am_ift hs3
        clear hs3
        refine aw_call (F := fm_54 x1 x3 1 h6) (t := true) (na := 3) (kd := 1) (as := [x1, (.int x3), (.int 1)]) at_322_31 (am_k3v kb_54) mn_54 mk_54 rfl rfl (am_ok_v mi_54 (am_hl rfl (am_ccR i1 (am_ccI (am_ccI am_cats_0))) rfl) z8) (am_hc am_cats_0 rfl) (fun _ => ⟨rfl, hh_322⟩) (fun o1 hz9 => rm_54 x1 x3 1 h6 o1 i1 hz9) ?_
        rcases am_cI_s hs4 with ⟨v9, h10, f11, hs5⟩ | hs5
        · clear hs4
          refine Or.inl ⟨_, _, f11, ?_⟩
          show am_W X _ 322 34 _ [(.int v9)] h10 _
          refine aw_istore (lv1 := am_put1 _ 5 _) (pc1 := 36) at_322_34 rfl rfl ?_
          refine aw_iload (pc1 := 38) at_322_36 (am_lk1 am_lk0 rfl rfl) rfl ?_
          by_cases c12 : v5 < 0
          · rw [if_pos c12] at hs5
            refine aw_iflt_t at_322_38 c12 ?_
            exact rg_322_112 (fun z0 z1 z2 z3 h o hs5 => ih z0 z1 z2 z3 h o hs5) x0 x1 x2 x3 h10 o (am_lk1 (am_lk1 l0 rfl rfl) rfl rfl) (am_lk1 (am_lk1 l1 rfl rfl) rfl rfl) (am_lk1 (am_lk1 l2 rfl rfl) rfl rfl) (am_lk1 (am_lk1 l3 rfl rfl) rfl rfl) i0 i1 hs5
          · rw [if_neg c12] at hs5
            refine aw_iflt_f (pc1 := 41) at_322_38 c12 rfl ?_
            refine aw_iload (pc1 := 43) at_322_41 (am_lk1 am_lk0 rfl rfl) rfl ?_
            refine aw_vload_n (pc1 := 44) at_322_43 (am_lk1 (am_lk1 l0 rfl rfl) rfl rfl) i0 rfl ?_
            obtain ⟨v13, e14, hs6⟩ := am_bind hs5
            clear hs5
            refine aw_pG (pc1 := 47) at_322_44 (am_vR_s e14).1 rfl ?_
            obtain ⟨v15, e16, hs7⟩ := am_bind hs6
            clear hs6
            refine aw_pLen (pc1 := 48) at_322_47 e16 rfl ?_
            by_cases c17 : v15 ≤ v5
            · rw [if_pos c17] at hs7
              refine aw_icge_t at_322_48 c17 ?_
              exact rg_322_112 (fun z0 z1 z2 z3 h o hs7 => ih z0 z1 z2 z3 h o hs7) x0 x1 x2 x3 h10 o (am_lk1 (am_lk1 l0 rfl rfl) rfl rfl) (am_lk1 (am_lk1 l1 rfl rfl) rfl rfl) (am_lk1 (am_lk1 l2 rfl rfl) rfl rfl) (am_lk1 (am_lk1 l3 rfl rfl) rfl rfl) i0 i1 hs7
            · rw [if_neg c17] at hs7
              refine aw_icge_f (pc1 := 51) at_322_48 c17 rfl ?_
              refine aw_iload (pc1 := 53) at_322_51 am_lk0 rfl ?_
              by_cases c18 : v9 < 0
              · rw [if_pos c18] at hs7
                refine aw_iflt_t at_322_53 c18 ?_
                exact rg_322_112 (fun z0 z1 z2 z3 h o hs7 => ih z0 z1 z2 z3 h o hs7) x0 x1 x2 x3 h10 o (am_lk1 (am_lk1 l0 rfl rfl) rfl rfl) (am_lk1 (am_lk1 l1 rfl rfl) rfl rfl) (am_lk1 (am_lk1 l2 rfl rfl) rfl rfl) (am_lk1 (am_lk1 l3 rfl rfl) rfl rfl) i0 i1 hs7
              · rw [if_neg c18] at hs7
                refine aw_iflt_f (pc1 := 56) at_322_53 c18 rfl ?_
                refine aw_iload (pc1 := 58) at_322_56 am_lk0 rfl ?_
                refine aw_vload_n (pc1 := 59) at_322_58 (am_lk1 (am_lk1 l0 rfl rfl) rfl rfl) i0 rfl ?_
                obtain ⟨v19, e20, hs8⟩ := am_bind hs7
                clear hs7
                refine aw_pG (pc1 := 62) at_322_59 (am_vR_s e20).1 rfl ?_
                obtain ⟨v21, e22, hs9⟩ := am_bind hs8
                clear hs8
                refine aw_pLen (pc1 := 63) at_322_62 e22 rfl ?_
                by_cases c23 : v21 ≤ v9
                · rw [if_pos c23] at hs9
                  refine aw_icge_t at_322_63 c23 ?_
                  exact rg_322_112 (fun z0 z1 z2 z3 h o hs9 => ih z0 z1 z2 z3 h o hs9) x0 x1 x2 x3 h10 o (am_lk1 (am_lk1 l0 rfl rfl) rfl rfl) (am_lk1 (am_lk1 l1 rfl rfl) rfl rfl) (am_lk1 (am_lk1 l2 rfl rfl) rfl rfl) (am_lk1 (am_lk1 l3 rfl rfl) rfl rfl) i0 i1 hs9
                · rw [if_neg c23] at hs9
                  refine aw_icge_f (pc1 := 66) at_322_63 c23 rfl ?_
                  refine aw_vload_n (pc1 := 67) at_322_66 (am_lk1 (am_lk1 l0 rfl rfl) rfl rfl) i0 rfl ?_
                  obtain ⟨v24, e25, hs10⟩ := am_bind hs9
                  clear hs9
                  refine aw_pG (pc1 := 70) at_322_67 (am_vR_s e25).1 rfl ?_
                  refine aw_iload (pc1 := 72) at_322_70 (am_lk1 am_lk0 rfl rfl) rfl ?_
                  obtain ⟨v26, e27, hs11⟩ := am_bind hs10
                  clear hs10
                  refine aw_pA (pc1 := 73) at_322_72 (Or.inl ⟨rfl, rfl⟩) e27 rfl ?_
                  refine aw_vload_n (pc1 := 74) at_322_73 (am_lk1 (am_lk1 l0 rfl rfl) rfl rfl) i0 rfl ?_
                  obtain ⟨v28, e29, hs12⟩ := am_bind hs11
                  clear hs11
                  refine aw_pG (pc1 := 77) at_322_74 (am_vR_s e29).1 rfl ?_
                  refine aw_iload (pc1 := 79) at_322_77 am_lk0 rfl ?_
                  obtain ⟨v30, e31, hs13⟩ := am_bind hs12
                  clear hs12
                  refine aw_pA (pc1 := 80) at_322_79 (Or.inl ⟨rfl, rfl⟩) e31 rfl ?_
                  refine aw_call (F := fm_37 v26 v30 h10) (t := false) (na := 2) (kd := 0) (as := [(.int v26), (.int v30)]) at_322_80 (am_k3s kb_37) mn_37 mk_37 rfl rfl (am_ok_s mi_37 (am_hl rfl (am_ccI (am_ccI am_cats_0)) rfl)) (am_hc am_cats_0 rfl) (fun hz9 => by cases hz9) (fun o1 hz9 => rm_37 v26 v30 h10 o1  hz9) ?_
                  rcases am_cI_s hs13 with ⟨v32, h33, f34, hs14⟩ | hs14
                  · clear hs13
                    refine Or.inl ⟨_, _, f34, ?_⟩
                    show am_W X _ 322 83 _ [(.int v32)] h33 _
                    refine aw_iconst (v := 1) (pc1 := 84) at_322_83 (by decide) rfl ?_
                    refine aw_iadd (v := (v32 + 1)) (pc1 := 85) at_322_84 rfl rfl ?_
                    refine aw_istore (lv1 := am_put1 _ 6 _) (pc1 := 87) at_322_85 rfl rfl ?_
                    refine aw_vload_n (pc1 := 88) at_322_87 (am_lk1 (am_lk1 (am_lk1 l0 rfl rfl) rfl rfl) rfl rfl) i0 rfl ?_
                    obtain ⟨v35, e36, hs15⟩ := am_bind hs14
                    clear hs14
                    refine aw_pG (pc1 := 91) at_322_88 (am_vR_s e36).1 rfl ?_
                    refine aw_iload (pc1 := 93) at_322_91 (am_lk1 (am_lk1 am_lk0 rfl rfl) rfl rfl) rfl ?_
                    refine aw_iload (pc1 := 95) at_322_93 am_lk0 rfl ?_
                    obtain ⟨h37, e38, hs16⟩ := am_bind hs15
                    clear hs15
                    refine aw_pS (pc1 := 96) at_322_95 (Or.inl ⟨rfl, rfl⟩) e38 rfl ?_
                    refine aw_vload_n (pc1 := 97) at_322_96 (am_lk1 (am_lk1 (am_lk1 l0 rfl rfl) rfl rfl) rfl rfl) i0 rfl ?_
                    obtain ⟨v39, e40, hs17⟩ := am_bind hs16
                    clear hs16
                    refine aw_pG (pc1 := 100) at_322_97 (am_vR_s e40).1 rfl ?_
                    refine aw_iload (pc1 := 102) at_322_100 (am_lk1 am_lk0 rfl rfl) rfl ?_
                    refine aw_iload (pc1 := 104) at_322_102 am_lk0 rfl ?_
                    obtain ⟨h41, e42, hs18⟩ := am_bind hs17
                    clear hs17
                    refine aw_pS (pc1 := 105) at_322_104 (Or.inl ⟨rfl, rfl⟩) e42 rfl ?_
                    refine aw_iload_n (pc1 := 106) at_322_105 (am_lk1 (am_lk1 (am_lk1 l2 rfl rfl) rfl rfl) rfl rfl) rfl ?_
                    refine aw_iload (pc1 := 108) at_322_106 am_lk0 rfl ?_
                    refine aw_call (F := fm_37 x2 ((v32 + 1)) h41) (t := false) (na := 2) (kd := 0) (as := [(.int x2), (.int (v32 + 1))]) at_322_108 (am_k3s kb_37) mn_37 mk_37 rfl rfl (am_ok_s mi_37 (am_hl rfl (am_ccI (am_ccI am_cats_0)) rfl)) (am_hc am_cats_0 rfl) (fun hz9 => by cases hz9) (fun o1 hz9 => rm_37 x2 ((v32 + 1)) h41 o1  hz9) ?_
                    rcases am_cI_s hs18 with ⟨v43, h44, f45, hs19⟩ | hs19
                    · clear hs18
                      refine Or.inl ⟨_, _, f45, ?_⟩
                      show am_W X _ 322 111 _ [(.int v43)] h44 _
                      refine aw_istore_n (lv1 := am_put1 _ 2 _) (pc1 := 112) at_322_111 rfl rfl ?_
                      exact rg_322_112 (fun z0 z1 z2 z3 h o hs19 => ih z0 z1 z2 z3 h o hs19) x0 x1 v43 x3 h44 o (am_lk1 (am_lk1 (am_lk1 (am_lk1 l0 rfl rfl) rfl rfl) rfl rfl) rfl rfl) (am_lk1 (am_lk1 (am_lk1 (am_lk1 l1 rfl rfl) rfl rfl) rfl rfl) rfl (by rw [am_isRc i1]; rfl)) am_lk0 (am_lk1 (am_lk1 (am_lk1 (am_lk1 l3 rfl rfl) rfl rfl) rfl rfl) rfl rfl) i0 i1 hs19
                    · clear hs18
                      exact Or.inr hs19
                  · clear hs13
                    exact Or.inr hs14
        · clear hs4
          exact Or.inr hs5
      · clear hs2
        exact Or.inr hs3
def fg_322_0 (N : Nat) (x0 : Value) (x1 : Value) (h : am_H) : Option am_O := ((am_vR (am_pG 2570 x0 h)).bind fun v1 => am_cV false (fm_53 N v1 0 h) (fun h4 => (fg_322_12 N N x0 x1 0 0 h4)))
theorem rg_322_0 {X : am_X} {d : Nat} {N : Nat} {lv : am_LV} (x0 : Value) (x1 : Value) (h : am_H) (o : am_O) (l0 : lv.lookup 0 = some x0) (l1 : lv.lookup 1 = some x1) (i0 : am_isR x0 = true) (i1 : am_isR x1 = true) (hs : fg_322_0 N x0 x1 h = some o) : am_W X (d + 1) 322 0 lv [] h (fun q => q = o) := by
  unfold fg_322_0 at hs
  refine aw_vload_n (pc1 := 1) at_322_0 l0 i0 rfl ?_
  obtain ⟨v1, e2, hs1⟩ := am_bind hs
  clear hs
  refine aw_pG (pc1 := 4) at_322_1 (am_vR_s e2).1 rfl ?_
  refine aw_iconst (v := 0) (pc1 := 5) at_322_4 (by decide) rfl ?_
  refine aw_call (F := fm_53 N v1 0 h) (t := false) (na := 2) (kd := 0) (as := [v1, (.int 0)]) at_322_5 (am_k3s kb_53) mn_53 mk_53 rfl rfl (am_ok_s mi_53 (am_hl rfl (am_ccR (am_vR_s e2).2 (am_ccI am_cats_0)) rfl)) (am_hc am_cats_0 rfl) (fun hz9 => by cases hz9) (fun o1 hz9 => rm_53 v1 0 h o1 (am_vR_s e2).2 hz9) ?_
  rcases am_cV_s hs1 with ⟨h4, f5, hs2⟩ | hs2
  · clear hs1
    refine Or.inl ⟨_, _, f5, ?_⟩
    show am_W X _ 322 8 _ [] h4 _
    refine aw_iconst (v := 0) (pc1 := 9) at_322_8 (by decide) rfl ?_
    refine aw_istore_n (lv1 := am_put1 _ 2 _) (pc1 := 10) at_322_9 rfl rfl ?_
    refine aw_iconst (v := 0) (pc1 := 11) at_322_10 (by decide) rfl ?_
    refine aw_istore_n (lv1 := am_put1 _ 3 _) (pc1 := 12) at_322_11 rfl rfl ?_
    exact rg_322_12 N x0 x1 0 0 h4 o hs2 _ (am_lk1 (am_lk1 l0 rfl rfl) rfl rfl) (am_lk1 (am_lk1 l1 rfl (by rw [am_isRc i1]; rfl)) rfl rfl) (am_lk1 am_lk0 rfl rfl) am_lk0 i0 i1
  · clear hs1
    exact Or.inr hs2
def fm_322 (N : Nat) (y0 : Value) (y1 : Value) (h : am_H) : Option am_O := fg_322_0 N y0 y1 h
theorem rm_322 {X : am_X} {d : Nat} {N : Nat} (y0 : Value) (y1 : Value) (h : am_H) (o : am_O) (i0 : am_isR y0 = true) (i1 : am_isR y1 = true) (hs : fm_322 N y0 y1 h = some o) : am_W X (d + 1) 322 0 (am_args 0 [y0, y1]) [] h (fun q => q = o) := by
  rw [am_args_R i0, am_args_R i1]
  exact rg_322_0 y0 y1 h o rfl rfl i0 i1 hs
def fg_321_0 (N : Nat) (x0 : Value) (x1 : Int32) (h : am_H) : Option am_O := ((am_vR (am_pG 2825 x0 h)).bind fun v1 => (if am_pOk 11 x0 h then am_cR true (fm_315 x0 x1 h) (fun v4 h5 => (if am_pOk 10 v1 h5 then am_cI true (fm_322 N v1 v4 h5) (fun v8 h9 => some (.inl (some (.int v8), h9))) else none)) else none))
theorem rg_321_0 {X : am_X} {d : Nat} {N : Nat} {lv : am_LV} (x0 : Value) (x1 : Int32) (h : am_H) (o : am_O) (l0 : lv.lookup 0 = some x0) (l1 : lv.lookup 1 = some (.int x1)) (i0 : am_isR x0 = true) (hs : fg_321_0 N x0 x1 h = some o) : am_W X (d + 2) 321 0 lv [] h (fun q => q = o) := by
  unfold fg_321_0 at hs
  refine aw_vload_n (pc1 := 1) at_321_0 l0 i0 rfl ?_
  obtain ⟨v1, e2, hs1⟩ := am_bind hs
  clear hs
  refine aw_pG (pc1 := 4) at_321_1 (am_vR_s e2).1 rfl ?_
  refine aw_vload_n (pc1 := 5) at_321_4 l0 i0 rfl ?_
  refine aw_iload_n (pc1 := 6) at_321_5 l1 rfl ?_
  obtain ⟨z3, hs2⟩ := am_ift hs1
  clear hs1
  refine aw_call (F := fm_315 x0 x1 h) (t := true) (na := 2) (kd := 1) (as := [x0, (.int x1)]) at_321_6 (am_k3v kb_315) mn_315 mk_315 rfl rfl (am_ok_v mi_315 (am_hl rfl (am_ccR i0 (am_ccI am_cats_0)) rfl) z3) (am_hc (am_ccR (am_vR_s e2).2 am_cats_0) rfl) (fun _ => ⟨rfl, hh_321⟩) (fun o1 hz9 => rm_315 x0 x1 h o1 i0 hz9) ?_
  rcases am_cR_s hs2 with ⟨v4, h5, f6, iv4, hs3⟩ | hs3
  · clear hs2
    refine Or.inl ⟨_, _, f6, ?_⟩
    show am_W X _ 321 9 _ [v4, v1] h5 _
    obtain ⟨z7, hs4⟩ := am_ift hs3
    clear hs3
    refine aw_call (F := fm_322 N v1 v4 h5) (t := true) (na := 2) (kd := 1) (as := [v1, v4]) at_321_9 (am_k3v kb_322) mn_322 mk_322 rfl rfl (am_ok_v mi_322 (am_hl rfl (am_ccR (am_vR_s e2).2 (am_ccR iv4 am_cats_0)) rfl) z7) (am_hc am_cats_0 rfl) (fun _ => ⟨rfl, hh_321⟩) (fun o1 hz9 => rm_322 v1 v4 h5 o1 (am_vR_s e2).2 iv4 hz9) ?_
    rcases am_cI_s hs4 with ⟨v8, h9, f10, hs5⟩ | hs5
    · clear hs4
      refine Or.inl ⟨_, _, f10, ?_⟩
      show am_W X _ 321 12 _ [(.int v8)] h9 _
      cases hs5
      exact aw_iret at_321_12 (by rw [rt_321]; rfl) rfl
    · clear hs4
      exact Or.inr hs5
  · clear hs2
    exact Or.inr hs3
def fm_321 (N : Nat) (y0 : Value) (y1 : Int32) (h : am_H) : Option am_O := fg_321_0 N y0 y1 h
theorem rm_321 {X : am_X} {d : Nat} {N : Nat} (y0 : Value) (y1 : Int32) (h : am_H) (o : am_O) (i0 : am_isR y0 = true) (hs : fm_321 N y0 y1 h = some o) : am_W X (d + 2) 321 0 (am_args 0 [y0, .int y1]) [] h (fun q => q = o) := by
  rw [am_args_R i0, am_args_I]
  exact rg_321_0 y0 y1 h o rfl rfl i0 hs
def fg_320_16 (N : Nat) (h : am_H) : Option am_O := some (.inl (some (.int 2), h))
theorem rg_320_16 {X : am_X} {d : Nat} {N : Nat} {lv : am_LV} (h : am_H) (o : am_O) (hs : fg_320_16 N h = some o) : am_W X (d + 3) 320 16 lv [] h (fun q => q = o) := by
  unfold fg_320_16 at hs
  refine aw_iconst (v := 2) (pc1 := 17) at_320_16 (by decide) rfl ?_
  cases hs
  exact aw_iret at_320_17 (by rw [rt_320]; rfl) rfl
def fg_320_13 (N : Nat) (h : am_H) : Option am_O := some (.inl (some (.int 1), h))
theorem rg_320_13 {X : am_X} {d : Nat} {N : Nat} {lv : am_LV} (h : am_H) (o : am_O) (hs : fg_320_13 N h = some o) : am_W X (d + 3) 320 13 lv [] h (fun q => q = o) := by
  unfold fg_320_13 at hs
  refine aw_iconst (v := 1) (pc1 := 14) at_320_13 (by decide) rfl ?_
  cases hs
  exact aw_iret at_320_14 (by rw [rt_320]; rfl) rfl
def fg_320_0 (N : Nat) (x0 : Value) (x1 : Int32) (x2 : Value) (h : am_H) : Option am_O := (if am_pOk 11 x0 h then (match fm_321 N x0 x1 h with | some (.inl (some (.int v2), h3)) => ((am_pSL x2 0 (Int32.toInt64 v2) h3).bind fun h5 => some (.inl (some (.int 0), h5))) | some (.inr (0, h7)) => (fg_320_16 N h7) | some (.inr (2, h9)) => (fg_320_13 N h9) | _ => none) else none)
theorem rg_320_0 {X : am_X} {d : Nat} {N : Nat} {lv : am_LV} (x0 : Value) (x1 : Int32) (x2 : Value) (h : am_H) (o : am_O) (l0 : lv.lookup 0 = some x0) (l1 : lv.lookup 1 = some (.int x1)) (l2 : lv.lookup 2 = some x2) (i0 : am_isR x0 = true) (i2 : am_isR x2 = true) (hs : fg_320_0 N x0 x1 x2 h = some o) : am_W X (d + 3) 320 0 lv [] h (fun q => q = o) := by
  unfold fg_320_0 at hs
  refine aw_vload_n (pc1 := 1) at_320_0 l2 i2 rfl ?_
  refine aw_iconst (v := 0) (pc1 := 2) at_320_1 (by decide) rfl ?_
  refine aw_vload_n (pc1 := 3) at_320_2 l0 i0 rfl ?_
  refine aw_iload_n (pc1 := 4) at_320_3 l1 rfl ?_
  obtain ⟨z1, hs1⟩ := am_ift hs
  clear hs
  refine aw_callH (F := fm_321 N x0 x1 h) (na := 2) (kd := 1) (as := [x0, (.int x1)]) at_320_4 (am_k3v kb_321) mn_321 mk_321 rfl rfl (am_ok_v mi_321 (am_hl rfl (am_ccR i0 (am_ccI am_cats_0)) rfl) z1) (am_hc (am_ccI (am_ccR i2 am_cats_0)) rfl) (fun o1 hz9 => rm_321 x0 x1 h o1 i0 hz9) ?_
  split at hs1
  · rename_i v2 h3 f4
    refine Or.inl ⟨_, _, f4, ?_⟩
    show am_W X _ 320 7 _ [(.int v2), (.int 0), x2] h3 _
    refine aw_i2l (v := (Int32.toInt64 v2)) (pc1 := 8) at_320_7 rfl rfl ?_
    obtain ⟨h5, e6, hs2⟩ := am_bind hs1
    clear hs1
    refine aw_pSL (pc1 := 9) at_320_8 e6 rfl ?_
    refine aw_goto at_320_9 ?_
    refine aw_iconst (v := 0) (pc1 := 19) at_320_18 (by decide) rfl ?_
    cases hs2
    exact aw_iret at_320_19 (by rw [rt_320]; rfl) rfl
  · rename_i h7 f8
    refine Or.inr ⟨_, _, 16, 3, f8, rfl, hn_320, hd_320_4_0, ?_⟩
    exact rg_320_16 h7 o   hs1
  · rename_i h9 f10
    refine Or.inr ⟨_, _, 13, 3, f10, rfl, hn_320, hd_320_4_2, ?_⟩
    exact rg_320_13 h9 o   hs1
  · cases hs1
def fm_320 (N : Nat) (y0 : Value) (y1 : Int32) (y2 : Value) (h : am_H) : Option am_O := fg_320_0 N y0 y1 y2 h
theorem rm_320 {X : am_X} {d : Nat} {N : Nat} (y0 : Value) (y1 : Int32) (y2 : Value) (h : am_H) (o : am_O) (i0 : am_isR y0 = true) (i2 : am_isR y2 = true) (hs : fm_320 N y0 y1 y2 h = some o) : am_W X (d + 3) 320 0 (am_args 0 [y0, .int y1, y2]) [] h (fun q => q = o) := by
  rw [am_args_R i0, am_args_I, am_args_R i2]
  exact rg_320_0 y0 y1 y2 h o rfl rfl rfl i0 i2 hs
def fg_588_154 (N : Nat) (rec_48 : Value → Int32 → Int32 → am_H → Option am_O) (x0 : Value) (x3 : Int32) (s0 : Int32) (h : am_H) : Option am_O := (rec_48 x0 s0 ((x3 + 1)) h)
theorem rg_588_154 {X : am_X} {d : Nat} {N : Nat} {rec_48 : Value → Int32 → Int32 → am_H → Option am_O} (q_48 : ∀ (x0 : Value) (x2 : Int32) (x3 : Int32) (h : am_H) (o : am_O), rec_48 x0 x2 x3 h = some o → ∀ lv : am_LV, (lv.lookup 0 = some x0) → (lv.lookup 2 = some (.int x2)) → (lv.lookup 3 = some (.int x3)) → (am_isR x0 = true) → am_W X (d + 3) 588 48 lv [] h (fun q => q = o)) {lv : am_LV} (x0 : Value) (x3 : Int32) (s0 : Int32) (h : am_H) (o : am_O) (l0 : lv.lookup 0 = some x0) (l3 : lv.lookup 3 = some (.int x3)) (i0 : am_isR x0 = true) (hs : fg_588_154 N rec_48 x0 x3 s0 h = some o) : am_W X (d + 3) 588 154 lv [(.int s0)] h (fun q => q = o) := by
  unfold fg_588_154 at hs
  refine aw_istore_n (lv1 := am_put1 _ 2 _) (pc1 := 155) at_588_154 rfl rfl ?_
  refine aw_iinc (v := (x3 + 1)) (c := 1) (lv1 := am_put1 _ 3 _) (pc1 := 158) at_588_155 (am_lk1 l3 rfl rfl) (by decide) rfl rfl rfl ?_
  refine aw_goto at_588_158 ?_
  exact q_48 x0 s0 ((x3 + 1)) h o hs _ (am_lk1 (am_lk1 l0 rfl rfl) rfl rfl) (am_lk1 am_lk0 rfl rfl) am_lk0 i0
def fg_588_106 (N : Nat) (rec_48 : Value → Int32 → Int32 → am_H → Option am_O) (x0 : Value) (x2 : Int32) (x3 : Int32) (s0 : Int32) (h : am_H) : Option am_O := ((am_vR (am_pG 3209 x0 h)).bind fun v1 => ((am_vR (am_pG 3088 x0 h)).bind fun v3 => ((am_pA 0 v3 x3 h).bind fun v5 => ((am_pS 0 v1 v5 (s0 + 1) h).bind fun h7 => ((am_vR (am_pG 3209 x0 h7)).bind fun v9 => ((am_vR (am_pG 3089 x0 h7)).bind fun v11 => ((am_pA 0 v11 x3 h7).bind fun v13 => ((am_pS 0 v9 v13 (s0 + 1) h7).bind fun h15 => (if (s0 + 1) ≤ x2 then (fg_588_154 N rec_48 x0 x3 x2 h15) else (fg_588_154 N rec_48 x0 x3 ((s0 + 1)) h15))))))))))
theorem rg_588_106 {X : am_X} {d : Nat} {N : Nat} {rec_48 : Value → Int32 → Int32 → am_H → Option am_O} (q_48 : ∀ (x0 : Value) (x2 : Int32) (x3 : Int32) (h : am_H) (o : am_O), rec_48 x0 x2 x3 h = some o → ∀ lv : am_LV, (lv.lookup 0 = some x0) → (lv.lookup 2 = some (.int x2)) → (lv.lookup 3 = some (.int x3)) → (am_isR x0 = true) → am_W X (d + 3) 588 48 lv [] h (fun q => q = o)) {lv : am_LV} (x0 : Value) (x2 : Int32) (x3 : Int32) (s0 : Int32) (h : am_H) (o : am_O) (l0 : lv.lookup 0 = some x0) (l2 : lv.lookup 2 = some (.int x2)) (l3 : lv.lookup 3 = some (.int x3)) (i0 : am_isR x0 = true) (hs : fg_588_106 N rec_48 x0 x2 x3 s0 h = some o) : am_W X (d + 3) 588 106 lv [(.int s0)] h (fun q => q = o) := by
  unfold fg_588_106 at hs
  refine aw_istore (lv1 := am_put1 _ 4 _) (pc1 := 108) at_588_106 rfl rfl ?_
  refine aw_vload_n (pc1 := 109) at_588_108 (am_lk1 l0 rfl rfl) i0 rfl ?_
  obtain ⟨v1, e2, hs1⟩ := am_bind hs
  clear hs
  refine aw_pG (pc1 := 112) at_588_109 (am_vR_s e2).1 rfl ?_
  refine aw_vload_n (pc1 := 113) at_588_112 (am_lk1 l0 rfl rfl) i0 rfl ?_
  obtain ⟨v3, e4, hs2⟩ := am_bind hs1
  clear hs1
  refine aw_pG (pc1 := 116) at_588_113 (am_vR_s e4).1 rfl ?_
  refine aw_iload_n (pc1 := 117) at_588_116 (am_lk1 l3 rfl rfl) rfl ?_
  obtain ⟨v5, e6, hs3⟩ := am_bind hs2
  clear hs2
  refine aw_pA (pc1 := 118) at_588_117 (Or.inl ⟨rfl, rfl⟩) e6 rfl ?_
  refine aw_iload (pc1 := 120) at_588_118 am_lk0 rfl ?_
  refine aw_iconst (v := 1) (pc1 := 121) at_588_120 (by decide) rfl ?_
  refine aw_iadd (v := (s0 + 1)) (pc1 := 122) at_588_121 rfl rfl ?_
  obtain ⟨h7, e8, hs4⟩ := am_bind hs3
  clear hs3
  refine aw_pS (pc1 := 123) at_588_122 (Or.inl ⟨rfl, rfl⟩) e8 rfl ?_
  refine aw_vload_n (pc1 := 124) at_588_123 (am_lk1 l0 rfl rfl) i0 rfl ?_
  obtain ⟨v9, e10, hs5⟩ := am_bind hs4
  clear hs4
  refine aw_pG (pc1 := 127) at_588_124 (am_vR_s e10).1 rfl ?_
  refine aw_vload_n (pc1 := 128) at_588_127 (am_lk1 l0 rfl rfl) i0 rfl ?_
  obtain ⟨v11, e12, hs6⟩ := am_bind hs5
  clear hs5
  refine aw_pG (pc1 := 131) at_588_128 (am_vR_s e12).1 rfl ?_
  refine aw_iload_n (pc1 := 132) at_588_131 (am_lk1 l3 rfl rfl) rfl ?_
  obtain ⟨v13, e14, hs7⟩ := am_bind hs6
  clear hs6
  refine aw_pA (pc1 := 133) at_588_132 (Or.inl ⟨rfl, rfl⟩) e14 rfl ?_
  refine aw_iload (pc1 := 135) at_588_133 am_lk0 rfl ?_
  refine aw_iconst (v := 1) (pc1 := 136) at_588_135 (by decide) rfl ?_
  refine aw_iadd (v := (s0 + 1)) (pc1 := 137) at_588_136 rfl rfl ?_
  obtain ⟨h15, e16, hs8⟩ := am_bind hs7
  clear hs7
  refine aw_pS (pc1 := 138) at_588_137 (Or.inl ⟨rfl, rfl⟩) e16 rfl ?_
  refine aw_iload (pc1 := 140) at_588_138 am_lk0 rfl ?_
  refine aw_iconst (v := 1) (pc1 := 141) at_588_140 (by decide) rfl ?_
  refine aw_iadd (v := (s0 + 1)) (pc1 := 142) at_588_141 rfl rfl ?_
  refine aw_iload_n (pc1 := 143) at_588_142 (am_lk1 l2 rfl rfl) rfl ?_
  by_cases c17 : (s0 + 1) ≤ x2
  · rw [if_pos c17] at hs8
    refine aw_icle_t at_588_143 c17 ?_
    refine aw_iload_n (pc1 := 154) at_588_153 (am_lk1 l2 rfl rfl) rfl ?_
    exact rg_588_154 q_48 x0 x3 x2 h15 o (am_lk1 l0 rfl rfl) (am_lk1 l3 rfl rfl) i0 hs8
  · rw [if_neg c17] at hs8
    refine aw_icle_f (pc1 := 146) at_588_143 c17 rfl ?_
    refine aw_iload (pc1 := 148) at_588_146 am_lk0 rfl ?_
    refine aw_iconst (v := 1) (pc1 := 149) at_588_148 (by decide) rfl ?_
    refine aw_iadd (v := (s0 + 1)) (pc1 := 150) at_588_149 rfl rfl ?_
    refine aw_goto at_588_150 ?_
    exact rg_588_154 q_48 x0 x3 ((s0 + 1)) h15 o (am_lk1 l0 rfl rfl) (am_lk1 l3 rfl rfl) i0 hs8
def fg_588_48 (N : Nat) : Nat → Value → Int32 → Int32 → am_H → Option am_O
  | 0 => fun _ _ _ _ => none
  | K + 1 => fun x0 x2 x3 h => ((am_vI (am_pG 3086 x0 h)).bind fun v1 => (if v1 ≤ x3 then some (.inl (some (.int x2), h)) else ((am_vR (am_pG 3209 x0 h)).bind fun v4 => ((am_vR (am_pG 3088 x0 h)).bind fun v6 => ((am_pA 0 v6 x3 h).bind fun v8 => ((am_pA 0 v4 v8 h).bind fun v10 => ((am_vR (am_pG 3209 x0 h)).bind fun v12 => ((am_vR (am_pG 3089 x0 h)).bind fun v14 => ((am_pA 0 v14 x3 h).bind fun v16 => ((am_pA 0 v12 v16 h).bind fun v18 => (if v10 ≤ v18 then ((am_vR (am_pG 3209 x0 h)).bind fun v21 => ((am_vR (am_pG 3089 x0 h)).bind fun v23 => ((am_pA 0 v23 x3 h).bind fun v25 => ((am_pA 0 v21 v25 h).bind fun v27 => (fg_588_106 N (fg_588_48 N K) x0 x2 x3 v27 h))))) else ((am_vR (am_pG 3209 x0 h)).bind fun v29 => ((am_vR (am_pG 3088 x0 h)).bind fun v31 => ((am_pA 0 v31 x3 h).bind fun v33 => ((am_pA 0 v29 v33 h).bind fun v35 => (fg_588_106 N (fg_588_48 N K) x0 x2 x3 v35 h))))))))))))))))
theorem rg_588_48 {X : am_X} {d : Nat} {N : Nat} : ∀ (K : Nat) (x0 : Value) (x2 : Int32) (x3 : Int32) (h : am_H) (o : am_O), fg_588_48 N K x0 x2 x3 h = some o → ∀ lv : am_LV, (lv.lookup 0 = some x0) → (lv.lookup 2 = some (.int x2)) → (lv.lookup 3 = some (.int x3)) → (am_isR x0 = true) → am_W X (d + 3) 588 48 lv [] h (fun q => q = o) := by
  intro K
  induction K with
  | zero => intro x0 x2 x3 h o hs; cases hs
  | succ K ih =>
    intro x0 x2 x3 h o hs lv l0 l2 l3 i0
    unfold fg_588_48 at hs
    refine aw_iload_n (pc1 := 49) at_588_48 l3 rfl ?_
    refine aw_vload_n (pc1 := 50) at_588_49 l0 i0 rfl ?_
    obtain ⟨v1, e2, hs1⟩ := am_bind hs
    clear hs
    refine aw_pG (pc1 := 53) at_588_50 (am_vI_s e2) rfl ?_
    by_cases c3 : v1 ≤ x3
    · rw [if_pos c3] at hs1
      refine aw_icge_t at_588_53 c3 ?_
      refine aw_iload_n (pc1 := 162) at_588_161 l2 rfl ?_
      cases hs1
      exact aw_iret at_588_162 (by rw [rt_588]; rfl) rfl
    · rw [if_neg c3] at hs1
      refine aw_icge_f (pc1 := 56) at_588_53 c3 rfl ?_
      refine aw_vload_n (pc1 := 57) at_588_56 l0 i0 rfl ?_
      obtain ⟨v4, e5, hs2⟩ := am_bind hs1
      clear hs1
      refine aw_pG (pc1 := 60) at_588_57 (am_vR_s e5).1 rfl ?_
      refine aw_vload_n (pc1 := 61) at_588_60 l0 i0 rfl ?_
      obtain ⟨v6, e7, hs3⟩ := am_bind hs2
      clear hs2
      refine aw_pG (pc1 := 64) at_588_61 (am_vR_s e7).1 rfl ?_
      refine aw_iload_n (pc1 := 65) at_588_64 l3 rfl ?_
      obtain ⟨v8, e9, hs4⟩ := am_bind hs3
      clear hs3
      refine aw_pA (pc1 := 66) at_588_65 (Or.inl ⟨rfl, rfl⟩) e9 rfl ?_
      obtain ⟨v10, e11, hs5⟩ := am_bind hs4
      clear hs4
      refine aw_pA (pc1 := 67) at_588_66 (Or.inl ⟨rfl, rfl⟩) e11 rfl ?_
      refine aw_vload_n (pc1 := 68) at_588_67 l0 i0 rfl ?_
      obtain ⟨v12, e13, hs6⟩ := am_bind hs5
      clear hs5
      refine aw_pG (pc1 := 71) at_588_68 (am_vR_s e13).1 rfl ?_
      refine aw_vload_n (pc1 := 72) at_588_71 l0 i0 rfl ?_
      obtain ⟨v14, e15, hs7⟩ := am_bind hs6
      clear hs6
      refine aw_pG (pc1 := 75) at_588_72 (am_vR_s e15).1 rfl ?_
      refine aw_iload_n (pc1 := 76) at_588_75 l3 rfl ?_
      obtain ⟨v16, e17, hs8⟩ := am_bind hs7
      clear hs7
      refine aw_pA (pc1 := 77) at_588_76 (Or.inl ⟨rfl, rfl⟩) e17 rfl ?_
      obtain ⟨v18, e19, hs9⟩ := am_bind hs8
      clear hs8
      refine aw_pA (pc1 := 78) at_588_77 (Or.inl ⟨rfl, rfl⟩) e19 rfl ?_
      by_cases c20 : v10 ≤ v18
      · rw [if_pos c20] at hs9
        refine aw_icle_t at_588_78 c20 ?_
        refine aw_vload_n (pc1 := 96) at_588_95 l0 i0 rfl ?_
        obtain ⟨v21, e22, hs10⟩ := am_bind hs9
        clear hs9
        refine aw_pG (pc1 := 99) at_588_96 (am_vR_s e22).1 rfl ?_
        refine aw_vload_n (pc1 := 100) at_588_99 l0 i0 rfl ?_
        obtain ⟨v23, e24, hs11⟩ := am_bind hs10
        clear hs10
        refine aw_pG (pc1 := 103) at_588_100 (am_vR_s e24).1 rfl ?_
        refine aw_iload_n (pc1 := 104) at_588_103 l3 rfl ?_
        obtain ⟨v25, e26, hs12⟩ := am_bind hs11
        clear hs11
        refine aw_pA (pc1 := 105) at_588_104 (Or.inl ⟨rfl, rfl⟩) e26 rfl ?_
        obtain ⟨v27, e28, hs13⟩ := am_bind hs12
        clear hs12
        refine aw_pA (pc1 := 106) at_588_105 (Or.inl ⟨rfl, rfl⟩) e28 rfl ?_
        exact rg_588_106 (fun z0 z1 z2 h o hs13 => ih z0 z1 z2 h o hs13) x0 x2 x3 v27 h o l0 l2 l3 i0 hs13
      · rw [if_neg c20] at hs9
        refine aw_icle_f (pc1 := 81) at_588_78 c20 rfl ?_
        refine aw_vload_n (pc1 := 82) at_588_81 l0 i0 rfl ?_
        obtain ⟨v29, e30, hs14⟩ := am_bind hs9
        clear hs9
        refine aw_pG (pc1 := 85) at_588_82 (am_vR_s e30).1 rfl ?_
        refine aw_vload_n (pc1 := 86) at_588_85 l0 i0 rfl ?_
        obtain ⟨v31, e32, hs15⟩ := am_bind hs14
        clear hs14
        refine aw_pG (pc1 := 89) at_588_86 (am_vR_s e32).1 rfl ?_
        refine aw_iload_n (pc1 := 90) at_588_89 l3 rfl ?_
        obtain ⟨v33, e34, hs16⟩ := am_bind hs15
        clear hs15
        refine aw_pA (pc1 := 91) at_588_90 (Or.inl ⟨rfl, rfl⟩) e34 rfl ?_
        obtain ⟨v35, e36, hs17⟩ := am_bind hs16
        clear hs16
        refine aw_pA (pc1 := 92) at_588_91 (Or.inl ⟨rfl, rfl⟩) e36 rfl ?_
        refine aw_goto at_588_92 ?_
        exact rg_588_106 (fun z0 z1 z2 h o hs17 => ih z0 z1 z2 h o hs17) x0 x2 x3 v35 h o l0 l2 l3 i0 hs17
def fg_588_25 (N : Nat) : Nat → Value → Int32 → am_H → Option am_O
  | 0 => fun _ _ _ => none
  | K + 1 => fun x0 x2 h => (if 8 ≤ x2 then (fg_588_48 N N x0 0 0 h) else ((am_vR (am_pG 3209 x0 h)).bind fun v2 => ((am_pS 0 v2 x2 0 h).bind fun h4 => (fg_588_25 N K x0 ((x2 + 1)) h4))))
theorem rg_588_25 {X : am_X} {d : Nat} {N : Nat} : ∀ (K : Nat) (x0 : Value) (x2 : Int32) (h : am_H) (o : am_O), fg_588_25 N K x0 x2 h = some o → ∀ lv : am_LV, (lv.lookup 0 = some x0) → (lv.lookup 2 = some (.int x2)) → (am_isR x0 = true) → am_W X (d + 3) 588 25 lv [] h (fun q => q = o) := by
  intro K
  induction K with
  | zero => intro x0 x2 h o hs; cases hs
  | succ K ih =>
    intro x0 x2 h o hs lv l0 l2 i0
    unfold fg_588_25 at hs
    refine aw_iload_n (pc1 := 26) at_588_25 l2 rfl ?_
    refine aw_bipush (v := 8) (pc1 := 28) at_588_26 (by decide) rfl ?_
    by_cases c1 : 8 ≤ x2
    · rw [if_pos c1] at hs
      refine aw_icge_t at_588_28 c1 ?_
      refine aw_iconst (v := 0) (pc1 := 45) at_588_44 (by decide) rfl ?_
      refine aw_istore_n (lv1 := am_put1 _ 2 _) (pc1 := 46) at_588_45 rfl rfl ?_
      refine aw_iconst (v := 0) (pc1 := 47) at_588_46 (by decide) rfl ?_
      refine aw_istore_n (lv1 := am_put1 _ 3 _) (pc1 := 48) at_588_47 rfl rfl ?_
      exact rg_588_48 N x0 0 0 h o hs _ (am_lk1 (am_lk1 l0 rfl rfl) rfl rfl) (am_lk1 am_lk0 rfl rfl) am_lk0 i0
    · rw [if_neg c1] at hs
      refine aw_icge_f (pc1 := 31) at_588_28 c1 rfl ?_
      refine aw_vload_n (pc1 := 32) at_588_31 l0 i0 rfl ?_
      obtain ⟨v2, e3, hs1⟩ := am_bind hs
      clear hs
      refine aw_pG (pc1 := 35) at_588_32 (am_vR_s e3).1 rfl ?_
      refine aw_iload_n (pc1 := 36) at_588_35 l2 rfl ?_
      refine aw_iconst (v := 0) (pc1 := 37) at_588_36 (by decide) rfl ?_
      obtain ⟨h4, e5, hs2⟩ := am_bind hs1
      clear hs1
      refine aw_pS (pc1 := 38) at_588_37 (Or.inl ⟨rfl, rfl⟩) e5 rfl ?_
      refine aw_iinc (v := (x2 + 1)) (c := 1) (lv1 := am_put1 _ 2 _) (pc1 := 41) at_588_38 l2 (by decide) rfl rfl rfl ?_
      refine aw_goto at_588_41 ?_
      exact ih x0 ((x2 + 1)) h4 o hs2 _ (am_lk1 l0 rfl rfl) am_lk0 i0
def fg_588_0 (N : Nat) (x0 : Value) (x1 : Int32) (h : am_H) : Option am_O := (if am_pOk 12 x0 h then am_cI true (fm_586 x0 x1 h) (fun v2 h3 => ((am_pP 3072 x0 (.int v2) h3).bind fun h5 => ((am_vI (am_pG 3072 x0 h5)).bind fun v7 => (if v7 ≤ 0 then (if am_pOk 12 x0 h5 then am_cV true (fm_359 N x0 x1 h5) (fun h12 => (fg_588_25 N N x0 0 h12)) else none) else some (.inl (some (.int 0), h5)))))) else none)
theorem rg_588_0 {X : am_X} {d : Nat} {N : Nat} {lv : am_LV} (x0 : Value) (x1 : Int32) (h : am_H) (o : am_O) (l0 : lv.lookup 0 = some x0) (l1 : lv.lookup 1 = some (.int x1)) (i0 : am_isR x0 = true) (hs : fg_588_0 N x0 x1 h = some o) : am_W X (d + 3) 588 0 lv [] h (fun q => q = o) := by
  unfold fg_588_0 at hs
  refine aw_vload_n (pc1 := 1) at_588_0 l0 i0 rfl ?_
  refine aw_vload_n (pc1 := 2) at_588_1 l0 i0 rfl ?_
  refine aw_iload_n (pc1 := 3) at_588_2 l1 rfl ?_
  obtain ⟨z1, hs1⟩ := am_ift hs
  clear hs
  refine aw_call (F := fm_586 x0 x1 h) (t := true) (na := 2) (kd := 1) (as := [x0, (.int x1)]) at_588_3 (am_k3v kb_586) mn_586 mk_586 rfl rfl (am_ok_v mi_586 (am_hl rfl (am_ccR i0 (am_ccI am_cats_0)) rfl) z1) (am_hc (am_ccR i0 am_cats_0) rfl) (fun _ => ⟨rfl, hh_588⟩) (fun o1 hz9 => rm_586 x0 x1 h o1 i0 hz9) ?_
  rcases am_cI_s hs1 with ⟨v2, h3, f4, hs2⟩ | hs2
  · clear hs1
    refine Or.inl ⟨_, _, f4, ?_⟩
    show am_W X _ 588 6 _ [(.int v2), x0] h3 _
    obtain ⟨h5, e6, hs3⟩ := am_bind hs2
    clear hs2
    refine aw_pP (pc1 := 9) at_588_6 e6 rfl ?_
    refine aw_vload_n (pc1 := 10) at_588_9 l0 i0 rfl ?_
    obtain ⟨v7, e8, hs4⟩ := am_bind hs3
    clear hs3
    refine aw_pG (pc1 := 13) at_588_10 (am_vI_s e8) rfl ?_
    by_cases c9 : v7 ≤ 0
    · rw [if_pos c9] at hs4
      refine aw_ifle_t at_588_13 c9 ?_
      refine aw_vload_n (pc1 := 19) at_588_18 l0 i0 rfl ?_
      refine aw_iload_n (pc1 := 20) at_588_19 l1 rfl ?_
      obtain ⟨z10, hs5⟩ := am_ift hs4
      clear hs4
      refine aw_call (F := fm_359 N x0 x1 h5) (t := true) (na := 2) (kd := 1) (as := [x0, (.int x1)]) at_588_20 (am_k3v kb_359) mn_359 mk_359 rfl rfl (am_ok_v mi_359 (am_hl rfl (am_ccR i0 (am_ccI am_cats_0)) rfl) z10) (am_hc am_cats_0 rfl) (fun _ => ⟨rfl, hh_588⟩) (fun o1 hz9 => rm_359 x0 x1 h5 o1 i0 hz9) ?_
      rcases am_cV_s hs5 with ⟨h12, f13, hs6⟩ | hs6
      · clear hs5
        refine Or.inl ⟨_, _, f13, ?_⟩
        show am_W X _ 588 23 _ [] h12 _
        refine aw_iconst (v := 0) (pc1 := 24) at_588_23 (by decide) rfl ?_
        refine aw_istore_n (lv1 := am_put1 _ 2 _) (pc1 := 25) at_588_24 rfl rfl ?_
        exact rg_588_25 N x0 0 h12 o hs6 _ (am_lk1 l0 rfl rfl) am_lk0 i0
      · clear hs5
        exact Or.inr hs6
    · rw [if_neg c9] at hs4
      refine aw_ifle_f (pc1 := 16) at_588_13 c9 rfl ?_
      refine aw_iconst (v := 0) (pc1 := 17) at_588_16 (by decide) rfl ?_
      cases hs4
      exact aw_iret at_588_17 (by rw [rt_588]; rfl) rfl
  · clear hs1
    exact Or.inr hs2
def fm_588 (N : Nat) (y0 : Value) (y1 : Int32) (h : am_H) : Option am_O := fg_588_0 N y0 y1 h
theorem rm_588 {X : am_X} {d : Nat} {N : Nat} (y0 : Value) (y1 : Int32) (h : am_H) (o : am_O) (i0 : am_isR y0 = true) (hs : fm_588 N y0 y1 h = some o) : am_W X (d + 3) 588 0 (am_args 0 [y0, .int y1]) [] h (fun q => q = o) := by
  rw [am_args_R i0, am_args_I]
  exact rg_588_0 y0 y1 h o rfl rfl i0 hs
def fg_0_4192 (X : am_X) (N : Nat) (rec_23 : Value → Value → Value → Int32 → am_H → Option am_O) (x1 : Value) (x2 : Value) (x3 : Value) (x4 : Int32) (h : am_H) : Option am_O := (rec_23 x1 x2 x3 ((x4 + 7)) h)
theorem rg_0_4192 {X : am_X} {d : Nat} {N : Nat} {rec_23 : Value → Value → Value → Int32 → am_H → Option am_O} (q_23 : ∀ (x1 : Value) (x2 : Value) (x3 : Value) (x4 : Int32) (h : am_H) (o : am_O), rec_23 x1 x2 x3 x4 h = some o → ∀ lv : am_LV, (lv.lookup 0 = some (Value.float 0)) → (lv.lookup 1 = some x1) → (lv.lookup 2 = some x2) → (lv.lookup 3 = some x3) → (lv.lookup 4 = some (.int x4)) → (am_isR x1 = true) → (am_isR x2 = true) → (am_isR x3 = true) → am_W X (d + 164) 0 23 lv [] h (fun q => q = o)) {lv : am_LV} (x1 : Value) (x2 : Value) (x3 : Value) (x4 : Int32) (h : am_H) (o : am_O) (l0 : lv.lookup 0 = some (Value.float 0)) (l1 : lv.lookup 1 = some x1) (l2 : lv.lookup 2 = some x2) (l3 : lv.lookup 3 = some x3) (l4 : lv.lookup 4 = some (.int x4)) (i1 : am_isR x1 = true) (i2 : am_isR x2 = true) (i3 : am_isR x3 = true) (hs : fg_0_4192 X N rec_23 x1 x2 x3 x4 h = some o) : am_W X (d + 164) 0 4192 lv [] h (fun q => q = o) := by
  unfold fg_0_4192 at hs
  refine aw_iinc (v := (x4 + 7)) (c := 7) (lv1 := am_put1 _ 4 _) (pc1 := 4195) at_0_4192 l4 (by decide) rfl rfl rfl ?_
  refine aw_goto at_0_4195 ?_
  exact q_23 x1 x2 x3 ((x4 + 7)) h o hs _ (am_lk1 l0 rfl rfl) (am_lk1 l1 rfl rfl) (am_lk1 l2 rfl rfl) (am_lk1 l3 rfl (by rw [am_isRc i3]; rfl)) am_lk0 i1 i2 i3
def fg_0_4189 (X : am_X) (N : Nat) (rec_23 : Value → Value → Value → Int32 → am_H → Option am_O) (x1 : Value) (x2 : Value) (x3 : Value) (x4 : Int32) (h : am_H) : Option am_O := (fg_0_4192 X N rec_23 x1 x2 x3 x4 h)
theorem rg_0_4189 {X : am_X} {d : Nat} {N : Nat} {rec_23 : Value → Value → Value → Int32 → am_H → Option am_O} (q_23 : ∀ (x1 : Value) (x2 : Value) (x3 : Value) (x4 : Int32) (h : am_H) (o : am_O), rec_23 x1 x2 x3 x4 h = some o → ∀ lv : am_LV, (lv.lookup 0 = some (Value.float 0)) → (lv.lookup 1 = some x1) → (lv.lookup 2 = some x2) → (lv.lookup 3 = some x3) → (lv.lookup 4 = some (.int x4)) → (am_isR x1 = true) → (am_isR x2 = true) → (am_isR x3 = true) → am_W X (d + 164) 0 23 lv [] h (fun q => q = o)) {lv : am_LV} (x1 : Value) (x2 : Value) (x3 : Value) (x4 : Int32) (h : am_H) (o : am_O) (l0 : lv.lookup 0 = some (Value.float 0)) (l1 : lv.lookup 1 = some x1) (l2 : lv.lookup 2 = some x2) (l3 : lv.lookup 3 = some x3) (l4 : lv.lookup 4 = some (.int x4)) (i1 : am_isR x1 = true) (i2 : am_isR x2 = true) (i3 : am_isR x3 = true) (hs : fg_0_4189 X N rec_23 x1 x2 x3 x4 h = some o) : am_W X (d + 164) 0 4189 lv [] h (fun q => q = o) := by
  unfold fg_0_4189 at hs
  refine aw_goto at_0_4189 ?_
  exact rg_0_4192 q_23 x1 x2 x3 x4 h o l0 l1 l2 l3 l4 i1 i2 i3 hs
def fg_0_4133 (X : am_X) (N : Nat) (rec_23 : Value → Value → Value → Int32 → am_H → Option am_O) (x1 : Value) (x2 : Value) (x3 : Value) (x4 : Int32) (h : am_H) : Option am_O := (fg_0_4192 X N rec_23 x1 x2 x3 x4 h)
theorem rg_0_4133 {X : am_X} {d : Nat} {N : Nat} {rec_23 : Value → Value → Value → Int32 → am_H → Option am_O} (q_23 : ∀ (x1 : Value) (x2 : Value) (x3 : Value) (x4 : Int32) (h : am_H) (o : am_O), rec_23 x1 x2 x3 x4 h = some o → ∀ lv : am_LV, (lv.lookup 0 = some (Value.float 0)) → (lv.lookup 1 = some x1) → (lv.lookup 2 = some x2) → (lv.lookup 3 = some x3) → (lv.lookup 4 = some (.int x4)) → (am_isR x1 = true) → (am_isR x2 = true) → (am_isR x3 = true) → am_W X (d + 164) 0 23 lv [] h (fun q => q = o)) {lv : am_LV} (x1 : Value) (x2 : Value) (x3 : Value) (x4 : Int32) (h : am_H) (o : am_O) (l0 : lv.lookup 0 = some (Value.float 0)) (l1 : lv.lookup 1 = some x1) (l2 : lv.lookup 2 = some x2) (l3 : lv.lookup 3 = some x3) (l4 : lv.lookup 4 = some (.int x4)) (i1 : am_isR x1 = true) (i2 : am_isR x2 = true) (i3 : am_isR x3 = true) (hs : fg_0_4133 X N rec_23 x1 x2 x3 x4 h = some o) : am_W X (d + 164) 0 4133 lv [] h (fun q => q = o) := by
  unfold fg_0_4133 at hs
  refine aw_goto at_0_4133 ?_
  exact rg_0_4192 q_23 x1 x2 x3 x4 h o l0 l1 l2 l3 l4 i1 i2 i3 hs
def fg_0_4077 (X : am_X) (N : Nat) (rec_23 : Value → Value → Value → Int32 → am_H → Option am_O) (x1 : Value) (x2 : Value) (x3 : Value) (x4 : Int32) (h : am_H) : Option am_O := (fg_0_4192 X N rec_23 x1 x2 x3 x4 h)
theorem rg_0_4077 {X : am_X} {d : Nat} {N : Nat} {rec_23 : Value → Value → Value → Int32 → am_H → Option am_O} (q_23 : ∀ (x1 : Value) (x2 : Value) (x3 : Value) (x4 : Int32) (h : am_H) (o : am_O), rec_23 x1 x2 x3 x4 h = some o → ∀ lv : am_LV, (lv.lookup 0 = some (Value.float 0)) → (lv.lookup 1 = some x1) → (lv.lookup 2 = some x2) → (lv.lookup 3 = some x3) → (lv.lookup 4 = some (.int x4)) → (am_isR x1 = true) → (am_isR x2 = true) → (am_isR x3 = true) → am_W X (d + 164) 0 23 lv [] h (fun q => q = o)) {lv : am_LV} (x1 : Value) (x2 : Value) (x3 : Value) (x4 : Int32) (h : am_H) (o : am_O) (l0 : lv.lookup 0 = some (Value.float 0)) (l1 : lv.lookup 1 = some x1) (l2 : lv.lookup 2 = some x2) (l3 : lv.lookup 3 = some x3) (l4 : lv.lookup 4 = some (.int x4)) (i1 : am_isR x1 = true) (i2 : am_isR x2 = true) (i3 : am_isR x3 = true) (hs : fg_0_4077 X N rec_23 x1 x2 x3 x4 h = some o) : am_W X (d + 164) 0 4077 lv [] h (fun q => q = o) := by
  unfold fg_0_4077 at hs
  refine aw_goto at_0_4077 ?_
  exact rg_0_4192 q_23 x1 x2 x3 x4 h o l0 l1 l2 l3 l4 i1 i2 i3 hs
def fg_0_4021 (X : am_X) (N : Nat) (rec_23 : Value → Value → Value → Int32 → am_H → Option am_O) (x1 : Value) (x2 : Value) (x3 : Value) (x4 : Int32) (h : am_H) : Option am_O := (fg_0_4192 X N rec_23 x1 x2 x3 x4 h)
theorem rg_0_4021 {X : am_X} {d : Nat} {N : Nat} {rec_23 : Value → Value → Value → Int32 → am_H → Option am_O} (q_23 : ∀ (x1 : Value) (x2 : Value) (x3 : Value) (x4 : Int32) (h : am_H) (o : am_O), rec_23 x1 x2 x3 x4 h = some o → ∀ lv : am_LV, (lv.lookup 0 = some (Value.float 0)) → (lv.lookup 1 = some x1) → (lv.lookup 2 = some x2) → (lv.lookup 3 = some x3) → (lv.lookup 4 = some (.int x4)) → (am_isR x1 = true) → (am_isR x2 = true) → (am_isR x3 = true) → am_W X (d + 164) 0 23 lv [] h (fun q => q = o)) {lv : am_LV} (x1 : Value) (x2 : Value) (x3 : Value) (x4 : Int32) (h : am_H) (o : am_O) (l0 : lv.lookup 0 = some (Value.float 0)) (l1 : lv.lookup 1 = some x1) (l2 : lv.lookup 2 = some x2) (l3 : lv.lookup 3 = some x3) (l4 : lv.lookup 4 = some (.int x4)) (i1 : am_isR x1 = true) (i2 : am_isR x2 = true) (i3 : am_isR x3 = true) (hs : fg_0_4021 X N rec_23 x1 x2 x3 x4 h = some o) : am_W X (d + 164) 0 4021 lv [] h (fun q => q = o) := by
  unfold fg_0_4021 at hs
  refine aw_goto at_0_4021 ?_
  exact rg_0_4192 q_23 x1 x2 x3 x4 h o l0 l1 l2 l3 l4 i1 i2 i3 hs
def fg_0_3965 (X : am_X) (N : Nat) (rec_23 : Value → Value → Value → Int32 → am_H → Option am_O) (x1 : Value) (x2 : Value) (x3 : Value) (x4 : Int32) (h : am_H) : Option am_O := (fg_0_4192 X N rec_23 x1 x2 x3 x4 h)
theorem rg_0_3965 {X : am_X} {d : Nat} {N : Nat} {rec_23 : Value → Value → Value → Int32 → am_H → Option am_O} (q_23 : ∀ (x1 : Value) (x2 : Value) (x3 : Value) (x4 : Int32) (h : am_H) (o : am_O), rec_23 x1 x2 x3 x4 h = some o → ∀ lv : am_LV, (lv.lookup 0 = some (Value.float 0)) → (lv.lookup 1 = some x1) → (lv.lookup 2 = some x2) → (lv.lookup 3 = some x3) → (lv.lookup 4 = some (.int x4)) → (am_isR x1 = true) → (am_isR x2 = true) → (am_isR x3 = true) → am_W X (d + 164) 0 23 lv [] h (fun q => q = o)) {lv : am_LV} (x1 : Value) (x2 : Value) (x3 : Value) (x4 : Int32) (h : am_H) (o : am_O) (l0 : lv.lookup 0 = some (Value.float 0)) (l1 : lv.lookup 1 = some x1) (l2 : lv.lookup 2 = some x2) (l3 : lv.lookup 3 = some x3) (l4 : lv.lookup 4 = some (.int x4)) (i1 : am_isR x1 = true) (i2 : am_isR x2 = true) (i3 : am_isR x3 = true) (hs : fg_0_3965 X N rec_23 x1 x2 x3 x4 h = some o) : am_W X (d + 164) 0 3965 lv [] h (fun q => q = o) := by
  unfold fg_0_3965 at hs
  refine aw_goto at_0_3965 ?_
  exact rg_0_4192 q_23 x1 x2 x3 x4 h o l0 l1 l2 l3 l4 i1 i2 i3 hs
def fg_0_3897 (X : am_X) (N : Nat) (rec_23 : Value → Value → Value → Int32 → am_H → Option am_O) (x1 : Value) (x2 : Value) (x3 : Value) (x4 : Int32) (h : am_H) : Option am_O := (fg_0_4192 X N rec_23 x1 x2 x3 x4 h)
theorem rg_0_3897 {X : am_X} {d : Nat} {N : Nat} {rec_23 : Value → Value → Value → Int32 → am_H → Option am_O} (q_23 : ∀ (x1 : Value) (x2 : Value) (x3 : Value) (x4 : Int32) (h : am_H) (o : am_O), rec_23 x1 x2 x3 x4 h = some o → ∀ lv : am_LV, (lv.lookup 0 = some (Value.float 0)) → (lv.lookup 1 = some x1) → (lv.lookup 2 = some x2) → (lv.lookup 3 = some x3) → (lv.lookup 4 = some (.int x4)) → (am_isR x1 = true) → (am_isR x2 = true) → (am_isR x3 = true) → am_W X (d + 164) 0 23 lv [] h (fun q => q = o)) {lv : am_LV} (x1 : Value) (x2 : Value) (x3 : Value) (x4 : Int32) (h : am_H) (o : am_O) (l0 : lv.lookup 0 = some (Value.float 0)) (l1 : lv.lookup 1 = some x1) (l2 : lv.lookup 2 = some x2) (l3 : lv.lookup 3 = some x3) (l4 : lv.lookup 4 = some (.int x4)) (i1 : am_isR x1 = true) (i2 : am_isR x2 = true) (i3 : am_isR x3 = true) (hs : fg_0_3897 X N rec_23 x1 x2 x3 x4 h = some o) : am_W X (d + 164) 0 3897 lv [] h (fun q => q = o) := by
  unfold fg_0_3897 at hs
  refine aw_goto at_0_3897 ?_
  exact rg_0_4192 q_23 x1 x2 x3 x4 h o l0 l1 l2 l3 l4 i1 i2 i3 hs
def fg_0_3817 (X : am_X) (N : Nat) (rec_23 : Value → Value → Value → Int32 → am_H → Option am_O) (x1 : Value) (x2 : Value) (x3 : Value) (x4 : Int32) (h : am_H) : Option am_O := (fg_0_4192 X N rec_23 x1 x2 x3 x4 h)
theorem rg_0_3817 {X : am_X} {d : Nat} {N : Nat} {rec_23 : Value → Value → Value → Int32 → am_H → Option am_O} (q_23 : ∀ (x1 : Value) (x2 : Value) (x3 : Value) (x4 : Int32) (h : am_H) (o : am_O), rec_23 x1 x2 x3 x4 h = some o → ∀ lv : am_LV, (lv.lookup 0 = some (Value.float 0)) → (lv.lookup 1 = some x1) → (lv.lookup 2 = some x2) → (lv.lookup 3 = some x3) → (lv.lookup 4 = some (.int x4)) → (am_isR x1 = true) → (am_isR x2 = true) → (am_isR x3 = true) → am_W X (d + 164) 0 23 lv [] h (fun q => q = o)) {lv : am_LV} (x1 : Value) (x2 : Value) (x3 : Value) (x4 : Int32) (h : am_H) (o : am_O) (l0 : lv.lookup 0 = some (Value.float 0)) (l1 : lv.lookup 1 = some x1) (l2 : lv.lookup 2 = some x2) (l3 : lv.lookup 3 = some x3) (l4 : lv.lookup 4 = some (.int x4)) (i1 : am_isR x1 = true) (i2 : am_isR x2 = true) (i3 : am_isR x3 = true) (hs : fg_0_3817 X N rec_23 x1 x2 x3 x4 h = some o) : am_W X (d + 164) 0 3817 lv [] h (fun q => q = o) := by
  unfold fg_0_3817 at hs
  refine aw_goto at_0_3817 ?_
  exact rg_0_4192 q_23 x1 x2 x3 x4 h o l0 l1 l2 l3 l4 i1 i2 i3 hs
def fg_0_3761 (X : am_X) (N : Nat) (rec_23 : Value → Value → Value → Int32 → am_H → Option am_O) (x1 : Value) (x2 : Value) (x3 : Value) (x4 : Int32) (h : am_H) : Option am_O := (fg_0_4192 X N rec_23 x1 x2 x3 x4 h)
theorem rg_0_3761 {X : am_X} {d : Nat} {N : Nat} {rec_23 : Value → Value → Value → Int32 → am_H → Option am_O} (q_23 : ∀ (x1 : Value) (x2 : Value) (x3 : Value) (x4 : Int32) (h : am_H) (o : am_O), rec_23 x1 x2 x3 x4 h = some o → ∀ lv : am_LV, (lv.lookup 0 = some (Value.float 0)) → (lv.lookup 1 = some x1) → (lv.lookup 2 = some x2) → (lv.lookup 3 = some x3) → (lv.lookup 4 = some (.int x4)) → (am_isR x1 = true) → (am_isR x2 = true) → (am_isR x3 = true) → am_W X (d + 164) 0 23 lv [] h (fun q => q = o)) {lv : am_LV} (x1 : Value) (x2 : Value) (x3 : Value) (x4 : Int32) (h : am_H) (o : am_O) (l0 : lv.lookup 0 = some (Value.float 0)) (l1 : lv.lookup 1 = some x1) (l2 : lv.lookup 2 = some x2) (l3 : lv.lookup 3 = some x3) (l4 : lv.lookup 4 = some (.int x4)) (i1 : am_isR x1 = true) (i2 : am_isR x2 = true) (i3 : am_isR x3 = true) (hs : fg_0_3761 X N rec_23 x1 x2 x3 x4 h = some o) : am_W X (d + 164) 0 3761 lv [] h (fun q => q = o) := by
  unfold fg_0_3761 at hs
  refine aw_goto at_0_3761 ?_
  exact rg_0_4192 q_23 x1 x2 x3 x4 h o l0 l1 l2 l3 l4 i1 i2 i3 hs
def fg_0_3705 (X : am_X) (N : Nat) (rec_23 : Value → Value → Value → Int32 → am_H → Option am_O) (x1 : Value) (x2 : Value) (x3 : Value) (x4 : Int32) (h : am_H) : Option am_O := (fg_0_4192 X N rec_23 x1 x2 x3 x4 h)
theorem rg_0_3705 {X : am_X} {d : Nat} {N : Nat} {rec_23 : Value → Value → Value → Int32 → am_H → Option am_O} (q_23 : ∀ (x1 : Value) (x2 : Value) (x3 : Value) (x4 : Int32) (h : am_H) (o : am_O), rec_23 x1 x2 x3 x4 h = some o → ∀ lv : am_LV, (lv.lookup 0 = some (Value.float 0)) → (lv.lookup 1 = some x1) → (lv.lookup 2 = some x2) → (lv.lookup 3 = some x3) → (lv.lookup 4 = some (.int x4)) → (am_isR x1 = true) → (am_isR x2 = true) → (am_isR x3 = true) → am_W X (d + 164) 0 23 lv [] h (fun q => q = o)) {lv : am_LV} (x1 : Value) (x2 : Value) (x3 : Value) (x4 : Int32) (h : am_H) (o : am_O) (l0 : lv.lookup 0 = some (Value.float 0)) (l1 : lv.lookup 1 = some x1) (l2 : lv.lookup 2 = some x2) (l3 : lv.lookup 3 = some x3) (l4 : lv.lookup 4 = some (.int x4)) (i1 : am_isR x1 = true) (i2 : am_isR x2 = true) (i3 : am_isR x3 = true) (hs : fg_0_3705 X N rec_23 x1 x2 x3 x4 h = some o) : am_W X (d + 164) 0 3705 lv [] h (fun q => q = o) := by
  unfold fg_0_3705 at hs
  refine aw_goto at_0_3705 ?_
  exact rg_0_4192 q_23 x1 x2 x3 x4 h o l0 l1 l2 l3 l4 i1 i2 i3 hs
def fg_0_3637 (X : am_X) (N : Nat) (rec_23 : Value → Value → Value → Int32 → am_H → Option am_O) (x1 : Value) (x2 : Value) (x3 : Value) (x4 : Int32) (h : am_H) : Option am_O := (fg_0_4192 X N rec_23 x1 x2 x3 x4 h)
theorem rg_0_3637 {X : am_X} {d : Nat} {N : Nat} {rec_23 : Value → Value → Value → Int32 → am_H → Option am_O} (q_23 : ∀ (x1 : Value) (x2 : Value) (x3 : Value) (x4 : Int32) (h : am_H) (o : am_O), rec_23 x1 x2 x3 x4 h = some o → ∀ lv : am_LV, (lv.lookup 0 = some (Value.float 0)) → (lv.lookup 1 = some x1) → (lv.lookup 2 = some x2) → (lv.lookup 3 = some x3) → (lv.lookup 4 = some (.int x4)) → (am_isR x1 = true) → (am_isR x2 = true) → (am_isR x3 = true) → am_W X (d + 164) 0 23 lv [] h (fun q => q = o)) {lv : am_LV} (x1 : Value) (x2 : Value) (x3 : Value) (x4 : Int32) (h : am_H) (o : am_O) (l0 : lv.lookup 0 = some (Value.float 0)) (l1 : lv.lookup 1 = some x1) (l2 : lv.lookup 2 = some x2) (l3 : lv.lookup 3 = some x3) (l4 : lv.lookup 4 = some (.int x4)) (i1 : am_isR x1 = true) (i2 : am_isR x2 = true) (i3 : am_isR x3 = true) (hs : fg_0_3637 X N rec_23 x1 x2 x3 x4 h = some o) : am_W X (d + 164) 0 3637 lv [] h (fun q => q = o) := by
  unfold fg_0_3637 at hs
  refine aw_goto at_0_3637 ?_
  exact rg_0_4192 q_23 x1 x2 x3 x4 h o l0 l1 l2 l3 l4 i1 i2 i3 hs
def fg_0_3631 (X : am_X) (N : Nat) (rec_23 : Value → Value → Value → Int32 → am_H → Option am_O) (x1 : Value) (x2 : Value) (x3 : Value) (x4 : Int32) (s0 : Int64) (s1 : Int64) (h : am_H) : Option am_O := (if (lg_cmp s0 s1) = 0 then (fg_0_3637 X N rec_23 x1 x2 x3 x4 h) else some (.inl (some (.int 0), h)))
theorem rg_0_3631 {X : am_X} {d : Nat} {N : Nat} {rec_23 : Value → Value → Value → Int32 → am_H → Option am_O} (q_23 : ∀ (x1 : Value) (x2 : Value) (x3 : Value) (x4 : Int32) (h : am_H) (o : am_O), rec_23 x1 x2 x3 x4 h = some o → ∀ lv : am_LV, (lv.lookup 0 = some (Value.float 0)) → (lv.lookup 1 = some x1) → (lv.lookup 2 = some x2) → (lv.lookup 3 = some x3) → (lv.lookup 4 = some (.int x4)) → (am_isR x1 = true) → (am_isR x2 = true) → (am_isR x3 = true) → am_W X (d + 164) 0 23 lv [] h (fun q => q = o)) {lv : am_LV} (x1 : Value) (x2 : Value) (x3 : Value) (x4 : Int32) (s0 : Int64) (s1 : Int64) (h : am_H) (o : am_O) (l0 : lv.lookup 0 = some (Value.float 0)) (l1 : lv.lookup 1 = some x1) (l2 : lv.lookup 2 = some x2) (l3 : lv.lookup 3 = some x3) (l4 : lv.lookup 4 = some (.int x4)) (i1 : am_isR x1 = true) (i2 : am_isR x2 = true) (i3 : am_isR x3 = true) (hs : fg_0_3631 X N rec_23 x1 x2 x3 x4 s0 s1 h = some o) : am_W X (d + 164) 0 3631 lv [(.long s1), (.long s0)] h (fun q => q = o) := by
  unfold fg_0_3631 at hs
  refine aw_lcmp (v := (lg_cmp s0 s1)) (pc1 := 3632) at_0_3631 rfl rfl ?_
  by_cases c1 : (lg_cmp s0 s1) = 0
  · rw [if_pos c1] at hs
    refine aw_ifeq_t at_0_3632 c1 ?_
    exact rg_0_3637 q_23 x1 x2 x3 x4 h o l0 l1 l2 l3 l4 i1 i2 i3 hs
  · rw [if_neg c1] at hs
    refine aw_ifeq_f (pc1 := 3635) at_0_3632 c1 rfl ?_
    refine aw_iconst (v := 0) (pc1 := 3636) at_0_3635 (by decide) rfl ?_
    cases hs
    exact aw_iret at_0_3636 (by rw [rt_0]; decide) rfl
def fg_0_3512 (X : am_X) (N : Nat) (rec_23 : Value → Value → Value → Int32 → am_H → Option am_O) (x1 : Value) (x2 : Value) (x3 : Value) (x4 : Int32) (h : am_H) : Option am_O := (fg_0_4192 X N rec_23 x1 x2 x3 x4 h)
theorem rg_0_3512 {X : am_X} {d : Nat} {N : Nat} {rec_23 : Value → Value → Value → Int32 → am_H → Option am_O} (q_23 : ∀ (x1 : Value) (x2 : Value) (x3 : Value) (x4 : Int32) (h : am_H) (o : am_O), rec_23 x1 x2 x3 x4 h = some o → ∀ lv : am_LV, (lv.lookup 0 = some (Value.float 0)) → (lv.lookup 1 = some x1) → (lv.lookup 2 = some x2) → (lv.lookup 3 = some x3) → (lv.lookup 4 = some (.int x4)) → (am_isR x1 = true) → (am_isR x2 = true) → (am_isR x3 = true) → am_W X (d + 164) 0 23 lv [] h (fun q => q = o)) {lv : am_LV} (x1 : Value) (x2 : Value) (x3 : Value) (x4 : Int32) (h : am_H) (o : am_O) (l0 : lv.lookup 0 = some (Value.float 0)) (l1 : lv.lookup 1 = some x1) (l2 : lv.lookup 2 = some x2) (l3 : lv.lookup 3 = some x3) (l4 : lv.lookup 4 = some (.int x4)) (i1 : am_isR x1 = true) (i2 : am_isR x2 = true) (i3 : am_isR x3 = true) (hs : fg_0_3512 X N rec_23 x1 x2 x3 x4 h = some o) : am_W X (d + 164) 0 3512 lv [] h (fun q => q = o) := by
  unfold fg_0_3512 at hs
  refine aw_goto at_0_3512 ?_
  exact rg_0_4192 q_23 x1 x2 x3 x4 h o l0 l1 l2 l3 l4 i1 i2 i3 hs
def fg_0_3456 (X : am_X) (N : Nat) (rec_23 : Value → Value → Value → Int32 → am_H → Option am_O) (x1 : Value) (x2 : Value) (x3 : Value) (x4 : Int32) (h : am_H) : Option am_O := (fg_0_4192 X N rec_23 x1 x2 x3 x4 h)
theorem rg_0_3456 {X : am_X} {d : Nat} {N : Nat} {rec_23 : Value → Value → Value → Int32 → am_H → Option am_O} (q_23 : ∀ (x1 : Value) (x2 : Value) (x3 : Value) (x4 : Int32) (h : am_H) (o : am_O), rec_23 x1 x2 x3 x4 h = some o → ∀ lv : am_LV, (lv.lookup 0 = some (Value.float 0)) → (lv.lookup 1 = some x1) → (lv.lookup 2 = some x2) → (lv.lookup 3 = some x3) → (lv.lookup 4 = some (.int x4)) → (am_isR x1 = true) → (am_isR x2 = true) → (am_isR x3 = true) → am_W X (d + 164) 0 23 lv [] h (fun q => q = o)) {lv : am_LV} (x1 : Value) (x2 : Value) (x3 : Value) (x4 : Int32) (h : am_H) (o : am_O) (l0 : lv.lookup 0 = some (Value.float 0)) (l1 : lv.lookup 1 = some x1) (l2 : lv.lookup 2 = some x2) (l3 : lv.lookup 3 = some x3) (l4 : lv.lookup 4 = some (.int x4)) (i1 : am_isR x1 = true) (i2 : am_isR x2 = true) (i3 : am_isR x3 = true) (hs : fg_0_3456 X N rec_23 x1 x2 x3 x4 h = some o) : am_W X (d + 164) 0 3456 lv [] h (fun q => q = o) := by
  unfold fg_0_3456 at hs
  refine aw_goto at_0_3456 ?_
  exact rg_0_4192 q_23 x1 x2 x3 x4 h o l0 l1 l2 l3 l4 i1 i2 i3 hs
def fg_0_3400 (X : am_X) (N : Nat) (rec_23 : Value → Value → Value → Int32 → am_H → Option am_O) (x1 : Value) (x2 : Value) (x3 : Value) (x4 : Int32) (h : am_H) : Option am_O := (fg_0_4192 X N rec_23 x1 x2 x3 x4 h)
theorem rg_0_3400 {X : am_X} {d : Nat} {N : Nat} {rec_23 : Value → Value → Value → Int32 → am_H → Option am_O} (q_23 : ∀ (x1 : Value) (x2 : Value) (x3 : Value) (x4 : Int32) (h : am_H) (o : am_O), rec_23 x1 x2 x3 x4 h = some o → ∀ lv : am_LV, (lv.lookup 0 = some (Value.float 0)) → (lv.lookup 1 = some x1) → (lv.lookup 2 = some x2) → (lv.lookup 3 = some x3) → (lv.lookup 4 = some (.int x4)) → (am_isR x1 = true) → (am_isR x2 = true) → (am_isR x3 = true) → am_W X (d + 164) 0 23 lv [] h (fun q => q = o)) {lv : am_LV} (x1 : Value) (x2 : Value) (x3 : Value) (x4 : Int32) (h : am_H) (o : am_O) (l0 : lv.lookup 0 = some (Value.float 0)) (l1 : lv.lookup 1 = some x1) (l2 : lv.lookup 2 = some x2) (l3 : lv.lookup 3 = some x3) (l4 : lv.lookup 4 = some (.int x4)) (i1 : am_isR x1 = true) (i2 : am_isR x2 = true) (i3 : am_isR x3 = true) (hs : fg_0_3400 X N rec_23 x1 x2 x3 x4 h = some o) : am_W X (d + 164) 0 3400 lv [] h (fun q => q = o) := by
  unfold fg_0_3400 at hs
  refine aw_goto at_0_3400 ?_
  exact rg_0_4192 q_23 x1 x2 x3 x4 h o l0 l1 l2 l3 l4 i1 i2 i3 hs
def fg_0_3394 (X : am_X) (N : Nat) (rec_23 : Value → Value → Value → Int32 → am_H → Option am_O) (x1 : Value) (x2 : Value) (x3 : Value) (x4 : Int32) (s0 : Int64) (s1 : Int64) (h : am_H) : Option am_O := (if (lg_cmp s0 s1) = 0 then (fg_0_3400 X N rec_23 x1 x2 x3 x4 h) else some (.inl (some (.int 0), h)))
theorem rg_0_3394 {X : am_X} {d : Nat} {N : Nat} {rec_23 : Value → Value → Value → Int32 → am_H → Option am_O} (q_23 : ∀ (x1 : Value) (x2 : Value) (x3 : Value) (x4 : Int32) (h : am_H) (o : am_O), rec_23 x1 x2 x3 x4 h = some o → ∀ lv : am_LV, (lv.lookup 0 = some (Value.float 0)) → (lv.lookup 1 = some x1) → (lv.lookup 2 = some x2) → (lv.lookup 3 = some x3) → (lv.lookup 4 = some (.int x4)) → (am_isR x1 = true) → (am_isR x2 = true) → (am_isR x3 = true) → am_W X (d + 164) 0 23 lv [] h (fun q => q = o)) {lv : am_LV} (x1 : Value) (x2 : Value) (x3 : Value) (x4 : Int32) (s0 : Int64) (s1 : Int64) (h : am_H) (o : am_O) (l0 : lv.lookup 0 = some (Value.float 0)) (l1 : lv.lookup 1 = some x1) (l2 : lv.lookup 2 = some x2) (l3 : lv.lookup 3 = some x3) (l4 : lv.lookup 4 = some (.int x4)) (i1 : am_isR x1 = true) (i2 : am_isR x2 = true) (i3 : am_isR x3 = true) (hs : fg_0_3394 X N rec_23 x1 x2 x3 x4 s0 s1 h = some o) : am_W X (d + 164) 0 3394 lv [(.long s1), (.long s0)] h (fun q => q = o) := by
  unfold fg_0_3394 at hs
  refine aw_lcmp (v := (lg_cmp s0 s1)) (pc1 := 3395) at_0_3394 rfl rfl ?_
  by_cases c1 : (lg_cmp s0 s1) = 0
  · rw [if_pos c1] at hs
    refine aw_ifeq_t at_0_3395 c1 ?_
    exact rg_0_3400 q_23 x1 x2 x3 x4 h o l0 l1 l2 l3 l4 i1 i2 i3 hs
  · rw [if_neg c1] at hs
    refine aw_ifeq_f (pc1 := 3398) at_0_3395 c1 rfl ?_
    refine aw_iconst (v := 0) (pc1 := 3399) at_0_3398 (by decide) rfl ?_
    cases hs
    exact aw_iret at_0_3399 (by rw [rt_0]; decide) rfl
def fg_0_3337 (X : am_X) (N : Nat) (rec_23 : Value → Value → Value → Int32 → am_H → Option am_O) (x1 : Value) (x2 : Value) (x3 : Value) (x4 : Int32) (h : am_H) : Option am_O := (fg_0_4192 X N rec_23 x1 x2 x3 x4 h)
theorem rg_0_3337 {X : am_X} {d : Nat} {N : Nat} {rec_23 : Value → Value → Value → Int32 → am_H → Option am_O} (q_23 : ∀ (x1 : Value) (x2 : Value) (x3 : Value) (x4 : Int32) (h : am_H) (o : am_O), rec_23 x1 x2 x3 x4 h = some o → ∀ lv : am_LV, (lv.lookup 0 = some (Value.float 0)) → (lv.lookup 1 = some x1) → (lv.lookup 2 = some x2) → (lv.lookup 3 = some x3) → (lv.lookup 4 = some (.int x4)) → (am_isR x1 = true) → (am_isR x2 = true) → (am_isR x3 = true) → am_W X (d + 164) 0 23 lv [] h (fun q => q = o)) {lv : am_LV} (x1 : Value) (x2 : Value) (x3 : Value) (x4 : Int32) (h : am_H) (o : am_O) (l0 : lv.lookup 0 = some (Value.float 0)) (l1 : lv.lookup 1 = some x1) (l2 : lv.lookup 2 = some x2) (l3 : lv.lookup 3 = some x3) (l4 : lv.lookup 4 = some (.int x4)) (i1 : am_isR x1 = true) (i2 : am_isR x2 = true) (i3 : am_isR x3 = true) (hs : fg_0_3337 X N rec_23 x1 x2 x3 x4 h = some o) : am_W X (d + 164) 0 3337 lv [] h (fun q => q = o) := by
  unfold fg_0_3337 at hs
  refine aw_goto at_0_3337 ?_
  exact rg_0_4192 q_23 x1 x2 x3 x4 h o l0 l1 l2 l3 l4 i1 i2 i3 hs
def fg_0_3270 (X : am_X) (N : Nat) (rec_23 : Value → Value → Value → Int32 → am_H → Option am_O) (x1 : Value) (x2 : Value) (x3 : Value) (x4 : Int32) (h : am_H) : Option am_O := (fg_0_4192 X N rec_23 x1 x2 x3 x4 h)
theorem rg_0_3270 {X : am_X} {d : Nat} {N : Nat} {rec_23 : Value → Value → Value → Int32 → am_H → Option am_O} (q_23 : ∀ (x1 : Value) (x2 : Value) (x3 : Value) (x4 : Int32) (h : am_H) (o : am_O), rec_23 x1 x2 x3 x4 h = some o → ∀ lv : am_LV, (lv.lookup 0 = some (Value.float 0)) → (lv.lookup 1 = some x1) → (lv.lookup 2 = some x2) → (lv.lookup 3 = some x3) → (lv.lookup 4 = some (.int x4)) → (am_isR x1 = true) → (am_isR x2 = true) → (am_isR x3 = true) → am_W X (d + 164) 0 23 lv [] h (fun q => q = o)) {lv : am_LV} (x1 : Value) (x2 : Value) (x3 : Value) (x4 : Int32) (h : am_H) (o : am_O) (l0 : lv.lookup 0 = some (Value.float 0)) (l1 : lv.lookup 1 = some x1) (l2 : lv.lookup 2 = some x2) (l3 : lv.lookup 3 = some x3) (l4 : lv.lookup 4 = some (.int x4)) (i1 : am_isR x1 = true) (i2 : am_isR x2 = true) (i3 : am_isR x3 = true) (hs : fg_0_3270 X N rec_23 x1 x2 x3 x4 h = some o) : am_W X (d + 164) 0 3270 lv [] h (fun q => q = o) := by
  unfold fg_0_3270 at hs
  refine aw_goto at_0_3270 ?_
  exact rg_0_4192 q_23 x1 x2 x3 x4 h o l0 l1 l2 l3 l4 i1 i2 i3 hs
def fg_0_3202 (X : am_X) (N : Nat) (rec_23 : Value → Value → Value → Int32 → am_H → Option am_O) (x1 : Value) (x2 : Value) (x3 : Value) (x4 : Int32) (h : am_H) : Option am_O := (fg_0_4192 X N rec_23 x1 x2 x3 x4 h)
theorem rg_0_3202 {X : am_X} {d : Nat} {N : Nat} {rec_23 : Value → Value → Value → Int32 → am_H → Option am_O} (q_23 : ∀ (x1 : Value) (x2 : Value) (x3 : Value) (x4 : Int32) (h : am_H) (o : am_O), rec_23 x1 x2 x3 x4 h = some o → ∀ lv : am_LV, (lv.lookup 0 = some (Value.float 0)) → (lv.lookup 1 = some x1) → (lv.lookup 2 = some x2) → (lv.lookup 3 = some x3) → (lv.lookup 4 = some (.int x4)) → (am_isR x1 = true) → (am_isR x2 = true) → (am_isR x3 = true) → am_W X (d + 164) 0 23 lv [] h (fun q => q = o)) {lv : am_LV} (x1 : Value) (x2 : Value) (x3 : Value) (x4 : Int32) (h : am_H) (o : am_O) (l0 : lv.lookup 0 = some (Value.float 0)) (l1 : lv.lookup 1 = some x1) (l2 : lv.lookup 2 = some x2) (l3 : lv.lookup 3 = some x3) (l4 : lv.lookup 4 = some (.int x4)) (i1 : am_isR x1 = true) (i2 : am_isR x2 = true) (i3 : am_isR x3 = true) (hs : fg_0_3202 X N rec_23 x1 x2 x3 x4 h = some o) : am_W X (d + 164) 0 3202 lv [] h (fun q => q = o) := by
  unfold fg_0_3202 at hs
  refine aw_goto at_0_3202 ?_
  exact rg_0_4192 q_23 x1 x2 x3 x4 h o l0 l1 l2 l3 l4 i1 i2 i3 hs
def fg_0_3146 (X : am_X) (N : Nat) (rec_23 : Value → Value → Value → Int32 → am_H → Option am_O) (x1 : Value) (x2 : Value) (x3 : Value) (x4 : Int32) (h : am_H) : Option am_O := (fg_0_4192 X N rec_23 x1 x2 x3 x4 h)
theorem rg_0_3146 {X : am_X} {d : Nat} {N : Nat} {rec_23 : Value → Value → Value → Int32 → am_H → Option am_O} (q_23 : ∀ (x1 : Value) (x2 : Value) (x3 : Value) (x4 : Int32) (h : am_H) (o : am_O), rec_23 x1 x2 x3 x4 h = some o → ∀ lv : am_LV, (lv.lookup 0 = some (Value.float 0)) → (lv.lookup 1 = some x1) → (lv.lookup 2 = some x2) → (lv.lookup 3 = some x3) → (lv.lookup 4 = some (.int x4)) → (am_isR x1 = true) → (am_isR x2 = true) → (am_isR x3 = true) → am_W X (d + 164) 0 23 lv [] h (fun q => q = o)) {lv : am_LV} (x1 : Value) (x2 : Value) (x3 : Value) (x4 : Int32) (h : am_H) (o : am_O) (l0 : lv.lookup 0 = some (Value.float 0)) (l1 : lv.lookup 1 = some x1) (l2 : lv.lookup 2 = some x2) (l3 : lv.lookup 3 = some x3) (l4 : lv.lookup 4 = some (.int x4)) (i1 : am_isR x1 = true) (i2 : am_isR x2 = true) (i3 : am_isR x3 = true) (hs : fg_0_3146 X N rec_23 x1 x2 x3 x4 h = some o) : am_W X (d + 164) 0 3146 lv [] h (fun q => q = o) := by
  unfold fg_0_3146 at hs
  refine aw_goto at_0_3146 ?_
  exact rg_0_4192 q_23 x1 x2 x3 x4 h o l0 l1 l2 l3 l4 i1 i2 i3 hs
def fg_0_3079 (X : am_X) (N : Nat) (rec_23 : Value → Value → Value → Int32 → am_H → Option am_O) (x1 : Value) (x2 : Value) (x3 : Value) (x4 : Int32) (h : am_H) : Option am_O := (fg_0_4192 X N rec_23 x1 x2 x3 x4 h)
theorem rg_0_3079 {X : am_X} {d : Nat} {N : Nat} {rec_23 : Value → Value → Value → Int32 → am_H → Option am_O} (q_23 : ∀ (x1 : Value) (x2 : Value) (x3 : Value) (x4 : Int32) (h : am_H) (o : am_O), rec_23 x1 x2 x3 x4 h = some o → ∀ lv : am_LV, (lv.lookup 0 = some (Value.float 0)) → (lv.lookup 1 = some x1) → (lv.lookup 2 = some x2) → (lv.lookup 3 = some x3) → (lv.lookup 4 = some (.int x4)) → (am_isR x1 = true) → (am_isR x2 = true) → (am_isR x3 = true) → am_W X (d + 164) 0 23 lv [] h (fun q => q = o)) {lv : am_LV} (x1 : Value) (x2 : Value) (x3 : Value) (x4 : Int32) (h : am_H) (o : am_O) (l0 : lv.lookup 0 = some (Value.float 0)) (l1 : lv.lookup 1 = some x1) (l2 : lv.lookup 2 = some x2) (l3 : lv.lookup 3 = some x3) (l4 : lv.lookup 4 = some (.int x4)) (i1 : am_isR x1 = true) (i2 : am_isR x2 = true) (i3 : am_isR x3 = true) (hs : fg_0_3079 X N rec_23 x1 x2 x3 x4 h = some o) : am_W X (d + 164) 0 3079 lv [] h (fun q => q = o) := by
  unfold fg_0_3079 at hs
  refine aw_goto at_0_3079 ?_
  exact rg_0_4192 q_23 x1 x2 x3 x4 h o l0 l1 l2 l3 l4 i1 i2 i3 hs
def fg_0_3012 (X : am_X) (N : Nat) (rec_23 : Value → Value → Value → Int32 → am_H → Option am_O) (x1 : Value) (x2 : Value) (x3 : Value) (x4 : Int32) (h : am_H) : Option am_O := (fg_0_4192 X N rec_23 x1 x2 x3 x4 h)
theorem rg_0_3012 {X : am_X} {d : Nat} {N : Nat} {rec_23 : Value → Value → Value → Int32 → am_H → Option am_O} (q_23 : ∀ (x1 : Value) (x2 : Value) (x3 : Value) (x4 : Int32) (h : am_H) (o : am_O), rec_23 x1 x2 x3 x4 h = some o → ∀ lv : am_LV, (lv.lookup 0 = some (Value.float 0)) → (lv.lookup 1 = some x1) → (lv.lookup 2 = some x2) → (lv.lookup 3 = some x3) → (lv.lookup 4 = some (.int x4)) → (am_isR x1 = true) → (am_isR x2 = true) → (am_isR x3 = true) → am_W X (d + 164) 0 23 lv [] h (fun q => q = o)) {lv : am_LV} (x1 : Value) (x2 : Value) (x3 : Value) (x4 : Int32) (h : am_H) (o : am_O) (l0 : lv.lookup 0 = some (Value.float 0)) (l1 : lv.lookup 1 = some x1) (l2 : lv.lookup 2 = some x2) (l3 : lv.lookup 3 = some x3) (l4 : lv.lookup 4 = some (.int x4)) (i1 : am_isR x1 = true) (i2 : am_isR x2 = true) (i3 : am_isR x3 = true) (hs : fg_0_3012 X N rec_23 x1 x2 x3 x4 h = some o) : am_W X (d + 164) 0 3012 lv [] h (fun q => q = o) := by
  unfold fg_0_3012 at hs
  refine aw_goto at_0_3012 ?_
  exact rg_0_4192 q_23 x1 x2 x3 x4 h o l0 l1 l2 l3 l4 i1 i2 i3 hs
def fg_0_2932 (X : am_X) (N : Nat) (rec_23 : Value → Value → Value → Int32 → am_H → Option am_O) (x1 : Value) (x2 : Value) (x3 : Value) (x4 : Int32) (h : am_H) : Option am_O := (fg_0_4192 X N rec_23 x1 x2 x3 x4 h)
theorem rg_0_2932 {X : am_X} {d : Nat} {N : Nat} {rec_23 : Value → Value → Value → Int32 → am_H → Option am_O} (q_23 : ∀ (x1 : Value) (x2 : Value) (x3 : Value) (x4 : Int32) (h : am_H) (o : am_O), rec_23 x1 x2 x3 x4 h = some o → ∀ lv : am_LV, (lv.lookup 0 = some (Value.float 0)) → (lv.lookup 1 = some x1) → (lv.lookup 2 = some x2) → (lv.lookup 3 = some x3) → (lv.lookup 4 = some (.int x4)) → (am_isR x1 = true) → (am_isR x2 = true) → (am_isR x3 = true) → am_W X (d + 164) 0 23 lv [] h (fun q => q = o)) {lv : am_LV} (x1 : Value) (x2 : Value) (x3 : Value) (x4 : Int32) (h : am_H) (o : am_O) (l0 : lv.lookup 0 = some (Value.float 0)) (l1 : lv.lookup 1 = some x1) (l2 : lv.lookup 2 = some x2) (l3 : lv.lookup 3 = some x3) (l4 : lv.lookup 4 = some (.int x4)) (i1 : am_isR x1 = true) (i2 : am_isR x2 = true) (i3 : am_isR x3 = true) (hs : fg_0_2932 X N rec_23 x1 x2 x3 x4 h = some o) : am_W X (d + 164) 0 2932 lv [] h (fun q => q = o) := by
  unfold fg_0_2932 at hs
  refine aw_goto at_0_2932 ?_
  exact rg_0_4192 q_23 x1 x2 x3 x4 h o l0 l1 l2 l3 l4 i1 i2 i3 hs
def fg_0_2864 (X : am_X) (N : Nat) (rec_23 : Value → Value → Value → Int32 → am_H → Option am_O) (x1 : Value) (x2 : Value) (x3 : Value) (x4 : Int32) (h : am_H) : Option am_O := (fg_0_4192 X N rec_23 x1 x2 x3 x4 h)
theorem rg_0_2864 {X : am_X} {d : Nat} {N : Nat} {rec_23 : Value → Value → Value → Int32 → am_H → Option am_O} (q_23 : ∀ (x1 : Value) (x2 : Value) (x3 : Value) (x4 : Int32) (h : am_H) (o : am_O), rec_23 x1 x2 x3 x4 h = some o → ∀ lv : am_LV, (lv.lookup 0 = some (Value.float 0)) → (lv.lookup 1 = some x1) → (lv.lookup 2 = some x2) → (lv.lookup 3 = some x3) → (lv.lookup 4 = some (.int x4)) → (am_isR x1 = true) → (am_isR x2 = true) → (am_isR x3 = true) → am_W X (d + 164) 0 23 lv [] h (fun q => q = o)) {lv : am_LV} (x1 : Value) (x2 : Value) (x3 : Value) (x4 : Int32) (h : am_H) (o : am_O) (l0 : lv.lookup 0 = some (Value.float 0)) (l1 : lv.lookup 1 = some x1) (l2 : lv.lookup 2 = some x2) (l3 : lv.lookup 3 = some x3) (l4 : lv.lookup 4 = some (.int x4)) (i1 : am_isR x1 = true) (i2 : am_isR x2 = true) (i3 : am_isR x3 = true) (hs : fg_0_2864 X N rec_23 x1 x2 x3 x4 h = some o) : am_W X (d + 164) 0 2864 lv [] h (fun q => q = o) := by
  unfold fg_0_2864 at hs
  refine aw_goto at_0_2864 ?_
  exact rg_0_4192 q_23 x1 x2 x3 x4 h o l0 l1 l2 l3 l4 i1 i2 i3 hs
def fg_0_2808 (X : am_X) (N : Nat) (rec_23 : Value → Value → Value → Int32 → am_H → Option am_O) (x1 : Value) (x2 : Value) (x3 : Value) (x4 : Int32) (h : am_H) : Option am_O := (fg_0_4192 X N rec_23 x1 x2 x3 x4 h)
theorem rg_0_2808 {X : am_X} {d : Nat} {N : Nat} {rec_23 : Value → Value → Value → Int32 → am_H → Option am_O} (q_23 : ∀ (x1 : Value) (x2 : Value) (x3 : Value) (x4 : Int32) (h : am_H) (o : am_O), rec_23 x1 x2 x3 x4 h = some o → ∀ lv : am_LV, (lv.lookup 0 = some (Value.float 0)) → (lv.lookup 1 = some x1) → (lv.lookup 2 = some x2) → (lv.lookup 3 = some x3) → (lv.lookup 4 = some (.int x4)) → (am_isR x1 = true) → (am_isR x2 = true) → (am_isR x3 = true) → am_W X (d + 164) 0 23 lv [] h (fun q => q = o)) {lv : am_LV} (x1 : Value) (x2 : Value) (x3 : Value) (x4 : Int32) (h : am_H) (o : am_O) (l0 : lv.lookup 0 = some (Value.float 0)) (l1 : lv.lookup 1 = some x1) (l2 : lv.lookup 2 = some x2) (l3 : lv.lookup 3 = some x3) (l4 : lv.lookup 4 = some (.int x4)) (i1 : am_isR x1 = true) (i2 : am_isR x2 = true) (i3 : am_isR x3 = true) (hs : fg_0_2808 X N rec_23 x1 x2 x3 x4 h = some o) : am_W X (d + 164) 0 2808 lv [] h (fun q => q = o) := by
  unfold fg_0_2808 at hs
  refine aw_goto at_0_2808 ?_
  exact rg_0_4192 q_23 x1 x2 x3 x4 h o l0 l1 l2 l3 l4 i1 i2 i3 hs
def fg_0_2802 (X : am_X) (N : Nat) (rec_23 : Value → Value → Value → Int32 → am_H → Option am_O) (x1 : Value) (x2 : Value) (x3 : Value) (x4 : Int32) (s0 : Int64) (s1 : Int64) (h : am_H) : Option am_O := (if (lg_cmp s0 s1) = 0 then (fg_0_2808 X N rec_23 x1 x2 x3 x4 h) else some (.inl (some (.int 0), h)))
theorem rg_0_2802 {X : am_X} {d : Nat} {N : Nat} {rec_23 : Value → Value → Value → Int32 → am_H → Option am_O} (q_23 : ∀ (x1 : Value) (x2 : Value) (x3 : Value) (x4 : Int32) (h : am_H) (o : am_O), rec_23 x1 x2 x3 x4 h = some o → ∀ lv : am_LV, (lv.lookup 0 = some (Value.float 0)) → (lv.lookup 1 = some x1) → (lv.lookup 2 = some x2) → (lv.lookup 3 = some x3) → (lv.lookup 4 = some (.int x4)) → (am_isR x1 = true) → (am_isR x2 = true) → (am_isR x3 = true) → am_W X (d + 164) 0 23 lv [] h (fun q => q = o)) {lv : am_LV} (x1 : Value) (x2 : Value) (x3 : Value) (x4 : Int32) (s0 : Int64) (s1 : Int64) (h : am_H) (o : am_O) (l0 : lv.lookup 0 = some (Value.float 0)) (l1 : lv.lookup 1 = some x1) (l2 : lv.lookup 2 = some x2) (l3 : lv.lookup 3 = some x3) (l4 : lv.lookup 4 = some (.int x4)) (i1 : am_isR x1 = true) (i2 : am_isR x2 = true) (i3 : am_isR x3 = true) (hs : fg_0_2802 X N rec_23 x1 x2 x3 x4 s0 s1 h = some o) : am_W X (d + 164) 0 2802 lv [(.long s1), (.long s0)] h (fun q => q = o) := by
  unfold fg_0_2802 at hs
  refine aw_lcmp (v := (lg_cmp s0 s1)) (pc1 := 2803) at_0_2802 rfl rfl ?_
  by_cases c1 : (lg_cmp s0 s1) = 0
  · rw [if_pos c1] at hs
    refine aw_ifeq_t at_0_2803 c1 ?_
    exact rg_0_2808 q_23 x1 x2 x3 x4 h o l0 l1 l2 l3 l4 i1 i2 i3 hs
  · rw [if_neg c1] at hs
    refine aw_ifeq_f (pc1 := 2806) at_0_2803 c1 rfl ?_
    refine aw_iconst (v := 0) (pc1 := 2807) at_0_2806 (by decide) rfl ?_
    cases hs
    exact aw_iret at_0_2807 (by rw [rt_0]; decide) rfl
def fg_0_2733 (X : am_X) (N : Nat) (rec_23 : Value → Value → Value → Int32 → am_H → Option am_O) (x1 : Value) (x2 : Value) (x3 : Value) (x4 : Int32) (h : am_H) : Option am_O := (fg_0_4192 X N rec_23 x1 x2 x3 x4 h)
theorem rg_0_2733 {X : am_X} {d : Nat} {N : Nat} {rec_23 : Value → Value → Value → Int32 → am_H → Option am_O} (q_23 : ∀ (x1 : Value) (x2 : Value) (x3 : Value) (x4 : Int32) (h : am_H) (o : am_O), rec_23 x1 x2 x3 x4 h = some o → ∀ lv : am_LV, (lv.lookup 0 = some (Value.float 0)) → (lv.lookup 1 = some x1) → (lv.lookup 2 = some x2) → (lv.lookup 3 = some x3) → (lv.lookup 4 = some (.int x4)) → (am_isR x1 = true) → (am_isR x2 = true) → (am_isR x3 = true) → am_W X (d + 164) 0 23 lv [] h (fun q => q = o)) {lv : am_LV} (x1 : Value) (x2 : Value) (x3 : Value) (x4 : Int32) (h : am_H) (o : am_O) (l0 : lv.lookup 0 = some (Value.float 0)) (l1 : lv.lookup 1 = some x1) (l2 : lv.lookup 2 = some x2) (l3 : lv.lookup 3 = some x3) (l4 : lv.lookup 4 = some (.int x4)) (i1 : am_isR x1 = true) (i2 : am_isR x2 = true) (i3 : am_isR x3 = true) (hs : fg_0_2733 X N rec_23 x1 x2 x3 x4 h = some o) : am_W X (d + 164) 0 2733 lv [] h (fun q => q = o) := by
  unfold fg_0_2733 at hs
  refine aw_goto at_0_2733 ?_
  exact rg_0_4192 q_23 x1 x2 x3 x4 h o l0 l1 l2 l3 l4 i1 i2 i3 hs
def fg_0_2665 (X : am_X) (N : Nat) (rec_23 : Value → Value → Value → Int32 → am_H → Option am_O) (x1 : Value) (x2 : Value) (x3 : Value) (x4 : Int32) (h : am_H) : Option am_O := (fg_0_4192 X N rec_23 x1 x2 x3 x4 h)
theorem rg_0_2665 {X : am_X} {d : Nat} {N : Nat} {rec_23 : Value → Value → Value → Int32 → am_H → Option am_O} (q_23 : ∀ (x1 : Value) (x2 : Value) (x3 : Value) (x4 : Int32) (h : am_H) (o : am_O), rec_23 x1 x2 x3 x4 h = some o → ∀ lv : am_LV, (lv.lookup 0 = some (Value.float 0)) → (lv.lookup 1 = some x1) → (lv.lookup 2 = some x2) → (lv.lookup 3 = some x3) → (lv.lookup 4 = some (.int x4)) → (am_isR x1 = true) → (am_isR x2 = true) → (am_isR x3 = true) → am_W X (d + 164) 0 23 lv [] h (fun q => q = o)) {lv : am_LV} (x1 : Value) (x2 : Value) (x3 : Value) (x4 : Int32) (h : am_H) (o : am_O) (l0 : lv.lookup 0 = some (Value.float 0)) (l1 : lv.lookup 1 = some x1) (l2 : lv.lookup 2 = some x2) (l3 : lv.lookup 3 = some x3) (l4 : lv.lookup 4 = some (.int x4)) (i1 : am_isR x1 = true) (i2 : am_isR x2 = true) (i3 : am_isR x3 = true) (hs : fg_0_2665 X N rec_23 x1 x2 x3 x4 h = some o) : am_W X (d + 164) 0 2665 lv [] h (fun q => q = o) := by
  unfold fg_0_2665 at hs
  refine aw_goto at_0_2665 ?_
  exact rg_0_4192 q_23 x1 x2 x3 x4 h o l0 l1 l2 l3 l4 i1 i2 i3 hs
def fg_0_2597 (X : am_X) (N : Nat) (rec_23 : Value → Value → Value → Int32 → am_H → Option am_O) (x1 : Value) (x2 : Value) (x3 : Value) (x4 : Int32) (h : am_H) : Option am_O := (fg_0_4192 X N rec_23 x1 x2 x3 x4 h)
theorem rg_0_2597 {X : am_X} {d : Nat} {N : Nat} {rec_23 : Value → Value → Value → Int32 → am_H → Option am_O} (q_23 : ∀ (x1 : Value) (x2 : Value) (x3 : Value) (x4 : Int32) (h : am_H) (o : am_O), rec_23 x1 x2 x3 x4 h = some o → ∀ lv : am_LV, (lv.lookup 0 = some (Value.float 0)) → (lv.lookup 1 = some x1) → (lv.lookup 2 = some x2) → (lv.lookup 3 = some x3) → (lv.lookup 4 = some (.int x4)) → (am_isR x1 = true) → (am_isR x2 = true) → (am_isR x3 = true) → am_W X (d + 164) 0 23 lv [] h (fun q => q = o)) {lv : am_LV} (x1 : Value) (x2 : Value) (x3 : Value) (x4 : Int32) (h : am_H) (o : am_O) (l0 : lv.lookup 0 = some (Value.float 0)) (l1 : lv.lookup 1 = some x1) (l2 : lv.lookup 2 = some x2) (l3 : lv.lookup 3 = some x3) (l4 : lv.lookup 4 = some (.int x4)) (i1 : am_isR x1 = true) (i2 : am_isR x2 = true) (i3 : am_isR x3 = true) (hs : fg_0_2597 X N rec_23 x1 x2 x3 x4 h = some o) : am_W X (d + 164) 0 2597 lv [] h (fun q => q = o) := by
  unfold fg_0_2597 at hs
  refine aw_goto at_0_2597 ?_
  exact rg_0_4192 q_23 x1 x2 x3 x4 h o l0 l1 l2 l3 l4 i1 i2 i3 hs
def fg_0_2541 (X : am_X) (N : Nat) (rec_23 : Value → Value → Value → Int32 → am_H → Option am_O) (x1 : Value) (x2 : Value) (x3 : Value) (x4 : Int32) (h : am_H) : Option am_O := (fg_0_4192 X N rec_23 x1 x2 x3 x4 h)
theorem rg_0_2541 {X : am_X} {d : Nat} {N : Nat} {rec_23 : Value → Value → Value → Int32 → am_H → Option am_O} (q_23 : ∀ (x1 : Value) (x2 : Value) (x3 : Value) (x4 : Int32) (h : am_H) (o : am_O), rec_23 x1 x2 x3 x4 h = some o → ∀ lv : am_LV, (lv.lookup 0 = some (Value.float 0)) → (lv.lookup 1 = some x1) → (lv.lookup 2 = some x2) → (lv.lookup 3 = some x3) → (lv.lookup 4 = some (.int x4)) → (am_isR x1 = true) → (am_isR x2 = true) → (am_isR x3 = true) → am_W X (d + 164) 0 23 lv [] h (fun q => q = o)) {lv : am_LV} (x1 : Value) (x2 : Value) (x3 : Value) (x4 : Int32) (h : am_H) (o : am_O) (l0 : lv.lookup 0 = some (Value.float 0)) (l1 : lv.lookup 1 = some x1) (l2 : lv.lookup 2 = some x2) (l3 : lv.lookup 3 = some x3) (l4 : lv.lookup 4 = some (.int x4)) (i1 : am_isR x1 = true) (i2 : am_isR x2 = true) (i3 : am_isR x3 = true) (hs : fg_0_2541 X N rec_23 x1 x2 x3 x4 h = some o) : am_W X (d + 164) 0 2541 lv [] h (fun q => q = o) := by
  unfold fg_0_2541 at hs
  refine aw_goto at_0_2541 ?_
  exact rg_0_4192 q_23 x1 x2 x3 x4 h o l0 l1 l2 l3 l4 i1 i2 i3 hs
def fg_0_2403 (X : am_X) (N : Nat) (rec_23 : Value → Value → Value → Int32 → am_H → Option am_O) (x1 : Value) (x2 : Value) (x3 : Value) (x4 : Int32) (h : am_H) : Option am_O := (fg_0_4192 X N rec_23 x1 x2 x3 x4 h)
theorem rg_0_2403 {X : am_X} {d : Nat} {N : Nat} {rec_23 : Value → Value → Value → Int32 → am_H → Option am_O} (q_23 : ∀ (x1 : Value) (x2 : Value) (x3 : Value) (x4 : Int32) (h : am_H) (o : am_O), rec_23 x1 x2 x3 x4 h = some o → ∀ lv : am_LV, (lv.lookup 0 = some (Value.float 0)) → (lv.lookup 1 = some x1) → (lv.lookup 2 = some x2) → (lv.lookup 3 = some x3) → (lv.lookup 4 = some (.int x4)) → (am_isR x1 = true) → (am_isR x2 = true) → (am_isR x3 = true) → am_W X (d + 164) 0 23 lv [] h (fun q => q = o)) {lv : am_LV} (x1 : Value) (x2 : Value) (x3 : Value) (x4 : Int32) (h : am_H) (o : am_O) (l0 : lv.lookup 0 = some (Value.float 0)) (l1 : lv.lookup 1 = some x1) (l2 : lv.lookup 2 = some x2) (l3 : lv.lookup 3 = some x3) (l4 : lv.lookup 4 = some (.int x4)) (i1 : am_isR x1 = true) (i2 : am_isR x2 = true) (i3 : am_isR x3 = true) (hs : fg_0_2403 X N rec_23 x1 x2 x3 x4 h = some o) : am_W X (d + 164) 0 2403 lv [] h (fun q => q = o) := by
  unfold fg_0_2403 at hs
  refine aw_goto at_0_2403 ?_
  exact rg_0_4192 q_23 x1 x2 x3 x4 h o l0 l1 l2 l3 l4 i1 i2 i3 hs
def fg_0_2291 (X : am_X) (N : Nat) (rec_23 : Value → Value → Value → Int32 → am_H → Option am_O) (x1 : Value) (x2 : Value) (x3 : Value) (x4 : Int32) (h : am_H) : Option am_O := (fg_0_4192 X N rec_23 x1 x2 x3 x4 h)
theorem rg_0_2291 {X : am_X} {d : Nat} {N : Nat} {rec_23 : Value → Value → Value → Int32 → am_H → Option am_O} (q_23 : ∀ (x1 : Value) (x2 : Value) (x3 : Value) (x4 : Int32) (h : am_H) (o : am_O), rec_23 x1 x2 x3 x4 h = some o → ∀ lv : am_LV, (lv.lookup 0 = some (Value.float 0)) → (lv.lookup 1 = some x1) → (lv.lookup 2 = some x2) → (lv.lookup 3 = some x3) → (lv.lookup 4 = some (.int x4)) → (am_isR x1 = true) → (am_isR x2 = true) → (am_isR x3 = true) → am_W X (d + 164) 0 23 lv [] h (fun q => q = o)) {lv : am_LV} (x1 : Value) (x2 : Value) (x3 : Value) (x4 : Int32) (h : am_H) (o : am_O) (l0 : lv.lookup 0 = some (Value.float 0)) (l1 : lv.lookup 1 = some x1) (l2 : lv.lookup 2 = some x2) (l3 : lv.lookup 3 = some x3) (l4 : lv.lookup 4 = some (.int x4)) (i1 : am_isR x1 = true) (i2 : am_isR x2 = true) (i3 : am_isR x3 = true) (hs : fg_0_2291 X N rec_23 x1 x2 x3 x4 h = some o) : am_W X (d + 164) 0 2291 lv [] h (fun q => q = o) := by
  unfold fg_0_2291 at hs
  refine aw_goto at_0_2291 ?_
  exact rg_0_4192 q_23 x1 x2 x3 x4 h o l0 l1 l2 l3 l4 i1 i2 i3 hs
def fg_0_2223 (X : am_X) (N : Nat) (rec_23 : Value → Value → Value → Int32 → am_H → Option am_O) (x1 : Value) (x2 : Value) (x3 : Value) (x4 : Int32) (h : am_H) : Option am_O := (fg_0_4192 X N rec_23 x1 x2 x3 x4 h)
theorem rg_0_2223 {X : am_X} {d : Nat} {N : Nat} {rec_23 : Value → Value → Value → Int32 → am_H → Option am_O} (q_23 : ∀ (x1 : Value) (x2 : Value) (x3 : Value) (x4 : Int32) (h : am_H) (o : am_O), rec_23 x1 x2 x3 x4 h = some o → ∀ lv : am_LV, (lv.lookup 0 = some (Value.float 0)) → (lv.lookup 1 = some x1) → (lv.lookup 2 = some x2) → (lv.lookup 3 = some x3) → (lv.lookup 4 = some (.int x4)) → (am_isR x1 = true) → (am_isR x2 = true) → (am_isR x3 = true) → am_W X (d + 164) 0 23 lv [] h (fun q => q = o)) {lv : am_LV} (x1 : Value) (x2 : Value) (x3 : Value) (x4 : Int32) (h : am_H) (o : am_O) (l0 : lv.lookup 0 = some (Value.float 0)) (l1 : lv.lookup 1 = some x1) (l2 : lv.lookup 2 = some x2) (l3 : lv.lookup 3 = some x3) (l4 : lv.lookup 4 = some (.int x4)) (i1 : am_isR x1 = true) (i2 : am_isR x2 = true) (i3 : am_isR x3 = true) (hs : fg_0_2223 X N rec_23 x1 x2 x3 x4 h = some o) : am_W X (d + 164) 0 2223 lv [] h (fun q => q = o) := by
  unfold fg_0_2223 at hs
  refine aw_goto at_0_2223 ?_
  exact rg_0_4192 q_23 x1 x2 x3 x4 h o l0 l1 l2 l3 l4 i1 i2 i3 hs
def fg_0_2111 (X : am_X) (N : Nat) (rec_23 : Value → Value → Value → Int32 → am_H → Option am_O) (x1 : Value) (x2 : Value) (x3 : Value) (x4 : Int32) (h : am_H) : Option am_O := (fg_0_4192 X N rec_23 x1 x2 x3 x4 h)
theorem rg_0_2111 {X : am_X} {d : Nat} {N : Nat} {rec_23 : Value → Value → Value → Int32 → am_H → Option am_O} (q_23 : ∀ (x1 : Value) (x2 : Value) (x3 : Value) (x4 : Int32) (h : am_H) (o : am_O), rec_23 x1 x2 x3 x4 h = some o → ∀ lv : am_LV, (lv.lookup 0 = some (Value.float 0)) → (lv.lookup 1 = some x1) → (lv.lookup 2 = some x2) → (lv.lookup 3 = some x3) → (lv.lookup 4 = some (.int x4)) → (am_isR x1 = true) → (am_isR x2 = true) → (am_isR x3 = true) → am_W X (d + 164) 0 23 lv [] h (fun q => q = o)) {lv : am_LV} (x1 : Value) (x2 : Value) (x3 : Value) (x4 : Int32) (h : am_H) (o : am_O) (l0 : lv.lookup 0 = some (Value.float 0)) (l1 : lv.lookup 1 = some x1) (l2 : lv.lookup 2 = some x2) (l3 : lv.lookup 3 = some x3) (l4 : lv.lookup 4 = some (.int x4)) (i1 : am_isR x1 = true) (i2 : am_isR x2 = true) (i3 : am_isR x3 = true) (hs : fg_0_2111 X N rec_23 x1 x2 x3 x4 h = some o) : am_W X (d + 164) 0 2111 lv [] h (fun q => q = o) := by
  unfold fg_0_2111 at hs
  refine aw_goto at_0_2111 ?_
  exact rg_0_4192 q_23 x1 x2 x3 x4 h o l0 l1 l2 l3 l4 i1 i2 i3 hs
def fg_0_2031 (X : am_X) (N : Nat) (rec_23 : Value → Value → Value → Int32 → am_H → Option am_O) (x1 : Value) (x2 : Value) (x3 : Value) (x4 : Int32) (h : am_H) : Option am_O := (fg_0_4192 X N rec_23 x1 x2 x3 x4 h)
theorem rg_0_2031 {X : am_X} {d : Nat} {N : Nat} {rec_23 : Value → Value → Value → Int32 → am_H → Option am_O} (q_23 : ∀ (x1 : Value) (x2 : Value) (x3 : Value) (x4 : Int32) (h : am_H) (o : am_O), rec_23 x1 x2 x3 x4 h = some o → ∀ lv : am_LV, (lv.lookup 0 = some (Value.float 0)) → (lv.lookup 1 = some x1) → (lv.lookup 2 = some x2) → (lv.lookup 3 = some x3) → (lv.lookup 4 = some (.int x4)) → (am_isR x1 = true) → (am_isR x2 = true) → (am_isR x3 = true) → am_W X (d + 164) 0 23 lv [] h (fun q => q = o)) {lv : am_LV} (x1 : Value) (x2 : Value) (x3 : Value) (x4 : Int32) (h : am_H) (o : am_O) (l0 : lv.lookup 0 = some (Value.float 0)) (l1 : lv.lookup 1 = some x1) (l2 : lv.lookup 2 = some x2) (l3 : lv.lookup 3 = some x3) (l4 : lv.lookup 4 = some (.int x4)) (i1 : am_isR x1 = true) (i2 : am_isR x2 = true) (i3 : am_isR x3 = true) (hs : fg_0_2031 X N rec_23 x1 x2 x3 x4 h = some o) : am_W X (d + 164) 0 2031 lv [] h (fun q => q = o) := by
  unfold fg_0_2031 at hs
  refine aw_goto at_0_2031 ?_
  exact rg_0_4192 q_23 x1 x2 x3 x4 h o l0 l1 l2 l3 l4 i1 i2 i3 hs
def fg_0_1963 (X : am_X) (N : Nat) (rec_23 : Value → Value → Value → Int32 → am_H → Option am_O) (x1 : Value) (x2 : Value) (x3 : Value) (x4 : Int32) (h : am_H) : Option am_O := (fg_0_4192 X N rec_23 x1 x2 x3 x4 h)
theorem rg_0_1963 {X : am_X} {d : Nat} {N : Nat} {rec_23 : Value → Value → Value → Int32 → am_H → Option am_O} (q_23 : ∀ (x1 : Value) (x2 : Value) (x3 : Value) (x4 : Int32) (h : am_H) (o : am_O), rec_23 x1 x2 x3 x4 h = some o → ∀ lv : am_LV, (lv.lookup 0 = some (Value.float 0)) → (lv.lookup 1 = some x1) → (lv.lookup 2 = some x2) → (lv.lookup 3 = some x3) → (lv.lookup 4 = some (.int x4)) → (am_isR x1 = true) → (am_isR x2 = true) → (am_isR x3 = true) → am_W X (d + 164) 0 23 lv [] h (fun q => q = o)) {lv : am_LV} (x1 : Value) (x2 : Value) (x3 : Value) (x4 : Int32) (h : am_H) (o : am_O) (l0 : lv.lookup 0 = some (Value.float 0)) (l1 : lv.lookup 1 = some x1) (l2 : lv.lookup 2 = some x2) (l3 : lv.lookup 3 = some x3) (l4 : lv.lookup 4 = some (.int x4)) (i1 : am_isR x1 = true) (i2 : am_isR x2 = true) (i3 : am_isR x3 = true) (hs : fg_0_1963 X N rec_23 x1 x2 x3 x4 h = some o) : am_W X (d + 164) 0 1963 lv [] h (fun q => q = o) := by
  unfold fg_0_1963 at hs
  refine aw_goto at_0_1963 ?_
  exact rg_0_4192 q_23 x1 x2 x3 x4 h o l0 l1 l2 l3 l4 i1 i2 i3 hs
def fg_0_1895 (X : am_X) (N : Nat) (rec_23 : Value → Value → Value → Int32 → am_H → Option am_O) (x1 : Value) (x2 : Value) (x3 : Value) (x4 : Int32) (h : am_H) : Option am_O := (fg_0_4192 X N rec_23 x1 x2 x3 x4 h)
theorem rg_0_1895 {X : am_X} {d : Nat} {N : Nat} {rec_23 : Value → Value → Value → Int32 → am_H → Option am_O} (q_23 : ∀ (x1 : Value) (x2 : Value) (x3 : Value) (x4 : Int32) (h : am_H) (o : am_O), rec_23 x1 x2 x3 x4 h = some o → ∀ lv : am_LV, (lv.lookup 0 = some (Value.float 0)) → (lv.lookup 1 = some x1) → (lv.lookup 2 = some x2) → (lv.lookup 3 = some x3) → (lv.lookup 4 = some (.int x4)) → (am_isR x1 = true) → (am_isR x2 = true) → (am_isR x3 = true) → am_W X (d + 164) 0 23 lv [] h (fun q => q = o)) {lv : am_LV} (x1 : Value) (x2 : Value) (x3 : Value) (x4 : Int32) (h : am_H) (o : am_O) (l0 : lv.lookup 0 = some (Value.float 0)) (l1 : lv.lookup 1 = some x1) (l2 : lv.lookup 2 = some x2) (l3 : lv.lookup 3 = some x3) (l4 : lv.lookup 4 = some (.int x4)) (i1 : am_isR x1 = true) (i2 : am_isR x2 = true) (i3 : am_isR x3 = true) (hs : fg_0_1895 X N rec_23 x1 x2 x3 x4 h = some o) : am_W X (d + 164) 0 1895 lv [] h (fun q => q = o) := by
  unfold fg_0_1895 at hs
  refine aw_goto at_0_1895 ?_
  exact rg_0_4192 q_23 x1 x2 x3 x4 h o l0 l1 l2 l3 l4 i1 i2 i3 hs
def fg_0_1827 (X : am_X) (N : Nat) (rec_23 : Value → Value → Value → Int32 → am_H → Option am_O) (x1 : Value) (x2 : Value) (x3 : Value) (x4 : Int32) (h : am_H) : Option am_O := (fg_0_4192 X N rec_23 x1 x2 x3 x4 h)
theorem rg_0_1827 {X : am_X} {d : Nat} {N : Nat} {rec_23 : Value → Value → Value → Int32 → am_H → Option am_O} (q_23 : ∀ (x1 : Value) (x2 : Value) (x3 : Value) (x4 : Int32) (h : am_H) (o : am_O), rec_23 x1 x2 x3 x4 h = some o → ∀ lv : am_LV, (lv.lookup 0 = some (Value.float 0)) → (lv.lookup 1 = some x1) → (lv.lookup 2 = some x2) → (lv.lookup 3 = some x3) → (lv.lookup 4 = some (.int x4)) → (am_isR x1 = true) → (am_isR x2 = true) → (am_isR x3 = true) → am_W X (d + 164) 0 23 lv [] h (fun q => q = o)) {lv : am_LV} (x1 : Value) (x2 : Value) (x3 : Value) (x4 : Int32) (h : am_H) (o : am_O) (l0 : lv.lookup 0 = some (Value.float 0)) (l1 : lv.lookup 1 = some x1) (l2 : lv.lookup 2 = some x2) (l3 : lv.lookup 3 = some x3) (l4 : lv.lookup 4 = some (.int x4)) (i1 : am_isR x1 = true) (i2 : am_isR x2 = true) (i3 : am_isR x3 = true) (hs : fg_0_1827 X N rec_23 x1 x2 x3 x4 h = some o) : am_W X (d + 164) 0 1827 lv [] h (fun q => q = o) := by
  unfold fg_0_1827 at hs
  refine aw_goto at_0_1827 ?_
  exact rg_0_4192 q_23 x1 x2 x3 x4 h o l0 l1 l2 l3 l4 i1 i2 i3 hs
def fg_0_1794 (X : am_X) (N : Nat) (rec_23 : Value → Value → Value → Int32 → am_H → Option am_O) (x1 : Value) (x2 : Value) (x3 : Value) (x4 : Int32) (x5 : Int32) (s0 : Value) (s1 : Int32) (s2 : Int32) (h : am_H) : Option am_O := (if am_pOk 12 s0 h then am_cI true (fm_433 N s0 s1 s2 h) (fun v2 h3 => (if am_pOk 12 x2 h3 then am_cI true (fm_324 x2 h3) (fun v6 h7 => (if v6 = x5 then (if ¬ x5 = 0 then (fg_0_1827 X N rec_23 x1 x2 x3 x4 h7) else ((am_pAL x3 0 h7).bind fun v11 => (if (lg_cmp v11 (Int32.toInt64 v2)) = 0 then (fg_0_1827 X N rec_23 x1 x2 x3 x4 h7) else some (.inl (some (.int 0), h7))))) else some (.inl (some (.int 0), h7)))) else none)) else none)
theorem rg_0_1794 {X : am_X} {d : Nat} {N : Nat} {rec_23 : Value → Value → Value → Int32 → am_H → Option am_O} (q_23 : ∀ (x1 : Value) (x2 : Value) (x3 : Value) (x4 : Int32) (h : am_H) (o : am_O), rec_23 x1 x2 x3 x4 h = some o → ∀ lv : am_LV, (lv.lookup 0 = some (Value.float 0)) → (lv.lookup 1 = some x1) → (lv.lookup 2 = some x2) → (lv.lookup 3 = some x3) → (lv.lookup 4 = some (.int x4)) → (am_isR x1 = true) → (am_isR x2 = true) → (am_isR x3 = true) → am_W X (d + 164) 0 23 lv [] h (fun q => q = o)) {lv : am_LV} (x1 : Value) (x2 : Value) (x3 : Value) (x4 : Int32) (x5 : Int32) (s0 : Value) (s1 : Int32) (s2 : Int32) (h : am_H) (o : am_O) (l0 : lv.lookup 0 = some (Value.float 0)) (l1 : lv.lookup 1 = some x1) (l2 : lv.lookup 2 = some x2) (l3 : lv.lookup 3 = some x3) (l4 : lv.lookup 4 = some (.int x4)) (l5 : lv.lookup 5 = some (.int x5)) (i1 : am_isR x1 = true) (i2 : am_isR x2 = true) (i3 : am_isR x3 = true) (j0 : am_isR s0 = true) (hs : fg_0_1794 X N rec_23 x1 x2 x3 x4 x5 s0 s1 s2 h = some o) : am_W X (d + 164) 0 1794 lv [(.int s2), (.int s1), s0] h (fun q => q = o) := by
  unfold fg_0_1794 at hs
  obtain ⟨z1, hs1⟩ := am_ift hs
  clear hs
  refine aw_call (F := fm_433 N s0 s1 s2 h) (t := true) (na := 3) (kd := 1) (as := [s0, (.int s1), (.int s2)]) at_0_1794 (am_k3v kb_433) mn_433 mk_433 rfl rfl (am_ok_v mi_433 (am_hl rfl (am_ccR j0 (am_ccI (am_ccI am_cats_0))) rfl) z1) (am_hc am_cats_0 rfl) (fun _ => ⟨rfl, hh_0⟩) (fun o1 hz9 => rm_433 s0 s1 s2 h o1 j0 hz9) ?_
  rcases am_cI_s hs1 with ⟨v2, h3, f4, hs2⟩ | hs2
  · clear hs1
    refine Or.inl ⟨_, _, f4, ?_⟩
    show am_W X _ 0 1797 _ [(.int v2)] h3 _
    refine aw_istore (lv1 := am_put1 _ 6 _) (pc1 := 1799) at_0_1797 rfl rfl ?_
    refine aw_vload_n (pc1 := 1800) at_0_1799 (am_lk1 l2 rfl rfl) i2 rfl ?_
    obtain ⟨z5, hs3⟩ := am_ift hs2
    clear hs2
    refine aw_call (F := fm_324 x2 h3) (t := true) (na := 1) (kd := 1) (as := [x2]) at_0_1800 (am_k3v kb_324) mn_324 mk_324 rfl rfl (am_ok_v mi_324 (am_hl rfl (am_ccR i2 am_cats_0) rfl) z5) (am_hc am_cats_0 rfl) (fun _ => ⟨rfl, hh_0⟩) (fun o1 hz9 => rm_324 x2 h3 o1 i2 hz9) ?_
    rcases am_cI_s hs3 with ⟨v6, h7, f8, hs4⟩ | hs4
    · clear hs3
      refine Or.inl ⟨_, _, f8, ?_⟩
      show am_W X _ 0 1803 _ [(.int v6)] h7 _
      refine aw_iload (pc1 := 1805) at_0_1803 (am_lk1 l5 rfl rfl) rfl ?_
      by_cases c9 : v6 = x5
      · rw [if_pos c9] at hs4
        refine aw_iceq_t at_0_1805 c9 ?_
        refine aw_iload (pc1 := 1812) at_0_1810 (am_lk1 l5 rfl rfl) rfl ?_
        by_cases c10 : ¬ x5 = 0
        · rw [if_pos c10] at hs4
          refine aw_ifne_t at_0_1812 c10 ?_
          exact rg_0_1827 q_23 x1 x2 x3 x4 h7 o (am_lk1 l0 rfl rfl) (am_lk1 l1 rfl rfl) (am_lk1 l2 rfl rfl) (am_lk1 l3 rfl rfl) (am_lk1 l4 rfl rfl) i1 i2 i3 hs4
        · rw [if_neg c10] at hs4
          refine aw_ifne_f (pc1 := 1815) at_0_1812 c10 rfl ?_
          refine aw_vload_n (pc1 := 1816) at_0_1815 (am_lk1 l3 rfl rfl) i3 rfl ?_
          refine aw_iconst (v := 0) (pc1 := 1817) at_0_1816 (by decide) rfl ?_
          obtain ⟨v11, e12, hs5⟩ := am_bind hs4
          clear hs4
          refine aw_pAL (pc1 := 1818) at_0_1817 e12 rfl ?_
          refine aw_iload (pc1 := 1820) at_0_1818 am_lk0 rfl ?_
          refine aw_i2l (v := (Int32.toInt64 v2)) (pc1 := 1821) at_0_1820 rfl rfl ?_
          refine aw_lcmp (v := (lg_cmp v11 (Int32.toInt64 v2))) (pc1 := 1822) at_0_1821 rfl rfl ?_
          by_cases c13 : (lg_cmp v11 (Int32.toInt64 v2)) = 0
          · rw [if_pos c13] at hs5
            refine aw_ifeq_t at_0_1822 c13 ?_
            exact rg_0_1827 q_23 x1 x2 x3 x4 h7 o (am_lk1 l0 rfl rfl) (am_lk1 l1 rfl rfl) (am_lk1 l2 rfl rfl) (am_lk1 l3 rfl rfl) (am_lk1 l4 rfl rfl) i1 i2 i3 hs5
          · rw [if_neg c13] at hs5
            refine aw_ifeq_f (pc1 := 1825) at_0_1822 c13 rfl ?_
            refine aw_iconst (v := 0) (pc1 := 1826) at_0_1825 (by decide) rfl ?_
            cases hs5
            exact aw_iret at_0_1826 (by rw [rt_0]; decide) rfl
      · rw [if_neg c9] at hs4
        refine aw_iceq_f (pc1 := 1808) at_0_1805 c9 rfl ?_
        refine aw_iconst (v := 0) (pc1 := 1809) at_0_1808 (by decide) rfl ?_
        cases hs4
        exact aw_iret at_0_1809 (by rw [rt_0]; decide) rfl
    · clear hs3
      exact Or.inr hs4
  · clear hs1
    exact Or.inr hs2
def fg_0_1767 (X : am_X) (N : Nat) (rec_23 : Value → Value → Value → Int32 → am_H → Option am_O) (x1 : Value) (x2 : Value) (x3 : Value) (x4 : Int32) (s0 : Value) (s1 : Int32) (s2 : Int32) (h : am_H) : Option am_O := am_cI false (fm_147 N s0 s1 s2 x3 h) (fun v1 h2 => ((am_pX X 0 (x4 + 1)).bind fun v4 => ((am_pX X 0 (x4 + 2)).bind fun v6 => (if v6 = 0 then (fg_0_1794 X N rec_23 x1 x2 x3 x4 v1 x2 v4 0 h2) else (fg_0_1794 X N rec_23 x1 x2 x3 x4 v1 x2 v4 1 h2)))))
theorem rg_0_1767 {X : am_X} {d : Nat} {N : Nat} {rec_23 : Value → Value → Value → Int32 → am_H → Option am_O} (q_23 : ∀ (x1 : Value) (x2 : Value) (x3 : Value) (x4 : Int32) (h : am_H) (o : am_O), rec_23 x1 x2 x3 x4 h = some o → ∀ lv : am_LV, (lv.lookup 0 = some (Value.float 0)) → (lv.lookup 1 = some x1) → (lv.lookup 2 = some x2) → (lv.lookup 3 = some x3) → (lv.lookup 4 = some (.int x4)) → (am_isR x1 = true) → (am_isR x2 = true) → (am_isR x3 = true) → am_W X (d + 164) 0 23 lv [] h (fun q => q = o)) {lv : am_LV} (x1 : Value) (x2 : Value) (x3 : Value) (x4 : Int32) (s0 : Value) (s1 : Int32) (s2 : Int32) (h : am_H) (o : am_O) (l0 : lv.lookup 0 = some (Value.float 0)) (l1 : lv.lookup 1 = some x1) (l2 : lv.lookup 2 = some x2) (l3 : lv.lookup 3 = some x3) (l4 : lv.lookup 4 = some (.int x4)) (i1 : am_isR x1 = true) (i2 : am_isR x2 = true) (i3 : am_isR x3 = true) (j0 : am_isR s0 = true) (hs : fg_0_1767 X N rec_23 x1 x2 x3 x4 s0 s1 s2 h = some o) : am_W X (d + 164) 0 1767 lv [(.int s2), (.int s1), s0] h (fun q => q = o) := by
  unfold fg_0_1767 at hs
  refine aw_vload_n (pc1 := 1768) at_0_1767 l3 i3 rfl ?_
  refine aw_call (F := fm_147 N s0 s1 s2 x3 h) (t := false) (na := 4) (kd := 0) (as := [s0, (.int s1), (.int s2), x3]) at_0_1768 (am_k3s kb_147) mn_147 mk_147 rfl rfl (am_ok_s mi_147 (am_hl rfl (am_ccR j0 (am_ccI (am_ccI (am_ccR i3 am_cats_0)))) rfl)) (am_hc am_cats_0 rfl) (fun hz9 => by cases hz9) (fun o1 hz9 => rm_147 s0 s1 s2 x3 h o1 j0 i3 hz9) ?_
  rcases am_cI_s hs with ⟨v1, h2, f3, hs1⟩ | hs1
  · clear hs
    refine Or.inl ⟨_, _, f3, ?_⟩
    show am_W X _ 0 1771 _ [(.int v1)] h2 _
    refine aw_istore (lv1 := am_put1 _ 5 _) (pc1 := 1773) at_0_1771 rfl rfl ?_
    refine aw_vload_n (pc1 := 1774) at_0_1773 (am_lk1 l2 rfl rfl) i2 rfl ?_
    refine aw_vload_n (pc1 := 1775) at_0_1774 (am_lk1 l0 rfl rfl) rfl rfl ?_
    refine aw_iload (pc1 := 1777) at_0_1775 (am_lk1 l4 rfl rfl) rfl ?_
    refine aw_iconst (v := 1) (pc1 := 1778) at_0_1777 (by decide) rfl ?_
    refine aw_iadd (v := (x4 + 1)) (pc1 := 1779) at_0_1778 rfl rfl ?_
    obtain ⟨v4, e5, hs2⟩ := am_bind hs1
    clear hs1
    refine aw_pX (j := 0) (pc1 := 1780) at_0_1779 rfl rfl e5 rfl ?_
    refine aw_vload_n (pc1 := 1781) at_0_1780 (am_lk1 l0 rfl rfl) rfl rfl ?_
    refine aw_iload (pc1 := 1783) at_0_1781 (am_lk1 l4 rfl rfl) rfl ?_
    refine aw_iconst (v := 2) (pc1 := 1784) at_0_1783 (by decide) rfl ?_
    refine aw_iadd (v := (x4 + 2)) (pc1 := 1785) at_0_1784 rfl rfl ?_
    obtain ⟨v6, e7, hs3⟩ := am_bind hs2
    clear hs2
    refine aw_pX (j := 0) (pc1 := 1786) at_0_1785 rfl rfl e7 rfl ?_
    by_cases c8 : v6 = 0
    · rw [if_pos c8] at hs3
      refine aw_ifeq_t at_0_1786 c8 ?_
      refine aw_iconst (v := 0) (pc1 := 1794) at_0_1793 (by decide) rfl ?_
      exact rg_0_1794 q_23 x1 x2 x3 x4 v1 x2 v4 0 h2 o (am_lk1 l0 rfl rfl) (am_lk1 l1 rfl rfl) (am_lk1 l2 rfl rfl) (am_lk1 l3 rfl rfl) (am_lk1 l4 rfl rfl) am_lk0 i1 i2 i3 i2 hs3
    · rw [if_neg c8] at hs3
      refine aw_ifeq_f (pc1 := 1789) at_0_1786 c8 rfl ?_
      refine aw_iconst (v := 1) (pc1 := 1790) at_0_1789 (by decide) rfl ?_
      refine aw_goto at_0_1790 ?_
      exact rg_0_1794 q_23 x1 x2 x3 x4 v1 x2 v4 1 h2 o (am_lk1 l0 rfl rfl) (am_lk1 l1 rfl rfl) (am_lk1 l2 rfl rfl) (am_lk1 l3 rfl rfl) (am_lk1 l4 rfl rfl) am_lk0 i1 i2 i3 i2 hs3
  · clear hs
    exact Or.inr hs1
def fg_0_1743 (X : am_X) (N : Nat) (rec_23 : Value → Value → Value → Int32 → am_H → Option am_O) (x1 : Value) (x2 : Value) (x3 : Value) (x4 : Int32) (h : am_H) : Option am_O := (fg_0_4192 X N rec_23 x1 x2 x3 x4 h)
theorem rg_0_1743 {X : am_X} {d : Nat} {N : Nat} {rec_23 : Value → Value → Value → Int32 → am_H → Option am_O} (q_23 : ∀ (x1 : Value) (x2 : Value) (x3 : Value) (x4 : Int32) (h : am_H) (o : am_O), rec_23 x1 x2 x3 x4 h = some o → ∀ lv : am_LV, (lv.lookup 0 = some (Value.float 0)) → (lv.lookup 1 = some x1) → (lv.lookup 2 = some x2) → (lv.lookup 3 = some x3) → (lv.lookup 4 = some (.int x4)) → (am_isR x1 = true) → (am_isR x2 = true) → (am_isR x3 = true) → am_W X (d + 164) 0 23 lv [] h (fun q => q = o)) {lv : am_LV} (x1 : Value) (x2 : Value) (x3 : Value) (x4 : Int32) (h : am_H) (o : am_O) (l0 : lv.lookup 0 = some (Value.float 0)) (l1 : lv.lookup 1 = some x1) (l2 : lv.lookup 2 = some x2) (l3 : lv.lookup 3 = some x3) (l4 : lv.lookup 4 = some (.int x4)) (i1 : am_isR x1 = true) (i2 : am_isR x2 = true) (i3 : am_isR x3 = true) (hs : fg_0_1743 X N rec_23 x1 x2 x3 x4 h = some o) : am_W X (d + 164) 0 1743 lv [] h (fun q => q = o) := by
  unfold fg_0_1743 at hs
  refine aw_goto at_0_1743 ?_
  exact rg_0_4192 q_23 x1 x2 x3 x4 h o l0 l1 l2 l3 l4 i1 i2 i3 hs
def fg_0_1676 (X : am_X) (N : Nat) (rec_23 : Value → Value → Value → Int32 → am_H → Option am_O) (x1 : Value) (x2 : Value) (x3 : Value) (x4 : Int32) (h : am_H) : Option am_O := (fg_0_4192 X N rec_23 x1 x2 x3 x4 h)
theorem rg_0_1676 {X : am_X} {d : Nat} {N : Nat} {rec_23 : Value → Value → Value → Int32 → am_H → Option am_O} (q_23 : ∀ (x1 : Value) (x2 : Value) (x3 : Value) (x4 : Int32) (h : am_H) (o : am_O), rec_23 x1 x2 x3 x4 h = some o → ∀ lv : am_LV, (lv.lookup 0 = some (Value.float 0)) → (lv.lookup 1 = some x1) → (lv.lookup 2 = some x2) → (lv.lookup 3 = some x3) → (lv.lookup 4 = some (.int x4)) → (am_isR x1 = true) → (am_isR x2 = true) → (am_isR x3 = true) → am_W X (d + 164) 0 23 lv [] h (fun q => q = o)) {lv : am_LV} (x1 : Value) (x2 : Value) (x3 : Value) (x4 : Int32) (h : am_H) (o : am_O) (l0 : lv.lookup 0 = some (Value.float 0)) (l1 : lv.lookup 1 = some x1) (l2 : lv.lookup 2 = some x2) (l3 : lv.lookup 3 = some x3) (l4 : lv.lookup 4 = some (.int x4)) (i1 : am_isR x1 = true) (i2 : am_isR x2 = true) (i3 : am_isR x3 = true) (hs : fg_0_1676 X N rec_23 x1 x2 x3 x4 h = some o) : am_W X (d + 164) 0 1676 lv [] h (fun q => q = o) := by
  unfold fg_0_1676 at hs
  refine aw_goto at_0_1676 ?_
  exact rg_0_4192 q_23 x1 x2 x3 x4 h o l0 l1 l2 l3 l4 i1 i2 i3 hs
def fg_0_1638 (X : am_X) (N : Nat) (rec_23 : Value → Value → Value → Int32 → am_H → Option am_O) (x1 : Value) (x2 : Value) (x3 : Value) (x4 : Int32) (x5 : Int32) (s0 : Value) (s1 : Int32) (s2 : Int32) (h : am_H) : Option am_O := ((am_pX X 0 (x4 + 3)).bind fun v1 => (if am_pOk 12 s0 h then am_cL true (fm_427 N s0 s1 s2 v1 h) (fun v4 h5 => (if am_pOk 12 x2 h5 then am_cI true (fm_324 x2 h5) (fun v8 h9 => (if v8 = x5 then (if ¬ x5 = 0 then (fg_0_1676 X N rec_23 x1 x2 x3 x4 h9) else ((am_pAL x3 0 h9).bind fun v13 => (if (lg_cmp v13 v4) = 0 then (fg_0_1676 X N rec_23 x1 x2 x3 x4 h9) else some (.inl (some (.int 0), h9))))) else some (.inl (some (.int 0), h9)))) else none)) else none))
theorem rg_0_1638 {X : am_X} {d : Nat} {N : Nat} {rec_23 : Value → Value → Value → Int32 → am_H → Option am_O} (q_23 : ∀ (x1 : Value) (x2 : Value) (x3 : Value) (x4 : Int32) (h : am_H) (o : am_O), rec_23 x1 x2 x3 x4 h = some o → ∀ lv : am_LV, (lv.lookup 0 = some (Value.float 0)) → (lv.lookup 1 = some x1) → (lv.lookup 2 = some x2) → (lv.lookup 3 = some x3) → (lv.lookup 4 = some (.int x4)) → (am_isR x1 = true) → (am_isR x2 = true) → (am_isR x3 = true) → am_W X (d + 164) 0 23 lv [] h (fun q => q = o)) {lv : am_LV} (x1 : Value) (x2 : Value) (x3 : Value) (x4 : Int32) (x5 : Int32) (s0 : Value) (s1 : Int32) (s2 : Int32) (h : am_H) (o : am_O) (l0 : lv.lookup 0 = some (Value.float 0)) (l1 : lv.lookup 1 = some x1) (l2 : lv.lookup 2 = some x2) (l3 : lv.lookup 3 = some x3) (l4 : lv.lookup 4 = some (.int x4)) (l5 : lv.lookup 5 = some (.int x5)) (i1 : am_isR x1 = true) (i2 : am_isR x2 = true) (i3 : am_isR x3 = true) (j0 : am_isR s0 = true) (hs : fg_0_1638 X N rec_23 x1 x2 x3 x4 x5 s0 s1 s2 h = some o) : am_W X (d + 164) 0 1638 lv [(.int s2), (.int s1), s0] h (fun q => q = o) := by
  unfold fg_0_1638 at hs
  refine aw_vload_n (pc1 := 1639) at_0_1638 l0 rfl rfl ?_
  refine aw_iload (pc1 := 1641) at_0_1639 l4 rfl ?_
  refine aw_iconst (v := 3) (pc1 := 1642) at_0_1641 (by decide) rfl ?_
  refine aw_iadd (v := (x4 + 3)) (pc1 := 1643) at_0_1642 rfl rfl ?_
  obtain ⟨v1, e2, hs1⟩ := am_bind hs
  clear hs
  refine aw_pX (j := 0) (pc1 := 1644) at_0_1643 rfl rfl e2 rfl ?_
  obtain ⟨z3, hs2⟩ := am_ift hs1
  clear hs1
  refine aw_call (F := fm_427 N s0 s1 s2 v1 h) (t := true) (na := 4) (kd := 1) (as := [s0, (.int s1), (.int s2), (.int v1)]) at_0_1644 (am_k3v kb_427) mn_427 mk_427 rfl rfl (am_ok_v mi_427 (am_hl rfl (am_ccR j0 (am_ccI (am_ccI (am_ccI am_cats_0)))) rfl) z3) (am_hc am_cats_0 rfl) (fun _ => ⟨rfl, hh_0⟩) (fun o1 hz9 => rm_427 s0 s1 s2 v1 h o1 j0 hz9) ?_
  rcases am_cL_s hs2 with ⟨v4, h5, f6, hs3⟩ | hs3
  · clear hs2
    refine Or.inl ⟨_, _, f6, ?_⟩
    show am_W X _ 0 1647 _ [(.long v4)] h5 _
    refine aw_lstore (lv1 := am_put2 _ 6 _) (pc1 := 1649) at_0_1647 rfl rfl ?_
    refine aw_vload_n (pc1 := 1650) at_0_1649 (am_lk2 l2 rfl rfl) i2 rfl ?_
    obtain ⟨z7, hs4⟩ := am_ift hs3
    clear hs3
    refine aw_call (F := fm_324 x2 h5) (t := true) (na := 1) (kd := 1) (as := [x2]) at_0_1650 (am_k3v kb_324) mn_324 mk_324 rfl rfl (am_ok_v mi_324 (am_hl rfl (am_ccR i2 am_cats_0) rfl) z7) (am_hc am_cats_0 rfl) (fun _ => ⟨rfl, hh_0⟩) (fun o1 hz9 => rm_324 x2 h5 o1 i2 hz9) ?_
    rcases am_cI_s hs4 with ⟨v8, h9, f10, hs5⟩ | hs5
    · clear hs4
      refine Or.inl ⟨_, _, f10, ?_⟩
      show am_W X _ 0 1653 _ [(.int v8)] h9 _
      refine aw_iload (pc1 := 1655) at_0_1653 (am_lk2 l5 rfl rfl) rfl ?_
      by_cases c11 : v8 = x5
      · rw [if_pos c11] at hs5
        refine aw_iceq_t at_0_1655 c11 ?_
        refine aw_iload (pc1 := 1662) at_0_1660 (am_lk2 l5 rfl rfl) rfl ?_
        by_cases c12 : ¬ x5 = 0
        · rw [if_pos c12] at hs5
          refine aw_ifne_t at_0_1662 c12 ?_
          exact rg_0_1676 q_23 x1 x2 x3 x4 h9 o (am_lk2 l0 rfl rfl) (am_lk2 l1 rfl rfl) (am_lk2 l2 rfl rfl) (am_lk2 l3 rfl rfl) (am_lk2 l4 rfl rfl) i1 i2 i3 hs5
        · rw [if_neg c12] at hs5
          refine aw_ifne_f (pc1 := 1665) at_0_1662 c12 rfl ?_
          refine aw_vload_n (pc1 := 1666) at_0_1665 (am_lk2 l3 rfl rfl) i3 rfl ?_
          refine aw_iconst (v := 0) (pc1 := 1667) at_0_1666 (by decide) rfl ?_
          obtain ⟨v13, e14, hs6⟩ := am_bind hs5
          clear hs5
          refine aw_pAL (pc1 := 1668) at_0_1667 e14 rfl ?_
          refine aw_lload (pc1 := 1670) at_0_1668 am_lk02 rfl ?_
          refine aw_lcmp (v := (lg_cmp v13 v4)) (pc1 := 1671) at_0_1670 rfl rfl ?_
          by_cases c15 : (lg_cmp v13 v4) = 0
          · rw [if_pos c15] at hs6
            refine aw_ifeq_t at_0_1671 c15 ?_
            exact rg_0_1676 q_23 x1 x2 x3 x4 h9 o (am_lk2 l0 rfl rfl) (am_lk2 l1 rfl rfl) (am_lk2 l2 rfl rfl) (am_lk2 l3 rfl rfl) (am_lk2 l4 rfl rfl) i1 i2 i3 hs6
          · rw [if_neg c15] at hs6
            refine aw_ifeq_f (pc1 := 1674) at_0_1671 c15 rfl ?_
            refine aw_iconst (v := 0) (pc1 := 1675) at_0_1674 (by decide) rfl ?_
            cases hs6
            exact aw_iret at_0_1675 (by rw [rt_0]; decide) rfl
      · rw [if_neg c11] at hs5
        refine aw_iceq_f (pc1 := 1658) at_0_1655 c11 rfl ?_
        refine aw_iconst (v := 0) (pc1 := 1659) at_0_1658 (by decide) rfl ?_
        cases hs5
        exact aw_iret at_0_1659 (by rw [rt_0]; decide) rfl
    · clear hs4
      exact Or.inr hs5
  · clear hs2
    exact Or.inr hs3
def fg_0_1605 (X : am_X) (N : Nat) (rec_23 : Value → Value → Value → Int32 → am_H → Option am_O) (x1 : Value) (x2 : Value) (x3 : Value) (x4 : Int32) (s0 : Value) (s1 : Int32) (s2 : Int32) (h : am_H) : Option am_O := ((am_pX X 0 (x4 + 3)).bind fun v1 => am_cI false (fm_137 N s0 s1 s2 v1 x3 h) (fun v3 h4 => ((am_pX X 0 (x4 + 1)).bind fun v6 => ((am_pX X 0 (x4 + 2)).bind fun v8 => (if v8 = 0 then (fg_0_1638 X N rec_23 x1 x2 x3 x4 v3 x2 v6 0 h4) else (fg_0_1638 X N rec_23 x1 x2 x3 x4 v3 x2 v6 1 h4))))))
theorem rg_0_1605 {X : am_X} {d : Nat} {N : Nat} {rec_23 : Value → Value → Value → Int32 → am_H → Option am_O} (q_23 : ∀ (x1 : Value) (x2 : Value) (x3 : Value) (x4 : Int32) (h : am_H) (o : am_O), rec_23 x1 x2 x3 x4 h = some o → ∀ lv : am_LV, (lv.lookup 0 = some (Value.float 0)) → (lv.lookup 1 = some x1) → (lv.lookup 2 = some x2) → (lv.lookup 3 = some x3) → (lv.lookup 4 = some (.int x4)) → (am_isR x1 = true) → (am_isR x2 = true) → (am_isR x3 = true) → am_W X (d + 164) 0 23 lv [] h (fun q => q = o)) {lv : am_LV} (x1 : Value) (x2 : Value) (x3 : Value) (x4 : Int32) (s0 : Value) (s1 : Int32) (s2 : Int32) (h : am_H) (o : am_O) (l0 : lv.lookup 0 = some (Value.float 0)) (l1 : lv.lookup 1 = some x1) (l2 : lv.lookup 2 = some x2) (l3 : lv.lookup 3 = some x3) (l4 : lv.lookup 4 = some (.int x4)) (i1 : am_isR x1 = true) (i2 : am_isR x2 = true) (i3 : am_isR x3 = true) (j0 : am_isR s0 = true) (hs : fg_0_1605 X N rec_23 x1 x2 x3 x4 s0 s1 s2 h = some o) : am_W X (d + 164) 0 1605 lv [(.int s2), (.int s1), s0] h (fun q => q = o) := by
  unfold fg_0_1605 at hs
  refine aw_vload_n (pc1 := 1606) at_0_1605 l0 rfl rfl ?_
  refine aw_iload (pc1 := 1608) at_0_1606 l4 rfl ?_
  refine aw_iconst (v := 3) (pc1 := 1609) at_0_1608 (by decide) rfl ?_
  refine aw_iadd (v := (x4 + 3)) (pc1 := 1610) at_0_1609 rfl rfl ?_
  obtain ⟨v1, e2, hs1⟩ := am_bind hs
  clear hs
  refine aw_pX (j := 0) (pc1 := 1611) at_0_1610 rfl rfl e2 rfl ?_
  refine aw_vload_n (pc1 := 1612) at_0_1611 l3 i3 rfl ?_
  refine aw_call (F := fm_137 N s0 s1 s2 v1 x3 h) (t := false) (na := 5) (kd := 0) (as := [s0, (.int s1), (.int s2), (.int v1), x3]) at_0_1612 (am_k3s kb_137) mn_137 mk_137 rfl rfl (am_ok_s mi_137 (am_hl rfl (am_ccR j0 (am_ccI (am_ccI (am_ccI (am_ccR i3 am_cats_0))))) rfl)) (am_hc am_cats_0 rfl) (fun hz9 => by cases hz9) (fun o1 hz9 => rm_137 s0 s1 s2 v1 x3 h o1 j0 i3 hz9) ?_
  rcases am_cI_s hs1 with ⟨v3, h4, f5, hs2⟩ | hs2
  · clear hs1
    refine Or.inl ⟨_, _, f5, ?_⟩
    show am_W X _ 0 1615 _ [(.int v3)] h4 _
    refine aw_istore (lv1 := am_put1 _ 5 _) (pc1 := 1617) at_0_1615 rfl rfl ?_
    refine aw_vload_n (pc1 := 1618) at_0_1617 (am_lk1 l2 rfl rfl) i2 rfl ?_
    refine aw_vload_n (pc1 := 1619) at_0_1618 (am_lk1 l0 rfl rfl) rfl rfl ?_
    refine aw_iload (pc1 := 1621) at_0_1619 (am_lk1 l4 rfl rfl) rfl ?_
    refine aw_iconst (v := 1) (pc1 := 1622) at_0_1621 (by decide) rfl ?_
    refine aw_iadd (v := (x4 + 1)) (pc1 := 1623) at_0_1622 rfl rfl ?_
    obtain ⟨v6, e7, hs3⟩ := am_bind hs2
    clear hs2
    refine aw_pX (j := 0) (pc1 := 1624) at_0_1623 rfl rfl e7 rfl ?_
    refine aw_vload_n (pc1 := 1625) at_0_1624 (am_lk1 l0 rfl rfl) rfl rfl ?_
    refine aw_iload (pc1 := 1627) at_0_1625 (am_lk1 l4 rfl rfl) rfl ?_
    refine aw_iconst (v := 2) (pc1 := 1628) at_0_1627 (by decide) rfl ?_
    refine aw_iadd (v := (x4 + 2)) (pc1 := 1629) at_0_1628 rfl rfl ?_
    obtain ⟨v8, e9, hs4⟩ := am_bind hs3
    clear hs3
    refine aw_pX (j := 0) (pc1 := 1630) at_0_1629 rfl rfl e9 rfl ?_
    by_cases c10 : v8 = 0
    · rw [if_pos c10] at hs4
      refine aw_ifeq_t at_0_1630 c10 ?_
      refine aw_iconst (v := 0) (pc1 := 1638) at_0_1637 (by decide) rfl ?_
      exact rg_0_1638 q_23 x1 x2 x3 x4 v3 x2 v6 0 h4 o (am_lk1 l0 rfl rfl) (am_lk1 l1 rfl rfl) (am_lk1 l2 rfl rfl) (am_lk1 l3 rfl rfl) (am_lk1 l4 rfl rfl) am_lk0 i1 i2 i3 i2 hs4
    · rw [if_neg c10] at hs4
      refine aw_ifeq_f (pc1 := 1633) at_0_1630 c10 rfl ?_
      refine aw_iconst (v := 1) (pc1 := 1634) at_0_1633 (by decide) rfl ?_
      refine aw_goto at_0_1634 ?_
      exact rg_0_1638 q_23 x1 x2 x3 x4 v3 x2 v6 1 h4 o (am_lk1 l0 rfl rfl) (am_lk1 l1 rfl rfl) (am_lk1 l2 rfl rfl) (am_lk1 l3 rfl rfl) (am_lk1 l4 rfl rfl) am_lk0 i1 i2 i3 i2 hs4
  · clear hs1
    exact Or.inr hs2
def fg_0_1581 (X : am_X) (N : Nat) (rec_23 : Value → Value → Value → Int32 → am_H → Option am_O) (x1 : Value) (x2 : Value) (x3 : Value) (x4 : Int32) (h : am_H) : Option am_O := (fg_0_4192 X N rec_23 x1 x2 x3 x4 h)
theorem rg_0_1581 {X : am_X} {d : Nat} {N : Nat} {rec_23 : Value → Value → Value → Int32 → am_H → Option am_O} (q_23 : ∀ (x1 : Value) (x2 : Value) (x3 : Value) (x4 : Int32) (h : am_H) (o : am_O), rec_23 x1 x2 x3 x4 h = some o → ∀ lv : am_LV, (lv.lookup 0 = some (Value.float 0)) → (lv.lookup 1 = some x1) → (lv.lookup 2 = some x2) → (lv.lookup 3 = some x3) → (lv.lookup 4 = some (.int x4)) → (am_isR x1 = true) → (am_isR x2 = true) → (am_isR x3 = true) → am_W X (d + 164) 0 23 lv [] h (fun q => q = o)) {lv : am_LV} (x1 : Value) (x2 : Value) (x3 : Value) (x4 : Int32) (h : am_H) (o : am_O) (l0 : lv.lookup 0 = some (Value.float 0)) (l1 : lv.lookup 1 = some x1) (l2 : lv.lookup 2 = some x2) (l3 : lv.lookup 3 = some x3) (l4 : lv.lookup 4 = some (.int x4)) (i1 : am_isR x1 = true) (i2 : am_isR x2 = true) (i3 : am_isR x3 = true) (hs : fg_0_1581 X N rec_23 x1 x2 x3 x4 h = some o) : am_W X (d + 164) 0 1581 lv [] h (fun q => q = o) := by
  unfold fg_0_1581 at hs
  refine aw_goto at_0_1581 ?_
  exact rg_0_4192 q_23 x1 x2 x3 x4 h o l0 l1 l2 l3 l4 i1 i2 i3 hs
def fg_0_1487 (X : am_X) (N : Nat) (rec_23 : Value → Value → Value → Int32 → am_H → Option am_O) (x1 : Value) (x2 : Value) (x3 : Value) (x4 : Int32) (h : am_H) : Option am_O := (fg_0_4192 X N rec_23 x1 x2 x3 x4 h)
theorem rg_0_1487 {X : am_X} {d : Nat} {N : Nat} {rec_23 : Value → Value → Value → Int32 → am_H → Option am_O} (q_23 : ∀ (x1 : Value) (x2 : Value) (x3 : Value) (x4 : Int32) (h : am_H) (o : am_O), rec_23 x1 x2 x3 x4 h = some o → ∀ lv : am_LV, (lv.lookup 0 = some (Value.float 0)) → (lv.lookup 1 = some x1) → (lv.lookup 2 = some x2) → (lv.lookup 3 = some x3) → (lv.lookup 4 = some (.int x4)) → (am_isR x1 = true) → (am_isR x2 = true) → (am_isR x3 = true) → am_W X (d + 164) 0 23 lv [] h (fun q => q = o)) {lv : am_LV} (x1 : Value) (x2 : Value) (x3 : Value) (x4 : Int32) (h : am_H) (o : am_O) (l0 : lv.lookup 0 = some (Value.float 0)) (l1 : lv.lookup 1 = some x1) (l2 : lv.lookup 2 = some x2) (l3 : lv.lookup 3 = some x3) (l4 : lv.lookup 4 = some (.int x4)) (i1 : am_isR x1 = true) (i2 : am_isR x2 = true) (i3 : am_isR x3 = true) (hs : fg_0_1487 X N rec_23 x1 x2 x3 x4 h = some o) : am_W X (d + 164) 0 1487 lv [] h (fun q => q = o) := by
  unfold fg_0_1487 at hs
  refine aw_goto at_0_1487 ?_
  exact rg_0_4192 q_23 x1 x2 x3 x4 h o l0 l1 l2 l3 l4 i1 i2 i3 hs
def fg_0_1395 (X : am_X) (N : Nat) (rec_23 : Value → Value → Value → Int32 → am_H → Option am_O) (x1 : Value) (x2 : Value) (x3 : Value) (x4 : Int32) (h : am_H) : Option am_O := (fg_0_4192 X N rec_23 x1 x2 x3 x4 h)
theorem rg_0_1395 {X : am_X} {d : Nat} {N : Nat} {rec_23 : Value → Value → Value → Int32 → am_H → Option am_O} (q_23 : ∀ (x1 : Value) (x2 : Value) (x3 : Value) (x4 : Int32) (h : am_H) (o : am_O), rec_23 x1 x2 x3 x4 h = some o → ∀ lv : am_LV, (lv.lookup 0 = some (Value.float 0)) → (lv.lookup 1 = some x1) → (lv.lookup 2 = some x2) → (lv.lookup 3 = some x3) → (lv.lookup 4 = some (.int x4)) → (am_isR x1 = true) → (am_isR x2 = true) → (am_isR x3 = true) → am_W X (d + 164) 0 23 lv [] h (fun q => q = o)) {lv : am_LV} (x1 : Value) (x2 : Value) (x3 : Value) (x4 : Int32) (h : am_H) (o : am_O) (l0 : lv.lookup 0 = some (Value.float 0)) (l1 : lv.lookup 1 = some x1) (l2 : lv.lookup 2 = some x2) (l3 : lv.lookup 3 = some x3) (l4 : lv.lookup 4 = some (.int x4)) (i1 : am_isR x1 = true) (i2 : am_isR x2 = true) (i3 : am_isR x3 = true) (hs : fg_0_1395 X N rec_23 x1 x2 x3 x4 h = some o) : am_W X (d + 164) 0 1395 lv [] h (fun q => q = o) := by
  unfold fg_0_1395 at hs
  refine aw_goto at_0_1395 ?_
  exact rg_0_4192 q_23 x1 x2 x3 x4 h o l0 l1 l2 l3 l4 i1 i2 i3 hs
def fg_0_1327 (X : am_X) (N : Nat) (rec_23 : Value → Value → Value → Int32 → am_H → Option am_O) (x1 : Value) (x2 : Value) (x3 : Value) (x4 : Int32) (h : am_H) : Option am_O := (fg_0_4192 X N rec_23 x1 x2 x3 x4 h)
theorem rg_0_1327 {X : am_X} {d : Nat} {N : Nat} {rec_23 : Value → Value → Value → Int32 → am_H → Option am_O} (q_23 : ∀ (x1 : Value) (x2 : Value) (x3 : Value) (x4 : Int32) (h : am_H) (o : am_O), rec_23 x1 x2 x3 x4 h = some o → ∀ lv : am_LV, (lv.lookup 0 = some (Value.float 0)) → (lv.lookup 1 = some x1) → (lv.lookup 2 = some x2) → (lv.lookup 3 = some x3) → (lv.lookup 4 = some (.int x4)) → (am_isR x1 = true) → (am_isR x2 = true) → (am_isR x3 = true) → am_W X (d + 164) 0 23 lv [] h (fun q => q = o)) {lv : am_LV} (x1 : Value) (x2 : Value) (x3 : Value) (x4 : Int32) (h : am_H) (o : am_O) (l0 : lv.lookup 0 = some (Value.float 0)) (l1 : lv.lookup 1 = some x1) (l2 : lv.lookup 2 = some x2) (l3 : lv.lookup 3 = some x3) (l4 : lv.lookup 4 = some (.int x4)) (i1 : am_isR x1 = true) (i2 : am_isR x2 = true) (i3 : am_isR x3 = true) (hs : fg_0_1327 X N rec_23 x1 x2 x3 x4 h = some o) : am_W X (d + 164) 0 1327 lv [] h (fun q => q = o) := by
  unfold fg_0_1327 at hs
  refine aw_goto at_0_1327 ?_
  exact rg_0_4192 q_23 x1 x2 x3 x4 h o l0 l1 l2 l3 l4 i1 i2 i3 hs
def fg_0_1246 (X : am_X) (N : Nat) (rec_23 : Value → Value → Value → Int32 → am_H → Option am_O) (x1 : Value) (x2 : Value) (x3 : Value) (x4 : Int32) (h : am_H) : Option am_O := (fg_0_4192 X N rec_23 x1 x2 x3 x4 h)
theorem rg_0_1246 {X : am_X} {d : Nat} {N : Nat} {rec_23 : Value → Value → Value → Int32 → am_H → Option am_O} (q_23 : ∀ (x1 : Value) (x2 : Value) (x3 : Value) (x4 : Int32) (h : am_H) (o : am_O), rec_23 x1 x2 x3 x4 h = some o → ∀ lv : am_LV, (lv.lookup 0 = some (Value.float 0)) → (lv.lookup 1 = some x1) → (lv.lookup 2 = some x2) → (lv.lookup 3 = some x3) → (lv.lookup 4 = some (.int x4)) → (am_isR x1 = true) → (am_isR x2 = true) → (am_isR x3 = true) → am_W X (d + 164) 0 23 lv [] h (fun q => q = o)) {lv : am_LV} (x1 : Value) (x2 : Value) (x3 : Value) (x4 : Int32) (h : am_H) (o : am_O) (l0 : lv.lookup 0 = some (Value.float 0)) (l1 : lv.lookup 1 = some x1) (l2 : lv.lookup 2 = some x2) (l3 : lv.lookup 3 = some x3) (l4 : lv.lookup 4 = some (.int x4)) (i1 : am_isR x1 = true) (i2 : am_isR x2 = true) (i3 : am_isR x3 = true) (hs : fg_0_1246 X N rec_23 x1 x2 x3 x4 h = some o) : am_W X (d + 164) 0 1246 lv [] h (fun q => q = o) := by
  unfold fg_0_1246 at hs
  refine aw_goto at_0_1246 ?_
  exact rg_0_4192 q_23 x1 x2 x3 x4 h o l0 l1 l2 l3 l4 i1 i2 i3 hs
def fg_0_1190 (X : am_X) (N : Nat) (rec_23 : Value → Value → Value → Int32 → am_H → Option am_O) (x1 : Value) (x2 : Value) (x3 : Value) (x4 : Int32) (h : am_H) : Option am_O := (fg_0_4192 X N rec_23 x1 x2 x3 x4 h)
theorem rg_0_1190 {X : am_X} {d : Nat} {N : Nat} {rec_23 : Value → Value → Value → Int32 → am_H → Option am_O} (q_23 : ∀ (x1 : Value) (x2 : Value) (x3 : Value) (x4 : Int32) (h : am_H) (o : am_O), rec_23 x1 x2 x3 x4 h = some o → ∀ lv : am_LV, (lv.lookup 0 = some (Value.float 0)) → (lv.lookup 1 = some x1) → (lv.lookup 2 = some x2) → (lv.lookup 3 = some x3) → (lv.lookup 4 = some (.int x4)) → (am_isR x1 = true) → (am_isR x2 = true) → (am_isR x3 = true) → am_W X (d + 164) 0 23 lv [] h (fun q => q = o)) {lv : am_LV} (x1 : Value) (x2 : Value) (x3 : Value) (x4 : Int32) (h : am_H) (o : am_O) (l0 : lv.lookup 0 = some (Value.float 0)) (l1 : lv.lookup 1 = some x1) (l2 : lv.lookup 2 = some x2) (l3 : lv.lookup 3 = some x3) (l4 : lv.lookup 4 = some (.int x4)) (i1 : am_isR x1 = true) (i2 : am_isR x2 = true) (i3 : am_isR x3 = true) (hs : fg_0_1190 X N rec_23 x1 x2 x3 x4 h = some o) : am_W X (d + 164) 0 1190 lv [] h (fun q => q = o) := by
  unfold fg_0_1190 at hs
  refine aw_goto at_0_1190 ?_
  exact rg_0_4192 q_23 x1 x2 x3 x4 h o l0 l1 l2 l3 l4 i1 i2 i3 hs
def fg_0_1157 (X : am_X) (N : Nat) (rec_23 : Value → Value → Value → Int32 → am_H → Option am_O) (x1 : Value) (x2 : Value) (x3 : Value) (x4 : Int32) (x5 : Int32) (s0 : Value) (s1 : Int32) (s2 : Int32) (s3 : Int32) (s4 : Int32) (s5 : Int32) (s6 : Int32) (h : am_H) : Option am_O := (if am_pOk 12 s0 h then am_cI true (fm_396 N s0 s1 s2 s3 s4 s5 s6 h) (fun v2 h3 => (if am_pOk 12 x2 h3 then am_cI true (fm_324 x2 h3) (fun v6 h7 => (if v6 = x5 then (if ¬ x5 = 0 then (fg_0_1190 X N rec_23 x1 x2 x3 x4 h7) else ((am_pAL x3 0 h7).bind fun v11 => (if (lg_cmp v11 (Int32.toInt64 v2)) = 0 then (fg_0_1190 X N rec_23 x1 x2 x3 x4 h7) else some (.inl (some (.int 0), h7))))) else some (.inl (some (.int 0), h7)))) else none)) else none)
theorem rg_0_1157 {X : am_X} {d : Nat} {N : Nat} {rec_23 : Value → Value → Value → Int32 → am_H → Option am_O} (q_23 : ∀ (x1 : Value) (x2 : Value) (x3 : Value) (x4 : Int32) (h : am_H) (o : am_O), rec_23 x1 x2 x3 x4 h = some o → ∀ lv : am_LV, (lv.lookup 0 = some (Value.float 0)) → (lv.lookup 1 = some x1) → (lv.lookup 2 = some x2) → (lv.lookup 3 = some x3) → (lv.lookup 4 = some (.int x4)) → (am_isR x1 = true) → (am_isR x2 = true) → (am_isR x3 = true) → am_W X (d + 164) 0 23 lv [] h (fun q => q = o)) {lv : am_LV} (x1 : Value) (x2 : Value) (x3 : Value) (x4 : Int32) (x5 : Int32) (s0 : Value) (s1 : Int32) (s2 : Int32) (s3 : Int32) (s4 : Int32) (s5 : Int32) (s6 : Int32) (h : am_H) (o : am_O) (l0 : lv.lookup 0 = some (Value.float 0)) (l1 : lv.lookup 1 = some x1) (l2 : lv.lookup 2 = some x2) (l3 : lv.lookup 3 = some x3) (l4 : lv.lookup 4 = some (.int x4)) (l5 : lv.lookup 5 = some (.int x5)) (i1 : am_isR x1 = true) (i2 : am_isR x2 = true) (i3 : am_isR x3 = true) (j0 : am_isR s0 = true) (hs : fg_0_1157 X N rec_23 x1 x2 x3 x4 x5 s0 s1 s2 s3 s4 s5 s6 h = some o) : am_W X (d + 164) 0 1157 lv [(.int s6), (.int s5), (.int s4), (.int s3), (.int s2), (.int s1), s0] h (fun q => q = o) := by
  unfold fg_0_1157 at hs
  obtain ⟨z1, hs1⟩ := am_ift hs
  clear hs
  refine aw_call (F := fm_396 N s0 s1 s2 s3 s4 s5 s6 h) (t := true) (na := 7) (kd := 1) (as := [s0, (.int s1), (.int s2), (.int s3), (.int s4), (.int s5), (.int s6)]) at_0_1157 (am_k3v kb_396) mn_396 mk_396 rfl rfl (am_ok_v mi_396 (am_hl rfl (am_ccR j0 (am_ccI (am_ccI (am_ccI (am_ccI (am_ccI (am_ccI am_cats_0))))))) rfl) z1) (am_hc am_cats_0 rfl) (fun _ => ⟨rfl, hh_0⟩) (fun o1 hz9 => rm_396 s0 s1 s2 s3 s4 s5 s6 h o1 j0 hz9) ?_
  rcases am_cI_s hs1 with ⟨v2, h3, f4, hs2⟩ | hs2
  · clear hs1
    refine Or.inl ⟨_, _, f4, ?_⟩
    show am_W X _ 0 1160 _ [(.int v2)] h3 _
    refine aw_istore (lv1 := am_put1 _ 6 _) (pc1 := 1162) at_0_1160 rfl rfl ?_
    refine aw_vload_n (pc1 := 1163) at_0_1162 (am_lk1 l2 rfl rfl) i2 rfl ?_
    obtain ⟨z5, hs3⟩ := am_ift hs2
    clear hs2
    refine aw_call (F := fm_324 x2 h3) (t := true) (na := 1) (kd := 1) (as := [x2]) at_0_1163 (am_k3v kb_324) mn_324 mk_324 rfl rfl (am_ok_v mi_324 (am_hl rfl (am_ccR i2 am_cats_0) rfl) z5) (am_hc am_cats_0 rfl) (fun _ => ⟨rfl, hh_0⟩) (fun o1 hz9 => rm_324 x2 h3 o1 i2 hz9) ?_
    rcases am_cI_s hs3 with ⟨v6, h7, f8, hs4⟩ | hs4
    · clear hs3
      refine Or.inl ⟨_, _, f8, ?_⟩
      show am_W X _ 0 1166 _ [(.int v6)] h7 _
      refine aw_iload (pc1 := 1168) at_0_1166 (am_lk1 l5 rfl rfl) rfl ?_
      by_cases c9 : v6 = x5
      · rw [if_pos c9] at hs4
        refine aw_iceq_t at_0_1168 c9 ?_
        refine aw_iload (pc1 := 1175) at_0_1173 (am_lk1 l5 rfl rfl) rfl ?_
        by_cases c10 : ¬ x5 = 0
        · rw [if_pos c10] at hs4
          refine aw_ifne_t at_0_1175 c10 ?_
          exact rg_0_1190 q_23 x1 x2 x3 x4 h7 o (am_lk1 l0 rfl rfl) (am_lk1 l1 rfl rfl) (am_lk1 l2 rfl rfl) (am_lk1 l3 rfl rfl) (am_lk1 l4 rfl rfl) i1 i2 i3 hs4
        · rw [if_neg c10] at hs4
          refine aw_ifne_f (pc1 := 1178) at_0_1175 c10 rfl ?_
          refine aw_vload_n (pc1 := 1179) at_0_1178 (am_lk1 l3 rfl rfl) i3 rfl ?_
          refine aw_iconst (v := 0) (pc1 := 1180) at_0_1179 (by decide) rfl ?_
          obtain ⟨v11, e12, hs5⟩ := am_bind hs4
          clear hs4
          refine aw_pAL (pc1 := 1181) at_0_1180 e12 rfl ?_
          refine aw_iload (pc1 := 1183) at_0_1181 am_lk0 rfl ?_
          refine aw_i2l (v := (Int32.toInt64 v2)) (pc1 := 1184) at_0_1183 rfl rfl ?_
          refine aw_lcmp (v := (lg_cmp v11 (Int32.toInt64 v2))) (pc1 := 1185) at_0_1184 rfl rfl ?_
          by_cases c13 : (lg_cmp v11 (Int32.toInt64 v2)) = 0
          · rw [if_pos c13] at hs5
            refine aw_ifeq_t at_0_1185 c13 ?_
            exact rg_0_1190 q_23 x1 x2 x3 x4 h7 o (am_lk1 l0 rfl rfl) (am_lk1 l1 rfl rfl) (am_lk1 l2 rfl rfl) (am_lk1 l3 rfl rfl) (am_lk1 l4 rfl rfl) i1 i2 i3 hs5
          · rw [if_neg c13] at hs5
            refine aw_ifeq_f (pc1 := 1188) at_0_1185 c13 rfl ?_
            refine aw_iconst (v := 0) (pc1 := 1189) at_0_1188 (by decide) rfl ?_
            cases hs5
            exact aw_iret at_0_1189 (by rw [rt_0]; decide) rfl
      · rw [if_neg c9] at hs4
        refine aw_iceq_f (pc1 := 1171) at_0_1168 c9 rfl ?_
        refine aw_iconst (v := 0) (pc1 := 1172) at_0_1171 (by decide) rfl ?_
        cases hs4
        exact aw_iret at_0_1172 (by rw [rt_0]; decide) rfl
    · clear hs3
      exact Or.inr hs4
  · clear hs1
    exact Or.inr hs2
def fg_0_1105 (X : am_X) (N : Nat) (rec_23 : Value → Value → Value → Int32 → am_H → Option am_O) (x1 : Value) (x2 : Value) (x3 : Value) (x4 : Int32) (s0 : Value) (s1 : Int32) (s2 : Int32) (s3 : Int32) (s4 : Int32) (s5 : Int32) (s6 : Int32) (h : am_H) : Option am_O := am_cI false (fm_103 N s0 s1 s2 s3 s4 s5 s6 x3 h) (fun v1 h2 => ((am_pX X 0 (x4 + 1)).bind fun v4 => ((am_pX X 0 (x4 + 2)).bind fun v6 => ((am_pX X 0 (x4 + 3)).bind fun v8 => ((am_pX X 0 (x4 + 4)).bind fun v10 => ((am_pX X 0 (x4 + 5)).bind fun v12 => ((am_pX X 0 (x4 + 6)).bind fun v14 => (if v14 = 0 then (fg_0_1157 X N rec_23 x1 x2 x3 x4 v1 x2 v4 v6 v8 v10 v12 0 h2) else (fg_0_1157 X N rec_23 x1 x2 x3 x4 v1 x2 v4 v6 v8 v10 v12 1 h2)))))))))
theorem rg_0_1105 {X : am_X} {d : Nat} {N : Nat} {rec_23 : Value → Value → Value → Int32 → am_H → Option am_O} (q_23 : ∀ (x1 : Value) (x2 : Value) (x3 : Value) (x4 : Int32) (h : am_H) (o : am_O), rec_23 x1 x2 x3 x4 h = some o → ∀ lv : am_LV, (lv.lookup 0 = some (Value.float 0)) → (lv.lookup 1 = some x1) → (lv.lookup 2 = some x2) → (lv.lookup 3 = some x3) → (lv.lookup 4 = some (.int x4)) → (am_isR x1 = true) → (am_isR x2 = true) → (am_isR x3 = true) → am_W X (d + 164) 0 23 lv [] h (fun q => q = o)) {lv : am_LV} (x1 : Value) (x2 : Value) (x3 : Value) (x4 : Int32) (s0 : Value) (s1 : Int32) (s2 : Int32) (s3 : Int32) (s4 : Int32) (s5 : Int32) (s6 : Int32) (h : am_H) (o : am_O) (l0 : lv.lookup 0 = some (Value.float 0)) (l1 : lv.lookup 1 = some x1) (l2 : lv.lookup 2 = some x2) (l3 : lv.lookup 3 = some x3) (l4 : lv.lookup 4 = some (.int x4)) (i1 : am_isR x1 = true) (i2 : am_isR x2 = true) (i3 : am_isR x3 = true) (j0 : am_isR s0 = true) (hs : fg_0_1105 X N rec_23 x1 x2 x3 x4 s0 s1 s2 s3 s4 s5 s6 h = some o) : am_W X (d + 164) 0 1105 lv [(.int s6), (.int s5), (.int s4), (.int s3), (.int s2), (.int s1), s0] h (fun q => q = o) := by
  unfold fg_0_1105 at hs
  refine aw_vload_n (pc1 := 1106) at_0_1105 l3 i3 rfl ?_
  refine aw_call (F := fm_103 N s0 s1 s2 s3 s4 s5 s6 x3 h) (t := false) (na := 8) (kd := 0) (as := [s0, (.int s1), (.int s2), (.int s3), (.int s4), (.int s5), (.int s6), x3]) at_0_1106 (am_k3s kb_103) mn_103 mk_103 rfl rfl (am_ok_s mi_103 (am_hl rfl (am_ccR j0 (am_ccI (am_ccI (am_ccI (am_ccI (am_ccI (am_ccI (am_ccR i3 am_cats_0)))))))) rfl)) (am_hc am_cats_0 rfl) (fun hz9 => by cases hz9) (fun o1 hz9 => rm_103 s0 s1 s2 s3 s4 s5 s6 x3 h o1 j0 i3 hz9) ?_
  rcases am_cI_s hs with ⟨v1, h2, f3, hs1⟩ | hs1
  · clear hs
    refine Or.inl ⟨_, _, f3, ?_⟩
    show am_W X _ 0 1109 _ [(.int v1)] h2 _
    refine aw_istore (lv1 := am_put1 _ 5 _) (pc1 := 1111) at_0_1109 rfl rfl ?_
    refine aw_vload_n (pc1 := 1112) at_0_1111 (am_lk1 l2 rfl rfl) i2 rfl ?_
    refine aw_vload_n (pc1 := 1113) at_0_1112 (am_lk1 l0 rfl rfl) rfl rfl ?_
    refine aw_iload (pc1 := 1115) at_0_1113 (am_lk1 l4 rfl rfl) rfl ?_
    refine aw_iconst (v := 1) (pc1 := 1116) at_0_1115 (by decide) rfl ?_
    refine aw_iadd (v := (x4 + 1)) (pc1 := 1117) at_0_1116 rfl rfl ?_
    obtain ⟨v4, e5, hs2⟩ := am_bind hs1
    clear hs1
    refine aw_pX (j := 0) (pc1 := 1118) at_0_1117 rfl rfl e5 rfl ?_
    refine aw_vload_n (pc1 := 1119) at_0_1118 (am_lk1 l0 rfl rfl) rfl rfl ?_
    refine aw_iload (pc1 := 1121) at_0_1119 (am_lk1 l4 rfl rfl) rfl ?_
    refine aw_iconst (v := 2) (pc1 := 1122) at_0_1121 (by decide) rfl ?_
    refine aw_iadd (v := (x4 + 2)) (pc1 := 1123) at_0_1122 rfl rfl ?_
    obtain ⟨v6, e7, hs3⟩ := am_bind hs2
    clear hs2
    refine aw_pX (j := 0) (pc1 := 1124) at_0_1123 rfl rfl e7 rfl ?_
    refine aw_vload_n (pc1 := 1125) at_0_1124 (am_lk1 l0 rfl rfl) rfl rfl ?_
    refine aw_iload (pc1 := 1127) at_0_1125 (am_lk1 l4 rfl rfl) rfl ?_
    refine aw_iconst (v := 3) (pc1 := 1128) at_0_1127 (by decide) rfl ?_
    refine aw_iadd (v := (x4 + 3)) (pc1 := 1129) at_0_1128 rfl rfl ?_
    obtain ⟨v8, e9, hs4⟩ := am_bind hs3
    clear hs3
    refine aw_pX (j := 0) (pc1 := 1130) at_0_1129 rfl rfl e9 rfl ?_
    refine aw_vload_n (pc1 := 1131) at_0_1130 (am_lk1 l0 rfl rfl) rfl rfl ?_
    refine aw_iload (pc1 := 1133) at_0_1131 (am_lk1 l4 rfl rfl) rfl ?_
    refine aw_iconst (v := 4) (pc1 := 1134) at_0_1133 (by decide) rfl ?_
    refine aw_iadd (v := (x4 + 4)) (pc1 := 1135) at_0_1134 rfl rfl ?_
    obtain ⟨v10, e11, hs5⟩ := am_bind hs4
    clear hs4
    refine aw_pX (j := 0) (pc1 := 1136) at_0_1135 rfl rfl e11 rfl ?_
    refine aw_vload_n (pc1 := 1137) at_0_1136 (am_lk1 l0 rfl rfl) rfl rfl ?_
    refine aw_iload (pc1 := 1139) at_0_1137 (am_lk1 l4 rfl rfl) rfl ?_
    refine aw_iconst (v := 5) (pc1 := 1140) at_0_1139 (by decide) rfl ?_
    refine aw_iadd (v := (x4 + 5)) (pc1 := 1141) at_0_1140 rfl rfl ?_
    obtain ⟨v12, e13, hs6⟩ := am_bind hs5
    clear hs5
    refine aw_pX (j := 0) (pc1 := 1142) at_0_1141 rfl rfl e13 rfl ?_
    refine aw_vload_n (pc1 := 1143) at_0_1142 (am_lk1 l0 rfl rfl) rfl rfl ?_
    refine aw_iload (pc1 := 1145) at_0_1143 (am_lk1 l4 rfl rfl) rfl ?_
    refine aw_bipush (v := 6) (pc1 := 1147) at_0_1145 (by decide) rfl ?_
    refine aw_iadd (v := (x4 + 6)) (pc1 := 1148) at_0_1147 rfl rfl ?_
    obtain ⟨v14, e15, hs7⟩ := am_bind hs6
    clear hs6
    refine aw_pX (j := 0) (pc1 := 1149) at_0_1148 rfl rfl e15 rfl ?_
    by_cases c16 : v14 = 0
    · rw [if_pos c16] at hs7
      refine aw_ifeq_t at_0_1149 c16 ?_
      refine aw_iconst (v := 0) (pc1 := 1157) at_0_1156 (by decide) rfl ?_
      exact rg_0_1157 q_23 x1 x2 x3 x4 v1 x2 v4 v6 v8 v10 v12 0 h2 o (am_lk1 l0 rfl rfl) (am_lk1 l1 rfl rfl) (am_lk1 l2 rfl rfl) (am_lk1 l3 rfl rfl) (am_lk1 l4 rfl rfl) am_lk0 i1 i2 i3 i2 hs7
    · rw [if_neg c16] at hs7
      refine aw_ifeq_f (pc1 := 1152) at_0_1149 c16 rfl ?_
      refine aw_iconst (v := 1) (pc1 := 1153) at_0_1152 (by decide) rfl ?_
      refine aw_goto at_0_1153 ?_
      exact rg_0_1157 q_23 x1 x2 x3 x4 v1 x2 v4 v6 v8 v10 v12 1 h2 o (am_lk1 l0 rfl rfl) (am_lk1 l1 rfl rfl) (am_lk1 l2 rfl rfl) (am_lk1 l3 rfl rfl) (am_lk1 l4 rfl rfl) am_lk0 i1 i2 i3 i2 hs7
  · clear hs
    exact Or.inr hs1
def fg_0_1031 (X : am_X) (N : Nat) (rec_23 : Value → Value → Value → Int32 → am_H → Option am_O) (x1 : Value) (x2 : Value) (x3 : Value) (x4 : Int32) (h : am_H) : Option am_O := (fg_0_4192 X N rec_23 x1 x2 x3 x4 h)
theorem rg_0_1031 {X : am_X} {d : Nat} {N : Nat} {rec_23 : Value → Value → Value → Int32 → am_H → Option am_O} (q_23 : ∀ (x1 : Value) (x2 : Value) (x3 : Value) (x4 : Int32) (h : am_H) (o : am_O), rec_23 x1 x2 x3 x4 h = some o → ∀ lv : am_LV, (lv.lookup 0 = some (Value.float 0)) → (lv.lookup 1 = some x1) → (lv.lookup 2 = some x2) → (lv.lookup 3 = some x3) → (lv.lookup 4 = some (.int x4)) → (am_isR x1 = true) → (am_isR x2 = true) → (am_isR x3 = true) → am_W X (d + 164) 0 23 lv [] h (fun q => q = o)) {lv : am_LV} (x1 : Value) (x2 : Value) (x3 : Value) (x4 : Int32) (h : am_H) (o : am_O) (l0 : lv.lookup 0 = some (Value.float 0)) (l1 : lv.lookup 1 = some x1) (l2 : lv.lookup 2 = some x2) (l3 : lv.lookup 3 = some x3) (l4 : lv.lookup 4 = some (.int x4)) (i1 : am_isR x1 = true) (i2 : am_isR x2 = true) (i3 : am_isR x3 = true) (hs : fg_0_1031 X N rec_23 x1 x2 x3 x4 h = some o) : am_W X (d + 164) 0 1031 lv [] h (fun q => q = o) := by
  unfold fg_0_1031 at hs
  refine aw_goto at_0_1031 ?_
  exact rg_0_4192 q_23 x1 x2 x3 x4 h o l0 l1 l2 l3 l4 i1 i2 i3 hs
def fg_0_976 (X : am_X) (N : Nat) (rec_23 : Value → Value → Value → Int32 → am_H → Option am_O) (x1 : Value) (x2 : Value) (x3 : Value) (x4 : Int32) (h : am_H) : Option am_O := (fg_0_4192 X N rec_23 x1 x2 x3 x4 h)
theorem rg_0_976 {X : am_X} {d : Nat} {N : Nat} {rec_23 : Value → Value → Value → Int32 → am_H → Option am_O} (q_23 : ∀ (x1 : Value) (x2 : Value) (x3 : Value) (x4 : Int32) (h : am_H) (o : am_O), rec_23 x1 x2 x3 x4 h = some o → ∀ lv : am_LV, (lv.lookup 0 = some (Value.float 0)) → (lv.lookup 1 = some x1) → (lv.lookup 2 = some x2) → (lv.lookup 3 = some x3) → (lv.lookup 4 = some (.int x4)) → (am_isR x1 = true) → (am_isR x2 = true) → (am_isR x3 = true) → am_W X (d + 164) 0 23 lv [] h (fun q => q = o)) {lv : am_LV} (x1 : Value) (x2 : Value) (x3 : Value) (x4 : Int32) (h : am_H) (o : am_O) (l0 : lv.lookup 0 = some (Value.float 0)) (l1 : lv.lookup 1 = some x1) (l2 : lv.lookup 2 = some x2) (l3 : lv.lookup 3 = some x3) (l4 : lv.lookup 4 = some (.int x4)) (i1 : am_isR x1 = true) (i2 : am_isR x2 = true) (i3 : am_isR x3 = true) (hs : fg_0_976 X N rec_23 x1 x2 x3 x4 h = some o) : am_W X (d + 164) 0 976 lv [] h (fun q => q = o) := by
  unfold fg_0_976 at hs
  refine aw_goto at_0_976 ?_
  exact rg_0_4192 q_23 x1 x2 x3 x4 h o l0 l1 l2 l3 l4 i1 i2 i3 hs
def fg_0_876 (X : am_X) (N : Nat) (rec_23 : Value → Value → Value → Int32 → am_H → Option am_O) (x1 : Value) (x2 : Value) (x3 : Value) (x4 : Int32) (h : am_H) : Option am_O := (fg_0_4192 X N rec_23 x1 x2 x3 x4 h)
theorem rg_0_876 {X : am_X} {d : Nat} {N : Nat} {rec_23 : Value → Value → Value → Int32 → am_H → Option am_O} (q_23 : ∀ (x1 : Value) (x2 : Value) (x3 : Value) (x4 : Int32) (h : am_H) (o : am_O), rec_23 x1 x2 x3 x4 h = some o → ∀ lv : am_LV, (lv.lookup 0 = some (Value.float 0)) → (lv.lookup 1 = some x1) → (lv.lookup 2 = some x2) → (lv.lookup 3 = some x3) → (lv.lookup 4 = some (.int x4)) → (am_isR x1 = true) → (am_isR x2 = true) → (am_isR x3 = true) → am_W X (d + 164) 0 23 lv [] h (fun q => q = o)) {lv : am_LV} (x1 : Value) (x2 : Value) (x3 : Value) (x4 : Int32) (h : am_H) (o : am_O) (l0 : lv.lookup 0 = some (Value.float 0)) (l1 : lv.lookup 1 = some x1) (l2 : lv.lookup 2 = some x2) (l3 : lv.lookup 3 = some x3) (l4 : lv.lookup 4 = some (.int x4)) (i1 : am_isR x1 = true) (i2 : am_isR x2 = true) (i3 : am_isR x3 = true) (hs : fg_0_876 X N rec_23 x1 x2 x3 x4 h = some o) : am_W X (d + 164) 0 876 lv [] h (fun q => q = o) := by
  unfold fg_0_876 at hs
  refine aw_goto at_0_876 ?_
  exact rg_0_4192 q_23 x1 x2 x3 x4 h o l0 l1 l2 l3 l4 i1 i2 i3 hs
def fg_0_821 (X : am_X) (N : Nat) (rec_23 : Value → Value → Value → Int32 → am_H → Option am_O) (x1 : Value) (x2 : Value) (x3 : Value) (x4 : Int32) (h : am_H) : Option am_O := (fg_0_4192 X N rec_23 x1 x2 x3 x4 h)
theorem rg_0_821 {X : am_X} {d : Nat} {N : Nat} {rec_23 : Value → Value → Value → Int32 → am_H → Option am_O} (q_23 : ∀ (x1 : Value) (x2 : Value) (x3 : Value) (x4 : Int32) (h : am_H) (o : am_O), rec_23 x1 x2 x3 x4 h = some o → ∀ lv : am_LV, (lv.lookup 0 = some (Value.float 0)) → (lv.lookup 1 = some x1) → (lv.lookup 2 = some x2) → (lv.lookup 3 = some x3) → (lv.lookup 4 = some (.int x4)) → (am_isR x1 = true) → (am_isR x2 = true) → (am_isR x3 = true) → am_W X (d + 164) 0 23 lv [] h (fun q => q = o)) {lv : am_LV} (x1 : Value) (x2 : Value) (x3 : Value) (x4 : Int32) (h : am_H) (o : am_O) (l0 : lv.lookup 0 = some (Value.float 0)) (l1 : lv.lookup 1 = some x1) (l2 : lv.lookup 2 = some x2) (l3 : lv.lookup 3 = some x3) (l4 : lv.lookup 4 = some (.int x4)) (i1 : am_isR x1 = true) (i2 : am_isR x2 = true) (i3 : am_isR x3 = true) (hs : fg_0_821 X N rec_23 x1 x2 x3 x4 h = some o) : am_W X (d + 164) 0 821 lv [] h (fun q => q = o) := by
  unfold fg_0_821 at hs
  refine aw_goto at_0_821 ?_
  exact rg_0_4192 q_23 x1 x2 x3 x4 h o l0 l1 l2 l3 l4 i1 i2 i3 hs
def fg_0_815 (X : am_X) (N : Nat) (rec_23 : Value → Value → Value → Int32 → am_H → Option am_O) (x1 : Value) (x2 : Value) (x3 : Value) (x4 : Int32) (s0 : Int64) (s1 : Int64) (h : am_H) : Option am_O := (if (lg_cmp s0 s1) = 0 then (fg_0_821 X N rec_23 x1 x2 x3 x4 h) else some (.inl (some (.int 0), h)))
theorem rg_0_815 {X : am_X} {d : Nat} {N : Nat} {rec_23 : Value → Value → Value → Int32 → am_H → Option am_O} (q_23 : ∀ (x1 : Value) (x2 : Value) (x3 : Value) (x4 : Int32) (h : am_H) (o : am_O), rec_23 x1 x2 x3 x4 h = some o → ∀ lv : am_LV, (lv.lookup 0 = some (Value.float 0)) → (lv.lookup 1 = some x1) → (lv.lookup 2 = some x2) → (lv.lookup 3 = some x3) → (lv.lookup 4 = some (.int x4)) → (am_isR x1 = true) → (am_isR x2 = true) → (am_isR x3 = true) → am_W X (d + 164) 0 23 lv [] h (fun q => q = o)) {lv : am_LV} (x1 : Value) (x2 : Value) (x3 : Value) (x4 : Int32) (s0 : Int64) (s1 : Int64) (h : am_H) (o : am_O) (l0 : lv.lookup 0 = some (Value.float 0)) (l1 : lv.lookup 1 = some x1) (l2 : lv.lookup 2 = some x2) (l3 : lv.lookup 3 = some x3) (l4 : lv.lookup 4 = some (.int x4)) (i1 : am_isR x1 = true) (i2 : am_isR x2 = true) (i3 : am_isR x3 = true) (hs : fg_0_815 X N rec_23 x1 x2 x3 x4 s0 s1 h = some o) : am_W X (d + 164) 0 815 lv [(.long s1), (.long s0)] h (fun q => q = o) := by
  unfold fg_0_815 at hs
  refine aw_lcmp (v := (lg_cmp s0 s1)) (pc1 := 816) at_0_815 rfl rfl ?_
  by_cases c1 : (lg_cmp s0 s1) = 0
  · rw [if_pos c1] at hs
    refine aw_ifeq_t at_0_816 c1 ?_
    exact rg_0_821 q_23 x1 x2 x3 x4 h o l0 l1 l2 l3 l4 i1 i2 i3 hs
  · rw [if_neg c1] at hs
    refine aw_ifeq_f (pc1 := 819) at_0_816 c1 rfl ?_
    refine aw_iconst (v := 0) (pc1 := 820) at_0_819 (by decide) rfl ?_
    cases hs
    exact aw_iret at_0_820 (by rw [rt_0]; decide) rfl
def fg_0_746 (X : am_X) (N : Nat) (rec_23 : Value → Value → Value → Int32 → am_H → Option am_O) (x1 : Value) (x2 : Value) (x3 : Value) (x4 : Int32) (h : am_H) : Option am_O := (fg_0_4192 X N rec_23 x1 x2 x3 x4 h)
theorem rg_0_746 {X : am_X} {d : Nat} {N : Nat} {rec_23 : Value → Value → Value → Int32 → am_H → Option am_O} (q_23 : ∀ (x1 : Value) (x2 : Value) (x3 : Value) (x4 : Int32) (h : am_H) (o : am_O), rec_23 x1 x2 x3 x4 h = some o → ∀ lv : am_LV, (lv.lookup 0 = some (Value.float 0)) → (lv.lookup 1 = some x1) → (lv.lookup 2 = some x2) → (lv.lookup 3 = some x3) → (lv.lookup 4 = some (.int x4)) → (am_isR x1 = true) → (am_isR x2 = true) → (am_isR x3 = true) → am_W X (d + 164) 0 23 lv [] h (fun q => q = o)) {lv : am_LV} (x1 : Value) (x2 : Value) (x3 : Value) (x4 : Int32) (h : am_H) (o : am_O) (l0 : lv.lookup 0 = some (Value.float 0)) (l1 : lv.lookup 1 = some x1) (l2 : lv.lookup 2 = some x2) (l3 : lv.lookup 3 = some x3) (l4 : lv.lookup 4 = some (.int x4)) (i1 : am_isR x1 = true) (i2 : am_isR x2 = true) (i3 : am_isR x3 = true) (hs : fg_0_746 X N rec_23 x1 x2 x3 x4 h = some o) : am_W X (d + 164) 0 746 lv [] h (fun q => q = o) := by
  unfold fg_0_746 at hs
  refine aw_goto at_0_746 ?_
  exact rg_0_4192 q_23 x1 x2 x3 x4 h o l0 l1 l2 l3 l4 i1 i2 i3 hs
def fg_0_666 (X : am_X) (N : Nat) (rec_23 : Value → Value → Value → Int32 → am_H → Option am_O) (x1 : Value) (x2 : Value) (x3 : Value) (x4 : Int32) (h : am_H) : Option am_O := (fg_0_4192 X N rec_23 x1 x2 x3 x4 h)
theorem rg_0_666 {X : am_X} {d : Nat} {N : Nat} {rec_23 : Value → Value → Value → Int32 → am_H → Option am_O} (q_23 : ∀ (x1 : Value) (x2 : Value) (x3 : Value) (x4 : Int32) (h : am_H) (o : am_O), rec_23 x1 x2 x3 x4 h = some o → ∀ lv : am_LV, (lv.lookup 0 = some (Value.float 0)) → (lv.lookup 1 = some x1) → (lv.lookup 2 = some x2) → (lv.lookup 3 = some x3) → (lv.lookup 4 = some (.int x4)) → (am_isR x1 = true) → (am_isR x2 = true) → (am_isR x3 = true) → am_W X (d + 164) 0 23 lv [] h (fun q => q = o)) {lv : am_LV} (x1 : Value) (x2 : Value) (x3 : Value) (x4 : Int32) (h : am_H) (o : am_O) (l0 : lv.lookup 0 = some (Value.float 0)) (l1 : lv.lookup 1 = some x1) (l2 : lv.lookup 2 = some x2) (l3 : lv.lookup 3 = some x3) (l4 : lv.lookup 4 = some (.int x4)) (i1 : am_isR x1 = true) (i2 : am_isR x2 = true) (i3 : am_isR x3 = true) (hs : fg_0_666 X N rec_23 x1 x2 x3 x4 h = some o) : am_W X (d + 164) 0 666 lv [] h (fun q => q = o) := by
  unfold fg_0_666 at hs
  refine aw_goto at_0_666 ?_
  exact rg_0_4192 q_23 x1 x2 x3 x4 h o l0 l1 l2 l3 l4 i1 i2 i3 hs
def fg_0_611 (X : am_X) (N : Nat) (rec_23 : Value → Value → Value → Int32 → am_H → Option am_O) (x1 : Value) (x2 : Value) (x3 : Value) (x4 : Int32) (h : am_H) : Option am_O := (fg_0_4192 X N rec_23 x1 x2 x3 x4 h)
theorem rg_0_611 {X : am_X} {d : Nat} {N : Nat} {rec_23 : Value → Value → Value → Int32 → am_H → Option am_O} (q_23 : ∀ (x1 : Value) (x2 : Value) (x3 : Value) (x4 : Int32) (h : am_H) (o : am_O), rec_23 x1 x2 x3 x4 h = some o → ∀ lv : am_LV, (lv.lookup 0 = some (Value.float 0)) → (lv.lookup 1 = some x1) → (lv.lookup 2 = some x2) → (lv.lookup 3 = some x3) → (lv.lookup 4 = some (.int x4)) → (am_isR x1 = true) → (am_isR x2 = true) → (am_isR x3 = true) → am_W X (d + 164) 0 23 lv [] h (fun q => q = o)) {lv : am_LV} (x1 : Value) (x2 : Value) (x3 : Value) (x4 : Int32) (h : am_H) (o : am_O) (l0 : lv.lookup 0 = some (Value.float 0)) (l1 : lv.lookup 1 = some x1) (l2 : lv.lookup 2 = some x2) (l3 : lv.lookup 3 = some x3) (l4 : lv.lookup 4 = some (.int x4)) (i1 : am_isR x1 = true) (i2 : am_isR x2 = true) (i3 : am_isR x3 = true) (hs : fg_0_611 X N rec_23 x1 x2 x3 x4 h = some o) : am_W X (d + 164) 0 611 lv [] h (fun q => q = o) := by
  unfold fg_0_611 at hs
  refine aw_goto at_0_611 ?_
  exact rg_0_4192 q_23 x1 x2 x3 x4 h o l0 l1 l2 l3 l4 i1 i2 i3 hs
def fg_0_530 (X : am_X) (N : Nat) (rec_23 : Value → Value → Value → Int32 → am_H → Option am_O) (x1 : Value) (x2 : Value) (x3 : Value) (x4 : Int32) (h : am_H) : Option am_O := (fg_0_4192 X N rec_23 x1 x2 x3 x4 h)
theorem rg_0_530 {X : am_X} {d : Nat} {N : Nat} {rec_23 : Value → Value → Value → Int32 → am_H → Option am_O} (q_23 : ∀ (x1 : Value) (x2 : Value) (x3 : Value) (x4 : Int32) (h : am_H) (o : am_O), rec_23 x1 x2 x3 x4 h = some o → ∀ lv : am_LV, (lv.lookup 0 = some (Value.float 0)) → (lv.lookup 1 = some x1) → (lv.lookup 2 = some x2) → (lv.lookup 3 = some x3) → (lv.lookup 4 = some (.int x4)) → (am_isR x1 = true) → (am_isR x2 = true) → (am_isR x3 = true) → am_W X (d + 164) 0 23 lv [] h (fun q => q = o)) {lv : am_LV} (x1 : Value) (x2 : Value) (x3 : Value) (x4 : Int32) (h : am_H) (o : am_O) (l0 : lv.lookup 0 = some (Value.float 0)) (l1 : lv.lookup 1 = some x1) (l2 : lv.lookup 2 = some x2) (l3 : lv.lookup 3 = some x3) (l4 : lv.lookup 4 = some (.int x4)) (i1 : am_isR x1 = true) (i2 : am_isR x2 = true) (i3 : am_isR x3 = true) (hs : fg_0_530 X N rec_23 x1 x2 x3 x4 h = some o) : am_W X (d + 164) 0 530 lv [] h (fun q => q = o) := by
  unfold fg_0_530 at hs
  refine aw_goto at_0_530 ?_
  exact rg_0_4192 q_23 x1 x2 x3 x4 h o l0 l1 l2 l3 l4 i1 i2 i3 hs
def fg_0_462 (X : am_X) (N : Nat) (rec_23 : Value → Value → Value → Int32 → am_H → Option am_O) (x1 : Value) (x2 : Value) (x3 : Value) (x4 : Int32) (h : am_H) : Option am_O := (fg_0_4192 X N rec_23 x1 x2 x3 x4 h)
theorem rg_0_462 {X : am_X} {d : Nat} {N : Nat} {rec_23 : Value → Value → Value → Int32 → am_H → Option am_O} (q_23 : ∀ (x1 : Value) (x2 : Value) (x3 : Value) (x4 : Int32) (h : am_H) (o : am_O), rec_23 x1 x2 x3 x4 h = some o → ∀ lv : am_LV, (lv.lookup 0 = some (Value.float 0)) → (lv.lookup 1 = some x1) → (lv.lookup 2 = some x2) → (lv.lookup 3 = some x3) → (lv.lookup 4 = some (.int x4)) → (am_isR x1 = true) → (am_isR x2 = true) → (am_isR x3 = true) → am_W X (d + 164) 0 23 lv [] h (fun q => q = o)) {lv : am_LV} (x1 : Value) (x2 : Value) (x3 : Value) (x4 : Int32) (h : am_H) (o : am_O) (l0 : lv.lookup 0 = some (Value.float 0)) (l1 : lv.lookup 1 = some x1) (l2 : lv.lookup 2 = some x2) (l3 : lv.lookup 3 = some x3) (l4 : lv.lookup 4 = some (.int x4)) (i1 : am_isR x1 = true) (i2 : am_isR x2 = true) (i3 : am_isR x3 = true) (hs : fg_0_462 X N rec_23 x1 x2 x3 x4 h = some o) : am_W X (d + 164) 0 462 lv [] h (fun q => q = o) := by
  unfold fg_0_462 at hs
  refine aw_goto at_0_462 ?_
  exact rg_0_4192 q_23 x1 x2 x3 x4 h o l0 l1 l2 l3 l4 i1 i2 i3 hs
def fg_0_406 (X : am_X) (N : Nat) (rec_23 : Value → Value → Value → Int32 → am_H → Option am_O) (x1 : Value) (x2 : Value) (x3 : Value) (x4 : Int32) (h : am_H) : Option am_O := (fg_0_4192 X N rec_23 x1 x2 x3 x4 h)
theorem rg_0_406 {X : am_X} {d : Nat} {N : Nat} {rec_23 : Value → Value → Value → Int32 → am_H → Option am_O} (q_23 : ∀ (x1 : Value) (x2 : Value) (x3 : Value) (x4 : Int32) (h : am_H) (o : am_O), rec_23 x1 x2 x3 x4 h = some o → ∀ lv : am_LV, (lv.lookup 0 = some (Value.float 0)) → (lv.lookup 1 = some x1) → (lv.lookup 2 = some x2) → (lv.lookup 3 = some x3) → (lv.lookup 4 = some (.int x4)) → (am_isR x1 = true) → (am_isR x2 = true) → (am_isR x3 = true) → am_W X (d + 164) 0 23 lv [] h (fun q => q = o)) {lv : am_LV} (x1 : Value) (x2 : Value) (x3 : Value) (x4 : Int32) (h : am_H) (o : am_O) (l0 : lv.lookup 0 = some (Value.float 0)) (l1 : lv.lookup 1 = some x1) (l2 : lv.lookup 2 = some x2) (l3 : lv.lookup 3 = some x3) (l4 : lv.lookup 4 = some (.int x4)) (i1 : am_isR x1 = true) (i2 : am_isR x2 = true) (i3 : am_isR x3 = true) (hs : fg_0_406 X N rec_23 x1 x2 x3 x4 h = some o) : am_W X (d + 164) 0 406 lv [] h (fun q => q = o) := by
  unfold fg_0_406 at hs
  refine aw_goto at_0_406 ?_
  exact rg_0_4192 q_23 x1 x2 x3 x4 h o l0 l1 l2 l3 l4 i1 i2 i3 hs
def fg_0_23 (X : am_X) (N : Nat) : Nat → Value → Value → Value → Int32 → am_H → Option am_O
  | 0 => fun _ _ _ _ _ => none
  | K + 1 => fun x1 x2 x3 x4 h => (if ((Int32.ofNat (X 0).1) - 7) < x4 then some (.inl (some (.int 1), h)) else ((am_pX X 0 x4).bind fun v2 => (if (v2 &&& 63) = 0 then ((am_pX X 0 (x4 + 1)).bind fun v5 => ((am_pX X 0 (x4 + 2)).bind fun v7 => (if am_pOk 11 x1 h then am_cI true (fm_21 N x1 ((((Int32.toInt64 v5) <<< (Int32.toInt64 32 &&& 63)) ||| ((Int32.toInt64 v7) &&& 4294967295))) h) (fun v10 h11 => ((am_pX X 0 (x4 + 1)).bind fun v13 => ((am_pX X 0 (x4 + 2)).bind fun v15 => (if am_pOk 12 x2 h11 then am_cI true (fm_325 N x2 ((((Int32.toInt64 v13) <<< (Int32.toInt64 32 &&& 63)) ||| ((Int32.toInt64 v15) &&& 4294967295))) h11) (fun v18 h19 => (if v10 = v18 then (fg_0_4192 X N (fg_0_23 X N K) x1 x2 x3 x4 h19) else some (.inl (some (.int 0), h19)))) else none)))) else none))) else (if (v2 &&& 63) = 1 then ((am_pX X 0 (x4 + 1)).bind fun v23 => am_cI false (fm_30 N x1 v23 x3 h) (fun v25 h26 => ((am_pX X 0 (x4 + 1)).bind fun v28 => (if am_pOk 12 x2 h26 then am_cI true (fm_326 N x2 v28 h26) (fun v31 h32 => (if am_pOk 12 x2 h32 then am_cI true (fm_324 x2 h32) (fun v35 h36 => (if v35 = v25 then (if ¬ v25 = 0 then (fg_0_406 X N (fg_0_23 X N K) x1 x2 x3 x4 h36) else ((am_pAL x3 0 h36).bind fun v40 => (if (lg_cmp v40 (Int32.toInt64 v31)) = 0 then (fg_0_406 X N (fg_0_23 X N K) x1 x2 x3 x4 h36) else some (.inl (some (.int 0), h36))))) else some (.inl (some (.int 0), h36)))) else none)) else none)))) else (if (v2 &&& 63) = 2 then ((am_pX X 0 (x4 + 1)).bind fun v44 => am_cI false (fm_61 N x1 v44 x3 h) (fun v46 h47 => ((am_pX X 0 (x4 + 1)).bind fun v49 => (if am_pOk 12 x2 h47 then am_cI true (fm_357 N x2 v49 h47) (fun v52 h53 => (if am_pOk 12 x2 h53 then am_cI true (fm_324 x2 h53) (fun v56 h57 => (if v56 = v46 then (if ¬ v46 = 0 then (fg_0_462 X N (fg_0_23 X N K) x1 x2 x3 x4 h57) else ((am_pAL x3 0 h57).bind fun v61 => (if (lg_cmp v61 (Int32.toInt64 v52)) = 0 then (fg_0_462 X N (fg_0_23 X N K) x1 x2 x3 x4 h57) else some (.inl (some (.int 0), h57))))) else some (.inl (some (.int 0), h57)))) else none)) else none)))) else (if (v2 &&& 63) = 3 then ((am_pX X 0 (x4 + 1)).bind fun v65 => ((am_pX X 0 (x4 + 2)).bind fun v67 => am_cI false (fm_70 N x1 v65 v67 x3 h) (fun v69 h70 => ((am_pX X 0 (x4 + 1)).bind fun v72 => ((am_pX X 0 (x4 + 2)).bind fun v74 => (if am_pOk 12 x2 h70 then am_cI true (fm_368 N x2 v72 v74 h70) (fun v77 h78 => (if am_pOk 12 x2 h78 then am_cI true (fm_324 x2 h78) (fun v81 h82 => (if v81 = v69 then (if ¬ v69 = 0 then (fg_0_530 X N (fg_0_23 X N K) x1 x2 x3 x4 h82) else ((am_pAL x3 0 h82).bind fun v86 => (if (lg_cmp v86 (Int32.toInt64 v77)) = 0 then (fg_0_530 X N (fg_0_23 X N K) x1 x2 x3 x4 h82) else some (.inl (some (.int 0), h82))))) else some (.inl (some (.int 0), h82)))) else none)) else none)))))) else (if (v2 &&& 63) = 4 then (if am_pOk 11 x1 h then am_cI true (fm_23 x1 h) (fun v91 h92 => (if am_pOk 12 x2 h92 then am_cI true (fm_369 x2 h92) (fun v95 h96 => (if v91 = v95 then (fg_0_4192 X N (fg_0_23 X N K) x1 x2 x3 x4 h96) else some (.inl (some (.int 0), h96)))) else none)) else none) else (if (v2 &&& 63) = 5 then ((am_pX X 0 (x4 + 1)).bind fun v100 => ((am_pX X 0 (x4 + 2)).bind fun v102 => am_cI false (fm_73 N x1 v100 v102 x3 h) (fun v104 h105 => ((am_pX X 0 (x4 + 1)).bind fun v107 => ((am_pX X 0 (x4 + 2)).bind fun v109 => (if am_pOk 12 x2 h105 then am_cI true (fm_370 N x2 v107 v109 h105) (fun v112 h113 => (if am_pOk 12 x2 h113 then am_cI true (fm_324 x2 h113) (fun v116 h117 => (if v116 = v104 then (if ¬ v104 = 0 then (fg_0_611 X N (fg_0_23 X N K) x1 x2 x3 x4 h117) else ((am_pAL x3 0 h117).bind fun v121 => (if (lg_cmp v121 (Int32.toInt64 v112)) = 0 then (fg_0_611 X N (fg_0_23 X N K) x1 x2 x3 x4 h117) else some (.inl (some (.int 0), h117))))) else some (.inl (some (.int 0), h117)))) else none)) else none)))))) else (if (v2 &&& 63) = 6 then ((am_pX X 0 (x4 + 1)).bind fun v125 => am_cI false (fm_80 x1 v125 x3 h) (fun v127 h128 => ((am_pX X 0 (x4 + 1)).bind fun v130 => (if am_pOk 12 x2 h128 then am_cL true (fm_372 x2 v130 h128) (fun v133 h134 => (if am_pOk 12 x2 h134 then am_cI true (fm_324 x2 h134) (fun v137 h138 => (if v137 = v127 then (if ¬ v127 = 0 then (fg_0_666 X N (fg_0_23 X N K) x1 x2 x3 x4 h138) else ((am_pAL x3 0 h138).bind fun v142 => (if (lg_cmp v142 v133) = 0 then (fg_0_666 X N (fg_0_23 X N K) x1 x2 x3 x4 h138) else some (.inl (some (.int 0), h138))))) else some (.inl (some (.int 0), h138)))) else none)) else none)))) else (if (v2 &&& 63) = 7 then ((am_pX X 0 (x4 + 1)).bind fun v146 => ((am_pX X 0 (x4 + 2)).bind fun v148 => ((am_pX X 0 (x4 + 3)).bind fun v150 => am_cI false (fm_82 x1 v146 v148 v150 x3 h) (fun v152 h153 => ((am_pX X 0 (x4 + 1)).bind fun v155 => ((am_pX X 0 (x4 + 2)).bind fun v157 => ((am_pX X 0 (x4 + 3)).bind fun v159 => (if am_pOk 12 x2 h153 then am_cI true (fm_373 x2 v155 v157 v159 h153) (fun v162 h163 => (if am_pOk 12 x2 h163 then am_cI true (fm_324 x2 h163) (fun v166 h167 => (if v166 = v152 then (if ¬ v152 = 0 then (fg_0_746 X N (fg_0_23 X N K) x1 x2 x3 x4 h167) else ((am_pAL x3 0 h167).bind fun v171 => (if (lg_cmp v171 (Int32.toInt64 v162)) = 0 then (fg_0_746 X N (fg_0_23 X N K) x1 x2 x3 x4 h167) else some (.inl (some (.int 0), h167))))) else some (.inl (some (.int 0), h167)))) else none)) else none)))))))) else (if (v2 &&& 63) = 8 then ((am_pX X 0 (x4 + 1)).bind fun v175 => ((am_pX X 0 (x4 + 2)).bind fun v177 => am_cI false (fm_84 N x1 v175 v177 x3 h) (fun v179 h180 => ((am_pX X 0 (x4 + 1)).bind fun v182 => ((am_pX X 0 (x4 + 2)).bind fun v184 => (if am_pOk 12 x2 h180 then am_cI true (fm_374 N x2 v182 v184 h180) (fun v187 h188 => (if am_pOk 12 x2 h188 then am_cI true (fm_324 x2 h188) (fun v191 h192 => (if v191 = v179 then (if ¬ v179 = 0 then (fg_0_821 X N (fg_0_23 X N K) x1 x2 x3 x4 h192) else ((am_pAL x3 0 h192).bind fun v196 => (if v187 = 0 then (fg_0_815 X N (fg_0_23 X N K) x1 x2 x3 x4 v196 0 h192) else (fg_0_815 X N (fg_0_23 X N K) x1 x2 x3 x4 v196 1 h192)))) else some (.inl (some (.int 0), h192)))) else none)) else none)))))) else (if (v2 &&& 63) = 9 then ((am_pX X 0 (x4 + 1)).bind fun v200 => am_cI false (fm_87 x1 v200 x3 h) (fun v202 h203 => ((am_pX X 0 (x4 + 1)).bind fun v205 => (if am_pOk 12 x2 h203 then am_cL true (fm_376 N x2 v205 h203) (fun v208 h209 => (if am_pOk 12 x2 h209 then am_cI true (fm_324 x2 h209) (fun v212 h213 => (if v212 = v202 then (if ¬ v202 = 0 then (fg_0_876 X N (fg_0_23 X N K) x1 x2 x3 x4 h213) else ((am_pAL x3 0 h213).bind fun v217 => (if (lg_cmp v217 v208) = 0 then (fg_0_876 X N (fg_0_23 X N K) x1 x2 x3 x4 h213) else some (.inl (some (.int 0), h213))))) else some (.inl (some (.int 0), h213)))) else none)) else none)))) else (if (v2 &&& 63) = 10 then ((am_pX X 0 (x4 + 1)).bind fun v221 => ((am_pX X 0 (x4 + 2)).bind fun v223 => ((am_pX X 0 (x4 + 3)).bind fun v225 => am_cI false (fm_89 N x1 v221 ((((Int32.toInt64 v223) <<< (Int32.toInt64 32 &&& 63)) ||| ((Int32.toInt64 v225) &&& 4294967295))) x3 h) (fun v227 h228 => ((am_pX X 0 (x4 + 1)).bind fun v230 => ((am_pX X 0 (x4 + 2)).bind fun v232 => ((am_pX X 0 (x4 + 3)).bind fun v234 => (if am_pOk 12 x2 h228 then am_cI true (fm_385 N x2 v230 ((((Int32.toInt64 v232) <<< (Int32.toInt64 32 &&& 63)) ||| ((Int32.toInt64 v234) &&& 4294967295))) h228) (fun v237 h238 => (if am_pOk 12 x2 h238 then am_cI true (fm_324 x2 h238) (fun v241 h242 => (if v241 = v227 then (if ¬ v227 = 0 then (fg_0_976 X N (fg_0_23 X N K) x1 x2 x3 x4 h242) else ((am_pAL x3 0 h242).bind fun v246 => (if (lg_cmp v246 (Int32.toInt64 v237)) = 0 then (fg_0_976 X N (fg_0_23 X N K) x1 x2 x3 x4 h242) else some (.inl (some (.int 0), h242))))) else some (.inl (some (.int 0), h242)))) else none)) else none)))))))) else (if (v2 &&& 63) = 11 then ((am_pX X 0 (x4 + 1)).bind fun v250 => am_cI false (fm_96 N x1 v250 x3 h) (fun v252 h253 => ((am_pX X 0 (x4 + 1)).bind fun v255 => (if am_pOk 12 x2 h253 then am_cL true (fm_390 N x2 v255 h253) (fun v258 h259 => (if am_pOk 12 x2 h259 then am_cI true (fm_324 x2 h259) (fun v262 h263 => (if v262 = v252 then (if ¬ v252 = 0 then (fg_0_1031 X N (fg_0_23 X N K) x1 x2 x3 x4 h263) else ((am_pAL x3 0 h263).bind fun v267 => (if (lg_cmp v267 v258) = 0 then (fg_0_1031 X N (fg_0_23 X N K) x1 x2 x3 x4 h263) else some (.inl (some (.int 0), h263))))) else some (.inl (some (.int 0), h263)))) else none)) else none)))) else (if (v2 &&& 63) = 12 then ((am_pX X 0 (x4 + 1)).bind fun v271 => (if am_pOk 11 x1 h then am_cI true (fm_24 x1 v271 h) (fun v274 h275 => ((am_pX X 0 (x4 + 1)).bind fun v277 => (if am_pOk 12 x2 h275 then am_cI true (fm_395 x2 v277 h275) (fun v280 h281 => (if v274 = v280 then (fg_0_4192 X N (fg_0_23 X N K) x1 x2 x3 x4 h281) else some (.inl (some (.int 0), h281)))) else none))) else none)) else (if (v2 &&& 63) = 13 then ((am_pX X 0 (x4 + 1)).bind fun v285 => ((am_pX X 0 (x4 + 2)).bind fun v287 => ((am_pX X 0 (x4 + 3)).bind fun v289 => ((am_pX X 0 (x4 + 4)).bind fun v291 => ((am_pX X 0 (x4 + 5)).bind fun v293 => ((am_pX X 0 (x4 + 6)).bind fun v295 => (if v295 = 0 then (fg_0_1105 X N (fg_0_23 X N K) x1 x2 x3 x4 x1 v285 v287 v289 v291 v293 0 h) else (fg_0_1105 X N (fg_0_23 X N K) x1 x2 x3 x4 x1 v285 v287 v289 v291 v293 1 h)))))))) else (if (v2 &&& 63) = 14 then ((am_pX X 0 (x4 + 1)).bind fun v299 => am_cI false (fm_106 x1 v299 x3 h) (fun v301 h302 => ((am_pX X 0 (x4 + 1)).bind fun v304 => (if am_pOk 12 x2 h302 then am_cI true (fm_397 N x2 v304 h302) (fun v307 h308 => (if am_pOk 12 x2 h308 then am_cI true (fm_324 x2 h308) (fun v311 h312 => (if v311 = v301 then (if ¬ v301 = 0 then (fg_0_1246 X N (fg_0_23 X N K) x1 x2 x3 x4 h312) else ((am_pAL x3 0 h312).bind fun v316 => (if (lg_cmp v316 (Int32.toInt64 v307)) = 0 then (fg_0_1246 X N (fg_0_23 X N K) x1 x2 x3 x4 h312) else some (.inl (some (.int 0), h312))))) else some (.inl (some (.int 0), h312)))) else none)) else none)))) else (if (v2 &&& 63) = 15 then (if am_pOk 11 x1 h then am_cI true (fm_25 x1 h) (fun v321 h322 => (if am_pOk 12 x2 h322 then am_cI true (fm_399 x2 h322) (fun v325 h326 => (if v321 = v325 then (fg_0_4192 X N (fg_0_23 X N K) x1 x2 x3 x4 h326) else some (.inl (some (.int 0), h326)))) else none)) else none) else (if (v2 &&& 63) = 16 then ((am_pX X 0 (x4 + 1)).bind fun v330 => ((am_pX X 0 (x4 + 2)).bind fun v332 => am_cI false (fm_110 x1 v330 v332 x3 h) (fun v334 h335 => ((am_pX X 0 (x4 + 1)).bind fun v337 => ((am_pX X 0 (x4 + 2)).bind fun v339 => (if am_pOk 12 x2 h335 then am_cI true (fm_400 x2 v337 v339 h335) (fun v342 h343 => (if am_pOk 12 x2 h343 then am_cI true (fm_324 x2 h343) (fun v346 h347 => (if v346 = v334 then (if ¬ v334 = 0 then (fg_0_1327 X N (fg_0_23 X N K) x1 x2 x3 x4 h347) else ((am_pAL x3 0 h347).bind fun v351 => (if (lg_cmp v351 (Int32.toInt64 v342)) = 0 then (fg_0_1327 X N (fg_0_23 X N K) x1 x2 x3 x4 h347) else some (.inl (some (.int 0), h347))))) else some (.inl (some (.int 0), h347)))) else none)) else none)))))) else (if (v2 &&& 63) = 17 then ((am_pX X 0 (x4 + 1)).bind fun v355 => ((am_pX X 0 (x4 + 2)).bind fun v357 => am_cI false (fm_113 N x1 v355 v357 x3 h) (fun v359 h360 => ((am_pX X 0 (x4 + 1)).bind fun v362 => ((am_pX X 0 (x4 + 2)).bind fun v364 => (if am_pOk 12 x2 h360 then am_cI true (fm_401 N x2 v362 v364 h360) (fun v367 h368 => (if am_pOk 12 x2 h368 then am_cI true (fm_324 x2 h368) (fun v371 h372 => (if v371 = v359 then (if ¬ v359 = 0 then (fg_0_1395 X N (fg_0_23 X N K) x1 x2 x3 x4 h372) else ((am_pAL x3 0 h372).bind fun v376 => (if (lg_cmp v376 (Int32.toInt64 v367)) = 0 then (fg_0_1395 X N (fg_0_23 X N K) x1 x2 x3 x4 h372) else some (.inl (some (.int 0), h372))))) else some (.inl (some (.int 0), h372)))) else none)) else none)))))) else (if (v2 &&& 63) = 18 then ((am_pX X 0 (x4 + 1)).bind fun v380 => ((am_pX X 0 (x4 + 2)).bind fun v382 => ((am_pX X 0 (x4 + 3)).bind fun v384 => ((am_pX X 0 (x4 + 4)).bind fun v386 => am_cI false (fm_129 N x1 v380 v382 v384 v386 x3 h) (fun v388 h389 => ((am_pX X 0 (x4 + 1)).bind fun v391 => ((am_pX X 0 (x4 + 2)).bind fun v393 => ((am_pX X 0 (x4 + 3)).bind fun v395 => ((am_pX X 0 (x4 + 4)).bind fun v397 => (if am_pOk 12 x2 h389 then am_cI true (fm_420 N x2 v391 v393 v395 v397 h389) (fun v400 h401 => (if am_pOk 12 x2 h401 then am_cI true (fm_324 x2 h401) (fun v404 h405 => (if v404 = v388 then (if ¬ v388 = 0 then (fg_0_1487 X N (fg_0_23 X N K) x1 x2 x3 x4 h405) else ((am_pAL x3 0 h405).bind fun v409 => (if (lg_cmp v409 (Int32.toInt64 v400)) = 0 then (fg_0_1487 X N (fg_0_23 X N K) x1 x2 x3 x4 h405) else some (.inl (some (.int 0), h405))))) else some (.inl (some (.int 0), h405)))) else none)) else none)))))))))) else (if (v2 &&& 63) = 19 then (if am_pOk 11 x1 h then am_cI true (fm_26 x1 h) (fun v414 h415 => (if am_pOk 12 x2 h415 then am_cI true (fm_422 x2 h415) (fun v418 h419 => (if v414 = v418 then (fg_0_4192 X N (fg_0_23 X N K) x1 x2 x3 x4 h419) else some (.inl (some (.int 0), h419)))) else none)) else none) else (if (v2 &&& 63) = 20 then (if am_pOk 11 x1 h then am_cI true (fm_27 x1 h) (fun v424 h425 => (if am_pOk 12 x2 h425 then am_cI true (fm_423 x2 h425) (fun v428 h429 => (if v424 = v428 then (fg_0_4192 X N (fg_0_23 X N K) x1 x2 x3 x4 h429) else some (.inl (some (.int 0), h429)))) else none)) else none) else (if (v2 &&& 63) = 21 then ((am_pX X 0 (x4 + 1)).bind fun v433 => ((am_pX X 0 (x4 + 2)).bind fun v435 => am_cI false (fm_131 N x1 v433 v435 x3 h) (fun v437 h438 => ((am_pX X 0 (x4 + 1)).bind fun v440 => ((am_pX X 0 (x4 + 2)).bind fun v442 => (if am_pOk 12 x2 h438 then am_cI true (fm_424 N x2 v440 v442 h438) (fun v445 h446 => (if am_pOk 12 x2 h446 then am_cI true (fm_324 x2 h446) (fun v449 h450 => (if v449 = v437 then (if ¬ v437 = 0 then (fg_0_1581 X N (fg_0_23 X N K) x1 x2 x3 x4 h450) else ((am_pAL x3 0 h450).bind fun v454 => (if (lg_cmp v454 (Int32.toInt64 v445)) = 0 then (fg_0_1581 X N (fg_0_23 X N K) x1 x2 x3 x4 h450) else some (.inl (some (.int 0), h450))))) else some (.inl (some (.int 0), h450)))) else none)) else none)))))) else (if (v2 &&& 63) = 22 then ((am_pX X 0 (x4 + 1)).bind fun v458 => ((am_pX X 0 (x4 + 2)).bind fun v460 => (if v460 = 0 then (fg_0_1605 X N (fg_0_23 X N K) x1 x2 x3 x4 x1 v458 0 h) else (fg_0_1605 X N (fg_0_23 X N K) x1 x2 x3 x4 x1 v458 1 h)))) else (if (v2 &&& 63) = 23 then ((am_pX X 0 (x4 + 1)).bind fun v464 => ((am_pX X 0 (x4 + 2)).bind fun v466 => am_cI false (fm_145 N x1 v464 v466 x3 h) (fun v468 h469 => ((am_pX X 0 (x4 + 1)).bind fun v471 => ((am_pX X 0 (x4 + 2)).bind fun v473 => (if am_pOk 12 x2 h469 then am_cL true (fm_431 N x2 v471 v473 h469) (fun v476 h477 => (if am_pOk 12 x2 h477 then am_cI true (fm_324 x2 h477) (fun v480 h481 => (if v480 = v468 then (if ¬ v468 = 0 then (fg_0_1743 X N (fg_0_23 X N K) x1 x2 x3 x4 h481) else ((am_pAL x3 0 h481).bind fun v485 => (if (lg_cmp v485 v476) = 0 then (fg_0_1743 X N (fg_0_23 X N K) x1 x2 x3 x4 h481) else some (.inl (some (.int 0), h481))))) else some (.inl (some (.int 0), h481)))) else none)) else none)))))) else (if (v2 &&& 63) = 24 then ((am_pX X 0 (x4 + 1)).bind fun v489 => ((am_pX X 0 (x4 + 2)).bind fun v491 => (if v491 = 0 then (fg_0_1767 X N (fg_0_23 X N K) x1 x2 x3 x4 x1 v489 0 h) else (fg_0_1767 X N (fg_0_23 X N K) x1 x2 x3 x4 x1 v489 1 h)))) else (if (v2 &&& 63) = 25 then ((am_pX X 0 (x4 + 1)).bind fun v495 => ((am_pX X 0 (x4 + 2)).bind fun v497 => am_cI false (fm_149 N x1 v495 v497 x3 h) (fun v499 h500 => ((am_pX X 0 (x4 + 1)).bind fun v502 => ((am_pX X 0 (x4 + 2)).bind fun v504 => (if am_pOk 12 x2 h500 then am_cI true (fm_434 N x2 v502 v504 h500) (fun v507 h508 => (if am_pOk 12 x2 h508 then am_cI true (fm_324 x2 h508) (fun v511 h512 => (if v511 = v499 then (if ¬ v499 = 0 then (fg_0_1895 X N (fg_0_23 X N K) x1 x2 x3 x4 h512) else ((am_pAL x3 0 h512).bind fun v516 => (if (lg_cmp v516 (Int32.toInt64 v507)) = 0 then (fg_0_1895 X N (fg_0_23 X N K) x1 x2 x3 x4 h512) else some (.inl (some (.int 0), h512))))) else some (.inl (some (.int 0), h512)))) else none)) else none)))))) else (if (v2 &&& 63) = 26 then ((am_pX X 0 (x4 + 1)).bind fun v520 => ((am_pX X 0 (x4 + 2)).bind fun v522 => am_cI false (fm_153 X x1 v520 v522 x3 h) (fun v524 h525 => ((am_pX X 0 (x4 + 1)).bind fun v527 => ((am_pX X 0 (x4 + 2)).bind fun v529 => (if am_pOk 12 x2 h525 then am_cI true (fm_436 x2 v527 v529 h525) (fun v532 h533 => (if am_pOk 12 x2 h533 then am_cI true (fm_324 x2 h533) (fun v536 h537 => (if v536 = v524 then (if ¬ v524 = 0 then (fg_0_1963 X N (fg_0_23 X N K) x1 x2 x3 x4 h537) else ((am_pAL x3 0 h537).bind fun v541 => (if (lg_cmp v541 (Int32.toInt64 v532)) = 0 then (fg_0_1963 X N (fg_0_23 X N K) x1 x2 x3 x4 h537) else some (.inl (some (.int 0), h537))))) else some (.inl (some (.int 0), h537)))) else none)) else none)))))) else (if (v2 &&& 63) = 27 then ((am_pX X 0 (x4 + 1)).bind fun v545 => ((am_pX X 0 (x4 + 2)).bind fun v547 => am_cI false (fm_156 N x1 v545 v547 x3 h) (fun v549 h550 => ((am_pX X 0 (x4 + 1)).bind fun v552 => ((am_pX X 0 (x4 + 2)).bind fun v554 => (if am_pOk 12 x2 h550 then am_cI true (fm_438 N x2 v552 v554 h550) (fun v557 h558 => (if am_pOk 12 x2 h558 then am_cI true (fm_324 x2 h558) (fun v561 h562 => (if v561 = v549 then (if ¬ v549 = 0 then (fg_0_2031 X N (fg_0_23 X N K) x1 x2 x3 x4 h562) else ((am_pAL x3 0 h562).bind fun v566 => (if (lg_cmp v566 (Int32.toInt64 v557)) = 0 then (fg_0_2031 X N (fg_0_23 X N K) x1 x2 x3 x4 h562) else some (.inl (some (.int 0), h562))))) else some (.inl (some (.int 0), h562)))) else none)) else none)))))) else (if (v2 &&& 63) = 28 then ((am_pX X 0 (x4 + 1)).bind fun v570 => ((am_pX X 0 (x4 + 2)).bind fun v572 => ((am_pX X 0 (x4 + 3)).bind fun v574 => am_cI false (fm_185 N x1 v570 v572 v574 x3 h) (fun v576 h577 => ((am_pX X 0 (x4 + 1)).bind fun v579 => ((am_pX X 0 (x4 + 2)).bind fun v581 => ((am_pX X 0 (x4 + 3)).bind fun v583 => (if am_pOk 12 x2 h577 then am_cI true (fm_469 N x2 v579 v581 v583 h577) (fun v586 h587 => (if am_pOk 12 x2 h587 then am_cI true (fm_324 x2 h587) (fun v590 h591 => (if v590 = v576 then (if ¬ v576 = 0 then (fg_0_2111 X N (fg_0_23 X N K) x1 x2 x3 x4 h591) else ((am_pAL x3 0 h591).bind fun v595 => (if (lg_cmp v595 (Int32.toInt64 v586)) = 0 then (fg_0_2111 X N (fg_0_23 X N K) x1 x2 x3 x4 h591) else some (.inl (some (.int 0), h591))))) else some (.inl (some (.int 0), h591)))) else none)) else none)))))))) else (if (v2 &&& 63) = 29 then ((am_pX X 0 (x4 + 1)).bind fun v599 => ((am_pX X 0 (x4 + 2)).bind fun v601 => ((am_pX X 0 (x4 + 3)).bind fun v603 => ((am_pX X 0 (x4 + 4)).bind fun v605 => am_cI false (fm_188 N x1 v599 v601 ((((Int32.toInt64 v603) <<< (Int32.toInt64 32 &&& 63)) ||| ((Int32.toInt64 v605) &&& 4294967295))) x3 h) (fun v607 h608 => ((am_pX X 0 (x4 + 1)).bind fun v610 => ((am_pX X 0 (x4 + 2)).bind fun v612 => ((am_pX X 0 (x4 + 3)).bind fun v614 => ((am_pX X 0 (x4 + 4)).bind fun v616 => (if am_pOk 12 x2 h608 then am_cI true (fm_470 N x2 v610 v612 ((((Int32.toInt64 v614) <<< (Int32.toInt64 32 &&& 63)) ||| ((Int32.toInt64 v616) &&& 4294967295))) h608) (fun v619 h620 => (if am_pOk 12 x2 h620 then am_cI true (fm_324 x2 h620) (fun v623 h624 => (if v623 = v607 then (if ¬ v607 = 0 then (fg_0_2223 X N (fg_0_23 X N K) x1 x2 x3 x4 h624) else ((am_pAL x3 0 h624).bind fun v628 => (if (lg_cmp v628 (Int32.toInt64 v619)) = 0 then (fg_0_2223 X N (fg_0_23 X N K) x1 x2 x3 x4 h624) else some (.inl (some (.int 0), h624))))) else some (.inl (some (.int 0), h624)))) else none)) else none)))))))))) else (if (v2 &&& 63) = 30 then ((am_pX X 0 (x4 + 1)).bind fun v632 => ((am_pX X 0 (x4 + 2)).bind fun v634 => am_cI false (fm_195 N x1 v632 v634 x3 h) (fun v636 h637 => ((am_pX X 0 (x4 + 1)).bind fun v639 => ((am_pX X 0 (x4 + 2)).bind fun v641 => (if am_pOk 12 x2 h637 then am_cI true (fm_478 N x2 v639 v641 h637) (fun v644 h645 => (if am_pOk 12 x2 h645 then am_cI true (fm_324 x2 h645) (fun v648 h649 => (if v648 = v636 then (if ¬ v636 = 0 then (fg_0_2291 X N (fg_0_23 X N K) x1 x2 x3 x4 h649) else ((am_pAL x3 0 h649).bind fun v653 => (if (lg_cmp v653 (Int32.toInt64 v644)) = 0 then (fg_0_2291 X N (fg_0_23 X N K) x1 x2 x3 x4 h649) else some (.inl (some (.int 0), h649))))) else some (.inl (some (.int 0), h649)))) else none)) else none)))))) else (if (v2 &&& 63) = 31 then ((am_pX X 0 (x4 + 1)).bind fun v657 => ((am_pX X 0 (x4 + 2)).bind fun v659 => ((am_pX X 0 (x4 + 3)).bind fun v661 => ((am_pX X 0 (x4 + 4)).bind fun v663 => am_cI false (fm_197 N x1 v657 v659 ((((Int32.toInt64 v661) <<< (Int32.toInt64 32 &&& 63)) ||| ((Int32.toInt64 v663) &&& 4294967295))) x3 h) (fun v665 h666 => ((am_pX X 0 (x4 + 1)).bind fun v668 => ((am_pX X 0 (x4 + 2)).bind fun v670 => ((am_pX X 0 (x4 + 3)).bind fun v672 => ((am_pX X 0 (x4 + 4)).bind fun v674 => (if am_pOk 12 x2 h666 then am_cI true (fm_486 N x2 v668 v670 ((((Int32.toInt64 v672) <<< (Int32.toInt64 32 &&& 63)) ||| ((Int32.toInt64 v674) &&& 4294967295))) h666) (fun v677 h678 => (if am_pOk 12 x2 h678 then am_cI true (fm_324 x2 h678) (fun v681 h682 => (if v681 = v665 then (if ¬ v665 = 0 then (fg_0_2403 X N (fg_0_23 X N K) x1 x2 x3 x4 h682) else ((am_pAL x3 0 h682).bind fun v686 => (if (lg_cmp v686 (Int32.toInt64 v677)) = 0 then (fg_0_2403 X N (fg_0_23 X N K) x1 x2 x3 x4 h682) else some (.inl (some (.int 0), h682))))) else some (.inl (some (.int 0), h682)))) else none)) else none)))))))))) else (if (v2 &&& 63) = 32 then ((am_pX X 0 (x4 + 1)).bind fun v690 => ((am_pX X 0 (x4 + 2)).bind fun v692 => ((am_pX X 0 (x4 + 3)).bind fun v694 => ((am_pX X 0 (x4 + 4)).bind fun v696 => ((am_pX X 0 (x4 + 5)).bind fun v698 => ((am_pX X 0 (x4 + 6)).bind fun v700 => am_cI false (fm_199 N x1 v690 v692 v694 v696 ((((Int32.toInt64 v698) <<< (Int32.toInt64 32 &&& 63)) ||| ((Int32.toInt64 v700) &&& 4294967295))) x3 h) (fun v702 h703 => ((am_pX X 0 (x4 + 1)).bind fun v705 => ((am_pX X 0 (x4 + 2)).bind fun v707 => ((am_pX X 0 (x4 + 3)).bind fun v709 => ((am_pX X 0 (x4 + 4)).bind fun v711 => ((am_pX X 0 (x4 + 5)).bind fun v713 => ((am_pX X 0 (x4 + 6)).bind fun v715 => (if am_pOk 12 x2 h703 then am_cI true (fm_488 N x2 v705 v707 v709 v711 ((((Int32.toInt64 v713) <<< (Int32.toInt64 32 &&& 63)) ||| ((Int32.toInt64 v715) &&& 4294967295))) h703) (fun v718 h719 => (if am_pOk 12 x2 h719 then am_cI true (fm_324 x2 h719) (fun v722 h723 => (if v722 = v702 then (if ¬ v702 = 0 then (fg_0_2541 X N (fg_0_23 X N K) x1 x2 x3 x4 h723) else ((am_pAL x3 0 h723).bind fun v727 => (if (lg_cmp v727 (Int32.toInt64 v718)) = 0 then (fg_0_2541 X N (fg_0_23 X N K) x1 x2 x3 x4 h723) else some (.inl (some (.int 0), h723))))) else some (.inl (some (.int 0), h723)))) else none)) else none)))))))))))))) else (if (v2 &&& 63) = 33 then ((am_pX X 0 (x4 + 1)).bind fun v731 => am_cI false (fm_210 x1 v731 x3 h) (fun v733 h734 => ((am_pX X 0 (x4 + 1)).bind fun v736 => (if am_pOk 12 x2 h734 then am_cI true (fm_499 x2 v736 h734) (fun v739 h740 => (if am_pOk 12 x2 h740 then am_cI true (fm_324 x2 h740) (fun v743 h744 => (if v743 = v733 then (if ¬ v733 = 0 then (fg_0_2597 X N (fg_0_23 X N K) x1 x2 x3 x4 h744) else ((am_pAL x3 0 h744).bind fun v748 => (if (lg_cmp v748 (Int32.toInt64 v739)) = 0 then (fg_0_2597 X N (fg_0_23 X N K) x1 x2 x3 x4 h744) else some (.inl (some (.int 0), h744))))) else some (.inl (some (.int 0), h744)))) else none)) else none)))) else (if (v2 &&& 63) = 34 then ((am_pX X 0 (x4 + 1)).bind fun v752 => ((am_pX X 0 (x4 + 2)).bind fun v754 => am_cI false (fm_212 x1 v752 v754 x3 h) (fun v756 h757 => ((am_pX X 0 (x4 + 1)).bind fun v759 => ((am_pX X 0 (x4 + 2)).bind fun v761 => (if am_pOk 12 x2 h757 then am_cI true (fm_500 x2 v759 v761 h757) (fun v764 h765 => (if am_pOk 12 x2 h765 then am_cI true (fm_324 x2 h765) (fun v768 h769 => (if v768 = v756 then (if ¬ v756 = 0 then (fg_0_2665 X N (fg_0_23 X N K) x1 x2 x3 x4 h769) else ((am_pAL x3 0 h769).bind fun v773 => (if (lg_cmp v773 (Int32.toInt64 v764)) = 0 then (fg_0_2665 X N (fg_0_23 X N K) x1 x2 x3 x4 h769) else some (.inl (some (.int 0), h769))))) else some (.inl (some (.int 0), h769)))) else none)) else none)))))) else (if (v2 &&& 63) = 35 then ((am_pX X 0 (x4 + 1)).bind fun v777 => ((am_pX X 0 (x4 + 2)).bind fun v779 => am_cI false (fm_215 N x1 v777 v779 x3 h) (fun v781 h782 => ((am_pX X 0 (x4 + 1)).bind fun v784 => ((am_pX X 0 (x4 + 2)).bind fun v786 => (if am_pOk 12 x2 h782 then am_cI true (fm_502 N x2 v784 v786 h782) (fun v789 h790 => (if am_pOk 12 x2 h790 then am_cI true (fm_324 x2 h790) (fun v793 h794 => (if v793 = v781 then (if ¬ v781 = 0 then (fg_0_2733 X N (fg_0_23 X N K) x1 x2 x3 x4 h794) else ((am_pAL x3 0 h794).bind fun v798 => (if (lg_cmp v798 (Int32.toInt64 v789)) = 0 then (fg_0_2733 X N (fg_0_23 X N K) x1 x2 x3 x4 h794) else some (.inl (some (.int 0), h794))))) else some (.inl (some (.int 0), h794)))) else none)) else none)))))) else (if (v2 &&& 63) = 36 then ((am_pX X 0 (x4 + 1)).bind fun v802 => ((am_pX X 0 (x4 + 2)).bind fun v804 => am_cI false (fm_231 N x1 v802 v804 x3 h) (fun v806 h807 => ((am_pX X 0 (x4 + 1)).bind fun v809 => ((am_pX X 0 (x4 + 2)).bind fun v811 => (if am_pOk 12 x2 h807 then am_cI true (fm_518 N x2 v809 v811 h807) (fun v814 h815 => (if am_pOk 12 x2 h815 then am_cI true (fm_324 x2 h815) (fun v818 h819 => (if v818 = v806 then (if ¬ v806 = 0 then (fg_0_2808 X N (fg_0_23 X N K) x1 x2 x3 x4 h819) else ((am_pAL x3 0 h819).bind fun v823 => (if v814 = 0 then (fg_0_2802 X N (fg_0_23 X N K) x1 x2 x3 x4 v823 0 h819) else (fg_0_2802 X N (fg_0_23 X N K) x1 x2 x3 x4 v823 1 h819)))) else some (.inl (some (.int 0), h819)))) else none)) else none)))))) else (if (v2 &&& 63) = 37 then ((am_pX X 0 (x4 + 1)).bind fun v827 => am_cI false (fm_234 N x1 v827 x3 h) (fun v829 h830 => ((am_pX X 0 (x4 + 1)).bind fun v832 => (if am_pOk 12 x2 h830 then am_cI true (fm_519 N x2 v832 h830) (fun v835 h836 => (if am_pOk 12 x2 h836 then am_cI true (fm_324 x2 h836) (fun v839 h840 => (if v839 = v829 then (if ¬ v829 = 0 then (fg_0_2864 X N (fg_0_23 X N K) x1 x2 x3 x4 h840) else ((am_pAL x3 0 h840).bind fun v844 => (if (lg_cmp v844 (Int32.toInt64 v835)) = 0 then (fg_0_2864 X N (fg_0_23 X N K) x1 x2 x3 x4 h840) else some (.inl (some (.int 0), h840))))) else some (.inl (some (.int 0), h840)))) else none)) else none)))) else (if (v2 &&& 63) = 38 then ((am_pX X 0 (x4 + 1)).bind fun v848 => ((am_pX X 0 (x4 + 2)).bind fun v850 => am_cI false (fm_236 N x1 v848 v850 x3 h) (fun v852 h853 => ((am_pX X 0 (x4 + 1)).bind fun v855 => ((am_pX X 0 (x4 + 2)).bind fun v857 => (if am_pOk 12 x2 h853 then am_cI true (fm_520 N x2 v855 v857 h853) (fun v860 h861 => (if am_pOk 12 x2 h861 then am_cI true (fm_324 x2 h861) (fun v864 h865 => (if v864 = v852 then (if ¬ v852 = 0 then (fg_0_2932 X N (fg_0_23 X N K) x1 x2 x3 x4 h865) else ((am_pAL x3 0 h865).bind fun v869 => (if (lg_cmp v869 (Int32.toInt64 v860)) = 0 then (fg_0_2932 X N (fg_0_23 X N K) x1 x2 x3 x4 h865) else some (.inl (some (.int 0), h865))))) else some (.inl (some (.int 0), h865)))) else none)) else none)))))) else (if (v2 &&& 63) = 39 then ((am_pX X 0 (x4 + 1)).bind fun v873 => ((am_pX X 0 (x4 + 2)).bind fun v875 => ((am_pX X 0 (x4 + 3)).bind fun v877 => am_cI false (fm_238 N x1 v873 v875 v877 x3 h) (fun v879 h880 => ((am_pX X 0 (x4 + 1)).bind fun v882 => ((am_pX X 0 (x4 + 2)).bind fun v884 => ((am_pX X 0 (x4 + 3)).bind fun v886 => (if am_pOk 12 x2 h880 then am_cI true (fm_521 N x2 v882 v884 v886 h880) (fun v889 h890 => (if am_pOk 12 x2 h890 then am_cI true (fm_324 x2 h890) (fun v893 h894 => (if v893 = v879 then (if ¬ v879 = 0 then (fg_0_3012 X N (fg_0_23 X N K) x1 x2 x3 x4 h894) else ((am_pAL x3 0 h894).bind fun v898 => (if (lg_cmp v898 (Int32.toInt64 v889)) = 0 then (fg_0_3012 X N (fg_0_23 X N K) x1 x2 x3 x4 h894) else some (.inl (some (.int 0), h894))))) else some (.inl (some (.int 0), h894)))) else none)) else none)))))))) else (if (v2 &&& 63) = 40 then ((am_pX X 0 (x4 + 1)).bind fun v902 => ((am_pX X 0 (x4 + 2)).bind fun v904 => am_cI false (fm_244 N x1 v902 v904 x3 h) (fun v906 h907 => ((am_pX X 0 (x4 + 1)).bind fun v909 => ((am_pX X 0 (x4 + 2)).bind fun v911 => (if am_pOk 12 x2 h907 then am_cL true (fm_524 N x2 v909 v911 h907) (fun v914 h915 => (if am_pOk 12 x2 h915 then am_cI true (fm_324 x2 h915) (fun v918 h919 => (if v918 = v906 then (if ¬ v906 = 0 then (fg_0_3079 X N (fg_0_23 X N K) x1 x2 x3 x4 h919) else ((am_pAL x3 0 h919).bind fun v923 => (if (lg_cmp v923 v914) = 0 then (fg_0_3079 X N (fg_0_23 X N K) x1 x2 x3 x4 h919) else some (.inl (some (.int 0), h919))))) else some (.inl (some (.int 0), h919)))) else none)) else none)))))) else (if (v2 &&& 63) = 41 then ((am_pX X 0 (x4 + 1)).bind fun v927 => ((am_pX X 0 (x4 + 2)).bind fun v929 => am_cI false (fm_247 N x1 v927 v929 x3 h) (fun v931 h932 => ((am_pX X 0 (x4 + 1)).bind fun v934 => ((am_pX X 0 (x4 + 2)).bind fun v936 => (if am_pOk 12 x2 h932 then am_cL true (fm_526 N x2 v934 v936 h932) (fun v939 h940 => (if am_pOk 12 x2 h940 then am_cI true (fm_324 x2 h940) (fun v943 h944 => (if v943 = v931 then (if ¬ v931 = 0 then (fg_0_3146 X N (fg_0_23 X N K) x1 x2 x3 x4 h944) else ((am_pAL x3 0 h944).bind fun v948 => (if (lg_cmp v948 v939) = 0 then (fg_0_3146 X N (fg_0_23 X N K) x1 x2 x3 x4 h944) else some (.inl (some (.int 0), h944))))) else some (.inl (some (.int 0), h944)))) else none)) else none)))))) else (if (v2 &&& 63) = 42 then ((am_pX X 0 (x4 + 1)).bind fun v952 => am_cI false (fm_250 N x1 v952 x3 h) (fun v954 h955 => ((am_pX X 0 (x4 + 1)).bind fun v957 => (if am_pOk 12 x2 h955 then am_cI true (fm_527 N x2 v957 h955) (fun v960 h961 => (if am_pOk 12 x2 h961 then am_cI true (fm_324 x2 h961) (fun v964 h965 => (if v964 = v954 then (if ¬ v954 = 0 then (fg_0_3202 X N (fg_0_23 X N K) x1 x2 x3 x4 h965) else ((am_pAL x3 0 h965).bind fun v969 => (if (lg_cmp v969 (Int32.toInt64 v960)) = 0 then (fg_0_3202 X N (fg_0_23 X N K) x1 x2 x3 x4 h965) else some (.inl (some (.int 0), h965))))) else some (.inl (some (.int 0), h965)))) else none)) else none)))) else (if (v2 &&& 63) = 43 then ((am_pX X 0 (x4 + 1)).bind fun v973 => ((am_pX X 0 (x4 + 2)).bind fun v975 => am_cI false (fm_254 N x1 v973 v975 x3 h) (fun v977 h978 => ((am_pX X 0 (x4 + 1)).bind fun v980 => ((am_pX X 0 (x4 + 2)).bind fun v982 => (if am_pOk 12 x2 h978 then am_cI true (fm_530 N x2 v980 v982 h978) (fun v985 h986 => (if am_pOk 12 x2 h986 then am_cI true (fm_324 x2 h986) (fun v989 h990 => (if v989 = v977 then (if ¬ v977 = 0 then (fg_0_3270 X N (fg_0_23 X N K) x1 x2 x3 x4 h990) else ((am_pAL x3 0 h990).bind fun v994 => (if (lg_cmp v994 (Int32.toInt64 v985)) = 0 then (fg_0_3270 X N (fg_0_23 X N K) x1 x2 x3 x4 h990) else some (.inl (some (.int 0), h990))))) else some (.inl (some (.int 0), h990)))) else none)) else none)))))) else (if (v2 &&& 63) = 44 then ((am_pX X 0 (x4 + 1)).bind fun v998 => ((am_pX X 0 (x4 + 2)).bind fun v1000 => am_cI false (fm_256 N x1 v998 v1000 x3 h) (fun v1002 h1003 => ((am_pX X 0 (x4 + 1)).bind fun v1005 => ((am_pX X 0 (x4 + 2)).bind fun v1007 => (if am_pOk 12 x2 h1003 then am_cL true (fm_531 N x2 v1005 v1007 h1003) (fun v1010 h1011 => (if am_pOk 12 x2 h1011 then am_cI true (fm_324 x2 h1011) (fun v1014 h1015 => (if v1014 = v1002 then (if ¬ v1002 = 0 then (fg_0_3337 X N (fg_0_23 X N K) x1 x2 x3 x4 h1015) else ((am_pAL x3 0 h1015).bind fun v1019 => (if (lg_cmp v1019 v1010) = 0 then (fg_0_3337 X N (fg_0_23 X N K) x1 x2 x3 x4 h1015) else some (.inl (some (.int 0), h1015))))) else some (.inl (some (.int 0), h1015)))) else none)) else none)))))) else (if (v2 &&& 63) = 45 then ((am_pX X 0 (x4 + 1)).bind fun v1023 => am_cI false (fm_258 N x1 v1023 x3 h) (fun v1025 h1026 => ((am_pX X 0 (x4 + 1)).bind fun v1028 => (if am_pOk 12 x2 h1026 then am_cI true (fm_532 N x2 v1028 h1026) (fun v1031 h1032 => (if am_pOk 12 x2 h1032 then am_cI true (fm_324 x2 h1032) (fun v1035 h1036 => (if v1035 = v1025 then (if ¬ v1025 = 0 then (fg_0_3400 X N (fg_0_23 X N K) x1 x2 x3 x4 h1036) else ((am_pAL x3 0 h1036).bind fun v1040 => (if v1031 = 0 then (fg_0_3394 X N (fg_0_23 X N K) x1 x2 x3 x4 v1040 0 h1036) else (fg_0_3394 X N (fg_0_23 X N K) x1 x2 x3 x4 v1040 1 h1036)))) else some (.inl (some (.int 0), h1036)))) else none)) else none)))) else (if (v2 &&& 63) = 46 then ((am_pX X 0 (x4 + 1)).bind fun v1044 => am_cI false (fm_260 X N x1 v1044 x3 h) (fun v1046 h1047 => ((am_pX X 0 (x4 + 1)).bind fun v1049 => (if am_pOk 12 x2 h1047 then am_cI true (fm_533 N x2 v1049 h1047) (fun v1052 h1053 => (if am_pOk 12 x2 h1053 then am_cI true (fm_324 x2 h1053) (fun v1056 h1057 => (if v1056 = v1046 then (if ¬ v1046 = 0 then (fg_0_3456 X N (fg_0_23 X N K) x1 x2 x3 x4 h1057) else ((am_pAL x3 0 h1057).bind fun v1061 => (if (lg_cmp v1061 (Int32.toInt64 v1052)) = 0 then (fg_0_3456 X N (fg_0_23 X N K) x1 x2 x3 x4 h1057) else some (.inl (some (.int 0), h1057))))) else some (.inl (some (.int 0), h1057)))) else none)) else none)))) else (if (v2 &&& 63) = 47 then ((am_pX X 0 (x4 + 1)).bind fun v1065 => am_cI false (fm_267 N x1 v1065 x3 h) (fun v1067 h1068 => ((am_pX X 0 (x4 + 1)).bind fun v1070 => (if am_pOk 12 x2 h1068 then am_cI true (fm_535 N x2 v1070 h1068) (fun v1073 h1074 => (if am_pOk 12 x2 h1074 then am_cI true (fm_324 x2 h1074) (fun v1077 h1078 => (if v1077 = v1067 then (if ¬ v1067 = 0 then (fg_0_3512 X N (fg_0_23 X N K) x1 x2 x3 x4 h1078) else ((am_pAL x3 0 h1078).bind fun v1082 => (if (lg_cmp v1082 (Int32.toInt64 v1073)) = 0 then (fg_0_3512 X N (fg_0_23 X N K) x1 x2 x3 x4 h1078) else some (.inl (some (.int 0), h1078))))) else some (.inl (some (.int 0), h1078)))) else none)) else none)))) else (if (v2 &&& 63) = 48 then (if am_pOk 11 x1 h then am_cI true (fm_28 x1 h) (fun v1087 h1088 => (if am_pOk 12 x2 h1088 then am_cI true (fm_553 x2 h1088) (fun v1091 h1092 => (if v1087 = v1091 then (fg_0_4192 X N (fg_0_23 X N K) x1 x2 x3 x4 h1092) else some (.inl (some (.int 0), h1092)))) else none)) else none) else (if (v2 &&& 63) = 49 then ((am_pX X 0 (x4 + 1)).bind fun v1096 => ((am_pX X 0 (x4 + 2)).bind fun v1098 => (if am_pOk 11 x1 h then am_cI true (fm_29 x1 v1096 v1098 h) (fun v1101 h1102 => ((am_pX X 0 (x4 + 1)).bind fun v1104 => ((am_pX X 0 (x4 + 2)).bind fun v1106 => (if am_pOk 12 x2 h1102 then am_cI true (fm_554 x2 v1104 v1106 h1102) (fun v1109 h1110 => (if v1101 = v1109 then (fg_0_4192 X N (fg_0_23 X N K) x1 x2 x3 x4 h1110) else some (.inl (some (.int 0), h1110)))) else none)))) else none))) else (if (v2 &&& 63) = 50 then ((am_pX X 0 (x4 + 1)).bind fun v1114 => ((am_pX X 0 (x4 + 2)).bind fun v1116 => am_cI false (fm_283 N x1 v1114 v1116 x3 h) (fun v1118 h1119 => ((am_pX X 0 (x4 + 1)).bind fun v1121 => ((am_pX X 0 (x4 + 2)).bind fun v1123 => (if am_pOk 12 x2 h1119 then am_cI true (fm_555 N x2 v1121 v1123 h1119) (fun v1126 h1127 => (if am_pOk 12 x2 h1127 then am_cI true (fm_324 x2 h1127) (fun v1130 h1131 => (if v1130 = v1118 then (if ¬ v1118 = 0 then (fg_0_3637 X N (fg_0_23 X N K) x1 x2 x3 x4 h1131) else ((am_pAL x3 0 h1131).bind fun v1135 => (if v1126 = 0 then (fg_0_3631 X N (fg_0_23 X N K) x1 x2 x3 x4 v1135 0 h1131) else (fg_0_3631 X N (fg_0_23 X N K) x1 x2 x3 x4 v1135 1 h1131)))) else some (.inl (some (.int 0), h1131)))) else none)) else none)))))) else (if (v2 &&& 63) = 51 then ((am_pX X 0 (x4 + 1)).bind fun v1139 => ((am_pX X 0 (x4 + 2)).bind fun v1141 => am_cI false (fm_286 N x1 v1139 v1141 x3 h) (fun v1143 h1144 => ((am_pX X 0 (x4 + 1)).bind fun v1146 => ((am_pX X 0 (x4 + 2)).bind fun v1148 => (if am_pOk 12 x2 h1144 then am_cI true (fm_566 N x2 v1146 v1148 h1144) (fun v1151 h1152 => (if am_pOk 12 x2 h1152 then am_cI true (fm_324 x2 h1152) (fun v1155 h1156 => (if v1155 = v1143 then (if ¬ v1143 = 0 then (fg_0_3705 X N (fg_0_23 X N K) x1 x2 x3 x4 h1156) else ((am_pAL x3 0 h1156).bind fun v1160 => (if (lg_cmp v1160 (Int32.toInt64 v1151)) = 0 then (fg_0_3705 X N (fg_0_23 X N K) x1 x2 x3 x4 h1156) else some (.inl (some (.int 0), h1156))))) else some (.inl (some (.int 0), h1156)))) else none)) else none)))))) else (if (v2 &&& 63) = 52 then ((am_pX X 0 (x4 + 1)).bind fun v1164 => am_cI false (fm_299 x1 v1164 x3 h) (fun v1166 h1167 => ((am_pX X 0 (x4 + 1)).bind fun v1169 => (if am_pOk 12 x2 h1167 then am_cI true (fm_576 x2 v1169 h1167) (fun v1172 h1173 => (if am_pOk 12 x2 h1173 then am_cI true (fm_324 x2 h1173) (fun v1176 h1177 => (if v1176 = v1166 then (if ¬ v1166 = 0 then (fg_0_3761 X N (fg_0_23 X N K) x1 x2 x3 x4 h1177) else ((am_pAL x3 0 h1177).bind fun v1181 => (if (lg_cmp v1181 (Int32.toInt64 v1172)) = 0 then (fg_0_3761 X N (fg_0_23 X N K) x1 x2 x3 x4 h1177) else some (.inl (some (.int 0), h1177))))) else some (.inl (some (.int 0), h1177)))) else none)) else none)))) else (if (v2 &&& 63) = 53 then ((am_pX X 0 (x4 + 1)).bind fun v1185 => am_cI false (fm_301 N x1 v1185 x3 h) (fun v1187 h1188 => ((am_pX X 0 (x4 + 1)).bind fun v1190 => (if am_pOk 12 x2 h1188 then am_cI true (fm_577 N x2 v1190 h1188) (fun v1193 h1194 => (if am_pOk 12 x2 h1194 then am_cI true (fm_324 x2 h1194) (fun v1197 h1198 => (if v1197 = v1187 then (if ¬ v1187 = 0 then (fg_0_3817 X N (fg_0_23 X N K) x1 x2 x3 x4 h1198) else ((am_pAL x3 0 h1198).bind fun v1202 => (if (lg_cmp v1202 (Int32.toInt64 v1193)) = 0 then (fg_0_3817 X N (fg_0_23 X N K) x1 x2 x3 x4 h1198) else some (.inl (some (.int 0), h1198))))) else some (.inl (some (.int 0), h1198)))) else none)) else none)))) else (if (v2 &&& 63) = 54 then ((am_pX X 0 (x4 + 1)).bind fun v1206 => ((am_pX X 0 (x4 + 2)).bind fun v1208 => ((am_pX X 0 (x4 + 3)).bind fun v1210 => am_cI false (fm_304 N x1 v1206 v1208 v1210 x3 h) (fun v1212 h1213 => ((am_pX X 0 (x4 + 1)).bind fun v1215 => ((am_pX X 0 (x4 + 2)).bind fun v1217 => ((am_pX X 0 (x4 + 3)).bind fun v1219 => (if am_pOk 12 x2 h1213 then am_cI true (fm_581 N x2 v1215 v1217 v1219 h1213) (fun v1222 h1223 => (if am_pOk 12 x2 h1223 then am_cI true (fm_324 x2 h1223) (fun v1226 h1227 => (if v1226 = v1212 then (if ¬ v1212 = 0 then (fg_0_3897 X N (fg_0_23 X N K) x1 x2 x3 x4 h1227) else ((am_pAL x3 0 h1227).bind fun v1231 => (if (lg_cmp v1231 (Int32.toInt64 v1222)) = 0 then (fg_0_3897 X N (fg_0_23 X N K) x1 x2 x3 x4 h1227) else some (.inl (some (.int 0), h1227))))) else some (.inl (some (.int 0), h1227)))) else none)) else none)))))))) else (if (v2 &&& 63) = 55 then ((am_pX X 0 (x4 + 1)).bind fun v1235 => ((am_pX X 0 (x4 + 2)).bind fun v1237 => am_cI false (fm_306 N x1 v1235 v1237 x3 h) (fun v1239 h1240 => ((am_pX X 0 (x4 + 1)).bind fun v1242 => ((am_pX X 0 (x4 + 2)).bind fun v1244 => (if am_pOk 12 x2 h1240 then am_cI true (fm_556 N x2 v1242 v1244 h1240) (fun v1247 h1248 => (if am_pOk 12 x2 h1248 then am_cI true (fm_324 x2 h1248) (fun v1251 h1252 => (if v1251 = v1239 then (if ¬ v1239 = 0 then (fg_0_3965 X N (fg_0_23 X N K) x1 x2 x3 x4 h1252) else ((am_pAL x3 0 h1252).bind fun v1256 => (if (lg_cmp v1256 (Int32.toInt64 v1247)) = 0 then (fg_0_3965 X N (fg_0_23 X N K) x1 x2 x3 x4 h1252) else some (.inl (some (.int 0), h1252))))) else some (.inl (some (.int 0), h1252)))) else none)) else none)))))) else (if (v2 &&& 63) = 56 then ((am_pX X 0 (x4 + 1)).bind fun v1260 => am_cI false (fm_308 N x1 v1260 x3 h) (fun v1262 h1263 => ((am_pX X 0 (x4 + 1)).bind fun v1265 => (if am_pOk 12 x2 h1263 then am_cI true (fm_582 N x2 v1265 h1263) (fun v1268 h1269 => (if am_pOk 12 x2 h1269 then am_cI true (fm_324 x2 h1269) (fun v1272 h1273 => (if v1272 = v1262 then (if ¬ v1262 = 0 then (fg_0_4021 X N (fg_0_23 X N K) x1 x2 x3 x4 h1273) else ((am_pAL x3 0 h1273).bind fun v1277 => (if (lg_cmp v1277 (Int32.toInt64 v1268)) = 0 then (fg_0_4021 X N (fg_0_23 X N K) x1 x2 x3 x4 h1273) else some (.inl (some (.int 0), h1273))))) else some (.inl (some (.int 0), h1273)))) else none)) else none)))) else (if (v2 &&& 63) = 57 then ((am_pX X 0 (x4 + 1)).bind fun v1281 => am_cI false (fm_313 N x1 v1281 x3 h) (fun v1283 h1284 => ((am_pX X 0 (x4 + 1)).bind fun v1286 => (if am_pOk 12 x2 h1284 then am_cI true (fm_585 N x2 v1286 h1284) (fun v1289 h1290 => (if am_pOk 12 x2 h1290 then am_cI true (fm_324 x2 h1290) (fun v1293 h1294 => (if v1293 = v1283 then (if ¬ v1283 = 0 then (fg_0_4077 X N (fg_0_23 X N K) x1 x2 x3 x4 h1294) else ((am_pAL x3 0 h1294).bind fun v1298 => (if (lg_cmp v1298 (Int32.toInt64 v1289)) = 0 then (fg_0_4077 X N (fg_0_23 X N K) x1 x2 x3 x4 h1294) else some (.inl (some (.int 0), h1294))))) else some (.inl (some (.int 0), h1294)))) else none)) else none)))) else (if (v2 &&& 63) = 58 then ((am_pX X 0 (x4 + 1)).bind fun v1302 => am_cI false (fm_317 N x1 v1302 x3 h) (fun v1304 h1305 => ((am_pX X 0 (x4 + 1)).bind fun v1307 => (if am_pOk 12 x2 h1305 then am_cI true (fm_587 N x2 v1307 h1305) (fun v1310 h1311 => (if am_pOk 12 x2 h1311 then am_cI true (fm_324 x2 h1311) (fun v1314 h1315 => (if v1314 = v1304 then (if ¬ v1304 = 0 then (fg_0_4133 X N (fg_0_23 X N K) x1 x2 x3 x4 h1315) else ((am_pAL x3 0 h1315).bind fun v1319 => (if (lg_cmp v1319 (Int32.toInt64 v1310)) = 0 then (fg_0_4133 X N (fg_0_23 X N K) x1 x2 x3 x4 h1315) else some (.inl (some (.int 0), h1315))))) else some (.inl (some (.int 0), h1315)))) else none)) else none)))) else (if (v2 &&& 63) = 59 then ((am_pX X 0 (x4 + 1)).bind fun v1323 => am_cI false (fm_320 N x1 v1323 x3 h) (fun v1325 h1326 => ((am_pX X 0 (x4 + 1)).bind fun v1328 => (if am_pOk 12 x2 h1326 then am_cI true (fm_588 N x2 v1328 h1326) (fun v1331 h1332 => (if am_pOk 12 x2 h1332 then am_cI true (fm_324 x2 h1332) (fun v1335 h1336 => (if v1335 = v1325 then (if ¬ v1325 = 0 then (fg_0_4189 X N (fg_0_23 X N K) x1 x2 x3 x4 h1336) else ((am_pAL x3 0 h1336).bind fun v1340 => (if (lg_cmp v1340 (Int32.toInt64 v1331)) = 0 then (fg_0_4189 X N (fg_0_23 X N K) x1 x2 x3 x4 h1336) else some (.inl (some (.int 0), h1336))))) else some (.inl (some (.int 0), h1336)))) else none)) else none)))) else (fg_0_4192 X N (fg_0_23 X N K) x1 x2 x3 x4 h)))))))))))))))))))))))))))))))))))))))))))))))))))))))))))))))
theorem rg_0_23 {X : am_X} {d : Nat} {N : Nat} : ∀ (K : Nat) (x1 : Value) (x2 : Value) (x3 : Value) (x4 : Int32) (h : am_H) (o : am_O), fg_0_23 X N K x1 x2 x3 x4 h = some o → ∀ lv : am_LV, (lv.lookup 0 = some (Value.float 0)) → (lv.lookup 1 = some x1) → (lv.lookup 2 = some x2) → (lv.lookup 3 = some x3) → (lv.lookup 4 = some (.int x4)) → (am_isR x1 = true) → (am_isR x2 = true) → (am_isR x3 = true) → am_W X (d + 164) 0 23 lv [] h (fun q => q = o) := by
  intro K
  induction K with
  | zero => intro x1 x2 x3 x4 h o hs; cases hs
  | succ K ih =>
    intro x1 x2 x3 x4 h o hs lv l0 l1 l2 l3 l4 i1 i2 i3
    unfold fg_0_23 at hs
    refine aw_iload (pc1 := 25) at_0_23 l4 rfl ?_
    refine aw_vload_n (pc1 := 26) at_0_25 l0 rfl rfl ?_
    refine aw_xlen (v := (Int32.ofNat (X 0).1)) (pc1 := 27) at_0_26 rfl rfl rfl ?_
    refine aw_bipush (v := 7) (pc1 := 29) at_0_27 (by decide) rfl ?_
    refine aw_isub (v := ((Int32.ofNat (X 0).1) - 7)) (pc1 := 30) at_0_29 rfl rfl ?_
    by_cases c1 : ((Int32.ofNat (X 0).1) - 7) < x4
    · rw [if_pos c1] at hs
      refine aw_icgt_t at_0_30 c1 ?_
      refine aw_iconst (v := 1) (pc1 := 4199) at_0_4198 (by decide) rfl ?_
      cases hs
      exact aw_iret at_0_4199 (by rw [rt_0]; decide) rfl
    · rw [if_neg c1] at hs
      refine aw_icgt_f (pc1 := 33) at_0_30 c1 rfl ?_
      refine aw_vload_n (pc1 := 34) at_0_33 l0 rfl rfl ?_
      refine aw_iload (pc1 := 36) at_0_34 l4 rfl ?_
      obtain ⟨v2, e3, hs1⟩ := am_bind hs
      clear hs
      refine aw_pX (j := 0) (pc1 := 37) at_0_36 rfl rfl e3 rfl ?_
      refine aw_bipush (v := 63) (pc1 := 39) at_0_37 (by decide) rfl ?_
      refine aw_iand (v := (v2 &&& 63)) (pc1 := 40) at_0_39 rfl rfl ?_
      by_cases c4 : (v2 &&& 63) = 0
      · rw [if_pos c4] at hs1
        refine aw_tsw (t := 296) at_0_40 (by rw [c4]; rfl) ?_
        refine aw_vload_n (pc1 := 297) at_0_296 l1 i1 rfl ?_
        refine aw_vload_n (pc1 := 298) at_0_297 l0 rfl rfl ?_
        refine aw_iload (pc1 := 300) at_0_298 l4 rfl ?_
        refine aw_iconst (v := 1) (pc1 := 301) at_0_300 (by decide) rfl ?_
        refine aw_iadd (v := (x4 + 1)) (pc1 := 302) at_0_301 rfl rfl ?_
        obtain ⟨v5, e6, hs2⟩ := am_bind hs1
        clear hs1
        refine aw_pX (j := 0) (pc1 := 303) at_0_302 rfl rfl e6 rfl ?_
        refine aw_i2l (v := (Int32.toInt64 v5)) (pc1 := 304) at_0_303 rfl rfl ?_
        refine aw_bipush (v := 32) (pc1 := 306) at_0_304 (by decide) rfl ?_
        refine aw_lshl (v := ((Int32.toInt64 v5) <<< (Int32.toInt64 32 &&& 63))) (pc1 := 307) at_0_306 rfl rfl ?_
        refine aw_vload_n (pc1 := 308) at_0_307 l0 rfl rfl ?_
        refine aw_iload (pc1 := 310) at_0_308 l4 rfl ?_
        refine aw_iconst (v := 2) (pc1 := 311) at_0_310 (by decide) rfl ?_
        refine aw_iadd (v := (x4 + 2)) (pc1 := 312) at_0_311 rfl rfl ?_
        obtain ⟨v7, e8, hs3⟩ := am_bind hs2
        clear hs2
        refine aw_pX (j := 0) (pc1 := 313) at_0_312 rfl rfl e8 rfl ?_
        refine aw_i2l (v := (Int32.toInt64 v7)) (pc1 := 314) at_0_313 rfl rfl ?_
        refine aw_ldc2 (v := 4294967295) (pc1 := 317) at_0_314 rfl rfl ?_
        refine aw_land (v := ((Int32.toInt64 v7) &&& 4294967295)) (pc1 := 318) at_0_317 rfl rfl ?_
        refine aw_lor (v := (((Int32.toInt64 v5) <<< (Int32.toInt64 32 &&& 63)) ||| ((Int32.toInt64 v7) &&& 4294967295))) (pc1 := 319) at_0_318 rfl rfl ?_
        obtain ⟨z9, hs4⟩ := am_ift hs3
        clear hs3
        refine aw_call (F := fm_21 N x1 ((((Int32.toInt64 v5) <<< (Int32.toInt64 32 &&& 63)) ||| ((Int32.toInt64 v7) &&& 4294967295))) h) (t := true) (na := 2) (kd := 1) (as := [x1, (.long (((Int32.toInt64 v5) <<< (Int32.toInt64 32 &&& 63)) ||| ((Int32.toInt64 v7) &&& 4294967295)))]) at_0_319 (am_k3v kb_21) mn_21 mk_21 rfl rfl (am_ok_v mi_21 (am_hl rfl (am_ccR i1 (am_ccL am_cats_0)) rfl) z9) (am_hc am_cats_0 rfl) (fun _ => ⟨rfl, hh_0⟩) (fun o1 hz9 => rm_21 x1 ((((Int32.toInt64 v5) <<< (Int32.toInt64 32 &&& 63)) ||| ((Int32.toInt64 v7) &&& 4294967295))) h o1 i1 hz9) ?_
        rcases am_cI_s hs4 with ⟨v10, h11, f12, hs5⟩ | hs5
        · clear hs4
          refine Or.inl ⟨_, _, f12, ?_⟩
          show am_W X _ 0 322 _ [(.int v10)] h11 _
          refine aw_vload_n (pc1 := 323) at_0_322 l2 i2 rfl ?_
          refine aw_vload_n (pc1 := 324) at_0_323 l0 rfl rfl ?_
          refine aw_iload (pc1 := 326) at_0_324 l4 rfl ?_
          refine aw_iconst (v := 1) (pc1 := 327) at_0_326 (by decide) rfl ?_
          refine aw_iadd (v := (x4 + 1)) (pc1 := 328) at_0_327 rfl rfl ?_
          obtain ⟨v13, e14, hs6⟩ := am_bind hs5
          clear hs5
          refine aw_pX (j := 0) (pc1 := 329) at_0_328 rfl rfl e14 rfl ?_
          refine aw_i2l (v := (Int32.toInt64 v13)) (pc1 := 330) at_0_329 rfl rfl ?_
          refine aw_bipush (v := 32) (pc1 := 332) at_0_330 (by decide) rfl ?_
          refine aw_lshl (v := ((Int32.toInt64 v13) <<< (Int32.toInt64 32 &&& 63))) (pc1 := 333) at_0_332 rfl rfl ?_
          refine aw_vload_n (pc1 := 334) at_0_333 l0 rfl rfl ?_
          refine aw_iload (pc1 := 336) at_0_334 l4 rfl ?_
          refine aw_iconst (v := 2) (pc1 := 337) at_0_336 (by decide) rfl ?_
          refine aw_iadd (v := (x4 + 2)) (pc1 := 338) at_0_337 rfl rfl ?_
          obtain ⟨v15, e16, hs7⟩ := am_bind hs6
          clear hs6
          refine aw_pX (j := 0) (pc1 := 339) at_0_338 rfl rfl e16 rfl ?_
          refine aw_i2l (v := (Int32.toInt64 v15)) (pc1 := 340) at_0_339 rfl rfl ?_
          refine aw_ldc2 (v := 4294967295) (pc1 := 343) at_0_340 rfl rfl ?_
          refine aw_land (v := ((Int32.toInt64 v15) &&& 4294967295)) (pc1 := 344) at_0_343 rfl rfl ?_
          refine aw_lor (v := (((Int32.toInt64 v13) <<< (Int32.toInt64 32 &&& 63)) ||| ((Int32.toInt64 v15) &&& 4294967295))) (pc1 := 345) at_0_344 rfl rfl ?_
          obtain ⟨z17, hs8⟩ := am_ift hs7
          clear hs7
          refine aw_call (F := fm_325 N x2 ((((Int32.toInt64 v13) <<< (Int32.toInt64 32 &&& 63)) ||| ((Int32.toInt64 v15) &&& 4294967295))) h11) (t := true) (na := 2) (kd := 1) (as := [x2, (.long (((Int32.toInt64 v13) <<< (Int32.toInt64 32 &&& 63)) ||| ((Int32.toInt64 v15) &&& 4294967295)))]) at_0_345 (am_k3v kb_325) mn_325 mk_325 rfl rfl (am_ok_v mi_325 (am_hl rfl (am_ccR i2 (am_ccL am_cats_0)) rfl) z17) (am_hc (am_ccI am_cats_0) rfl) (fun _ => ⟨rfl, hh_0⟩) (fun o1 hz9 => rm_325 x2 ((((Int32.toInt64 v13) <<< (Int32.toInt64 32 &&& 63)) ||| ((Int32.toInt64 v15) &&& 4294967295))) h11 o1 i2 hz9) ?_
          rcases am_cI_s hs8 with ⟨v18, h19, f20, hs9⟩ | hs9
          · clear hs8
            refine Or.inl ⟨_, _, f20, ?_⟩
            show am_W X _ 0 348 _ [(.int v18), (.int v10)] h19 _
            by_cases c21 : v10 = v18
            · rw [if_pos c21] at hs9
              refine aw_iceq_t at_0_348 c21 ?_
              exact rg_0_4192 (fun z0 z1 z2 z3 h o hs9 => ih z0 z1 z2 z3 h o hs9) x1 x2 x3 x4 h19 o l0 l1 l2 l3 l4 i1 i2 i3 hs9
            · rw [if_neg c21] at hs9
              refine aw_iceq_f (pc1 := 351) at_0_348 c21 rfl ?_
              refine aw_iconst (v := 0) (pc1 := 352) at_0_351 (by decide) rfl ?_
              cases hs9
              exact aw_iret at_0_352 (by rw [rt_0]; decide) rfl
          · clear hs8
            exact Or.inr hs9
        · clear hs4
          exact Or.inr hs5
      · rw [if_neg c4] at hs1
        by_cases c22 : (v2 &&& 63) = 1
        · rw [if_pos c22] at hs1
          refine aw_tsw (t := 353) at_0_40 (by rw [c22]; rfl) ?_
          refine aw_vload_n (pc1 := 354) at_0_353 l1 i1 rfl ?_
          refine aw_vload_n (pc1 := 355) at_0_354 l0 rfl rfl ?_
          refine aw_iload (pc1 := 357) at_0_355 l4 rfl ?_
          refine aw_iconst (v := 1) (pc1 := 358) at_0_357 (by decide) rfl ?_
          refine aw_iadd (v := (x4 + 1)) (pc1 := 359) at_0_358 rfl rfl ?_
          obtain ⟨v23, e24, hs10⟩ := am_bind hs1
          clear hs1
          refine aw_pX (j := 0) (pc1 := 360) at_0_359 rfl rfl e24 rfl ?_
          refine aw_vload_n (pc1 := 361) at_0_360 l3 i3 rfl ?_
          refine aw_call (F := fm_30 N x1 v23 x3 h) (t := false) (na := 3) (kd := 0) (as := [x1, (.int v23), x3]) at_0_361 (am_k3s kb_30) mn_30 mk_30 rfl rfl (am_ok_s mi_30 (am_hl rfl (am_ccR i1 (am_ccI (am_ccR i3 am_cats_0))) rfl)) (am_hc am_cats_0 rfl) (fun hz9 => by cases hz9) (fun o1 hz9 => rm_30 x1 v23 x3 h o1 i1 i3 hz9) ?_
          rcases am_cI_s hs10 with ⟨v25, h26, f27, hs11⟩ | hs11
          · clear hs10
            refine Or.inl ⟨_, _, f27, ?_⟩
            show am_W X _ 0 364 _ [(.int v25)] h26 _
            refine aw_istore (lv1 := am_put1 _ 5 _) (pc1 := 366) at_0_364 rfl rfl ?_
            refine aw_vload_n (pc1 := 367) at_0_366 (am_lk1 l2 rfl rfl) i2 rfl ?_
            refine aw_vload_n (pc1 := 368) at_0_367 (am_lk1 l0 rfl rfl) rfl rfl ?_
            refine aw_iload (pc1 := 370) at_0_368 (am_lk1 l4 rfl rfl) rfl ?_
            refine aw_iconst (v := 1) (pc1 := 371) at_0_370 (by decide) rfl ?_
            refine aw_iadd (v := (x4 + 1)) (pc1 := 372) at_0_371 rfl rfl ?_
            obtain ⟨v28, e29, hs12⟩ := am_bind hs11
            clear hs11
            refine aw_pX (j := 0) (pc1 := 373) at_0_372 rfl rfl e29 rfl ?_
            obtain ⟨z30, hs13⟩ := am_ift hs12
            clear hs12
            refine aw_call (F := fm_326 N x2 v28 h26) (t := true) (na := 2) (kd := 1) (as := [x2, (.int v28)]) at_0_373 (am_k3v kb_326) mn_326 mk_326 rfl rfl (am_ok_v mi_326 (am_hl rfl (am_ccR i2 (am_ccI am_cats_0)) rfl) z30) (am_hc am_cats_0 rfl) (fun _ => ⟨rfl, hh_0⟩) (fun o1 hz9 => rm_326 x2 v28 h26 o1 i2 hz9) ?_
            rcases am_cI_s hs13 with ⟨v31, h32, f33, hs14⟩ | hs14
            · clear hs13
              refine Or.inl ⟨_, _, f33, ?_⟩
              show am_W X _ 0 376 _ [(.int v31)] h32 _
              refine aw_istore (lv1 := am_put1 _ 6 _) (pc1 := 378) at_0_376 rfl rfl ?_
              refine aw_vload_n (pc1 := 379) at_0_378 (am_lk1 (am_lk1 l2 rfl rfl) rfl rfl) i2 rfl ?_
              obtain ⟨z34, hs15⟩ := am_ift hs14
              clear hs14
              refine aw_call (F := fm_324 x2 h32) (t := true) (na := 1) (kd := 1) (as := [x2]) at_0_379 (am_k3v kb_324) mn_324 mk_324 rfl rfl (am_ok_v mi_324 (am_hl rfl (am_ccR i2 am_cats_0) rfl) z34) (am_hc am_cats_0 rfl) (fun _ => ⟨rfl, hh_0⟩) (fun o1 hz9 => rm_324 x2 h32 o1 i2 hz9) ?_
              rcases am_cI_s hs15 with ⟨v35, h36, f37, hs16⟩ | hs16
              · clear hs15
                refine Or.inl ⟨_, _, f37, ?_⟩
                show am_W X _ 0 382 _ [(.int v35)] h36 _
                refine aw_iload (pc1 := 384) at_0_382 (am_lk1 am_lk0 rfl rfl) rfl ?_
                by_cases c38 : v35 = v25
                · rw [if_pos c38] at hs16
                  refine aw_iceq_t at_0_384 c38 ?_
                  refine aw_iload (pc1 := 391) at_0_389 (am_lk1 am_lk0 rfl rfl) rfl ?_
                  by_cases c39 : ¬ v25 = 0
                  · rw [if_pos c39] at hs16
                    refine aw_ifne_t at_0_391 c39 ?_
                    exact rg_0_406 (fun z0 z1 z2 z3 h o hs16 => ih z0 z1 z2 z3 h o hs16) x1 x2 x3 x4 h36 o (am_lk1 (am_lk1 l0 rfl rfl) rfl rfl) (am_lk1 (am_lk1 l1 rfl rfl) rfl rfl) (am_lk1 (am_lk1 l2 rfl rfl) rfl rfl) (am_lk1 (am_lk1 l3 rfl rfl) rfl rfl) (am_lk1 (am_lk1 l4 rfl rfl) rfl rfl) i1 i2 i3 hs16
                  · rw [if_neg c39] at hs16
                    refine aw_ifne_f (pc1 := 394) at_0_391 c39 rfl ?_
                    refine aw_vload_n (pc1 := 395) at_0_394 (am_lk1 (am_lk1 l3 rfl rfl) rfl rfl) i3 rfl ?_
                    refine aw_iconst (v := 0) (pc1 := 396) at_0_395 (by decide) rfl ?_
                    obtain ⟨v40, e41, hs17⟩ := am_bind hs16
                    clear hs16
                    refine aw_pAL (pc1 := 397) at_0_396 e41 rfl ?_
                    refine aw_iload (pc1 := 399) at_0_397 am_lk0 rfl ?_
                    refine aw_i2l (v := (Int32.toInt64 v31)) (pc1 := 400) at_0_399 rfl rfl ?_
                    refine aw_lcmp (v := (lg_cmp v40 (Int32.toInt64 v31))) (pc1 := 401) at_0_400 rfl rfl ?_
                    by_cases c42 : (lg_cmp v40 (Int32.toInt64 v31)) = 0
                    · rw [if_pos c42] at hs17
                      refine aw_ifeq_t at_0_401 c42 ?_
                      exact rg_0_406 (fun z0 z1 z2 z3 h o hs17 => ih z0 z1 z2 z3 h o hs17) x1 x2 x3 x4 h36 o (am_lk1 (am_lk1 l0 rfl rfl) rfl rfl) (am_lk1 (am_lk1 l1 rfl rfl) rfl rfl) (am_lk1 (am_lk1 l2 rfl rfl) rfl rfl) (am_lk1 (am_lk1 l3 rfl rfl) rfl rfl) (am_lk1 (am_lk1 l4 rfl rfl) rfl rfl) i1 i2 i3 hs17
                    · rw [if_neg c42] at hs17
                      refine aw_ifeq_f (pc1 := 404) at_0_401 c42 rfl ?_
                      refine aw_iconst (v := 0) (pc1 := 405) at_0_404 (by decide) rfl ?_
                      cases hs17
                      exact aw_iret at_0_405 (by rw [rt_0]; decide) rfl
                · rw [if_neg c38] at hs16
                  refine aw_iceq_f (pc1 := 387) at_0_384 c38 rfl ?_
                  refine aw_iconst (v := 0) (pc1 := 388) at_0_387 (by decide) rfl ?_
                  cases hs16
                  exact aw_iret at_0_388 (by rw [rt_0]; decide) rfl
              · clear hs15
                exact Or.inr hs16
            · clear hs13
              exact Or.inr hs14
          · clear hs10
            exact Or.inr hs11
        · rw [if_neg c22] at hs1
          by_cases c43 : (v2 &&& 63) = 2
          · rw [if_pos c43] at hs1
            refine aw_tsw (t := 409) at_0_40 (by rw [c43]; rfl) ?_
            refine aw_vload_n (pc1 := 410) at_0_409 l1 i1 rfl ?_
            refine aw_vload_n (pc1 := 411) at_0_410 l0 rfl rfl ?_
            refine aw_iload (pc1 := 413) at_0_411 l4 rfl ?_
            refine aw_iconst (v := 1) (pc1 := 414) at_0_413 (by decide) rfl ?_
            refine aw_iadd (v := (x4 + 1)) (pc1 := 415) at_0_414 rfl rfl ?_
            obtain ⟨v44, e45, hs18⟩ := am_bind hs1
            clear hs1
            refine aw_pX (j := 0) (pc1 := 416) at_0_415 rfl rfl e45 rfl ?_
            refine aw_vload_n (pc1 := 417) at_0_416 l3 i3 rfl ?_
            refine aw_call (F := fm_61 N x1 v44 x3 h) (t := false) (na := 3) (kd := 0) (as := [x1, (.int v44), x3]) at_0_417 (am_k3s kb_61) mn_61 mk_61 rfl rfl (am_ok_s mi_61 (am_hl rfl (am_ccR i1 (am_ccI (am_ccR i3 am_cats_0))) rfl)) (am_hc am_cats_0 rfl) (fun hz9 => by cases hz9) (fun o1 hz9 => rm_61 x1 v44 x3 h o1 i1 i3 hz9) ?_
            rcases am_cI_s hs18 with ⟨v46, h47, f48, hs19⟩ | hs19
            · clear hs18
              refine Or.inl ⟨_, _, f48, ?_⟩
              show am_W X _ 0 420 _ [(.int v46)] h47 _
              refine aw_istore (lv1 := am_put1 _ 5 _) (pc1 := 422) at_0_420 rfl rfl ?_
              refine aw_vload_n (pc1 := 423) at_0_422 (am_lk1 l2 rfl rfl) i2 rfl ?_
              refine aw_vload_n (pc1 := 424) at_0_423 (am_lk1 l0 rfl rfl) rfl rfl ?_
              refine aw_iload (pc1 := 426) at_0_424 (am_lk1 l4 rfl rfl) rfl ?_
              refine aw_iconst (v := 1) (pc1 := 427) at_0_426 (by decide) rfl ?_
              refine aw_iadd (v := (x4 + 1)) (pc1 := 428) at_0_427 rfl rfl ?_
              obtain ⟨v49, e50, hs20⟩ := am_bind hs19
              clear hs19
              refine aw_pX (j := 0) (pc1 := 429) at_0_428 rfl rfl e50 rfl ?_
              obtain ⟨z51, hs21⟩ := am_ift hs20
              clear hs20
              refine aw_call (F := fm_357 N x2 v49 h47) (t := true) (na := 2) (kd := 1) (as := [x2, (.int v49)]) at_0_429 (am_k3v kb_357) mn_357 mk_357 rfl rfl (am_ok_v mi_357 (am_hl rfl (am_ccR i2 (am_ccI am_cats_0)) rfl) z51) (am_hc am_cats_0 rfl) (fun _ => ⟨rfl, hh_0⟩) (fun o1 hz9 => rm_357 x2 v49 h47 o1 i2 hz9) ?_
              rcases am_cI_s hs21 with ⟨v52, h53, f54, hs22⟩ | hs22
              · clear hs21
                refine Or.inl ⟨_, _, f54, ?_⟩
                show am_W X _ 0 432 _ [(.int v52)] h53 _
                refine aw_istore (lv1 := am_put1 _ 6 _) (pc1 := 434) at_0_432 rfl rfl ?_
                refine aw_vload_n (pc1 := 435) at_0_434 (am_lk1 (am_lk1 l2 rfl rfl) rfl rfl) i2 rfl ?_
                obtain ⟨z55, hs23⟩ := am_ift hs22
                clear hs22
                refine aw_call (F := fm_324 x2 h53) (t := true) (na := 1) (kd := 1) (as := [x2]) at_0_435 (am_k3v kb_324) mn_324 mk_324 rfl rfl (am_ok_v mi_324 (am_hl rfl (am_ccR i2 am_cats_0) rfl) z55) (am_hc am_cats_0 rfl) (fun _ => ⟨rfl, hh_0⟩) (fun o1 hz9 => rm_324 x2 h53 o1 i2 hz9) ?_
                rcases am_cI_s hs23 with ⟨v56, h57, f58, hs24⟩ | hs24
                · clear hs23
                  refine Or.inl ⟨_, _, f58, ?_⟩
                  show am_W X _ 0 438 _ [(.int v56)] h57 _
                  refine aw_iload (pc1 := 440) at_0_438 (am_lk1 am_lk0 rfl rfl) rfl ?_
                  by_cases c59 : v56 = v46
                  · rw [if_pos c59] at hs24
                    refine aw_iceq_t at_0_440 c59 ?_
                    refine aw_iload (pc1 := 447) at_0_445 (am_lk1 am_lk0 rfl rfl) rfl ?_
                    by_cases c60 : ¬ v46 = 0
                    · rw [if_pos c60] at hs24
                      refine aw_ifne_t at_0_447 c60 ?_
                      exact rg_0_462 (fun z0 z1 z2 z3 h o hs24 => ih z0 z1 z2 z3 h o hs24) x1 x2 x3 x4 h57 o (am_lk1 (am_lk1 l0 rfl rfl) rfl rfl) (am_lk1 (am_lk1 l1 rfl rfl) rfl rfl) (am_lk1 (am_lk1 l2 rfl rfl) rfl rfl) (am_lk1 (am_lk1 l3 rfl rfl) rfl rfl) (am_lk1 (am_lk1 l4 rfl rfl) rfl rfl) i1 i2 i3 hs24
                    · rw [if_neg c60] at hs24
                      refine aw_ifne_f (pc1 := 450) at_0_447 c60 rfl ?_
                      refine aw_vload_n (pc1 := 451) at_0_450 (am_lk1 (am_lk1 l3 rfl rfl) rfl rfl) i3 rfl ?_
                      refine aw_iconst (v := 0) (pc1 := 452) at_0_451 (by decide) rfl ?_
                      obtain ⟨v61, e62, hs25⟩ := am_bind hs24
                      clear hs24
                      refine aw_pAL (pc1 := 453) at_0_452 e62 rfl ?_
                      refine aw_iload (pc1 := 455) at_0_453 am_lk0 rfl ?_
                      refine aw_i2l (v := (Int32.toInt64 v52)) (pc1 := 456) at_0_455 rfl rfl ?_
                      refine aw_lcmp (v := (lg_cmp v61 (Int32.toInt64 v52))) (pc1 := 457) at_0_456 rfl rfl ?_
                      by_cases c63 : (lg_cmp v61 (Int32.toInt64 v52)) = 0
                      · rw [if_pos c63] at hs25
                        refine aw_ifeq_t at_0_457 c63 ?_
                        exact rg_0_462 (fun z0 z1 z2 z3 h o hs25 => ih z0 z1 z2 z3 h o hs25) x1 x2 x3 x4 h57 o (am_lk1 (am_lk1 l0 rfl rfl) rfl rfl) (am_lk1 (am_lk1 l1 rfl rfl) rfl rfl) (am_lk1 (am_lk1 l2 rfl rfl) rfl rfl) (am_lk1 (am_lk1 l3 rfl rfl) rfl rfl) (am_lk1 (am_lk1 l4 rfl rfl) rfl rfl) i1 i2 i3 hs25
                      · rw [if_neg c63] at hs25
                        refine aw_ifeq_f (pc1 := 460) at_0_457 c63 rfl ?_
                        refine aw_iconst (v := 0) (pc1 := 461) at_0_460 (by decide) rfl ?_
                        cases hs25
                        exact aw_iret at_0_461 (by rw [rt_0]; decide) rfl
                  · rw [if_neg c59] at hs24
                    refine aw_iceq_f (pc1 := 443) at_0_440 c59 rfl ?_
                    refine aw_iconst (v := 0) (pc1 := 444) at_0_443 (by decide) rfl ?_
                    cases hs24
                    exact aw_iret at_0_444 (by rw [rt_0]; decide) rfl
                · clear hs23
                  exact Or.inr hs24
              · clear hs21
                exact Or.inr hs22
            · clear hs18
              exact Or.inr hs19
          · rw [if_neg c43] at hs1
            by_cases c64 : (v2 &&& 63) = 3
            · rw [if_pos c64] at hs1
              refine aw_tsw (t := 465) at_0_40 (by rw [c64]; rfl) ?_
              refine aw_vload_n (pc1 := 466) at_0_465 l1 i1 rfl ?_
              refine aw_vload_n (pc1 := 467) at_0_466 l0 rfl rfl ?_
              refine aw_iload (pc1 := 469) at_0_467 l4 rfl ?_
              refine aw_iconst (v := 1) (pc1 := 470) at_0_469 (by decide) rfl ?_
              refine aw_iadd (v := (x4 + 1)) (pc1 := 471) at_0_470 rfl rfl ?_
              obtain ⟨v65, e66, hs26⟩ := am_bind hs1
              clear hs1
              refine aw_pX (j := 0) (pc1 := 472) at_0_471 rfl rfl e66 rfl ?_
              refine aw_vload_n (pc1 := 473) at_0_472 l0 rfl rfl ?_
              refine aw_iload (pc1 := 475) at_0_473 l4 rfl ?_
              refine aw_iconst (v := 2) (pc1 := 476) at_0_475 (by decide) rfl ?_
              refine aw_iadd (v := (x4 + 2)) (pc1 := 477) at_0_476 rfl rfl ?_
              obtain ⟨v67, e68, hs27⟩ := am_bind hs26
              clear hs26
              refine aw_pX (j := 0) (pc1 := 478) at_0_477 rfl rfl e68 rfl ?_
              refine aw_vload_n (pc1 := 479) at_0_478 l3 i3 rfl ?_
              refine aw_call (F := fm_70 N x1 v65 v67 x3 h) (t := false) (na := 4) (kd := 0) (as := [x1, (.int v65), (.int v67), x3]) at_0_479 (am_k3s kb_70) mn_70 mk_70 rfl rfl (am_ok_s mi_70 (am_hl rfl (am_ccR i1 (am_ccI (am_ccI (am_ccR i3 am_cats_0)))) rfl)) (am_hc am_cats_0 rfl) (fun hz9 => by cases hz9) (fun o1 hz9 => rm_70 x1 v65 v67 x3 h o1 i1 i3 hz9) ?_
              rcases am_cI_s hs27 with ⟨v69, h70, f71, hs28⟩ | hs28
              · clear hs27
                refine Or.inl ⟨_, _, f71, ?_⟩
                show am_W X _ 0 482 _ [(.int v69)] h70 _
                refine aw_istore (lv1 := am_put1 _ 5 _) (pc1 := 484) at_0_482 rfl rfl ?_
                refine aw_vload_n (pc1 := 485) at_0_484 (am_lk1 l2 rfl rfl) i2 rfl ?_
                refine aw_vload_n (pc1 := 486) at_0_485 (am_lk1 l0 rfl rfl) rfl rfl ?_
                refine aw_iload (pc1 := 488) at_0_486 (am_lk1 l4 rfl rfl) rfl ?_
                refine aw_iconst (v := 1) (pc1 := 489) at_0_488 (by decide) rfl ?_
                refine aw_iadd (v := (x4 + 1)) (pc1 := 490) at_0_489 rfl rfl ?_
                obtain ⟨v72, e73, hs29⟩ := am_bind hs28
                clear hs28
                refine aw_pX (j := 0) (pc1 := 491) at_0_490 rfl rfl e73 rfl ?_
                refine aw_vload_n (pc1 := 492) at_0_491 (am_lk1 l0 rfl rfl) rfl rfl ?_
                refine aw_iload (pc1 := 494) at_0_492 (am_lk1 l4 rfl rfl) rfl ?_
                refine aw_iconst (v := 2) (pc1 := 495) at_0_494 (by decide) rfl ?_
                refine aw_iadd (v := (x4 + 2)) (pc1 := 496) at_0_495 rfl rfl ?_
                obtain ⟨v74, e75, hs30⟩ := am_bind hs29
                clear hs29
                refine aw_pX (j := 0) (pc1 := 497) at_0_496 rfl rfl e75 rfl ?_
                obtain ⟨z76, hs31⟩ := am_ift hs30
                clear hs30
                refine aw_call (F := fm_368 N x2 v72 v74 h70) (t := true) (na := 3) (kd := 1) (as := [x2, (.int v72), (.int v74)]) at_0_497 (am_k3v kb_368) mn_368 mk_368 rfl rfl (am_ok_v mi_368 (am_hl rfl (am_ccR i2 (am_ccI (am_ccI am_cats_0))) rfl) z76) (am_hc am_cats_0 rfl) (fun _ => ⟨rfl, hh_0⟩) (fun o1 hz9 => rm_368 x2 v72 v74 h70 o1 i2 hz9) ?_
                rcases am_cI_s hs31 with ⟨v77, h78, f79, hs32⟩ | hs32
                · clear hs31
                  refine Or.inl ⟨_, _, f79, ?_⟩
                  show am_W X _ 0 500 _ [(.int v77)] h78 _
                  refine aw_istore (lv1 := am_put1 _ 6 _) (pc1 := 502) at_0_500 rfl rfl ?_
                  refine aw_vload_n (pc1 := 503) at_0_502 (am_lk1 (am_lk1 l2 rfl rfl) rfl rfl) i2 rfl ?_
                  obtain ⟨z80, hs33⟩ := am_ift hs32
                  clear hs32
                  refine aw_call (F := fm_324 x2 h78) (t := true) (na := 1) (kd := 1) (as := [x2]) at_0_503 (am_k3v kb_324) mn_324 mk_324 rfl rfl (am_ok_v mi_324 (am_hl rfl (am_ccR i2 am_cats_0) rfl) z80) (am_hc am_cats_0 rfl) (fun _ => ⟨rfl, hh_0⟩) (fun o1 hz9 => rm_324 x2 h78 o1 i2 hz9) ?_
                  rcases am_cI_s hs33 with ⟨v81, h82, f83, hs34⟩ | hs34
                  · clear hs33
                    refine Or.inl ⟨_, _, f83, ?_⟩
                    show am_W X _ 0 506 _ [(.int v81)] h82 _
                    refine aw_iload (pc1 := 508) at_0_506 (am_lk1 am_lk0 rfl rfl) rfl ?_
                    by_cases c84 : v81 = v69
                    · rw [if_pos c84] at hs34
                      refine aw_iceq_t at_0_508 c84 ?_
                      refine aw_iload (pc1 := 515) at_0_513 (am_lk1 am_lk0 rfl rfl) rfl ?_
                      by_cases c85 : ¬ v69 = 0
                      · rw [if_pos c85] at hs34
                        refine aw_ifne_t at_0_515 c85 ?_
                        exact rg_0_530 (fun z0 z1 z2 z3 h o hs34 => ih z0 z1 z2 z3 h o hs34) x1 x2 x3 x4 h82 o (am_lk1 (am_lk1 l0 rfl rfl) rfl rfl) (am_lk1 (am_lk1 l1 rfl rfl) rfl rfl) (am_lk1 (am_lk1 l2 rfl rfl) rfl rfl) (am_lk1 (am_lk1 l3 rfl rfl) rfl rfl) (am_lk1 (am_lk1 l4 rfl rfl) rfl rfl) i1 i2 i3 hs34
                      · rw [if_neg c85] at hs34
                        refine aw_ifne_f (pc1 := 518) at_0_515 c85 rfl ?_
                        refine aw_vload_n (pc1 := 519) at_0_518 (am_lk1 (am_lk1 l3 rfl rfl) rfl rfl) i3 rfl ?_
                        refine aw_iconst (v := 0) (pc1 := 520) at_0_519 (by decide) rfl ?_
                        obtain ⟨v86, e87, hs35⟩ := am_bind hs34
                        clear hs34
                        refine aw_pAL (pc1 := 521) at_0_520 e87 rfl ?_
                        refine aw_iload (pc1 := 523) at_0_521 am_lk0 rfl ?_
                        refine aw_i2l (v := (Int32.toInt64 v77)) (pc1 := 524) at_0_523 rfl rfl ?_
                        refine aw_lcmp (v := (lg_cmp v86 (Int32.toInt64 v77))) (pc1 := 525) at_0_524 rfl rfl ?_
                        by_cases c88 : (lg_cmp v86 (Int32.toInt64 v77)) = 0
                        · rw [if_pos c88] at hs35
                          refine aw_ifeq_t at_0_525 c88 ?_
                          exact rg_0_530 (fun z0 z1 z2 z3 h o hs35 => ih z0 z1 z2 z3 h o hs35) x1 x2 x3 x4 h82 o (am_lk1 (am_lk1 l0 rfl rfl) rfl rfl) (am_lk1 (am_lk1 l1 rfl rfl) rfl rfl) (am_lk1 (am_lk1 l2 rfl rfl) rfl rfl) (am_lk1 (am_lk1 l3 rfl rfl) rfl rfl) (am_lk1 (am_lk1 l4 rfl rfl) rfl rfl) i1 i2 i3 hs35
                        · rw [if_neg c88] at hs35
                          refine aw_ifeq_f (pc1 := 528) at_0_525 c88 rfl ?_
                          refine aw_iconst (v := 0) (pc1 := 529) at_0_528 (by decide) rfl ?_
                          cases hs35
                          exact aw_iret at_0_529 (by rw [rt_0]; decide) rfl
                    · rw [if_neg c84] at hs34
                      refine aw_iceq_f (pc1 := 511) at_0_508 c84 rfl ?_
                      refine aw_iconst (v := 0) (pc1 := 512) at_0_511 (by decide) rfl ?_
                      cases hs34
                      exact aw_iret at_0_512 (by rw [rt_0]; decide) rfl
                  · clear hs33
                    exact Or.inr hs34
                · clear hs31
                  exact Or.inr hs32
              · clear hs27
                exact Or.inr hs28
            · rw [if_neg c64] at hs1
              by_cases c89 : (v2 &&& 63) = 4
              · rw [if_pos c89] at hs1
                refine aw_tsw (t := 533) at_0_40 (by rw [c89]; rfl) ?_
                refine aw_vload_n (pc1 := 534) at_0_533 l1 i1 rfl ?_
                obtain ⟨z90, hs36⟩ := am_ift hs1
                clear hs1
                refine aw_call (F := fm_23 x1 h) (t := true) (na := 1) (kd := 1) (as := [x1]) at_0_534 (am_k3v kb_23) mn_23 mk_23 rfl rfl (am_ok_v mi_23 (am_hl rfl (am_ccR i1 am_cats_0) rfl) z90) (am_hc am_cats_0 rfl) (fun _ => ⟨rfl, hh_0⟩) (fun o1 hz9 => rm_23 x1 h o1 i1 hz9) ?_
                rcases am_cI_s hs36 with ⟨v91, h92, f93, hs37⟩ | hs37
                · clear hs36
                  refine Or.inl ⟨_, _, f93, ?_⟩
                  show am_W X _ 0 537 _ [(.int v91)] h92 _
                  refine aw_vload_n (pc1 := 538) at_0_537 l2 i2 rfl ?_
                  obtain ⟨z94, hs38⟩ := am_ift hs37
                  clear hs37
                  refine aw_call (F := fm_369 x2 h92) (t := true) (na := 1) (kd := 1) (as := [x2]) at_0_538 (am_k3v kb_369) mn_369 mk_369 rfl rfl (am_ok_v mi_369 (am_hl rfl (am_ccR i2 am_cats_0) rfl) z94) (am_hc (am_ccI am_cats_0) rfl) (fun _ => ⟨rfl, hh_0⟩) (fun o1 hz9 => rm_369 x2 h92 o1 i2 hz9) ?_
                  rcases am_cI_s hs38 with ⟨v95, h96, f97, hs39⟩ | hs39
                  · clear hs38
                    refine Or.inl ⟨_, _, f97, ?_⟩
                    show am_W X _ 0 541 _ [(.int v95), (.int v91)] h96 _
                    by_cases c98 : v91 = v95
                    · rw [if_pos c98] at hs39
                      refine aw_iceq_t at_0_541 c98 ?_
                      exact rg_0_4192 (fun z0 z1 z2 z3 h o hs39 => ih z0 z1 z2 z3 h o hs39) x1 x2 x3 x4 h96 o l0 l1 l2 l3 l4 i1 i2 i3 hs39
                    · rw [if_neg c98] at hs39
                      refine aw_iceq_f (pc1 := 544) at_0_541 c98 rfl ?_
                      refine aw_iconst (v := 0) (pc1 := 545) at_0_544 (by decide) rfl ?_
                      cases hs39
                      exact aw_iret at_0_545 (by rw [rt_0]; decide) rfl
                  · clear hs38
                    exact Or.inr hs39
                · clear hs36
                  exact Or.inr hs37
              · rw [if_neg c89] at hs1
                by_cases c99 : (v2 &&& 63) = 5
                · rw [if_pos c99] at hs1
                  refine aw_tsw (t := 546) at_0_40 (by rw [c99]; rfl) ?_
                  refine aw_vload_n (pc1 := 547) at_0_546 l1 i1 rfl ?_
                  refine aw_vload_n (pc1 := 548) at_0_547 l0 rfl rfl ?_
                  refine aw_iload (pc1 := 550) at_0_548 l4 rfl ?_
                  refine aw_iconst (v := 1) (pc1 := 551) at_0_550 (by decide) rfl ?_
                  refine aw_iadd (v := (x4 + 1)) (pc1 := 552) at_0_551 rfl rfl ?_
                  obtain ⟨v100, e101, hs40⟩ := am_bind hs1
                  clear hs1
                  refine aw_pX (j := 0) (pc1 := 553) at_0_552 rfl rfl e101 rfl ?_
                  refine aw_vload_n (pc1 := 554) at_0_553 l0 rfl rfl ?_
                  refine aw_iload (pc1 := 556) at_0_554 l4 rfl ?_
                  refine aw_iconst (v := 2) (pc1 := 557) at_0_556 (by decide) rfl ?_
                  refine aw_iadd (v := (x4 + 2)) (pc1 := 558) at_0_557 rfl rfl ?_
                  obtain ⟨v102, e103, hs41⟩ := am_bind hs40
                  clear hs40
                  refine aw_pX (j := 0) (pc1 := 559) at_0_558 rfl rfl e103 rfl ?_
                  refine aw_vload_n (pc1 := 560) at_0_559 l3 i3 rfl ?_
                  refine aw_call (F := fm_73 N x1 v100 v102 x3 h) (t := false) (na := 4) (kd := 0) (as := [x1, (.int v100), (.int v102), x3]) at_0_560 (am_k3s kb_73) mn_73 mk_73 rfl rfl (am_ok_s mi_73 (am_hl rfl (am_ccR i1 (am_ccI (am_ccI (am_ccR i3 am_cats_0)))) rfl)) (am_hc am_cats_0 rfl) (fun hz9 => by cases hz9) (fun o1 hz9 => rm_73 x1 v100 v102 x3 h o1 i1 i3 hz9) ?_
                  rcases am_cI_s hs41 with ⟨v104, h105, f106, hs42⟩ | hs42
                  · clear hs41
                    refine Or.inl ⟨_, _, f106, ?_⟩
                    show am_W X _ 0 563 _ [(.int v104)] h105 _
                    refine aw_istore (lv1 := am_put1 _ 5 _) (pc1 := 565) at_0_563 rfl rfl ?_
                    refine aw_vload_n (pc1 := 566) at_0_565 (am_lk1 l2 rfl rfl) i2 rfl ?_
                    refine aw_vload_n (pc1 := 567) at_0_566 (am_lk1 l0 rfl rfl) rfl rfl ?_
                    refine aw_iload (pc1 := 569) at_0_567 (am_lk1 l4 rfl rfl) rfl ?_
                    refine aw_iconst (v := 1) (pc1 := 570) at_0_569 (by decide) rfl ?_
                    refine aw_iadd (v := (x4 + 1)) (pc1 := 571) at_0_570 rfl rfl ?_
                    obtain ⟨v107, e108, hs43⟩ := am_bind hs42
                    clear hs42
                    refine aw_pX (j := 0) (pc1 := 572) at_0_571 rfl rfl e108 rfl ?_
                    refine aw_vload_n (pc1 := 573) at_0_572 (am_lk1 l0 rfl rfl) rfl rfl ?_
                    refine aw_iload (pc1 := 575) at_0_573 (am_lk1 l4 rfl rfl) rfl ?_
                    refine aw_iconst (v := 2) (pc1 := 576) at_0_575 (by decide) rfl ?_
                    refine aw_iadd (v := (x4 + 2)) (pc1 := 577) at_0_576 rfl rfl ?_
                    obtain ⟨v109, e110, hs44⟩ := am_bind hs43
                    clear hs43
                    refine aw_pX (j := 0) (pc1 := 578) at_0_577 rfl rfl e110 rfl ?_
                    obtain ⟨z111, hs45⟩ := am_ift hs44
                    clear hs44
                    refine aw_call (F := fm_370 N x2 v107 v109 h105) (t := true) (na := 3) (kd := 1) (as := [x2, (.int v107), (.int v109)]) at_0_578 (am_k3v kb_370) mn_370 mk_370 rfl rfl (am_ok_v mi_370 (am_hl rfl (am_ccR i2 (am_ccI (am_ccI am_cats_0))) rfl) z111) (am_hc am_cats_0 rfl) (fun _ => ⟨rfl, hh_0⟩) (fun o1 hz9 => rm_370 x2 v107 v109 h105 o1 i2 hz9) ?_
                    rcases am_cI_s hs45 with ⟨v112, h113, f114, hs46⟩ | hs46
                    · clear hs45
                      refine Or.inl ⟨_, _, f114, ?_⟩
                      show am_W X _ 0 581 _ [(.int v112)] h113 _
                      refine aw_istore (lv1 := am_put1 _ 6 _) (pc1 := 583) at_0_581 rfl rfl ?_
                      refine aw_vload_n (pc1 := 584) at_0_583 (am_lk1 (am_lk1 l2 rfl rfl) rfl rfl) i2 rfl ?_
                      obtain ⟨z115, hs47⟩ := am_ift hs46
                      clear hs46
                      refine aw_call (F := fm_324 x2 h113) (t := true) (na := 1) (kd := 1) (as := [x2]) at_0_584 (am_k3v kb_324) mn_324 mk_324 rfl rfl (am_ok_v mi_324 (am_hl rfl (am_ccR i2 am_cats_0) rfl) z115) (am_hc am_cats_0 rfl) (fun _ => ⟨rfl, hh_0⟩) (fun o1 hz9 => rm_324 x2 h113 o1 i2 hz9) ?_
                      rcases am_cI_s hs47 with ⟨v116, h117, f118, hs48⟩ | hs48
                      · clear hs47
                        refine Or.inl ⟨_, _, f118, ?_⟩
                        show am_W X _ 0 587 _ [(.int v116)] h117 _
                        refine aw_iload (pc1 := 589) at_0_587 (am_lk1 am_lk0 rfl rfl) rfl ?_
                        by_cases c119 : v116 = v104
                        · rw [if_pos c119] at hs48
                          refine aw_iceq_t at_0_589 c119 ?_
                          refine aw_iload (pc1 := 596) at_0_594 (am_lk1 am_lk0 rfl rfl) rfl ?_
                          by_cases c120 : ¬ v104 = 0
                          · rw [if_pos c120] at hs48
                            refine aw_ifne_t at_0_596 c120 ?_
                            exact rg_0_611 (fun z0 z1 z2 z3 h o hs48 => ih z0 z1 z2 z3 h o hs48) x1 x2 x3 x4 h117 o (am_lk1 (am_lk1 l0 rfl rfl) rfl rfl) (am_lk1 (am_lk1 l1 rfl rfl) rfl rfl) (am_lk1 (am_lk1 l2 rfl rfl) rfl rfl) (am_lk1 (am_lk1 l3 rfl rfl) rfl rfl) (am_lk1 (am_lk1 l4 rfl rfl) rfl rfl) i1 i2 i3 hs48
                          · rw [if_neg c120] at hs48
                            refine aw_ifne_f (pc1 := 599) at_0_596 c120 rfl ?_
                            refine aw_vload_n (pc1 := 600) at_0_599 (am_lk1 (am_lk1 l3 rfl rfl) rfl rfl) i3 rfl ?_
                            refine aw_iconst (v := 0) (pc1 := 601) at_0_600 (by decide) rfl ?_
                            obtain ⟨v121, e122, hs49⟩ := am_bind hs48
                            clear hs48
                            refine aw_pAL (pc1 := 602) at_0_601 e122 rfl ?_
                            refine aw_iload (pc1 := 604) at_0_602 am_lk0 rfl ?_
                            refine aw_i2l (v := (Int32.toInt64 v112)) (pc1 := 605) at_0_604 rfl rfl ?_
                            refine aw_lcmp (v := (lg_cmp v121 (Int32.toInt64 v112))) (pc1 := 606) at_0_605 rfl rfl ?_
                            by_cases c123 : (lg_cmp v121 (Int32.toInt64 v112)) = 0
                            · rw [if_pos c123] at hs49
                              refine aw_ifeq_t at_0_606 c123 ?_
                              exact rg_0_611 (fun z0 z1 z2 z3 h o hs49 => ih z0 z1 z2 z3 h o hs49) x1 x2 x3 x4 h117 o (am_lk1 (am_lk1 l0 rfl rfl) rfl rfl) (am_lk1 (am_lk1 l1 rfl rfl) rfl rfl) (am_lk1 (am_lk1 l2 rfl rfl) rfl rfl) (am_lk1 (am_lk1 l3 rfl rfl) rfl rfl) (am_lk1 (am_lk1 l4 rfl rfl) rfl rfl) i1 i2 i3 hs49
                            · rw [if_neg c123] at hs49
                              refine aw_ifeq_f (pc1 := 609) at_0_606 c123 rfl ?_
                              refine aw_iconst (v := 0) (pc1 := 610) at_0_609 (by decide) rfl ?_
                              cases hs49
                              exact aw_iret at_0_610 (by rw [rt_0]; decide) rfl
                        · rw [if_neg c119] at hs48
                          refine aw_iceq_f (pc1 := 592) at_0_589 c119 rfl ?_
                          refine aw_iconst (v := 0) (pc1 := 593) at_0_592 (by decide) rfl ?_
                          cases hs48
                          exact aw_iret at_0_593 (by rw [rt_0]; decide) rfl
                      · clear hs47
                        exact Or.inr hs48
                    · clear hs45
                      exact Or.inr hs46
                  · clear hs41
                    exact Or.inr hs42
                · rw [if_neg c99] at hs1
                  by_cases c124 : (v2 &&& 63) = 6
                  · rw [if_pos c124] at hs1
                    refine aw_tsw (t := 614) at_0_40 (by rw [c124]; rfl) ?_
                    refine aw_vload_n (pc1 := 615) at_0_614 l1 i1 rfl ?_
                    refine aw_vload_n (pc1 := 616) at_0_615 l0 rfl rfl ?_
                    refine aw_iload (pc1 := 618) at_0_616 l4 rfl ?_
                    refine aw_iconst (v := 1) (pc1 := 619) at_0_618 (by decide) rfl ?_
                    refine aw_iadd (v := (x4 + 1)) (pc1 := 620) at_0_619 rfl rfl ?_
                    obtain ⟨v125, e126, hs50⟩ := am_bind hs1
                    clear hs1
                    refine aw_pX (j := 0) (pc1 := 621) at_0_620 rfl rfl e126 rfl ?_
                    refine aw_vload_n (pc1 := 622) at_0_621 l3 i3 rfl ?_
                    refine aw_call (F := fm_80 x1 v125 x3 h) (t := false) (na := 3) (kd := 0) (as := [x1, (.int v125), x3]) at_0_622 (am_k3s kb_80) mn_80 mk_80 rfl rfl (am_ok_s mi_80 (am_hl rfl (am_ccR i1 (am_ccI (am_ccR i3 am_cats_0))) rfl)) (am_hc am_cats_0 rfl) (fun hz9 => by cases hz9) (fun o1 hz9 => rm_80 x1 v125 x3 h o1 i1 i3 hz9) ?_
                    rcases am_cI_s hs50 with ⟨v127, h128, f129, hs51⟩ | hs51
                    · clear hs50
                      refine Or.inl ⟨_, _, f129, ?_⟩
                      show am_W X _ 0 625 _ [(.int v127)] h128 _
                      refine aw_istore (lv1 := am_put1 _ 5 _) (pc1 := 627) at_0_625 rfl rfl ?_
                      refine aw_vload_n (pc1 := 628) at_0_627 (am_lk1 l2 rfl rfl) i2 rfl ?_
                      refine aw_vload_n (pc1 := 629) at_0_628 (am_lk1 l0 rfl rfl) rfl rfl ?_
                      refine aw_iload (pc1 := 631) at_0_629 (am_lk1 l4 rfl rfl) rfl ?_
                      refine aw_iconst (v := 1) (pc1 := 632) at_0_631 (by decide) rfl ?_
                      refine aw_iadd (v := (x4 + 1)) (pc1 := 633) at_0_632 rfl rfl ?_
                      obtain ⟨v130, e131, hs52⟩ := am_bind hs51
                      clear hs51
                      refine aw_pX (j := 0) (pc1 := 634) at_0_633 rfl rfl e131 rfl ?_
                      obtain ⟨z132, hs53⟩ := am_ift hs52
                      clear hs52
                      refine aw_call (F := fm_372 x2 v130 h128) (t := true) (na := 2) (kd := 1) (as := [x2, (.int v130)]) at_0_634 (am_k3v kb_372) mn_372 mk_372 rfl rfl (am_ok_v mi_372 (am_hl rfl (am_ccR i2 (am_ccI am_cats_0)) rfl) z132) (am_hc am_cats_0 rfl) (fun _ => ⟨rfl, hh_0⟩) (fun o1 hz9 => rm_372 x2 v130 h128 o1 i2 hz9) ?_
                      rcases am_cL_s hs53 with ⟨v133, h134, f135, hs54⟩ | hs54
                      · clear hs53
                        refine Or.inl ⟨_, _, f135, ?_⟩
                        show am_W X _ 0 637 _ [(.long v133)] h134 _
                        refine aw_lstore (lv1 := am_put2 _ 6 _) (pc1 := 639) at_0_637 rfl rfl ?_
                        refine aw_vload_n (pc1 := 640) at_0_639 (am_lk2 (am_lk1 l2 rfl rfl) rfl rfl) i2 rfl ?_
                        obtain ⟨z136, hs55⟩ := am_ift hs54
                        clear hs54
                        refine aw_call (F := fm_324 x2 h134) (t := true) (na := 1) (kd := 1) (as := [x2]) at_0_640 (am_k3v kb_324) mn_324 mk_324 rfl rfl (am_ok_v mi_324 (am_hl rfl (am_ccR i2 am_cats_0) rfl) z136) (am_hc am_cats_0 rfl) (fun _ => ⟨rfl, hh_0⟩) (fun o1 hz9 => rm_324 x2 h134 o1 i2 hz9) ?_
                        rcases am_cI_s hs55 with ⟨v137, h138, f139, hs56⟩ | hs56
                        · clear hs55
                          refine Or.inl ⟨_, _, f139, ?_⟩
                          show am_W X _ 0 643 _ [(.int v137)] h138 _
                          refine aw_iload (pc1 := 645) at_0_643 (am_lk2 am_lk0 rfl rfl) rfl ?_
                          by_cases c140 : v137 = v127
                          · rw [if_pos c140] at hs56
                            refine aw_iceq_t at_0_645 c140 ?_
                            refine aw_iload (pc1 := 652) at_0_650 (am_lk2 am_lk0 rfl rfl) rfl ?_
                            by_cases c141 : ¬ v127 = 0
                            · rw [if_pos c141] at hs56
                              refine aw_ifne_t at_0_652 c141 ?_
                              exact rg_0_666 (fun z0 z1 z2 z3 h o hs56 => ih z0 z1 z2 z3 h o hs56) x1 x2 x3 x4 h138 o (am_lk2 (am_lk1 l0 rfl rfl) rfl rfl) (am_lk2 (am_lk1 l1 rfl rfl) rfl rfl) (am_lk2 (am_lk1 l2 rfl rfl) rfl rfl) (am_lk2 (am_lk1 l3 rfl rfl) rfl rfl) (am_lk2 (am_lk1 l4 rfl rfl) rfl rfl) i1 i2 i3 hs56
                            · rw [if_neg c141] at hs56
                              refine aw_ifne_f (pc1 := 655) at_0_652 c141 rfl ?_
                              refine aw_vload_n (pc1 := 656) at_0_655 (am_lk2 (am_lk1 l3 rfl rfl) rfl rfl) i3 rfl ?_
                              refine aw_iconst (v := 0) (pc1 := 657) at_0_656 (by decide) rfl ?_
                              obtain ⟨v142, e143, hs57⟩ := am_bind hs56
                              clear hs56
                              refine aw_pAL (pc1 := 658) at_0_657 e143 rfl ?_
                              refine aw_lload (pc1 := 660) at_0_658 am_lk02 rfl ?_
                              refine aw_lcmp (v := (lg_cmp v142 v133)) (pc1 := 661) at_0_660 rfl rfl ?_
                              by_cases c144 : (lg_cmp v142 v133) = 0
                              · rw [if_pos c144] at hs57
                                refine aw_ifeq_t at_0_661 c144 ?_
                                exact rg_0_666 (fun z0 z1 z2 z3 h o hs57 => ih z0 z1 z2 z3 h o hs57) x1 x2 x3 x4 h138 o (am_lk2 (am_lk1 l0 rfl rfl) rfl rfl) (am_lk2 (am_lk1 l1 rfl rfl) rfl rfl) (am_lk2 (am_lk1 l2 rfl rfl) rfl rfl) (am_lk2 (am_lk1 l3 rfl rfl) rfl rfl) (am_lk2 (am_lk1 l4 rfl rfl) rfl rfl) i1 i2 i3 hs57
                              · rw [if_neg c144] at hs57
                                refine aw_ifeq_f (pc1 := 664) at_0_661 c144 rfl ?_
                                refine aw_iconst (v := 0) (pc1 := 665) at_0_664 (by decide) rfl ?_
                                cases hs57
                                exact aw_iret at_0_665 (by rw [rt_0]; decide) rfl
                          · rw [if_neg c140] at hs56
                            refine aw_iceq_f (pc1 := 648) at_0_645 c140 rfl ?_
                            refine aw_iconst (v := 0) (pc1 := 649) at_0_648 (by decide) rfl ?_
                            cases hs56
                            exact aw_iret at_0_649 (by rw [rt_0]; decide) rfl
                        · clear hs55
                          exact Or.inr hs56
                      · clear hs53
                        exact Or.inr hs54
                    · clear hs50
                      exact Or.inr hs51
                  · rw [if_neg c124] at hs1
                    by_cases c145 : (v2 &&& 63) = 7
                    · rw [if_pos c145] at hs1
                      refine aw_tsw (t := 669) at_0_40 (by rw [c145]; rfl) ?_
                      refine aw_vload_n (pc1 := 670) at_0_669 l1 i1 rfl ?_
                      refine aw_vload_n (pc1 := 671) at_0_670 l0 rfl rfl ?_
                      refine aw_iload (pc1 := 673) at_0_671 l4 rfl ?_
                      refine aw_iconst (v := 1) (pc1 := 674) at_0_673 (by decide) rfl ?_
                      refine aw_iadd (v := (x4 + 1)) (pc1 := 675) at_0_674 rfl rfl ?_
                      obtain ⟨v146, e147, hs58⟩ := am_bind hs1
                      clear hs1
                      refine aw_pX (j := 0) (pc1 := 676) at_0_675 rfl rfl e147 rfl ?_
                      refine aw_vload_n (pc1 := 677) at_0_676 l0 rfl rfl ?_
                      refine aw_iload (pc1 := 679) at_0_677 l4 rfl ?_
                      refine aw_iconst (v := 2) (pc1 := 680) at_0_679 (by decide) rfl ?_
                      refine aw_iadd (v := (x4 + 2)) (pc1 := 681) at_0_680 rfl rfl ?_
                      obtain ⟨v148, e149, hs59⟩ := am_bind hs58
                      clear hs58
                      refine aw_pX (j := 0) (pc1 := 682) at_0_681 rfl rfl e149 rfl ?_
                      refine aw_vload_n (pc1 := 683) at_0_682 l0 rfl rfl ?_
                      refine aw_iload (pc1 := 685) at_0_683 l4 rfl ?_
                      refine aw_iconst (v := 3) (pc1 := 686) at_0_685 (by decide) rfl ?_
                      refine aw_iadd (v := (x4 + 3)) (pc1 := 687) at_0_686 rfl rfl ?_
                      obtain ⟨v150, e151, hs60⟩ := am_bind hs59
                      clear hs59
                      refine aw_pX (j := 0) (pc1 := 688) at_0_687 rfl rfl e151 rfl ?_
                      refine aw_vload_n (pc1 := 689) at_0_688 l3 i3 rfl ?_
                      refine aw_call (F := fm_82 x1 v146 v148 v150 x3 h) (t := false) (na := 5) (kd := 0) (as := [x1, (.int v146), (.int v148), (.int v150), x3]) at_0_689 (am_k3s kb_82) mn_82 mk_82 rfl rfl (am_ok_s mi_82 (am_hl rfl (am_ccR i1 (am_ccI (am_ccI (am_ccI (am_ccR i3 am_cats_0))))) rfl)) (am_hc am_cats_0 rfl) (fun hz9 => by cases hz9) (fun o1 hz9 => rm_82 x1 v146 v148 v150 x3 h o1 i1 i3 hz9) ?_
                      rcases am_cI_s hs60 with ⟨v152, h153, f154, hs61⟩ | hs61
                      · clear hs60
                        refine Or.inl ⟨_, _, f154, ?_⟩
                        show am_W X _ 0 692 _ [(.int v152)] h153 _
                        refine aw_istore (lv1 := am_put1 _ 5 _) (pc1 := 694) at_0_692 rfl rfl ?_
                        refine aw_vload_n (pc1 := 695) at_0_694 (am_lk1 l2 rfl rfl) i2 rfl ?_
                        refine aw_vload_n (pc1 := 696) at_0_695 (am_lk1 l0 rfl rfl) rfl rfl ?_
                        refine aw_iload (pc1 := 698) at_0_696 (am_lk1 l4 rfl rfl) rfl ?_
                        refine aw_iconst (v := 1) (pc1 := 699) at_0_698 (by decide) rfl ?_
                        refine aw_iadd (v := (x4 + 1)) (pc1 := 700) at_0_699 rfl rfl ?_
                        obtain ⟨v155, e156, hs62⟩ := am_bind hs61
                        clear hs61
                        refine aw_pX (j := 0) (pc1 := 701) at_0_700 rfl rfl e156 rfl ?_
                        refine aw_vload_n (pc1 := 702) at_0_701 (am_lk1 l0 rfl rfl) rfl rfl ?_
                        refine aw_iload (pc1 := 704) at_0_702 (am_lk1 l4 rfl rfl) rfl ?_
                        refine aw_iconst (v := 2) (pc1 := 705) at_0_704 (by decide) rfl ?_
                        refine aw_iadd (v := (x4 + 2)) (pc1 := 706) at_0_705 rfl rfl ?_
                        obtain ⟨v157, e158, hs63⟩ := am_bind hs62
                        clear hs62
                        refine aw_pX (j := 0) (pc1 := 707) at_0_706 rfl rfl e158 rfl ?_
                        refine aw_vload_n (pc1 := 708) at_0_707 (am_lk1 l0 rfl rfl) rfl rfl ?_
                        refine aw_iload (pc1 := 710) at_0_708 (am_lk1 l4 rfl rfl) rfl ?_
                        refine aw_iconst (v := 3) (pc1 := 711) at_0_710 (by decide) rfl ?_
                        refine aw_iadd (v := (x4 + 3)) (pc1 := 712) at_0_711 rfl rfl ?_
                        obtain ⟨v159, e160, hs64⟩ := am_bind hs63
                        clear hs63
                        refine aw_pX (j := 0) (pc1 := 713) at_0_712 rfl rfl e160 rfl ?_
                        obtain ⟨z161, hs65⟩ := am_ift hs64
                        clear hs64
                        refine aw_call (F := fm_373 x2 v155 v157 v159 h153) (t := true) (na := 4) (kd := 1) (as := [x2, (.int v155), (.int v157), (.int v159)]) at_0_713 (am_k3v kb_373) mn_373 mk_373 rfl rfl (am_ok_v mi_373 (am_hl rfl (am_ccR i2 (am_ccI (am_ccI (am_ccI am_cats_0)))) rfl) z161) (am_hc am_cats_0 rfl) (fun _ => ⟨rfl, hh_0⟩) (fun o1 hz9 => rm_373 x2 v155 v157 v159 h153 o1 i2 hz9) ?_
                        rcases am_cI_s hs65 with ⟨v162, h163, f164, hs66⟩ | hs66
                        · clear hs65
                          refine Or.inl ⟨_, _, f164, ?_⟩
                          show am_W X _ 0 716 _ [(.int v162)] h163 _
                          refine aw_istore (lv1 := am_put1 _ 6 _) (pc1 := 718) at_0_716 rfl rfl ?_
                          refine aw_vload_n (pc1 := 719) at_0_718 (am_lk1 (am_lk1 l2 rfl rfl) rfl rfl) i2 rfl ?_
                          obtain ⟨z165, hs67⟩ := am_ift hs66
                          clear hs66
                          refine aw_call (F := fm_324 x2 h163) (t := true) (na := 1) (kd := 1) (as := [x2]) at_0_719 (am_k3v kb_324) mn_324 mk_324 rfl rfl (am_ok_v mi_324 (am_hl rfl (am_ccR i2 am_cats_0) rfl) z165) (am_hc am_cats_0 rfl) (fun _ => ⟨rfl, hh_0⟩) (fun o1 hz9 => rm_324 x2 h163 o1 i2 hz9) ?_
                          rcases am_cI_s hs67 with ⟨v166, h167, f168, hs68⟩ | hs68
                          · clear hs67
                            refine Or.inl ⟨_, _, f168, ?_⟩
                            show am_W X _ 0 722 _ [(.int v166)] h167 _
                            refine aw_iload (pc1 := 724) at_0_722 (am_lk1 am_lk0 rfl rfl) rfl ?_
                            by_cases c169 : v166 = v152
                            · rw [if_pos c169] at hs68
                              refine aw_iceq_t at_0_724 c169 ?_
                              refine aw_iload (pc1 := 731) at_0_729 (am_lk1 am_lk0 rfl rfl) rfl ?_
                              by_cases c170 : ¬ v152 = 0
                              · rw [if_pos c170] at hs68
                                refine aw_ifne_t at_0_731 c170 ?_
                                exact rg_0_746 (fun z0 z1 z2 z3 h o hs68 => ih z0 z1 z2 z3 h o hs68) x1 x2 x3 x4 h167 o (am_lk1 (am_lk1 l0 rfl rfl) rfl rfl) (am_lk1 (am_lk1 l1 rfl rfl) rfl rfl) (am_lk1 (am_lk1 l2 rfl rfl) rfl rfl) (am_lk1 (am_lk1 l3 rfl rfl) rfl rfl) (am_lk1 (am_lk1 l4 rfl rfl) rfl rfl) i1 i2 i3 hs68
                              · rw [if_neg c170] at hs68
                                refine aw_ifne_f (pc1 := 734) at_0_731 c170 rfl ?_
                                refine aw_vload_n (pc1 := 735) at_0_734 (am_lk1 (am_lk1 l3 rfl rfl) rfl rfl) i3 rfl ?_
                                refine aw_iconst (v := 0) (pc1 := 736) at_0_735 (by decide) rfl ?_
                                obtain ⟨v171, e172, hs69⟩ := am_bind hs68
                                clear hs68
                                refine aw_pAL (pc1 := 737) at_0_736 e172 rfl ?_
                                refine aw_iload (pc1 := 739) at_0_737 am_lk0 rfl ?_
                                refine aw_i2l (v := (Int32.toInt64 v162)) (pc1 := 740) at_0_739 rfl rfl ?_
                                refine aw_lcmp (v := (lg_cmp v171 (Int32.toInt64 v162))) (pc1 := 741) at_0_740 rfl rfl ?_
                                by_cases c173 : (lg_cmp v171 (Int32.toInt64 v162)) = 0
                                · rw [if_pos c173] at hs69
                                  refine aw_ifeq_t at_0_741 c173 ?_
                                  exact rg_0_746 (fun z0 z1 z2 z3 h o hs69 => ih z0 z1 z2 z3 h o hs69) x1 x2 x3 x4 h167 o (am_lk1 (am_lk1 l0 rfl rfl) rfl rfl) (am_lk1 (am_lk1 l1 rfl rfl) rfl rfl) (am_lk1 (am_lk1 l2 rfl rfl) rfl rfl) (am_lk1 (am_lk1 l3 rfl rfl) rfl rfl) (am_lk1 (am_lk1 l4 rfl rfl) rfl rfl) i1 i2 i3 hs69
                                · rw [if_neg c173] at hs69
                                  refine aw_ifeq_f (pc1 := 744) at_0_741 c173 rfl ?_
                                  refine aw_iconst (v := 0) (pc1 := 745) at_0_744 (by decide) rfl ?_
                                  cases hs69
                                  exact aw_iret at_0_745 (by rw [rt_0]; decide) rfl
                            · rw [if_neg c169] at hs68
                              refine aw_iceq_f (pc1 := 727) at_0_724 c169 rfl ?_
                              refine aw_iconst (v := 0) (pc1 := 728) at_0_727 (by decide) rfl ?_
                              cases hs68
                              exact aw_iret at_0_728 (by rw [rt_0]; decide) rfl
                          · clear hs67
                            exact Or.inr hs68
                        · clear hs65
                          exact Or.inr hs66
                      · clear hs60
                        exact Or.inr hs61
                    · rw [if_neg c145] at hs1
                      by_cases c174 : (v2 &&& 63) = 8
                      · rw [if_pos c174] at hs1
                        refine aw_tsw (t := 749) at_0_40 (by rw [c174]; rfl) ?_
                        refine aw_vload_n (pc1 := 750) at_0_749 l1 i1 rfl ?_
                        refine aw_vload_n (pc1 := 751) at_0_750 l0 rfl rfl ?_
                        refine aw_iload (pc1 := 753) at_0_751 l4 rfl ?_
                        refine aw_iconst (v := 1) (pc1 := 754) at_0_753 (by decide) rfl ?_
                        refine aw_iadd (v := (x4 + 1)) (pc1 := 755) at_0_754 rfl rfl ?_
                        obtain ⟨v175, e176, hs70⟩ := am_bind hs1
                        clear hs1
                        refine aw_pX (j := 0) (pc1 := 756) at_0_755 rfl rfl e176 rfl ?_
                        refine aw_vload_n (pc1 := 757) at_0_756 l0 rfl rfl ?_
                        refine aw_iload (pc1 := 759) at_0_757 l4 rfl ?_
                        refine aw_iconst (v := 2) (pc1 := 760) at_0_759 (by decide) rfl ?_
                        refine aw_iadd (v := (x4 + 2)) (pc1 := 761) at_0_760 rfl rfl ?_
                        obtain ⟨v177, e178, hs71⟩ := am_bind hs70
                        clear hs70
                        refine aw_pX (j := 0) (pc1 := 762) at_0_761 rfl rfl e178 rfl ?_
                        refine aw_vload_n (pc1 := 763) at_0_762 l3 i3 rfl ?_
                        refine aw_call (F := fm_84 N x1 v175 v177 x3 h) (t := false) (na := 4) (kd := 0) (as := [x1, (.int v175), (.int v177), x3]) at_0_763 (am_k3s kb_84) mn_84 mk_84 rfl rfl (am_ok_s mi_84 (am_hl rfl (am_ccR i1 (am_ccI (am_ccI (am_ccR i3 am_cats_0)))) rfl)) (am_hc am_cats_0 rfl) (fun hz9 => by cases hz9) (fun o1 hz9 => rm_84 x1 v175 v177 x3 h o1 i1 i3 hz9) ?_
                        rcases am_cI_s hs71 with ⟨v179, h180, f181, hs72⟩ | hs72
                        · clear hs71
                          refine Or.inl ⟨_, _, f181, ?_⟩
                          show am_W X _ 0 766 _ [(.int v179)] h180 _
                          refine aw_istore (lv1 := am_put1 _ 5 _) (pc1 := 768) at_0_766 rfl rfl ?_
                          refine aw_vload_n (pc1 := 769) at_0_768 (am_lk1 l2 rfl rfl) i2 rfl ?_
                          refine aw_vload_n (pc1 := 770) at_0_769 (am_lk1 l0 rfl rfl) rfl rfl ?_
                          refine aw_iload (pc1 := 772) at_0_770 (am_lk1 l4 rfl rfl) rfl ?_
                          refine aw_iconst (v := 1) (pc1 := 773) at_0_772 (by decide) rfl ?_
                          refine aw_iadd (v := (x4 + 1)) (pc1 := 774) at_0_773 rfl rfl ?_
                          obtain ⟨v182, e183, hs73⟩ := am_bind hs72
                          clear hs72
                          refine aw_pX (j := 0) (pc1 := 775) at_0_774 rfl rfl e183 rfl ?_
                          refine aw_vload_n (pc1 := 776) at_0_775 (am_lk1 l0 rfl rfl) rfl rfl ?_
                          refine aw_iload (pc1 := 778) at_0_776 (am_lk1 l4 rfl rfl) rfl ?_
                          refine aw_iconst (v := 2) (pc1 := 779) at_0_778 (by decide) rfl ?_
                          refine aw_iadd (v := (x4 + 2)) (pc1 := 780) at_0_779 rfl rfl ?_
                          obtain ⟨v184, e185, hs74⟩ := am_bind hs73
                          clear hs73
                          refine aw_pX (j := 0) (pc1 := 781) at_0_780 rfl rfl e185 rfl ?_
                          obtain ⟨z186, hs75⟩ := am_ift hs74
                          clear hs74
                          refine aw_call (F := fm_374 N x2 v182 v184 h180) (t := true) (na := 3) (kd := 1) (as := [x2, (.int v182), (.int v184)]) at_0_781 (am_k3v kb_374) mn_374 mk_374 rfl rfl (am_ok_v mi_374 (am_hl rfl (am_ccR i2 (am_ccI (am_ccI am_cats_0))) rfl) z186) (am_hc am_cats_0 rfl) (fun _ => ⟨rfl, hh_0⟩) (fun o1 hz9 => rm_374 x2 v182 v184 h180 o1 i2 hz9) ?_
                          rcases am_cI_s hs75 with ⟨v187, h188, f189, hs76⟩ | hs76
                          · clear hs75
                            refine Or.inl ⟨_, _, f189, ?_⟩
                            show am_W X _ 0 784 _ [(.int v187)] h188 _
                            refine aw_istore (lv1 := am_put1 _ 6 _) (pc1 := 786) at_0_784 rfl rfl ?_
                            refine aw_vload_n (pc1 := 787) at_0_786 (am_lk1 (am_lk1 l2 rfl rfl) rfl rfl) i2 rfl ?_
                            obtain ⟨z190, hs77⟩ := am_ift hs76
                            clear hs76
                            refine aw_call (F := fm_324 x2 h188) (t := true) (na := 1) (kd := 1) (as := [x2]) at_0_787 (am_k3v kb_324) mn_324 mk_324 rfl rfl (am_ok_v mi_324 (am_hl rfl (am_ccR i2 am_cats_0) rfl) z190) (am_hc am_cats_0 rfl) (fun _ => ⟨rfl, hh_0⟩) (fun o1 hz9 => rm_324 x2 h188 o1 i2 hz9) ?_
                            rcases am_cI_s hs77 with ⟨v191, h192, f193, hs78⟩ | hs78
                            · clear hs77
                              refine Or.inl ⟨_, _, f193, ?_⟩
                              show am_W X _ 0 790 _ [(.int v191)] h192 _
                              refine aw_iload (pc1 := 792) at_0_790 (am_lk1 am_lk0 rfl rfl) rfl ?_
                              by_cases c194 : v191 = v179
                              · rw [if_pos c194] at hs78
                                refine aw_iceq_t at_0_792 c194 ?_
                                refine aw_iload (pc1 := 799) at_0_797 (am_lk1 am_lk0 rfl rfl) rfl ?_
                                by_cases c195 : ¬ v179 = 0
                                · rw [if_pos c195] at hs78
                                  refine aw_ifne_t at_0_799 c195 ?_
                                  exact rg_0_821 (fun z0 z1 z2 z3 h o hs78 => ih z0 z1 z2 z3 h o hs78) x1 x2 x3 x4 h192 o (am_lk1 (am_lk1 l0 rfl rfl) rfl rfl) (am_lk1 (am_lk1 l1 rfl rfl) rfl rfl) (am_lk1 (am_lk1 l2 rfl rfl) rfl rfl) (am_lk1 (am_lk1 l3 rfl rfl) rfl rfl) (am_lk1 (am_lk1 l4 rfl rfl) rfl rfl) i1 i2 i3 hs78
                                · rw [if_neg c195] at hs78
                                  refine aw_ifne_f (pc1 := 802) at_0_799 c195 rfl ?_
                                  refine aw_vload_n (pc1 := 803) at_0_802 (am_lk1 (am_lk1 l3 rfl rfl) rfl rfl) i3 rfl ?_
                                  refine aw_iconst (v := 0) (pc1 := 804) at_0_803 (by decide) rfl ?_
                                  obtain ⟨v196, e197, hs79⟩ := am_bind hs78
                                  clear hs78
                                  refine aw_pAL (pc1 := 805) at_0_804 e197 rfl ?_
                                  refine aw_iload (pc1 := 807) at_0_805 am_lk0 rfl ?_
                                  by_cases c198 : v187 = 0
                                  · rw [if_pos c198] at hs79
                                    refine aw_ifeq_t at_0_807 c198 ?_
                                    refine aw_lconst (v := 0) (pc1 := 815) at_0_814 (by decide) rfl ?_
                                    exact rg_0_815 (fun z0 z1 z2 z3 h o hs79 => ih z0 z1 z2 z3 h o hs79) x1 x2 x3 x4 v196 0 h192 o (am_lk1 (am_lk1 l0 rfl rfl) rfl rfl) (am_lk1 (am_lk1 l1 rfl rfl) rfl rfl) (am_lk1 (am_lk1 l2 rfl rfl) rfl rfl) (am_lk1 (am_lk1 l3 rfl rfl) rfl rfl) (am_lk1 (am_lk1 l4 rfl rfl) rfl rfl) i1 i2 i3 hs79
                                  · rw [if_neg c198] at hs79
                                    refine aw_ifeq_f (pc1 := 810) at_0_807 c198 rfl ?_
                                    refine aw_lconst (v := 1) (pc1 := 811) at_0_810 (by decide) rfl ?_
                                    refine aw_goto at_0_811 ?_
                                    exact rg_0_815 (fun z0 z1 z2 z3 h o hs79 => ih z0 z1 z2 z3 h o hs79) x1 x2 x3 x4 v196 1 h192 o (am_lk1 (am_lk1 l0 rfl rfl) rfl rfl) (am_lk1 (am_lk1 l1 rfl rfl) rfl rfl) (am_lk1 (am_lk1 l2 rfl rfl) rfl rfl) (am_lk1 (am_lk1 l3 rfl rfl) rfl rfl) (am_lk1 (am_lk1 l4 rfl rfl) rfl rfl) i1 i2 i3 hs79
                              · rw [if_neg c194] at hs78
                                refine aw_iceq_f (pc1 := 795) at_0_792 c194 rfl ?_
                                refine aw_iconst (v := 0) (pc1 := 796) at_0_795 (by decide) rfl ?_
                                cases hs78
                                exact aw_iret at_0_796 (by rw [rt_0]; decide) rfl
                            · clear hs77
                              exact Or.inr hs78
                          · clear hs75
                            exact Or.inr hs76
                        · clear hs71
                          exact Or.inr hs72
                      · rw [if_neg c174] at hs1
                        by_cases c199 : (v2 &&& 63) = 9
                        · rw [if_pos c199] at hs1
                          refine aw_tsw (t := 824) at_0_40 (by rw [c199]; rfl) ?_
                          refine aw_vload_n (pc1 := 825) at_0_824 l1 i1 rfl ?_
                          refine aw_vload_n (pc1 := 826) at_0_825 l0 rfl rfl ?_
                          refine aw_iload (pc1 := 828) at_0_826 l4 rfl ?_
                          refine aw_iconst (v := 1) (pc1 := 829) at_0_828 (by decide) rfl ?_
                          refine aw_iadd (v := (x4 + 1)) (pc1 := 830) at_0_829 rfl rfl ?_
                          obtain ⟨v200, e201, hs80⟩ := am_bind hs1
                          clear hs1
                          refine aw_pX (j := 0) (pc1 := 831) at_0_830 rfl rfl e201 rfl ?_
                          refine aw_vload_n (pc1 := 832) at_0_831 l3 i3 rfl ?_
                          refine aw_call (F := fm_87 x1 v200 x3 h) (t := false) (na := 3) (kd := 0) (as := [x1, (.int v200), x3]) at_0_832 (am_k3s kb_87) mn_87 mk_87 rfl rfl (am_ok_s mi_87 (am_hl rfl (am_ccR i1 (am_ccI (am_ccR i3 am_cats_0))) rfl)) (am_hc am_cats_0 rfl) (fun hz9 => by cases hz9) (fun o1 hz9 => rm_87 x1 v200 x3 h o1 i1 i3 hz9) ?_
                          rcases am_cI_s hs80 with ⟨v202, h203, f204, hs81⟩ | hs81
                          · clear hs80
                            refine Or.inl ⟨_, _, f204, ?_⟩
                            show am_W X _ 0 835 _ [(.int v202)] h203 _
                            refine aw_istore (lv1 := am_put1 _ 5 _) (pc1 := 837) at_0_835 rfl rfl ?_
                            refine aw_vload_n (pc1 := 838) at_0_837 (am_lk1 l2 rfl rfl) i2 rfl ?_
                            refine aw_vload_n (pc1 := 839) at_0_838 (am_lk1 l0 rfl rfl) rfl rfl ?_
                            refine aw_iload (pc1 := 841) at_0_839 (am_lk1 l4 rfl rfl) rfl ?_
                            refine aw_iconst (v := 1) (pc1 := 842) at_0_841 (by decide) rfl ?_
                            refine aw_iadd (v := (x4 + 1)) (pc1 := 843) at_0_842 rfl rfl ?_
                            obtain ⟨v205, e206, hs82⟩ := am_bind hs81
                            clear hs81
                            refine aw_pX (j := 0) (pc1 := 844) at_0_843 rfl rfl e206 rfl ?_
                            obtain ⟨z207, hs83⟩ := am_ift hs82
                            clear hs82
                            refine aw_call (F := fm_376 N x2 v205 h203) (t := true) (na := 2) (kd := 1) (as := [x2, (.int v205)]) at_0_844 (am_k3v kb_376) mn_376 mk_376 rfl rfl (am_ok_v mi_376 (am_hl rfl (am_ccR i2 (am_ccI am_cats_0)) rfl) z207) (am_hc am_cats_0 rfl) (fun _ => ⟨rfl, hh_0⟩) (fun o1 hz9 => rm_376 x2 v205 h203 o1 i2 hz9) ?_
                            rcases am_cL_s hs83 with ⟨v208, h209, f210, hs84⟩ | hs84
                            · clear hs83
                              refine Or.inl ⟨_, _, f210, ?_⟩
                              show am_W X _ 0 847 _ [(.long v208)] h209 _
                              refine aw_lstore (lv1 := am_put2 _ 6 _) (pc1 := 849) at_0_847 rfl rfl ?_
                              refine aw_vload_n (pc1 := 850) at_0_849 (am_lk2 (am_lk1 l2 rfl rfl) rfl rfl) i2 rfl ?_
                              obtain ⟨z211, hs85⟩ := am_ift hs84
                              clear hs84
                              refine aw_call (F := fm_324 x2 h209) (t := true) (na := 1) (kd := 1) (as := [x2]) at_0_850 (am_k3v kb_324) mn_324 mk_324 rfl rfl (am_ok_v mi_324 (am_hl rfl (am_ccR i2 am_cats_0) rfl) z211) (am_hc am_cats_0 rfl) (fun _ => ⟨rfl, hh_0⟩) (fun o1 hz9 => rm_324 x2 h209 o1 i2 hz9) ?_
                              rcases am_cI_s hs85 with ⟨v212, h213, f214, hs86⟩ | hs86
                              · clear hs85
                                refine Or.inl ⟨_, _, f214, ?_⟩
                                show am_W X _ 0 853 _ [(.int v212)] h213 _
                                refine aw_iload (pc1 := 855) at_0_853 (am_lk2 am_lk0 rfl rfl) rfl ?_
                                by_cases c215 : v212 = v202
                                · rw [if_pos c215] at hs86
                                  refine aw_iceq_t at_0_855 c215 ?_
                                  refine aw_iload (pc1 := 862) at_0_860 (am_lk2 am_lk0 rfl rfl) rfl ?_
                                  by_cases c216 : ¬ v202 = 0
                                  · rw [if_pos c216] at hs86
                                    refine aw_ifne_t at_0_862 c216 ?_
                                    exact rg_0_876 (fun z0 z1 z2 z3 h o hs86 => ih z0 z1 z2 z3 h o hs86) x1 x2 x3 x4 h213 o (am_lk2 (am_lk1 l0 rfl rfl) rfl rfl) (am_lk2 (am_lk1 l1 rfl rfl) rfl rfl) (am_lk2 (am_lk1 l2 rfl rfl) rfl rfl) (am_lk2 (am_lk1 l3 rfl rfl) rfl rfl) (am_lk2 (am_lk1 l4 rfl rfl) rfl rfl) i1 i2 i3 hs86
                                  · rw [if_neg c216] at hs86
                                    refine aw_ifne_f (pc1 := 865) at_0_862 c216 rfl ?_
                                    refine aw_vload_n (pc1 := 866) at_0_865 (am_lk2 (am_lk1 l3 rfl rfl) rfl rfl) i3 rfl ?_
                                    refine aw_iconst (v := 0) (pc1 := 867) at_0_866 (by decide) rfl ?_
                                    obtain ⟨v217, e218, hs87⟩ := am_bind hs86
                                    clear hs86
                                    refine aw_pAL (pc1 := 868) at_0_867 e218 rfl ?_
                                    refine aw_lload (pc1 := 870) at_0_868 am_lk02 rfl ?_
                                    refine aw_lcmp (v := (lg_cmp v217 v208)) (pc1 := 871) at_0_870 rfl rfl ?_
                                    by_cases c219 : (lg_cmp v217 v208) = 0
                                    · rw [if_pos c219] at hs87
                                      refine aw_ifeq_t at_0_871 c219 ?_
                                      exact rg_0_876 (fun z0 z1 z2 z3 h o hs87 => ih z0 z1 z2 z3 h o hs87) x1 x2 x3 x4 h213 o (am_lk2 (am_lk1 l0 rfl rfl) rfl rfl) (am_lk2 (am_lk1 l1 rfl rfl) rfl rfl) (am_lk2 (am_lk1 l2 rfl rfl) rfl rfl) (am_lk2 (am_lk1 l3 rfl rfl) rfl rfl) (am_lk2 (am_lk1 l4 rfl rfl) rfl rfl) i1 i2 i3 hs87
                                    · rw [if_neg c219] at hs87
                                      refine aw_ifeq_f (pc1 := 874) at_0_871 c219 rfl ?_
                                      refine aw_iconst (v := 0) (pc1 := 875) at_0_874 (by decide) rfl ?_
                                      cases hs87
                                      exact aw_iret at_0_875 (by rw [rt_0]; decide) rfl
                                · rw [if_neg c215] at hs86
                                  refine aw_iceq_f (pc1 := 858) at_0_855 c215 rfl ?_
                                  refine aw_iconst (v := 0) (pc1 := 859) at_0_858 (by decide) rfl ?_
                                  cases hs86
                                  exact aw_iret at_0_859 (by rw [rt_0]; decide) rfl
                              · clear hs85
                                exact Or.inr hs86
                            · clear hs83
                              exact Or.inr hs84
                          · clear hs80
                            exact Or.inr hs81
                        · rw [if_neg c199] at hs1
                          by_cases c220 : (v2 &&& 63) = 10
                          · rw [if_pos c220] at hs1
                            refine aw_tsw (t := 879) at_0_40 (by rw [c220]; rfl) ?_
                            refine aw_vload_n (pc1 := 880) at_0_879 l1 i1 rfl ?_
                            refine aw_vload_n (pc1 := 881) at_0_880 l0 rfl rfl ?_
                            refine aw_iload (pc1 := 883) at_0_881 l4 rfl ?_
                            refine aw_iconst (v := 1) (pc1 := 884) at_0_883 (by decide) rfl ?_
                            refine aw_iadd (v := (x4 + 1)) (pc1 := 885) at_0_884 rfl rfl ?_
                            obtain ⟨v221, e222, hs88⟩ := am_bind hs1
                            clear hs1
                            refine aw_pX (j := 0) (pc1 := 886) at_0_885 rfl rfl e222 rfl ?_
                            refine aw_vload_n (pc1 := 887) at_0_886 l0 rfl rfl ?_
                            refine aw_iload (pc1 := 889) at_0_887 l4 rfl ?_
                            refine aw_iconst (v := 2) (pc1 := 890) at_0_889 (by decide) rfl ?_
                            refine aw_iadd (v := (x4 + 2)) (pc1 := 891) at_0_890 rfl rfl ?_
                            obtain ⟨v223, e224, hs89⟩ := am_bind hs88
                            clear hs88
                            refine aw_pX (j := 0) (pc1 := 892) at_0_891 rfl rfl e224 rfl ?_
                            refine aw_i2l (v := (Int32.toInt64 v223)) (pc1 := 893) at_0_892 rfl rfl ?_
                            refine aw_bipush (v := 32) (pc1 := 895) at_0_893 (by decide) rfl ?_
                            refine aw_lshl (v := ((Int32.toInt64 v223) <<< (Int32.toInt64 32 &&& 63))) (pc1 := 896) at_0_895 rfl rfl ?_
                            refine aw_vload_n (pc1 := 897) at_0_896 l0 rfl rfl ?_
                            refine aw_iload (pc1 := 899) at_0_897 l4 rfl ?_
                            refine aw_iconst (v := 3) (pc1 := 900) at_0_899 (by decide) rfl ?_
                            refine aw_iadd (v := (x4 + 3)) (pc1 := 901) at_0_900 rfl rfl ?_
                            obtain ⟨v225, e226, hs90⟩ := am_bind hs89
                            clear hs89
                            refine aw_pX (j := 0) (pc1 := 902) at_0_901 rfl rfl e226 rfl ?_
                            refine aw_i2l (v := (Int32.toInt64 v225)) (pc1 := 903) at_0_902 rfl rfl ?_
                            refine aw_ldc2 (v := 4294967295) (pc1 := 906) at_0_903 rfl rfl ?_
                            refine aw_land (v := ((Int32.toInt64 v225) &&& 4294967295)) (pc1 := 907) at_0_906 rfl rfl ?_
                            refine aw_lor (v := (((Int32.toInt64 v223) <<< (Int32.toInt64 32 &&& 63)) ||| ((Int32.toInt64 v225) &&& 4294967295))) (pc1 := 908) at_0_907 rfl rfl ?_
                            refine aw_vload_n (pc1 := 909) at_0_908 l3 i3 rfl ?_
                            refine aw_call (F := fm_89 N x1 v221 ((((Int32.toInt64 v223) <<< (Int32.toInt64 32 &&& 63)) ||| ((Int32.toInt64 v225) &&& 4294967295))) x3 h) (t := false) (na := 4) (kd := 0) (as := [x1, (.int v221), (.long (((Int32.toInt64 v223) <<< (Int32.toInt64 32 &&& 63)) ||| ((Int32.toInt64 v225) &&& 4294967295))), x3]) at_0_909 (am_k3s kb_89) mn_89 mk_89 rfl rfl (am_ok_s mi_89 (am_hl rfl (am_ccR i1 (am_ccI (am_ccL (am_ccR i3 am_cats_0)))) rfl)) (am_hc am_cats_0 rfl) (fun hz9 => by cases hz9) (fun o1 hz9 => rm_89 x1 v221 ((((Int32.toInt64 v223) <<< (Int32.toInt64 32 &&& 63)) ||| ((Int32.toInt64 v225) &&& 4294967295))) x3 h o1 i1 i3 hz9) ?_
                            rcases am_cI_s hs90 with ⟨v227, h228, f229, hs91⟩ | hs91
                            · clear hs90
                              refine Or.inl ⟨_, _, f229, ?_⟩
                              show am_W X _ 0 912 _ [(.int v227)] h228 _
                              refine aw_istore (lv1 := am_put1 _ 5 _) (pc1 := 914) at_0_912 rfl rfl ?_
                              refine aw_vload_n (pc1 := 915) at_0_914 (am_lk1 l2 rfl rfl) i2 rfl ?_
                              refine aw_vload_n (pc1 := 916) at_0_915 (am_lk1 l0 rfl rfl) rfl rfl ?_
                              refine aw_iload (pc1 := 918) at_0_916 (am_lk1 l4 rfl rfl) rfl ?_
                              refine aw_iconst (v := 1) (pc1 := 919) at_0_918 (by decide) rfl ?_
                              refine aw_iadd (v := (x4 + 1)) (pc1 := 920) at_0_919 rfl rfl ?_
                              obtain ⟨v230, e231, hs92⟩ := am_bind hs91
                              clear hs91
                              refine aw_pX (j := 0) (pc1 := 921) at_0_920 rfl rfl e231 rfl ?_
                              refine aw_vload_n (pc1 := 922) at_0_921 (am_lk1 l0 rfl rfl) rfl rfl ?_
                              refine aw_iload (pc1 := 924) at_0_922 (am_lk1 l4 rfl rfl) rfl ?_
                              refine aw_iconst (v := 2) (pc1 := 925) at_0_924 (by decide) rfl ?_
                              refine aw_iadd (v := (x4 + 2)) (pc1 := 926) at_0_925 rfl rfl ?_
                              obtain ⟨v232, e233, hs93⟩ := am_bind hs92
                              clear hs92
                              refine aw_pX (j := 0) (pc1 := 927) at_0_926 rfl rfl e233 rfl ?_
                              refine aw_i2l (v := (Int32.toInt64 v232)) (pc1 := 928) at_0_927 rfl rfl ?_
                              refine aw_bipush (v := 32) (pc1 := 930) at_0_928 (by decide) rfl ?_
                              refine aw_lshl (v := ((Int32.toInt64 v232) <<< (Int32.toInt64 32 &&& 63))) (pc1 := 931) at_0_930 rfl rfl ?_
                              refine aw_vload_n (pc1 := 932) at_0_931 (am_lk1 l0 rfl rfl) rfl rfl ?_
                              refine aw_iload (pc1 := 934) at_0_932 (am_lk1 l4 rfl rfl) rfl ?_
                              refine aw_iconst (v := 3) (pc1 := 935) at_0_934 (by decide) rfl ?_
                              refine aw_iadd (v := (x4 + 3)) (pc1 := 936) at_0_935 rfl rfl ?_
                              obtain ⟨v234, e235, hs94⟩ := am_bind hs93
                              clear hs93
                              refine aw_pX (j := 0) (pc1 := 937) at_0_936 rfl rfl e235 rfl ?_
                              refine aw_i2l (v := (Int32.toInt64 v234)) (pc1 := 938) at_0_937 rfl rfl ?_
                              refine aw_ldc2 (v := 4294967295) (pc1 := 941) at_0_938 rfl rfl ?_
                              refine aw_land (v := ((Int32.toInt64 v234) &&& 4294967295)) (pc1 := 942) at_0_941 rfl rfl ?_
                              refine aw_lor (v := (((Int32.toInt64 v232) <<< (Int32.toInt64 32 &&& 63)) ||| ((Int32.toInt64 v234) &&& 4294967295))) (pc1 := 943) at_0_942 rfl rfl ?_
                              obtain ⟨z236, hs95⟩ := am_ift hs94
                              clear hs94
                              refine aw_call (F := fm_385 N x2 v230 ((((Int32.toInt64 v232) <<< (Int32.toInt64 32 &&& 63)) ||| ((Int32.toInt64 v234) &&& 4294967295))) h228) (t := true) (na := 3) (kd := 1) (as := [x2, (.int v230), (.long (((Int32.toInt64 v232) <<< (Int32.toInt64 32 &&& 63)) ||| ((Int32.toInt64 v234) &&& 4294967295)))]) at_0_943 (am_k3v kb_385) mn_385 mk_385 rfl rfl (am_ok_v mi_385 (am_hl rfl (am_ccR i2 (am_ccI (am_ccL am_cats_0))) rfl) z236) (am_hc am_cats_0 rfl) (fun _ => ⟨rfl, hh_0⟩) (fun o1 hz9 => rm_385 x2 v230 ((((Int32.toInt64 v232) <<< (Int32.toInt64 32 &&& 63)) ||| ((Int32.toInt64 v234) &&& 4294967295))) h228 o1 i2 hz9) ?_
                              rcases am_cI_s hs95 with ⟨v237, h238, f239, hs96⟩ | hs96
                              · clear hs95
                                refine Or.inl ⟨_, _, f239, ?_⟩
                                show am_W X _ 0 946 _ [(.int v237)] h238 _
                                refine aw_istore (lv1 := am_put1 _ 6 _) (pc1 := 948) at_0_946 rfl rfl ?_
                                refine aw_vload_n (pc1 := 949) at_0_948 (am_lk1 (am_lk1 l2 rfl rfl) rfl rfl) i2 rfl ?_
                                obtain ⟨z240, hs97⟩ := am_ift hs96
                                clear hs96
                                refine aw_call (F := fm_324 x2 h238) (t := true) (na := 1) (kd := 1) (as := [x2]) at_0_949 (am_k3v kb_324) mn_324 mk_324 rfl rfl (am_ok_v mi_324 (am_hl rfl (am_ccR i2 am_cats_0) rfl) z240) (am_hc am_cats_0 rfl) (fun _ => ⟨rfl, hh_0⟩) (fun o1 hz9 => rm_324 x2 h238 o1 i2 hz9) ?_
                                rcases am_cI_s hs97 with ⟨v241, h242, f243, hs98⟩ | hs98
                                · clear hs97
                                  refine Or.inl ⟨_, _, f243, ?_⟩
                                  show am_W X _ 0 952 _ [(.int v241)] h242 _
                                  refine aw_iload (pc1 := 954) at_0_952 (am_lk1 am_lk0 rfl rfl) rfl ?_
                                  by_cases c244 : v241 = v227
                                  · rw [if_pos c244] at hs98
                                    refine aw_iceq_t at_0_954 c244 ?_
                                    refine aw_iload (pc1 := 961) at_0_959 (am_lk1 am_lk0 rfl rfl) rfl ?_
                                    by_cases c245 : ¬ v227 = 0
                                    · rw [if_pos c245] at hs98
                                      refine aw_ifne_t at_0_961 c245 ?_
                                      exact rg_0_976 (fun z0 z1 z2 z3 h o hs98 => ih z0 z1 z2 z3 h o hs98) x1 x2 x3 x4 h242 o (am_lk1 (am_lk1 l0 rfl rfl) rfl rfl) (am_lk1 (am_lk1 l1 rfl rfl) rfl rfl) (am_lk1 (am_lk1 l2 rfl rfl) rfl rfl) (am_lk1 (am_lk1 l3 rfl rfl) rfl rfl) (am_lk1 (am_lk1 l4 rfl rfl) rfl rfl) i1 i2 i3 hs98
                                    · rw [if_neg c245] at hs98
                                      refine aw_ifne_f (pc1 := 964) at_0_961 c245 rfl ?_
                                      refine aw_vload_n (pc1 := 965) at_0_964 (am_lk1 (am_lk1 l3 rfl rfl) rfl rfl) i3 rfl ?_
                                      refine aw_iconst (v := 0) (pc1 := 966) at_0_965 (by decide) rfl ?_
                                      obtain ⟨v246, e247, hs99⟩ := am_bind hs98
                                      clear hs98
                                      refine aw_pAL (pc1 := 967) at_0_966 e247 rfl ?_
                                      refine aw_iload (pc1 := 969) at_0_967 am_lk0 rfl ?_
                                      refine aw_i2l (v := (Int32.toInt64 v237)) (pc1 := 970) at_0_969 rfl rfl ?_
                                      refine aw_lcmp (v := (lg_cmp v246 (Int32.toInt64 v237))) (pc1 := 971) at_0_970 rfl rfl ?_
                                      by_cases c248 : (lg_cmp v246 (Int32.toInt64 v237)) = 0
                                      · rw [if_pos c248] at hs99
                                        refine aw_ifeq_t at_0_971 c248 ?_
                                        exact rg_0_976 (fun z0 z1 z2 z3 h o hs99 => ih z0 z1 z2 z3 h o hs99) x1 x2 x3 x4 h242 o (am_lk1 (am_lk1 l0 rfl rfl) rfl rfl) (am_lk1 (am_lk1 l1 rfl rfl) rfl rfl) (am_lk1 (am_lk1 l2 rfl rfl) rfl rfl) (am_lk1 (am_lk1 l3 rfl rfl) rfl rfl) (am_lk1 (am_lk1 l4 rfl rfl) rfl rfl) i1 i2 i3 hs99
                                      · rw [if_neg c248] at hs99
                                        refine aw_ifeq_f (pc1 := 974) at_0_971 c248 rfl ?_
                                        refine aw_iconst (v := 0) (pc1 := 975) at_0_974 (by decide) rfl ?_
                                        cases hs99
                                        exact aw_iret at_0_975 (by rw [rt_0]; decide) rfl
                                  · rw [if_neg c244] at hs98
                                    refine aw_iceq_f (pc1 := 957) at_0_954 c244 rfl ?_
                                    refine aw_iconst (v := 0) (pc1 := 958) at_0_957 (by decide) rfl ?_
                                    cases hs98
                                    exact aw_iret at_0_958 (by rw [rt_0]; decide) rfl
                                · clear hs97
                                  exact Or.inr hs98
                              · clear hs95
                                exact Or.inr hs96
                            · clear hs90
                              exact Or.inr hs91
                          · rw [if_neg c220] at hs1
                            by_cases c249 : (v2 &&& 63) = 11
                            · rw [if_pos c249] at hs1
                              refine aw_tsw (t := 979) at_0_40 (by rw [c249]; rfl) ?_
                              refine aw_vload_n (pc1 := 980) at_0_979 l1 i1 rfl ?_
                              refine aw_vload_n (pc1 := 981) at_0_980 l0 rfl rfl ?_
                              refine aw_iload (pc1 := 983) at_0_981 l4 rfl ?_
                              refine aw_iconst (v := 1) (pc1 := 984) at_0_983 (by decide) rfl ?_
                              refine aw_iadd (v := (x4 + 1)) (pc1 := 985) at_0_984 rfl rfl ?_
                              obtain ⟨v250, e251, hs100⟩ := am_bind hs1
                              clear hs1
                              refine aw_pX (j := 0) (pc1 := 986) at_0_985 rfl rfl e251 rfl ?_
                              refine aw_vload_n (pc1 := 987) at_0_986 l3 i3 rfl ?_
                              refine aw_call (F := fm_96 N x1 v250 x3 h) (t := false) (na := 3) (kd := 0) (as := [x1, (.int v250), x3]) at_0_987 (am_k3s kb_96) mn_96 mk_96 rfl rfl (am_ok_s mi_96 (am_hl rfl (am_ccR i1 (am_ccI (am_ccR i3 am_cats_0))) rfl)) (am_hc am_cats_0 rfl) (fun hz9 => by cases hz9) (fun o1 hz9 => rm_96 x1 v250 x3 h o1 i1 i3 hz9) ?_
                              rcases am_cI_s hs100 with ⟨v252, h253, f254, hs101⟩ | hs101
                              · clear hs100
                                refine Or.inl ⟨_, _, f254, ?_⟩
                                show am_W X _ 0 990 _ [(.int v252)] h253 _
                                refine aw_istore (lv1 := am_put1 _ 5 _) (pc1 := 992) at_0_990 rfl rfl ?_
                                refine aw_vload_n (pc1 := 993) at_0_992 (am_lk1 l2 rfl rfl) i2 rfl ?_
                                refine aw_vload_n (pc1 := 994) at_0_993 (am_lk1 l0 rfl rfl) rfl rfl ?_
                                refine aw_iload (pc1 := 996) at_0_994 (am_lk1 l4 rfl rfl) rfl ?_
                                refine aw_iconst (v := 1) (pc1 := 997) at_0_996 (by decide) rfl ?_
                                refine aw_iadd (v := (x4 + 1)) (pc1 := 998) at_0_997 rfl rfl ?_
                                obtain ⟨v255, e256, hs102⟩ := am_bind hs101
                                clear hs101
                                refine aw_pX (j := 0) (pc1 := 999) at_0_998 rfl rfl e256 rfl ?_
                                obtain ⟨z257, hs103⟩ := am_ift hs102
                                clear hs102
                                refine aw_call (F := fm_390 N x2 v255 h253) (t := true) (na := 2) (kd := 1) (as := [x2, (.int v255)]) at_0_999 (am_k3v kb_390) mn_390 mk_390 rfl rfl (am_ok_v mi_390 (am_hl rfl (am_ccR i2 (am_ccI am_cats_0)) rfl) z257) (am_hc am_cats_0 rfl) (fun _ => ⟨rfl, hh_0⟩) (fun o1 hz9 => rm_390 x2 v255 h253 o1 i2 hz9) ?_
                                rcases am_cL_s hs103 with ⟨v258, h259, f260, hs104⟩ | hs104
                                · clear hs103
                                  refine Or.inl ⟨_, _, f260, ?_⟩
                                  show am_W X _ 0 1002 _ [(.long v258)] h259 _
                                  refine aw_lstore (lv1 := am_put2 _ 6 _) (pc1 := 1004) at_0_1002 rfl rfl ?_
                                  refine aw_vload_n (pc1 := 1005) at_0_1004 (am_lk2 (am_lk1 l2 rfl rfl) rfl rfl) i2 rfl ?_
                                  obtain ⟨z261, hs105⟩ := am_ift hs104
                                  clear hs104
                                  refine aw_call (F := fm_324 x2 h259) (t := true) (na := 1) (kd := 1) (as := [x2]) at_0_1005 (am_k3v kb_324) mn_324 mk_324 rfl rfl (am_ok_v mi_324 (am_hl rfl (am_ccR i2 am_cats_0) rfl) z261) (am_hc am_cats_0 rfl) (fun _ => ⟨rfl, hh_0⟩) (fun o1 hz9 => rm_324 x2 h259 o1 i2 hz9) ?_
                                  rcases am_cI_s hs105 with ⟨v262, h263, f264, hs106⟩ | hs106
                                  · clear hs105
                                    refine Or.inl ⟨_, _, f264, ?_⟩
                                    show am_W X _ 0 1008 _ [(.int v262)] h263 _
                                    refine aw_iload (pc1 := 1010) at_0_1008 (am_lk2 am_lk0 rfl rfl) rfl ?_
                                    by_cases c265 : v262 = v252
                                    · rw [if_pos c265] at hs106
                                      refine aw_iceq_t at_0_1010 c265 ?_
                                      refine aw_iload (pc1 := 1017) at_0_1015 (am_lk2 am_lk0 rfl rfl) rfl ?_
                                      by_cases c266 : ¬ v252 = 0
                                      · rw [if_pos c266] at hs106
                                        refine aw_ifne_t at_0_1017 c266 ?_
                                        exact rg_0_1031 (fun z0 z1 z2 z3 h o hs106 => ih z0 z1 z2 z3 h o hs106) x1 x2 x3 x4 h263 o (am_lk2 (am_lk1 l0 rfl rfl) rfl rfl) (am_lk2 (am_lk1 l1 rfl rfl) rfl rfl) (am_lk2 (am_lk1 l2 rfl rfl) rfl rfl) (am_lk2 (am_lk1 l3 rfl rfl) rfl rfl) (am_lk2 (am_lk1 l4 rfl rfl) rfl rfl) i1 i2 i3 hs106
                                      · rw [if_neg c266] at hs106
                                        refine aw_ifne_f (pc1 := 1020) at_0_1017 c266 rfl ?_
                                        refine aw_vload_n (pc1 := 1021) at_0_1020 (am_lk2 (am_lk1 l3 rfl rfl) rfl rfl) i3 rfl ?_
                                        refine aw_iconst (v := 0) (pc1 := 1022) at_0_1021 (by decide) rfl ?_
                                        obtain ⟨v267, e268, hs107⟩ := am_bind hs106
                                        clear hs106
                                        refine aw_pAL (pc1 := 1023) at_0_1022 e268 rfl ?_
                                        refine aw_lload (pc1 := 1025) at_0_1023 am_lk02 rfl ?_
                                        refine aw_lcmp (v := (lg_cmp v267 v258)) (pc1 := 1026) at_0_1025 rfl rfl ?_
                                        by_cases c269 : (lg_cmp v267 v258) = 0
                                        · rw [if_pos c269] at hs107
                                          refine aw_ifeq_t at_0_1026 c269 ?_
                                          exact rg_0_1031 (fun z0 z1 z2 z3 h o hs107 => ih z0 z1 z2 z3 h o hs107) x1 x2 x3 x4 h263 o (am_lk2 (am_lk1 l0 rfl rfl) rfl rfl) (am_lk2 (am_lk1 l1 rfl rfl) rfl rfl) (am_lk2 (am_lk1 l2 rfl rfl) rfl rfl) (am_lk2 (am_lk1 l3 rfl rfl) rfl rfl) (am_lk2 (am_lk1 l4 rfl rfl) rfl rfl) i1 i2 i3 hs107
                                        · rw [if_neg c269] at hs107
                                          refine aw_ifeq_f (pc1 := 1029) at_0_1026 c269 rfl ?_
                                          refine aw_iconst (v := 0) (pc1 := 1030) at_0_1029 (by decide) rfl ?_
                                          cases hs107
                                          exact aw_iret at_0_1030 (by rw [rt_0]; decide) rfl
                                    · rw [if_neg c265] at hs106
                                      refine aw_iceq_f (pc1 := 1013) at_0_1010 c265 rfl ?_
                                      refine aw_iconst (v := 0) (pc1 := 1014) at_0_1013 (by decide) rfl ?_
                                      cases hs106
                                      exact aw_iret at_0_1014 (by rw [rt_0]; decide) rfl
                                  · clear hs105
                                    exact Or.inr hs106
                                · clear hs103
                                  exact Or.inr hs104
                              · clear hs100
                                exact Or.inr hs101
                            · rw [if_neg c249] at hs1
                              by_cases c270 : (v2 &&& 63) = 12
                              · rw [if_pos c270] at hs1
                                refine aw_tsw (t := 1034) at_0_40 (by rw [c270]; rfl) ?_
                                refine aw_vload_n (pc1 := 1035) at_0_1034 l1 i1 rfl ?_
                                refine aw_vload_n (pc1 := 1036) at_0_1035 l0 rfl rfl ?_
                                refine aw_iload (pc1 := 1038) at_0_1036 l4 rfl ?_
                                refine aw_iconst (v := 1) (pc1 := 1039) at_0_1038 (by decide) rfl ?_
                                refine aw_iadd (v := (x4 + 1)) (pc1 := 1040) at_0_1039 rfl rfl ?_
                                obtain ⟨v271, e272, hs108⟩ := am_bind hs1
                                clear hs1
                                refine aw_pX (j := 0) (pc1 := 1041) at_0_1040 rfl rfl e272 rfl ?_
                                obtain ⟨z273, hs109⟩ := am_ift hs108
                                clear hs108
                                refine aw_call (F := fm_24 x1 v271 h) (t := true) (na := 2) (kd := 1) (as := [x1, (.int v271)]) at_0_1041 (am_k3v kb_24) mn_24 mk_24 rfl rfl (am_ok_v mi_24 (am_hl rfl (am_ccR i1 (am_ccI am_cats_0)) rfl) z273) (am_hc am_cats_0 rfl) (fun _ => ⟨rfl, hh_0⟩) (fun o1 hz9 => rm_24 x1 v271 h o1 i1 hz9) ?_
                                rcases am_cI_s hs109 with ⟨v274, h275, f276, hs110⟩ | hs110
                                · clear hs109
                                  refine Or.inl ⟨_, _, f276, ?_⟩
                                  show am_W X _ 0 1044 _ [(.int v274)] h275 _
                                  refine aw_vload_n (pc1 := 1045) at_0_1044 l2 i2 rfl ?_
                                  refine aw_vload_n (pc1 := 1046) at_0_1045 l0 rfl rfl ?_
                                  refine aw_iload (pc1 := 1048) at_0_1046 l4 rfl ?_
                                  refine aw_iconst (v := 1) (pc1 := 1049) at_0_1048 (by decide) rfl ?_
                                  refine aw_iadd (v := (x4 + 1)) (pc1 := 1050) at_0_1049 rfl rfl ?_
                                  obtain ⟨v277, e278, hs111⟩ := am_bind hs110
                                  clear hs110
                                  refine aw_pX (j := 0) (pc1 := 1051) at_0_1050 rfl rfl e278 rfl ?_
                                  obtain ⟨z279, hs112⟩ := am_ift hs111
                                  clear hs111
                                  refine aw_call (F := fm_395 x2 v277 h275) (t := true) (na := 2) (kd := 1) (as := [x2, (.int v277)]) at_0_1051 (am_k3v kb_395) mn_395 mk_395 rfl rfl (am_ok_v mi_395 (am_hl rfl (am_ccR i2 (am_ccI am_cats_0)) rfl) z279) (am_hc (am_ccI am_cats_0) rfl) (fun _ => ⟨rfl, hh_0⟩) (fun o1 hz9 => rm_395 x2 v277 h275 o1 i2 hz9) ?_
                                  rcases am_cI_s hs112 with ⟨v280, h281, f282, hs113⟩ | hs113
                                  · clear hs112
                                    refine Or.inl ⟨_, _, f282, ?_⟩
                                    show am_W X _ 0 1054 _ [(.int v280), (.int v274)] h281 _
                                    by_cases c283 : v274 = v280
                                    · rw [if_pos c283] at hs113
                                      refine aw_iceq_t at_0_1054 c283 ?_
                                      exact rg_0_4192 (fun z0 z1 z2 z3 h o hs113 => ih z0 z1 z2 z3 h o hs113) x1 x2 x3 x4 h281 o l0 l1 l2 l3 l4 i1 i2 i3 hs113
                                    · rw [if_neg c283] at hs113
                                      refine aw_iceq_f (pc1 := 1057) at_0_1054 c283 rfl ?_
                                      refine aw_iconst (v := 0) (pc1 := 1058) at_0_1057 (by decide) rfl ?_
                                      cases hs113
                                      exact aw_iret at_0_1058 (by rw [rt_0]; decide) rfl
                                  · clear hs112
                                    exact Or.inr hs113
                                · clear hs109
                                  exact Or.inr hs110
                              · rw [if_neg c270] at hs1
                                by_cases c284 : (v2 &&& 63) = 13
                                · rw [if_pos c284] at hs1
                                  refine aw_tsw (t := 1059) at_0_40 (by rw [c284]; rfl) ?_
                                  refine aw_vload_n (pc1 := 1060) at_0_1059 l1 i1 rfl ?_
                                  refine aw_vload_n (pc1 := 1061) at_0_1060 l0 rfl rfl ?_
                                  refine aw_iload (pc1 := 1063) at_0_1061 l4 rfl ?_
                                  refine aw_iconst (v := 1) (pc1 := 1064) at_0_1063 (by decide) rfl ?_
                                  refine aw_iadd (v := (x4 + 1)) (pc1 := 1065) at_0_1064 rfl rfl ?_
                                  obtain ⟨v285, e286, hs114⟩ := am_bind hs1
                                  clear hs1
                                  refine aw_pX (j := 0) (pc1 := 1066) at_0_1065 rfl rfl e286 rfl ?_
                                  refine aw_vload_n (pc1 := 1067) at_0_1066 l0 rfl rfl ?_
                                  refine aw_iload (pc1 := 1069) at_0_1067 l4 rfl ?_
                                  refine aw_iconst (v := 2) (pc1 := 1070) at_0_1069 (by decide) rfl ?_
                                  refine aw_iadd (v := (x4 + 2)) (pc1 := 1071) at_0_1070 rfl rfl ?_
                                  obtain ⟨v287, e288, hs115⟩ := am_bind hs114
                                  clear hs114
                                  refine aw_pX (j := 0) (pc1 := 1072) at_0_1071 rfl rfl e288 rfl ?_
                                  refine aw_vload_n (pc1 := 1073) at_0_1072 l0 rfl rfl ?_
                                  refine aw_iload (pc1 := 1075) at_0_1073 l4 rfl ?_
                                  refine aw_iconst (v := 3) (pc1 := 1076) at_0_1075 (by decide) rfl ?_
                                  refine aw_iadd (v := (x4 + 3)) (pc1 := 1077) at_0_1076 rfl rfl ?_
                                  obtain ⟨v289, e290, hs116⟩ := am_bind hs115
                                  clear hs115
                                  refine aw_pX (j := 0) (pc1 := 1078) at_0_1077 rfl rfl e290 rfl ?_
                                  refine aw_vload_n (pc1 := 1079) at_0_1078 l0 rfl rfl ?_
                                  refine aw_iload (pc1 := 1081) at_0_1079 l4 rfl ?_
                                  refine aw_iconst (v := 4) (pc1 := 1082) at_0_1081 (by decide) rfl ?_
                                  refine aw_iadd (v := (x4 + 4)) (pc1 := 1083) at_0_1082 rfl rfl ?_
                                  obtain ⟨v291, e292, hs117⟩ := am_bind hs116
                                  clear hs116
                                  refine aw_pX (j := 0) (pc1 := 1084) at_0_1083 rfl rfl e292 rfl ?_
                                  refine aw_vload_n (pc1 := 1085) at_0_1084 l0 rfl rfl ?_
                                  refine aw_iload (pc1 := 1087) at_0_1085 l4 rfl ?_
                                  refine aw_iconst (v := 5) (pc1 := 1088) at_0_1087 (by decide) rfl ?_
                                  refine aw_iadd (v := (x4 + 5)) (pc1 := 1089) at_0_1088 rfl rfl ?_
                                  obtain ⟨v293, e294, hs118⟩ := am_bind hs117
                                  clear hs117
                                  refine aw_pX (j := 0) (pc1 := 1090) at_0_1089 rfl rfl e294 rfl ?_
                                  refine aw_vload_n (pc1 := 1091) at_0_1090 l0 rfl rfl ?_
                                  refine aw_iload (pc1 := 1093) at_0_1091 l4 rfl ?_
                                  refine aw_bipush (v := 6) (pc1 := 1095) at_0_1093 (by decide) rfl ?_
                                  refine aw_iadd (v := (x4 + 6)) (pc1 := 1096) at_0_1095 rfl rfl ?_
                                  obtain ⟨v295, e296, hs119⟩ := am_bind hs118
                                  clear hs118
                                  refine aw_pX (j := 0) (pc1 := 1097) at_0_1096 rfl rfl e296 rfl ?_
                                  by_cases c297 : v295 = 0
                                  · rw [if_pos c297] at hs119
                                    refine aw_ifeq_t at_0_1097 c297 ?_
                                    refine aw_iconst (v := 0) (pc1 := 1105) at_0_1104 (by decide) rfl ?_
                                    exact rg_0_1105 (fun z0 z1 z2 z3 h o hs119 => ih z0 z1 z2 z3 h o hs119) x1 x2 x3 x4 x1 v285 v287 v289 v291 v293 0 h o l0 l1 l2 l3 l4 i1 i2 i3 i1 hs119
                                  · rw [if_neg c297] at hs119
                                    refine aw_ifeq_f (pc1 := 1100) at_0_1097 c297 rfl ?_
                                    refine aw_iconst (v := 1) (pc1 := 1101) at_0_1100 (by decide) rfl ?_
                                    refine aw_goto at_0_1101 ?_
                                    exact rg_0_1105 (fun z0 z1 z2 z3 h o hs119 => ih z0 z1 z2 z3 h o hs119) x1 x2 x3 x4 x1 v285 v287 v289 v291 v293 1 h o l0 l1 l2 l3 l4 i1 i2 i3 i1 hs119
                                · rw [if_neg c284] at hs1
                                  by_cases c298 : (v2 &&& 63) = 14
                                  · rw [if_pos c298] at hs1
                                    refine aw_tsw (t := 1193) at_0_40 (by rw [c298]; rfl) ?_
                                    refine aw_vload_n (pc1 := 1194) at_0_1193 l1 i1 rfl ?_
                                    refine aw_vload_n (pc1 := 1195) at_0_1194 l0 rfl rfl ?_
                                    refine aw_iload (pc1 := 1197) at_0_1195 l4 rfl ?_
                                    refine aw_iconst (v := 1) (pc1 := 1198) at_0_1197 (by decide) rfl ?_
                                    refine aw_iadd (v := (x4 + 1)) (pc1 := 1199) at_0_1198 rfl rfl ?_
                                    obtain ⟨v299, e300, hs120⟩ := am_bind hs1
                                    clear hs1
                                    refine aw_pX (j := 0) (pc1 := 1200) at_0_1199 rfl rfl e300 rfl ?_
                                    refine aw_vload_n (pc1 := 1201) at_0_1200 l3 i3 rfl ?_
                                    refine aw_call (F := fm_106 x1 v299 x3 h) (t := false) (na := 3) (kd := 0) (as := [x1, (.int v299), x3]) at_0_1201 (am_k3s kb_106) mn_106 mk_106 rfl rfl (am_ok_s mi_106 (am_hl rfl (am_ccR i1 (am_ccI (am_ccR i3 am_cats_0))) rfl)) (am_hc am_cats_0 rfl) (fun hz9 => by cases hz9) (fun o1 hz9 => rm_106 x1 v299 x3 h o1 i1 i3 hz9) ?_
                                    rcases am_cI_s hs120 with ⟨v301, h302, f303, hs121⟩ | hs121
                                    · clear hs120
                                      refine Or.inl ⟨_, _, f303, ?_⟩
                                      show am_W X _ 0 1204 _ [(.int v301)] h302 _
                                      refine aw_istore (lv1 := am_put1 _ 5 _) (pc1 := 1206) at_0_1204 rfl rfl ?_
                                      refine aw_vload_n (pc1 := 1207) at_0_1206 (am_lk1 l2 rfl rfl) i2 rfl ?_
                                      refine aw_vload_n (pc1 := 1208) at_0_1207 (am_lk1 l0 rfl rfl) rfl rfl ?_
                                      refine aw_iload (pc1 := 1210) at_0_1208 (am_lk1 l4 rfl rfl) rfl ?_
                                      refine aw_iconst (v := 1) (pc1 := 1211) at_0_1210 (by decide) rfl ?_
                                      refine aw_iadd (v := (x4 + 1)) (pc1 := 1212) at_0_1211 rfl rfl ?_
                                      obtain ⟨v304, e305, hs122⟩ := am_bind hs121
                                      clear hs121
                                      refine aw_pX (j := 0) (pc1 := 1213) at_0_1212 rfl rfl e305 rfl ?_
                                      obtain ⟨z306, hs123⟩ := am_ift hs122
                                      clear hs122
                                      refine aw_call (F := fm_397 N x2 v304 h302) (t := true) (na := 2) (kd := 1) (as := [x2, (.int v304)]) at_0_1213 (am_k3v kb_397) mn_397 mk_397 rfl rfl (am_ok_v mi_397 (am_hl rfl (am_ccR i2 (am_ccI am_cats_0)) rfl) z306) (am_hc am_cats_0 rfl) (fun _ => ⟨rfl, hh_0⟩) (fun o1 hz9 => rm_397 x2 v304 h302 o1 i2 hz9) ?_
                                      rcases am_cI_s hs123 with ⟨v307, h308, f309, hs124⟩ | hs124
                                      · clear hs123
                                        refine Or.inl ⟨_, _, f309, ?_⟩
                                        show am_W X _ 0 1216 _ [(.int v307)] h308 _
                                        refine aw_istore (lv1 := am_put1 _ 6 _) (pc1 := 1218) at_0_1216 rfl rfl ?_
                                        refine aw_vload_n (pc1 := 1219) at_0_1218 (am_lk1 (am_lk1 l2 rfl rfl) rfl rfl) i2 rfl ?_
                                        obtain ⟨z310, hs125⟩ := am_ift hs124
                                        clear hs124
                                        refine aw_call (F := fm_324 x2 h308) (t := true) (na := 1) (kd := 1) (as := [x2]) at_0_1219 (am_k3v kb_324) mn_324 mk_324 rfl rfl (am_ok_v mi_324 (am_hl rfl (am_ccR i2 am_cats_0) rfl) z310) (am_hc am_cats_0 rfl) (fun _ => ⟨rfl, hh_0⟩) (fun o1 hz9 => rm_324 x2 h308 o1 i2 hz9) ?_
                                        rcases am_cI_s hs125 with ⟨v311, h312, f313, hs126⟩ | hs126
                                        · clear hs125
                                          refine Or.inl ⟨_, _, f313, ?_⟩
                                          show am_W X _ 0 1222 _ [(.int v311)] h312 _
                                          refine aw_iload (pc1 := 1224) at_0_1222 (am_lk1 am_lk0 rfl rfl) rfl ?_
                                          by_cases c314 : v311 = v301
                                          · rw [if_pos c314] at hs126
                                            refine aw_iceq_t at_0_1224 c314 ?_
                                            refine aw_iload (pc1 := 1231) at_0_1229 (am_lk1 am_lk0 rfl rfl) rfl ?_
                                            by_cases c315 : ¬ v301 = 0
                                            · rw [if_pos c315] at hs126
                                              refine aw_ifne_t at_0_1231 c315 ?_
                                              exact rg_0_1246 (fun z0 z1 z2 z3 h o hs126 => ih z0 z1 z2 z3 h o hs126) x1 x2 x3 x4 h312 o (am_lk1 (am_lk1 l0 rfl rfl) rfl rfl) (am_lk1 (am_lk1 l1 rfl rfl) rfl rfl) (am_lk1 (am_lk1 l2 rfl rfl) rfl rfl) (am_lk1 (am_lk1 l3 rfl rfl) rfl rfl) (am_lk1 (am_lk1 l4 rfl rfl) rfl rfl) i1 i2 i3 hs126
                                            · rw [if_neg c315] at hs126
                                              refine aw_ifne_f (pc1 := 1234) at_0_1231 c315 rfl ?_
                                              refine aw_vload_n (pc1 := 1235) at_0_1234 (am_lk1 (am_lk1 l3 rfl rfl) rfl rfl) i3 rfl ?_
                                              refine aw_iconst (v := 0) (pc1 := 1236) at_0_1235 (by decide) rfl ?_
                                              obtain ⟨v316, e317, hs127⟩ := am_bind hs126
                                              clear hs126
                                              refine aw_pAL (pc1 := 1237) at_0_1236 e317 rfl ?_
                                              refine aw_iload (pc1 := 1239) at_0_1237 am_lk0 rfl ?_
                                              refine aw_i2l (v := (Int32.toInt64 v307)) (pc1 := 1240) at_0_1239 rfl rfl ?_
                                              refine aw_lcmp (v := (lg_cmp v316 (Int32.toInt64 v307))) (pc1 := 1241) at_0_1240 rfl rfl ?_
                                              by_cases c318 : (lg_cmp v316 (Int32.toInt64 v307)) = 0
                                              · rw [if_pos c318] at hs127
                                                refine aw_ifeq_t at_0_1241 c318 ?_
                                                exact rg_0_1246 (fun z0 z1 z2 z3 h o hs127 => ih z0 z1 z2 z3 h o hs127) x1 x2 x3 x4 h312 o (am_lk1 (am_lk1 l0 rfl rfl) rfl rfl) (am_lk1 (am_lk1 l1 rfl rfl) rfl rfl) (am_lk1 (am_lk1 l2 rfl rfl) rfl rfl) (am_lk1 (am_lk1 l3 rfl rfl) rfl rfl) (am_lk1 (am_lk1 l4 rfl rfl) rfl rfl) i1 i2 i3 hs127
                                              · rw [if_neg c318] at hs127
                                                refine aw_ifeq_f (pc1 := 1244) at_0_1241 c318 rfl ?_
                                                refine aw_iconst (v := 0) (pc1 := 1245) at_0_1244 (by decide) rfl ?_
                                                cases hs127
                                                exact aw_iret at_0_1245 (by rw [rt_0]; decide) rfl
                                          · rw [if_neg c314] at hs126
                                            refine aw_iceq_f (pc1 := 1227) at_0_1224 c314 rfl ?_
                                            refine aw_iconst (v := 0) (pc1 := 1228) at_0_1227 (by decide) rfl ?_
                                            cases hs126
                                            exact aw_iret at_0_1228 (by rw [rt_0]; decide) rfl
                                        · clear hs125
                                          exact Or.inr hs126
                                      · clear hs123
                                        exact Or.inr hs124
                                    · clear hs120
                                      exact Or.inr hs121
                                  · rw [if_neg c298] at hs1
                                    by_cases c319 : (v2 &&& 63) = 15
                                    · rw [if_pos c319] at hs1
                                      refine aw_tsw (t := 1249) at_0_40 (by rw [c319]; rfl) ?_
                                      refine aw_vload_n (pc1 := 1250) at_0_1249 l1 i1 rfl ?_
                                      obtain ⟨z320, hs128⟩ := am_ift hs1
                                      clear hs1
                                      refine aw_call (F := fm_25 x1 h) (t := true) (na := 1) (kd := 1) (as := [x1]) at_0_1250 (am_k3v kb_25) mn_25 mk_25 rfl rfl (am_ok_v mi_25 (am_hl rfl (am_ccR i1 am_cats_0) rfl) z320) (am_hc am_cats_0 rfl) (fun _ => ⟨rfl, hh_0⟩) (fun o1 hz9 => rm_25 x1 h o1 i1 hz9) ?_
                                      rcases am_cI_s hs128 with ⟨v321, h322, f323, hs129⟩ | hs129
                                      · clear hs128
                                        refine Or.inl ⟨_, _, f323, ?_⟩
                                        show am_W X _ 0 1253 _ [(.int v321)] h322 _
                                        refine aw_vload_n (pc1 := 1254) at_0_1253 l2 i2 rfl ?_
                                        obtain ⟨z324, hs130⟩ := am_ift hs129
                                        clear hs129
                                        refine aw_call (F := fm_399 x2 h322) (t := true) (na := 1) (kd := 1) (as := [x2]) at_0_1254 (am_k3v kb_399) mn_399 mk_399 rfl rfl (am_ok_v mi_399 (am_hl rfl (am_ccR i2 am_cats_0) rfl) z324) (am_hc (am_ccI am_cats_0) rfl) (fun _ => ⟨rfl, hh_0⟩) (fun o1 hz9 => rm_399 x2 h322 o1 i2 hz9) ?_
                                        rcases am_cI_s hs130 with ⟨v325, h326, f327, hs131⟩ | hs131
                                        · clear hs130
                                          refine Or.inl ⟨_, _, f327, ?_⟩
                                          show am_W X _ 0 1257 _ [(.int v325), (.int v321)] h326 _
                                          by_cases c328 : v321 = v325
                                          · rw [if_pos c328] at hs131
                                            refine aw_iceq_t at_0_1257 c328 ?_
                                            exact rg_0_4192 (fun z0 z1 z2 z3 h o hs131 => ih z0 z1 z2 z3 h o hs131) x1 x2 x3 x4 h326 o l0 l1 l2 l3 l4 i1 i2 i3 hs131
                                          · rw [if_neg c328] at hs131
                                            refine aw_iceq_f (pc1 := 1260) at_0_1257 c328 rfl ?_
                                            refine aw_iconst (v := 0) (pc1 := 1261) at_0_1260 (by decide) rfl ?_
                                            cases hs131
                                            exact aw_iret at_0_1261 (by rw [rt_0]; decide) rfl
                                        · clear hs130
                                          exact Or.inr hs131
                                      · clear hs128
                                        exact Or.inr hs129
                                    · rw [if_neg c319] at hs1
                                      by_cases c329 : (v2 &&& 63) = 16
                                      · rw [if_pos c329] at hs1
                                        refine aw_tsw (t := 1262) at_0_40 (by rw [c329]; rfl) ?_
                                        refine aw_vload_n (pc1 := 1263) at_0_1262 l1 i1 rfl ?_
                                        refine aw_vload_n (pc1 := 1264) at_0_1263 l0 rfl rfl ?_
                                        refine aw_iload (pc1 := 1266) at_0_1264 l4 rfl ?_
                                        refine aw_iconst (v := 1) (pc1 := 1267) at_0_1266 (by decide) rfl ?_
                                        refine aw_iadd (v := (x4 + 1)) (pc1 := 1268) at_0_1267 rfl rfl ?_
                                        obtain ⟨v330, e331, hs132⟩ := am_bind hs1
                                        clear hs1
                                        refine aw_pX (j := 0) (pc1 := 1269) at_0_1268 rfl rfl e331 rfl ?_
                                        refine aw_vload_n (pc1 := 1270) at_0_1269 l0 rfl rfl ?_
                                        refine aw_iload (pc1 := 1272) at_0_1270 l4 rfl ?_
                                        refine aw_iconst (v := 2) (pc1 := 1273) at_0_1272 (by decide) rfl ?_
                                        refine aw_iadd (v := (x4 + 2)) (pc1 := 1274) at_0_1273 rfl rfl ?_
                                        obtain ⟨v332, e333, hs133⟩ := am_bind hs132
                                        clear hs132
                                        refine aw_pX (j := 0) (pc1 := 1275) at_0_1274 rfl rfl e333 rfl ?_
                                        refine aw_vload_n (pc1 := 1276) at_0_1275 l3 i3 rfl ?_
                                        refine aw_call (F := fm_110 x1 v330 v332 x3 h) (t := false) (na := 4) (kd := 0) (as := [x1, (.int v330), (.int v332), x3]) at_0_1276 (am_k3s kb_110) mn_110 mk_110 rfl rfl (am_ok_s mi_110 (am_hl rfl (am_ccR i1 (am_ccI (am_ccI (am_ccR i3 am_cats_0)))) rfl)) (am_hc am_cats_0 rfl) (fun hz9 => by cases hz9) (fun o1 hz9 => rm_110 x1 v330 v332 x3 h o1 i1 i3 hz9) ?_
                                        rcases am_cI_s hs133 with ⟨v334, h335, f336, hs134⟩ | hs134
                                        · clear hs133
                                          refine Or.inl ⟨_, _, f336, ?_⟩
                                          show am_W X _ 0 1279 _ [(.int v334)] h335 _
                                          refine aw_istore (lv1 := am_put1 _ 5 _) (pc1 := 1281) at_0_1279 rfl rfl ?_
                                          refine aw_vload_n (pc1 := 1282) at_0_1281 (am_lk1 l2 rfl rfl) i2 rfl ?_
                                          refine aw_vload_n (pc1 := 1283) at_0_1282 (am_lk1 l0 rfl rfl) rfl rfl ?_
                                          refine aw_iload (pc1 := 1285) at_0_1283 (am_lk1 l4 rfl rfl) rfl ?_
                                          refine aw_iconst (v := 1) (pc1 := 1286) at_0_1285 (by decide) rfl ?_
                                          refine aw_iadd (v := (x4 + 1)) (pc1 := 1287) at_0_1286 rfl rfl ?_
                                          obtain ⟨v337, e338, hs135⟩ := am_bind hs134
                                          clear hs134
                                          refine aw_pX (j := 0) (pc1 := 1288) at_0_1287 rfl rfl e338 rfl ?_
                                          refine aw_vload_n (pc1 := 1289) at_0_1288 (am_lk1 l0 rfl rfl) rfl rfl ?_
                                          refine aw_iload (pc1 := 1291) at_0_1289 (am_lk1 l4 rfl rfl) rfl ?_
                                          refine aw_iconst (v := 2) (pc1 := 1292) at_0_1291 (by decide) rfl ?_
                                          refine aw_iadd (v := (x4 + 2)) (pc1 := 1293) at_0_1292 rfl rfl ?_
                                          obtain ⟨v339, e340, hs136⟩ := am_bind hs135
                                          clear hs135
                                          refine aw_pX (j := 0) (pc1 := 1294) at_0_1293 rfl rfl e340 rfl ?_
                                          obtain ⟨z341, hs137⟩ := am_ift hs136
                                          clear hs136
                                          refine aw_call (F := fm_400 x2 v337 v339 h335) (t := true) (na := 3) (kd := 1) (as := [x2, (.int v337), (.int v339)]) at_0_1294 (am_k3v kb_400) mn_400 mk_400 rfl rfl (am_ok_v mi_400 (am_hl rfl (am_ccR i2 (am_ccI (am_ccI am_cats_0))) rfl) z341) (am_hc am_cats_0 rfl) (fun _ => ⟨rfl, hh_0⟩) (fun o1 hz9 => rm_400 x2 v337 v339 h335 o1 i2 hz9) ?_
                                          rcases am_cI_s hs137 with ⟨v342, h343, f344, hs138⟩ | hs138
                                          · clear hs137
                                            refine Or.inl ⟨_, _, f344, ?_⟩
                                            show am_W X _ 0 1297 _ [(.int v342)] h343 _
                                            refine aw_istore (lv1 := am_put1 _ 6 _) (pc1 := 1299) at_0_1297 rfl rfl ?_
                                            refine aw_vload_n (pc1 := 1300) at_0_1299 (am_lk1 (am_lk1 l2 rfl rfl) rfl rfl) i2 rfl ?_
                                            obtain ⟨z345, hs139⟩ := am_ift hs138
                                            clear hs138
                                            refine aw_call (F := fm_324 x2 h343) (t := true) (na := 1) (kd := 1) (as := [x2]) at_0_1300 (am_k3v kb_324) mn_324 mk_324 rfl rfl (am_ok_v mi_324 (am_hl rfl (am_ccR i2 am_cats_0) rfl) z345) (am_hc am_cats_0 rfl) (fun _ => ⟨rfl, hh_0⟩) (fun o1 hz9 => rm_324 x2 h343 o1 i2 hz9) ?_
                                            rcases am_cI_s hs139 with ⟨v346, h347, f348, hs140⟩ | hs140
                                            · clear hs139
                                              refine Or.inl ⟨_, _, f348, ?_⟩
                                              show am_W X _ 0 1303 _ [(.int v346)] h347 _
                                              refine aw_iload (pc1 := 1305) at_0_1303 (am_lk1 am_lk0 rfl rfl) rfl ?_
                                              by_cases c349 : v346 = v334
                                              · rw [if_pos c349] at hs140
                                                refine aw_iceq_t at_0_1305 c349 ?_
                                                refine aw_iload (pc1 := 1312) at_0_1310 (am_lk1 am_lk0 rfl rfl) rfl ?_
                                                by_cases c350 : ¬ v334 = 0
                                                · rw [if_pos c350] at hs140
                                                  refine aw_ifne_t at_0_1312 c350 ?_
                                                  exact rg_0_1327 (fun z0 z1 z2 z3 h o hs140 => ih z0 z1 z2 z3 h o hs140) x1 x2 x3 x4 h347 o (am_lk1 (am_lk1 l0 rfl rfl) rfl rfl) (am_lk1 (am_lk1 l1 rfl rfl) rfl rfl) (am_lk1 (am_lk1 l2 rfl rfl) rfl rfl) (am_lk1 (am_lk1 l3 rfl rfl) rfl rfl) (am_lk1 (am_lk1 l4 rfl rfl) rfl rfl) i1 i2 i3 hs140
                                                · rw [if_neg c350] at hs140
                                                  refine aw_ifne_f (pc1 := 1315) at_0_1312 c350 rfl ?_
                                                  refine aw_vload_n (pc1 := 1316) at_0_1315 (am_lk1 (am_lk1 l3 rfl rfl) rfl rfl) i3 rfl ?_
                                                  refine aw_iconst (v := 0) (pc1 := 1317) at_0_1316 (by decide) rfl ?_
                                                  obtain ⟨v351, e352, hs141⟩ := am_bind hs140
                                                  clear hs140
                                                  refine aw_pAL (pc1 := 1318) at_0_1317 e352 rfl ?_
                                                  refine aw_iload (pc1 := 1320) at_0_1318 am_lk0 rfl ?_
                                                  refine aw_i2l (v := (Int32.toInt64 v342)) (pc1 := 1321) at_0_1320 rfl rfl ?_
                                                  refine aw_lcmp (v := (lg_cmp v351 (Int32.toInt64 v342))) (pc1 := 1322) at_0_1321 rfl rfl ?_
                                                  by_cases c353 : (lg_cmp v351 (Int32.toInt64 v342)) = 0
                                                  · rw [if_pos c353] at hs141
                                                    refine aw_ifeq_t at_0_1322 c353 ?_
                                                    exact rg_0_1327 (fun z0 z1 z2 z3 h o hs141 => ih z0 z1 z2 z3 h o hs141) x1 x2 x3 x4 h347 o (am_lk1 (am_lk1 l0 rfl rfl) rfl rfl) (am_lk1 (am_lk1 l1 rfl rfl) rfl rfl) (am_lk1 (am_lk1 l2 rfl rfl) rfl rfl) (am_lk1 (am_lk1 l3 rfl rfl) rfl rfl) (am_lk1 (am_lk1 l4 rfl rfl) rfl rfl) i1 i2 i3 hs141
                                                  · rw [if_neg c353] at hs141
                                                    refine aw_ifeq_f (pc1 := 1325) at_0_1322 c353 rfl ?_
                                                    refine aw_iconst (v := 0) (pc1 := 1326) at_0_1325 (by decide) rfl ?_
                                                    cases hs141
                                                    exact aw_iret at_0_1326 (by rw [rt_0]; decide) rfl
                                              · rw [if_neg c349] at hs140
                                                refine aw_iceq_f (pc1 := 1308) at_0_1305 c349 rfl ?_
                                                refine aw_iconst (v := 0) (pc1 := 1309) at_0_1308 (by decide) rfl ?_
                                                cases hs140
                                                exact aw_iret at_0_1309 (by rw [rt_0]; decide) rfl
                                            · clear hs139
                                              exact Or.inr hs140
                                          · clear hs137
                                            exact Or.inr hs138
                                        · clear hs133
                                          exact Or.inr hs134
                                      · rw [if_neg c329] at hs1
                                        by_cases c354 : (v2 &&& 63) = 17
                                        · rw [if_pos c354] at hs1
                                          refine aw_tsw (t := 1330) at_0_40 (by rw [c354]; rfl) ?_
                                          refine aw_vload_n (pc1 := 1331) at_0_1330 l1 i1 rfl ?_
                                          refine aw_vload_n (pc1 := 1332) at_0_1331 l0 rfl rfl ?_
                                          refine aw_iload (pc1 := 1334) at_0_1332 l4 rfl ?_
                                          refine aw_iconst (v := 1) (pc1 := 1335) at_0_1334 (by decide) rfl ?_
                                          refine aw_iadd (v := (x4 + 1)) (pc1 := 1336) at_0_1335 rfl rfl ?_
                                          obtain ⟨v355, e356, hs142⟩ := am_bind hs1
                                          clear hs1
                                          refine aw_pX (j := 0) (pc1 := 1337) at_0_1336 rfl rfl e356 rfl ?_
                                          refine aw_vload_n (pc1 := 1338) at_0_1337 l0 rfl rfl ?_
                                          refine aw_iload (pc1 := 1340) at_0_1338 l4 rfl ?_
                                          refine aw_iconst (v := 2) (pc1 := 1341) at_0_1340 (by decide) rfl ?_
                                          refine aw_iadd (v := (x4 + 2)) (pc1 := 1342) at_0_1341 rfl rfl ?_
                                          obtain ⟨v357, e358, hs143⟩ := am_bind hs142
                                          clear hs142
                                          refine aw_pX (j := 0) (pc1 := 1343) at_0_1342 rfl rfl e358 rfl ?_
                                          refine aw_vload_n (pc1 := 1344) at_0_1343 l3 i3 rfl ?_
                                          refine aw_call (F := fm_113 N x1 v355 v357 x3 h) (t := false) (na := 4) (kd := 0) (as := [x1, (.int v355), (.int v357), x3]) at_0_1344 (am_k3s kb_113) mn_113 mk_113 rfl rfl (am_ok_s mi_113 (am_hl rfl (am_ccR i1 (am_ccI (am_ccI (am_ccR i3 am_cats_0)))) rfl)) (am_hc am_cats_0 rfl) (fun hz9 => by cases hz9) (fun o1 hz9 => rm_113 x1 v355 v357 x3 h o1 i1 i3 hz9) ?_
                                          rcases am_cI_s hs143 with ⟨v359, h360, f361, hs144⟩ | hs144
                                          · clear hs143
                                            refine Or.inl ⟨_, _, f361, ?_⟩
                                            show am_W X _ 0 1347 _ [(.int v359)] h360 _
                                            refine aw_istore (lv1 := am_put1 _ 5 _) (pc1 := 1349) at_0_1347 rfl rfl ?_
                                            refine aw_vload_n (pc1 := 1350) at_0_1349 (am_lk1 l2 rfl rfl) i2 rfl ?_
                                            refine aw_vload_n (pc1 := 1351) at_0_1350 (am_lk1 l0 rfl rfl) rfl rfl ?_
                                            refine aw_iload (pc1 := 1353) at_0_1351 (am_lk1 l4 rfl rfl) rfl ?_
                                            refine aw_iconst (v := 1) (pc1 := 1354) at_0_1353 (by decide) rfl ?_
                                            refine aw_iadd (v := (x4 + 1)) (pc1 := 1355) at_0_1354 rfl rfl ?_
                                            obtain ⟨v362, e363, hs145⟩ := am_bind hs144
                                            clear hs144
                                            refine aw_pX (j := 0) (pc1 := 1356) at_0_1355 rfl rfl e363 rfl ?_
                                            refine aw_vload_n (pc1 := 1357) at_0_1356 (am_lk1 l0 rfl rfl) rfl rfl ?_
                                            refine aw_iload (pc1 := 1359) at_0_1357 (am_lk1 l4 rfl rfl) rfl ?_
                                            refine aw_iconst (v := 2) (pc1 := 1360) at_0_1359 (by decide) rfl ?_
                                            refine aw_iadd (v := (x4 + 2)) (pc1 := 1361) at_0_1360 rfl rfl ?_
                                            obtain ⟨v364, e365, hs146⟩ := am_bind hs145
                                            clear hs145
                                            refine aw_pX (j := 0) (pc1 := 1362) at_0_1361 rfl rfl e365 rfl ?_
                                            obtain ⟨z366, hs147⟩ := am_ift hs146
                                            clear hs146
                                            refine aw_call (F := fm_401 N x2 v362 v364 h360) (t := true) (na := 3) (kd := 1) (as := [x2, (.int v362), (.int v364)]) at_0_1362 (am_k3v kb_401) mn_401 mk_401 rfl rfl (am_ok_v mi_401 (am_hl rfl (am_ccR i2 (am_ccI (am_ccI am_cats_0))) rfl) z366) (am_hc am_cats_0 rfl) (fun _ => ⟨rfl, hh_0⟩) (fun o1 hz9 => rm_401 x2 v362 v364 h360 o1 i2 hz9) ?_
                                            rcases am_cI_s hs147 with ⟨v367, h368, f369, hs148⟩ | hs148
                                            · clear hs147
                                              refine Or.inl ⟨_, _, f369, ?_⟩
                                              show am_W X _ 0 1365 _ [(.int v367)] h368 _
                                              refine aw_istore (lv1 := am_put1 _ 6 _) (pc1 := 1367) at_0_1365 rfl rfl ?_
                                              refine aw_vload_n (pc1 := 1368) at_0_1367 (am_lk1 (am_lk1 l2 rfl rfl) rfl rfl) i2 rfl ?_
                                              obtain ⟨z370, hs149⟩ := am_ift hs148
                                              clear hs148
                                              refine aw_call (F := fm_324 x2 h368) (t := true) (na := 1) (kd := 1) (as := [x2]) at_0_1368 (am_k3v kb_324) mn_324 mk_324 rfl rfl (am_ok_v mi_324 (am_hl rfl (am_ccR i2 am_cats_0) rfl) z370) (am_hc am_cats_0 rfl) (fun _ => ⟨rfl, hh_0⟩) (fun o1 hz9 => rm_324 x2 h368 o1 i2 hz9) ?_
                                              rcases am_cI_s hs149 with ⟨v371, h372, f373, hs150⟩ | hs150
                                              · clear hs149
                                                refine Or.inl ⟨_, _, f373, ?_⟩
                                                show am_W X _ 0 1371 _ [(.int v371)] h372 _
                                                refine aw_iload (pc1 := 1373) at_0_1371 (am_lk1 am_lk0 rfl rfl) rfl ?_
                                                by_cases c374 : v371 = v359
                                                · rw [if_pos c374] at hs150
                                                  refine aw_iceq_t at_0_1373 c374 ?_
                                                  refine aw_iload (pc1 := 1380) at_0_1378 (am_lk1 am_lk0 rfl rfl) rfl ?_
                                                  by_cases c375 : ¬ v359 = 0
                                                  · rw [if_pos c375] at hs150
                                                    refine aw_ifne_t at_0_1380 c375 ?_
                                                    exact rg_0_1395 (fun z0 z1 z2 z3 h o hs150 => ih z0 z1 z2 z3 h o hs150) x1 x2 x3 x4 h372 o (am_lk1 (am_lk1 l0 rfl rfl) rfl rfl) (am_lk1 (am_lk1 l1 rfl rfl) rfl rfl) (am_lk1 (am_lk1 l2 rfl rfl) rfl rfl) (am_lk1 (am_lk1 l3 rfl rfl) rfl rfl) (am_lk1 (am_lk1 l4 rfl rfl) rfl rfl) i1 i2 i3 hs150
                                                  · rw [if_neg c375] at hs150
                                                    refine aw_ifne_f (pc1 := 1383) at_0_1380 c375 rfl ?_
                                                    refine aw_vload_n (pc1 := 1384) at_0_1383 (am_lk1 (am_lk1 l3 rfl rfl) rfl rfl) i3 rfl ?_
                                                    refine aw_iconst (v := 0) (pc1 := 1385) at_0_1384 (by decide) rfl ?_
                                                    obtain ⟨v376, e377, hs151⟩ := am_bind hs150
                                                    clear hs150
                                                    refine aw_pAL (pc1 := 1386) at_0_1385 e377 rfl ?_
                                                    refine aw_iload (pc1 := 1388) at_0_1386 am_lk0 rfl ?_
                                                    refine aw_i2l (v := (Int32.toInt64 v367)) (pc1 := 1389) at_0_1388 rfl rfl ?_
                                                    refine aw_lcmp (v := (lg_cmp v376 (Int32.toInt64 v367))) (pc1 := 1390) at_0_1389 rfl rfl ?_
                                                    by_cases c378 : (lg_cmp v376 (Int32.toInt64 v367)) = 0
                                                    · rw [if_pos c378] at hs151
                                                      refine aw_ifeq_t at_0_1390 c378 ?_
                                                      exact rg_0_1395 (fun z0 z1 z2 z3 h o hs151 => ih z0 z1 z2 z3 h o hs151) x1 x2 x3 x4 h372 o (am_lk1 (am_lk1 l0 rfl rfl) rfl rfl) (am_lk1 (am_lk1 l1 rfl rfl) rfl rfl) (am_lk1 (am_lk1 l2 rfl rfl) rfl rfl) (am_lk1 (am_lk1 l3 rfl rfl) rfl rfl) (am_lk1 (am_lk1 l4 rfl rfl) rfl rfl) i1 i2 i3 hs151
                                                    · rw [if_neg c378] at hs151
                                                      refine aw_ifeq_f (pc1 := 1393) at_0_1390 c378 rfl ?_
                                                      refine aw_iconst (v := 0) (pc1 := 1394) at_0_1393 (by decide) rfl ?_
                                                      cases hs151
                                                      exact aw_iret at_0_1394 (by rw [rt_0]; decide) rfl
                                                · rw [if_neg c374] at hs150
                                                  refine aw_iceq_f (pc1 := 1376) at_0_1373 c374 rfl ?_
                                                  refine aw_iconst (v := 0) (pc1 := 1377) at_0_1376 (by decide) rfl ?_
                                                  cases hs150
                                                  exact aw_iret at_0_1377 (by rw [rt_0]; decide) rfl
                                              · clear hs149
                                                exact Or.inr hs150
                                            · clear hs147
                                              exact Or.inr hs148
                                          · clear hs143
                                            exact Or.inr hs144
                                        · rw [if_neg c354] at hs1
                                          by_cases c379 : (v2 &&& 63) = 18
                                          · rw [if_pos c379] at hs1
                                            refine aw_tsw (t := 1398) at_0_40 (by rw [c379]; rfl) ?_
                                            refine aw_vload_n (pc1 := 1399) at_0_1398 l1 i1 rfl ?_
                                            refine aw_vload_n (pc1 := 1400) at_0_1399 l0 rfl rfl ?_
                                            refine aw_iload (pc1 := 1402) at_0_1400 l4 rfl ?_
                                            refine aw_iconst (v := 1) (pc1 := 1403) at_0_1402 (by decide) rfl ?_
                                            refine aw_iadd (v := (x4 + 1)) (pc1 := 1404) at_0_1403 rfl rfl ?_
                                            obtain ⟨v380, e381, hs152⟩ := am_bind hs1
                                            clear hs1
                                            refine aw_pX (j := 0) (pc1 := 1405) at_0_1404 rfl rfl e381 rfl ?_
                                            refine aw_vload_n (pc1 := 1406) at_0_1405 l0 rfl rfl ?_
                                            refine aw_iload (pc1 := 1408) at_0_1406 l4 rfl ?_
                                            refine aw_iconst (v := 2) (pc1 := 1409) at_0_1408 (by decide) rfl ?_
                                            refine aw_iadd (v := (x4 + 2)) (pc1 := 1410) at_0_1409 rfl rfl ?_
                                            obtain ⟨v382, e383, hs153⟩ := am_bind hs152
                                            clear hs152
                                            refine aw_pX (j := 0) (pc1 := 1411) at_0_1410 rfl rfl e383 rfl ?_
                                            refine aw_vload_n (pc1 := 1412) at_0_1411 l0 rfl rfl ?_
                                            refine aw_iload (pc1 := 1414) at_0_1412 l4 rfl ?_
                                            refine aw_iconst (v := 3) (pc1 := 1415) at_0_1414 (by decide) rfl ?_
                                            refine aw_iadd (v := (x4 + 3)) (pc1 := 1416) at_0_1415 rfl rfl ?_
                                            obtain ⟨v384, e385, hs154⟩ := am_bind hs153
                                            clear hs153
                                            refine aw_pX (j := 0) (pc1 := 1417) at_0_1416 rfl rfl e385 rfl ?_
                                            refine aw_vload_n (pc1 := 1418) at_0_1417 l0 rfl rfl ?_
                                            refine aw_iload (pc1 := 1420) at_0_1418 l4 rfl ?_
                                            refine aw_iconst (v := 4) (pc1 := 1421) at_0_1420 (by decide) rfl ?_
                                            refine aw_iadd (v := (x4 + 4)) (pc1 := 1422) at_0_1421 rfl rfl ?_
                                            obtain ⟨v386, e387, hs155⟩ := am_bind hs154
                                            clear hs154
                                            refine aw_pX (j := 0) (pc1 := 1423) at_0_1422 rfl rfl e387 rfl ?_
                                            refine aw_vload_n (pc1 := 1424) at_0_1423 l3 i3 rfl ?_
                                            refine aw_call (F := fm_129 N x1 v380 v382 v384 v386 x3 h) (t := false) (na := 6) (kd := 0) (as := [x1, (.int v380), (.int v382), (.int v384), (.int v386), x3]) at_0_1424 (am_k3s kb_129) mn_129 mk_129 rfl rfl (am_ok_s mi_129 (am_hl rfl (am_ccR i1 (am_ccI (am_ccI (am_ccI (am_ccI (am_ccR i3 am_cats_0)))))) rfl)) (am_hc am_cats_0 rfl) (fun hz9 => by cases hz9) (fun o1 hz9 => rm_129 x1 v380 v382 v384 v386 x3 h o1 i1 i3 hz9) ?_
                                            rcases am_cI_s hs155 with ⟨v388, h389, f390, hs156⟩ | hs156
                                            · clear hs155
                                              refine Or.inl ⟨_, _, f390, ?_⟩
                                              show am_W X _ 0 1427 _ [(.int v388)] h389 _
                                              refine aw_istore (lv1 := am_put1 _ 5 _) (pc1 := 1429) at_0_1427 rfl rfl ?_
                                              refine aw_vload_n (pc1 := 1430) at_0_1429 (am_lk1 l2 rfl rfl) i2 rfl ?_
                                              refine aw_vload_n (pc1 := 1431) at_0_1430 (am_lk1 l0 rfl rfl) rfl rfl ?_
                                              refine aw_iload (pc1 := 1433) at_0_1431 (am_lk1 l4 rfl rfl) rfl ?_
                                              refine aw_iconst (v := 1) (pc1 := 1434) at_0_1433 (by decide) rfl ?_
                                              refine aw_iadd (v := (x4 + 1)) (pc1 := 1435) at_0_1434 rfl rfl ?_
                                              obtain ⟨v391, e392, hs157⟩ := am_bind hs156
                                              clear hs156
                                              refine aw_pX (j := 0) (pc1 := 1436) at_0_1435 rfl rfl e392 rfl ?_
                                              refine aw_vload_n (pc1 := 1437) at_0_1436 (am_lk1 l0 rfl rfl) rfl rfl ?_
                                              refine aw_iload (pc1 := 1439) at_0_1437 (am_lk1 l4 rfl rfl) rfl ?_
                                              refine aw_iconst (v := 2) (pc1 := 1440) at_0_1439 (by decide) rfl ?_
                                              refine aw_iadd (v := (x4 + 2)) (pc1 := 1441) at_0_1440 rfl rfl ?_
                                              obtain ⟨v393, e394, hs158⟩ := am_bind hs157
                                              clear hs157
                                              refine aw_pX (j := 0) (pc1 := 1442) at_0_1441 rfl rfl e394 rfl ?_
                                              refine aw_vload_n (pc1 := 1443) at_0_1442 (am_lk1 l0 rfl rfl) rfl rfl ?_
                                              refine aw_iload (pc1 := 1445) at_0_1443 (am_lk1 l4 rfl rfl) rfl ?_
                                              refine aw_iconst (v := 3) (pc1 := 1446) at_0_1445 (by decide) rfl ?_
                                              refine aw_iadd (v := (x4 + 3)) (pc1 := 1447) at_0_1446 rfl rfl ?_
                                              obtain ⟨v395, e396, hs159⟩ := am_bind hs158
                                              clear hs158
                                              refine aw_pX (j := 0) (pc1 := 1448) at_0_1447 rfl rfl e396 rfl ?_
                                              refine aw_vload_n (pc1 := 1449) at_0_1448 (am_lk1 l0 rfl rfl) rfl rfl ?_
                                              refine aw_iload (pc1 := 1451) at_0_1449 (am_lk1 l4 rfl rfl) rfl ?_
                                              refine aw_iconst (v := 4) (pc1 := 1452) at_0_1451 (by decide) rfl ?_
                                              refine aw_iadd (v := (x4 + 4)) (pc1 := 1453) at_0_1452 rfl rfl ?_
                                              obtain ⟨v397, e398, hs160⟩ := am_bind hs159
                                              clear hs159
                                              refine aw_pX (j := 0) (pc1 := 1454) at_0_1453 rfl rfl e398 rfl ?_
                                              obtain ⟨z399, hs161⟩ := am_ift hs160
                                              clear hs160
                                              refine aw_call (F := fm_420 N x2 v391 v393 v395 v397 h389) (t := true) (na := 5) (kd := 1) (as := [x2, (.int v391), (.int v393), (.int v395), (.int v397)]) at_0_1454 (am_k3v kb_420) mn_420 mk_420 rfl rfl (am_ok_v mi_420 (am_hl rfl (am_ccR i2 (am_ccI (am_ccI (am_ccI (am_ccI am_cats_0))))) rfl) z399) (am_hc am_cats_0 rfl) (fun _ => ⟨rfl, hh_0⟩) (fun o1 hz9 => rm_420 x2 v391 v393 v395 v397 h389 o1 i2 hz9) ?_
                                              rcases am_cI_s hs161 with ⟨v400, h401, f402, hs162⟩ | hs162
                                              · clear hs161
                                                refine Or.inl ⟨_, _, f402, ?_⟩
                                                show am_W X _ 0 1457 _ [(.int v400)] h401 _
                                                refine aw_istore (lv1 := am_put1 _ 6 _) (pc1 := 1459) at_0_1457 rfl rfl ?_
                                                refine aw_vload_n (pc1 := 1460) at_0_1459 (am_lk1 (am_lk1 l2 rfl rfl) rfl rfl) i2 rfl ?_
                                                obtain ⟨z403, hs163⟩ := am_ift hs162
                                                clear hs162
                                                refine aw_call (F := fm_324 x2 h401) (t := true) (na := 1) (kd := 1) (as := [x2]) at_0_1460 (am_k3v kb_324) mn_324 mk_324 rfl rfl (am_ok_v mi_324 (am_hl rfl (am_ccR i2 am_cats_0) rfl) z403) (am_hc am_cats_0 rfl) (fun _ => ⟨rfl, hh_0⟩) (fun o1 hz9 => rm_324 x2 h401 o1 i2 hz9) ?_
                                                rcases am_cI_s hs163 with ⟨v404, h405, f406, hs164⟩ | hs164
                                                · clear hs163
                                                  refine Or.inl ⟨_, _, f406, ?_⟩
                                                  show am_W X _ 0 1463 _ [(.int v404)] h405 _
                                                  refine aw_iload (pc1 := 1465) at_0_1463 (am_lk1 am_lk0 rfl rfl) rfl ?_
                                                  by_cases c407 : v404 = v388
                                                  · rw [if_pos c407] at hs164
                                                    refine aw_iceq_t at_0_1465 c407 ?_
                                                    refine aw_iload (pc1 := 1472) at_0_1470 (am_lk1 am_lk0 rfl rfl) rfl ?_
                                                    by_cases c408 : ¬ v388 = 0
                                                    · rw [if_pos c408] at hs164
                                                      refine aw_ifne_t at_0_1472 c408 ?_
                                                      exact rg_0_1487 (fun z0 z1 z2 z3 h o hs164 => ih z0 z1 z2 z3 h o hs164) x1 x2 x3 x4 h405 o (am_lk1 (am_lk1 l0 rfl rfl) rfl rfl) (am_lk1 (am_lk1 l1 rfl rfl) rfl rfl) (am_lk1 (am_lk1 l2 rfl rfl) rfl rfl) (am_lk1 (am_lk1 l3 rfl rfl) rfl rfl) (am_lk1 (am_lk1 l4 rfl rfl) rfl rfl) i1 i2 i3 hs164
                                                    · rw [if_neg c408] at hs164
                                                      refine aw_ifne_f (pc1 := 1475) at_0_1472 c408 rfl ?_
                                                      refine aw_vload_n (pc1 := 1476) at_0_1475 (am_lk1 (am_lk1 l3 rfl rfl) rfl rfl) i3 rfl ?_
                                                      refine aw_iconst (v := 0) (pc1 := 1477) at_0_1476 (by decide) rfl ?_
                                                      obtain ⟨v409, e410, hs165⟩ := am_bind hs164
                                                      clear hs164
                                                      refine aw_pAL (pc1 := 1478) at_0_1477 e410 rfl ?_
                                                      refine aw_iload (pc1 := 1480) at_0_1478 am_lk0 rfl ?_
                                                      refine aw_i2l (v := (Int32.toInt64 v400)) (pc1 := 1481) at_0_1480 rfl rfl ?_
                                                      refine aw_lcmp (v := (lg_cmp v409 (Int32.toInt64 v400))) (pc1 := 1482) at_0_1481 rfl rfl ?_
                                                      by_cases c411 : (lg_cmp v409 (Int32.toInt64 v400)) = 0
                                                      · rw [if_pos c411] at hs165
                                                        refine aw_ifeq_t at_0_1482 c411 ?_
                                                        exact rg_0_1487 (fun z0 z1 z2 z3 h o hs165 => ih z0 z1 z2 z3 h o hs165) x1 x2 x3 x4 h405 o (am_lk1 (am_lk1 l0 rfl rfl) rfl rfl) (am_lk1 (am_lk1 l1 rfl rfl) rfl rfl) (am_lk1 (am_lk1 l2 rfl rfl) rfl rfl) (am_lk1 (am_lk1 l3 rfl rfl) rfl rfl) (am_lk1 (am_lk1 l4 rfl rfl) rfl rfl) i1 i2 i3 hs165
                                                      · rw [if_neg c411] at hs165
                                                        refine aw_ifeq_f (pc1 := 1485) at_0_1482 c411 rfl ?_
                                                        refine aw_iconst (v := 0) (pc1 := 1486) at_0_1485 (by decide) rfl ?_
                                                        cases hs165
                                                        exact aw_iret at_0_1486 (by rw [rt_0]; decide) rfl
                                                  · rw [if_neg c407] at hs164
                                                    refine aw_iceq_f (pc1 := 1468) at_0_1465 c407 rfl ?_
                                                    refine aw_iconst (v := 0) (pc1 := 1469) at_0_1468 (by decide) rfl ?_
                                                    cases hs164
                                                    exact aw_iret at_0_1469 (by rw [rt_0]; decide) rfl
                                                · clear hs163
                                                  exact Or.inr hs164
                                              · clear hs161
                                                exact Or.inr hs162
                                            · clear hs155
                                              exact Or.inr hs156
                                          · rw [if_neg c379] at hs1
                                            by_cases c412 : (v2 &&& 63) = 19
                                            · rw [if_pos c412] at hs1
                                              refine aw_tsw (t := 1490) at_0_40 (by rw [c412]; rfl) ?_
                                              refine aw_vload_n (pc1 := 1491) at_0_1490 l1 i1 rfl ?_
                                              obtain ⟨z413, hs166⟩ := am_ift hs1
                                              clear hs1
                                              refine aw_call (F := fm_26 x1 h) (t := true) (na := 1) (kd := 1) (as := [x1]) at_0_1491 (am_k3v kb_26) mn_26 mk_26 rfl rfl (am_ok_v mi_26 (am_hl rfl (am_ccR i1 am_cats_0) rfl) z413) (am_hc am_cats_0 rfl) (fun _ => ⟨rfl, hh_0⟩) (fun o1 hz9 => rm_26 x1 h o1 i1 hz9) ?_
                                              rcases am_cI_s hs166 with ⟨v414, h415, f416, hs167⟩ | hs167
                                              · clear hs166
                                                refine Or.inl ⟨_, _, f416, ?_⟩
                                                show am_W X _ 0 1494 _ [(.int v414)] h415 _
                                                refine aw_vload_n (pc1 := 1495) at_0_1494 l2 i2 rfl ?_
                                                obtain ⟨z417, hs168⟩ := am_ift hs167
                                                clear hs167
                                                refine aw_call (F := fm_422 x2 h415) (t := true) (na := 1) (kd := 1) (as := [x2]) at_0_1495 (am_k3v kb_422) mn_422 mk_422 rfl rfl (am_ok_v mi_422 (am_hl rfl (am_ccR i2 am_cats_0) rfl) z417) (am_hc (am_ccI am_cats_0) rfl) (fun _ => ⟨rfl, hh_0⟩) (fun o1 hz9 => rm_422 x2 h415 o1 i2 hz9) ?_
                                                rcases am_cI_s hs168 with ⟨v418, h419, f420, hs169⟩ | hs169
                                                · clear hs168
                                                  refine Or.inl ⟨_, _, f420, ?_⟩
                                                  show am_W X _ 0 1498 _ [(.int v418), (.int v414)] h419 _
                                                  by_cases c421 : v414 = v418
                                                  · rw [if_pos c421] at hs169
                                                    refine aw_iceq_t at_0_1498 c421 ?_
                                                    exact rg_0_4192 (fun z0 z1 z2 z3 h o hs169 => ih z0 z1 z2 z3 h o hs169) x1 x2 x3 x4 h419 o l0 l1 l2 l3 l4 i1 i2 i3 hs169
                                                  · rw [if_neg c421] at hs169
                                                    refine aw_iceq_f (pc1 := 1501) at_0_1498 c421 rfl ?_
                                                    refine aw_iconst (v := 0) (pc1 := 1502) at_0_1501 (by decide) rfl ?_
                                                    cases hs169
                                                    exact aw_iret at_0_1502 (by rw [rt_0]; decide) rfl
                                                · clear hs168
                                                  exact Or.inr hs169
                                              · clear hs166
                                                exact Or.inr hs167
                                            · rw [if_neg c412] at hs1
                                              by_cases c422 : (v2 &&& 63) = 20
                                              · rw [if_pos c422] at hs1
                                                refine aw_tsw (t := 1503) at_0_40 (by rw [c422]; rfl) ?_
                                                refine aw_vload_n (pc1 := 1504) at_0_1503 l1 i1 rfl ?_
                                                obtain ⟨z423, hs170⟩ := am_ift hs1
                                                clear hs1
                                                refine aw_call (F := fm_27 x1 h) (t := true) (na := 1) (kd := 1) (as := [x1]) at_0_1504 (am_k3v kb_27) mn_27 mk_27 rfl rfl (am_ok_v mi_27 (am_hl rfl (am_ccR i1 am_cats_0) rfl) z423) (am_hc am_cats_0 rfl) (fun _ => ⟨rfl, hh_0⟩) (fun o1 hz9 => rm_27 x1 h o1 i1 hz9) ?_
                                                rcases am_cI_s hs170 with ⟨v424, h425, f426, hs171⟩ | hs171
                                                · clear hs170
                                                  refine Or.inl ⟨_, _, f426, ?_⟩
                                                  show am_W X _ 0 1507 _ [(.int v424)] h425 _
                                                  refine aw_vload_n (pc1 := 1508) at_0_1507 l2 i2 rfl ?_
                                                  obtain ⟨z427, hs172⟩ := am_ift hs171
                                                  clear hs171
                                                  refine aw_call (F := fm_423 x2 h425) (t := true) (na := 1) (kd := 1) (as := [x2]) at_0_1508 (am_k3v kb_423) mn_423 mk_423 rfl rfl (am_ok_v mi_423 (am_hl rfl (am_ccR i2 am_cats_0) rfl) z427) (am_hc (am_ccI am_cats_0) rfl) (fun _ => ⟨rfl, hh_0⟩) (fun o1 hz9 => rm_423 x2 h425 o1 i2 hz9) ?_
                                                  rcases am_cI_s hs172 with ⟨v428, h429, f430, hs173⟩ | hs173
                                                  · clear hs172
                                                    refine Or.inl ⟨_, _, f430, ?_⟩
                                                    show am_W X _ 0 1511 _ [(.int v428), (.int v424)] h429 _
                                                    by_cases c431 : v424 = v428
                                                    · rw [if_pos c431] at hs173
                                                      refine aw_iceq_t at_0_1511 c431 ?_
                                                      exact rg_0_4192 (fun z0 z1 z2 z3 h o hs173 => ih z0 z1 z2 z3 h o hs173) x1 x2 x3 x4 h429 o l0 l1 l2 l3 l4 i1 i2 i3 hs173
                                                    · rw [if_neg c431] at hs173
                                                      refine aw_iceq_f (pc1 := 1514) at_0_1511 c431 rfl ?_
                                                      refine aw_iconst (v := 0) (pc1 := 1515) at_0_1514 (by decide) rfl ?_
                                                      cases hs173
                                                      exact aw_iret at_0_1515 (by rw [rt_0]; decide) rfl
                                                  · clear hs172
                                                    exact Or.inr hs173
                                                · clear hs170
                                                  exact Or.inr hs171
                                              · rw [if_neg c422] at hs1
                                                by_cases c432 : (v2 &&& 63) = 21
                                                · rw [if_pos c432] at hs1
                                                  refine aw_tsw (t := 1516) at_0_40 (by rw [c432]; rfl) ?_
                                                  refine aw_vload_n (pc1 := 1517) at_0_1516 l1 i1 rfl ?_
                                                  refine aw_vload_n (pc1 := 1518) at_0_1517 l0 rfl rfl ?_
                                                  refine aw_iload (pc1 := 1520) at_0_1518 l4 rfl ?_
                                                  refine aw_iconst (v := 1) (pc1 := 1521) at_0_1520 (by decide) rfl ?_
                                                  refine aw_iadd (v := (x4 + 1)) (pc1 := 1522) at_0_1521 rfl rfl ?_
                                                  obtain ⟨v433, e434, hs174⟩ := am_bind hs1
                                                  clear hs1
                                                  refine aw_pX (j := 0) (pc1 := 1523) at_0_1522 rfl rfl e434 rfl ?_
                                                  refine aw_vload_n (pc1 := 1524) at_0_1523 l0 rfl rfl ?_
                                                  refine aw_iload (pc1 := 1526) at_0_1524 l4 rfl ?_
                                                  refine aw_iconst (v := 2) (pc1 := 1527) at_0_1526 (by decide) rfl ?_
                                                  refine aw_iadd (v := (x4 + 2)) (pc1 := 1528) at_0_1527 rfl rfl ?_
                                                  obtain ⟨v435, e436, hs175⟩ := am_bind hs174
                                                  clear hs174
                                                  refine aw_pX (j := 0) (pc1 := 1529) at_0_1528 rfl rfl e436 rfl ?_
                                                  refine aw_vload_n (pc1 := 1530) at_0_1529 l3 i3 rfl ?_
                                                  refine aw_call (F := fm_131 N x1 v433 v435 x3 h) (t := false) (na := 4) (kd := 0) (as := [x1, (.int v433), (.int v435), x3]) at_0_1530 (am_k3s kb_131) mn_131 mk_131 rfl rfl (am_ok_s mi_131 (am_hl rfl (am_ccR i1 (am_ccI (am_ccI (am_ccR i3 am_cats_0)))) rfl)) (am_hc am_cats_0 rfl) (fun hz9 => by cases hz9) (fun o1 hz9 => rm_131 x1 v433 v435 x3 h o1 i1 i3 hz9) ?_
                                                  rcases am_cI_s hs175 with ⟨v437, h438, f439, hs176⟩ | hs176
                                                  · clear hs175
                                                    refine Or.inl ⟨_, _, f439, ?_⟩
                                                    show am_W X _ 0 1533 _ [(.int v437)] h438 _
                                                    refine aw_istore (lv1 := am_put1 _ 5 _) (pc1 := 1535) at_0_1533 rfl rfl ?_
                                                    refine aw_vload_n (pc1 := 1536) at_0_1535 (am_lk1 l2 rfl rfl) i2 rfl ?_
                                                    refine aw_vload_n (pc1 := 1537) at_0_1536 (am_lk1 l0 rfl rfl) rfl rfl ?_
                                                    refine aw_iload (pc1 := 1539) at_0_1537 (am_lk1 l4 rfl rfl) rfl ?_
                                                    refine aw_iconst (v := 1) (pc1 := 1540) at_0_1539 (by decide) rfl ?_
                                                    refine aw_iadd (v := (x4 + 1)) (pc1 := 1541) at_0_1540 rfl rfl ?_
                                                    obtain ⟨v440, e441, hs177⟩ := am_bind hs176
                                                    clear hs176
                                                    refine aw_pX (j := 0) (pc1 := 1542) at_0_1541 rfl rfl e441 rfl ?_
                                                    refine aw_vload_n (pc1 := 1543) at_0_1542 (am_lk1 l0 rfl rfl) rfl rfl ?_
                                                    refine aw_iload (pc1 := 1545) at_0_1543 (am_lk1 l4 rfl rfl) rfl ?_
                                                    refine aw_iconst (v := 2) (pc1 := 1546) at_0_1545 (by decide) rfl ?_
                                                    refine aw_iadd (v := (x4 + 2)) (pc1 := 1547) at_0_1546 rfl rfl ?_
                                                    obtain ⟨v442, e443, hs178⟩ := am_bind hs177
                                                    clear hs177
                                                    refine aw_pX (j := 0) (pc1 := 1548) at_0_1547 rfl rfl e443 rfl ?_
                                                    obtain ⟨z444, hs179⟩ := am_ift hs178
                                                    clear hs178
                                                    refine aw_call (F := fm_424 N x2 v440 v442 h438) (t := true) (na := 3) (kd := 1) (as := [x2, (.int v440), (.int v442)]) at_0_1548 (am_k3v kb_424) mn_424 mk_424 rfl rfl (am_ok_v mi_424 (am_hl rfl (am_ccR i2 (am_ccI (am_ccI am_cats_0))) rfl) z444) (am_hc am_cats_0 rfl) (fun _ => ⟨rfl, hh_0⟩) (fun o1 hz9 => rm_424 x2 v440 v442 h438 o1 i2 hz9) ?_
                                                    rcases am_cI_s hs179 with ⟨v445, h446, f447, hs180⟩ | hs180
                                                    · clear hs179
                                                      refine Or.inl ⟨_, _, f447, ?_⟩
                                                      show am_W X _ 0 1551 _ [(.int v445)] h446 _
                                                      refine aw_istore (lv1 := am_put1 _ 6 _) (pc1 := 1553) at_0_1551 rfl rfl ?_
                                                      refine aw_vload_n (pc1 := 1554) at_0_1553 (am_lk1 (am_lk1 l2 rfl rfl) rfl rfl) i2 rfl ?_
                                                      obtain ⟨z448, hs181⟩ := am_ift hs180
                                                      clear hs180
                                                      refine aw_call (F := fm_324 x2 h446) (t := true) (na := 1) (kd := 1) (as := [x2]) at_0_1554 (am_k3v kb_324) mn_324 mk_324 rfl rfl (am_ok_v mi_324 (am_hl rfl (am_ccR i2 am_cats_0) rfl) z448) (am_hc am_cats_0 rfl) (fun _ => ⟨rfl, hh_0⟩) (fun o1 hz9 => rm_324 x2 h446 o1 i2 hz9) ?_
                                                      rcases am_cI_s hs181 with ⟨v449, h450, f451, hs182⟩ | hs182
                                                      · clear hs181
                                                        refine Or.inl ⟨_, _, f451, ?_⟩
                                                        show am_W X _ 0 1557 _ [(.int v449)] h450 _
                                                        refine aw_iload (pc1 := 1559) at_0_1557 (am_lk1 am_lk0 rfl rfl) rfl ?_
                                                        by_cases c452 : v449 = v437
                                                        · rw [if_pos c452] at hs182
                                                          refine aw_iceq_t at_0_1559 c452 ?_
                                                          refine aw_iload (pc1 := 1566) at_0_1564 (am_lk1 am_lk0 rfl rfl) rfl ?_
                                                          by_cases c453 : ¬ v437 = 0
                                                          · rw [if_pos c453] at hs182
                                                            refine aw_ifne_t at_0_1566 c453 ?_
                                                            exact rg_0_1581 (fun z0 z1 z2 z3 h o hs182 => ih z0 z1 z2 z3 h o hs182) x1 x2 x3 x4 h450 o (am_lk1 (am_lk1 l0 rfl rfl) rfl rfl) (am_lk1 (am_lk1 l1 rfl rfl) rfl rfl) (am_lk1 (am_lk1 l2 rfl rfl) rfl rfl) (am_lk1 (am_lk1 l3 rfl rfl) rfl rfl) (am_lk1 (am_lk1 l4 rfl rfl) rfl rfl) i1 i2 i3 hs182
                                                          · rw [if_neg c453] at hs182
                                                            refine aw_ifne_f (pc1 := 1569) at_0_1566 c453 rfl ?_
                                                            refine aw_vload_n (pc1 := 1570) at_0_1569 (am_lk1 (am_lk1 l3 rfl rfl) rfl rfl) i3 rfl ?_
                                                            refine aw_iconst (v := 0) (pc1 := 1571) at_0_1570 (by decide) rfl ?_
                                                            obtain ⟨v454, e455, hs183⟩ := am_bind hs182
                                                            clear hs182
                                                            refine aw_pAL (pc1 := 1572) at_0_1571 e455 rfl ?_
                                                            refine aw_iload (pc1 := 1574) at_0_1572 am_lk0 rfl ?_
                                                            refine aw_i2l (v := (Int32.toInt64 v445)) (pc1 := 1575) at_0_1574 rfl rfl ?_
                                                            refine aw_lcmp (v := (lg_cmp v454 (Int32.toInt64 v445))) (pc1 := 1576) at_0_1575 rfl rfl ?_
                                                            by_cases c456 : (lg_cmp v454 (Int32.toInt64 v445)) = 0
                                                            · rw [if_pos c456] at hs183
                                                              refine aw_ifeq_t at_0_1576 c456 ?_
                                                              exact rg_0_1581 (fun z0 z1 z2 z3 h o hs183 => ih z0 z1 z2 z3 h o hs183) x1 x2 x3 x4 h450 o (am_lk1 (am_lk1 l0 rfl rfl) rfl rfl) (am_lk1 (am_lk1 l1 rfl rfl) rfl rfl) (am_lk1 (am_lk1 l2 rfl rfl) rfl rfl) (am_lk1 (am_lk1 l3 rfl rfl) rfl rfl) (am_lk1 (am_lk1 l4 rfl rfl) rfl rfl) i1 i2 i3 hs183
                                                            · rw [if_neg c456] at hs183
                                                              refine aw_ifeq_f (pc1 := 1579) at_0_1576 c456 rfl ?_
                                                              refine aw_iconst (v := 0) (pc1 := 1580) at_0_1579 (by decide) rfl ?_
                                                              cases hs183
                                                              exact aw_iret at_0_1580 (by rw [rt_0]; decide) rfl
                                                        · rw [if_neg c452] at hs182
                                                          refine aw_iceq_f (pc1 := 1562) at_0_1559 c452 rfl ?_
                                                          refine aw_iconst (v := 0) (pc1 := 1563) at_0_1562 (by decide) rfl ?_
                                                          cases hs182
                                                          exact aw_iret at_0_1563 (by rw [rt_0]; decide) rfl
                                                      · clear hs181
                                                        exact Or.inr hs182
                                                    · clear hs179
                                                      exact Or.inr hs180
                                                  · clear hs175
                                                    exact Or.inr hs176
                                                · rw [if_neg c432] at hs1
                                                  by_cases c457 : (v2 &&& 63) = 22
                                                  · rw [if_pos c457] at hs1
                                                    refine aw_tsw (t := 1584) at_0_40 (by rw [c457]; rfl) ?_
                                                    refine aw_vload_n (pc1 := 1585) at_0_1584 l1 i1 rfl ?_
                                                    refine aw_vload_n (pc1 := 1586) at_0_1585 l0 rfl rfl ?_
                                                    refine aw_iload (pc1 := 1588) at_0_1586 l4 rfl ?_
                                                    refine aw_iconst (v := 1) (pc1 := 1589) at_0_1588 (by decide) rfl ?_
                                                    refine aw_iadd (v := (x4 + 1)) (pc1 := 1590) at_0_1589 rfl rfl ?_
                                                    obtain ⟨v458, e459, hs184⟩ := am_bind hs1
                                                    clear hs1
                                                    refine aw_pX (j := 0) (pc1 := 1591) at_0_1590 rfl rfl e459 rfl ?_
                                                    refine aw_vload_n (pc1 := 1592) at_0_1591 l0 rfl rfl ?_
                                                    refine aw_iload (pc1 := 1594) at_0_1592 l4 rfl ?_
                                                    refine aw_iconst (v := 2) (pc1 := 1595) at_0_1594 (by decide) rfl ?_
                                                    refine aw_iadd (v := (x4 + 2)) (pc1 := 1596) at_0_1595 rfl rfl ?_
                                                    obtain ⟨v460, e461, hs185⟩ := am_bind hs184
                                                    clear hs184
                                                    refine aw_pX (j := 0) (pc1 := 1597) at_0_1596 rfl rfl e461 rfl ?_
                                                    by_cases c462 : v460 = 0
                                                    · rw [if_pos c462] at hs185
                                                      refine aw_ifeq_t at_0_1597 c462 ?_
                                                      refine aw_iconst (v := 0) (pc1 := 1605) at_0_1604 (by decide) rfl ?_
                                                      exact rg_0_1605 (fun z0 z1 z2 z3 h o hs185 => ih z0 z1 z2 z3 h o hs185) x1 x2 x3 x4 x1 v458 0 h o l0 l1 l2 l3 l4 i1 i2 i3 i1 hs185
                                                    · rw [if_neg c462] at hs185
                                                      refine aw_ifeq_f (pc1 := 1600) at_0_1597 c462 rfl ?_
                                                      refine aw_iconst (v := 1) (pc1 := 1601) at_0_1600 (by decide) rfl ?_
                                                      refine aw_goto at_0_1601 ?_
                                                      exact rg_0_1605 (fun z0 z1 z2 z3 h o hs185 => ih z0 z1 z2 z3 h o hs185) x1 x2 x3 x4 x1 v458 1 h o l0 l1 l2 l3 l4 i1 i2 i3 i1 hs185
                                                  · rw [if_neg c457] at hs1
                                                    by_cases c463 : (v2 &&& 63) = 23
                                                    · rw [if_pos c463] at hs1
                                                      refine aw_tsw (t := 1679) at_0_40 (by rw [c463]; rfl) ?_
                                                      refine aw_vload_n (pc1 := 1680) at_0_1679 l1 i1 rfl ?_
                                                      refine aw_vload_n (pc1 := 1681) at_0_1680 l0 rfl rfl ?_
                                                      refine aw_iload (pc1 := 1683) at_0_1681 l4 rfl ?_
                                                      refine aw_iconst (v := 1) (pc1 := 1684) at_0_1683 (by decide) rfl ?_
                                                      refine aw_iadd (v := (x4 + 1)) (pc1 := 1685) at_0_1684 rfl rfl ?_
                                                      obtain ⟨v464, e465, hs186⟩ := am_bind hs1
                                                      clear hs1
                                                      refine aw_pX (j := 0) (pc1 := 1686) at_0_1685 rfl rfl e465 rfl ?_
                                                      refine aw_vload_n (pc1 := 1687) at_0_1686 l0 rfl rfl ?_
                                                      refine aw_iload (pc1 := 1689) at_0_1687 l4 rfl ?_
                                                      refine aw_iconst (v := 2) (pc1 := 1690) at_0_1689 (by decide) rfl ?_
                                                      refine aw_iadd (v := (x4 + 2)) (pc1 := 1691) at_0_1690 rfl rfl ?_
                                                      obtain ⟨v466, e467, hs187⟩ := am_bind hs186
                                                      clear hs186
                                                      refine aw_pX (j := 0) (pc1 := 1692) at_0_1691 rfl rfl e467 rfl ?_
                                                      refine aw_vload_n (pc1 := 1693) at_0_1692 l3 i3 rfl ?_
                                                      refine aw_call (F := fm_145 N x1 v464 v466 x3 h) (t := false) (na := 4) (kd := 0) (as := [x1, (.int v464), (.int v466), x3]) at_0_1693 (am_k3s kb_145) mn_145 mk_145 rfl rfl (am_ok_s mi_145 (am_hl rfl (am_ccR i1 (am_ccI (am_ccI (am_ccR i3 am_cats_0)))) rfl)) (am_hc am_cats_0 rfl) (fun hz9 => by cases hz9) (fun o1 hz9 => rm_145 x1 v464 v466 x3 h o1 i1 i3 hz9) ?_
                                                      rcases am_cI_s hs187 with ⟨v468, h469, f470, hs188⟩ | hs188
                                                      · clear hs187
                                                        refine Or.inl ⟨_, _, f470, ?_⟩
                                                        show am_W X _ 0 1696 _ [(.int v468)] h469 _
                                                        refine aw_istore (lv1 := am_put1 _ 5 _) (pc1 := 1698) at_0_1696 rfl rfl ?_
                                                        refine aw_vload_n (pc1 := 1699) at_0_1698 (am_lk1 l2 rfl rfl) i2 rfl ?_
                                                        refine aw_vload_n (pc1 := 1700) at_0_1699 (am_lk1 l0 rfl rfl) rfl rfl ?_
                                                        refine aw_iload (pc1 := 1702) at_0_1700 (am_lk1 l4 rfl rfl) rfl ?_
                                                        refine aw_iconst (v := 1) (pc1 := 1703) at_0_1702 (by decide) rfl ?_
                                                        refine aw_iadd (v := (x4 + 1)) (pc1 := 1704) at_0_1703 rfl rfl ?_
                                                        obtain ⟨v471, e472, hs189⟩ := am_bind hs188
                                                        clear hs188
                                                        refine aw_pX (j := 0) (pc1 := 1705) at_0_1704 rfl rfl e472 rfl ?_
                                                        refine aw_vload_n (pc1 := 1706) at_0_1705 (am_lk1 l0 rfl rfl) rfl rfl ?_
                                                        refine aw_iload (pc1 := 1708) at_0_1706 (am_lk1 l4 rfl rfl) rfl ?_
                                                        refine aw_iconst (v := 2) (pc1 := 1709) at_0_1708 (by decide) rfl ?_
                                                        refine aw_iadd (v := (x4 + 2)) (pc1 := 1710) at_0_1709 rfl rfl ?_
                                                        obtain ⟨v473, e474, hs190⟩ := am_bind hs189
                                                        clear hs189
                                                        refine aw_pX (j := 0) (pc1 := 1711) at_0_1710 rfl rfl e474 rfl ?_
                                                        obtain ⟨z475, hs191⟩ := am_ift hs190
                                                        clear hs190
                                                        refine aw_call (F := fm_431 N x2 v471 v473 h469) (t := true) (na := 3) (kd := 1) (as := [x2, (.int v471), (.int v473)]) at_0_1711 (am_k3v kb_431) mn_431 mk_431 rfl rfl (am_ok_v mi_431 (am_hl rfl (am_ccR i2 (am_ccI (am_ccI am_cats_0))) rfl) z475) (am_hc am_cats_0 rfl) (fun _ => ⟨rfl, hh_0⟩) (fun o1 hz9 => rm_431 x2 v471 v473 h469 o1 i2 hz9) ?_
                                                        rcases am_cL_s hs191 with ⟨v476, h477, f478, hs192⟩ | hs192
                                                        · clear hs191
                                                          refine Or.inl ⟨_, _, f478, ?_⟩
                                                          show am_W X _ 0 1714 _ [(.long v476)] h477 _
                                                          refine aw_lstore (lv1 := am_put2 _ 6 _) (pc1 := 1716) at_0_1714 rfl rfl ?_
                                                          refine aw_vload_n (pc1 := 1717) at_0_1716 (am_lk2 (am_lk1 l2 rfl rfl) rfl rfl) i2 rfl ?_
                                                          obtain ⟨z479, hs193⟩ := am_ift hs192
                                                          clear hs192
                                                          refine aw_call (F := fm_324 x2 h477) (t := true) (na := 1) (kd := 1) (as := [x2]) at_0_1717 (am_k3v kb_324) mn_324 mk_324 rfl rfl (am_ok_v mi_324 (am_hl rfl (am_ccR i2 am_cats_0) rfl) z479) (am_hc am_cats_0 rfl) (fun _ => ⟨rfl, hh_0⟩) (fun o1 hz9 => rm_324 x2 h477 o1 i2 hz9) ?_
                                                          rcases am_cI_s hs193 with ⟨v480, h481, f482, hs194⟩ | hs194
                                                          · clear hs193
                                                            refine Or.inl ⟨_, _, f482, ?_⟩
                                                            show am_W X _ 0 1720 _ [(.int v480)] h481 _
                                                            refine aw_iload (pc1 := 1722) at_0_1720 (am_lk2 am_lk0 rfl rfl) rfl ?_
                                                            by_cases c483 : v480 = v468
                                                            · rw [if_pos c483] at hs194
                                                              refine aw_iceq_t at_0_1722 c483 ?_
                                                              refine aw_iload (pc1 := 1729) at_0_1727 (am_lk2 am_lk0 rfl rfl) rfl ?_
                                                              by_cases c484 : ¬ v468 = 0
                                                              · rw [if_pos c484] at hs194
                                                                refine aw_ifne_t at_0_1729 c484 ?_
                                                                exact rg_0_1743 (fun z0 z1 z2 z3 h o hs194 => ih z0 z1 z2 z3 h o hs194) x1 x2 x3 x4 h481 o (am_lk2 (am_lk1 l0 rfl rfl) rfl rfl) (am_lk2 (am_lk1 l1 rfl rfl) rfl rfl) (am_lk2 (am_lk1 l2 rfl rfl) rfl rfl) (am_lk2 (am_lk1 l3 rfl rfl) rfl rfl) (am_lk2 (am_lk1 l4 rfl rfl) rfl rfl) i1 i2 i3 hs194
                                                              · rw [if_neg c484] at hs194
                                                                refine aw_ifne_f (pc1 := 1732) at_0_1729 c484 rfl ?_
                                                                refine aw_vload_n (pc1 := 1733) at_0_1732 (am_lk2 (am_lk1 l3 rfl rfl) rfl rfl) i3 rfl ?_
                                                                refine aw_iconst (v := 0) (pc1 := 1734) at_0_1733 (by decide) rfl ?_
                                                                obtain ⟨v485, e486, hs195⟩ := am_bind hs194
                                                                clear hs194
                                                                refine aw_pAL (pc1 := 1735) at_0_1734 e486 rfl ?_
                                                                refine aw_lload (pc1 := 1737) at_0_1735 am_lk02 rfl ?_
                                                                refine aw_lcmp (v := (lg_cmp v485 v476)) (pc1 := 1738) at_0_1737 rfl rfl ?_
                                                                by_cases c487 : (lg_cmp v485 v476) = 0
                                                                · rw [if_pos c487] at hs195
                                                                  refine aw_ifeq_t at_0_1738 c487 ?_
                                                                  exact rg_0_1743 (fun z0 z1 z2 z3 h o hs195 => ih z0 z1 z2 z3 h o hs195) x1 x2 x3 x4 h481 o (am_lk2 (am_lk1 l0 rfl rfl) rfl rfl) (am_lk2 (am_lk1 l1 rfl rfl) rfl rfl) (am_lk2 (am_lk1 l2 rfl rfl) rfl rfl) (am_lk2 (am_lk1 l3 rfl rfl) rfl rfl) (am_lk2 (am_lk1 l4 rfl rfl) rfl rfl) i1 i2 i3 hs195
                                                                · rw [if_neg c487] at hs195
                                                                  refine aw_ifeq_f (pc1 := 1741) at_0_1738 c487 rfl ?_
                                                                  refine aw_iconst (v := 0) (pc1 := 1742) at_0_1741 (by decide) rfl ?_
                                                                  cases hs195
                                                                  exact aw_iret at_0_1742 (by rw [rt_0]; decide) rfl
                                                            · rw [if_neg c483] at hs194
                                                              refine aw_iceq_f (pc1 := 1725) at_0_1722 c483 rfl ?_
                                                              refine aw_iconst (v := 0) (pc1 := 1726) at_0_1725 (by decide) rfl ?_
                                                              cases hs194
                                                              exact aw_iret at_0_1726 (by rw [rt_0]; decide) rfl
                                                          · clear hs193
                                                            exact Or.inr hs194
                                                        · clear hs191
                                                          exact Or.inr hs192
                                                      · clear hs187
                                                        exact Or.inr hs188
                                                    · rw [if_neg c463] at hs1
                                                      by_cases c488 : (v2 &&& 63) = 24
                                                      · rw [if_pos c488] at hs1
                                                        refine aw_tsw (t := 1746) at_0_40 (by rw [c488]; rfl) ?_
                                                        refine aw_vload_n (pc1 := 1747) at_0_1746 l1 i1 rfl ?_
                                                        refine aw_vload_n (pc1 := 1748) at_0_1747 l0 rfl rfl ?_
                                                        refine aw_iload (pc1 := 1750) at_0_1748 l4 rfl ?_
                                                        refine aw_iconst (v := 1) (pc1 := 1751) at_0_1750 (by decide) rfl ?_
                                                        refine aw_iadd (v := (x4 + 1)) (pc1 := 1752) at_0_1751 rfl rfl ?_
                                                        obtain ⟨v489, e490, hs196⟩ := am_bind hs1
                                                        clear hs1
                                                        refine aw_pX (j := 0) (pc1 := 1753) at_0_1752 rfl rfl e490 rfl ?_
                                                        refine aw_vload_n (pc1 := 1754) at_0_1753 l0 rfl rfl ?_
                                                        refine aw_iload (pc1 := 1756) at_0_1754 l4 rfl ?_
                                                        refine aw_iconst (v := 2) (pc1 := 1757) at_0_1756 (by decide) rfl ?_
                                                        refine aw_iadd (v := (x4 + 2)) (pc1 := 1758) at_0_1757 rfl rfl ?_
                                                        obtain ⟨v491, e492, hs197⟩ := am_bind hs196
                                                        clear hs196
                                                        refine aw_pX (j := 0) (pc1 := 1759) at_0_1758 rfl rfl e492 rfl ?_
                                                        by_cases c493 : v491 = 0
                                                        · rw [if_pos c493] at hs197
                                                          refine aw_ifeq_t at_0_1759 c493 ?_
                                                          refine aw_iconst (v := 0) (pc1 := 1767) at_0_1766 (by decide) rfl ?_
                                                          exact rg_0_1767 (fun z0 z1 z2 z3 h o hs197 => ih z0 z1 z2 z3 h o hs197) x1 x2 x3 x4 x1 v489 0 h o l0 l1 l2 l3 l4 i1 i2 i3 i1 hs197
                                                        · rw [if_neg c493] at hs197
                                                          refine aw_ifeq_f (pc1 := 1762) at_0_1759 c493 rfl ?_
                                                          refine aw_iconst (v := 1) (pc1 := 1763) at_0_1762 (by decide) rfl ?_
                                                          refine aw_goto at_0_1763 ?_
                                                          exact rg_0_1767 (fun z0 z1 z2 z3 h o hs197 => ih z0 z1 z2 z3 h o hs197) x1 x2 x3 x4 x1 v489 1 h o l0 l1 l2 l3 l4 i1 i2 i3 i1 hs197
                                                      · rw [if_neg c488] at hs1
                                                        by_cases c494 : (v2 &&& 63) = 25
                                                        · rw [if_pos c494] at hs1
                                                          refine aw_tsw (t := 1830) at_0_40 (by rw [c494]; rfl) ?_
                                                          refine aw_vload_n (pc1 := 1831) at_0_1830 l1 i1 rfl ?_
                                                          refine aw_vload_n (pc1 := 1832) at_0_1831 l0 rfl rfl ?_
                                                          refine aw_iload (pc1 := 1834) at_0_1832 l4 rfl ?_
                                                          refine aw_iconst (v := 1) (pc1 := 1835) at_0_1834 (by decide) rfl ?_
                                                          refine aw_iadd (v := (x4 + 1)) (pc1 := 1836) at_0_1835 rfl rfl ?_
                                                          obtain ⟨v495, e496, hs198⟩ := am_bind hs1
                                                          clear hs1
                                                          refine aw_pX (j := 0) (pc1 := 1837) at_0_1836 rfl rfl e496 rfl ?_
                                                          refine aw_vload_n (pc1 := 1838) at_0_1837 l0 rfl rfl ?_
                                                          refine aw_iload (pc1 := 1840) at_0_1838 l4 rfl ?_
                                                          refine aw_iconst (v := 2) (pc1 := 1841) at_0_1840 (by decide) rfl ?_
                                                          refine aw_iadd (v := (x4 + 2)) (pc1 := 1842) at_0_1841 rfl rfl ?_
                                                          obtain ⟨v497, e498, hs199⟩ := am_bind hs198
                                                          clear hs198
                                                          refine aw_pX (j := 0) (pc1 := 1843) at_0_1842 rfl rfl e498 rfl ?_
                                                          refine aw_vload_n (pc1 := 1844) at_0_1843 l3 i3 rfl ?_
                                                          refine aw_call (F := fm_149 N x1 v495 v497 x3 h) (t := false) (na := 4) (kd := 0) (as := [x1, (.int v495), (.int v497), x3]) at_0_1844 (am_k3s kb_149) mn_149 mk_149 rfl rfl (am_ok_s mi_149 (am_hl rfl (am_ccR i1 (am_ccI (am_ccI (am_ccR i3 am_cats_0)))) rfl)) (am_hc am_cats_0 rfl) (fun hz9 => by cases hz9) (fun o1 hz9 => rm_149 x1 v495 v497 x3 h o1 i1 i3 hz9) ?_
                                                          rcases am_cI_s hs199 with ⟨v499, h500, f501, hs200⟩ | hs200
                                                          · clear hs199
                                                            refine Or.inl ⟨_, _, f501, ?_⟩
                                                            show am_W X _ 0 1847 _ [(.int v499)] h500 _
                                                            refine aw_istore (lv1 := am_put1 _ 5 _) (pc1 := 1849) at_0_1847 rfl rfl ?_
                                                            refine aw_vload_n (pc1 := 1850) at_0_1849 (am_lk1 l2 rfl rfl) i2 rfl ?_
                                                            refine aw_vload_n (pc1 := 1851) at_0_1850 (am_lk1 l0 rfl rfl) rfl rfl ?_
                                                            refine aw_iload (pc1 := 1853) at_0_1851 (am_lk1 l4 rfl rfl) rfl ?_
                                                            refine aw_iconst (v := 1) (pc1 := 1854) at_0_1853 (by decide) rfl ?_
                                                            refine aw_iadd (v := (x4 + 1)) (pc1 := 1855) at_0_1854 rfl rfl ?_
                                                            obtain ⟨v502, e503, hs201⟩ := am_bind hs200
                                                            clear hs200
                                                            refine aw_pX (j := 0) (pc1 := 1856) at_0_1855 rfl rfl e503 rfl ?_
                                                            refine aw_vload_n (pc1 := 1857) at_0_1856 (am_lk1 l0 rfl rfl) rfl rfl ?_
                                                            refine aw_iload (pc1 := 1859) at_0_1857 (am_lk1 l4 rfl rfl) rfl ?_
                                                            refine aw_iconst (v := 2) (pc1 := 1860) at_0_1859 (by decide) rfl ?_
                                                            refine aw_iadd (v := (x4 + 2)) (pc1 := 1861) at_0_1860 rfl rfl ?_
                                                            obtain ⟨v504, e505, hs202⟩ := am_bind hs201
                                                            clear hs201
                                                            refine aw_pX (j := 0) (pc1 := 1862) at_0_1861 rfl rfl e505 rfl ?_
                                                            obtain ⟨z506, hs203⟩ := am_ift hs202
                                                            clear hs202
                                                            refine aw_call (F := fm_434 N x2 v502 v504 h500) (t := true) (na := 3) (kd := 1) (as := [x2, (.int v502), (.int v504)]) at_0_1862 (am_k3v kb_434) mn_434 mk_434 rfl rfl (am_ok_v mi_434 (am_hl rfl (am_ccR i2 (am_ccI (am_ccI am_cats_0))) rfl) z506) (am_hc am_cats_0 rfl) (fun _ => ⟨rfl, hh_0⟩) (fun o1 hz9 => rm_434 x2 v502 v504 h500 o1 i2 hz9) ?_
                                                            rcases am_cI_s hs203 with ⟨v507, h508, f509, hs204⟩ | hs204
                                                            · clear hs203
                                                              refine Or.inl ⟨_, _, f509, ?_⟩
                                                              show am_W X _ 0 1865 _ [(.int v507)] h508 _
                                                              refine aw_istore (lv1 := am_put1 _ 6 _) (pc1 := 1867) at_0_1865 rfl rfl ?_
                                                              refine aw_vload_n (pc1 := 1868) at_0_1867 (am_lk1 (am_lk1 l2 rfl rfl) rfl rfl) i2 rfl ?_
                                                              obtain ⟨z510, hs205⟩ := am_ift hs204
                                                              clear hs204
                                                              refine aw_call (F := fm_324 x2 h508) (t := true) (na := 1) (kd := 1) (as := [x2]) at_0_1868 (am_k3v kb_324) mn_324 mk_324 rfl rfl (am_ok_v mi_324 (am_hl rfl (am_ccR i2 am_cats_0) rfl) z510) (am_hc am_cats_0 rfl) (fun _ => ⟨rfl, hh_0⟩) (fun o1 hz9 => rm_324 x2 h508 o1 i2 hz9) ?_
                                                              rcases am_cI_s hs205 with ⟨v511, h512, f513, hs206⟩ | hs206
                                                              · clear hs205
                                                                refine Or.inl ⟨_, _, f513, ?_⟩
                                                                show am_W X _ 0 1871 _ [(.int v511)] h512 _
                                                                refine aw_iload (pc1 := 1873) at_0_1871 (am_lk1 am_lk0 rfl rfl) rfl ?_
                                                                by_cases c514 : v511 = v499
                                                                · rw [if_pos c514] at hs206
                                                                  refine aw_iceq_t at_0_1873 c514 ?_
                                                                  refine aw_iload (pc1 := 1880) at_0_1878 (am_lk1 am_lk0 rfl rfl) rfl ?_
                                                                  by_cases c515 : ¬ v499 = 0
                                                                  · rw [if_pos c515] at hs206
                                                                    refine aw_ifne_t at_0_1880 c515 ?_
                                                                    exact rg_0_1895 (fun z0 z1 z2 z3 h o hs206 => ih z0 z1 z2 z3 h o hs206) x1 x2 x3 x4 h512 o (am_lk1 (am_lk1 l0 rfl rfl) rfl rfl) (am_lk1 (am_lk1 l1 rfl rfl) rfl rfl) (am_lk1 (am_lk1 l2 rfl rfl) rfl rfl) (am_lk1 (am_lk1 l3 rfl rfl) rfl rfl) (am_lk1 (am_lk1 l4 rfl rfl) rfl rfl) i1 i2 i3 hs206
                                                                  · rw [if_neg c515] at hs206
                                                                    refine aw_ifne_f (pc1 := 1883) at_0_1880 c515 rfl ?_
                                                                    refine aw_vload_n (pc1 := 1884) at_0_1883 (am_lk1 (am_lk1 l3 rfl rfl) rfl rfl) i3 rfl ?_
                                                                    refine aw_iconst (v := 0) (pc1 := 1885) at_0_1884 (by decide) rfl ?_
                                                                    obtain ⟨v516, e517, hs207⟩ := am_bind hs206
                                                                    clear hs206
                                                                    refine aw_pAL (pc1 := 1886) at_0_1885 e517 rfl ?_
                                                                    refine aw_iload (pc1 := 1888) at_0_1886 am_lk0 rfl ?_
                                                                    refine aw_i2l (v := (Int32.toInt64 v507)) (pc1 := 1889) at_0_1888 rfl rfl ?_
                                                                    refine aw_lcmp (v := (lg_cmp v516 (Int32.toInt64 v507))) (pc1 := 1890) at_0_1889 rfl rfl ?_
                                                                    by_cases c518 : (lg_cmp v516 (Int32.toInt64 v507)) = 0
                                                                    · rw [if_pos c518] at hs207
                                                                      refine aw_ifeq_t at_0_1890 c518 ?_
                                                                      exact rg_0_1895 (fun z0 z1 z2 z3 h o hs207 => ih z0 z1 z2 z3 h o hs207) x1 x2 x3 x4 h512 o (am_lk1 (am_lk1 l0 rfl rfl) rfl rfl) (am_lk1 (am_lk1 l1 rfl rfl) rfl rfl) (am_lk1 (am_lk1 l2 rfl rfl) rfl rfl) (am_lk1 (am_lk1 l3 rfl rfl) rfl rfl) (am_lk1 (am_lk1 l4 rfl rfl) rfl rfl) i1 i2 i3 hs207
                                                                    · rw [if_neg c518] at hs207
                                                                      refine aw_ifeq_f (pc1 := 1893) at_0_1890 c518 rfl ?_
                                                                      refine aw_iconst (v := 0) (pc1 := 1894) at_0_1893 (by decide) rfl ?_
                                                                      cases hs207
                                                                      exact aw_iret at_0_1894 (by rw [rt_0]; decide) rfl
                                                                · rw [if_neg c514] at hs206
                                                                  refine aw_iceq_f (pc1 := 1876) at_0_1873 c514 rfl ?_
                                                                  refine aw_iconst (v := 0) (pc1 := 1877) at_0_1876 (by decide) rfl ?_
                                                                  cases hs206
                                                                  exact aw_iret at_0_1877 (by rw [rt_0]; decide) rfl
                                                              · clear hs205
                                                                exact Or.inr hs206
                                                            · clear hs203
                                                              exact Or.inr hs204
                                                          · clear hs199
                                                            exact Or.inr hs200
                                                        · rw [if_neg c494] at hs1
                                                          by_cases c519 : (v2 &&& 63) = 26
                                                          · rw [if_pos c519] at hs1
                                                            refine aw_tsw (t := 1898) at_0_40 (by rw [c519]; rfl) ?_
                                                            refine aw_vload_n (pc1 := 1899) at_0_1898 l1 i1 rfl ?_
                                                            refine aw_vload_n (pc1 := 1900) at_0_1899 l0 rfl rfl ?_
                                                            refine aw_iload (pc1 := 1902) at_0_1900 l4 rfl ?_
                                                            refine aw_iconst (v := 1) (pc1 := 1903) at_0_1902 (by decide) rfl ?_
                                                            refine aw_iadd (v := (x4 + 1)) (pc1 := 1904) at_0_1903 rfl rfl ?_
                                                            obtain ⟨v520, e521, hs208⟩ := am_bind hs1
                                                            clear hs1
                                                            refine aw_pX (j := 0) (pc1 := 1905) at_0_1904 rfl rfl e521 rfl ?_
                                                            refine aw_vload_n (pc1 := 1906) at_0_1905 l0 rfl rfl ?_
                                                            refine aw_iload (pc1 := 1908) at_0_1906 l4 rfl ?_
                                                            refine aw_iconst (v := 2) (pc1 := 1909) at_0_1908 (by decide) rfl ?_
                                                            refine aw_iadd (v := (x4 + 2)) (pc1 := 1910) at_0_1909 rfl rfl ?_
                                                            obtain ⟨v522, e523, hs209⟩ := am_bind hs208
                                                            clear hs208
                                                            refine aw_pX (j := 0) (pc1 := 1911) at_0_1910 rfl rfl e523 rfl ?_
                                                            refine aw_vload_n (pc1 := 1912) at_0_1911 l3 i3 rfl ?_
                                                            refine aw_call (F := fm_153 X x1 v520 v522 x3 h) (t := false) (na := 4) (kd := 0) (as := [x1, (.int v520), (.int v522), x3]) at_0_1912 (am_k3s kb_153) mn_153 mk_153 rfl rfl (am_ok_s mi_153 (am_hl rfl (am_ccR i1 (am_ccI (am_ccI (am_ccR i3 am_cats_0)))) rfl)) (am_hc am_cats_0 rfl) (fun hz9 => by cases hz9) (fun o1 hz9 => rm_153 x1 v520 v522 x3 h o1 i1 i3 hz9) ?_
                                                            rcases am_cI_s hs209 with ⟨v524, h525, f526, hs210⟩ | hs210
                                                            · clear hs209
                                                              refine Or.inl ⟨_, _, f526, ?_⟩
                                                              show am_W X _ 0 1915 _ [(.int v524)] h525 _
                                                              refine aw_istore (lv1 := am_put1 _ 5 _) (pc1 := 1917) at_0_1915 rfl rfl ?_
                                                              refine aw_vload_n (pc1 := 1918) at_0_1917 (am_lk1 l2 rfl rfl) i2 rfl ?_
                                                              refine aw_vload_n (pc1 := 1919) at_0_1918 (am_lk1 l0 rfl rfl) rfl rfl ?_
                                                              refine aw_iload (pc1 := 1921) at_0_1919 (am_lk1 l4 rfl rfl) rfl ?_
                                                              refine aw_iconst (v := 1) (pc1 := 1922) at_0_1921 (by decide) rfl ?_
                                                              refine aw_iadd (v := (x4 + 1)) (pc1 := 1923) at_0_1922 rfl rfl ?_
                                                              obtain ⟨v527, e528, hs211⟩ := am_bind hs210
                                                              clear hs210
                                                              refine aw_pX (j := 0) (pc1 := 1924) at_0_1923 rfl rfl e528 rfl ?_
                                                              refine aw_vload_n (pc1 := 1925) at_0_1924 (am_lk1 l0 rfl rfl) rfl rfl ?_
                                                              refine aw_iload (pc1 := 1927) at_0_1925 (am_lk1 l4 rfl rfl) rfl ?_
                                                              refine aw_iconst (v := 2) (pc1 := 1928) at_0_1927 (by decide) rfl ?_
                                                              refine aw_iadd (v := (x4 + 2)) (pc1 := 1929) at_0_1928 rfl rfl ?_
                                                              obtain ⟨v529, e530, hs212⟩ := am_bind hs211
                                                              clear hs211
                                                              refine aw_pX (j := 0) (pc1 := 1930) at_0_1929 rfl rfl e530 rfl ?_
                                                              obtain ⟨z531, hs213⟩ := am_ift hs212
                                                              clear hs212
                                                              refine aw_call (F := fm_436 x2 v527 v529 h525) (t := true) (na := 3) (kd := 1) (as := [x2, (.int v527), (.int v529)]) at_0_1930 (am_k3v kb_436) mn_436 mk_436 rfl rfl (am_ok_v mi_436 (am_hl rfl (am_ccR i2 (am_ccI (am_ccI am_cats_0))) rfl) z531) (am_hc am_cats_0 rfl) (fun _ => ⟨rfl, hh_0⟩) (fun o1 hz9 => rm_436 x2 v527 v529 h525 o1 i2 hz9) ?_
                                                              rcases am_cI_s hs213 with ⟨v532, h533, f534, hs214⟩ | hs214
                                                              · clear hs213
                                                                refine Or.inl ⟨_, _, f534, ?_⟩
                                                                show am_W X _ 0 1933 _ [(.int v532)] h533 _
                                                                refine aw_istore (lv1 := am_put1 _ 6 _) (pc1 := 1935) at_0_1933 rfl rfl ?_
                                                                refine aw_vload_n (pc1 := 1936) at_0_1935 (am_lk1 (am_lk1 l2 rfl rfl) rfl rfl) i2 rfl ?_
                                                                obtain ⟨z535, hs215⟩ := am_ift hs214
                                                                clear hs214
                                                                refine aw_call (F := fm_324 x2 h533) (t := true) (na := 1) (kd := 1) (as := [x2]) at_0_1936 (am_k3v kb_324) mn_324 mk_324 rfl rfl (am_ok_v mi_324 (am_hl rfl (am_ccR i2 am_cats_0) rfl) z535) (am_hc am_cats_0 rfl) (fun _ => ⟨rfl, hh_0⟩) (fun o1 hz9 => rm_324 x2 h533 o1 i2 hz9) ?_
                                                                rcases am_cI_s hs215 with ⟨v536, h537, f538, hs216⟩ | hs216
                                                                · clear hs215
                                                                  refine Or.inl ⟨_, _, f538, ?_⟩
                                                                  show am_W X _ 0 1939 _ [(.int v536)] h537 _
                                                                  refine aw_iload (pc1 := 1941) at_0_1939 (am_lk1 am_lk0 rfl rfl) rfl ?_
                                                                  by_cases c539 : v536 = v524
                                                                  · rw [if_pos c539] at hs216
                                                                    refine aw_iceq_t at_0_1941 c539 ?_
                                                                    refine aw_iload (pc1 := 1948) at_0_1946 (am_lk1 am_lk0 rfl rfl) rfl ?_
                                                                    by_cases c540 : ¬ v524 = 0
                                                                    · rw [if_pos c540] at hs216
                                                                      refine aw_ifne_t at_0_1948 c540 ?_
                                                                      exact rg_0_1963 (fun z0 z1 z2 z3 h o hs216 => ih z0 z1 z2 z3 h o hs216) x1 x2 x3 x4 h537 o (am_lk1 (am_lk1 l0 rfl rfl) rfl rfl) (am_lk1 (am_lk1 l1 rfl rfl) rfl rfl) (am_lk1 (am_lk1 l2 rfl rfl) rfl rfl) (am_lk1 (am_lk1 l3 rfl rfl) rfl rfl) (am_lk1 (am_lk1 l4 rfl rfl) rfl rfl) i1 i2 i3 hs216
                                                                    · rw [if_neg c540] at hs216
                                                                      refine aw_ifne_f (pc1 := 1951) at_0_1948 c540 rfl ?_
                                                                      refine aw_vload_n (pc1 := 1952) at_0_1951 (am_lk1 (am_lk1 l3 rfl rfl) rfl rfl) i3 rfl ?_
                                                                      refine aw_iconst (v := 0) (pc1 := 1953) at_0_1952 (by decide) rfl ?_
                                                                      obtain ⟨v541, e542, hs217⟩ := am_bind hs216
                                                                      clear hs216
                                                                      refine aw_pAL (pc1 := 1954) at_0_1953 e542 rfl ?_
                                                                      refine aw_iload (pc1 := 1956) at_0_1954 am_lk0 rfl ?_
                                                                      refine aw_i2l (v := (Int32.toInt64 v532)) (pc1 := 1957) at_0_1956 rfl rfl ?_
                                                                      refine aw_lcmp (v := (lg_cmp v541 (Int32.toInt64 v532))) (pc1 := 1958) at_0_1957 rfl rfl ?_
                                                                      by_cases c543 : (lg_cmp v541 (Int32.toInt64 v532)) = 0
                                                                      · rw [if_pos c543] at hs217
                                                                        refine aw_ifeq_t at_0_1958 c543 ?_
                                                                        exact rg_0_1963 (fun z0 z1 z2 z3 h o hs217 => ih z0 z1 z2 z3 h o hs217) x1 x2 x3 x4 h537 o (am_lk1 (am_lk1 l0 rfl rfl) rfl rfl) (am_lk1 (am_lk1 l1 rfl rfl) rfl rfl) (am_lk1 (am_lk1 l2 rfl rfl) rfl rfl) (am_lk1 (am_lk1 l3 rfl rfl) rfl rfl) (am_lk1 (am_lk1 l4 rfl rfl) rfl rfl) i1 i2 i3 hs217
                                                                      · rw [if_neg c543] at hs217
                                                                        refine aw_ifeq_f (pc1 := 1961) at_0_1958 c543 rfl ?_
                                                                        refine aw_iconst (v := 0) (pc1 := 1962) at_0_1961 (by decide) rfl ?_
                                                                        cases hs217
                                                                        exact aw_iret at_0_1962 (by rw [rt_0]; decide) rfl
                                                                  · rw [if_neg c539] at hs216
                                                                    refine aw_iceq_f (pc1 := 1944) at_0_1941 c539 rfl ?_
                                                                    refine aw_iconst (v := 0) (pc1 := 1945) at_0_1944 (by decide) rfl ?_
                                                                    cases hs216
                                                                    exact aw_iret at_0_1945 (by rw [rt_0]; decide) rfl
                                                                · clear hs215
                                                                  exact Or.inr hs216
                                                              · clear hs213
                                                                exact Or.inr hs214
                                                            · clear hs209
                                                              exact Or.inr hs210
                                                          · rw [if_neg c519] at hs1
                                                            by_cases c544 : (v2 &&& 63) = 27
                                                            · rw [if_pos c544] at hs1
                                                              refine aw_tsw (t := 1966) at_0_40 (by rw [c544]; rfl) ?_
                                                              refine aw_vload_n (pc1 := 1967) at_0_1966 l1 i1 rfl ?_
                                                              refine aw_vload_n (pc1 := 1968) at_0_1967 l0 rfl rfl ?_
                                                              refine aw_iload (pc1 := 1970) at_0_1968 l4 rfl ?_
                                                              refine aw_iconst (v := 1) (pc1 := 1971) at_0_1970 (by decide) rfl ?_
                                                              refine aw_iadd (v := (x4 + 1)) (pc1 := 1972) at_0_1971 rfl rfl ?_
                                                              obtain ⟨v545, e546, hs218⟩ := am_bind hs1
                                                              clear hs1
                                                              refine aw_pX (j := 0) (pc1 := 1973) at_0_1972 rfl rfl e546 rfl ?_
                                                              refine aw_vload_n (pc1 := 1974) at_0_1973 l0 rfl rfl ?_
                                                              refine aw_iload (pc1 := 1976) at_0_1974 l4 rfl ?_
                                                              refine aw_iconst (v := 2) (pc1 := 1977) at_0_1976 (by decide) rfl ?_
                                                              refine aw_iadd (v := (x4 + 2)) (pc1 := 1978) at_0_1977 rfl rfl ?_
                                                              obtain ⟨v547, e548, hs219⟩ := am_bind hs218
                                                              clear hs218
                                                              refine aw_pX (j := 0) (pc1 := 1979) at_0_1978 rfl rfl e548 rfl ?_
                                                              refine aw_vload_n (pc1 := 1980) at_0_1979 l3 i3 rfl ?_
                                                              refine aw_call (F := fm_156 N x1 v545 v547 x3 h) (t := false) (na := 4) (kd := 0) (as := [x1, (.int v545), (.int v547), x3]) at_0_1980 (am_k3s kb_156) mn_156 mk_156 rfl rfl (am_ok_s mi_156 (am_hl rfl (am_ccR i1 (am_ccI (am_ccI (am_ccR i3 am_cats_0)))) rfl)) (am_hc am_cats_0 rfl) (fun hz9 => by cases hz9) (fun o1 hz9 => rm_156 x1 v545 v547 x3 h o1 i1 i3 hz9) ?_
                                                              rcases am_cI_s hs219 with ⟨v549, h550, f551, hs220⟩ | hs220
                                                              · clear hs219
                                                                refine Or.inl ⟨_, _, f551, ?_⟩
                                                                show am_W X _ 0 1983 _ [(.int v549)] h550 _
                                                                refine aw_istore (lv1 := am_put1 _ 5 _) (pc1 := 1985) at_0_1983 rfl rfl ?_
                                                                refine aw_vload_n (pc1 := 1986) at_0_1985 (am_lk1 l2 rfl rfl) i2 rfl ?_
                                                                refine aw_vload_n (pc1 := 1987) at_0_1986 (am_lk1 l0 rfl rfl) rfl rfl ?_
                                                                refine aw_iload (pc1 := 1989) at_0_1987 (am_lk1 l4 rfl rfl) rfl ?_
                                                                refine aw_iconst (v := 1) (pc1 := 1990) at_0_1989 (by decide) rfl ?_
                                                                refine aw_iadd (v := (x4 + 1)) (pc1 := 1991) at_0_1990 rfl rfl ?_
                                                                obtain ⟨v552, e553, hs221⟩ := am_bind hs220
                                                                clear hs220
                                                                refine aw_pX (j := 0) (pc1 := 1992) at_0_1991 rfl rfl e553 rfl ?_
                                                                refine aw_vload_n (pc1 := 1993) at_0_1992 (am_lk1 l0 rfl rfl) rfl rfl ?_
                                                                refine aw_iload (pc1 := 1995) at_0_1993 (am_lk1 l4 rfl rfl) rfl ?_
                                                                refine aw_iconst (v := 2) (pc1 := 1996) at_0_1995 (by decide) rfl ?_
                                                                refine aw_iadd (v := (x4 + 2)) (pc1 := 1997) at_0_1996 rfl rfl ?_
                                                                obtain ⟨v554, e555, hs222⟩ := am_bind hs221
                                                                clear hs221
                                                                refine aw_pX (j := 0) (pc1 := 1998) at_0_1997 rfl rfl e555 rfl ?_
                                                                obtain ⟨z556, hs223⟩ := am_ift hs222
                                                                clear hs222
                                                                refine aw_call (F := fm_438 N x2 v552 v554 h550) (t := true) (na := 3) (kd := 1) (as := [x2, (.int v552), (.int v554)]) at_0_1998 (am_k3v kb_438) mn_438 mk_438 rfl rfl (am_ok_v mi_438 (am_hl rfl (am_ccR i2 (am_ccI (am_ccI am_cats_0))) rfl) z556) (am_hc am_cats_0 rfl) (fun _ => ⟨rfl, hh_0⟩) (fun o1 hz9 => rm_438 x2 v552 v554 h550 o1 i2 hz9) ?_
                                                                rcases am_cI_s hs223 with ⟨v557, h558, f559, hs224⟩ | hs224
                                                                · clear hs223
                                                                  refine Or.inl ⟨_, _, f559, ?_⟩
                                                                  show am_W X _ 0 2001 _ [(.int v557)] h558 _
                                                                  refine aw_istore (lv1 := am_put1 _ 6 _) (pc1 := 2003) at_0_2001 rfl rfl ?_
                                                                  refine aw_vload_n (pc1 := 2004) at_0_2003 (am_lk1 (am_lk1 l2 rfl rfl) rfl rfl) i2 rfl ?_
                                                                  obtain ⟨z560, hs225⟩ := am_ift hs224
                                                                  clear hs224
                                                                  refine aw_call (F := fm_324 x2 h558) (t := true) (na := 1) (kd := 1) (as := [x2]) at_0_2004 (am_k3v kb_324) mn_324 mk_324 rfl rfl (am_ok_v mi_324 (am_hl rfl (am_ccR i2 am_cats_0) rfl) z560) (am_hc am_cats_0 rfl) (fun _ => ⟨rfl, hh_0⟩) (fun o1 hz9 => rm_324 x2 h558 o1 i2 hz9) ?_
                                                                  rcases am_cI_s hs225 with ⟨v561, h562, f563, hs226⟩ | hs226
                                                                  · clear hs225
                                                                    refine Or.inl ⟨_, _, f563, ?_⟩
                                                                    show am_W X _ 0 2007 _ [(.int v561)] h562 _
                                                                    refine aw_iload (pc1 := 2009) at_0_2007 (am_lk1 am_lk0 rfl rfl) rfl ?_
                                                                    by_cases c564 : v561 = v549
                                                                    · rw [if_pos c564] at hs226
                                                                      refine aw_iceq_t at_0_2009 c564 ?_
                                                                      refine aw_iload (pc1 := 2016) at_0_2014 (am_lk1 am_lk0 rfl rfl) rfl ?_
                                                                      by_cases c565 : ¬ v549 = 0
                                                                      · rw [if_pos c565] at hs226
                                                                        refine aw_ifne_t at_0_2016 c565 ?_
                                                                        exact rg_0_2031 (fun z0 z1 z2 z3 h o hs226 => ih z0 z1 z2 z3 h o hs226) x1 x2 x3 x4 h562 o (am_lk1 (am_lk1 l0 rfl rfl) rfl rfl) (am_lk1 (am_lk1 l1 rfl rfl) rfl rfl) (am_lk1 (am_lk1 l2 rfl rfl) rfl rfl) (am_lk1 (am_lk1 l3 rfl rfl) rfl rfl) (am_lk1 (am_lk1 l4 rfl rfl) rfl rfl) i1 i2 i3 hs226
                                                                      · rw [if_neg c565] at hs226
                                                                        refine aw_ifne_f (pc1 := 2019) at_0_2016 c565 rfl ?_
                                                                        refine aw_vload_n (pc1 := 2020) at_0_2019 (am_lk1 (am_lk1 l3 rfl rfl) rfl rfl) i3 rfl ?_
                                                                        refine aw_iconst (v := 0) (pc1 := 2021) at_0_2020 (by decide) rfl ?_
                                                                        obtain ⟨v566, e567, hs227⟩ := am_bind hs226
                                                                        clear hs226
                                                                        refine aw_pAL (pc1 := 2022) at_0_2021 e567 rfl ?_
                                                                        refine aw_iload (pc1 := 2024) at_0_2022 am_lk0 rfl ?_
                                                                        refine aw_i2l (v := (Int32.toInt64 v557)) (pc1 := 2025) at_0_2024 rfl rfl ?_
                                                                        refine aw_lcmp (v := (lg_cmp v566 (Int32.toInt64 v557))) (pc1 := 2026) at_0_2025 rfl rfl ?_
                                                                        by_cases c568 : (lg_cmp v566 (Int32.toInt64 v557)) = 0
                                                                        · rw [if_pos c568] at hs227
                                                                          refine aw_ifeq_t at_0_2026 c568 ?_
                                                                          exact rg_0_2031 (fun z0 z1 z2 z3 h o hs227 => ih z0 z1 z2 z3 h o hs227) x1 x2 x3 x4 h562 o (am_lk1 (am_lk1 l0 rfl rfl) rfl rfl) (am_lk1 (am_lk1 l1 rfl rfl) rfl rfl) (am_lk1 (am_lk1 l2 rfl rfl) rfl rfl) (am_lk1 (am_lk1 l3 rfl rfl) rfl rfl) (am_lk1 (am_lk1 l4 rfl rfl) rfl rfl) i1 i2 i3 hs227
                                                                        · rw [if_neg c568] at hs227
                                                                          refine aw_ifeq_f (pc1 := 2029) at_0_2026 c568 rfl ?_
                                                                          refine aw_iconst (v := 0) (pc1 := 2030) at_0_2029 (by decide) rfl ?_
                                                                          cases hs227
                                                                          exact aw_iret at_0_2030 (by rw [rt_0]; decide) rfl
                                                                    · rw [if_neg c564] at hs226
                                                                      refine aw_iceq_f (pc1 := 2012) at_0_2009 c564 rfl ?_
                                                                      refine aw_iconst (v := 0) (pc1 := 2013) at_0_2012 (by decide) rfl ?_
                                                                      cases hs226
                                                                      exact aw_iret at_0_2013 (by rw [rt_0]; decide) rfl
                                                                  · clear hs225
                                                                    exact Or.inr hs226
                                                                · clear hs223
                                                                  exact Or.inr hs224
                                                              · clear hs219
                                                                exact Or.inr hs220
                                                            · rw [if_neg c544] at hs1
                                                              by_cases c569 : (v2 &&& 63) = 28
                                                              · rw [if_pos c569] at hs1
                                                                refine aw_tsw (t := 2034) at_0_40 (by rw [c569]; rfl) ?_
                                                                refine aw_vload_n (pc1 := 2035) at_0_2034 l1 i1 rfl ?_
                                                                refine aw_vload_n (pc1 := 2036) at_0_2035 l0 rfl rfl ?_
                                                                refine aw_iload (pc1 := 2038) at_0_2036 l4 rfl ?_
                                                                refine aw_iconst (v := 1) (pc1 := 2039) at_0_2038 (by decide) rfl ?_
                                                                refine aw_iadd (v := (x4 + 1)) (pc1 := 2040) at_0_2039 rfl rfl ?_
                                                                obtain ⟨v570, e571, hs228⟩ := am_bind hs1
                                                                clear hs1
                                                                refine aw_pX (j := 0) (pc1 := 2041) at_0_2040 rfl rfl e571 rfl ?_
                                                                refine aw_vload_n (pc1 := 2042) at_0_2041 l0 rfl rfl ?_
                                                                refine aw_iload (pc1 := 2044) at_0_2042 l4 rfl ?_
                                                                refine aw_iconst (v := 2) (pc1 := 2045) at_0_2044 (by decide) rfl ?_
                                                                refine aw_iadd (v := (x4 + 2)) (pc1 := 2046) at_0_2045 rfl rfl ?_
                                                                obtain ⟨v572, e573, hs229⟩ := am_bind hs228
                                                                clear hs228
                                                                refine aw_pX (j := 0) (pc1 := 2047) at_0_2046 rfl rfl e573 rfl ?_
                                                                refine aw_vload_n (pc1 := 2048) at_0_2047 l0 rfl rfl ?_
                                                                refine aw_iload (pc1 := 2050) at_0_2048 l4 rfl ?_
                                                                refine aw_iconst (v := 3) (pc1 := 2051) at_0_2050 (by decide) rfl ?_
                                                                refine aw_iadd (v := (x4 + 3)) (pc1 := 2052) at_0_2051 rfl rfl ?_
                                                                obtain ⟨v574, e575, hs230⟩ := am_bind hs229
                                                                clear hs229
                                                                refine aw_pX (j := 0) (pc1 := 2053) at_0_2052 rfl rfl e575 rfl ?_
                                                                refine aw_vload_n (pc1 := 2054) at_0_2053 l3 i3 rfl ?_
                                                                refine aw_call (F := fm_185 N x1 v570 v572 v574 x3 h) (t := false) (na := 5) (kd := 0) (as := [x1, (.int v570), (.int v572), (.int v574), x3]) at_0_2054 (am_k3s kb_185) mn_185 mk_185 rfl rfl (am_ok_s mi_185 (am_hl rfl (am_ccR i1 (am_ccI (am_ccI (am_ccI (am_ccR i3 am_cats_0))))) rfl)) (am_hc am_cats_0 rfl) (fun hz9 => by cases hz9) (fun o1 hz9 => rm_185 x1 v570 v572 v574 x3 h o1 i1 i3 hz9) ?_
                                                                rcases am_cI_s hs230 with ⟨v576, h577, f578, hs231⟩ | hs231
                                                                · clear hs230
                                                                  refine Or.inl ⟨_, _, f578, ?_⟩
                                                                  show am_W X _ 0 2057 _ [(.int v576)] h577 _
                                                                  refine aw_istore (lv1 := am_put1 _ 5 _) (pc1 := 2059) at_0_2057 rfl rfl ?_
                                                                  refine aw_vload_n (pc1 := 2060) at_0_2059 (am_lk1 l2 rfl rfl) i2 rfl ?_
                                                                  refine aw_vload_n (pc1 := 2061) at_0_2060 (am_lk1 l0 rfl rfl) rfl rfl ?_
                                                                  refine aw_iload (pc1 := 2063) at_0_2061 (am_lk1 l4 rfl rfl) rfl ?_
                                                                  refine aw_iconst (v := 1) (pc1 := 2064) at_0_2063 (by decide) rfl ?_
                                                                  refine aw_iadd (v := (x4 + 1)) (pc1 := 2065) at_0_2064 rfl rfl ?_
                                                                  obtain ⟨v579, e580, hs232⟩ := am_bind hs231
                                                                  clear hs231
                                                                  refine aw_pX (j := 0) (pc1 := 2066) at_0_2065 rfl rfl e580 rfl ?_
                                                                  refine aw_vload_n (pc1 := 2067) at_0_2066 (am_lk1 l0 rfl rfl) rfl rfl ?_
                                                                  refine aw_iload (pc1 := 2069) at_0_2067 (am_lk1 l4 rfl rfl) rfl ?_
                                                                  refine aw_iconst (v := 2) (pc1 := 2070) at_0_2069 (by decide) rfl ?_
                                                                  refine aw_iadd (v := (x4 + 2)) (pc1 := 2071) at_0_2070 rfl rfl ?_
                                                                  obtain ⟨v581, e582, hs233⟩ := am_bind hs232
                                                                  clear hs232
                                                                  refine aw_pX (j := 0) (pc1 := 2072) at_0_2071 rfl rfl e582 rfl ?_
                                                                  refine aw_vload_n (pc1 := 2073) at_0_2072 (am_lk1 l0 rfl rfl) rfl rfl ?_
                                                                  refine aw_iload (pc1 := 2075) at_0_2073 (am_lk1 l4 rfl rfl) rfl ?_
                                                                  refine aw_iconst (v := 3) (pc1 := 2076) at_0_2075 (by decide) rfl ?_
                                                                  refine aw_iadd (v := (x4 + 3)) (pc1 := 2077) at_0_2076 rfl rfl ?_
                                                                  obtain ⟨v583, e584, hs234⟩ := am_bind hs233
                                                                  clear hs233
                                                                  refine aw_pX (j := 0) (pc1 := 2078) at_0_2077 rfl rfl e584 rfl ?_
                                                                  obtain ⟨z585, hs235⟩ := am_ift hs234
                                                                  clear hs234
                                                                  refine aw_call (F := fm_469 N x2 v579 v581 v583 h577) (t := true) (na := 4) (kd := 1) (as := [x2, (.int v579), (.int v581), (.int v583)]) at_0_2078 (am_k3v kb_469) mn_469 mk_469 rfl rfl (am_ok_v mi_469 (am_hl rfl (am_ccR i2 (am_ccI (am_ccI (am_ccI am_cats_0)))) rfl) z585) (am_hc am_cats_0 rfl) (fun _ => ⟨rfl, hh_0⟩) (fun o1 hz9 => rm_469 x2 v579 v581 v583 h577 o1 i2 hz9) ?_
                                                                  rcases am_cI_s hs235 with ⟨v586, h587, f588, hs236⟩ | hs236
                                                                  · clear hs235
                                                                    refine Or.inl ⟨_, _, f588, ?_⟩
                                                                    show am_W X _ 0 2081 _ [(.int v586)] h587 _
                                                                    refine aw_istore (lv1 := am_put1 _ 6 _) (pc1 := 2083) at_0_2081 rfl rfl ?_
                                                                    refine aw_vload_n (pc1 := 2084) at_0_2083 (am_lk1 (am_lk1 l2 rfl rfl) rfl rfl) i2 rfl ?_
                                                                    obtain ⟨z589, hs237⟩ := am_ift hs236
                                                                    clear hs236
                                                                    refine aw_call (F := fm_324 x2 h587) (t := true) (na := 1) (kd := 1) (as := [x2]) at_0_2084 (am_k3v kb_324) mn_324 mk_324 rfl rfl (am_ok_v mi_324 (am_hl rfl (am_ccR i2 am_cats_0) rfl) z589) (am_hc am_cats_0 rfl) (fun _ => ⟨rfl, hh_0⟩) (fun o1 hz9 => rm_324 x2 h587 o1 i2 hz9) ?_
                                                                    rcases am_cI_s hs237 with ⟨v590, h591, f592, hs238⟩ | hs238
                                                                    · clear hs237
                                                                      refine Or.inl ⟨_, _, f592, ?_⟩
                                                                      show am_W X _ 0 2087 _ [(.int v590)] h591 _
                                                                      refine aw_iload (pc1 := 2089) at_0_2087 (am_lk1 am_lk0 rfl rfl) rfl ?_
                                                                      by_cases c593 : v590 = v576
                                                                      · rw [if_pos c593] at hs238
                                                                        refine aw_iceq_t at_0_2089 c593 ?_
                                                                        refine aw_iload (pc1 := 2096) at_0_2094 (am_lk1 am_lk0 rfl rfl) rfl ?_
                                                                        by_cases c594 : ¬ v576 = 0
                                                                        · rw [if_pos c594] at hs238
                                                                          refine aw_ifne_t at_0_2096 c594 ?_
                                                                          exact rg_0_2111 (fun z0 z1 z2 z3 h o hs238 => ih z0 z1 z2 z3 h o hs238) x1 x2 x3 x4 h591 o (am_lk1 (am_lk1 l0 rfl rfl) rfl rfl) (am_lk1 (am_lk1 l1 rfl rfl) rfl rfl) (am_lk1 (am_lk1 l2 rfl rfl) rfl rfl) (am_lk1 (am_lk1 l3 rfl rfl) rfl rfl) (am_lk1 (am_lk1 l4 rfl rfl) rfl rfl) i1 i2 i3 hs238
                                                                        · rw [if_neg c594] at hs238
                                                                          refine aw_ifne_f (pc1 := 2099) at_0_2096 c594 rfl ?_
                                                                          refine aw_vload_n (pc1 := 2100) at_0_2099 (am_lk1 (am_lk1 l3 rfl rfl) rfl rfl) i3 rfl ?_
                                                                          refine aw_iconst (v := 0) (pc1 := 2101) at_0_2100 (by decide) rfl ?_
                                                                          obtain ⟨v595, e596, hs239⟩ := am_bind hs238
                                                                          clear hs238
                                                                          refine aw_pAL (pc1 := 2102) at_0_2101 e596 rfl ?_
                                                                          refine aw_iload (pc1 := 2104) at_0_2102 am_lk0 rfl ?_
                                                                          refine aw_i2l (v := (Int32.toInt64 v586)) (pc1 := 2105) at_0_2104 rfl rfl ?_
                                                                          refine aw_lcmp (v := (lg_cmp v595 (Int32.toInt64 v586))) (pc1 := 2106) at_0_2105 rfl rfl ?_
                                                                          by_cases c597 : (lg_cmp v595 (Int32.toInt64 v586)) = 0
                                                                          · rw [if_pos c597] at hs239
                                                                            refine aw_ifeq_t at_0_2106 c597 ?_
                                                                            exact rg_0_2111 (fun z0 z1 z2 z3 h o hs239 => ih z0 z1 z2 z3 h o hs239) x1 x2 x3 x4 h591 o (am_lk1 (am_lk1 l0 rfl rfl) rfl rfl) (am_lk1 (am_lk1 l1 rfl rfl) rfl rfl) (am_lk1 (am_lk1 l2 rfl rfl) rfl rfl) (am_lk1 (am_lk1 l3 rfl rfl) rfl rfl) (am_lk1 (am_lk1 l4 rfl rfl) rfl rfl) i1 i2 i3 hs239
                                                                          · rw [if_neg c597] at hs239
                                                                            refine aw_ifeq_f (pc1 := 2109) at_0_2106 c597 rfl ?_
                                                                            refine aw_iconst (v := 0) (pc1 := 2110) at_0_2109 (by decide) rfl ?_
                                                                            cases hs239
                                                                            exact aw_iret at_0_2110 (by rw [rt_0]; decide) rfl
                                                                      · rw [if_neg c593] at hs238
                                                                        refine aw_iceq_f (pc1 := 2092) at_0_2089 c593 rfl ?_
                                                                        refine aw_iconst (v := 0) (pc1 := 2093) at_0_2092 (by decide) rfl ?_
                                                                        cases hs238
                                                                        exact aw_iret at_0_2093 (by rw [rt_0]; decide) rfl
                                                                    · clear hs237
                                                                      exact Or.inr hs238
                                                                  · clear hs235
                                                                    exact Or.inr hs236
                                                                · clear hs230
                                                                  exact Or.inr hs231
                                                              · rw [if_neg c569] at hs1
                                                                by_cases c598 : (v2 &&& 63) = 29
                                                                · rw [if_pos c598] at hs1
                                                                  refine aw_tsw (t := 2114) at_0_40 (by rw [c598]; rfl) ?_
                                                                  refine aw_vload_n (pc1 := 2115) at_0_2114 l1 i1 rfl ?_
                                                                  refine aw_vload_n (pc1 := 2116) at_0_2115 l0 rfl rfl ?_
                                                                  refine aw_iload (pc1 := 2118) at_0_2116 l4 rfl ?_
                                                                  refine aw_iconst (v := 1) (pc1 := 2119) at_0_2118 (by decide) rfl ?_
                                                                  refine aw_iadd (v := (x4 + 1)) (pc1 := 2120) at_0_2119 rfl rfl ?_
                                                                  obtain ⟨v599, e600, hs240⟩ := am_bind hs1
                                                                  clear hs1
                                                                  refine aw_pX (j := 0) (pc1 := 2121) at_0_2120 rfl rfl e600 rfl ?_
                                                                  refine aw_vload_n (pc1 := 2122) at_0_2121 l0 rfl rfl ?_
                                                                  refine aw_iload (pc1 := 2124) at_0_2122 l4 rfl ?_
                                                                  refine aw_iconst (v := 2) (pc1 := 2125) at_0_2124 (by decide) rfl ?_
                                                                  refine aw_iadd (v := (x4 + 2)) (pc1 := 2126) at_0_2125 rfl rfl ?_
                                                                  obtain ⟨v601, e602, hs241⟩ := am_bind hs240
                                                                  clear hs240
                                                                  refine aw_pX (j := 0) (pc1 := 2127) at_0_2126 rfl rfl e602 rfl ?_
                                                                  refine aw_vload_n (pc1 := 2128) at_0_2127 l0 rfl rfl ?_
                                                                  refine aw_iload (pc1 := 2130) at_0_2128 l4 rfl ?_
                                                                  refine aw_iconst (v := 3) (pc1 := 2131) at_0_2130 (by decide) rfl ?_
                                                                  refine aw_iadd (v := (x4 + 3)) (pc1 := 2132) at_0_2131 rfl rfl ?_
                                                                  obtain ⟨v603, e604, hs242⟩ := am_bind hs241
                                                                  clear hs241
                                                                  refine aw_pX (j := 0) (pc1 := 2133) at_0_2132 rfl rfl e604 rfl ?_
                                                                  refine aw_i2l (v := (Int32.toInt64 v603)) (pc1 := 2134) at_0_2133 rfl rfl ?_
                                                                  refine aw_bipush (v := 32) (pc1 := 2136) at_0_2134 (by decide) rfl ?_
                                                                  refine aw_lshl (v := ((Int32.toInt64 v603) <<< (Int32.toInt64 32 &&& 63))) (pc1 := 2137) at_0_2136 rfl rfl ?_
                                                                  refine aw_vload_n (pc1 := 2138) at_0_2137 l0 rfl rfl ?_
                                                                  refine aw_iload (pc1 := 2140) at_0_2138 l4 rfl ?_
                                                                  refine aw_iconst (v := 4) (pc1 := 2141) at_0_2140 (by decide) rfl ?_
                                                                  refine aw_iadd (v := (x4 + 4)) (pc1 := 2142) at_0_2141 rfl rfl ?_
                                                                  obtain ⟨v605, e606, hs243⟩ := am_bind hs242
                                                                  clear hs242
                                                                  refine aw_pX (j := 0) (pc1 := 2143) at_0_2142 rfl rfl e606 rfl ?_
                                                                  refine aw_i2l (v := (Int32.toInt64 v605)) (pc1 := 2144) at_0_2143 rfl rfl ?_
                                                                  refine aw_ldc2 (v := 4294967295) (pc1 := 2147) at_0_2144 rfl rfl ?_
                                                                  refine aw_land (v := ((Int32.toInt64 v605) &&& 4294967295)) (pc1 := 2148) at_0_2147 rfl rfl ?_
                                                                  refine aw_lor (v := (((Int32.toInt64 v603) <<< (Int32.toInt64 32 &&& 63)) ||| ((Int32.toInt64 v605) &&& 4294967295))) (pc1 := 2149) at_0_2148 rfl rfl ?_
                                                                  refine aw_vload_n (pc1 := 2150) at_0_2149 l3 i3 rfl ?_
                                                                  refine aw_call (F := fm_188 N x1 v599 v601 ((((Int32.toInt64 v603) <<< (Int32.toInt64 32 &&& 63)) ||| ((Int32.toInt64 v605) &&& 4294967295))) x3 h) (t := false) (na := 5) (kd := 0) (as := [x1, (.int v599), (.int v601), (.long (((Int32.toInt64 v603) <<< (Int32.toInt64 32 &&& 63)) ||| ((Int32.toInt64 v605) &&& 4294967295))), x3]) at_0_2150 (am_k3s kb_188) mn_188 mk_188 rfl rfl (am_ok_s mi_188 (am_hl rfl (am_ccR i1 (am_ccI (am_ccI (am_ccL (am_ccR i3 am_cats_0))))) rfl)) (am_hc am_cats_0 rfl) (fun hz9 => by cases hz9) (fun o1 hz9 => rm_188 x1 v599 v601 ((((Int32.toInt64 v603) <<< (Int32.toInt64 32 &&& 63)) ||| ((Int32.toInt64 v605) &&& 4294967295))) x3 h o1 i1 i3 hz9) ?_
                                                                  rcases am_cI_s hs243 with ⟨v607, h608, f609, hs244⟩ | hs244
                                                                  · clear hs243
                                                                    refine Or.inl ⟨_, _, f609, ?_⟩
                                                                    show am_W X _ 0 2153 _ [(.int v607)] h608 _
                                                                    refine aw_istore (lv1 := am_put1 _ 5 _) (pc1 := 2155) at_0_2153 rfl rfl ?_
                                                                    refine aw_vload_n (pc1 := 2156) at_0_2155 (am_lk1 l2 rfl rfl) i2 rfl ?_
                                                                    refine aw_vload_n (pc1 := 2157) at_0_2156 (am_lk1 l0 rfl rfl) rfl rfl ?_
                                                                    refine aw_iload (pc1 := 2159) at_0_2157 (am_lk1 l4 rfl rfl) rfl ?_
                                                                    refine aw_iconst (v := 1) (pc1 := 2160) at_0_2159 (by decide) rfl ?_
                                                                    refine aw_iadd (v := (x4 + 1)) (pc1 := 2161) at_0_2160 rfl rfl ?_
                                                                    obtain ⟨v610, e611, hs245⟩ := am_bind hs244
                                                                    clear hs244
                                                                    refine aw_pX (j := 0) (pc1 := 2162) at_0_2161 rfl rfl e611 rfl ?_
                                                                    refine aw_vload_n (pc1 := 2163) at_0_2162 (am_lk1 l0 rfl rfl) rfl rfl ?_
                                                                    refine aw_iload (pc1 := 2165) at_0_2163 (am_lk1 l4 rfl rfl) rfl ?_
                                                                    refine aw_iconst (v := 2) (pc1 := 2166) at_0_2165 (by decide) rfl ?_
                                                                    refine aw_iadd (v := (x4 + 2)) (pc1 := 2167) at_0_2166 rfl rfl ?_
                                                                    obtain ⟨v612, e613, hs246⟩ := am_bind hs245
                                                                    clear hs245
                                                                    refine aw_pX (j := 0) (pc1 := 2168) at_0_2167 rfl rfl e613 rfl ?_
                                                                    refine aw_vload_n (pc1 := 2169) at_0_2168 (am_lk1 l0 rfl rfl) rfl rfl ?_
                                                                    refine aw_iload (pc1 := 2171) at_0_2169 (am_lk1 l4 rfl rfl) rfl ?_
                                                                    refine aw_iconst (v := 3) (pc1 := 2172) at_0_2171 (by decide) rfl ?_
                                                                    refine aw_iadd (v := (x4 + 3)) (pc1 := 2173) at_0_2172 rfl rfl ?_
                                                                    obtain ⟨v614, e615, hs247⟩ := am_bind hs246
                                                                    clear hs246
                                                                    refine aw_pX (j := 0) (pc1 := 2174) at_0_2173 rfl rfl e615 rfl ?_
                                                                    refine aw_i2l (v := (Int32.toInt64 v614)) (pc1 := 2175) at_0_2174 rfl rfl ?_
                                                                    refine aw_bipush (v := 32) (pc1 := 2177) at_0_2175 (by decide) rfl ?_
                                                                    refine aw_lshl (v := ((Int32.toInt64 v614) <<< (Int32.toInt64 32 &&& 63))) (pc1 := 2178) at_0_2177 rfl rfl ?_
                                                                    refine aw_vload_n (pc1 := 2179) at_0_2178 (am_lk1 l0 rfl rfl) rfl rfl ?_
                                                                    refine aw_iload (pc1 := 2181) at_0_2179 (am_lk1 l4 rfl rfl) rfl ?_
                                                                    refine aw_iconst (v := 4) (pc1 := 2182) at_0_2181 (by decide) rfl ?_
                                                                    refine aw_iadd (v := (x4 + 4)) (pc1 := 2183) at_0_2182 rfl rfl ?_
                                                                    obtain ⟨v616, e617, hs248⟩ := am_bind hs247
                                                                    clear hs247
                                                                    refine aw_pX (j := 0) (pc1 := 2184) at_0_2183 rfl rfl e617 rfl ?_
                                                                    refine aw_i2l (v := (Int32.toInt64 v616)) (pc1 := 2185) at_0_2184 rfl rfl ?_
                                                                    refine aw_ldc2 (v := 4294967295) (pc1 := 2188) at_0_2185 rfl rfl ?_
                                                                    refine aw_land (v := ((Int32.toInt64 v616) &&& 4294967295)) (pc1 := 2189) at_0_2188 rfl rfl ?_
                                                                    refine aw_lor (v := (((Int32.toInt64 v614) <<< (Int32.toInt64 32 &&& 63)) ||| ((Int32.toInt64 v616) &&& 4294967295))) (pc1 := 2190) at_0_2189 rfl rfl ?_
                                                                    obtain ⟨z618, hs249⟩ := am_ift hs248
                                                                    clear hs248
                                                                    refine aw_call (F := fm_470 N x2 v610 v612 ((((Int32.toInt64 v614) <<< (Int32.toInt64 32 &&& 63)) ||| ((Int32.toInt64 v616) &&& 4294967295))) h608) (t := true) (na := 4) (kd := 1) (as := [x2, (.int v610), (.int v612), (.long (((Int32.toInt64 v614) <<< (Int32.toInt64 32 &&& 63)) ||| ((Int32.toInt64 v616) &&& 4294967295)))]) at_0_2190 (am_k3v kb_470) mn_470 mk_470 rfl rfl (am_ok_v mi_470 (am_hl rfl (am_ccR i2 (am_ccI (am_ccI (am_ccL am_cats_0)))) rfl) z618) (am_hc am_cats_0 rfl) (fun _ => ⟨rfl, hh_0⟩) (fun o1 hz9 => rm_470 x2 v610 v612 ((((Int32.toInt64 v614) <<< (Int32.toInt64 32 &&& 63)) ||| ((Int32.toInt64 v616) &&& 4294967295))) h608 o1 i2 hz9) ?_
                                                                    rcases am_cI_s hs249 with ⟨v619, h620, f621, hs250⟩ | hs250
                                                                    · clear hs249
                                                                      refine Or.inl ⟨_, _, f621, ?_⟩
                                                                      show am_W X _ 0 2193 _ [(.int v619)] h620 _
                                                                      refine aw_istore (lv1 := am_put1 _ 6 _) (pc1 := 2195) at_0_2193 rfl rfl ?_
                                                                      refine aw_vload_n (pc1 := 2196) at_0_2195 (am_lk1 (am_lk1 l2 rfl rfl) rfl rfl) i2 rfl ?_
                                                                      obtain ⟨z622, hs251⟩ := am_ift hs250
                                                                      clear hs250
                                                                      refine aw_call (F := fm_324 x2 h620) (t := true) (na := 1) (kd := 1) (as := [x2]) at_0_2196 (am_k3v kb_324) mn_324 mk_324 rfl rfl (am_ok_v mi_324 (am_hl rfl (am_ccR i2 am_cats_0) rfl) z622) (am_hc am_cats_0 rfl) (fun _ => ⟨rfl, hh_0⟩) (fun o1 hz9 => rm_324 x2 h620 o1 i2 hz9) ?_
                                                                      rcases am_cI_s hs251 with ⟨v623, h624, f625, hs252⟩ | hs252
                                                                      · clear hs251
                                                                        refine Or.inl ⟨_, _, f625, ?_⟩
                                                                        show am_W X _ 0 2199 _ [(.int v623)] h624 _
                                                                        refine aw_iload (pc1 := 2201) at_0_2199 (am_lk1 am_lk0 rfl rfl) rfl ?_
                                                                        by_cases c626 : v623 = v607
                                                                        · rw [if_pos c626] at hs252
                                                                          refine aw_iceq_t at_0_2201 c626 ?_
                                                                          refine aw_iload (pc1 := 2208) at_0_2206 (am_lk1 am_lk0 rfl rfl) rfl ?_
                                                                          by_cases c627 : ¬ v607 = 0
                                                                          · rw [if_pos c627] at hs252
                                                                            refine aw_ifne_t at_0_2208 c627 ?_
                                                                            exact rg_0_2223 (fun z0 z1 z2 z3 h o hs252 => ih z0 z1 z2 z3 h o hs252) x1 x2 x3 x4 h624 o (am_lk1 (am_lk1 l0 rfl rfl) rfl rfl) (am_lk1 (am_lk1 l1 rfl rfl) rfl rfl) (am_lk1 (am_lk1 l2 rfl rfl) rfl rfl) (am_lk1 (am_lk1 l3 rfl rfl) rfl rfl) (am_lk1 (am_lk1 l4 rfl rfl) rfl rfl) i1 i2 i3 hs252
                                                                          · rw [if_neg c627] at hs252
                                                                            refine aw_ifne_f (pc1 := 2211) at_0_2208 c627 rfl ?_
                                                                            refine aw_vload_n (pc1 := 2212) at_0_2211 (am_lk1 (am_lk1 l3 rfl rfl) rfl rfl) i3 rfl ?_
                                                                            refine aw_iconst (v := 0) (pc1 := 2213) at_0_2212 (by decide) rfl ?_
                                                                            obtain ⟨v628, e629, hs253⟩ := am_bind hs252
                                                                            clear hs252
                                                                            refine aw_pAL (pc1 := 2214) at_0_2213 e629 rfl ?_
                                                                            refine aw_iload (pc1 := 2216) at_0_2214 am_lk0 rfl ?_
                                                                            refine aw_i2l (v := (Int32.toInt64 v619)) (pc1 := 2217) at_0_2216 rfl rfl ?_
                                                                            refine aw_lcmp (v := (lg_cmp v628 (Int32.toInt64 v619))) (pc1 := 2218) at_0_2217 rfl rfl ?_
                                                                            by_cases c630 : (lg_cmp v628 (Int32.toInt64 v619)) = 0
                                                                            · rw [if_pos c630] at hs253
                                                                              refine aw_ifeq_t at_0_2218 c630 ?_
                                                                              exact rg_0_2223 (fun z0 z1 z2 z3 h o hs253 => ih z0 z1 z2 z3 h o hs253) x1 x2 x3 x4 h624 o (am_lk1 (am_lk1 l0 rfl rfl) rfl rfl) (am_lk1 (am_lk1 l1 rfl rfl) rfl rfl) (am_lk1 (am_lk1 l2 rfl rfl) rfl rfl) (am_lk1 (am_lk1 l3 rfl rfl) rfl rfl) (am_lk1 (am_lk1 l4 rfl rfl) rfl rfl) i1 i2 i3 hs253
                                                                            · rw [if_neg c630] at hs253
                                                                              refine aw_ifeq_f (pc1 := 2221) at_0_2218 c630 rfl ?_
                                                                              refine aw_iconst (v := 0) (pc1 := 2222) at_0_2221 (by decide) rfl ?_
                                                                              cases hs253
                                                                              exact aw_iret at_0_2222 (by rw [rt_0]; decide) rfl
                                                                        · rw [if_neg c626] at hs252
                                                                          refine aw_iceq_f (pc1 := 2204) at_0_2201 c626 rfl ?_
                                                                          refine aw_iconst (v := 0) (pc1 := 2205) at_0_2204 (by decide) rfl ?_
                                                                          cases hs252
                                                                          exact aw_iret at_0_2205 (by rw [rt_0]; decide) rfl
                                                                      · clear hs251
                                                                        exact Or.inr hs252
                                                                    · clear hs249
                                                                      exact Or.inr hs250
                                                                  · clear hs243
                                                                    exact Or.inr hs244
                                                                · rw [if_neg c598] at hs1
                                                                  by_cases c631 : (v2 &&& 63) = 30
                                                                  · rw [if_pos c631] at hs1
                                                                    refine aw_tsw (t := 2226) at_0_40 (by rw [c631]; rfl) ?_
                                                                    refine aw_vload_n (pc1 := 2227) at_0_2226 l1 i1 rfl ?_
                                                                    refine aw_vload_n (pc1 := 2228) at_0_2227 l0 rfl rfl ?_
                                                                    refine aw_iload (pc1 := 2230) at_0_2228 l4 rfl ?_
                                                                    refine aw_iconst (v := 1) (pc1 := 2231) at_0_2230 (by decide) rfl ?_
                                                                    refine aw_iadd (v := (x4 + 1)) (pc1 := 2232) at_0_2231 rfl rfl ?_
                                                                    obtain ⟨v632, e633, hs254⟩ := am_bind hs1
                                                                    clear hs1
                                                                    refine aw_pX (j := 0) (pc1 := 2233) at_0_2232 rfl rfl e633 rfl ?_
                                                                    refine aw_vload_n (pc1 := 2234) at_0_2233 l0 rfl rfl ?_
                                                                    refine aw_iload (pc1 := 2236) at_0_2234 l4 rfl ?_
                                                                    refine aw_iconst (v := 2) (pc1 := 2237) at_0_2236 (by decide) rfl ?_
                                                                    refine aw_iadd (v := (x4 + 2)) (pc1 := 2238) at_0_2237 rfl rfl ?_
                                                                    obtain ⟨v634, e635, hs255⟩ := am_bind hs254
                                                                    clear hs254
                                                                    refine aw_pX (j := 0) (pc1 := 2239) at_0_2238 rfl rfl e635 rfl ?_
                                                                    refine aw_vload_n (pc1 := 2240) at_0_2239 l3 i3 rfl ?_
                                                                    refine aw_call (F := fm_195 N x1 v632 v634 x3 h) (t := false) (na := 4) (kd := 0) (as := [x1, (.int v632), (.int v634), x3]) at_0_2240 (am_k3s kb_195) mn_195 mk_195 rfl rfl (am_ok_s mi_195 (am_hl rfl (am_ccR i1 (am_ccI (am_ccI (am_ccR i3 am_cats_0)))) rfl)) (am_hc am_cats_0 rfl) (fun hz9 => by cases hz9) (fun o1 hz9 => rm_195 x1 v632 v634 x3 h o1 i1 i3 hz9) ?_
                                                                    rcases am_cI_s hs255 with ⟨v636, h637, f638, hs256⟩ | hs256
                                                                    · clear hs255
                                                                      refine Or.inl ⟨_, _, f638, ?_⟩
                                                                      show am_W X _ 0 2243 _ [(.int v636)] h637 _
                                                                      refine aw_istore (lv1 := am_put1 _ 5 _) (pc1 := 2245) at_0_2243 rfl rfl ?_
                                                                      refine aw_vload_n (pc1 := 2246) at_0_2245 (am_lk1 l2 rfl rfl) i2 rfl ?_
                                                                      refine aw_vload_n (pc1 := 2247) at_0_2246 (am_lk1 l0 rfl rfl) rfl rfl ?_
                                                                      refine aw_iload (pc1 := 2249) at_0_2247 (am_lk1 l4 rfl rfl) rfl ?_
                                                                      refine aw_iconst (v := 1) (pc1 := 2250) at_0_2249 (by decide) rfl ?_
                                                                      refine aw_iadd (v := (x4 + 1)) (pc1 := 2251) at_0_2250 rfl rfl ?_
                                                                      obtain ⟨v639, e640, hs257⟩ := am_bind hs256
                                                                      clear hs256
                                                                      refine aw_pX (j := 0) (pc1 := 2252) at_0_2251 rfl rfl e640 rfl ?_
                                                                      refine aw_vload_n (pc1 := 2253) at_0_2252 (am_lk1 l0 rfl rfl) rfl rfl ?_
                                                                      refine aw_iload (pc1 := 2255) at_0_2253 (am_lk1 l4 rfl rfl) rfl ?_
                                                                      refine aw_iconst (v := 2) (pc1 := 2256) at_0_2255 (by decide) rfl ?_
                                                                      refine aw_iadd (v := (x4 + 2)) (pc1 := 2257) at_0_2256 rfl rfl ?_
                                                                      obtain ⟨v641, e642, hs258⟩ := am_bind hs257
                                                                      clear hs257
                                                                      refine aw_pX (j := 0) (pc1 := 2258) at_0_2257 rfl rfl e642 rfl ?_
                                                                      obtain ⟨z643, hs259⟩ := am_ift hs258
                                                                      clear hs258
                                                                      refine aw_call (F := fm_478 N x2 v639 v641 h637) (t := true) (na := 3) (kd := 1) (as := [x2, (.int v639), (.int v641)]) at_0_2258 (am_k3v kb_478) mn_478 mk_478 rfl rfl (am_ok_v mi_478 (am_hl rfl (am_ccR i2 (am_ccI (am_ccI am_cats_0))) rfl) z643) (am_hc am_cats_0 rfl) (fun _ => ⟨rfl, hh_0⟩) (fun o1 hz9 => rm_478 x2 v639 v641 h637 o1 i2 hz9) ?_
                                                                      rcases am_cI_s hs259 with ⟨v644, h645, f646, hs260⟩ | hs260
                                                                      · clear hs259
                                                                        refine Or.inl ⟨_, _, f646, ?_⟩
                                                                        show am_W X _ 0 2261 _ [(.int v644)] h645 _
                                                                        refine aw_istore (lv1 := am_put1 _ 6 _) (pc1 := 2263) at_0_2261 rfl rfl ?_
                                                                        refine aw_vload_n (pc1 := 2264) at_0_2263 (am_lk1 (am_lk1 l2 rfl rfl) rfl rfl) i2 rfl ?_
                                                                        obtain ⟨z647, hs261⟩ := am_ift hs260
                                                                        clear hs260
                                                                        refine aw_call (F := fm_324 x2 h645) (t := true) (na := 1) (kd := 1) (as := [x2]) at_0_2264 (am_k3v kb_324) mn_324 mk_324 rfl rfl (am_ok_v mi_324 (am_hl rfl (am_ccR i2 am_cats_0) rfl) z647) (am_hc am_cats_0 rfl) (fun _ => ⟨rfl, hh_0⟩) (fun o1 hz9 => rm_324 x2 h645 o1 i2 hz9) ?_
                                                                        rcases am_cI_s hs261 with ⟨v648, h649, f650, hs262⟩ | hs262
                                                                        · clear hs261
                                                                          refine Or.inl ⟨_, _, f650, ?_⟩
                                                                          show am_W X _ 0 2267 _ [(.int v648)] h649 _
                                                                          refine aw_iload (pc1 := 2269) at_0_2267 (am_lk1 am_lk0 rfl rfl) rfl ?_
                                                                          by_cases c651 : v648 = v636
                                                                          · rw [if_pos c651] at hs262
                                                                            refine aw_iceq_t at_0_2269 c651 ?_
                                                                            refine aw_iload (pc1 := 2276) at_0_2274 (am_lk1 am_lk0 rfl rfl) rfl ?_
                                                                            by_cases c652 : ¬ v636 = 0
                                                                            · rw [if_pos c652] at hs262
                                                                              refine aw_ifne_t at_0_2276 c652 ?_
                                                                              exact rg_0_2291 (fun z0 z1 z2 z3 h o hs262 => ih z0 z1 z2 z3 h o hs262) x1 x2 x3 x4 h649 o (am_lk1 (am_lk1 l0 rfl rfl) rfl rfl) (am_lk1 (am_lk1 l1 rfl rfl) rfl rfl) (am_lk1 (am_lk1 l2 rfl rfl) rfl rfl) (am_lk1 (am_lk1 l3 rfl rfl) rfl rfl) (am_lk1 (am_lk1 l4 rfl rfl) rfl rfl) i1 i2 i3 hs262
                                                                            · rw [if_neg c652] at hs262
                                                                              refine aw_ifne_f (pc1 := 2279) at_0_2276 c652 rfl ?_
                                                                              refine aw_vload_n (pc1 := 2280) at_0_2279 (am_lk1 (am_lk1 l3 rfl rfl) rfl rfl) i3 rfl ?_
                                                                              refine aw_iconst (v := 0) (pc1 := 2281) at_0_2280 (by decide) rfl ?_
                                                                              obtain ⟨v653, e654, hs263⟩ := am_bind hs262
                                                                              clear hs262
                                                                              refine aw_pAL (pc1 := 2282) at_0_2281 e654 rfl ?_
                                                                              refine aw_iload (pc1 := 2284) at_0_2282 am_lk0 rfl ?_
                                                                              refine aw_i2l (v := (Int32.toInt64 v644)) (pc1 := 2285) at_0_2284 rfl rfl ?_
                                                                              refine aw_lcmp (v := (lg_cmp v653 (Int32.toInt64 v644))) (pc1 := 2286) at_0_2285 rfl rfl ?_
                                                                              by_cases c655 : (lg_cmp v653 (Int32.toInt64 v644)) = 0
                                                                              · rw [if_pos c655] at hs263
                                                                                refine aw_ifeq_t at_0_2286 c655 ?_
                                                                                exact rg_0_2291 (fun z0 z1 z2 z3 h o hs263 => ih z0 z1 z2 z3 h o hs263) x1 x2 x3 x4 h649 o (am_lk1 (am_lk1 l0 rfl rfl) rfl rfl) (am_lk1 (am_lk1 l1 rfl rfl) rfl rfl) (am_lk1 (am_lk1 l2 rfl rfl) rfl rfl) (am_lk1 (am_lk1 l3 rfl rfl) rfl rfl) (am_lk1 (am_lk1 l4 rfl rfl) rfl rfl) i1 i2 i3 hs263
                                                                              · rw [if_neg c655] at hs263
                                                                                refine aw_ifeq_f (pc1 := 2289) at_0_2286 c655 rfl ?_
                                                                                refine aw_iconst (v := 0) (pc1 := 2290) at_0_2289 (by decide) rfl ?_
                                                                                cases hs263
                                                                                exact aw_iret at_0_2290 (by rw [rt_0]; decide) rfl
                                                                          · rw [if_neg c651] at hs262
                                                                            refine aw_iceq_f (pc1 := 2272) at_0_2269 c651 rfl ?_
                                                                            refine aw_iconst (v := 0) (pc1 := 2273) at_0_2272 (by decide) rfl ?_
                                                                            cases hs262
                                                                            exact aw_iret at_0_2273 (by rw [rt_0]; decide) rfl
                                                                        · clear hs261
                                                                          exact Or.inr hs262
                                                                      · clear hs259
                                                                        exact Or.inr hs260
                                                                    · clear hs255
                                                                      exact Or.inr hs256
                                                                  · rw [if_neg c631] at hs1
                                                                    by_cases c656 : (v2 &&& 63) = 31
                                                                    · rw [if_pos c656] at hs1
                                                                      refine aw_tsw (t := 2294) at_0_40 (by rw [c656]; rfl) ?_
                                                                      refine aw_vload_n (pc1 := 2295) at_0_2294 l1 i1 rfl ?_
                                                                      refine aw_vload_n (pc1 := 2296) at_0_2295 l0 rfl rfl ?_
                                                                      refine aw_iload (pc1 := 2298) at_0_2296 l4 rfl ?_
                                                                      refine aw_iconst (v := 1) (pc1 := 2299) at_0_2298 (by decide) rfl ?_
                                                                      refine aw_iadd (v := (x4 + 1)) (pc1 := 2300) at_0_2299 rfl rfl ?_
                                                                      obtain ⟨v657, e658, hs264⟩ := am_bind hs1
                                                                      clear hs1
                                                                      refine aw_pX (j := 0) (pc1 := 2301) at_0_2300 rfl rfl e658 rfl ?_
                                                                      refine aw_vload_n (pc1 := 2302) at_0_2301 l0 rfl rfl ?_
                                                                      refine aw_iload (pc1 := 2304) at_0_2302 l4 rfl ?_
                                                                      refine aw_iconst (v := 2) (pc1 := 2305) at_0_2304 (by decide) rfl ?_
                                                                      refine aw_iadd (v := (x4 + 2)) (pc1 := 2306) at_0_2305 rfl rfl ?_
                                                                      obtain ⟨v659, e660, hs265⟩ := am_bind hs264
                                                                      clear hs264
                                                                      refine aw_pX (j := 0) (pc1 := 2307) at_0_2306 rfl rfl e660 rfl ?_
                                                                      refine aw_vload_n (pc1 := 2308) at_0_2307 l0 rfl rfl ?_
                                                                      refine aw_iload (pc1 := 2310) at_0_2308 l4 rfl ?_
                                                                      refine aw_iconst (v := 3) (pc1 := 2311) at_0_2310 (by decide) rfl ?_
                                                                      refine aw_iadd (v := (x4 + 3)) (pc1 := 2312) at_0_2311 rfl rfl ?_
                                                                      obtain ⟨v661, e662, hs266⟩ := am_bind hs265
                                                                      clear hs265
                                                                      refine aw_pX (j := 0) (pc1 := 2313) at_0_2312 rfl rfl e662 rfl ?_
                                                                      refine aw_i2l (v := (Int32.toInt64 v661)) (pc1 := 2314) at_0_2313 rfl rfl ?_
                                                                      refine aw_bipush (v := 32) (pc1 := 2316) at_0_2314 (by decide) rfl ?_
                                                                      refine aw_lshl (v := ((Int32.toInt64 v661) <<< (Int32.toInt64 32 &&& 63))) (pc1 := 2317) at_0_2316 rfl rfl ?_
                                                                      refine aw_vload_n (pc1 := 2318) at_0_2317 l0 rfl rfl ?_
                                                                      refine aw_iload (pc1 := 2320) at_0_2318 l4 rfl ?_
                                                                      refine aw_iconst (v := 4) (pc1 := 2321) at_0_2320 (by decide) rfl ?_
                                                                      refine aw_iadd (v := (x4 + 4)) (pc1 := 2322) at_0_2321 rfl rfl ?_
                                                                      obtain ⟨v663, e664, hs267⟩ := am_bind hs266
                                                                      clear hs266
                                                                      refine aw_pX (j := 0) (pc1 := 2323) at_0_2322 rfl rfl e664 rfl ?_
                                                                      refine aw_i2l (v := (Int32.toInt64 v663)) (pc1 := 2324) at_0_2323 rfl rfl ?_
                                                                      refine aw_ldc2 (v := 4294967295) (pc1 := 2327) at_0_2324 rfl rfl ?_
                                                                      refine aw_land (v := ((Int32.toInt64 v663) &&& 4294967295)) (pc1 := 2328) at_0_2327 rfl rfl ?_
                                                                      refine aw_lor (v := (((Int32.toInt64 v661) <<< (Int32.toInt64 32 &&& 63)) ||| ((Int32.toInt64 v663) &&& 4294967295))) (pc1 := 2329) at_0_2328 rfl rfl ?_
                                                                      refine aw_vload_n (pc1 := 2330) at_0_2329 l3 i3 rfl ?_
                                                                      refine aw_call (F := fm_197 N x1 v657 v659 ((((Int32.toInt64 v661) <<< (Int32.toInt64 32 &&& 63)) ||| ((Int32.toInt64 v663) &&& 4294967295))) x3 h) (t := false) (na := 5) (kd := 0) (as := [x1, (.int v657), (.int v659), (.long (((Int32.toInt64 v661) <<< (Int32.toInt64 32 &&& 63)) ||| ((Int32.toInt64 v663) &&& 4294967295))), x3]) at_0_2330 (am_k3s kb_197) mn_197 mk_197 rfl rfl (am_ok_s mi_197 (am_hl rfl (am_ccR i1 (am_ccI (am_ccI (am_ccL (am_ccR i3 am_cats_0))))) rfl)) (am_hc am_cats_0 rfl) (fun hz9 => by cases hz9) (fun o1 hz9 => rm_197 x1 v657 v659 ((((Int32.toInt64 v661) <<< (Int32.toInt64 32 &&& 63)) ||| ((Int32.toInt64 v663) &&& 4294967295))) x3 h o1 i1 i3 hz9) ?_
                                                                      rcases am_cI_s hs267 with ⟨v665, h666, f667, hs268⟩ | hs268
                                                                      · clear hs267
                                                                        refine Or.inl ⟨_, _, f667, ?_⟩
                                                                        show am_W X _ 0 2333 _ [(.int v665)] h666 _
                                                                        refine aw_istore (lv1 := am_put1 _ 5 _) (pc1 := 2335) at_0_2333 rfl rfl ?_
                                                                        refine aw_vload_n (pc1 := 2336) at_0_2335 (am_lk1 l2 rfl rfl) i2 rfl ?_
                                                                        refine aw_vload_n (pc1 := 2337) at_0_2336 (am_lk1 l0 rfl rfl) rfl rfl ?_
                                                                        refine aw_iload (pc1 := 2339) at_0_2337 (am_lk1 l4 rfl rfl) rfl ?_
                                                                        refine aw_iconst (v := 1) (pc1 := 2340) at_0_2339 (by decide) rfl ?_
                                                                        refine aw_iadd (v := (x4 + 1)) (pc1 := 2341) at_0_2340 rfl rfl ?_
                                                                        obtain ⟨v668, e669, hs269⟩ := am_bind hs268
                                                                        clear hs268
                                                                        refine aw_pX (j := 0) (pc1 := 2342) at_0_2341 rfl rfl e669 rfl ?_
                                                                        refine aw_vload_n (pc1 := 2343) at_0_2342 (am_lk1 l0 rfl rfl) rfl rfl ?_
                                                                        refine aw_iload (pc1 := 2345) at_0_2343 (am_lk1 l4 rfl rfl) rfl ?_
                                                                        refine aw_iconst (v := 2) (pc1 := 2346) at_0_2345 (by decide) rfl ?_
                                                                        refine aw_iadd (v := (x4 + 2)) (pc1 := 2347) at_0_2346 rfl rfl ?_
                                                                        obtain ⟨v670, e671, hs270⟩ := am_bind hs269
                                                                        clear hs269
                                                                        refine aw_pX (j := 0) (pc1 := 2348) at_0_2347 rfl rfl e671 rfl ?_
                                                                        refine aw_vload_n (pc1 := 2349) at_0_2348 (am_lk1 l0 rfl rfl) rfl rfl ?_
                                                                        refine aw_iload (pc1 := 2351) at_0_2349 (am_lk1 l4 rfl rfl) rfl ?_
                                                                        refine aw_iconst (v := 3) (pc1 := 2352) at_0_2351 (by decide) rfl ?_
                                                                        refine aw_iadd (v := (x4 + 3)) (pc1 := 2353) at_0_2352 rfl rfl ?_
                                                                        obtain ⟨v672, e673, hs271⟩ := am_bind hs270
                                                                        clear hs270
                                                                        refine aw_pX (j := 0) (pc1 := 2354) at_0_2353 rfl rfl e673 rfl ?_
                                                                        refine aw_i2l (v := (Int32.toInt64 v672)) (pc1 := 2355) at_0_2354 rfl rfl ?_
                                                                        refine aw_bipush (v := 32) (pc1 := 2357) at_0_2355 (by decide) rfl ?_
                                                                        refine aw_lshl (v := ((Int32.toInt64 v672) <<< (Int32.toInt64 32 &&& 63))) (pc1 := 2358) at_0_2357 rfl rfl ?_
                                                                        refine aw_vload_n (pc1 := 2359) at_0_2358 (am_lk1 l0 rfl rfl) rfl rfl ?_
                                                                        refine aw_iload (pc1 := 2361) at_0_2359 (am_lk1 l4 rfl rfl) rfl ?_
                                                                        refine aw_iconst (v := 4) (pc1 := 2362) at_0_2361 (by decide) rfl ?_
                                                                        refine aw_iadd (v := (x4 + 4)) (pc1 := 2363) at_0_2362 rfl rfl ?_
                                                                        obtain ⟨v674, e675, hs272⟩ := am_bind hs271
                                                                        clear hs271
                                                                        refine aw_pX (j := 0) (pc1 := 2364) at_0_2363 rfl rfl e675 rfl ?_
                                                                        refine aw_i2l (v := (Int32.toInt64 v674)) (pc1 := 2365) at_0_2364 rfl rfl ?_
                                                                        refine aw_ldc2 (v := 4294967295) (pc1 := 2368) at_0_2365 rfl rfl ?_
                                                                        refine aw_land (v := ((Int32.toInt64 v674) &&& 4294967295)) (pc1 := 2369) at_0_2368 rfl rfl ?_
                                                                        refine aw_lor (v := (((Int32.toInt64 v672) <<< (Int32.toInt64 32 &&& 63)) ||| ((Int32.toInt64 v674) &&& 4294967295))) (pc1 := 2370) at_0_2369 rfl rfl ?_
                                                                        obtain ⟨z676, hs273⟩ := am_ift hs272
                                                                        clear hs272
                                                                        refine aw_call (F := fm_486 N x2 v668 v670 ((((Int32.toInt64 v672) <<< (Int32.toInt64 32 &&& 63)) ||| ((Int32.toInt64 v674) &&& 4294967295))) h666) (t := true) (na := 4) (kd := 1) (as := [x2, (.int v668), (.int v670), (.long (((Int32.toInt64 v672) <<< (Int32.toInt64 32 &&& 63)) ||| ((Int32.toInt64 v674) &&& 4294967295)))]) at_0_2370 (am_k3v kb_486) mn_486 mk_486 rfl rfl (am_ok_v mi_486 (am_hl rfl (am_ccR i2 (am_ccI (am_ccI (am_ccL am_cats_0)))) rfl) z676) (am_hc am_cats_0 rfl) (fun _ => ⟨rfl, hh_0⟩) (fun o1 hz9 => rm_486 x2 v668 v670 ((((Int32.toInt64 v672) <<< (Int32.toInt64 32 &&& 63)) ||| ((Int32.toInt64 v674) &&& 4294967295))) h666 o1 i2 hz9) ?_
                                                                        rcases am_cI_s hs273 with ⟨v677, h678, f679, hs274⟩ | hs274
                                                                        · clear hs273
                                                                          refine Or.inl ⟨_, _, f679, ?_⟩
                                                                          show am_W X _ 0 2373 _ [(.int v677)] h678 _
                                                                          refine aw_istore (lv1 := am_put1 _ 6 _) (pc1 := 2375) at_0_2373 rfl rfl ?_
                                                                          refine aw_vload_n (pc1 := 2376) at_0_2375 (am_lk1 (am_lk1 l2 rfl rfl) rfl rfl) i2 rfl ?_
                                                                          obtain ⟨z680, hs275⟩ := am_ift hs274
                                                                          clear hs274
                                                                          refine aw_call (F := fm_324 x2 h678) (t := true) (na := 1) (kd := 1) (as := [x2]) at_0_2376 (am_k3v kb_324) mn_324 mk_324 rfl rfl (am_ok_v mi_324 (am_hl rfl (am_ccR i2 am_cats_0) rfl) z680) (am_hc am_cats_0 rfl) (fun _ => ⟨rfl, hh_0⟩) (fun o1 hz9 => rm_324 x2 h678 o1 i2 hz9) ?_
                                                                          rcases am_cI_s hs275 with ⟨v681, h682, f683, hs276⟩ | hs276
                                                                          · clear hs275
                                                                            refine Or.inl ⟨_, _, f683, ?_⟩
                                                                            show am_W X _ 0 2379 _ [(.int v681)] h682 _
                                                                            refine aw_iload (pc1 := 2381) at_0_2379 (am_lk1 am_lk0 rfl rfl) rfl ?_
                                                                            by_cases c684 : v681 = v665
                                                                            · rw [if_pos c684] at hs276
                                                                              refine aw_iceq_t at_0_2381 c684 ?_
                                                                              refine aw_iload (pc1 := 2388) at_0_2386 (am_lk1 am_lk0 rfl rfl) rfl ?_
                                                                              by_cases c685 : ¬ v665 = 0
                                                                              · rw [if_pos c685] at hs276
                                                                                refine aw_ifne_t at_0_2388 c685 ?_
                                                                                exact rg_0_2403 (fun z0 z1 z2 z3 h o hs276 => ih z0 z1 z2 z3 h o hs276) x1 x2 x3 x4 h682 o (am_lk1 (am_lk1 l0 rfl rfl) rfl rfl) (am_lk1 (am_lk1 l1 rfl rfl) rfl rfl) (am_lk1 (am_lk1 l2 rfl rfl) rfl rfl) (am_lk1 (am_lk1 l3 rfl rfl) rfl rfl) (am_lk1 (am_lk1 l4 rfl rfl) rfl rfl) i1 i2 i3 hs276
                                                                              · rw [if_neg c685] at hs276
                                                                                refine aw_ifne_f (pc1 := 2391) at_0_2388 c685 rfl ?_
                                                                                refine aw_vload_n (pc1 := 2392) at_0_2391 (am_lk1 (am_lk1 l3 rfl rfl) rfl rfl) i3 rfl ?_
                                                                                refine aw_iconst (v := 0) (pc1 := 2393) at_0_2392 (by decide) rfl ?_
                                                                                obtain ⟨v686, e687, hs277⟩ := am_bind hs276
                                                                                clear hs276
                                                                                refine aw_pAL (pc1 := 2394) at_0_2393 e687 rfl ?_
                                                                                refine aw_iload (pc1 := 2396) at_0_2394 am_lk0 rfl ?_
                                                                                refine aw_i2l (v := (Int32.toInt64 v677)) (pc1 := 2397) at_0_2396 rfl rfl ?_
                                                                                refine aw_lcmp (v := (lg_cmp v686 (Int32.toInt64 v677))) (pc1 := 2398) at_0_2397 rfl rfl ?_
                                                                                by_cases c688 : (lg_cmp v686 (Int32.toInt64 v677)) = 0
                                                                                · rw [if_pos c688] at hs277
                                                                                  refine aw_ifeq_t at_0_2398 c688 ?_
                                                                                  exact rg_0_2403 (fun z0 z1 z2 z3 h o hs277 => ih z0 z1 z2 z3 h o hs277) x1 x2 x3 x4 h682 o (am_lk1 (am_lk1 l0 rfl rfl) rfl rfl) (am_lk1 (am_lk1 l1 rfl rfl) rfl rfl) (am_lk1 (am_lk1 l2 rfl rfl) rfl rfl) (am_lk1 (am_lk1 l3 rfl rfl) rfl rfl) (am_lk1 (am_lk1 l4 rfl rfl) rfl rfl) i1 i2 i3 hs277
                                                                                · rw [if_neg c688] at hs277
                                                                                  refine aw_ifeq_f (pc1 := 2401) at_0_2398 c688 rfl ?_
                                                                                  refine aw_iconst (v := 0) (pc1 := 2402) at_0_2401 (by decide) rfl ?_
                                                                                  cases hs277
                                                                                  exact aw_iret at_0_2402 (by rw [rt_0]; decide) rfl
                                                                            · rw [if_neg c684] at hs276
                                                                              refine aw_iceq_f (pc1 := 2384) at_0_2381 c684 rfl ?_
                                                                              refine aw_iconst (v := 0) (pc1 := 2385) at_0_2384 (by decide) rfl ?_
                                                                              cases hs276
                                                                              exact aw_iret at_0_2385 (by rw [rt_0]; decide) rfl
                                                                          · clear hs275
                                                                            exact Or.inr hs276
                                                                        · clear hs273
                                                                          exact Or.inr hs274
                                                                      · clear hs267
                                                                        exact Or.inr hs268
                                                                    · rw [if_neg c656] at hs1
                                                                      by_cases c689 : (v2 &&& 63) = 32
                                                                      · rw [if_pos c689] at hs1
                                                                        refine aw_tsw (t := 2406) at_0_40 (by rw [c689]; rfl) ?_
                                                                        refine aw_vload_n (pc1 := 2407) at_0_2406 l1 i1 rfl ?_
                                                                        refine aw_vload_n (pc1 := 2408) at_0_2407 l0 rfl rfl ?_
                                                                        refine aw_iload (pc1 := 2410) at_0_2408 l4 rfl ?_
                                                                        refine aw_iconst (v := 1) (pc1 := 2411) at_0_2410 (by decide) rfl ?_
                                                                        refine aw_iadd (v := (x4 + 1)) (pc1 := 2412) at_0_2411 rfl rfl ?_
                                                                        obtain ⟨v690, e691, hs278⟩ := am_bind hs1
                                                                        clear hs1
                                                                        refine aw_pX (j := 0) (pc1 := 2413) at_0_2412 rfl rfl e691 rfl ?_
                                                                        refine aw_vload_n (pc1 := 2414) at_0_2413 l0 rfl rfl ?_
                                                                        refine aw_iload (pc1 := 2416) at_0_2414 l4 rfl ?_
                                                                        refine aw_iconst (v := 2) (pc1 := 2417) at_0_2416 (by decide) rfl ?_
                                                                        refine aw_iadd (v := (x4 + 2)) (pc1 := 2418) at_0_2417 rfl rfl ?_
                                                                        obtain ⟨v692, e693, hs279⟩ := am_bind hs278
                                                                        clear hs278
                                                                        refine aw_pX (j := 0) (pc1 := 2419) at_0_2418 rfl rfl e693 rfl ?_
                                                                        refine aw_vload_n (pc1 := 2420) at_0_2419 l0 rfl rfl ?_
                                                                        refine aw_iload (pc1 := 2422) at_0_2420 l4 rfl ?_
                                                                        refine aw_iconst (v := 3) (pc1 := 2423) at_0_2422 (by decide) rfl ?_
                                                                        refine aw_iadd (v := (x4 + 3)) (pc1 := 2424) at_0_2423 rfl rfl ?_
                                                                        obtain ⟨v694, e695, hs280⟩ := am_bind hs279
                                                                        clear hs279
                                                                        refine aw_pX (j := 0) (pc1 := 2425) at_0_2424 rfl rfl e695 rfl ?_
                                                                        refine aw_vload_n (pc1 := 2426) at_0_2425 l0 rfl rfl ?_
                                                                        refine aw_iload (pc1 := 2428) at_0_2426 l4 rfl ?_
                                                                        refine aw_iconst (v := 4) (pc1 := 2429) at_0_2428 (by decide) rfl ?_
                                                                        refine aw_iadd (v := (x4 + 4)) (pc1 := 2430) at_0_2429 rfl rfl ?_
                                                                        obtain ⟨v696, e697, hs281⟩ := am_bind hs280
                                                                        clear hs280
                                                                        refine aw_pX (j := 0) (pc1 := 2431) at_0_2430 rfl rfl e697 rfl ?_
                                                                        refine aw_vload_n (pc1 := 2432) at_0_2431 l0 rfl rfl ?_
                                                                        refine aw_iload (pc1 := 2434) at_0_2432 l4 rfl ?_
                                                                        refine aw_iconst (v := 5) (pc1 := 2435) at_0_2434 (by decide) rfl ?_
                                                                        refine aw_iadd (v := (x4 + 5)) (pc1 := 2436) at_0_2435 rfl rfl ?_
                                                                        obtain ⟨v698, e699, hs282⟩ := am_bind hs281
                                                                        clear hs281
                                                                        refine aw_pX (j := 0) (pc1 := 2437) at_0_2436 rfl rfl e699 rfl ?_
                                                                        refine aw_i2l (v := (Int32.toInt64 v698)) (pc1 := 2438) at_0_2437 rfl rfl ?_
                                                                        refine aw_bipush (v := 32) (pc1 := 2440) at_0_2438 (by decide) rfl ?_
                                                                        refine aw_lshl (v := ((Int32.toInt64 v698) <<< (Int32.toInt64 32 &&& 63))) (pc1 := 2441) at_0_2440 rfl rfl ?_
                                                                        refine aw_vload_n (pc1 := 2442) at_0_2441 l0 rfl rfl ?_
                                                                        refine aw_iload (pc1 := 2444) at_0_2442 l4 rfl ?_
                                                                        refine aw_bipush (v := 6) (pc1 := 2446) at_0_2444 (by decide) rfl ?_
                                                                        refine aw_iadd (v := (x4 + 6)) (pc1 := 2447) at_0_2446 rfl rfl ?_
                                                                        obtain ⟨v700, e701, hs283⟩ := am_bind hs282
                                                                        clear hs282
                                                                        refine aw_pX (j := 0) (pc1 := 2448) at_0_2447 rfl rfl e701 rfl ?_
                                                                        refine aw_i2l (v := (Int32.toInt64 v700)) (pc1 := 2449) at_0_2448 rfl rfl ?_
                                                                        refine aw_ldc2 (v := 4294967295) (pc1 := 2452) at_0_2449 rfl rfl ?_
                                                                        refine aw_land (v := ((Int32.toInt64 v700) &&& 4294967295)) (pc1 := 2453) at_0_2452 rfl rfl ?_
                                                                        refine aw_lor (v := (((Int32.toInt64 v698) <<< (Int32.toInt64 32 &&& 63)) ||| ((Int32.toInt64 v700) &&& 4294967295))) (pc1 := 2454) at_0_2453 rfl rfl ?_
                                                                        refine aw_vload_n (pc1 := 2455) at_0_2454 l3 i3 rfl ?_
                                                                        refine aw_call (F := fm_199 N x1 v690 v692 v694 v696 ((((Int32.toInt64 v698) <<< (Int32.toInt64 32 &&& 63)) ||| ((Int32.toInt64 v700) &&& 4294967295))) x3 h) (t := false) (na := 7) (kd := 0) (as := [x1, (.int v690), (.int v692), (.int v694), (.int v696), (.long (((Int32.toInt64 v698) <<< (Int32.toInt64 32 &&& 63)) ||| ((Int32.toInt64 v700) &&& 4294967295))), x3]) at_0_2455 (am_k3s kb_199) mn_199 mk_199 rfl rfl (am_ok_s mi_199 (am_hl rfl (am_ccR i1 (am_ccI (am_ccI (am_ccI (am_ccI (am_ccL (am_ccR i3 am_cats_0))))))) rfl)) (am_hc am_cats_0 rfl) (fun hz9 => by cases hz9) (fun o1 hz9 => rm_199 x1 v690 v692 v694 v696 ((((Int32.toInt64 v698) <<< (Int32.toInt64 32 &&& 63)) ||| ((Int32.toInt64 v700) &&& 4294967295))) x3 h o1 i1 i3 hz9) ?_
                                                                        rcases am_cI_s hs283 with ⟨v702, h703, f704, hs284⟩ | hs284
                                                                        · clear hs283
                                                                          refine Or.inl ⟨_, _, f704, ?_⟩
                                                                          show am_W X _ 0 2458 _ [(.int v702)] h703 _
                                                                          refine aw_istore (lv1 := am_put1 _ 5 _) (pc1 := 2460) at_0_2458 rfl rfl ?_
                                                                          refine aw_vload_n (pc1 := 2461) at_0_2460 (am_lk1 l2 rfl rfl) i2 rfl ?_
                                                                          refine aw_vload_n (pc1 := 2462) at_0_2461 (am_lk1 l0 rfl rfl) rfl rfl ?_
                                                                          refine aw_iload (pc1 := 2464) at_0_2462 (am_lk1 l4 rfl rfl) rfl ?_
                                                                          refine aw_iconst (v := 1) (pc1 := 2465) at_0_2464 (by decide) rfl ?_
                                                                          refine aw_iadd (v := (x4 + 1)) (pc1 := 2466) at_0_2465 rfl rfl ?_
                                                                          obtain ⟨v705, e706, hs285⟩ := am_bind hs284
                                                                          clear hs284
                                                                          refine aw_pX (j := 0) (pc1 := 2467) at_0_2466 rfl rfl e706 rfl ?_
                                                                          refine aw_vload_n (pc1 := 2468) at_0_2467 (am_lk1 l0 rfl rfl) rfl rfl ?_
                                                                          refine aw_iload (pc1 := 2470) at_0_2468 (am_lk1 l4 rfl rfl) rfl ?_
                                                                          refine aw_iconst (v := 2) (pc1 := 2471) at_0_2470 (by decide) rfl ?_
                                                                          refine aw_iadd (v := (x4 + 2)) (pc1 := 2472) at_0_2471 rfl rfl ?_
                                                                          obtain ⟨v707, e708, hs286⟩ := am_bind hs285
                                                                          clear hs285
                                                                          refine aw_pX (j := 0) (pc1 := 2473) at_0_2472 rfl rfl e708 rfl ?_
                                                                          refine aw_vload_n (pc1 := 2474) at_0_2473 (am_lk1 l0 rfl rfl) rfl rfl ?_
                                                                          refine aw_iload (pc1 := 2476) at_0_2474 (am_lk1 l4 rfl rfl) rfl ?_
                                                                          refine aw_iconst (v := 3) (pc1 := 2477) at_0_2476 (by decide) rfl ?_
                                                                          refine aw_iadd (v := (x4 + 3)) (pc1 := 2478) at_0_2477 rfl rfl ?_
                                                                          obtain ⟨v709, e710, hs287⟩ := am_bind hs286
                                                                          clear hs286
                                                                          refine aw_pX (j := 0) (pc1 := 2479) at_0_2478 rfl rfl e710 rfl ?_
                                                                          refine aw_vload_n (pc1 := 2480) at_0_2479 (am_lk1 l0 rfl rfl) rfl rfl ?_
                                                                          refine aw_iload (pc1 := 2482) at_0_2480 (am_lk1 l4 rfl rfl) rfl ?_
                                                                          refine aw_iconst (v := 4) (pc1 := 2483) at_0_2482 (by decide) rfl ?_
                                                                          refine aw_iadd (v := (x4 + 4)) (pc1 := 2484) at_0_2483 rfl rfl ?_
                                                                          obtain ⟨v711, e712, hs288⟩ := am_bind hs287
                                                                          clear hs287
                                                                          refine aw_pX (j := 0) (pc1 := 2485) at_0_2484 rfl rfl e712 rfl ?_
                                                                          refine aw_vload_n (pc1 := 2486) at_0_2485 (am_lk1 l0 rfl rfl) rfl rfl ?_
                                                                          refine aw_iload (pc1 := 2488) at_0_2486 (am_lk1 l4 rfl rfl) rfl ?_
                                                                          refine aw_iconst (v := 5) (pc1 := 2489) at_0_2488 (by decide) rfl ?_
                                                                          refine aw_iadd (v := (x4 + 5)) (pc1 := 2490) at_0_2489 rfl rfl ?_
                                                                          obtain ⟨v713, e714, hs289⟩ := am_bind hs288
                                                                          clear hs288
                                                                          refine aw_pX (j := 0) (pc1 := 2491) at_0_2490 rfl rfl e714 rfl ?_
                                                                          refine aw_i2l (v := (Int32.toInt64 v713)) (pc1 := 2492) at_0_2491 rfl rfl ?_
                                                                          refine aw_bipush (v := 32) (pc1 := 2494) at_0_2492 (by decide) rfl ?_
                                                                          refine aw_lshl (v := ((Int32.toInt64 v713) <<< (Int32.toInt64 32 &&& 63))) (pc1 := 2495) at_0_2494 rfl rfl ?_
                                                                          refine aw_vload_n (pc1 := 2496) at_0_2495 (am_lk1 l0 rfl rfl) rfl rfl ?_
                                                                          refine aw_iload (pc1 := 2498) at_0_2496 (am_lk1 l4 rfl rfl) rfl ?_
                                                                          refine aw_bipush (v := 6) (pc1 := 2500) at_0_2498 (by decide) rfl ?_
                                                                          refine aw_iadd (v := (x4 + 6)) (pc1 := 2501) at_0_2500 rfl rfl ?_
                                                                          obtain ⟨v715, e716, hs290⟩ := am_bind hs289
                                                                          clear hs289
                                                                          refine aw_pX (j := 0) (pc1 := 2502) at_0_2501 rfl rfl e716 rfl ?_
                                                                          refine aw_i2l (v := (Int32.toInt64 v715)) (pc1 := 2503) at_0_2502 rfl rfl ?_
                                                                          refine aw_ldc2 (v := 4294967295) (pc1 := 2506) at_0_2503 rfl rfl ?_
                                                                          refine aw_land (v := ((Int32.toInt64 v715) &&& 4294967295)) (pc1 := 2507) at_0_2506 rfl rfl ?_
                                                                          refine aw_lor (v := (((Int32.toInt64 v713) <<< (Int32.toInt64 32 &&& 63)) ||| ((Int32.toInt64 v715) &&& 4294967295))) (pc1 := 2508) at_0_2507 rfl rfl ?_
                                                                          obtain ⟨z717, hs291⟩ := am_ift hs290
                                                                          clear hs290
                                                                          refine aw_call (F := fm_488 N x2 v705 v707 v709 v711 ((((Int32.toInt64 v713) <<< (Int32.toInt64 32 &&& 63)) ||| ((Int32.toInt64 v715) &&& 4294967295))) h703) (t := true) (na := 6) (kd := 1) (as := [x2, (.int v705), (.int v707), (.int v709), (.int v711), (.long (((Int32.toInt64 v713) <<< (Int32.toInt64 32 &&& 63)) ||| ((Int32.toInt64 v715) &&& 4294967295)))]) at_0_2508 (am_k3v kb_488) mn_488 mk_488 rfl rfl (am_ok_v mi_488 (am_hl rfl (am_ccR i2 (am_ccI (am_ccI (am_ccI (am_ccI (am_ccL am_cats_0)))))) rfl) z717) (am_hc am_cats_0 rfl) (fun _ => ⟨rfl, hh_0⟩) (fun o1 hz9 => rm_488 x2 v705 v707 v709 v711 ((((Int32.toInt64 v713) <<< (Int32.toInt64 32 &&& 63)) ||| ((Int32.toInt64 v715) &&& 4294967295))) h703 o1 i2 hz9) ?_
                                                                          rcases am_cI_s hs291 with ⟨v718, h719, f720, hs292⟩ | hs292
                                                                          · clear hs291
                                                                            refine Or.inl ⟨_, _, f720, ?_⟩
                                                                            show am_W X _ 0 2511 _ [(.int v718)] h719 _
                                                                            refine aw_istore (lv1 := am_put1 _ 6 _) (pc1 := 2513) at_0_2511 rfl rfl ?_
                                                                            refine aw_vload_n (pc1 := 2514) at_0_2513 (am_lk1 (am_lk1 l2 rfl rfl) rfl rfl) i2 rfl ?_
                                                                            obtain ⟨z721, hs293⟩ := am_ift hs292
                                                                            clear hs292
                                                                            refine aw_call (F := fm_324 x2 h719) (t := true) (na := 1) (kd := 1) (as := [x2]) at_0_2514 (am_k3v kb_324) mn_324 mk_324 rfl rfl (am_ok_v mi_324 (am_hl rfl (am_ccR i2 am_cats_0) rfl) z721) (am_hc am_cats_0 rfl) (fun _ => ⟨rfl, hh_0⟩) (fun o1 hz9 => rm_324 x2 h719 o1 i2 hz9) ?_
                                                                            rcases am_cI_s hs293 with ⟨v722, h723, f724, hs294⟩ | hs294
                                                                            · clear hs293
                                                                              refine Or.inl ⟨_, _, f724, ?_⟩
                                                                              show am_W X _ 0 2517 _ [(.int v722)] h723 _
                                                                              refine aw_iload (pc1 := 2519) at_0_2517 (am_lk1 am_lk0 rfl rfl) rfl ?_
                                                                              by_cases c725 : v722 = v702
                                                                              · rw [if_pos c725] at hs294
                                                                                refine aw_iceq_t at_0_2519 c725 ?_
                                                                                refine aw_iload (pc1 := 2526) at_0_2524 (am_lk1 am_lk0 rfl rfl) rfl ?_
                                                                                by_cases c726 : ¬ v702 = 0
                                                                                · rw [if_pos c726] at hs294
                                                                                  refine aw_ifne_t at_0_2526 c726 ?_
                                                                                  exact rg_0_2541 (fun z0 z1 z2 z3 h o hs294 => ih z0 z1 z2 z3 h o hs294) x1 x2 x3 x4 h723 o (am_lk1 (am_lk1 l0 rfl rfl) rfl rfl) (am_lk1 (am_lk1 l1 rfl rfl) rfl rfl) (am_lk1 (am_lk1 l2 rfl rfl) rfl rfl) (am_lk1 (am_lk1 l3 rfl rfl) rfl rfl) (am_lk1 (am_lk1 l4 rfl rfl) rfl rfl) i1 i2 i3 hs294
                                                                                · rw [if_neg c726] at hs294
                                                                                  refine aw_ifne_f (pc1 := 2529) at_0_2526 c726 rfl ?_
                                                                                  refine aw_vload_n (pc1 := 2530) at_0_2529 (am_lk1 (am_lk1 l3 rfl rfl) rfl rfl) i3 rfl ?_
                                                                                  refine aw_iconst (v := 0) (pc1 := 2531) at_0_2530 (by decide) rfl ?_
                                                                                  obtain ⟨v727, e728, hs295⟩ := am_bind hs294
                                                                                  clear hs294
                                                                                  refine aw_pAL (pc1 := 2532) at_0_2531 e728 rfl ?_
                                                                                  refine aw_iload (pc1 := 2534) at_0_2532 am_lk0 rfl ?_
                                                                                  refine aw_i2l (v := (Int32.toInt64 v718)) (pc1 := 2535) at_0_2534 rfl rfl ?_
                                                                                  refine aw_lcmp (v := (lg_cmp v727 (Int32.toInt64 v718))) (pc1 := 2536) at_0_2535 rfl rfl ?_
                                                                                  by_cases c729 : (lg_cmp v727 (Int32.toInt64 v718)) = 0
                                                                                  · rw [if_pos c729] at hs295
                                                                                    refine aw_ifeq_t at_0_2536 c729 ?_
                                                                                    exact rg_0_2541 (fun z0 z1 z2 z3 h o hs295 => ih z0 z1 z2 z3 h o hs295) x1 x2 x3 x4 h723 o (am_lk1 (am_lk1 l0 rfl rfl) rfl rfl) (am_lk1 (am_lk1 l1 rfl rfl) rfl rfl) (am_lk1 (am_lk1 l2 rfl rfl) rfl rfl) (am_lk1 (am_lk1 l3 rfl rfl) rfl rfl) (am_lk1 (am_lk1 l4 rfl rfl) rfl rfl) i1 i2 i3 hs295
                                                                                  · rw [if_neg c729] at hs295
                                                                                    refine aw_ifeq_f (pc1 := 2539) at_0_2536 c729 rfl ?_
                                                                                    refine aw_iconst (v := 0) (pc1 := 2540) at_0_2539 (by decide) rfl ?_
                                                                                    cases hs295
                                                                                    exact aw_iret at_0_2540 (by rw [rt_0]; decide) rfl
                                                                              · rw [if_neg c725] at hs294
                                                                                refine aw_iceq_f (pc1 := 2522) at_0_2519 c725 rfl ?_
                                                                                refine aw_iconst (v := 0) (pc1 := 2523) at_0_2522 (by decide) rfl ?_
                                                                                cases hs294
                                                                                exact aw_iret at_0_2523 (by rw [rt_0]; decide) rfl
                                                                            · clear hs293
                                                                              exact Or.inr hs294
                                                                          · clear hs291
                                                                            exact Or.inr hs292
                                                                        · clear hs283
                                                                          exact Or.inr hs284
                                                                      · rw [if_neg c689] at hs1
                                                                        by_cases c730 : (v2 &&& 63) = 33
                                                                        · rw [if_pos c730] at hs1
                                                                          refine aw_tsw (t := 2544) at_0_40 (by rw [c730]; rfl) ?_
                                                                          refine aw_vload_n (pc1 := 2545) at_0_2544 l1 i1 rfl ?_
                                                                          refine aw_vload_n (pc1 := 2546) at_0_2545 l0 rfl rfl ?_
                                                                          refine aw_iload (pc1 := 2548) at_0_2546 l4 rfl ?_
                                                                          refine aw_iconst (v := 1) (pc1 := 2549) at_0_2548 (by decide) rfl ?_
                                                                          refine aw_iadd (v := (x4 + 1)) (pc1 := 2550) at_0_2549 rfl rfl ?_
                                                                          obtain ⟨v731, e732, hs296⟩ := am_bind hs1
                                                                          clear hs1
                                                                          refine aw_pX (j := 0) (pc1 := 2551) at_0_2550 rfl rfl e732 rfl ?_
                                                                          refine aw_vload_n (pc1 := 2552) at_0_2551 l3 i3 rfl ?_
                                                                          refine aw_call (F := fm_210 x1 v731 x3 h) (t := false) (na := 3) (kd := 0) (as := [x1, (.int v731), x3]) at_0_2552 (am_k3s kb_210) mn_210 mk_210 rfl rfl (am_ok_s mi_210 (am_hl rfl (am_ccR i1 (am_ccI (am_ccR i3 am_cats_0))) rfl)) (am_hc am_cats_0 rfl) (fun hz9 => by cases hz9) (fun o1 hz9 => rm_210 x1 v731 x3 h o1 i1 i3 hz9) ?_
                                                                          rcases am_cI_s hs296 with ⟨v733, h734, f735, hs297⟩ | hs297
                                                                          · clear hs296
                                                                            refine Or.inl ⟨_, _, f735, ?_⟩
                                                                            show am_W X _ 0 2555 _ [(.int v733)] h734 _
                                                                            refine aw_istore (lv1 := am_put1 _ 5 _) (pc1 := 2557) at_0_2555 rfl rfl ?_
                                                                            refine aw_vload_n (pc1 := 2558) at_0_2557 (am_lk1 l2 rfl rfl) i2 rfl ?_
                                                                            refine aw_vload_n (pc1 := 2559) at_0_2558 (am_lk1 l0 rfl rfl) rfl rfl ?_
                                                                            refine aw_iload (pc1 := 2561) at_0_2559 (am_lk1 l4 rfl rfl) rfl ?_
                                                                            refine aw_iconst (v := 1) (pc1 := 2562) at_0_2561 (by decide) rfl ?_
                                                                            refine aw_iadd (v := (x4 + 1)) (pc1 := 2563) at_0_2562 rfl rfl ?_
                                                                            obtain ⟨v736, e737, hs298⟩ := am_bind hs297
                                                                            clear hs297
                                                                            refine aw_pX (j := 0) (pc1 := 2564) at_0_2563 rfl rfl e737 rfl ?_
                                                                            obtain ⟨z738, hs299⟩ := am_ift hs298
                                                                            clear hs298
                                                                            refine aw_call (F := fm_499 x2 v736 h734) (t := true) (na := 2) (kd := 1) (as := [x2, (.int v736)]) at_0_2564 (am_k3v kb_499) mn_499 mk_499 rfl rfl (am_ok_v mi_499 (am_hl rfl (am_ccR i2 (am_ccI am_cats_0)) rfl) z738) (am_hc am_cats_0 rfl) (fun _ => ⟨rfl, hh_0⟩) (fun o1 hz9 => rm_499 x2 v736 h734 o1 i2 hz9) ?_
                                                                            rcases am_cI_s hs299 with ⟨v739, h740, f741, hs300⟩ | hs300
                                                                            · clear hs299
                                                                              refine Or.inl ⟨_, _, f741, ?_⟩
                                                                              show am_W X _ 0 2567 _ [(.int v739)] h740 _
                                                                              refine aw_istore (lv1 := am_put1 _ 6 _) (pc1 := 2569) at_0_2567 rfl rfl ?_
                                                                              refine aw_vload_n (pc1 := 2570) at_0_2569 (am_lk1 (am_lk1 l2 rfl rfl) rfl rfl) i2 rfl ?_
                                                                              obtain ⟨z742, hs301⟩ := am_ift hs300
                                                                              clear hs300
                                                                              refine aw_call (F := fm_324 x2 h740) (t := true) (na := 1) (kd := 1) (as := [x2]) at_0_2570 (am_k3v kb_324) mn_324 mk_324 rfl rfl (am_ok_v mi_324 (am_hl rfl (am_ccR i2 am_cats_0) rfl) z742) (am_hc am_cats_0 rfl) (fun _ => ⟨rfl, hh_0⟩) (fun o1 hz9 => rm_324 x2 h740 o1 i2 hz9) ?_
                                                                              rcases am_cI_s hs301 with ⟨v743, h744, f745, hs302⟩ | hs302
                                                                              · clear hs301
                                                                                refine Or.inl ⟨_, _, f745, ?_⟩
                                                                                show am_W X _ 0 2573 _ [(.int v743)] h744 _
                                                                                refine aw_iload (pc1 := 2575) at_0_2573 (am_lk1 am_lk0 rfl rfl) rfl ?_
                                                                                by_cases c746 : v743 = v733
                                                                                · rw [if_pos c746] at hs302
                                                                                  refine aw_iceq_t at_0_2575 c746 ?_
                                                                                  refine aw_iload (pc1 := 2582) at_0_2580 (am_lk1 am_lk0 rfl rfl) rfl ?_
                                                                                  by_cases c747 : ¬ v733 = 0
                                                                                  · rw [if_pos c747] at hs302
                                                                                    refine aw_ifne_t at_0_2582 c747 ?_
                                                                                    exact rg_0_2597 (fun z0 z1 z2 z3 h o hs302 => ih z0 z1 z2 z3 h o hs302) x1 x2 x3 x4 h744 o (am_lk1 (am_lk1 l0 rfl rfl) rfl rfl) (am_lk1 (am_lk1 l1 rfl rfl) rfl rfl) (am_lk1 (am_lk1 l2 rfl rfl) rfl rfl) (am_lk1 (am_lk1 l3 rfl rfl) rfl rfl) (am_lk1 (am_lk1 l4 rfl rfl) rfl rfl) i1 i2 i3 hs302
                                                                                  · rw [if_neg c747] at hs302
                                                                                    refine aw_ifne_f (pc1 := 2585) at_0_2582 c747 rfl ?_
                                                                                    refine aw_vload_n (pc1 := 2586) at_0_2585 (am_lk1 (am_lk1 l3 rfl rfl) rfl rfl) i3 rfl ?_
                                                                                    refine aw_iconst (v := 0) (pc1 := 2587) at_0_2586 (by decide) rfl ?_
                                                                                    obtain ⟨v748, e749, hs303⟩ := am_bind hs302
                                                                                    clear hs302
                                                                                    refine aw_pAL (pc1 := 2588) at_0_2587 e749 rfl ?_
                                                                                    refine aw_iload (pc1 := 2590) at_0_2588 am_lk0 rfl ?_
                                                                                    refine aw_i2l (v := (Int32.toInt64 v739)) (pc1 := 2591) at_0_2590 rfl rfl ?_
                                                                                    refine aw_lcmp (v := (lg_cmp v748 (Int32.toInt64 v739))) (pc1 := 2592) at_0_2591 rfl rfl ?_
                                                                                    by_cases c750 : (lg_cmp v748 (Int32.toInt64 v739)) = 0
                                                                                    · rw [if_pos c750] at hs303
                                                                                      refine aw_ifeq_t at_0_2592 c750 ?_
                                                                                      exact rg_0_2597 (fun z0 z1 z2 z3 h o hs303 => ih z0 z1 z2 z3 h o hs303) x1 x2 x3 x4 h744 o (am_lk1 (am_lk1 l0 rfl rfl) rfl rfl) (am_lk1 (am_lk1 l1 rfl rfl) rfl rfl) (am_lk1 (am_lk1 l2 rfl rfl) rfl rfl) (am_lk1 (am_lk1 l3 rfl rfl) rfl rfl) (am_lk1 (am_lk1 l4 rfl rfl) rfl rfl) i1 i2 i3 hs303
                                                                                    · rw [if_neg c750] at hs303
                                                                                      refine aw_ifeq_f (pc1 := 2595) at_0_2592 c750 rfl ?_
                                                                                      refine aw_iconst (v := 0) (pc1 := 2596) at_0_2595 (by decide) rfl ?_
                                                                                      cases hs303
                                                                                      exact aw_iret at_0_2596 (by rw [rt_0]; decide) rfl
                                                                                · rw [if_neg c746] at hs302
                                                                                  refine aw_iceq_f (pc1 := 2578) at_0_2575 c746 rfl ?_
                                                                                  refine aw_iconst (v := 0) (pc1 := 2579) at_0_2578 (by decide) rfl ?_
                                                                                  cases hs302
                                                                                  exact aw_iret at_0_2579 (by rw [rt_0]; decide) rfl
                                                                              · clear hs301
                                                                                exact Or.inr hs302
                                                                            · clear hs299
                                                                              exact Or.inr hs300
                                                                          · clear hs296
                                                                            exact Or.inr hs297
                                                                        · rw [if_neg c730] at hs1
                                                                          by_cases c751 : (v2 &&& 63) = 34
                                                                          · rw [if_pos c751] at hs1
                                                                            refine aw_tsw (t := 2600) at_0_40 (by rw [c751]; rfl) ?_
                                                                            refine aw_vload_n (pc1 := 2601) at_0_2600 l1 i1 rfl ?_
                                                                            refine aw_vload_n (pc1 := 2602) at_0_2601 l0 rfl rfl ?_
                                                                            refine aw_iload (pc1 := 2604) at_0_2602 l4 rfl ?_
                                                                            refine aw_iconst (v := 1) (pc1 := 2605) at_0_2604 (by decide) rfl ?_
                                                                            refine aw_iadd (v := (x4 + 1)) (pc1 := 2606) at_0_2605 rfl rfl ?_
                                                                            obtain ⟨v752, e753, hs304⟩ := am_bind hs1
                                                                            clear hs1
                                                                            refine aw_pX (j := 0) (pc1 := 2607) at_0_2606 rfl rfl e753 rfl ?_
                                                                            refine aw_vload_n (pc1 := 2608) at_0_2607 l0 rfl rfl ?_
                                                                            refine aw_iload (pc1 := 2610) at_0_2608 l4 rfl ?_
                                                                            refine aw_iconst (v := 2) (pc1 := 2611) at_0_2610 (by decide) rfl ?_
                                                                            refine aw_iadd (v := (x4 + 2)) (pc1 := 2612) at_0_2611 rfl rfl ?_
                                                                            obtain ⟨v754, e755, hs305⟩ := am_bind hs304
                                                                            clear hs304
                                                                            refine aw_pX (j := 0) (pc1 := 2613) at_0_2612 rfl rfl e755 rfl ?_
                                                                            refine aw_vload_n (pc1 := 2614) at_0_2613 l3 i3 rfl ?_
                                                                            refine aw_call (F := fm_212 x1 v752 v754 x3 h) (t := false) (na := 4) (kd := 0) (as := [x1, (.int v752), (.int v754), x3]) at_0_2614 (am_k3s kb_212) mn_212 mk_212 rfl rfl (am_ok_s mi_212 (am_hl rfl (am_ccR i1 (am_ccI (am_ccI (am_ccR i3 am_cats_0)))) rfl)) (am_hc am_cats_0 rfl) (fun hz9 => by cases hz9) (fun o1 hz9 => rm_212 x1 v752 v754 x3 h o1 i1 i3 hz9) ?_
                                                                            rcases am_cI_s hs305 with ⟨v756, h757, f758, hs306⟩ | hs306
                                                                            · clear hs305
                                                                              refine Or.inl ⟨_, _, f758, ?_⟩
                                                                              show am_W X _ 0 2617 _ [(.int v756)] h757 _
                                                                              refine aw_istore (lv1 := am_put1 _ 5 _) (pc1 := 2619) at_0_2617 rfl rfl ?_
                                                                              refine aw_vload_n (pc1 := 2620) at_0_2619 (am_lk1 l2 rfl rfl) i2 rfl ?_
                                                                              refine aw_vload_n (pc1 := 2621) at_0_2620 (am_lk1 l0 rfl rfl) rfl rfl ?_
                                                                              refine aw_iload (pc1 := 2623) at_0_2621 (am_lk1 l4 rfl rfl) rfl ?_
                                                                              refine aw_iconst (v := 1) (pc1 := 2624) at_0_2623 (by decide) rfl ?_
                                                                              refine aw_iadd (v := (x4 + 1)) (pc1 := 2625) at_0_2624 rfl rfl ?_
                                                                              obtain ⟨v759, e760, hs307⟩ := am_bind hs306
                                                                              clear hs306
                                                                              refine aw_pX (j := 0) (pc1 := 2626) at_0_2625 rfl rfl e760 rfl ?_
                                                                              refine aw_vload_n (pc1 := 2627) at_0_2626 (am_lk1 l0 rfl rfl) rfl rfl ?_
                                                                              refine aw_iload (pc1 := 2629) at_0_2627 (am_lk1 l4 rfl rfl) rfl ?_
                                                                              refine aw_iconst (v := 2) (pc1 := 2630) at_0_2629 (by decide) rfl ?_
                                                                              refine aw_iadd (v := (x4 + 2)) (pc1 := 2631) at_0_2630 rfl rfl ?_
                                                                              obtain ⟨v761, e762, hs308⟩ := am_bind hs307
                                                                              clear hs307
                                                                              refine aw_pX (j := 0) (pc1 := 2632) at_0_2631 rfl rfl e762 rfl ?_
                                                                              obtain ⟨z763, hs309⟩ := am_ift hs308
                                                                              clear hs308
                                                                              refine aw_call (F := fm_500 x2 v759 v761 h757) (t := true) (na := 3) (kd := 1) (as := [x2, (.int v759), (.int v761)]) at_0_2632 (am_k3v kb_500) mn_500 mk_500 rfl rfl (am_ok_v mi_500 (am_hl rfl (am_ccR i2 (am_ccI (am_ccI am_cats_0))) rfl) z763) (am_hc am_cats_0 rfl) (fun _ => ⟨rfl, hh_0⟩) (fun o1 hz9 => rm_500 x2 v759 v761 h757 o1 i2 hz9) ?_
                                                                              rcases am_cI_s hs309 with ⟨v764, h765, f766, hs310⟩ | hs310
                                                                              · clear hs309
                                                                                refine Or.inl ⟨_, _, f766, ?_⟩
                                                                                show am_W X _ 0 2635 _ [(.int v764)] h765 _
                                                                                refine aw_istore (lv1 := am_put1 _ 6 _) (pc1 := 2637) at_0_2635 rfl rfl ?_
                                                                                refine aw_vload_n (pc1 := 2638) at_0_2637 (am_lk1 (am_lk1 l2 rfl rfl) rfl rfl) i2 rfl ?_
                                                                                obtain ⟨z767, hs311⟩ := am_ift hs310
                                                                                clear hs310
                                                                                refine aw_call (F := fm_324 x2 h765) (t := true) (na := 1) (kd := 1) (as := [x2]) at_0_2638 (am_k3v kb_324) mn_324 mk_324 rfl rfl (am_ok_v mi_324 (am_hl rfl (am_ccR i2 am_cats_0) rfl) z767) (am_hc am_cats_0 rfl) (fun _ => ⟨rfl, hh_0⟩) (fun o1 hz9 => rm_324 x2 h765 o1 i2 hz9) ?_
                                                                                rcases am_cI_s hs311 with ⟨v768, h769, f770, hs312⟩ | hs312
                                                                                · clear hs311
                                                                                  refine Or.inl ⟨_, _, f770, ?_⟩
                                                                                  show am_W X _ 0 2641 _ [(.int v768)] h769 _
                                                                                  refine aw_iload (pc1 := 2643) at_0_2641 (am_lk1 am_lk0 rfl rfl) rfl ?_
                                                                                  by_cases c771 : v768 = v756
                                                                                  · rw [if_pos c771] at hs312
                                                                                    refine aw_iceq_t at_0_2643 c771 ?_
                                                                                    refine aw_iload (pc1 := 2650) at_0_2648 (am_lk1 am_lk0 rfl rfl) rfl ?_
                                                                                    by_cases c772 : ¬ v756 = 0
                                                                                    · rw [if_pos c772] at hs312
                                                                                      refine aw_ifne_t at_0_2650 c772 ?_
                                                                                      exact rg_0_2665 (fun z0 z1 z2 z3 h o hs312 => ih z0 z1 z2 z3 h o hs312) x1 x2 x3 x4 h769 o (am_lk1 (am_lk1 l0 rfl rfl) rfl rfl) (am_lk1 (am_lk1 l1 rfl rfl) rfl rfl) (am_lk1 (am_lk1 l2 rfl rfl) rfl rfl) (am_lk1 (am_lk1 l3 rfl rfl) rfl rfl) (am_lk1 (am_lk1 l4 rfl rfl) rfl rfl) i1 i2 i3 hs312
                                                                                    · rw [if_neg c772] at hs312
                                                                                      refine aw_ifne_f (pc1 := 2653) at_0_2650 c772 rfl ?_
                                                                                      refine aw_vload_n (pc1 := 2654) at_0_2653 (am_lk1 (am_lk1 l3 rfl rfl) rfl rfl) i3 rfl ?_
                                                                                      refine aw_iconst (v := 0) (pc1 := 2655) at_0_2654 (by decide) rfl ?_
                                                                                      obtain ⟨v773, e774, hs313⟩ := am_bind hs312
                                                                                      clear hs312
                                                                                      refine aw_pAL (pc1 := 2656) at_0_2655 e774 rfl ?_
                                                                                      refine aw_iload (pc1 := 2658) at_0_2656 am_lk0 rfl ?_
                                                                                      refine aw_i2l (v := (Int32.toInt64 v764)) (pc1 := 2659) at_0_2658 rfl rfl ?_
                                                                                      refine aw_lcmp (v := (lg_cmp v773 (Int32.toInt64 v764))) (pc1 := 2660) at_0_2659 rfl rfl ?_
                                                                                      by_cases c775 : (lg_cmp v773 (Int32.toInt64 v764)) = 0
                                                                                      · rw [if_pos c775] at hs313
                                                                                        refine aw_ifeq_t at_0_2660 c775 ?_
                                                                                        exact rg_0_2665 (fun z0 z1 z2 z3 h o hs313 => ih z0 z1 z2 z3 h o hs313) x1 x2 x3 x4 h769 o (am_lk1 (am_lk1 l0 rfl rfl) rfl rfl) (am_lk1 (am_lk1 l1 rfl rfl) rfl rfl) (am_lk1 (am_lk1 l2 rfl rfl) rfl rfl) (am_lk1 (am_lk1 l3 rfl rfl) rfl rfl) (am_lk1 (am_lk1 l4 rfl rfl) rfl rfl) i1 i2 i3 hs313
                                                                                      · rw [if_neg c775] at hs313
                                                                                        refine aw_ifeq_f (pc1 := 2663) at_0_2660 c775 rfl ?_
                                                                                        refine aw_iconst (v := 0) (pc1 := 2664) at_0_2663 (by decide) rfl ?_
                                                                                        cases hs313
                                                                                        exact aw_iret at_0_2664 (by rw [rt_0]; decide) rfl
                                                                                  · rw [if_neg c771] at hs312
                                                                                    refine aw_iceq_f (pc1 := 2646) at_0_2643 c771 rfl ?_
                                                                                    refine aw_iconst (v := 0) (pc1 := 2647) at_0_2646 (by decide) rfl ?_
                                                                                    cases hs312
                                                                                    exact aw_iret at_0_2647 (by rw [rt_0]; decide) rfl
                                                                                · clear hs311
                                                                                  exact Or.inr hs312
                                                                              · clear hs309
                                                                                exact Or.inr hs310
                                                                            · clear hs305
                                                                              exact Or.inr hs306
                                                                          · rw [if_neg c751] at hs1
                                                                            by_cases c776 : (v2 &&& 63) = 35
                                                                            · rw [if_pos c776] at hs1
                                                                              refine aw_tsw (t := 2668) at_0_40 (by rw [c776]; rfl) ?_
                                                                              refine aw_vload_n (pc1 := 2669) at_0_2668 l1 i1 rfl ?_
                                                                              refine aw_vload_n (pc1 := 2670) at_0_2669 l0 rfl rfl ?_
                                                                              refine aw_iload (pc1 := 2672) at_0_2670 l4 rfl ?_
                                                                              refine aw_iconst (v := 1) (pc1 := 2673) at_0_2672 (by decide) rfl ?_
                                                                              refine aw_iadd (v := (x4 + 1)) (pc1 := 2674) at_0_2673 rfl rfl ?_
                                                                              obtain ⟨v777, e778, hs314⟩ := am_bind hs1
                                                                              clear hs1
                                                                              refine aw_pX (j := 0) (pc1 := 2675) at_0_2674 rfl rfl e778 rfl ?_
                                                                              refine aw_vload_n (pc1 := 2676) at_0_2675 l0 rfl rfl ?_
                                                                              refine aw_iload (pc1 := 2678) at_0_2676 l4 rfl ?_
                                                                              refine aw_iconst (v := 2) (pc1 := 2679) at_0_2678 (by decide) rfl ?_
                                                                              refine aw_iadd (v := (x4 + 2)) (pc1 := 2680) at_0_2679 rfl rfl ?_
                                                                              obtain ⟨v779, e780, hs315⟩ := am_bind hs314
                                                                              clear hs314
                                                                              refine aw_pX (j := 0) (pc1 := 2681) at_0_2680 rfl rfl e780 rfl ?_
                                                                              refine aw_vload_n (pc1 := 2682) at_0_2681 l3 i3 rfl ?_
                                                                              refine aw_call (F := fm_215 N x1 v777 v779 x3 h) (t := false) (na := 4) (kd := 0) (as := [x1, (.int v777), (.int v779), x3]) at_0_2682 (am_k3s kb_215) mn_215 mk_215 rfl rfl (am_ok_s mi_215 (am_hl rfl (am_ccR i1 (am_ccI (am_ccI (am_ccR i3 am_cats_0)))) rfl)) (am_hc am_cats_0 rfl) (fun hz9 => by cases hz9) (fun o1 hz9 => rm_215 x1 v777 v779 x3 h o1 i1 i3 hz9) ?_
                                                                              rcases am_cI_s hs315 with ⟨v781, h782, f783, hs316⟩ | hs316
                                                                              · clear hs315
                                                                                refine Or.inl ⟨_, _, f783, ?_⟩
                                                                                show am_W X _ 0 2685 _ [(.int v781)] h782 _
                                                                                refine aw_istore (lv1 := am_put1 _ 5 _) (pc1 := 2687) at_0_2685 rfl rfl ?_
                                                                                refine aw_vload_n (pc1 := 2688) at_0_2687 (am_lk1 l2 rfl rfl) i2 rfl ?_
                                                                                refine aw_vload_n (pc1 := 2689) at_0_2688 (am_lk1 l0 rfl rfl) rfl rfl ?_
                                                                                refine aw_iload (pc1 := 2691) at_0_2689 (am_lk1 l4 rfl rfl) rfl ?_
                                                                                refine aw_iconst (v := 1) (pc1 := 2692) at_0_2691 (by decide) rfl ?_
                                                                                refine aw_iadd (v := (x4 + 1)) (pc1 := 2693) at_0_2692 rfl rfl ?_
                                                                                obtain ⟨v784, e785, hs317⟩ := am_bind hs316
                                                                                clear hs316
                                                                                refine aw_pX (j := 0) (pc1 := 2694) at_0_2693 rfl rfl e785 rfl ?_
                                                                                refine aw_vload_n (pc1 := 2695) at_0_2694 (am_lk1 l0 rfl rfl) rfl rfl ?_
                                                                                refine aw_iload (pc1 := 2697) at_0_2695 (am_lk1 l4 rfl rfl) rfl ?_
                                                                                refine aw_iconst (v := 2) (pc1 := 2698) at_0_2697 (by decide) rfl ?_
                                                                                refine aw_iadd (v := (x4 + 2)) (pc1 := 2699) at_0_2698 rfl rfl ?_
                                                                                obtain ⟨v786, e787, hs318⟩ := am_bind hs317
                                                                                clear hs317
                                                                                refine aw_pX (j := 0) (pc1 := 2700) at_0_2699 rfl rfl e787 rfl ?_
                                                                                obtain ⟨z788, hs319⟩ := am_ift hs318
                                                                                clear hs318
                                                                                refine aw_call (F := fm_502 N x2 v784 v786 h782) (t := true) (na := 3) (kd := 1) (as := [x2, (.int v784), (.int v786)]) at_0_2700 (am_k3v kb_502) mn_502 mk_502 rfl rfl (am_ok_v mi_502 (am_hl rfl (am_ccR i2 (am_ccI (am_ccI am_cats_0))) rfl) z788) (am_hc am_cats_0 rfl) (fun _ => ⟨rfl, hh_0⟩) (fun o1 hz9 => rm_502 x2 v784 v786 h782 o1 i2 hz9) ?_
                                                                                rcases am_cI_s hs319 with ⟨v789, h790, f791, hs320⟩ | hs320
                                                                                · clear hs319
                                                                                  refine Or.inl ⟨_, _, f791, ?_⟩
                                                                                  show am_W X _ 0 2703 _ [(.int v789)] h790 _
                                                                                  refine aw_istore (lv1 := am_put1 _ 6 _) (pc1 := 2705) at_0_2703 rfl rfl ?_
                                                                                  refine aw_vload_n (pc1 := 2706) at_0_2705 (am_lk1 (am_lk1 l2 rfl rfl) rfl rfl) i2 rfl ?_
                                                                                  obtain ⟨z792, hs321⟩ := am_ift hs320
                                                                                  clear hs320
                                                                                  refine aw_call (F := fm_324 x2 h790) (t := true) (na := 1) (kd := 1) (as := [x2]) at_0_2706 (am_k3v kb_324) mn_324 mk_324 rfl rfl (am_ok_v mi_324 (am_hl rfl (am_ccR i2 am_cats_0) rfl) z792) (am_hc am_cats_0 rfl) (fun _ => ⟨rfl, hh_0⟩) (fun o1 hz9 => rm_324 x2 h790 o1 i2 hz9) ?_
                                                                                  rcases am_cI_s hs321 with ⟨v793, h794, f795, hs322⟩ | hs322
                                                                                  · clear hs321
                                                                                    refine Or.inl ⟨_, _, f795, ?_⟩
                                                                                    show am_W X _ 0 2709 _ [(.int v793)] h794 _
                                                                                    refine aw_iload (pc1 := 2711) at_0_2709 (am_lk1 am_lk0 rfl rfl) rfl ?_
                                                                                    by_cases c796 : v793 = v781
                                                                                    · rw [if_pos c796] at hs322
                                                                                      refine aw_iceq_t at_0_2711 c796 ?_
                                                                                      refine aw_iload (pc1 := 2718) at_0_2716 (am_lk1 am_lk0 rfl rfl) rfl ?_
                                                                                      by_cases c797 : ¬ v781 = 0
                                                                                      · rw [if_pos c797] at hs322
                                                                                        refine aw_ifne_t at_0_2718 c797 ?_
                                                                                        exact rg_0_2733 (fun z0 z1 z2 z3 h o hs322 => ih z0 z1 z2 z3 h o hs322) x1 x2 x3 x4 h794 o (am_lk1 (am_lk1 l0 rfl rfl) rfl rfl) (am_lk1 (am_lk1 l1 rfl rfl) rfl rfl) (am_lk1 (am_lk1 l2 rfl rfl) rfl rfl) (am_lk1 (am_lk1 l3 rfl rfl) rfl rfl) (am_lk1 (am_lk1 l4 rfl rfl) rfl rfl) i1 i2 i3 hs322
                                                                                      · rw [if_neg c797] at hs322
                                                                                        refine aw_ifne_f (pc1 := 2721) at_0_2718 c797 rfl ?_
                                                                                        refine aw_vload_n (pc1 := 2722) at_0_2721 (am_lk1 (am_lk1 l3 rfl rfl) rfl rfl) i3 rfl ?_
                                                                                        refine aw_iconst (v := 0) (pc1 := 2723) at_0_2722 (by decide) rfl ?_
                                                                                        obtain ⟨v798, e799, hs323⟩ := am_bind hs322
                                                                                        clear hs322
                                                                                        refine aw_pAL (pc1 := 2724) at_0_2723 e799 rfl ?_
                                                                                        refine aw_iload (pc1 := 2726) at_0_2724 am_lk0 rfl ?_
                                                                                        refine aw_i2l (v := (Int32.toInt64 v789)) (pc1 := 2727) at_0_2726 rfl rfl ?_
                                                                                        refine aw_lcmp (v := (lg_cmp v798 (Int32.toInt64 v789))) (pc1 := 2728) at_0_2727 rfl rfl ?_
                                                                                        by_cases c800 : (lg_cmp v798 (Int32.toInt64 v789)) = 0
                                                                                        · rw [if_pos c800] at hs323
                                                                                          refine aw_ifeq_t at_0_2728 c800 ?_
                                                                                          exact rg_0_2733 (fun z0 z1 z2 z3 h o hs323 => ih z0 z1 z2 z3 h o hs323) x1 x2 x3 x4 h794 o (am_lk1 (am_lk1 l0 rfl rfl) rfl rfl) (am_lk1 (am_lk1 l1 rfl rfl) rfl rfl) (am_lk1 (am_lk1 l2 rfl rfl) rfl rfl) (am_lk1 (am_lk1 l3 rfl rfl) rfl rfl) (am_lk1 (am_lk1 l4 rfl rfl) rfl rfl) i1 i2 i3 hs323
                                                                                        · rw [if_neg c800] at hs323
                                                                                          refine aw_ifeq_f (pc1 := 2731) at_0_2728 c800 rfl ?_
                                                                                          refine aw_iconst (v := 0) (pc1 := 2732) at_0_2731 (by decide) rfl ?_
                                                                                          cases hs323
                                                                                          exact aw_iret at_0_2732 (by rw [rt_0]; decide) rfl
                                                                                    · rw [if_neg c796] at hs322
                                                                                      refine aw_iceq_f (pc1 := 2714) at_0_2711 c796 rfl ?_
                                                                                      refine aw_iconst (v := 0) (pc1 := 2715) at_0_2714 (by decide) rfl ?_
                                                                                      cases hs322
                                                                                      exact aw_iret at_0_2715 (by rw [rt_0]; decide) rfl
                                                                                  · clear hs321
                                                                                    exact Or.inr hs322
                                                                                · clear hs319
                                                                                  exact Or.inr hs320
                                                                              · clear hs315
                                                                                exact Or.inr hs316
                                                                            · rw [if_neg c776] at hs1
                                                                              by_cases c801 : (v2 &&& 63) = 36
                                                                              · rw [if_pos c801] at hs1
                                                                                refine aw_tsw (t := 2736) at_0_40 (by rw [c801]; rfl) ?_
                                                                                refine aw_vload_n (pc1 := 2737) at_0_2736 l1 i1 rfl ?_
                                                                                refine aw_vload_n (pc1 := 2738) at_0_2737 l0 rfl rfl ?_
                                                                                refine aw_iload (pc1 := 2740) at_0_2738 l4 rfl ?_
                                                                                refine aw_iconst (v := 1) (pc1 := 2741) at_0_2740 (by decide) rfl ?_
                                                                                refine aw_iadd (v := (x4 + 1)) (pc1 := 2742) at_0_2741 rfl rfl ?_
                                                                                obtain ⟨v802, e803, hs324⟩ := am_bind hs1
                                                                                clear hs1
                                                                                refine aw_pX (j := 0) (pc1 := 2743) at_0_2742 rfl rfl e803 rfl ?_
                                                                                refine aw_vload_n (pc1 := 2744) at_0_2743 l0 rfl rfl ?_
                                                                                refine aw_iload (pc1 := 2746) at_0_2744 l4 rfl ?_
                                                                                refine aw_iconst (v := 2) (pc1 := 2747) at_0_2746 (by decide) rfl ?_
                                                                                refine aw_iadd (v := (x4 + 2)) (pc1 := 2748) at_0_2747 rfl rfl ?_
                                                                                obtain ⟨v804, e805, hs325⟩ := am_bind hs324
                                                                                clear hs324
                                                                                refine aw_pX (j := 0) (pc1 := 2749) at_0_2748 rfl rfl e805 rfl ?_
                                                                                refine aw_vload_n (pc1 := 2750) at_0_2749 l3 i3 rfl ?_
                                                                                refine aw_call (F := fm_231 N x1 v802 v804 x3 h) (t := false) (na := 4) (kd := 0) (as := [x1, (.int v802), (.int v804), x3]) at_0_2750 (am_k3s kb_231) mn_231 mk_231 rfl rfl (am_ok_s mi_231 (am_hl rfl (am_ccR i1 (am_ccI (am_ccI (am_ccR i3 am_cats_0)))) rfl)) (am_hc am_cats_0 rfl) (fun hz9 => by cases hz9) (fun o1 hz9 => rm_231 x1 v802 v804 x3 h o1 i1 i3 hz9) ?_
                                                                                rcases am_cI_s hs325 with ⟨v806, h807, f808, hs326⟩ | hs326
                                                                                · clear hs325
                                                                                  refine Or.inl ⟨_, _, f808, ?_⟩
                                                                                  show am_W X _ 0 2753 _ [(.int v806)] h807 _
                                                                                  refine aw_istore (lv1 := am_put1 _ 5 _) (pc1 := 2755) at_0_2753 rfl rfl ?_
                                                                                  refine aw_vload_n (pc1 := 2756) at_0_2755 (am_lk1 l2 rfl rfl) i2 rfl ?_
                                                                                  refine aw_vload_n (pc1 := 2757) at_0_2756 (am_lk1 l0 rfl rfl) rfl rfl ?_
                                                                                  refine aw_iload (pc1 := 2759) at_0_2757 (am_lk1 l4 rfl rfl) rfl ?_
                                                                                  refine aw_iconst (v := 1) (pc1 := 2760) at_0_2759 (by decide) rfl ?_
                                                                                  refine aw_iadd (v := (x4 + 1)) (pc1 := 2761) at_0_2760 rfl rfl ?_
                                                                                  obtain ⟨v809, e810, hs327⟩ := am_bind hs326
                                                                                  clear hs326
                                                                                  refine aw_pX (j := 0) (pc1 := 2762) at_0_2761 rfl rfl e810 rfl ?_
                                                                                  refine aw_vload_n (pc1 := 2763) at_0_2762 (am_lk1 l0 rfl rfl) rfl rfl ?_
                                                                                  refine aw_iload (pc1 := 2765) at_0_2763 (am_lk1 l4 rfl rfl) rfl ?_
                                                                                  refine aw_iconst (v := 2) (pc1 := 2766) at_0_2765 (by decide) rfl ?_
                                                                                  refine aw_iadd (v := (x4 + 2)) (pc1 := 2767) at_0_2766 rfl rfl ?_
                                                                                  obtain ⟨v811, e812, hs328⟩ := am_bind hs327
                                                                                  clear hs327
                                                                                  refine aw_pX (j := 0) (pc1 := 2768) at_0_2767 rfl rfl e812 rfl ?_
                                                                                  obtain ⟨z813, hs329⟩ := am_ift hs328
                                                                                  clear hs328
                                                                                  refine aw_call (F := fm_518 N x2 v809 v811 h807) (t := true) (na := 3) (kd := 1) (as := [x2, (.int v809), (.int v811)]) at_0_2768 (am_k3v kb_518) mn_518 mk_518 rfl rfl (am_ok_v mi_518 (am_hl rfl (am_ccR i2 (am_ccI (am_ccI am_cats_0))) rfl) z813) (am_hc am_cats_0 rfl) (fun _ => ⟨rfl, hh_0⟩) (fun o1 hz9 => rm_518 x2 v809 v811 h807 o1 i2 hz9) ?_
                                                                                  rcases am_cI_s hs329 with ⟨v814, h815, f816, hs330⟩ | hs330
                                                                                  · clear hs329
                                                                                    refine Or.inl ⟨_, _, f816, ?_⟩
                                                                                    show am_W X _ 0 2771 _ [(.int v814)] h815 _
                                                                                    refine aw_istore (lv1 := am_put1 _ 6 _) (pc1 := 2773) at_0_2771 rfl rfl ?_
                                                                                    refine aw_vload_n (pc1 := 2774) at_0_2773 (am_lk1 (am_lk1 l2 rfl rfl) rfl rfl) i2 rfl ?_
                                                                                    obtain ⟨z817, hs331⟩ := am_ift hs330
                                                                                    clear hs330
                                                                                    refine aw_call (F := fm_324 x2 h815) (t := true) (na := 1) (kd := 1) (as := [x2]) at_0_2774 (am_k3v kb_324) mn_324 mk_324 rfl rfl (am_ok_v mi_324 (am_hl rfl (am_ccR i2 am_cats_0) rfl) z817) (am_hc am_cats_0 rfl) (fun _ => ⟨rfl, hh_0⟩) (fun o1 hz9 => rm_324 x2 h815 o1 i2 hz9) ?_
                                                                                    rcases am_cI_s hs331 with ⟨v818, h819, f820, hs332⟩ | hs332
                                                                                    · clear hs331
                                                                                      refine Or.inl ⟨_, _, f820, ?_⟩
                                                                                      show am_W X _ 0 2777 _ [(.int v818)] h819 _
                                                                                      refine aw_iload (pc1 := 2779) at_0_2777 (am_lk1 am_lk0 rfl rfl) rfl ?_
                                                                                      by_cases c821 : v818 = v806
                                                                                      · rw [if_pos c821] at hs332
                                                                                        refine aw_iceq_t at_0_2779 c821 ?_
                                                                                        refine aw_iload (pc1 := 2786) at_0_2784 (am_lk1 am_lk0 rfl rfl) rfl ?_
                                                                                        by_cases c822 : ¬ v806 = 0
                                                                                        · rw [if_pos c822] at hs332
                                                                                          refine aw_ifne_t at_0_2786 c822 ?_
                                                                                          exact rg_0_2808 (fun z0 z1 z2 z3 h o hs332 => ih z0 z1 z2 z3 h o hs332) x1 x2 x3 x4 h819 o (am_lk1 (am_lk1 l0 rfl rfl) rfl rfl) (am_lk1 (am_lk1 l1 rfl rfl) rfl rfl) (am_lk1 (am_lk1 l2 rfl rfl) rfl rfl) (am_lk1 (am_lk1 l3 rfl rfl) rfl rfl) (am_lk1 (am_lk1 l4 rfl rfl) rfl rfl) i1 i2 i3 hs332
                                                                                        · rw [if_neg c822] at hs332
                                                                                          refine aw_ifne_f (pc1 := 2789) at_0_2786 c822 rfl ?_
                                                                                          refine aw_vload_n (pc1 := 2790) at_0_2789 (am_lk1 (am_lk1 l3 rfl rfl) rfl rfl) i3 rfl ?_
                                                                                          refine aw_iconst (v := 0) (pc1 := 2791) at_0_2790 (by decide) rfl ?_
                                                                                          obtain ⟨v823, e824, hs333⟩ := am_bind hs332
                                                                                          clear hs332
                                                                                          refine aw_pAL (pc1 := 2792) at_0_2791 e824 rfl ?_
                                                                                          refine aw_iload (pc1 := 2794) at_0_2792 am_lk0 rfl ?_
                                                                                          by_cases c825 : v814 = 0
                                                                                          · rw [if_pos c825] at hs333
                                                                                            refine aw_ifeq_t at_0_2794 c825 ?_
                                                                                            refine aw_lconst (v := 0) (pc1 := 2802) at_0_2801 (by decide) rfl ?_
                                                                                            exact rg_0_2802 (fun z0 z1 z2 z3 h o hs333 => ih z0 z1 z2 z3 h o hs333) x1 x2 x3 x4 v823 0 h819 o (am_lk1 (am_lk1 l0 rfl rfl) rfl rfl) (am_lk1 (am_lk1 l1 rfl rfl) rfl rfl) (am_lk1 (am_lk1 l2 rfl rfl) rfl rfl) (am_lk1 (am_lk1 l3 rfl rfl) rfl rfl) (am_lk1 (am_lk1 l4 rfl rfl) rfl rfl) i1 i2 i3 hs333
                                                                                          · rw [if_neg c825] at hs333
                                                                                            refine aw_ifeq_f (pc1 := 2797) at_0_2794 c825 rfl ?_
                                                                                            refine aw_lconst (v := 1) (pc1 := 2798) at_0_2797 (by decide) rfl ?_
                                                                                            refine aw_goto at_0_2798 ?_
                                                                                            exact rg_0_2802 (fun z0 z1 z2 z3 h o hs333 => ih z0 z1 z2 z3 h o hs333) x1 x2 x3 x4 v823 1 h819 o (am_lk1 (am_lk1 l0 rfl rfl) rfl rfl) (am_lk1 (am_lk1 l1 rfl rfl) rfl rfl) (am_lk1 (am_lk1 l2 rfl rfl) rfl rfl) (am_lk1 (am_lk1 l3 rfl rfl) rfl rfl) (am_lk1 (am_lk1 l4 rfl rfl) rfl rfl) i1 i2 i3 hs333
                                                                                      · rw [if_neg c821] at hs332
                                                                                        refine aw_iceq_f (pc1 := 2782) at_0_2779 c821 rfl ?_
                                                                                        refine aw_iconst (v := 0) (pc1 := 2783) at_0_2782 (by decide) rfl ?_
                                                                                        cases hs332
                                                                                        exact aw_iret at_0_2783 (by rw [rt_0]; decide) rfl
                                                                                    · clear hs331
                                                                                      exact Or.inr hs332
                                                                                  · clear hs329
                                                                                    exact Or.inr hs330
                                                                                · clear hs325
                                                                                  exact Or.inr hs326
                                                                              · rw [if_neg c801] at hs1
                                                                                by_cases c826 : (v2 &&& 63) = 37
                                                                                · rw [if_pos c826] at hs1
                                                                                  refine aw_tsw (t := 2811) at_0_40 (by rw [c826]; rfl) ?_
                                                                                  refine aw_vload_n (pc1 := 2812) at_0_2811 l1 i1 rfl ?_
                                                                                  refine aw_vload_n (pc1 := 2813) at_0_2812 l0 rfl rfl ?_
                                                                                  refine aw_iload (pc1 := 2815) at_0_2813 l4 rfl ?_
                                                                                  refine aw_iconst (v := 1) (pc1 := 2816) at_0_2815 (by decide) rfl ?_
                                                                                  refine aw_iadd (v := (x4 + 1)) (pc1 := 2817) at_0_2816 rfl rfl ?_
                                                                                  obtain ⟨v827, e828, hs334⟩ := am_bind hs1
                                                                                  clear hs1
                                                                                  refine aw_pX (j := 0) (pc1 := 2818) at_0_2817 rfl rfl e828 rfl ?_
                                                                                  refine aw_vload_n (pc1 := 2819) at_0_2818 l3 i3 rfl ?_
                                                                                  refine aw_call (F := fm_234 N x1 v827 x3 h) (t := false) (na := 3) (kd := 0) (as := [x1, (.int v827), x3]) at_0_2819 (am_k3s kb_234) mn_234 mk_234 rfl rfl (am_ok_s mi_234 (am_hl rfl (am_ccR i1 (am_ccI (am_ccR i3 am_cats_0))) rfl)) (am_hc am_cats_0 rfl) (fun hz9 => by cases hz9) (fun o1 hz9 => rm_234 x1 v827 x3 h o1 i1 i3 hz9) ?_
                                                                                  rcases am_cI_s hs334 with ⟨v829, h830, f831, hs335⟩ | hs335
                                                                                  · clear hs334
                                                                                    refine Or.inl ⟨_, _, f831, ?_⟩
                                                                                    show am_W X _ 0 2822 _ [(.int v829)] h830 _
                                                                                    refine aw_istore (lv1 := am_put1 _ 5 _) (pc1 := 2824) at_0_2822 rfl rfl ?_
                                                                                    refine aw_vload_n (pc1 := 2825) at_0_2824 (am_lk1 l2 rfl rfl) i2 rfl ?_
                                                                                    refine aw_vload_n (pc1 := 2826) at_0_2825 (am_lk1 l0 rfl rfl) rfl rfl ?_
                                                                                    refine aw_iload (pc1 := 2828) at_0_2826 (am_lk1 l4 rfl rfl) rfl ?_
                                                                                    refine aw_iconst (v := 1) (pc1 := 2829) at_0_2828 (by decide) rfl ?_
                                                                                    refine aw_iadd (v := (x4 + 1)) (pc1 := 2830) at_0_2829 rfl rfl ?_
                                                                                    obtain ⟨v832, e833, hs336⟩ := am_bind hs335
                                                                                    clear hs335
                                                                                    refine aw_pX (j := 0) (pc1 := 2831) at_0_2830 rfl rfl e833 rfl ?_
                                                                                    obtain ⟨z834, hs337⟩ := am_ift hs336
                                                                                    clear hs336
                                                                                    refine aw_call (F := fm_519 N x2 v832 h830) (t := true) (na := 2) (kd := 1) (as := [x2, (.int v832)]) at_0_2831 (am_k3v kb_519) mn_519 mk_519 rfl rfl (am_ok_v mi_519 (am_hl rfl (am_ccR i2 (am_ccI am_cats_0)) rfl) z834) (am_hc am_cats_0 rfl) (fun _ => ⟨rfl, hh_0⟩) (fun o1 hz9 => rm_519 x2 v832 h830 o1 i2 hz9) ?_
                                                                                    rcases am_cI_s hs337 with ⟨v835, h836, f837, hs338⟩ | hs338
                                                                                    · clear hs337
                                                                                      refine Or.inl ⟨_, _, f837, ?_⟩
                                                                                      show am_W X _ 0 2834 _ [(.int v835)] h836 _
                                                                                      refine aw_istore (lv1 := am_put1 _ 6 _) (pc1 := 2836) at_0_2834 rfl rfl ?_
                                                                                      refine aw_vload_n (pc1 := 2837) at_0_2836 (am_lk1 (am_lk1 l2 rfl rfl) rfl rfl) i2 rfl ?_
                                                                                      obtain ⟨z838, hs339⟩ := am_ift hs338
                                                                                      clear hs338
                                                                                      refine aw_call (F := fm_324 x2 h836) (t := true) (na := 1) (kd := 1) (as := [x2]) at_0_2837 (am_k3v kb_324) mn_324 mk_324 rfl rfl (am_ok_v mi_324 (am_hl rfl (am_ccR i2 am_cats_0) rfl) z838) (am_hc am_cats_0 rfl) (fun _ => ⟨rfl, hh_0⟩) (fun o1 hz9 => rm_324 x2 h836 o1 i2 hz9) ?_
                                                                                      rcases am_cI_s hs339 with ⟨v839, h840, f841, hs340⟩ | hs340
                                                                                      · clear hs339
                                                                                        refine Or.inl ⟨_, _, f841, ?_⟩
                                                                                        show am_W X _ 0 2840 _ [(.int v839)] h840 _
                                                                                        refine aw_iload (pc1 := 2842) at_0_2840 (am_lk1 am_lk0 rfl rfl) rfl ?_
                                                                                        by_cases c842 : v839 = v829
                                                                                        · rw [if_pos c842] at hs340
                                                                                          refine aw_iceq_t at_0_2842 c842 ?_
                                                                                          refine aw_iload (pc1 := 2849) at_0_2847 (am_lk1 am_lk0 rfl rfl) rfl ?_
                                                                                          by_cases c843 : ¬ v829 = 0
                                                                                          · rw [if_pos c843] at hs340
                                                                                            refine aw_ifne_t at_0_2849 c843 ?_
                                                                                            exact rg_0_2864 (fun z0 z1 z2 z3 h o hs340 => ih z0 z1 z2 z3 h o hs340) x1 x2 x3 x4 h840 o (am_lk1 (am_lk1 l0 rfl rfl) rfl rfl) (am_lk1 (am_lk1 l1 rfl rfl) rfl rfl) (am_lk1 (am_lk1 l2 rfl rfl) rfl rfl) (am_lk1 (am_lk1 l3 rfl rfl) rfl rfl) (am_lk1 (am_lk1 l4 rfl rfl) rfl rfl) i1 i2 i3 hs340
                                                                                          · rw [if_neg c843] at hs340
                                                                                            refine aw_ifne_f (pc1 := 2852) at_0_2849 c843 rfl ?_
                                                                                            refine aw_vload_n (pc1 := 2853) at_0_2852 (am_lk1 (am_lk1 l3 rfl rfl) rfl rfl) i3 rfl ?_
                                                                                            refine aw_iconst (v := 0) (pc1 := 2854) at_0_2853 (by decide) rfl ?_
                                                                                            obtain ⟨v844, e845, hs341⟩ := am_bind hs340
                                                                                            clear hs340
                                                                                            refine aw_pAL (pc1 := 2855) at_0_2854 e845 rfl ?_
                                                                                            refine aw_iload (pc1 := 2857) at_0_2855 am_lk0 rfl ?_
                                                                                            refine aw_i2l (v := (Int32.toInt64 v835)) (pc1 := 2858) at_0_2857 rfl rfl ?_
                                                                                            refine aw_lcmp (v := (lg_cmp v844 (Int32.toInt64 v835))) (pc1 := 2859) at_0_2858 rfl rfl ?_
                                                                                            by_cases c846 : (lg_cmp v844 (Int32.toInt64 v835)) = 0
                                                                                            · rw [if_pos c846] at hs341
                                                                                              refine aw_ifeq_t at_0_2859 c846 ?_
                                                                                              exact rg_0_2864 (fun z0 z1 z2 z3 h o hs341 => ih z0 z1 z2 z3 h o hs341) x1 x2 x3 x4 h840 o (am_lk1 (am_lk1 l0 rfl rfl) rfl rfl) (am_lk1 (am_lk1 l1 rfl rfl) rfl rfl) (am_lk1 (am_lk1 l2 rfl rfl) rfl rfl) (am_lk1 (am_lk1 l3 rfl rfl) rfl rfl) (am_lk1 (am_lk1 l4 rfl rfl) rfl rfl) i1 i2 i3 hs341
                                                                                            · rw [if_neg c846] at hs341
                                                                                              refine aw_ifeq_f (pc1 := 2862) at_0_2859 c846 rfl ?_
                                                                                              refine aw_iconst (v := 0) (pc1 := 2863) at_0_2862 (by decide) rfl ?_
                                                                                              cases hs341
                                                                                              exact aw_iret at_0_2863 (by rw [rt_0]; decide) rfl
                                                                                        · rw [if_neg c842] at hs340
                                                                                          refine aw_iceq_f (pc1 := 2845) at_0_2842 c842 rfl ?_
                                                                                          refine aw_iconst (v := 0) (pc1 := 2846) at_0_2845 (by decide) rfl ?_
                                                                                          cases hs340
                                                                                          exact aw_iret at_0_2846 (by rw [rt_0]; decide) rfl
                                                                                      · clear hs339
                                                                                        exact Or.inr hs340
                                                                                    · clear hs337
                                                                                      exact Or.inr hs338
                                                                                  · clear hs334
                                                                                    exact Or.inr hs335
                                                                                · rw [if_neg c826] at hs1
                                                                                  by_cases c847 : (v2 &&& 63) = 38
                                                                                  · rw [if_pos c847] at hs1
                                                                                    refine aw_tsw (t := 2867) at_0_40 (by rw [c847]; rfl) ?_
                                                                                    refine aw_vload_n (pc1 := 2868) at_0_2867 l1 i1 rfl ?_
                                                                                    refine aw_vload_n (pc1 := 2869) at_0_2868 l0 rfl rfl ?_
                                                                                    refine aw_iload (pc1 := 2871) at_0_2869 l4 rfl ?_
                                                                                    refine aw_iconst (v := 1) (pc1 := 2872) at_0_2871 (by decide) rfl ?_
                                                                                    refine aw_iadd (v := (x4 + 1)) (pc1 := 2873) at_0_2872 rfl rfl ?_
                                                                                    obtain ⟨v848, e849, hs342⟩ := am_bind hs1
                                                                                    clear hs1
                                                                                    refine aw_pX (j := 0) (pc1 := 2874) at_0_2873 rfl rfl e849 rfl ?_
                                                                                    refine aw_vload_n (pc1 := 2875) at_0_2874 l0 rfl rfl ?_
                                                                                    refine aw_iload (pc1 := 2877) at_0_2875 l4 rfl ?_
                                                                                    refine aw_iconst (v := 2) (pc1 := 2878) at_0_2877 (by decide) rfl ?_
                                                                                    refine aw_iadd (v := (x4 + 2)) (pc1 := 2879) at_0_2878 rfl rfl ?_
                                                                                    obtain ⟨v850, e851, hs343⟩ := am_bind hs342
                                                                                    clear hs342
                                                                                    refine aw_pX (j := 0) (pc1 := 2880) at_0_2879 rfl rfl e851 rfl ?_
                                                                                    refine aw_vload_n (pc1 := 2881) at_0_2880 l3 i3 rfl ?_
                                                                                    refine aw_call (F := fm_236 N x1 v848 v850 x3 h) (t := false) (na := 4) (kd := 0) (as := [x1, (.int v848), (.int v850), x3]) at_0_2881 (am_k3s kb_236) mn_236 mk_236 rfl rfl (am_ok_s mi_236 (am_hl rfl (am_ccR i1 (am_ccI (am_ccI (am_ccR i3 am_cats_0)))) rfl)) (am_hc am_cats_0 rfl) (fun hz9 => by cases hz9) (fun o1 hz9 => rm_236 x1 v848 v850 x3 h o1 i1 i3 hz9) ?_
                                                                                    rcases am_cI_s hs343 with ⟨v852, h853, f854, hs344⟩ | hs344
                                                                                    · clear hs343
                                                                                      refine Or.inl ⟨_, _, f854, ?_⟩
                                                                                      show am_W X _ 0 2884 _ [(.int v852)] h853 _
                                                                                      refine aw_istore (lv1 := am_put1 _ 5 _) (pc1 := 2886) at_0_2884 rfl rfl ?_
                                                                                      refine aw_vload_n (pc1 := 2887) at_0_2886 (am_lk1 l2 rfl rfl) i2 rfl ?_
                                                                                      refine aw_vload_n (pc1 := 2888) at_0_2887 (am_lk1 l0 rfl rfl) rfl rfl ?_
                                                                                      refine aw_iload (pc1 := 2890) at_0_2888 (am_lk1 l4 rfl rfl) rfl ?_
                                                                                      refine aw_iconst (v := 1) (pc1 := 2891) at_0_2890 (by decide) rfl ?_
                                                                                      refine aw_iadd (v := (x4 + 1)) (pc1 := 2892) at_0_2891 rfl rfl ?_
                                                                                      obtain ⟨v855, e856, hs345⟩ := am_bind hs344
                                                                                      clear hs344
                                                                                      refine aw_pX (j := 0) (pc1 := 2893) at_0_2892 rfl rfl e856 rfl ?_
                                                                                      refine aw_vload_n (pc1 := 2894) at_0_2893 (am_lk1 l0 rfl rfl) rfl rfl ?_
                                                                                      refine aw_iload (pc1 := 2896) at_0_2894 (am_lk1 l4 rfl rfl) rfl ?_
                                                                                      refine aw_iconst (v := 2) (pc1 := 2897) at_0_2896 (by decide) rfl ?_
                                                                                      refine aw_iadd (v := (x4 + 2)) (pc1 := 2898) at_0_2897 rfl rfl ?_
                                                                                      obtain ⟨v857, e858, hs346⟩ := am_bind hs345
                                                                                      clear hs345
                                                                                      refine aw_pX (j := 0) (pc1 := 2899) at_0_2898 rfl rfl e858 rfl ?_
                                                                                      obtain ⟨z859, hs347⟩ := am_ift hs346
                                                                                      clear hs346
                                                                                      refine aw_call (F := fm_520 N x2 v855 v857 h853) (t := true) (na := 3) (kd := 1) (as := [x2, (.int v855), (.int v857)]) at_0_2899 (am_k3v kb_520) mn_520 mk_520 rfl rfl (am_ok_v mi_520 (am_hl rfl (am_ccR i2 (am_ccI (am_ccI am_cats_0))) rfl) z859) (am_hc am_cats_0 rfl) (fun _ => ⟨rfl, hh_0⟩) (fun o1 hz9 => rm_520 x2 v855 v857 h853 o1 i2 hz9) ?_
                                                                                      rcases am_cI_s hs347 with ⟨v860, h861, f862, hs348⟩ | hs348
                                                                                      · clear hs347
                                                                                        refine Or.inl ⟨_, _, f862, ?_⟩
                                                                                        show am_W X _ 0 2902 _ [(.int v860)] h861 _
                                                                                        refine aw_istore (lv1 := am_put1 _ 6 _) (pc1 := 2904) at_0_2902 rfl rfl ?_
                                                                                        refine aw_vload_n (pc1 := 2905) at_0_2904 (am_lk1 (am_lk1 l2 rfl rfl) rfl rfl) i2 rfl ?_
                                                                                        obtain ⟨z863, hs349⟩ := am_ift hs348
                                                                                        clear hs348
                                                                                        refine aw_call (F := fm_324 x2 h861) (t := true) (na := 1) (kd := 1) (as := [x2]) at_0_2905 (am_k3v kb_324) mn_324 mk_324 rfl rfl (am_ok_v mi_324 (am_hl rfl (am_ccR i2 am_cats_0) rfl) z863) (am_hc am_cats_0 rfl) (fun _ => ⟨rfl, hh_0⟩) (fun o1 hz9 => rm_324 x2 h861 o1 i2 hz9) ?_
                                                                                        rcases am_cI_s hs349 with ⟨v864, h865, f866, hs350⟩ | hs350
                                                                                        · clear hs349
                                                                                          refine Or.inl ⟨_, _, f866, ?_⟩
                                                                                          show am_W X _ 0 2908 _ [(.int v864)] h865 _
                                                                                          refine aw_iload (pc1 := 2910) at_0_2908 (am_lk1 am_lk0 rfl rfl) rfl ?_
                                                                                          by_cases c867 : v864 = v852
                                                                                          · rw [if_pos c867] at hs350
                                                                                            refine aw_iceq_t at_0_2910 c867 ?_
                                                                                            refine aw_iload (pc1 := 2917) at_0_2915 (am_lk1 am_lk0 rfl rfl) rfl ?_
                                                                                            by_cases c868 : ¬ v852 = 0
                                                                                            · rw [if_pos c868] at hs350
                                                                                              refine aw_ifne_t at_0_2917 c868 ?_
                                                                                              exact rg_0_2932 (fun z0 z1 z2 z3 h o hs350 => ih z0 z1 z2 z3 h o hs350) x1 x2 x3 x4 h865 o (am_lk1 (am_lk1 l0 rfl rfl) rfl rfl) (am_lk1 (am_lk1 l1 rfl rfl) rfl rfl) (am_lk1 (am_lk1 l2 rfl rfl) rfl rfl) (am_lk1 (am_lk1 l3 rfl rfl) rfl rfl) (am_lk1 (am_lk1 l4 rfl rfl) rfl rfl) i1 i2 i3 hs350
                                                                                            · rw [if_neg c868] at hs350
                                                                                              refine aw_ifne_f (pc1 := 2920) at_0_2917 c868 rfl ?_
                                                                                              refine aw_vload_n (pc1 := 2921) at_0_2920 (am_lk1 (am_lk1 l3 rfl rfl) rfl rfl) i3 rfl ?_
                                                                                              refine aw_iconst (v := 0) (pc1 := 2922) at_0_2921 (by decide) rfl ?_
                                                                                              obtain ⟨v869, e870, hs351⟩ := am_bind hs350
                                                                                              clear hs350
                                                                                              refine aw_pAL (pc1 := 2923) at_0_2922 e870 rfl ?_
                                                                                              refine aw_iload (pc1 := 2925) at_0_2923 am_lk0 rfl ?_
                                                                                              refine aw_i2l (v := (Int32.toInt64 v860)) (pc1 := 2926) at_0_2925 rfl rfl ?_
                                                                                              refine aw_lcmp (v := (lg_cmp v869 (Int32.toInt64 v860))) (pc1 := 2927) at_0_2926 rfl rfl ?_
                                                                                              by_cases c871 : (lg_cmp v869 (Int32.toInt64 v860)) = 0
                                                                                              · rw [if_pos c871] at hs351
                                                                                                refine aw_ifeq_t at_0_2927 c871 ?_
                                                                                                exact rg_0_2932 (fun z0 z1 z2 z3 h o hs351 => ih z0 z1 z2 z3 h o hs351) x1 x2 x3 x4 h865 o (am_lk1 (am_lk1 l0 rfl rfl) rfl rfl) (am_lk1 (am_lk1 l1 rfl rfl) rfl rfl) (am_lk1 (am_lk1 l2 rfl rfl) rfl rfl) (am_lk1 (am_lk1 l3 rfl rfl) rfl rfl) (am_lk1 (am_lk1 l4 rfl rfl) rfl rfl) i1 i2 i3 hs351
                                                                                              · rw [if_neg c871] at hs351
                                                                                                refine aw_ifeq_f (pc1 := 2930) at_0_2927 c871 rfl ?_
                                                                                                refine aw_iconst (v := 0) (pc1 := 2931) at_0_2930 (by decide) rfl ?_
                                                                                                cases hs351
                                                                                                exact aw_iret at_0_2931 (by rw [rt_0]; decide) rfl
                                                                                          · rw [if_neg c867] at hs350
                                                                                            refine aw_iceq_f (pc1 := 2913) at_0_2910 c867 rfl ?_
                                                                                            refine aw_iconst (v := 0) (pc1 := 2914) at_0_2913 (by decide) rfl ?_
                                                                                            cases hs350
                                                                                            exact aw_iret at_0_2914 (by rw [rt_0]; decide) rfl
                                                                                        · clear hs349
                                                                                          exact Or.inr hs350
                                                                                      · clear hs347
                                                                                        exact Or.inr hs348
                                                                                    · clear hs343
                                                                                      exact Or.inr hs344
                                                                                  · rw [if_neg c847] at hs1
                                                                                    by_cases c872 : (v2 &&& 63) = 39
                                                                                    · rw [if_pos c872] at hs1
                                                                                      refine aw_tsw (t := 2935) at_0_40 (by rw [c872]; rfl) ?_
                                                                                      refine aw_vload_n (pc1 := 2936) at_0_2935 l1 i1 rfl ?_
                                                                                      refine aw_vload_n (pc1 := 2937) at_0_2936 l0 rfl rfl ?_
                                                                                      refine aw_iload (pc1 := 2939) at_0_2937 l4 rfl ?_
                                                                                      refine aw_iconst (v := 1) (pc1 := 2940) at_0_2939 (by decide) rfl ?_
                                                                                      refine aw_iadd (v := (x4 + 1)) (pc1 := 2941) at_0_2940 rfl rfl ?_
                                                                                      obtain ⟨v873, e874, hs352⟩ := am_bind hs1
                                                                                      clear hs1
                                                                                      refine aw_pX (j := 0) (pc1 := 2942) at_0_2941 rfl rfl e874 rfl ?_
                                                                                      refine aw_vload_n (pc1 := 2943) at_0_2942 l0 rfl rfl ?_
                                                                                      refine aw_iload (pc1 := 2945) at_0_2943 l4 rfl ?_
                                                                                      refine aw_iconst (v := 2) (pc1 := 2946) at_0_2945 (by decide) rfl ?_
                                                                                      refine aw_iadd (v := (x4 + 2)) (pc1 := 2947) at_0_2946 rfl rfl ?_
                                                                                      obtain ⟨v875, e876, hs353⟩ := am_bind hs352
                                                                                      clear hs352
                                                                                      refine aw_pX (j := 0) (pc1 := 2948) at_0_2947 rfl rfl e876 rfl ?_
                                                                                      refine aw_vload_n (pc1 := 2949) at_0_2948 l0 rfl rfl ?_
                                                                                      refine aw_iload (pc1 := 2951) at_0_2949 l4 rfl ?_
                                                                                      refine aw_iconst (v := 3) (pc1 := 2952) at_0_2951 (by decide) rfl ?_
                                                                                      refine aw_iadd (v := (x4 + 3)) (pc1 := 2953) at_0_2952 rfl rfl ?_
                                                                                      obtain ⟨v877, e878, hs354⟩ := am_bind hs353
                                                                                      clear hs353
                                                                                      refine aw_pX (j := 0) (pc1 := 2954) at_0_2953 rfl rfl e878 rfl ?_
                                                                                      refine aw_vload_n (pc1 := 2955) at_0_2954 l3 i3 rfl ?_
                                                                                      refine aw_call (F := fm_238 N x1 v873 v875 v877 x3 h) (t := false) (na := 5) (kd := 0) (as := [x1, (.int v873), (.int v875), (.int v877), x3]) at_0_2955 (am_k3s kb_238) mn_238 mk_238 rfl rfl (am_ok_s mi_238 (am_hl rfl (am_ccR i1 (am_ccI (am_ccI (am_ccI (am_ccR i3 am_cats_0))))) rfl)) (am_hc am_cats_0 rfl) (fun hz9 => by cases hz9) (fun o1 hz9 => rm_238 x1 v873 v875 v877 x3 h o1 i1 i3 hz9) ?_
                                                                                      rcases am_cI_s hs354 with ⟨v879, h880, f881, hs355⟩ | hs355
                                                                                      · clear hs354
                                                                                        refine Or.inl ⟨_, _, f881, ?_⟩
                                                                                        show am_W X _ 0 2958 _ [(.int v879)] h880 _
                                                                                        refine aw_istore (lv1 := am_put1 _ 5 _) (pc1 := 2960) at_0_2958 rfl rfl ?_
                                                                                        refine aw_vload_n (pc1 := 2961) at_0_2960 (am_lk1 l2 rfl rfl) i2 rfl ?_
                                                                                        refine aw_vload_n (pc1 := 2962) at_0_2961 (am_lk1 l0 rfl rfl) rfl rfl ?_
                                                                                        refine aw_iload (pc1 := 2964) at_0_2962 (am_lk1 l4 rfl rfl) rfl ?_
                                                                                        refine aw_iconst (v := 1) (pc1 := 2965) at_0_2964 (by decide) rfl ?_
                                                                                        refine aw_iadd (v := (x4 + 1)) (pc1 := 2966) at_0_2965 rfl rfl ?_
                                                                                        obtain ⟨v882, e883, hs356⟩ := am_bind hs355
                                                                                        clear hs355
                                                                                        refine aw_pX (j := 0) (pc1 := 2967) at_0_2966 rfl rfl e883 rfl ?_
                                                                                        refine aw_vload_n (pc1 := 2968) at_0_2967 (am_lk1 l0 rfl rfl) rfl rfl ?_
                                                                                        refine aw_iload (pc1 := 2970) at_0_2968 (am_lk1 l4 rfl rfl) rfl ?_
                                                                                        refine aw_iconst (v := 2) (pc1 := 2971) at_0_2970 (by decide) rfl ?_
                                                                                        refine aw_iadd (v := (x4 + 2)) (pc1 := 2972) at_0_2971 rfl rfl ?_
                                                                                        obtain ⟨v884, e885, hs357⟩ := am_bind hs356
                                                                                        clear hs356
                                                                                        refine aw_pX (j := 0) (pc1 := 2973) at_0_2972 rfl rfl e885 rfl ?_
                                                                                        refine aw_vload_n (pc1 := 2974) at_0_2973 (am_lk1 l0 rfl rfl) rfl rfl ?_
                                                                                        refine aw_iload (pc1 := 2976) at_0_2974 (am_lk1 l4 rfl rfl) rfl ?_
                                                                                        refine aw_iconst (v := 3) (pc1 := 2977) at_0_2976 (by decide) rfl ?_
                                                                                        refine aw_iadd (v := (x4 + 3)) (pc1 := 2978) at_0_2977 rfl rfl ?_
                                                                                        obtain ⟨v886, e887, hs358⟩ := am_bind hs357
                                                                                        clear hs357
                                                                                        refine aw_pX (j := 0) (pc1 := 2979) at_0_2978 rfl rfl e887 rfl ?_
                                                                                        obtain ⟨z888, hs359⟩ := am_ift hs358
                                                                                        clear hs358
                                                                                        refine aw_call (F := fm_521 N x2 v882 v884 v886 h880) (t := true) (na := 4) (kd := 1) (as := [x2, (.int v882), (.int v884), (.int v886)]) at_0_2979 (am_k3v kb_521) mn_521 mk_521 rfl rfl (am_ok_v mi_521 (am_hl rfl (am_ccR i2 (am_ccI (am_ccI (am_ccI am_cats_0)))) rfl) z888) (am_hc am_cats_0 rfl) (fun _ => ⟨rfl, hh_0⟩) (fun o1 hz9 => rm_521 x2 v882 v884 v886 h880 o1 i2 hz9) ?_
                                                                                        rcases am_cI_s hs359 with ⟨v889, h890, f891, hs360⟩ | hs360
                                                                                        · clear hs359
                                                                                          refine Or.inl ⟨_, _, f891, ?_⟩
                                                                                          show am_W X _ 0 2982 _ [(.int v889)] h890 _
                                                                                          refine aw_istore (lv1 := am_put1 _ 6 _) (pc1 := 2984) at_0_2982 rfl rfl ?_
                                                                                          refine aw_vload_n (pc1 := 2985) at_0_2984 (am_lk1 (am_lk1 l2 rfl rfl) rfl rfl) i2 rfl ?_
                                                                                          obtain ⟨z892, hs361⟩ := am_ift hs360
                                                                                          clear hs360
                                                                                          refine aw_call (F := fm_324 x2 h890) (t := true) (na := 1) (kd := 1) (as := [x2]) at_0_2985 (am_k3v kb_324) mn_324 mk_324 rfl rfl (am_ok_v mi_324 (am_hl rfl (am_ccR i2 am_cats_0) rfl) z892) (am_hc am_cats_0 rfl) (fun _ => ⟨rfl, hh_0⟩) (fun o1 hz9 => rm_324 x2 h890 o1 i2 hz9) ?_
                                                                                          rcases am_cI_s hs361 with ⟨v893, h894, f895, hs362⟩ | hs362
                                                                                          · clear hs361
                                                                                            refine Or.inl ⟨_, _, f895, ?_⟩
                                                                                            show am_W X _ 0 2988 _ [(.int v893)] h894 _
                                                                                            refine aw_iload (pc1 := 2990) at_0_2988 (am_lk1 am_lk0 rfl rfl) rfl ?_
                                                                                            by_cases c896 : v893 = v879
                                                                                            · rw [if_pos c896] at hs362
                                                                                              refine aw_iceq_t at_0_2990 c896 ?_
                                                                                              refine aw_iload (pc1 := 2997) at_0_2995 (am_lk1 am_lk0 rfl rfl) rfl ?_
                                                                                              by_cases c897 : ¬ v879 = 0
                                                                                              · rw [if_pos c897] at hs362
                                                                                                refine aw_ifne_t at_0_2997 c897 ?_
                                                                                                exact rg_0_3012 (fun z0 z1 z2 z3 h o hs362 => ih z0 z1 z2 z3 h o hs362) x1 x2 x3 x4 h894 o (am_lk1 (am_lk1 l0 rfl rfl) rfl rfl) (am_lk1 (am_lk1 l1 rfl rfl) rfl rfl) (am_lk1 (am_lk1 l2 rfl rfl) rfl rfl) (am_lk1 (am_lk1 l3 rfl rfl) rfl rfl) (am_lk1 (am_lk1 l4 rfl rfl) rfl rfl) i1 i2 i3 hs362
                                                                                              · rw [if_neg c897] at hs362
                                                                                                refine aw_ifne_f (pc1 := 3000) at_0_2997 c897 rfl ?_
                                                                                                refine aw_vload_n (pc1 := 3001) at_0_3000 (am_lk1 (am_lk1 l3 rfl rfl) rfl rfl) i3 rfl ?_
                                                                                                refine aw_iconst (v := 0) (pc1 := 3002) at_0_3001 (by decide) rfl ?_
                                                                                                obtain ⟨v898, e899, hs363⟩ := am_bind hs362
                                                                                                clear hs362
                                                                                                refine aw_pAL (pc1 := 3003) at_0_3002 e899 rfl ?_
                                                                                                refine aw_iload (pc1 := 3005) at_0_3003 am_lk0 rfl ?_
                                                                                                refine aw_i2l (v := (Int32.toInt64 v889)) (pc1 := 3006) at_0_3005 rfl rfl ?_
                                                                                                refine aw_lcmp (v := (lg_cmp v898 (Int32.toInt64 v889))) (pc1 := 3007) at_0_3006 rfl rfl ?_
                                                                                                by_cases c900 : (lg_cmp v898 (Int32.toInt64 v889)) = 0
                                                                                                · rw [if_pos c900] at hs363
                                                                                                  refine aw_ifeq_t at_0_3007 c900 ?_
                                                                                                  exact rg_0_3012 (fun z0 z1 z2 z3 h o hs363 => ih z0 z1 z2 z3 h o hs363) x1 x2 x3 x4 h894 o (am_lk1 (am_lk1 l0 rfl rfl) rfl rfl) (am_lk1 (am_lk1 l1 rfl rfl) rfl rfl) (am_lk1 (am_lk1 l2 rfl rfl) rfl rfl) (am_lk1 (am_lk1 l3 rfl rfl) rfl rfl) (am_lk1 (am_lk1 l4 rfl rfl) rfl rfl) i1 i2 i3 hs363
                                                                                                · rw [if_neg c900] at hs363
                                                                                                  refine aw_ifeq_f (pc1 := 3010) at_0_3007 c900 rfl ?_
                                                                                                  refine aw_iconst (v := 0) (pc1 := 3011) at_0_3010 (by decide) rfl ?_
                                                                                                  cases hs363
                                                                                                  exact aw_iret at_0_3011 (by rw [rt_0]; decide) rfl
                                                                                            · rw [if_neg c896] at hs362
                                                                                              refine aw_iceq_f (pc1 := 2993) at_0_2990 c896 rfl ?_
                                                                                              refine aw_iconst (v := 0) (pc1 := 2994) at_0_2993 (by decide) rfl ?_
                                                                                              cases hs362
                                                                                              exact aw_iret at_0_2994 (by rw [rt_0]; decide) rfl
                                                                                          · clear hs361
                                                                                            exact Or.inr hs362
                                                                                        · clear hs359
                                                                                          exact Or.inr hs360
                                                                                      · clear hs354
                                                                                        exact Or.inr hs355
                                                                                    · rw [if_neg c872] at hs1
                                                                                      by_cases c901 : (v2 &&& 63) = 40
                                                                                      · rw [if_pos c901] at hs1
                                                                                        refine aw_tsw (t := 3015) at_0_40 (by rw [c901]; rfl) ?_
                                                                                        refine aw_vload_n (pc1 := 3016) at_0_3015 l1 i1 rfl ?_
                                                                                        refine aw_vload_n (pc1 := 3017) at_0_3016 l0 rfl rfl ?_
                                                                                        refine aw_iload (pc1 := 3019) at_0_3017 l4 rfl ?_
                                                                                        refine aw_iconst (v := 1) (pc1 := 3020) at_0_3019 (by decide) rfl ?_
                                                                                        refine aw_iadd (v := (x4 + 1)) (pc1 := 3021) at_0_3020 rfl rfl ?_
                                                                                        obtain ⟨v902, e903, hs364⟩ := am_bind hs1
                                                                                        clear hs1
                                                                                        refine aw_pX (j := 0) (pc1 := 3022) at_0_3021 rfl rfl e903 rfl ?_
                                                                                        refine aw_vload_n (pc1 := 3023) at_0_3022 l0 rfl rfl ?_
                                                                                        refine aw_iload (pc1 := 3025) at_0_3023 l4 rfl ?_
                                                                                        refine aw_iconst (v := 2) (pc1 := 3026) at_0_3025 (by decide) rfl ?_
                                                                                        refine aw_iadd (v := (x4 + 2)) (pc1 := 3027) at_0_3026 rfl rfl ?_
                                                                                        obtain ⟨v904, e905, hs365⟩ := am_bind hs364
                                                                                        clear hs364
                                                                                        refine aw_pX (j := 0) (pc1 := 3028) at_0_3027 rfl rfl e905 rfl ?_
                                                                                        refine aw_vload_n (pc1 := 3029) at_0_3028 l3 i3 rfl ?_
                                                                                        refine aw_call (F := fm_244 N x1 v902 v904 x3 h) (t := false) (na := 4) (kd := 0) (as := [x1, (.int v902), (.int v904), x3]) at_0_3029 (am_k3s kb_244) mn_244 mk_244 rfl rfl (am_ok_s mi_244 (am_hl rfl (am_ccR i1 (am_ccI (am_ccI (am_ccR i3 am_cats_0)))) rfl)) (am_hc am_cats_0 rfl) (fun hz9 => by cases hz9) (fun o1 hz9 => rm_244 x1 v902 v904 x3 h o1 i1 i3 hz9) ?_
                                                                                        rcases am_cI_s hs365 with ⟨v906, h907, f908, hs366⟩ | hs366
                                                                                        · clear hs365
                                                                                          refine Or.inl ⟨_, _, f908, ?_⟩
                                                                                          show am_W X _ 0 3032 _ [(.int v906)] h907 _
                                                                                          refine aw_istore (lv1 := am_put1 _ 5 _) (pc1 := 3034) at_0_3032 rfl rfl ?_
                                                                                          refine aw_vload_n (pc1 := 3035) at_0_3034 (am_lk1 l2 rfl rfl) i2 rfl ?_
                                                                                          refine aw_vload_n (pc1 := 3036) at_0_3035 (am_lk1 l0 rfl rfl) rfl rfl ?_
                                                                                          refine aw_iload (pc1 := 3038) at_0_3036 (am_lk1 l4 rfl rfl) rfl ?_
                                                                                          refine aw_iconst (v := 1) (pc1 := 3039) at_0_3038 (by decide) rfl ?_
                                                                                          refine aw_iadd (v := (x4 + 1)) (pc1 := 3040) at_0_3039 rfl rfl ?_
                                                                                          obtain ⟨v909, e910, hs367⟩ := am_bind hs366
                                                                                          clear hs366
                                                                                          refine aw_pX (j := 0) (pc1 := 3041) at_0_3040 rfl rfl e910 rfl ?_
                                                                                          refine aw_vload_n (pc1 := 3042) at_0_3041 (am_lk1 l0 rfl rfl) rfl rfl ?_
                                                                                          refine aw_iload (pc1 := 3044) at_0_3042 (am_lk1 l4 rfl rfl) rfl ?_
                                                                                          refine aw_iconst (v := 2) (pc1 := 3045) at_0_3044 (by decide) rfl ?_
                                                                                          refine aw_iadd (v := (x4 + 2)) (pc1 := 3046) at_0_3045 rfl rfl ?_
                                                                                          obtain ⟨v911, e912, hs368⟩ := am_bind hs367
                                                                                          clear hs367
                                                                                          refine aw_pX (j := 0) (pc1 := 3047) at_0_3046 rfl rfl e912 rfl ?_
                                                                                          obtain ⟨z913, hs369⟩ := am_ift hs368
                                                                                          clear hs368
                                                                                          refine aw_call (F := fm_524 N x2 v909 v911 h907) (t := true) (na := 3) (kd := 1) (as := [x2, (.int v909), (.int v911)]) at_0_3047 (am_k3v kb_524) mn_524 mk_524 rfl rfl (am_ok_v mi_524 (am_hl rfl (am_ccR i2 (am_ccI (am_ccI am_cats_0))) rfl) z913) (am_hc am_cats_0 rfl) (fun _ => ⟨rfl, hh_0⟩) (fun o1 hz9 => rm_524 x2 v909 v911 h907 o1 i2 hz9) ?_
                                                                                          rcases am_cL_s hs369 with ⟨v914, h915, f916, hs370⟩ | hs370
                                                                                          · clear hs369
                                                                                            refine Or.inl ⟨_, _, f916, ?_⟩
                                                                                            show am_W X _ 0 3050 _ [(.long v914)] h915 _
                                                                                            refine aw_lstore (lv1 := am_put2 _ 6 _) (pc1 := 3052) at_0_3050 rfl rfl ?_
                                                                                            refine aw_vload_n (pc1 := 3053) at_0_3052 (am_lk2 (am_lk1 l2 rfl rfl) rfl rfl) i2 rfl ?_
                                                                                            obtain ⟨z917, hs371⟩ := am_ift hs370
                                                                                            clear hs370
                                                                                            refine aw_call (F := fm_324 x2 h915) (t := true) (na := 1) (kd := 1) (as := [x2]) at_0_3053 (am_k3v kb_324) mn_324 mk_324 rfl rfl (am_ok_v mi_324 (am_hl rfl (am_ccR i2 am_cats_0) rfl) z917) (am_hc am_cats_0 rfl) (fun _ => ⟨rfl, hh_0⟩) (fun o1 hz9 => rm_324 x2 h915 o1 i2 hz9) ?_
                                                                                            rcases am_cI_s hs371 with ⟨v918, h919, f920, hs372⟩ | hs372
                                                                                            · clear hs371
                                                                                              refine Or.inl ⟨_, _, f920, ?_⟩
                                                                                              show am_W X _ 0 3056 _ [(.int v918)] h919 _
                                                                                              refine aw_iload (pc1 := 3058) at_0_3056 (am_lk2 am_lk0 rfl rfl) rfl ?_
                                                                                              by_cases c921 : v918 = v906
                                                                                              · rw [if_pos c921] at hs372
                                                                                                refine aw_iceq_t at_0_3058 c921 ?_
                                                                                                refine aw_iload (pc1 := 3065) at_0_3063 (am_lk2 am_lk0 rfl rfl) rfl ?_
                                                                                                by_cases c922 : ¬ v906 = 0
                                                                                                · rw [if_pos c922] at hs372
                                                                                                  refine aw_ifne_t at_0_3065 c922 ?_
                                                                                                  exact rg_0_3079 (fun z0 z1 z2 z3 h o hs372 => ih z0 z1 z2 z3 h o hs372) x1 x2 x3 x4 h919 o (am_lk2 (am_lk1 l0 rfl rfl) rfl rfl) (am_lk2 (am_lk1 l1 rfl rfl) rfl rfl) (am_lk2 (am_lk1 l2 rfl rfl) rfl rfl) (am_lk2 (am_lk1 l3 rfl rfl) rfl rfl) (am_lk2 (am_lk1 l4 rfl rfl) rfl rfl) i1 i2 i3 hs372
                                                                                                · rw [if_neg c922] at hs372
                                                                                                  refine aw_ifne_f (pc1 := 3068) at_0_3065 c922 rfl ?_
                                                                                                  refine aw_vload_n (pc1 := 3069) at_0_3068 (am_lk2 (am_lk1 l3 rfl rfl) rfl rfl) i3 rfl ?_
                                                                                                  refine aw_iconst (v := 0) (pc1 := 3070) at_0_3069 (by decide) rfl ?_
                                                                                                  obtain ⟨v923, e924, hs373⟩ := am_bind hs372
                                                                                                  clear hs372
                                                                                                  refine aw_pAL (pc1 := 3071) at_0_3070 e924 rfl ?_
                                                                                                  refine aw_lload (pc1 := 3073) at_0_3071 am_lk02 rfl ?_
                                                                                                  refine aw_lcmp (v := (lg_cmp v923 v914)) (pc1 := 3074) at_0_3073 rfl rfl ?_
                                                                                                  by_cases c925 : (lg_cmp v923 v914) = 0
                                                                                                  · rw [if_pos c925] at hs373
                                                                                                    refine aw_ifeq_t at_0_3074 c925 ?_
                                                                                                    exact rg_0_3079 (fun z0 z1 z2 z3 h o hs373 => ih z0 z1 z2 z3 h o hs373) x1 x2 x3 x4 h919 o (am_lk2 (am_lk1 l0 rfl rfl) rfl rfl) (am_lk2 (am_lk1 l1 rfl rfl) rfl rfl) (am_lk2 (am_lk1 l2 rfl rfl) rfl rfl) (am_lk2 (am_lk1 l3 rfl rfl) rfl rfl) (am_lk2 (am_lk1 l4 rfl rfl) rfl rfl) i1 i2 i3 hs373
                                                                                                  · rw [if_neg c925] at hs373
                                                                                                    refine aw_ifeq_f (pc1 := 3077) at_0_3074 c925 rfl ?_
                                                                                                    refine aw_iconst (v := 0) (pc1 := 3078) at_0_3077 (by decide) rfl ?_
                                                                                                    cases hs373
                                                                                                    exact aw_iret at_0_3078 (by rw [rt_0]; decide) rfl
                                                                                              · rw [if_neg c921] at hs372
                                                                                                refine aw_iceq_f (pc1 := 3061) at_0_3058 c921 rfl ?_
                                                                                                refine aw_iconst (v := 0) (pc1 := 3062) at_0_3061 (by decide) rfl ?_
                                                                                                cases hs372
                                                                                                exact aw_iret at_0_3062 (by rw [rt_0]; decide) rfl
                                                                                            · clear hs371
                                                                                              exact Or.inr hs372
                                                                                          · clear hs369
                                                                                            exact Or.inr hs370
                                                                                        · clear hs365
                                                                                          exact Or.inr hs366
                                                                                      · rw [if_neg c901] at hs1
                                                                                        by_cases c926 : (v2 &&& 63) = 41
                                                                                        · rw [if_pos c926] at hs1
                                                                                          refine aw_tsw (t := 3082) at_0_40 (by rw [c926]; rfl) ?_
                                                                                          refine aw_vload_n (pc1 := 3083) at_0_3082 l1 i1 rfl ?_
                                                                                          refine aw_vload_n (pc1 := 3084) at_0_3083 l0 rfl rfl ?_
                                                                                          refine aw_iload (pc1 := 3086) at_0_3084 l4 rfl ?_
                                                                                          refine aw_iconst (v := 1) (pc1 := 3087) at_0_3086 (by decide) rfl ?_
                                                                                          refine aw_iadd (v := (x4 + 1)) (pc1 := 3088) at_0_3087 rfl rfl ?_
                                                                                          obtain ⟨v927, e928, hs374⟩ := am_bind hs1
                                                                                          clear hs1
                                                                                          refine aw_pX (j := 0) (pc1 := 3089) at_0_3088 rfl rfl e928 rfl ?_
                                                                                          refine aw_vload_n (pc1 := 3090) at_0_3089 l0 rfl rfl ?_
                                                                                          refine aw_iload (pc1 := 3092) at_0_3090 l4 rfl ?_
                                                                                          refine aw_iconst (v := 2) (pc1 := 3093) at_0_3092 (by decide) rfl ?_
                                                                                          refine aw_iadd (v := (x4 + 2)) (pc1 := 3094) at_0_3093 rfl rfl ?_
                                                                                          obtain ⟨v929, e930, hs375⟩ := am_bind hs374
                                                                                          clear hs374
                                                                                          refine aw_pX (j := 0) (pc1 := 3095) at_0_3094 rfl rfl e930 rfl ?_
                                                                                          refine aw_vload_n (pc1 := 3096) at_0_3095 l3 i3 rfl ?_
                                                                                          refine aw_call (F := fm_247 N x1 v927 v929 x3 h) (t := false) (na := 4) (kd := 0) (as := [x1, (.int v927), (.int v929), x3]) at_0_3096 (am_k3s kb_247) mn_247 mk_247 rfl rfl (am_ok_s mi_247 (am_hl rfl (am_ccR i1 (am_ccI (am_ccI (am_ccR i3 am_cats_0)))) rfl)) (am_hc am_cats_0 rfl) (fun hz9 => by cases hz9) (fun o1 hz9 => rm_247 x1 v927 v929 x3 h o1 i1 i3 hz9) ?_
                                                                                          rcases am_cI_s hs375 with ⟨v931, h932, f933, hs376⟩ | hs376
                                                                                          · clear hs375
                                                                                            refine Or.inl ⟨_, _, f933, ?_⟩
                                                                                            show am_W X _ 0 3099 _ [(.int v931)] h932 _
                                                                                            refine aw_istore (lv1 := am_put1 _ 5 _) (pc1 := 3101) at_0_3099 rfl rfl ?_
                                                                                            refine aw_vload_n (pc1 := 3102) at_0_3101 (am_lk1 l2 rfl rfl) i2 rfl ?_
                                                                                            refine aw_vload_n (pc1 := 3103) at_0_3102 (am_lk1 l0 rfl rfl) rfl rfl ?_
                                                                                            refine aw_iload (pc1 := 3105) at_0_3103 (am_lk1 l4 rfl rfl) rfl ?_
                                                                                            refine aw_iconst (v := 1) (pc1 := 3106) at_0_3105 (by decide) rfl ?_
                                                                                            refine aw_iadd (v := (x4 + 1)) (pc1 := 3107) at_0_3106 rfl rfl ?_
                                                                                            obtain ⟨v934, e935, hs377⟩ := am_bind hs376
                                                                                            clear hs376
                                                                                            refine aw_pX (j := 0) (pc1 := 3108) at_0_3107 rfl rfl e935 rfl ?_
                                                                                            refine aw_vload_n (pc1 := 3109) at_0_3108 (am_lk1 l0 rfl rfl) rfl rfl ?_
                                                                                            refine aw_iload (pc1 := 3111) at_0_3109 (am_lk1 l4 rfl rfl) rfl ?_
                                                                                            refine aw_iconst (v := 2) (pc1 := 3112) at_0_3111 (by decide) rfl ?_
                                                                                            refine aw_iadd (v := (x4 + 2)) (pc1 := 3113) at_0_3112 rfl rfl ?_
                                                                                            obtain ⟨v936, e937, hs378⟩ := am_bind hs377
                                                                                            clear hs377
                                                                                            refine aw_pX (j := 0) (pc1 := 3114) at_0_3113 rfl rfl e937 rfl ?_
                                                                                            obtain ⟨z938, hs379⟩ := am_ift hs378
                                                                                            clear hs378
                                                                                            refine aw_call (F := fm_526 N x2 v934 v936 h932) (t := true) (na := 3) (kd := 1) (as := [x2, (.int v934), (.int v936)]) at_0_3114 (am_k3v kb_526) mn_526 mk_526 rfl rfl (am_ok_v mi_526 (am_hl rfl (am_ccR i2 (am_ccI (am_ccI am_cats_0))) rfl) z938) (am_hc am_cats_0 rfl) (fun _ => ⟨rfl, hh_0⟩) (fun o1 hz9 => rm_526 x2 v934 v936 h932 o1 i2 hz9) ?_
                                                                                            rcases am_cL_s hs379 with ⟨v939, h940, f941, hs380⟩ | hs380
                                                                                            · clear hs379
                                                                                              refine Or.inl ⟨_, _, f941, ?_⟩
                                                                                              show am_W X _ 0 3117 _ [(.long v939)] h940 _
                                                                                              refine aw_lstore (lv1 := am_put2 _ 6 _) (pc1 := 3119) at_0_3117 rfl rfl ?_
                                                                                              refine aw_vload_n (pc1 := 3120) at_0_3119 (am_lk2 (am_lk1 l2 rfl rfl) rfl rfl) i2 rfl ?_
                                                                                              obtain ⟨z942, hs381⟩ := am_ift hs380
                                                                                              clear hs380
                                                                                              refine aw_call (F := fm_324 x2 h940) (t := true) (na := 1) (kd := 1) (as := [x2]) at_0_3120 (am_k3v kb_324) mn_324 mk_324 rfl rfl (am_ok_v mi_324 (am_hl rfl (am_ccR i2 am_cats_0) rfl) z942) (am_hc am_cats_0 rfl) (fun _ => ⟨rfl, hh_0⟩) (fun o1 hz9 => rm_324 x2 h940 o1 i2 hz9) ?_
                                                                                              rcases am_cI_s hs381 with ⟨v943, h944, f945, hs382⟩ | hs382
                                                                                              · clear hs381
                                                                                                refine Or.inl ⟨_, _, f945, ?_⟩
                                                                                                show am_W X _ 0 3123 _ [(.int v943)] h944 _
                                                                                                refine aw_iload (pc1 := 3125) at_0_3123 (am_lk2 am_lk0 rfl rfl) rfl ?_
                                                                                                by_cases c946 : v943 = v931
                                                                                                · rw [if_pos c946] at hs382
                                                                                                  refine aw_iceq_t at_0_3125 c946 ?_
                                                                                                  refine aw_iload (pc1 := 3132) at_0_3130 (am_lk2 am_lk0 rfl rfl) rfl ?_
                                                                                                  by_cases c947 : ¬ v931 = 0
                                                                                                  · rw [if_pos c947] at hs382
                                                                                                    refine aw_ifne_t at_0_3132 c947 ?_
                                                                                                    exact rg_0_3146 (fun z0 z1 z2 z3 h o hs382 => ih z0 z1 z2 z3 h o hs382) x1 x2 x3 x4 h944 o (am_lk2 (am_lk1 l0 rfl rfl) rfl rfl) (am_lk2 (am_lk1 l1 rfl rfl) rfl rfl) (am_lk2 (am_lk1 l2 rfl rfl) rfl rfl) (am_lk2 (am_lk1 l3 rfl rfl) rfl rfl) (am_lk2 (am_lk1 l4 rfl rfl) rfl rfl) i1 i2 i3 hs382
                                                                                                  · rw [if_neg c947] at hs382
                                                                                                    refine aw_ifne_f (pc1 := 3135) at_0_3132 c947 rfl ?_
                                                                                                    refine aw_vload_n (pc1 := 3136) at_0_3135 (am_lk2 (am_lk1 l3 rfl rfl) rfl rfl) i3 rfl ?_
                                                                                                    refine aw_iconst (v := 0) (pc1 := 3137) at_0_3136 (by decide) rfl ?_
                                                                                                    obtain ⟨v948, e949, hs383⟩ := am_bind hs382
                                                                                                    clear hs382
                                                                                                    refine aw_pAL (pc1 := 3138) at_0_3137 e949 rfl ?_
                                                                                                    refine aw_lload (pc1 := 3140) at_0_3138 am_lk02 rfl ?_
                                                                                                    refine aw_lcmp (v := (lg_cmp v948 v939)) (pc1 := 3141) at_0_3140 rfl rfl ?_
                                                                                                    by_cases c950 : (lg_cmp v948 v939) = 0
                                                                                                    · rw [if_pos c950] at hs383
                                                                                                      refine aw_ifeq_t at_0_3141 c950 ?_
                                                                                                      exact rg_0_3146 (fun z0 z1 z2 z3 h o hs383 => ih z0 z1 z2 z3 h o hs383) x1 x2 x3 x4 h944 o (am_lk2 (am_lk1 l0 rfl rfl) rfl rfl) (am_lk2 (am_lk1 l1 rfl rfl) rfl rfl) (am_lk2 (am_lk1 l2 rfl rfl) rfl rfl) (am_lk2 (am_lk1 l3 rfl rfl) rfl rfl) (am_lk2 (am_lk1 l4 rfl rfl) rfl rfl) i1 i2 i3 hs383
                                                                                                    · rw [if_neg c950] at hs383
                                                                                                      refine aw_ifeq_f (pc1 := 3144) at_0_3141 c950 rfl ?_
                                                                                                      refine aw_iconst (v := 0) (pc1 := 3145) at_0_3144 (by decide) rfl ?_
                                                                                                      cases hs383
                                                                                                      exact aw_iret at_0_3145 (by rw [rt_0]; decide) rfl
                                                                                                · rw [if_neg c946] at hs382
                                                                                                  refine aw_iceq_f (pc1 := 3128) at_0_3125 c946 rfl ?_
                                                                                                  refine aw_iconst (v := 0) (pc1 := 3129) at_0_3128 (by decide) rfl ?_
                                                                                                  cases hs382
                                                                                                  exact aw_iret at_0_3129 (by rw [rt_0]; decide) rfl
                                                                                              · clear hs381
                                                                                                exact Or.inr hs382
                                                                                            · clear hs379
                                                                                              exact Or.inr hs380
                                                                                          · clear hs375
                                                                                            exact Or.inr hs376
                                                                                        · rw [if_neg c926] at hs1
                                                                                          by_cases c951 : (v2 &&& 63) = 42
                                                                                          · rw [if_pos c951] at hs1
                                                                                            refine aw_tsw (t := 3149) at_0_40 (by rw [c951]; rfl) ?_
                                                                                            refine aw_vload_n (pc1 := 3150) at_0_3149 l1 i1 rfl ?_
                                                                                            refine aw_vload_n (pc1 := 3151) at_0_3150 l0 rfl rfl ?_
                                                                                            refine aw_iload (pc1 := 3153) at_0_3151 l4 rfl ?_
                                                                                            refine aw_iconst (v := 1) (pc1 := 3154) at_0_3153 (by decide) rfl ?_
                                                                                            refine aw_iadd (v := (x4 + 1)) (pc1 := 3155) at_0_3154 rfl rfl ?_
                                                                                            obtain ⟨v952, e953, hs384⟩ := am_bind hs1
                                                                                            clear hs1
                                                                                            refine aw_pX (j := 0) (pc1 := 3156) at_0_3155 rfl rfl e953 rfl ?_
                                                                                            refine aw_vload_n (pc1 := 3157) at_0_3156 l3 i3 rfl ?_
                                                                                            refine aw_call (F := fm_250 N x1 v952 x3 h) (t := false) (na := 3) (kd := 0) (as := [x1, (.int v952), x3]) at_0_3157 (am_k3s kb_250) mn_250 mk_250 rfl rfl (am_ok_s mi_250 (am_hl rfl (am_ccR i1 (am_ccI (am_ccR i3 am_cats_0))) rfl)) (am_hc am_cats_0 rfl) (fun hz9 => by cases hz9) (fun o1 hz9 => rm_250 x1 v952 x3 h o1 i1 i3 hz9) ?_
                                                                                            rcases am_cI_s hs384 with ⟨v954, h955, f956, hs385⟩ | hs385
                                                                                            · clear hs384
                                                                                              refine Or.inl ⟨_, _, f956, ?_⟩
                                                                                              show am_W X _ 0 3160 _ [(.int v954)] h955 _
                                                                                              refine aw_istore (lv1 := am_put1 _ 5 _) (pc1 := 3162) at_0_3160 rfl rfl ?_
                                                                                              refine aw_vload_n (pc1 := 3163) at_0_3162 (am_lk1 l2 rfl rfl) i2 rfl ?_
                                                                                              refine aw_vload_n (pc1 := 3164) at_0_3163 (am_lk1 l0 rfl rfl) rfl rfl ?_
                                                                                              refine aw_iload (pc1 := 3166) at_0_3164 (am_lk1 l4 rfl rfl) rfl ?_
                                                                                              refine aw_iconst (v := 1) (pc1 := 3167) at_0_3166 (by decide) rfl ?_
                                                                                              refine aw_iadd (v := (x4 + 1)) (pc1 := 3168) at_0_3167 rfl rfl ?_
                                                                                              obtain ⟨v957, e958, hs386⟩ := am_bind hs385
                                                                                              clear hs385
                                                                                              refine aw_pX (j := 0) (pc1 := 3169) at_0_3168 rfl rfl e958 rfl ?_
                                                                                              obtain ⟨z959, hs387⟩ := am_ift hs386
                                                                                              clear hs386
                                                                                              refine aw_call (F := fm_527 N x2 v957 h955) (t := true) (na := 2) (kd := 1) (as := [x2, (.int v957)]) at_0_3169 (am_k3v kb_527) mn_527 mk_527 rfl rfl (am_ok_v mi_527 (am_hl rfl (am_ccR i2 (am_ccI am_cats_0)) rfl) z959) (am_hc am_cats_0 rfl) (fun _ => ⟨rfl, hh_0⟩) (fun o1 hz9 => rm_527 x2 v957 h955 o1 i2 hz9) ?_
                                                                                              rcases am_cI_s hs387 with ⟨v960, h961, f962, hs388⟩ | hs388
                                                                                              · clear hs387
                                                                                                refine Or.inl ⟨_, _, f962, ?_⟩
                                                                                                show am_W X _ 0 3172 _ [(.int v960)] h961 _
                                                                                                refine aw_istore (lv1 := am_put1 _ 6 _) (pc1 := 3174) at_0_3172 rfl rfl ?_
                                                                                                refine aw_vload_n (pc1 := 3175) at_0_3174 (am_lk1 (am_lk1 l2 rfl rfl) rfl rfl) i2 rfl ?_
                                                                                                obtain ⟨z963, hs389⟩ := am_ift hs388
                                                                                                clear hs388
                                                                                                refine aw_call (F := fm_324 x2 h961) (t := true) (na := 1) (kd := 1) (as := [x2]) at_0_3175 (am_k3v kb_324) mn_324 mk_324 rfl rfl (am_ok_v mi_324 (am_hl rfl (am_ccR i2 am_cats_0) rfl) z963) (am_hc am_cats_0 rfl) (fun _ => ⟨rfl, hh_0⟩) (fun o1 hz9 => rm_324 x2 h961 o1 i2 hz9) ?_
                                                                                                rcases am_cI_s hs389 with ⟨v964, h965, f966, hs390⟩ | hs390
                                                                                                · clear hs389
                                                                                                  refine Or.inl ⟨_, _, f966, ?_⟩
                                                                                                  show am_W X _ 0 3178 _ [(.int v964)] h965 _
                                                                                                  refine aw_iload (pc1 := 3180) at_0_3178 (am_lk1 am_lk0 rfl rfl) rfl ?_
                                                                                                  by_cases c967 : v964 = v954
                                                                                                  · rw [if_pos c967] at hs390
                                                                                                    refine aw_iceq_t at_0_3180 c967 ?_
                                                                                                    refine aw_iload (pc1 := 3187) at_0_3185 (am_lk1 am_lk0 rfl rfl) rfl ?_
                                                                                                    by_cases c968 : ¬ v954 = 0
                                                                                                    · rw [if_pos c968] at hs390
                                                                                                      refine aw_ifne_t at_0_3187 c968 ?_
                                                                                                      exact rg_0_3202 (fun z0 z1 z2 z3 h o hs390 => ih z0 z1 z2 z3 h o hs390) x1 x2 x3 x4 h965 o (am_lk1 (am_lk1 l0 rfl rfl) rfl rfl) (am_lk1 (am_lk1 l1 rfl rfl) rfl rfl) (am_lk1 (am_lk1 l2 rfl rfl) rfl rfl) (am_lk1 (am_lk1 l3 rfl rfl) rfl rfl) (am_lk1 (am_lk1 l4 rfl rfl) rfl rfl) i1 i2 i3 hs390
                                                                                                    · rw [if_neg c968] at hs390
                                                                                                      refine aw_ifne_f (pc1 := 3190) at_0_3187 c968 rfl ?_
                                                                                                      refine aw_vload_n (pc1 := 3191) at_0_3190 (am_lk1 (am_lk1 l3 rfl rfl) rfl rfl) i3 rfl ?_
                                                                                                      refine aw_iconst (v := 0) (pc1 := 3192) at_0_3191 (by decide) rfl ?_
                                                                                                      obtain ⟨v969, e970, hs391⟩ := am_bind hs390
                                                                                                      clear hs390
                                                                                                      refine aw_pAL (pc1 := 3193) at_0_3192 e970 rfl ?_
                                                                                                      refine aw_iload (pc1 := 3195) at_0_3193 am_lk0 rfl ?_
                                                                                                      refine aw_i2l (v := (Int32.toInt64 v960)) (pc1 := 3196) at_0_3195 rfl rfl ?_
                                                                                                      refine aw_lcmp (v := (lg_cmp v969 (Int32.toInt64 v960))) (pc1 := 3197) at_0_3196 rfl rfl ?_
                                                                                                      by_cases c971 : (lg_cmp v969 (Int32.toInt64 v960)) = 0
                                                                                                      · rw [if_pos c971] at hs391
                                                                                                        refine aw_ifeq_t at_0_3197 c971 ?_
                                                                                                        exact rg_0_3202 (fun z0 z1 z2 z3 h o hs391 => ih z0 z1 z2 z3 h o hs391) x1 x2 x3 x4 h965 o (am_lk1 (am_lk1 l0 rfl rfl) rfl rfl) (am_lk1 (am_lk1 l1 rfl rfl) rfl rfl) (am_lk1 (am_lk1 l2 rfl rfl) rfl rfl) (am_lk1 (am_lk1 l3 rfl rfl) rfl rfl) (am_lk1 (am_lk1 l4 rfl rfl) rfl rfl) i1 i2 i3 hs391
                                                                                                      · rw [if_neg c971] at hs391
                                                                                                        refine aw_ifeq_f (pc1 := 3200) at_0_3197 c971 rfl ?_
                                                                                                        refine aw_iconst (v := 0) (pc1 := 3201) at_0_3200 (by decide) rfl ?_
                                                                                                        cases hs391
                                                                                                        exact aw_iret at_0_3201 (by rw [rt_0]; decide) rfl
                                                                                                  · rw [if_neg c967] at hs390
                                                                                                    refine aw_iceq_f (pc1 := 3183) at_0_3180 c967 rfl ?_
                                                                                                    refine aw_iconst (v := 0) (pc1 := 3184) at_0_3183 (by decide) rfl ?_
                                                                                                    cases hs390
                                                                                                    exact aw_iret at_0_3184 (by rw [rt_0]; decide) rfl
                                                                                                · clear hs389
                                                                                                  exact Or.inr hs390
                                                                                              · clear hs387
                                                                                                exact Or.inr hs388
                                                                                            · clear hs384
                                                                                              exact Or.inr hs385
                                                                                          · rw [if_neg c951] at hs1
                                                                                            by_cases c972 : (v2 &&& 63) = 43
                                                                                            · rw [if_pos c972] at hs1
                                                                                              refine aw_tsw (t := 3205) at_0_40 (by rw [c972]; rfl) ?_
                                                                                              refine aw_vload_n (pc1 := 3206) at_0_3205 l1 i1 rfl ?_
                                                                                              refine aw_vload_n (pc1 := 3207) at_0_3206 l0 rfl rfl ?_
                                                                                              refine aw_iload (pc1 := 3209) at_0_3207 l4 rfl ?_
                                                                                              refine aw_iconst (v := 1) (pc1 := 3210) at_0_3209 (by decide) rfl ?_
                                                                                              refine aw_iadd (v := (x4 + 1)) (pc1 := 3211) at_0_3210 rfl rfl ?_
                                                                                              obtain ⟨v973, e974, hs392⟩ := am_bind hs1
                                                                                              clear hs1
                                                                                              refine aw_pX (j := 0) (pc1 := 3212) at_0_3211 rfl rfl e974 rfl ?_
                                                                                              refine aw_vload_n (pc1 := 3213) at_0_3212 l0 rfl rfl ?_
                                                                                              refine aw_iload (pc1 := 3215) at_0_3213 l4 rfl ?_
                                                                                              refine aw_iconst (v := 2) (pc1 := 3216) at_0_3215 (by decide) rfl ?_
                                                                                              refine aw_iadd (v := (x4 + 2)) (pc1 := 3217) at_0_3216 rfl rfl ?_
                                                                                              obtain ⟨v975, e976, hs393⟩ := am_bind hs392
                                                                                              clear hs392
                                                                                              refine aw_pX (j := 0) (pc1 := 3218) at_0_3217 rfl rfl e976 rfl ?_
                                                                                              refine aw_vload_n (pc1 := 3219) at_0_3218 l3 i3 rfl ?_
                                                                                              refine aw_call (F := fm_254 N x1 v973 v975 x3 h) (t := false) (na := 4) (kd := 0) (as := [x1, (.int v973), (.int v975), x3]) at_0_3219 (am_k3s kb_254) mn_254 mk_254 rfl rfl (am_ok_s mi_254 (am_hl rfl (am_ccR i1 (am_ccI (am_ccI (am_ccR i3 am_cats_0)))) rfl)) (am_hc am_cats_0 rfl) (fun hz9 => by cases hz9) (fun o1 hz9 => rm_254 x1 v973 v975 x3 h o1 i1 i3 hz9) ?_
                                                                                              rcases am_cI_s hs393 with ⟨v977, h978, f979, hs394⟩ | hs394
                                                                                              · clear hs393
                                                                                                refine Or.inl ⟨_, _, f979, ?_⟩
                                                                                                show am_W X _ 0 3222 _ [(.int v977)] h978 _
                                                                                                refine aw_istore (lv1 := am_put1 _ 5 _) (pc1 := 3224) at_0_3222 rfl rfl ?_
                                                                                                refine aw_vload_n (pc1 := 3225) at_0_3224 (am_lk1 l2 rfl rfl) i2 rfl ?_
                                                                                                refine aw_vload_n (pc1 := 3226) at_0_3225 (am_lk1 l0 rfl rfl) rfl rfl ?_
                                                                                                refine aw_iload (pc1 := 3228) at_0_3226 (am_lk1 l4 rfl rfl) rfl ?_
                                                                                                refine aw_iconst (v := 1) (pc1 := 3229) at_0_3228 (by decide) rfl ?_
                                                                                                refine aw_iadd (v := (x4 + 1)) (pc1 := 3230) at_0_3229 rfl rfl ?_
                                                                                                obtain ⟨v980, e981, hs395⟩ := am_bind hs394
                                                                                                clear hs394
                                                                                                refine aw_pX (j := 0) (pc1 := 3231) at_0_3230 rfl rfl e981 rfl ?_
                                                                                                refine aw_vload_n (pc1 := 3232) at_0_3231 (am_lk1 l0 rfl rfl) rfl rfl ?_
                                                                                                refine aw_iload (pc1 := 3234) at_0_3232 (am_lk1 l4 rfl rfl) rfl ?_
                                                                                                refine aw_iconst (v := 2) (pc1 := 3235) at_0_3234 (by decide) rfl ?_
                                                                                                refine aw_iadd (v := (x4 + 2)) (pc1 := 3236) at_0_3235 rfl rfl ?_
                                                                                                obtain ⟨v982, e983, hs396⟩ := am_bind hs395
                                                                                                clear hs395
                                                                                                refine aw_pX (j := 0) (pc1 := 3237) at_0_3236 rfl rfl e983 rfl ?_
                                                                                                obtain ⟨z984, hs397⟩ := am_ift hs396
                                                                                                clear hs396
                                                                                                refine aw_call (F := fm_530 N x2 v980 v982 h978) (t := true) (na := 3) (kd := 1) (as := [x2, (.int v980), (.int v982)]) at_0_3237 (am_k3v kb_530) mn_530 mk_530 rfl rfl (am_ok_v mi_530 (am_hl rfl (am_ccR i2 (am_ccI (am_ccI am_cats_0))) rfl) z984) (am_hc am_cats_0 rfl) (fun _ => ⟨rfl, hh_0⟩) (fun o1 hz9 => rm_530 x2 v980 v982 h978 o1 i2 hz9) ?_
                                                                                                rcases am_cI_s hs397 with ⟨v985, h986, f987, hs398⟩ | hs398
                                                                                                · clear hs397
                                                                                                  refine Or.inl ⟨_, _, f987, ?_⟩
                                                                                                  show am_W X _ 0 3240 _ [(.int v985)] h986 _
                                                                                                  refine aw_istore (lv1 := am_put1 _ 6 _) (pc1 := 3242) at_0_3240 rfl rfl ?_
                                                                                                  refine aw_vload_n (pc1 := 3243) at_0_3242 (am_lk1 (am_lk1 l2 rfl rfl) rfl rfl) i2 rfl ?_
                                                                                                  obtain ⟨z988, hs399⟩ := am_ift hs398
                                                                                                  clear hs398
                                                                                                  refine aw_call (F := fm_324 x2 h986) (t := true) (na := 1) (kd := 1) (as := [x2]) at_0_3243 (am_k3v kb_324) mn_324 mk_324 rfl rfl (am_ok_v mi_324 (am_hl rfl (am_ccR i2 am_cats_0) rfl) z988) (am_hc am_cats_0 rfl) (fun _ => ⟨rfl, hh_0⟩) (fun o1 hz9 => rm_324 x2 h986 o1 i2 hz9) ?_
                                                                                                  rcases am_cI_s hs399 with ⟨v989, h990, f991, hs400⟩ | hs400
                                                                                                  · clear hs399
                                                                                                    refine Or.inl ⟨_, _, f991, ?_⟩
                                                                                                    show am_W X _ 0 3246 _ [(.int v989)] h990 _
                                                                                                    refine aw_iload (pc1 := 3248) at_0_3246 (am_lk1 am_lk0 rfl rfl) rfl ?_
                                                                                                    by_cases c992 : v989 = v977
                                                                                                    · rw [if_pos c992] at hs400
                                                                                                      refine aw_iceq_t at_0_3248 c992 ?_
                                                                                                      refine aw_iload (pc1 := 3255) at_0_3253 (am_lk1 am_lk0 rfl rfl) rfl ?_
                                                                                                      by_cases c993 : ¬ v977 = 0
                                                                                                      · rw [if_pos c993] at hs400
                                                                                                        refine aw_ifne_t at_0_3255 c993 ?_
                                                                                                        exact rg_0_3270 (fun z0 z1 z2 z3 h o hs400 => ih z0 z1 z2 z3 h o hs400) x1 x2 x3 x4 h990 o (am_lk1 (am_lk1 l0 rfl rfl) rfl rfl) (am_lk1 (am_lk1 l1 rfl rfl) rfl rfl) (am_lk1 (am_lk1 l2 rfl rfl) rfl rfl) (am_lk1 (am_lk1 l3 rfl rfl) rfl rfl) (am_lk1 (am_lk1 l4 rfl rfl) rfl rfl) i1 i2 i3 hs400
                                                                                                      · rw [if_neg c993] at hs400
                                                                                                        refine aw_ifne_f (pc1 := 3258) at_0_3255 c993 rfl ?_
                                                                                                        refine aw_vload_n (pc1 := 3259) at_0_3258 (am_lk1 (am_lk1 l3 rfl rfl) rfl rfl) i3 rfl ?_
                                                                                                        refine aw_iconst (v := 0) (pc1 := 3260) at_0_3259 (by decide) rfl ?_
                                                                                                        obtain ⟨v994, e995, hs401⟩ := am_bind hs400
                                                                                                        clear hs400
                                                                                                        refine aw_pAL (pc1 := 3261) at_0_3260 e995 rfl ?_
                                                                                                        refine aw_iload (pc1 := 3263) at_0_3261 am_lk0 rfl ?_
                                                                                                        refine aw_i2l (v := (Int32.toInt64 v985)) (pc1 := 3264) at_0_3263 rfl rfl ?_
                                                                                                        refine aw_lcmp (v := (lg_cmp v994 (Int32.toInt64 v985))) (pc1 := 3265) at_0_3264 rfl rfl ?_
                                                                                                        by_cases c996 : (lg_cmp v994 (Int32.toInt64 v985)) = 0
                                                                                                        · rw [if_pos c996] at hs401
                                                                                                          refine aw_ifeq_t at_0_3265 c996 ?_
                                                                                                          exact rg_0_3270 (fun z0 z1 z2 z3 h o hs401 => ih z0 z1 z2 z3 h o hs401) x1 x2 x3 x4 h990 o (am_lk1 (am_lk1 l0 rfl rfl) rfl rfl) (am_lk1 (am_lk1 l1 rfl rfl) rfl rfl) (am_lk1 (am_lk1 l2 rfl rfl) rfl rfl) (am_lk1 (am_lk1 l3 rfl rfl) rfl rfl) (am_lk1 (am_lk1 l4 rfl rfl) rfl rfl) i1 i2 i3 hs401
                                                                                                        · rw [if_neg c996] at hs401
                                                                                                          refine aw_ifeq_f (pc1 := 3268) at_0_3265 c996 rfl ?_
                                                                                                          refine aw_iconst (v := 0) (pc1 := 3269) at_0_3268 (by decide) rfl ?_
                                                                                                          cases hs401
                                                                                                          exact aw_iret at_0_3269 (by rw [rt_0]; decide) rfl
                                                                                                    · rw [if_neg c992] at hs400
                                                                                                      refine aw_iceq_f (pc1 := 3251) at_0_3248 c992 rfl ?_
                                                                                                      refine aw_iconst (v := 0) (pc1 := 3252) at_0_3251 (by decide) rfl ?_
                                                                                                      cases hs400
                                                                                                      exact aw_iret at_0_3252 (by rw [rt_0]; decide) rfl
                                                                                                  · clear hs399
                                                                                                    exact Or.inr hs400
                                                                                                · clear hs397
                                                                                                  exact Or.inr hs398
                                                                                              · clear hs393
                                                                                                exact Or.inr hs394
                                                                                            · rw [if_neg c972] at hs1
                                                                                              by_cases c997 : (v2 &&& 63) = 44
                                                                                              · rw [if_pos c997] at hs1
                                                                                                refine aw_tsw (t := 3273) at_0_40 (by rw [c997]; rfl) ?_
                                                                                                refine aw_vload_n (pc1 := 3274) at_0_3273 l1 i1 rfl ?_
                                                                                                refine aw_vload_n (pc1 := 3275) at_0_3274 l0 rfl rfl ?_
                                                                                                refine aw_iload (pc1 := 3277) at_0_3275 l4 rfl ?_
                                                                                                refine aw_iconst (v := 1) (pc1 := 3278) at_0_3277 (by decide) rfl ?_
                                                                                                refine aw_iadd (v := (x4 + 1)) (pc1 := 3279) at_0_3278 rfl rfl ?_
                                                                                                obtain ⟨v998, e999, hs402⟩ := am_bind hs1
                                                                                                clear hs1
                                                                                                refine aw_pX (j := 0) (pc1 := 3280) at_0_3279 rfl rfl e999 rfl ?_
                                                                                                refine aw_vload_n (pc1 := 3281) at_0_3280 l0 rfl rfl ?_
                                                                                                refine aw_iload (pc1 := 3283) at_0_3281 l4 rfl ?_
                                                                                                refine aw_iconst (v := 2) (pc1 := 3284) at_0_3283 (by decide) rfl ?_
                                                                                                refine aw_iadd (v := (x4 + 2)) (pc1 := 3285) at_0_3284 rfl rfl ?_
                                                                                                obtain ⟨v1000, e1001, hs403⟩ := am_bind hs402
                                                                                                clear hs402
                                                                                                refine aw_pX (j := 0) (pc1 := 3286) at_0_3285 rfl rfl e1001 rfl ?_
                                                                                                refine aw_vload_n (pc1 := 3287) at_0_3286 l3 i3 rfl ?_
                                                                                                refine aw_call (F := fm_256 N x1 v998 v1000 x3 h) (t := false) (na := 4) (kd := 0) (as := [x1, (.int v998), (.int v1000), x3]) at_0_3287 (am_k3s kb_256) mn_256 mk_256 rfl rfl (am_ok_s mi_256 (am_hl rfl (am_ccR i1 (am_ccI (am_ccI (am_ccR i3 am_cats_0)))) rfl)) (am_hc am_cats_0 rfl) (fun hz9 => by cases hz9) (fun o1 hz9 => rm_256 x1 v998 v1000 x3 h o1 i1 i3 hz9) ?_
                                                                                                rcases am_cI_s hs403 with ⟨v1002, h1003, f1004, hs404⟩ | hs404
                                                                                                · clear hs403
                                                                                                  refine Or.inl ⟨_, _, f1004, ?_⟩
                                                                                                  show am_W X _ 0 3290 _ [(.int v1002)] h1003 _
                                                                                                  refine aw_istore (lv1 := am_put1 _ 5 _) (pc1 := 3292) at_0_3290 rfl rfl ?_
                                                                                                  refine aw_vload_n (pc1 := 3293) at_0_3292 (am_lk1 l2 rfl rfl) i2 rfl ?_
                                                                                                  refine aw_vload_n (pc1 := 3294) at_0_3293 (am_lk1 l0 rfl rfl) rfl rfl ?_
                                                                                                  refine aw_iload (pc1 := 3296) at_0_3294 (am_lk1 l4 rfl rfl) rfl ?_
                                                                                                  refine aw_iconst (v := 1) (pc1 := 3297) at_0_3296 (by decide) rfl ?_
                                                                                                  refine aw_iadd (v := (x4 + 1)) (pc1 := 3298) at_0_3297 rfl rfl ?_
                                                                                                  obtain ⟨v1005, e1006, hs405⟩ := am_bind hs404
                                                                                                  clear hs404
                                                                                                  refine aw_pX (j := 0) (pc1 := 3299) at_0_3298 rfl rfl e1006 rfl ?_
                                                                                                  refine aw_vload_n (pc1 := 3300) at_0_3299 (am_lk1 l0 rfl rfl) rfl rfl ?_
                                                                                                  refine aw_iload (pc1 := 3302) at_0_3300 (am_lk1 l4 rfl rfl) rfl ?_
                                                                                                  refine aw_iconst (v := 2) (pc1 := 3303) at_0_3302 (by decide) rfl ?_
                                                                                                  refine aw_iadd (v := (x4 + 2)) (pc1 := 3304) at_0_3303 rfl rfl ?_
                                                                                                  obtain ⟨v1007, e1008, hs406⟩ := am_bind hs405
                                                                                                  clear hs405
                                                                                                  refine aw_pX (j := 0) (pc1 := 3305) at_0_3304 rfl rfl e1008 rfl ?_
                                                                                                  obtain ⟨z1009, hs407⟩ := am_ift hs406
                                                                                                  clear hs406
                                                                                                  refine aw_call (F := fm_531 N x2 v1005 v1007 h1003) (t := true) (na := 3) (kd := 1) (as := [x2, (.int v1005), (.int v1007)]) at_0_3305 (am_k3v kb_531) mn_531 mk_531 rfl rfl (am_ok_v mi_531 (am_hl rfl (am_ccR i2 (am_ccI (am_ccI am_cats_0))) rfl) z1009) (am_hc am_cats_0 rfl) (fun _ => ⟨rfl, hh_0⟩) (fun o1 hz9 => rm_531 x2 v1005 v1007 h1003 o1 i2 hz9) ?_
                                                                                                  rcases am_cL_s hs407 with ⟨v1010, h1011, f1012, hs408⟩ | hs408
                                                                                                  · clear hs407
                                                                                                    refine Or.inl ⟨_, _, f1012, ?_⟩
                                                                                                    show am_W X _ 0 3308 _ [(.long v1010)] h1011 _
                                                                                                    refine aw_lstore (lv1 := am_put2 _ 6 _) (pc1 := 3310) at_0_3308 rfl rfl ?_
                                                                                                    refine aw_vload_n (pc1 := 3311) at_0_3310 (am_lk2 (am_lk1 l2 rfl rfl) rfl rfl) i2 rfl ?_
                                                                                                    obtain ⟨z1013, hs409⟩ := am_ift hs408
                                                                                                    clear hs408
                                                                                                    refine aw_call (F := fm_324 x2 h1011) (t := true) (na := 1) (kd := 1) (as := [x2]) at_0_3311 (am_k3v kb_324) mn_324 mk_324 rfl rfl (am_ok_v mi_324 (am_hl rfl (am_ccR i2 am_cats_0) rfl) z1013) (am_hc am_cats_0 rfl) (fun _ => ⟨rfl, hh_0⟩) (fun o1 hz9 => rm_324 x2 h1011 o1 i2 hz9) ?_
                                                                                                    rcases am_cI_s hs409 with ⟨v1014, h1015, f1016, hs410⟩ | hs410
                                                                                                    · clear hs409
                                                                                                      refine Or.inl ⟨_, _, f1016, ?_⟩
                                                                                                      show am_W X _ 0 3314 _ [(.int v1014)] h1015 _
                                                                                                      refine aw_iload (pc1 := 3316) at_0_3314 (am_lk2 am_lk0 rfl rfl) rfl ?_
                                                                                                      by_cases c1017 : v1014 = v1002
                                                                                                      · rw [if_pos c1017] at hs410
                                                                                                        refine aw_iceq_t at_0_3316 c1017 ?_
                                                                                                        refine aw_iload (pc1 := 3323) at_0_3321 (am_lk2 am_lk0 rfl rfl) rfl ?_
                                                                                                        by_cases c1018 : ¬ v1002 = 0
                                                                                                        · rw [if_pos c1018] at hs410
                                                                                                          refine aw_ifne_t at_0_3323 c1018 ?_
                                                                                                          exact rg_0_3337 (fun z0 z1 z2 z3 h o hs410 => ih z0 z1 z2 z3 h o hs410) x1 x2 x3 x4 h1015 o (am_lk2 (am_lk1 l0 rfl rfl) rfl rfl) (am_lk2 (am_lk1 l1 rfl rfl) rfl rfl) (am_lk2 (am_lk1 l2 rfl rfl) rfl rfl) (am_lk2 (am_lk1 l3 rfl rfl) rfl rfl) (am_lk2 (am_lk1 l4 rfl rfl) rfl rfl) i1 i2 i3 hs410
                                                                                                        · rw [if_neg c1018] at hs410
                                                                                                          refine aw_ifne_f (pc1 := 3326) at_0_3323 c1018 rfl ?_
                                                                                                          refine aw_vload_n (pc1 := 3327) at_0_3326 (am_lk2 (am_lk1 l3 rfl rfl) rfl rfl) i3 rfl ?_
                                                                                                          refine aw_iconst (v := 0) (pc1 := 3328) at_0_3327 (by decide) rfl ?_
                                                                                                          obtain ⟨v1019, e1020, hs411⟩ := am_bind hs410
                                                                                                          clear hs410
                                                                                                          refine aw_pAL (pc1 := 3329) at_0_3328 e1020 rfl ?_
                                                                                                          refine aw_lload (pc1 := 3331) at_0_3329 am_lk02 rfl ?_
                                                                                                          refine aw_lcmp (v := (lg_cmp v1019 v1010)) (pc1 := 3332) at_0_3331 rfl rfl ?_
                                                                                                          by_cases c1021 : (lg_cmp v1019 v1010) = 0
                                                                                                          · rw [if_pos c1021] at hs411
                                                                                                            refine aw_ifeq_t at_0_3332 c1021 ?_
                                                                                                            exact rg_0_3337 (fun z0 z1 z2 z3 h o hs411 => ih z0 z1 z2 z3 h o hs411) x1 x2 x3 x4 h1015 o (am_lk2 (am_lk1 l0 rfl rfl) rfl rfl) (am_lk2 (am_lk1 l1 rfl rfl) rfl rfl) (am_lk2 (am_lk1 l2 rfl rfl) rfl rfl) (am_lk2 (am_lk1 l3 rfl rfl) rfl rfl) (am_lk2 (am_lk1 l4 rfl rfl) rfl rfl) i1 i2 i3 hs411
                                                                                                          · rw [if_neg c1021] at hs411
                                                                                                            refine aw_ifeq_f (pc1 := 3335) at_0_3332 c1021 rfl ?_
                                                                                                            refine aw_iconst (v := 0) (pc1 := 3336) at_0_3335 (by decide) rfl ?_
                                                                                                            cases hs411
                                                                                                            exact aw_iret at_0_3336 (by rw [rt_0]; decide) rfl
                                                                                                      · rw [if_neg c1017] at hs410
                                                                                                        refine aw_iceq_f (pc1 := 3319) at_0_3316 c1017 rfl ?_
                                                                                                        refine aw_iconst (v := 0) (pc1 := 3320) at_0_3319 (by decide) rfl ?_
                                                                                                        cases hs410
                                                                                                        exact aw_iret at_0_3320 (by rw [rt_0]; decide) rfl
                                                                                                    · clear hs409
                                                                                                      exact Or.inr hs410
                                                                                                  · clear hs407
                                                                                                    exact Or.inr hs408
                                                                                                · clear hs403
                                                                                                  exact Or.inr hs404
                                                                                              · rw [if_neg c997] at hs1
                                                                                                by_cases c1022 : (v2 &&& 63) = 45
                                                                                                · rw [if_pos c1022] at hs1
                                                                                                  refine aw_tsw (t := 3340) at_0_40 (by rw [c1022]; rfl) ?_
                                                                                                  refine aw_vload_n (pc1 := 3341) at_0_3340 l1 i1 rfl ?_
                                                                                                  refine aw_vload_n (pc1 := 3342) at_0_3341 l0 rfl rfl ?_
                                                                                                  refine aw_iload (pc1 := 3344) at_0_3342 l4 rfl ?_
                                                                                                  refine aw_iconst (v := 1) (pc1 := 3345) at_0_3344 (by decide) rfl ?_
                                                                                                  refine aw_iadd (v := (x4 + 1)) (pc1 := 3346) at_0_3345 rfl rfl ?_
                                                                                                  obtain ⟨v1023, e1024, hs412⟩ := am_bind hs1
                                                                                                  clear hs1
                                                                                                  refine aw_pX (j := 0) (pc1 := 3347) at_0_3346 rfl rfl e1024 rfl ?_
                                                                                                  refine aw_vload_n (pc1 := 3348) at_0_3347 l3 i3 rfl ?_
                                                                                                  refine aw_call (F := fm_258 N x1 v1023 x3 h) (t := false) (na := 3) (kd := 0) (as := [x1, (.int v1023), x3]) at_0_3348 (am_k3s kb_258) mn_258 mk_258 rfl rfl (am_ok_s mi_258 (am_hl rfl (am_ccR i1 (am_ccI (am_ccR i3 am_cats_0))) rfl)) (am_hc am_cats_0 rfl) (fun hz9 => by cases hz9) (fun o1 hz9 => rm_258 x1 v1023 x3 h o1 i1 i3 hz9) ?_
                                                                                                  rcases am_cI_s hs412 with ⟨v1025, h1026, f1027, hs413⟩ | hs413
                                                                                                  · clear hs412
                                                                                                    refine Or.inl ⟨_, _, f1027, ?_⟩
                                                                                                    show am_W X _ 0 3351 _ [(.int v1025)] h1026 _
                                                                                                    refine aw_istore (lv1 := am_put1 _ 5 _) (pc1 := 3353) at_0_3351 rfl rfl ?_
                                                                                                    refine aw_vload_n (pc1 := 3354) at_0_3353 (am_lk1 l2 rfl rfl) i2 rfl ?_
                                                                                                    refine aw_vload_n (pc1 := 3355) at_0_3354 (am_lk1 l0 rfl rfl) rfl rfl ?_
                                                                                                    refine aw_iload (pc1 := 3357) at_0_3355 (am_lk1 l4 rfl rfl) rfl ?_
                                                                                                    refine aw_iconst (v := 1) (pc1 := 3358) at_0_3357 (by decide) rfl ?_
                                                                                                    refine aw_iadd (v := (x4 + 1)) (pc1 := 3359) at_0_3358 rfl rfl ?_
                                                                                                    obtain ⟨v1028, e1029, hs414⟩ := am_bind hs413
                                                                                                    clear hs413
                                                                                                    refine aw_pX (j := 0) (pc1 := 3360) at_0_3359 rfl rfl e1029 rfl ?_
                                                                                                    obtain ⟨z1030, hs415⟩ := am_ift hs414
                                                                                                    clear hs414
                                                                                                    refine aw_call (F := fm_532 N x2 v1028 h1026) (t := true) (na := 2) (kd := 1) (as := [x2, (.int v1028)]) at_0_3360 (am_k3v kb_532) mn_532 mk_532 rfl rfl (am_ok_v mi_532 (am_hl rfl (am_ccR i2 (am_ccI am_cats_0)) rfl) z1030) (am_hc am_cats_0 rfl) (fun _ => ⟨rfl, hh_0⟩) (fun o1 hz9 => rm_532 x2 v1028 h1026 o1 i2 hz9) ?_
                                                                                                    rcases am_cI_s hs415 with ⟨v1031, h1032, f1033, hs416⟩ | hs416
                                                                                                    · clear hs415
                                                                                                      refine Or.inl ⟨_, _, f1033, ?_⟩
                                                                                                      show am_W X _ 0 3363 _ [(.int v1031)] h1032 _
                                                                                                      refine aw_istore (lv1 := am_put1 _ 6 _) (pc1 := 3365) at_0_3363 rfl rfl ?_
                                                                                                      refine aw_vload_n (pc1 := 3366) at_0_3365 (am_lk1 (am_lk1 l2 rfl rfl) rfl rfl) i2 rfl ?_
                                                                                                      obtain ⟨z1034, hs417⟩ := am_ift hs416
                                                                                                      clear hs416
                                                                                                      refine aw_call (F := fm_324 x2 h1032) (t := true) (na := 1) (kd := 1) (as := [x2]) at_0_3366 (am_k3v kb_324) mn_324 mk_324 rfl rfl (am_ok_v mi_324 (am_hl rfl (am_ccR i2 am_cats_0) rfl) z1034) (am_hc am_cats_0 rfl) (fun _ => ⟨rfl, hh_0⟩) (fun o1 hz9 => rm_324 x2 h1032 o1 i2 hz9) ?_
                                                                                                      rcases am_cI_s hs417 with ⟨v1035, h1036, f1037, hs418⟩ | hs418
                                                                                                      · clear hs417
                                                                                                        refine Or.inl ⟨_, _, f1037, ?_⟩
                                                                                                        show am_W X _ 0 3369 _ [(.int v1035)] h1036 _
                                                                                                        refine aw_iload (pc1 := 3371) at_0_3369 (am_lk1 am_lk0 rfl rfl) rfl ?_
                                                                                                        by_cases c1038 : v1035 = v1025
                                                                                                        · rw [if_pos c1038] at hs418
                                                                                                          refine aw_iceq_t at_0_3371 c1038 ?_
                                                                                                          refine aw_iload (pc1 := 3378) at_0_3376 (am_lk1 am_lk0 rfl rfl) rfl ?_
                                                                                                          by_cases c1039 : ¬ v1025 = 0
                                                                                                          · rw [if_pos c1039] at hs418
                                                                                                            refine aw_ifne_t at_0_3378 c1039 ?_
                                                                                                            exact rg_0_3400 (fun z0 z1 z2 z3 h o hs418 => ih z0 z1 z2 z3 h o hs418) x1 x2 x3 x4 h1036 o (am_lk1 (am_lk1 l0 rfl rfl) rfl rfl) (am_lk1 (am_lk1 l1 rfl rfl) rfl rfl) (am_lk1 (am_lk1 l2 rfl rfl) rfl rfl) (am_lk1 (am_lk1 l3 rfl rfl) rfl rfl) (am_lk1 (am_lk1 l4 rfl rfl) rfl rfl) i1 i2 i3 hs418
                                                                                                          · rw [if_neg c1039] at hs418
                                                                                                            refine aw_ifne_f (pc1 := 3381) at_0_3378 c1039 rfl ?_
                                                                                                            refine aw_vload_n (pc1 := 3382) at_0_3381 (am_lk1 (am_lk1 l3 rfl rfl) rfl rfl) i3 rfl ?_
                                                                                                            refine aw_iconst (v := 0) (pc1 := 3383) at_0_3382 (by decide) rfl ?_
                                                                                                            obtain ⟨v1040, e1041, hs419⟩ := am_bind hs418
                                                                                                            clear hs418
                                                                                                            refine aw_pAL (pc1 := 3384) at_0_3383 e1041 rfl ?_
                                                                                                            refine aw_iload (pc1 := 3386) at_0_3384 am_lk0 rfl ?_
                                                                                                            by_cases c1042 : v1031 = 0
                                                                                                            · rw [if_pos c1042] at hs419
                                                                                                              refine aw_ifeq_t at_0_3386 c1042 ?_
                                                                                                              refine aw_lconst (v := 0) (pc1 := 3394) at_0_3393 (by decide) rfl ?_
                                                                                                              exact rg_0_3394 (fun z0 z1 z2 z3 h o hs419 => ih z0 z1 z2 z3 h o hs419) x1 x2 x3 x4 v1040 0 h1036 o (am_lk1 (am_lk1 l0 rfl rfl) rfl rfl) (am_lk1 (am_lk1 l1 rfl rfl) rfl rfl) (am_lk1 (am_lk1 l2 rfl rfl) rfl rfl) (am_lk1 (am_lk1 l3 rfl rfl) rfl rfl) (am_lk1 (am_lk1 l4 rfl rfl) rfl rfl) i1 i2 i3 hs419
                                                                                                            · rw [if_neg c1042] at hs419
                                                                                                              refine aw_ifeq_f (pc1 := 3389) at_0_3386 c1042 rfl ?_
                                                                                                              refine aw_lconst (v := 1) (pc1 := 3390) at_0_3389 (by decide) rfl ?_
                                                                                                              refine aw_goto at_0_3390 ?_
                                                                                                              exact rg_0_3394 (fun z0 z1 z2 z3 h o hs419 => ih z0 z1 z2 z3 h o hs419) x1 x2 x3 x4 v1040 1 h1036 o (am_lk1 (am_lk1 l0 rfl rfl) rfl rfl) (am_lk1 (am_lk1 l1 rfl rfl) rfl rfl) (am_lk1 (am_lk1 l2 rfl rfl) rfl rfl) (am_lk1 (am_lk1 l3 rfl rfl) rfl rfl) (am_lk1 (am_lk1 l4 rfl rfl) rfl rfl) i1 i2 i3 hs419
                                                                                                        · rw [if_neg c1038] at hs418
                                                                                                          refine aw_iceq_f (pc1 := 3374) at_0_3371 c1038 rfl ?_
                                                                                                          refine aw_iconst (v := 0) (pc1 := 3375) at_0_3374 (by decide) rfl ?_
                                                                                                          cases hs418
                                                                                                          exact aw_iret at_0_3375 (by rw [rt_0]; decide) rfl
                                                                                                      · clear hs417
                                                                                                        exact Or.inr hs418
                                                                                                    · clear hs415
                                                                                                      exact Or.inr hs416
                                                                                                  · clear hs412
                                                                                                    exact Or.inr hs413
                                                                                                · rw [if_neg c1022] at hs1
                                                                                                  by_cases c1043 : (v2 &&& 63) = 46
                                                                                                  · rw [if_pos c1043] at hs1
                                                                                                    refine aw_tsw (t := 3403) at_0_40 (by rw [c1043]; rfl) ?_
                                                                                                    refine aw_vload_n (pc1 := 3404) at_0_3403 l1 i1 rfl ?_
                                                                                                    refine aw_vload_n (pc1 := 3405) at_0_3404 l0 rfl rfl ?_
                                                                                                    refine aw_iload (pc1 := 3407) at_0_3405 l4 rfl ?_
                                                                                                    refine aw_iconst (v := 1) (pc1 := 3408) at_0_3407 (by decide) rfl ?_
                                                                                                    refine aw_iadd (v := (x4 + 1)) (pc1 := 3409) at_0_3408 rfl rfl ?_
                                                                                                    obtain ⟨v1044, e1045, hs420⟩ := am_bind hs1
                                                                                                    clear hs1
                                                                                                    refine aw_pX (j := 0) (pc1 := 3410) at_0_3409 rfl rfl e1045 rfl ?_
                                                                                                    refine aw_vload_n (pc1 := 3411) at_0_3410 l3 i3 rfl ?_
                                                                                                    refine aw_call (F := fm_260 X N x1 v1044 x3 h) (t := false) (na := 3) (kd := 0) (as := [x1, (.int v1044), x3]) at_0_3411 (am_k3s kb_260) mn_260 mk_260 rfl rfl (am_ok_s mi_260 (am_hl rfl (am_ccR i1 (am_ccI (am_ccR i3 am_cats_0))) rfl)) (am_hc am_cats_0 rfl) (fun hz9 => by cases hz9) (fun o1 hz9 => rm_260 x1 v1044 x3 h o1 i1 i3 hz9) ?_
                                                                                                    rcases am_cI_s hs420 with ⟨v1046, h1047, f1048, hs421⟩ | hs421
                                                                                                    · clear hs420
                                                                                                      refine Or.inl ⟨_, _, f1048, ?_⟩
                                                                                                      show am_W X _ 0 3414 _ [(.int v1046)] h1047 _
                                                                                                      refine aw_istore (lv1 := am_put1 _ 5 _) (pc1 := 3416) at_0_3414 rfl rfl ?_
                                                                                                      refine aw_vload_n (pc1 := 3417) at_0_3416 (am_lk1 l2 rfl rfl) i2 rfl ?_
                                                                                                      refine aw_vload_n (pc1 := 3418) at_0_3417 (am_lk1 l0 rfl rfl) rfl rfl ?_
                                                                                                      refine aw_iload (pc1 := 3420) at_0_3418 (am_lk1 l4 rfl rfl) rfl ?_
                                                                                                      refine aw_iconst (v := 1) (pc1 := 3421) at_0_3420 (by decide) rfl ?_
                                                                                                      refine aw_iadd (v := (x4 + 1)) (pc1 := 3422) at_0_3421 rfl rfl ?_
                                                                                                      obtain ⟨v1049, e1050, hs422⟩ := am_bind hs421
                                                                                                      clear hs421
                                                                                                      refine aw_pX (j := 0) (pc1 := 3423) at_0_3422 rfl rfl e1050 rfl ?_
                                                                                                      obtain ⟨z1051, hs423⟩ := am_ift hs422
                                                                                                      clear hs422
                                                                                                      refine aw_call (F := fm_533 N x2 v1049 h1047) (t := true) (na := 2) (kd := 1) (as := [x2, (.int v1049)]) at_0_3423 (am_k3v kb_533) mn_533 mk_533 rfl rfl (am_ok_v mi_533 (am_hl rfl (am_ccR i2 (am_ccI am_cats_0)) rfl) z1051) (am_hc am_cats_0 rfl) (fun _ => ⟨rfl, hh_0⟩) (fun o1 hz9 => rm_533 x2 v1049 h1047 o1 i2 hz9) ?_
                                                                                                      rcases am_cI_s hs423 with ⟨v1052, h1053, f1054, hs424⟩ | hs424
                                                                                                      · clear hs423
                                                                                                        refine Or.inl ⟨_, _, f1054, ?_⟩
                                                                                                        show am_W X _ 0 3426 _ [(.int v1052)] h1053 _
                                                                                                        refine aw_istore (lv1 := am_put1 _ 6 _) (pc1 := 3428) at_0_3426 rfl rfl ?_
                                                                                                        refine aw_vload_n (pc1 := 3429) at_0_3428 (am_lk1 (am_lk1 l2 rfl rfl) rfl rfl) i2 rfl ?_
                                                                                                        obtain ⟨z1055, hs425⟩ := am_ift hs424
                                                                                                        clear hs424
                                                                                                        refine aw_call (F := fm_324 x2 h1053) (t := true) (na := 1) (kd := 1) (as := [x2]) at_0_3429 (am_k3v kb_324) mn_324 mk_324 rfl rfl (am_ok_v mi_324 (am_hl rfl (am_ccR i2 am_cats_0) rfl) z1055) (am_hc am_cats_0 rfl) (fun _ => ⟨rfl, hh_0⟩) (fun o1 hz9 => rm_324 x2 h1053 o1 i2 hz9) ?_
                                                                                                        rcases am_cI_s hs425 with ⟨v1056, h1057, f1058, hs426⟩ | hs426
                                                                                                        · clear hs425
                                                                                                          refine Or.inl ⟨_, _, f1058, ?_⟩
                                                                                                          show am_W X _ 0 3432 _ [(.int v1056)] h1057 _
                                                                                                          refine aw_iload (pc1 := 3434) at_0_3432 (am_lk1 am_lk0 rfl rfl) rfl ?_
                                                                                                          by_cases c1059 : v1056 = v1046
                                                                                                          · rw [if_pos c1059] at hs426
                                                                                                            refine aw_iceq_t at_0_3434 c1059 ?_
                                                                                                            refine aw_iload (pc1 := 3441) at_0_3439 (am_lk1 am_lk0 rfl rfl) rfl ?_
                                                                                                            by_cases c1060 : ¬ v1046 = 0
                                                                                                            · rw [if_pos c1060] at hs426
                                                                                                              refine aw_ifne_t at_0_3441 c1060 ?_
                                                                                                              exact rg_0_3456 (fun z0 z1 z2 z3 h o hs426 => ih z0 z1 z2 z3 h o hs426) x1 x2 x3 x4 h1057 o (am_lk1 (am_lk1 l0 rfl rfl) rfl rfl) (am_lk1 (am_lk1 l1 rfl rfl) rfl rfl) (am_lk1 (am_lk1 l2 rfl rfl) rfl rfl) (am_lk1 (am_lk1 l3 rfl rfl) rfl rfl) (am_lk1 (am_lk1 l4 rfl rfl) rfl rfl) i1 i2 i3 hs426
                                                                                                            · rw [if_neg c1060] at hs426
                                                                                                              refine aw_ifne_f (pc1 := 3444) at_0_3441 c1060 rfl ?_
                                                                                                              refine aw_vload_n (pc1 := 3445) at_0_3444 (am_lk1 (am_lk1 l3 rfl rfl) rfl rfl) i3 rfl ?_
                                                                                                              refine aw_iconst (v := 0) (pc1 := 3446) at_0_3445 (by decide) rfl ?_
                                                                                                              obtain ⟨v1061, e1062, hs427⟩ := am_bind hs426
                                                                                                              clear hs426
                                                                                                              refine aw_pAL (pc1 := 3447) at_0_3446 e1062 rfl ?_
                                                                                                              refine aw_iload (pc1 := 3449) at_0_3447 am_lk0 rfl ?_
                                                                                                              refine aw_i2l (v := (Int32.toInt64 v1052)) (pc1 := 3450) at_0_3449 rfl rfl ?_
                                                                                                              refine aw_lcmp (v := (lg_cmp v1061 (Int32.toInt64 v1052))) (pc1 := 3451) at_0_3450 rfl rfl ?_
                                                                                                              by_cases c1063 : (lg_cmp v1061 (Int32.toInt64 v1052)) = 0
                                                                                                              · rw [if_pos c1063] at hs427
                                                                                                                refine aw_ifeq_t at_0_3451 c1063 ?_
                                                                                                                exact rg_0_3456 (fun z0 z1 z2 z3 h o hs427 => ih z0 z1 z2 z3 h o hs427) x1 x2 x3 x4 h1057 o (am_lk1 (am_lk1 l0 rfl rfl) rfl rfl) (am_lk1 (am_lk1 l1 rfl rfl) rfl rfl) (am_lk1 (am_lk1 l2 rfl rfl) rfl rfl) (am_lk1 (am_lk1 l3 rfl rfl) rfl rfl) (am_lk1 (am_lk1 l4 rfl rfl) rfl rfl) i1 i2 i3 hs427
                                                                                                              · rw [if_neg c1063] at hs427
                                                                                                                refine aw_ifeq_f (pc1 := 3454) at_0_3451 c1063 rfl ?_
                                                                                                                refine aw_iconst (v := 0) (pc1 := 3455) at_0_3454 (by decide) rfl ?_
                                                                                                                cases hs427
                                                                                                                exact aw_iret at_0_3455 (by rw [rt_0]; decide) rfl
                                                                                                          · rw [if_neg c1059] at hs426
                                                                                                            refine aw_iceq_f (pc1 := 3437) at_0_3434 c1059 rfl ?_
                                                                                                            refine aw_iconst (v := 0) (pc1 := 3438) at_0_3437 (by decide) rfl ?_
                                                                                                            cases hs426
                                                                                                            exact aw_iret at_0_3438 (by rw [rt_0]; decide) rfl
                                                                                                        · clear hs425
                                                                                                          exact Or.inr hs426
                                                                                                      · clear hs423
                                                                                                        exact Or.inr hs424
                                                                                                    · clear hs420
                                                                                                      exact Or.inr hs421
                                                                                                  · rw [if_neg c1043] at hs1
                                                                                                    by_cases c1064 : (v2 &&& 63) = 47
                                                                                                    · rw [if_pos c1064] at hs1
                                                                                                      refine aw_tsw (t := 3459) at_0_40 (by rw [c1064]; rfl) ?_
                                                                                                      refine aw_vload_n (pc1 := 3460) at_0_3459 l1 i1 rfl ?_
                                                                                                      refine aw_vload_n (pc1 := 3461) at_0_3460 l0 rfl rfl ?_
                                                                                                      refine aw_iload (pc1 := 3463) at_0_3461 l4 rfl ?_
                                                                                                      refine aw_iconst (v := 1) (pc1 := 3464) at_0_3463 (by decide) rfl ?_
                                                                                                      refine aw_iadd (v := (x4 + 1)) (pc1 := 3465) at_0_3464 rfl rfl ?_
                                                                                                      obtain ⟨v1065, e1066, hs428⟩ := am_bind hs1
                                                                                                      clear hs1
                                                                                                      refine aw_pX (j := 0) (pc1 := 3466) at_0_3465 rfl rfl e1066 rfl ?_
                                                                                                      refine aw_vload_n (pc1 := 3467) at_0_3466 l3 i3 rfl ?_
                                                                                                      refine aw_call (F := fm_267 N x1 v1065 x3 h) (t := false) (na := 3) (kd := 0) (as := [x1, (.int v1065), x3]) at_0_3467 (am_k3s kb_267) mn_267 mk_267 rfl rfl (am_ok_s mi_267 (am_hl rfl (am_ccR i1 (am_ccI (am_ccR i3 am_cats_0))) rfl)) (am_hc am_cats_0 rfl) (fun hz9 => by cases hz9) (fun o1 hz9 => rm_267 x1 v1065 x3 h o1 i1 i3 hz9) ?_
                                                                                                      rcases am_cI_s hs428 with ⟨v1067, h1068, f1069, hs429⟩ | hs429
                                                                                                      · clear hs428
                                                                                                        refine Or.inl ⟨_, _, f1069, ?_⟩
                                                                                                        show am_W X _ 0 3470 _ [(.int v1067)] h1068 _
                                                                                                        refine aw_istore (lv1 := am_put1 _ 5 _) (pc1 := 3472) at_0_3470 rfl rfl ?_
                                                                                                        refine aw_vload_n (pc1 := 3473) at_0_3472 (am_lk1 l2 rfl rfl) i2 rfl ?_
                                                                                                        refine aw_vload_n (pc1 := 3474) at_0_3473 (am_lk1 l0 rfl rfl) rfl rfl ?_
                                                                                                        refine aw_iload (pc1 := 3476) at_0_3474 (am_lk1 l4 rfl rfl) rfl ?_
                                                                                                        refine aw_iconst (v := 1) (pc1 := 3477) at_0_3476 (by decide) rfl ?_
                                                                                                        refine aw_iadd (v := (x4 + 1)) (pc1 := 3478) at_0_3477 rfl rfl ?_
                                                                                                        obtain ⟨v1070, e1071, hs430⟩ := am_bind hs429
                                                                                                        clear hs429
                                                                                                        refine aw_pX (j := 0) (pc1 := 3479) at_0_3478 rfl rfl e1071 rfl ?_
                                                                                                        obtain ⟨z1072, hs431⟩ := am_ift hs430
                                                                                                        clear hs430
                                                                                                        refine aw_call (F := fm_535 N x2 v1070 h1068) (t := true) (na := 2) (kd := 1) (as := [x2, (.int v1070)]) at_0_3479 (am_k3v kb_535) mn_535 mk_535 rfl rfl (am_ok_v mi_535 (am_hl rfl (am_ccR i2 (am_ccI am_cats_0)) rfl) z1072) (am_hc am_cats_0 rfl) (fun _ => ⟨rfl, hh_0⟩) (fun o1 hz9 => rm_535 x2 v1070 h1068 o1 i2 hz9) ?_
                                                                                                        rcases am_cI_s hs431 with ⟨v1073, h1074, f1075, hs432⟩ | hs432
                                                                                                        · clear hs431
                                                                                                          refine Or.inl ⟨_, _, f1075, ?_⟩
                                                                                                          show am_W X _ 0 3482 _ [(.int v1073)] h1074 _
                                                                                                          refine aw_istore (lv1 := am_put1 _ 6 _) (pc1 := 3484) at_0_3482 rfl rfl ?_
                                                                                                          refine aw_vload_n (pc1 := 3485) at_0_3484 (am_lk1 (am_lk1 l2 rfl rfl) rfl rfl) i2 rfl ?_
                                                                                                          obtain ⟨z1076, hs433⟩ := am_ift hs432
                                                                                                          clear hs432
                                                                                                          refine aw_call (F := fm_324 x2 h1074) (t := true) (na := 1) (kd := 1) (as := [x2]) at_0_3485 (am_k3v kb_324) mn_324 mk_324 rfl rfl (am_ok_v mi_324 (am_hl rfl (am_ccR i2 am_cats_0) rfl) z1076) (am_hc am_cats_0 rfl) (fun _ => ⟨rfl, hh_0⟩) (fun o1 hz9 => rm_324 x2 h1074 o1 i2 hz9) ?_
                                                                                                          rcases am_cI_s hs433 with ⟨v1077, h1078, f1079, hs434⟩ | hs434
                                                                                                          · clear hs433
                                                                                                            refine Or.inl ⟨_, _, f1079, ?_⟩
                                                                                                            show am_W X _ 0 3488 _ [(.int v1077)] h1078 _
                                                                                                            refine aw_iload (pc1 := 3490) at_0_3488 (am_lk1 am_lk0 rfl rfl) rfl ?_
                                                                                                            by_cases c1080 : v1077 = v1067
                                                                                                            · rw [if_pos c1080] at hs434
                                                                                                              refine aw_iceq_t at_0_3490 c1080 ?_
                                                                                                              refine aw_iload (pc1 := 3497) at_0_3495 (am_lk1 am_lk0 rfl rfl) rfl ?_
                                                                                                              by_cases c1081 : ¬ v1067 = 0
                                                                                                              · rw [if_pos c1081] at hs434
                                                                                                                refine aw_ifne_t at_0_3497 c1081 ?_
                                                                                                                exact rg_0_3512 (fun z0 z1 z2 z3 h o hs434 => ih z0 z1 z2 z3 h o hs434) x1 x2 x3 x4 h1078 o (am_lk1 (am_lk1 l0 rfl rfl) rfl rfl) (am_lk1 (am_lk1 l1 rfl rfl) rfl rfl) (am_lk1 (am_lk1 l2 rfl rfl) rfl rfl) (am_lk1 (am_lk1 l3 rfl rfl) rfl rfl) (am_lk1 (am_lk1 l4 rfl rfl) rfl rfl) i1 i2 i3 hs434
                                                                                                              · rw [if_neg c1081] at hs434
                                                                                                                refine aw_ifne_f (pc1 := 3500) at_0_3497 c1081 rfl ?_
                                                                                                                refine aw_vload_n (pc1 := 3501) at_0_3500 (am_lk1 (am_lk1 l3 rfl rfl) rfl rfl) i3 rfl ?_
                                                                                                                refine aw_iconst (v := 0) (pc1 := 3502) at_0_3501 (by decide) rfl ?_
                                                                                                                obtain ⟨v1082, e1083, hs435⟩ := am_bind hs434
                                                                                                                clear hs434
                                                                                                                refine aw_pAL (pc1 := 3503) at_0_3502 e1083 rfl ?_
                                                                                                                refine aw_iload (pc1 := 3505) at_0_3503 am_lk0 rfl ?_
                                                                                                                refine aw_i2l (v := (Int32.toInt64 v1073)) (pc1 := 3506) at_0_3505 rfl rfl ?_
                                                                                                                refine aw_lcmp (v := (lg_cmp v1082 (Int32.toInt64 v1073))) (pc1 := 3507) at_0_3506 rfl rfl ?_
                                                                                                                by_cases c1084 : (lg_cmp v1082 (Int32.toInt64 v1073)) = 0
                                                                                                                · rw [if_pos c1084] at hs435
                                                                                                                  refine aw_ifeq_t at_0_3507 c1084 ?_
                                                                                                                  exact rg_0_3512 (fun z0 z1 z2 z3 h o hs435 => ih z0 z1 z2 z3 h o hs435) x1 x2 x3 x4 h1078 o (am_lk1 (am_lk1 l0 rfl rfl) rfl rfl) (am_lk1 (am_lk1 l1 rfl rfl) rfl rfl) (am_lk1 (am_lk1 l2 rfl rfl) rfl rfl) (am_lk1 (am_lk1 l3 rfl rfl) rfl rfl) (am_lk1 (am_lk1 l4 rfl rfl) rfl rfl) i1 i2 i3 hs435
                                                                                                                · rw [if_neg c1084] at hs435
                                                                                                                  refine aw_ifeq_f (pc1 := 3510) at_0_3507 c1084 rfl ?_
                                                                                                                  refine aw_iconst (v := 0) (pc1 := 3511) at_0_3510 (by decide) rfl ?_
                                                                                                                  cases hs435
                                                                                                                  exact aw_iret at_0_3511 (by rw [rt_0]; decide) rfl
                                                                                                            · rw [if_neg c1080] at hs434
                                                                                                              refine aw_iceq_f (pc1 := 3493) at_0_3490 c1080 rfl ?_
                                                                                                              refine aw_iconst (v := 0) (pc1 := 3494) at_0_3493 (by decide) rfl ?_
                                                                                                              cases hs434
                                                                                                              exact aw_iret at_0_3494 (by rw [rt_0]; decide) rfl
                                                                                                          · clear hs433
                                                                                                            exact Or.inr hs434
                                                                                                        · clear hs431
                                                                                                          exact Or.inr hs432
                                                                                                      · clear hs428
                                                                                                        exact Or.inr hs429
                                                                                                    · rw [if_neg c1064] at hs1
                                                                                                      by_cases c1085 : (v2 &&& 63) = 48
                                                                                                      · rw [if_pos c1085] at hs1
                                                                                                        refine aw_tsw (t := 3515) at_0_40 (by rw [c1085]; rfl) ?_
                                                                                                        refine aw_vload_n (pc1 := 3516) at_0_3515 l1 i1 rfl ?_
                                                                                                        obtain ⟨z1086, hs436⟩ := am_ift hs1
                                                                                                        clear hs1
                                                                                                        refine aw_call (F := fm_28 x1 h) (t := true) (na := 1) (kd := 1) (as := [x1]) at_0_3516 (am_k3v kb_28) mn_28 mk_28 rfl rfl (am_ok_v mi_28 (am_hl rfl (am_ccR i1 am_cats_0) rfl) z1086) (am_hc am_cats_0 rfl) (fun _ => ⟨rfl, hh_0⟩) (fun o1 hz9 => rm_28 x1 h o1 i1 hz9) ?_
                                                                                                        rcases am_cI_s hs436 with ⟨v1087, h1088, f1089, hs437⟩ | hs437
                                                                                                        · clear hs436
                                                                                                          refine Or.inl ⟨_, _, f1089, ?_⟩
                                                                                                          show am_W X _ 0 3519 _ [(.int v1087)] h1088 _
                                                                                                          refine aw_vload_n (pc1 := 3520) at_0_3519 l2 i2 rfl ?_
                                                                                                          obtain ⟨z1090, hs438⟩ := am_ift hs437
                                                                                                          clear hs437
                                                                                                          refine aw_call (F := fm_553 x2 h1088) (t := true) (na := 1) (kd := 1) (as := [x2]) at_0_3520 (am_k3v kb_553) mn_553 mk_553 rfl rfl (am_ok_v mi_553 (am_hl rfl (am_ccR i2 am_cats_0) rfl) z1090) (am_hc (am_ccI am_cats_0) rfl) (fun _ => ⟨rfl, hh_0⟩) (fun o1 hz9 => rm_553 x2 h1088 o1 i2 hz9) ?_
                                                                                                          rcases am_cI_s hs438 with ⟨v1091, h1092, f1093, hs439⟩ | hs439
                                                                                                          · clear hs438
                                                                                                            refine Or.inl ⟨_, _, f1093, ?_⟩
                                                                                                            show am_W X _ 0 3523 _ [(.int v1091), (.int v1087)] h1092 _
                                                                                                            by_cases c1094 : v1087 = v1091
                                                                                                            · rw [if_pos c1094] at hs439
                                                                                                              refine aw_iceq_t at_0_3523 c1094 ?_
                                                                                                              exact rg_0_4192 (fun z0 z1 z2 z3 h o hs439 => ih z0 z1 z2 z3 h o hs439) x1 x2 x3 x4 h1092 o l0 l1 l2 l3 l4 i1 i2 i3 hs439
                                                                                                            · rw [if_neg c1094] at hs439
                                                                                                              refine aw_iceq_f (pc1 := 3526) at_0_3523 c1094 rfl ?_
                                                                                                              refine aw_iconst (v := 0) (pc1 := 3527) at_0_3526 (by decide) rfl ?_
                                                                                                              cases hs439
                                                                                                              exact aw_iret at_0_3527 (by rw [rt_0]; decide) rfl
                                                                                                          · clear hs438
                                                                                                            exact Or.inr hs439
                                                                                                        · clear hs436
                                                                                                          exact Or.inr hs437
                                                                                                      · rw [if_neg c1085] at hs1
                                                                                                        by_cases c1095 : (v2 &&& 63) = 49
                                                                                                        · rw [if_pos c1095] at hs1
                                                                                                          refine aw_tsw (t := 3528) at_0_40 (by rw [c1095]; rfl) ?_
                                                                                                          refine aw_vload_n (pc1 := 3529) at_0_3528 l1 i1 rfl ?_
                                                                                                          refine aw_vload_n (pc1 := 3530) at_0_3529 l0 rfl rfl ?_
                                                                                                          refine aw_iload (pc1 := 3532) at_0_3530 l4 rfl ?_
                                                                                                          refine aw_iconst (v := 1) (pc1 := 3533) at_0_3532 (by decide) rfl ?_
                                                                                                          refine aw_iadd (v := (x4 + 1)) (pc1 := 3534) at_0_3533 rfl rfl ?_
                                                                                                          obtain ⟨v1096, e1097, hs440⟩ := am_bind hs1
                                                                                                          clear hs1
                                                                                                          refine aw_pX (j := 0) (pc1 := 3535) at_0_3534 rfl rfl e1097 rfl ?_
                                                                                                          refine aw_vload_n (pc1 := 3536) at_0_3535 l0 rfl rfl ?_
                                                                                                          refine aw_iload (pc1 := 3538) at_0_3536 l4 rfl ?_
                                                                                                          refine aw_iconst (v := 2) (pc1 := 3539) at_0_3538 (by decide) rfl ?_
                                                                                                          refine aw_iadd (v := (x4 + 2)) (pc1 := 3540) at_0_3539 rfl rfl ?_
                                                                                                          obtain ⟨v1098, e1099, hs441⟩ := am_bind hs440
                                                                                                          clear hs440
                                                                                                          refine aw_pX (j := 0) (pc1 := 3541) at_0_3540 rfl rfl e1099 rfl ?_
                                                                                                          obtain ⟨z1100, hs442⟩ := am_ift hs441
                                                                                                          clear hs441
                                                                                                          refine aw_call (F := fm_29 x1 v1096 v1098 h) (t := true) (na := 3) (kd := 1) (as := [x1, (.int v1096), (.int v1098)]) at_0_3541 (am_k3v kb_29) mn_29 mk_29 rfl rfl (am_ok_v mi_29 (am_hl rfl (am_ccR i1 (am_ccI (am_ccI am_cats_0))) rfl) z1100) (am_hc am_cats_0 rfl) (fun _ => ⟨rfl, hh_0⟩) (fun o1 hz9 => rm_29 x1 v1096 v1098 h o1 i1 hz9) ?_
                                                                                                          rcases am_cI_s hs442 with ⟨v1101, h1102, f1103, hs443⟩ | hs443
                                                                                                          · clear hs442
                                                                                                            refine Or.inl ⟨_, _, f1103, ?_⟩
                                                                                                            show am_W X _ 0 3544 _ [(.int v1101)] h1102 _
                                                                                                            refine aw_vload_n (pc1 := 3545) at_0_3544 l2 i2 rfl ?_
                                                                                                            refine aw_vload_n (pc1 := 3546) at_0_3545 l0 rfl rfl ?_
                                                                                                            refine aw_iload (pc1 := 3548) at_0_3546 l4 rfl ?_
                                                                                                            refine aw_iconst (v := 1) (pc1 := 3549) at_0_3548 (by decide) rfl ?_
                                                                                                            refine aw_iadd (v := (x4 + 1)) (pc1 := 3550) at_0_3549 rfl rfl ?_
                                                                                                            obtain ⟨v1104, e1105, hs444⟩ := am_bind hs443
                                                                                                            clear hs443
                                                                                                            refine aw_pX (j := 0) (pc1 := 3551) at_0_3550 rfl rfl e1105 rfl ?_
                                                                                                            refine aw_vload_n (pc1 := 3552) at_0_3551 l0 rfl rfl ?_
                                                                                                            refine aw_iload (pc1 := 3554) at_0_3552 l4 rfl ?_
                                                                                                            refine aw_iconst (v := 2) (pc1 := 3555) at_0_3554 (by decide) rfl ?_
                                                                                                            refine aw_iadd (v := (x4 + 2)) (pc1 := 3556) at_0_3555 rfl rfl ?_
                                                                                                            obtain ⟨v1106, e1107, hs445⟩ := am_bind hs444
                                                                                                            clear hs444
                                                                                                            refine aw_pX (j := 0) (pc1 := 3557) at_0_3556 rfl rfl e1107 rfl ?_
                                                                                                            obtain ⟨z1108, hs446⟩ := am_ift hs445
                                                                                                            clear hs445
                                                                                                            refine aw_call (F := fm_554 x2 v1104 v1106 h1102) (t := true) (na := 3) (kd := 1) (as := [x2, (.int v1104), (.int v1106)]) at_0_3557 (am_k3v kb_554) mn_554 mk_554 rfl rfl (am_ok_v mi_554 (am_hl rfl (am_ccR i2 (am_ccI (am_ccI am_cats_0))) rfl) z1108) (am_hc (am_ccI am_cats_0) rfl) (fun _ => ⟨rfl, hh_0⟩) (fun o1 hz9 => rm_554 x2 v1104 v1106 h1102 o1 i2 hz9) ?_
                                                                                                            rcases am_cI_s hs446 with ⟨v1109, h1110, f1111, hs447⟩ | hs447
                                                                                                            · clear hs446
                                                                                                              refine Or.inl ⟨_, _, f1111, ?_⟩
                                                                                                              show am_W X _ 0 3560 _ [(.int v1109), (.int v1101)] h1110 _
                                                                                                              by_cases c1112 : v1101 = v1109
                                                                                                              · rw [if_pos c1112] at hs447
                                                                                                                refine aw_iceq_t at_0_3560 c1112 ?_
                                                                                                                exact rg_0_4192 (fun z0 z1 z2 z3 h o hs447 => ih z0 z1 z2 z3 h o hs447) x1 x2 x3 x4 h1110 o l0 l1 l2 l3 l4 i1 i2 i3 hs447
                                                                                                              · rw [if_neg c1112] at hs447
                                                                                                                refine aw_iceq_f (pc1 := 3563) at_0_3560 c1112 rfl ?_
                                                                                                                refine aw_iconst (v := 0) (pc1 := 3564) at_0_3563 (by decide) rfl ?_
                                                                                                                cases hs447
                                                                                                                exact aw_iret at_0_3564 (by rw [rt_0]; decide) rfl
                                                                                                            · clear hs446
                                                                                                              exact Or.inr hs447
                                                                                                          · clear hs442
                                                                                                            exact Or.inr hs443
                                                                                                        · rw [if_neg c1095] at hs1
                                                                                                          by_cases c1113 : (v2 &&& 63) = 50
                                                                                                          · rw [if_pos c1113] at hs1
                                                                                                            refine aw_tsw (t := 3565) at_0_40 (by rw [c1113]; rfl) ?_
                                                                                                            refine aw_vload_n (pc1 := 3566) at_0_3565 l1 i1 rfl ?_
                                                                                                            refine aw_vload_n (pc1 := 3567) at_0_3566 l0 rfl rfl ?_
                                                                                                            refine aw_iload (pc1 := 3569) at_0_3567 l4 rfl ?_
                                                                                                            refine aw_iconst (v := 1) (pc1 := 3570) at_0_3569 (by decide) rfl ?_
                                                                                                            refine aw_iadd (v := (x4 + 1)) (pc1 := 3571) at_0_3570 rfl rfl ?_
                                                                                                            obtain ⟨v1114, e1115, hs448⟩ := am_bind hs1
                                                                                                            clear hs1
                                                                                                            refine aw_pX (j := 0) (pc1 := 3572) at_0_3571 rfl rfl e1115 rfl ?_
                                                                                                            refine aw_vload_n (pc1 := 3573) at_0_3572 l0 rfl rfl ?_
                                                                                                            refine aw_iload (pc1 := 3575) at_0_3573 l4 rfl ?_
                                                                                                            refine aw_iconst (v := 2) (pc1 := 3576) at_0_3575 (by decide) rfl ?_
                                                                                                            refine aw_iadd (v := (x4 + 2)) (pc1 := 3577) at_0_3576 rfl rfl ?_
                                                                                                            obtain ⟨v1116, e1117, hs449⟩ := am_bind hs448
                                                                                                            clear hs448
                                                                                                            refine aw_pX (j := 0) (pc1 := 3578) at_0_3577 rfl rfl e1117 rfl ?_
                                                                                                            refine aw_vload_n (pc1 := 3579) at_0_3578 l3 i3 rfl ?_
                                                                                                            refine aw_call (F := fm_283 N x1 v1114 v1116 x3 h) (t := false) (na := 4) (kd := 0) (as := [x1, (.int v1114), (.int v1116), x3]) at_0_3579 (am_k3s kb_283) mn_283 mk_283 rfl rfl (am_ok_s mi_283 (am_hl rfl (am_ccR i1 (am_ccI (am_ccI (am_ccR i3 am_cats_0)))) rfl)) (am_hc am_cats_0 rfl) (fun hz9 => by cases hz9) (fun o1 hz9 => rm_283 x1 v1114 v1116 x3 h o1 i1 i3 hz9) ?_
                                                                                                            rcases am_cI_s hs449 with ⟨v1118, h1119, f1120, hs450⟩ | hs450
                                                                                                            · clear hs449
                                                                                                              refine Or.inl ⟨_, _, f1120, ?_⟩
                                                                                                              show am_W X _ 0 3582 _ [(.int v1118)] h1119 _
                                                                                                              refine aw_istore (lv1 := am_put1 _ 5 _) (pc1 := 3584) at_0_3582 rfl rfl ?_
                                                                                                              refine aw_vload_n (pc1 := 3585) at_0_3584 (am_lk1 l2 rfl rfl) i2 rfl ?_
                                                                                                              refine aw_vload_n (pc1 := 3586) at_0_3585 (am_lk1 l0 rfl rfl) rfl rfl ?_
                                                                                                              refine aw_iload (pc1 := 3588) at_0_3586 (am_lk1 l4 rfl rfl) rfl ?_
                                                                                                              refine aw_iconst (v := 1) (pc1 := 3589) at_0_3588 (by decide) rfl ?_
                                                                                                              refine aw_iadd (v := (x4 + 1)) (pc1 := 3590) at_0_3589 rfl rfl ?_
                                                                                                              obtain ⟨v1121, e1122, hs451⟩ := am_bind hs450
                                                                                                              clear hs450
                                                                                                              refine aw_pX (j := 0) (pc1 := 3591) at_0_3590 rfl rfl e1122 rfl ?_
                                                                                                              refine aw_vload_n (pc1 := 3592) at_0_3591 (am_lk1 l0 rfl rfl) rfl rfl ?_
                                                                                                              refine aw_iload (pc1 := 3594) at_0_3592 (am_lk1 l4 rfl rfl) rfl ?_
                                                                                                              refine aw_iconst (v := 2) (pc1 := 3595) at_0_3594 (by decide) rfl ?_
                                                                                                              refine aw_iadd (v := (x4 + 2)) (pc1 := 3596) at_0_3595 rfl rfl ?_
                                                                                                              obtain ⟨v1123, e1124, hs452⟩ := am_bind hs451
                                                                                                              clear hs451
                                                                                                              refine aw_pX (j := 0) (pc1 := 3597) at_0_3596 rfl rfl e1124 rfl ?_
                                                                                                              obtain ⟨z1125, hs453⟩ := am_ift hs452
                                                                                                              clear hs452
                                                                                                              refine aw_call (F := fm_555 N x2 v1121 v1123 h1119) (t := true) (na := 3) (kd := 1) (as := [x2, (.int v1121), (.int v1123)]) at_0_3597 (am_k3v kb_555) mn_555 mk_555 rfl rfl (am_ok_v mi_555 (am_hl rfl (am_ccR i2 (am_ccI (am_ccI am_cats_0))) rfl) z1125) (am_hc am_cats_0 rfl) (fun _ => ⟨rfl, hh_0⟩) (fun o1 hz9 => rm_555 x2 v1121 v1123 h1119 o1 i2 hz9) ?_
                                                                                                              rcases am_cI_s hs453 with ⟨v1126, h1127, f1128, hs454⟩ | hs454
                                                                                                              · clear hs453
                                                                                                                refine Or.inl ⟨_, _, f1128, ?_⟩
                                                                                                                show am_W X _ 0 3600 _ [(.int v1126)] h1127 _
                                                                                                                refine aw_istore (lv1 := am_put1 _ 6 _) (pc1 := 3602) at_0_3600 rfl rfl ?_
                                                                                                                refine aw_vload_n (pc1 := 3603) at_0_3602 (am_lk1 (am_lk1 l2 rfl rfl) rfl rfl) i2 rfl ?_
                                                                                                                obtain ⟨z1129, hs455⟩ := am_ift hs454
                                                                                                                clear hs454
                                                                                                                refine aw_call (F := fm_324 x2 h1127) (t := true) (na := 1) (kd := 1) (as := [x2]) at_0_3603 (am_k3v kb_324) mn_324 mk_324 rfl rfl (am_ok_v mi_324 (am_hl rfl (am_ccR i2 am_cats_0) rfl) z1129) (am_hc am_cats_0 rfl) (fun _ => ⟨rfl, hh_0⟩) (fun o1 hz9 => rm_324 x2 h1127 o1 i2 hz9) ?_
                                                                                                                rcases am_cI_s hs455 with ⟨v1130, h1131, f1132, hs456⟩ | hs456
                                                                                                                · clear hs455
                                                                                                                  refine Or.inl ⟨_, _, f1132, ?_⟩
                                                                                                                  show am_W X _ 0 3606 _ [(.int v1130)] h1131 _
                                                                                                                  refine aw_iload (pc1 := 3608) at_0_3606 (am_lk1 am_lk0 rfl rfl) rfl ?_
                                                                                                                  by_cases c1133 : v1130 = v1118
                                                                                                                  · rw [if_pos c1133] at hs456
                                                                                                                    refine aw_iceq_t at_0_3608 c1133 ?_
                                                                                                                    refine aw_iload (pc1 := 3615) at_0_3613 (am_lk1 am_lk0 rfl rfl) rfl ?_
                                                                                                                    by_cases c1134 : ¬ v1118 = 0
                                                                                                                    · rw [if_pos c1134] at hs456
                                                                                                                      refine aw_ifne_t at_0_3615 c1134 ?_
                                                                                                                      exact rg_0_3637 (fun z0 z1 z2 z3 h o hs456 => ih z0 z1 z2 z3 h o hs456) x1 x2 x3 x4 h1131 o (am_lk1 (am_lk1 l0 rfl rfl) rfl rfl) (am_lk1 (am_lk1 l1 rfl rfl) rfl rfl) (am_lk1 (am_lk1 l2 rfl rfl) rfl rfl) (am_lk1 (am_lk1 l3 rfl rfl) rfl rfl) (am_lk1 (am_lk1 l4 rfl rfl) rfl rfl) i1 i2 i3 hs456
                                                                                                                    · rw [if_neg c1134] at hs456
                                                                                                                      refine aw_ifne_f (pc1 := 3618) at_0_3615 c1134 rfl ?_
                                                                                                                      refine aw_vload_n (pc1 := 3619) at_0_3618 (am_lk1 (am_lk1 l3 rfl rfl) rfl rfl) i3 rfl ?_
                                                                                                                      refine aw_iconst (v := 0) (pc1 := 3620) at_0_3619 (by decide) rfl ?_
                                                                                                                      obtain ⟨v1135, e1136, hs457⟩ := am_bind hs456
                                                                                                                      clear hs456
                                                                                                                      refine aw_pAL (pc1 := 3621) at_0_3620 e1136 rfl ?_
                                                                                                                      refine aw_iload (pc1 := 3623) at_0_3621 am_lk0 rfl ?_
                                                                                                                      by_cases c1137 : v1126 = 0
                                                                                                                      · rw [if_pos c1137] at hs457
                                                                                                                        refine aw_ifeq_t at_0_3623 c1137 ?_
                                                                                                                        refine aw_lconst (v := 0) (pc1 := 3631) at_0_3630 (by decide) rfl ?_
                                                                                                                        exact rg_0_3631 (fun z0 z1 z2 z3 h o hs457 => ih z0 z1 z2 z3 h o hs457) x1 x2 x3 x4 v1135 0 h1131 o (am_lk1 (am_lk1 l0 rfl rfl) rfl rfl) (am_lk1 (am_lk1 l1 rfl rfl) rfl rfl) (am_lk1 (am_lk1 l2 rfl rfl) rfl rfl) (am_lk1 (am_lk1 l3 rfl rfl) rfl rfl) (am_lk1 (am_lk1 l4 rfl rfl) rfl rfl) i1 i2 i3 hs457
                                                                                                                      · rw [if_neg c1137] at hs457
                                                                                                                        refine aw_ifeq_f (pc1 := 3626) at_0_3623 c1137 rfl ?_
                                                                                                                        refine aw_lconst (v := 1) (pc1 := 3627) at_0_3626 (by decide) rfl ?_
                                                                                                                        refine aw_goto at_0_3627 ?_
                                                                                                                        exact rg_0_3631 (fun z0 z1 z2 z3 h o hs457 => ih z0 z1 z2 z3 h o hs457) x1 x2 x3 x4 v1135 1 h1131 o (am_lk1 (am_lk1 l0 rfl rfl) rfl rfl) (am_lk1 (am_lk1 l1 rfl rfl) rfl rfl) (am_lk1 (am_lk1 l2 rfl rfl) rfl rfl) (am_lk1 (am_lk1 l3 rfl rfl) rfl rfl) (am_lk1 (am_lk1 l4 rfl rfl) rfl rfl) i1 i2 i3 hs457
                                                                                                                  · rw [if_neg c1133] at hs456
                                                                                                                    refine aw_iceq_f (pc1 := 3611) at_0_3608 c1133 rfl ?_
                                                                                                                    refine aw_iconst (v := 0) (pc1 := 3612) at_0_3611 (by decide) rfl ?_
                                                                                                                    cases hs456
                                                                                                                    exact aw_iret at_0_3612 (by rw [rt_0]; decide) rfl
                                                                                                                · clear hs455
                                                                                                                  exact Or.inr hs456
                                                                                                              · clear hs453
                                                                                                                exact Or.inr hs454
                                                                                                            · clear hs449
                                                                                                              exact Or.inr hs450
                                                                                                          · rw [if_neg c1113] at hs1
                                                                                                            by_cases c1138 : (v2 &&& 63) = 51
                                                                                                            · rw [if_pos c1138] at hs1
                                                                                                              refine aw_tsw (t := 3640) at_0_40 (by rw [c1138]; rfl) ?_
                                                                                                              refine aw_vload_n (pc1 := 3641) at_0_3640 l1 i1 rfl ?_
                                                                                                              refine aw_vload_n (pc1 := 3642) at_0_3641 l0 rfl rfl ?_
                                                                                                              refine aw_iload (pc1 := 3644) at_0_3642 l4 rfl ?_
                                                                                                              refine aw_iconst (v := 1) (pc1 := 3645) at_0_3644 (by decide) rfl ?_
                                                                                                              refine aw_iadd (v := (x4 + 1)) (pc1 := 3646) at_0_3645 rfl rfl ?_
                                                                                                              obtain ⟨v1139, e1140, hs458⟩ := am_bind hs1
                                                                                                              clear hs1
                                                                                                              refine aw_pX (j := 0) (pc1 := 3647) at_0_3646 rfl rfl e1140 rfl ?_
                                                                                                              refine aw_vload_n (pc1 := 3648) at_0_3647 l0 rfl rfl ?_
                                                                                                              refine aw_iload (pc1 := 3650) at_0_3648 l4 rfl ?_
                                                                                                              refine aw_iconst (v := 2) (pc1 := 3651) at_0_3650 (by decide) rfl ?_
                                                                                                              refine aw_iadd (v := (x4 + 2)) (pc1 := 3652) at_0_3651 rfl rfl ?_
                                                                                                              obtain ⟨v1141, e1142, hs459⟩ := am_bind hs458
                                                                                                              clear hs458
                                                                                                              refine aw_pX (j := 0) (pc1 := 3653) at_0_3652 rfl rfl e1142 rfl ?_
                                                                                                              refine aw_vload_n (pc1 := 3654) at_0_3653 l3 i3 rfl ?_
                                                                                                              refine aw_call (F := fm_286 N x1 v1139 v1141 x3 h) (t := false) (na := 4) (kd := 0) (as := [x1, (.int v1139), (.int v1141), x3]) at_0_3654 (am_k3s kb_286) mn_286 mk_286 rfl rfl (am_ok_s mi_286 (am_hl rfl (am_ccR i1 (am_ccI (am_ccI (am_ccR i3 am_cats_0)))) rfl)) (am_hc am_cats_0 rfl) (fun hz9 => by cases hz9) (fun o1 hz9 => rm_286 x1 v1139 v1141 x3 h o1 i1 i3 hz9) ?_
                                                                                                              rcases am_cI_s hs459 with ⟨v1143, h1144, f1145, hs460⟩ | hs460
                                                                                                              · clear hs459
                                                                                                                refine Or.inl ⟨_, _, f1145, ?_⟩
                                                                                                                show am_W X _ 0 3657 _ [(.int v1143)] h1144 _
                                                                                                                refine aw_istore (lv1 := am_put1 _ 5 _) (pc1 := 3659) at_0_3657 rfl rfl ?_
                                                                                                                refine aw_vload_n (pc1 := 3660) at_0_3659 (am_lk1 l2 rfl rfl) i2 rfl ?_
                                                                                                                refine aw_vload_n (pc1 := 3661) at_0_3660 (am_lk1 l0 rfl rfl) rfl rfl ?_
                                                                                                                refine aw_iload (pc1 := 3663) at_0_3661 (am_lk1 l4 rfl rfl) rfl ?_
                                                                                                                refine aw_iconst (v := 1) (pc1 := 3664) at_0_3663 (by decide) rfl ?_
                                                                                                                refine aw_iadd (v := (x4 + 1)) (pc1 := 3665) at_0_3664 rfl rfl ?_
                                                                                                                obtain ⟨v1146, e1147, hs461⟩ := am_bind hs460
                                                                                                                clear hs460
                                                                                                                refine aw_pX (j := 0) (pc1 := 3666) at_0_3665 rfl rfl e1147 rfl ?_
                                                                                                                refine aw_vload_n (pc1 := 3667) at_0_3666 (am_lk1 l0 rfl rfl) rfl rfl ?_
                                                                                                                refine aw_iload (pc1 := 3669) at_0_3667 (am_lk1 l4 rfl rfl) rfl ?_
                                                                                                                refine aw_iconst (v := 2) (pc1 := 3670) at_0_3669 (by decide) rfl ?_
                                                                                                                refine aw_iadd (v := (x4 + 2)) (pc1 := 3671) at_0_3670 rfl rfl ?_
                                                                                                                obtain ⟨v1148, e1149, hs462⟩ := am_bind hs461
                                                                                                                clear hs461
                                                                                                                refine aw_pX (j := 0) (pc1 := 3672) at_0_3671 rfl rfl e1149 rfl ?_
                                                                                                                obtain ⟨z1150, hs463⟩ := am_ift hs462
                                                                                                                clear hs462
                                                                                                                refine aw_call (F := fm_566 N x2 v1146 v1148 h1144) (t := true) (na := 3) (kd := 1) (as := [x2, (.int v1146), (.int v1148)]) at_0_3672 (am_k3v kb_566) mn_566 mk_566 rfl rfl (am_ok_v mi_566 (am_hl rfl (am_ccR i2 (am_ccI (am_ccI am_cats_0))) rfl) z1150) (am_hc am_cats_0 rfl) (fun _ => ⟨rfl, hh_0⟩) (fun o1 hz9 => rm_566 x2 v1146 v1148 h1144 o1 i2 hz9) ?_
                                                                                                                rcases am_cI_s hs463 with ⟨v1151, h1152, f1153, hs464⟩ | hs464
                                                                                                                · clear hs463
                                                                                                                  refine Or.inl ⟨_, _, f1153, ?_⟩
                                                                                                                  show am_W X _ 0 3675 _ [(.int v1151)] h1152 _
                                                                                                                  refine aw_istore (lv1 := am_put1 _ 6 _) (pc1 := 3677) at_0_3675 rfl rfl ?_
                                                                                                                  refine aw_vload_n (pc1 := 3678) at_0_3677 (am_lk1 (am_lk1 l2 rfl rfl) rfl rfl) i2 rfl ?_
                                                                                                                  obtain ⟨z1154, hs465⟩ := am_ift hs464
                                                                                                                  clear hs464
                                                                                                                  refine aw_call (F := fm_324 x2 h1152) (t := true) (na := 1) (kd := 1) (as := [x2]) at_0_3678 (am_k3v kb_324) mn_324 mk_324 rfl rfl (am_ok_v mi_324 (am_hl rfl (am_ccR i2 am_cats_0) rfl) z1154) (am_hc am_cats_0 rfl) (fun _ => ⟨rfl, hh_0⟩) (fun o1 hz9 => rm_324 x2 h1152 o1 i2 hz9) ?_
                                                                                                                  rcases am_cI_s hs465 with ⟨v1155, h1156, f1157, hs466⟩ | hs466
                                                                                                                  · clear hs465
                                                                                                                    refine Or.inl ⟨_, _, f1157, ?_⟩
                                                                                                                    show am_W X _ 0 3681 _ [(.int v1155)] h1156 _
                                                                                                                    refine aw_iload (pc1 := 3683) at_0_3681 (am_lk1 am_lk0 rfl rfl) rfl ?_
                                                                                                                    by_cases c1158 : v1155 = v1143
                                                                                                                    · rw [if_pos c1158] at hs466
                                                                                                                      refine aw_iceq_t at_0_3683 c1158 ?_
                                                                                                                      refine aw_iload (pc1 := 3690) at_0_3688 (am_lk1 am_lk0 rfl rfl) rfl ?_
                                                                                                                      by_cases c1159 : ¬ v1143 = 0
                                                                                                                      · rw [if_pos c1159] at hs466
                                                                                                                        refine aw_ifne_t at_0_3690 c1159 ?_
                                                                                                                        exact rg_0_3705 (fun z0 z1 z2 z3 h o hs466 => ih z0 z1 z2 z3 h o hs466) x1 x2 x3 x4 h1156 o (am_lk1 (am_lk1 l0 rfl rfl) rfl rfl) (am_lk1 (am_lk1 l1 rfl rfl) rfl rfl) (am_lk1 (am_lk1 l2 rfl rfl) rfl rfl) (am_lk1 (am_lk1 l3 rfl rfl) rfl rfl) (am_lk1 (am_lk1 l4 rfl rfl) rfl rfl) i1 i2 i3 hs466
                                                                                                                      · rw [if_neg c1159] at hs466
                                                                                                                        refine aw_ifne_f (pc1 := 3693) at_0_3690 c1159 rfl ?_
                                                                                                                        refine aw_vload_n (pc1 := 3694) at_0_3693 (am_lk1 (am_lk1 l3 rfl rfl) rfl rfl) i3 rfl ?_
                                                                                                                        refine aw_iconst (v := 0) (pc1 := 3695) at_0_3694 (by decide) rfl ?_
                                                                                                                        obtain ⟨v1160, e1161, hs467⟩ := am_bind hs466
                                                                                                                        clear hs466
                                                                                                                        refine aw_pAL (pc1 := 3696) at_0_3695 e1161 rfl ?_
                                                                                                                        refine aw_iload (pc1 := 3698) at_0_3696 am_lk0 rfl ?_
                                                                                                                        refine aw_i2l (v := (Int32.toInt64 v1151)) (pc1 := 3699) at_0_3698 rfl rfl ?_
                                                                                                                        refine aw_lcmp (v := (lg_cmp v1160 (Int32.toInt64 v1151))) (pc1 := 3700) at_0_3699 rfl rfl ?_
                                                                                                                        by_cases c1162 : (lg_cmp v1160 (Int32.toInt64 v1151)) = 0
                                                                                                                        · rw [if_pos c1162] at hs467
                                                                                                                          refine aw_ifeq_t at_0_3700 c1162 ?_
                                                                                                                          exact rg_0_3705 (fun z0 z1 z2 z3 h o hs467 => ih z0 z1 z2 z3 h o hs467) x1 x2 x3 x4 h1156 o (am_lk1 (am_lk1 l0 rfl rfl) rfl rfl) (am_lk1 (am_lk1 l1 rfl rfl) rfl rfl) (am_lk1 (am_lk1 l2 rfl rfl) rfl rfl) (am_lk1 (am_lk1 l3 rfl rfl) rfl rfl) (am_lk1 (am_lk1 l4 rfl rfl) rfl rfl) i1 i2 i3 hs467
                                                                                                                        · rw [if_neg c1162] at hs467
                                                                                                                          refine aw_ifeq_f (pc1 := 3703) at_0_3700 c1162 rfl ?_
                                                                                                                          refine aw_iconst (v := 0) (pc1 := 3704) at_0_3703 (by decide) rfl ?_
                                                                                                                          cases hs467
                                                                                                                          exact aw_iret at_0_3704 (by rw [rt_0]; decide) rfl
                                                                                                                    · rw [if_neg c1158] at hs466
                                                                                                                      refine aw_iceq_f (pc1 := 3686) at_0_3683 c1158 rfl ?_
                                                                                                                      refine aw_iconst (v := 0) (pc1 := 3687) at_0_3686 (by decide) rfl ?_
                                                                                                                      cases hs466
                                                                                                                      exact aw_iret at_0_3687 (by rw [rt_0]; decide) rfl
                                                                                                                  · clear hs465
                                                                                                                    exact Or.inr hs466
                                                                                                                · clear hs463
                                                                                                                  exact Or.inr hs464
                                                                                                              · clear hs459
                                                                                                                exact Or.inr hs460
                                                                                                            · rw [if_neg c1138] at hs1
                                                                                                              by_cases c1163 : (v2 &&& 63) = 52
                                                                                                              · rw [if_pos c1163] at hs1
                                                                                                                refine aw_tsw (t := 3708) at_0_40 (by rw [c1163]; rfl) ?_
                                                                                                                refine aw_vload_n (pc1 := 3709) at_0_3708 l1 i1 rfl ?_
                                                                                                                refine aw_vload_n (pc1 := 3710) at_0_3709 l0 rfl rfl ?_
                                                                                                                refine aw_iload (pc1 := 3712) at_0_3710 l4 rfl ?_
                                                                                                                refine aw_iconst (v := 1) (pc1 := 3713) at_0_3712 (by decide) rfl ?_
                                                                                                                refine aw_iadd (v := (x4 + 1)) (pc1 := 3714) at_0_3713 rfl rfl ?_
                                                                                                                obtain ⟨v1164, e1165, hs468⟩ := am_bind hs1
                                                                                                                clear hs1
                                                                                                                refine aw_pX (j := 0) (pc1 := 3715) at_0_3714 rfl rfl e1165 rfl ?_
                                                                                                                refine aw_vload_n (pc1 := 3716) at_0_3715 l3 i3 rfl ?_
                                                                                                                refine aw_call (F := fm_299 x1 v1164 x3 h) (t := false) (na := 3) (kd := 0) (as := [x1, (.int v1164), x3]) at_0_3716 (am_k3s kb_299) mn_299 mk_299 rfl rfl (am_ok_s mi_299 (am_hl rfl (am_ccR i1 (am_ccI (am_ccR i3 am_cats_0))) rfl)) (am_hc am_cats_0 rfl) (fun hz9 => by cases hz9) (fun o1 hz9 => rm_299 x1 v1164 x3 h o1 i1 i3 hz9) ?_
                                                                                                                rcases am_cI_s hs468 with ⟨v1166, h1167, f1168, hs469⟩ | hs469
                                                                                                                · clear hs468
                                                                                                                  refine Or.inl ⟨_, _, f1168, ?_⟩
                                                                                                                  show am_W X _ 0 3719 _ [(.int v1166)] h1167 _
                                                                                                                  refine aw_istore (lv1 := am_put1 _ 5 _) (pc1 := 3721) at_0_3719 rfl rfl ?_
                                                                                                                  refine aw_vload_n (pc1 := 3722) at_0_3721 (am_lk1 l2 rfl rfl) i2 rfl ?_
                                                                                                                  refine aw_vload_n (pc1 := 3723) at_0_3722 (am_lk1 l0 rfl rfl) rfl rfl ?_
                                                                                                                  refine aw_iload (pc1 := 3725) at_0_3723 (am_lk1 l4 rfl rfl) rfl ?_
                                                                                                                  refine aw_iconst (v := 1) (pc1 := 3726) at_0_3725 (by decide) rfl ?_
                                                                                                                  refine aw_iadd (v := (x4 + 1)) (pc1 := 3727) at_0_3726 rfl rfl ?_
                                                                                                                  obtain ⟨v1169, e1170, hs470⟩ := am_bind hs469
                                                                                                                  clear hs469
                                                                                                                  refine aw_pX (j := 0) (pc1 := 3728) at_0_3727 rfl rfl e1170 rfl ?_
                                                                                                                  obtain ⟨z1171, hs471⟩ := am_ift hs470
                                                                                                                  clear hs470
                                                                                                                  refine aw_call (F := fm_576 x2 v1169 h1167) (t := true) (na := 2) (kd := 1) (as := [x2, (.int v1169)]) at_0_3728 (am_k3v kb_576) mn_576 mk_576 rfl rfl (am_ok_v mi_576 (am_hl rfl (am_ccR i2 (am_ccI am_cats_0)) rfl) z1171) (am_hc am_cats_0 rfl) (fun _ => ⟨rfl, hh_0⟩) (fun o1 hz9 => rm_576 x2 v1169 h1167 o1 i2 hz9) ?_
                                                                                                                  rcases am_cI_s hs471 with ⟨v1172, h1173, f1174, hs472⟩ | hs472
                                                                                                                  · clear hs471
                                                                                                                    refine Or.inl ⟨_, _, f1174, ?_⟩
                                                                                                                    show am_W X _ 0 3731 _ [(.int v1172)] h1173 _
                                                                                                                    refine aw_istore (lv1 := am_put1 _ 6 _) (pc1 := 3733) at_0_3731 rfl rfl ?_
                                                                                                                    refine aw_vload_n (pc1 := 3734) at_0_3733 (am_lk1 (am_lk1 l2 rfl rfl) rfl rfl) i2 rfl ?_
                                                                                                                    obtain ⟨z1175, hs473⟩ := am_ift hs472
                                                                                                                    clear hs472
                                                                                                                    refine aw_call (F := fm_324 x2 h1173) (t := true) (na := 1) (kd := 1) (as := [x2]) at_0_3734 (am_k3v kb_324) mn_324 mk_324 rfl rfl (am_ok_v mi_324 (am_hl rfl (am_ccR i2 am_cats_0) rfl) z1175) (am_hc am_cats_0 rfl) (fun _ => ⟨rfl, hh_0⟩) (fun o1 hz9 => rm_324 x2 h1173 o1 i2 hz9) ?_
                                                                                                                    rcases am_cI_s hs473 with ⟨v1176, h1177, f1178, hs474⟩ | hs474
                                                                                                                    · clear hs473
                                                                                                                      refine Or.inl ⟨_, _, f1178, ?_⟩
                                                                                                                      show am_W X _ 0 3737 _ [(.int v1176)] h1177 _
                                                                                                                      refine aw_iload (pc1 := 3739) at_0_3737 (am_lk1 am_lk0 rfl rfl) rfl ?_
                                                                                                                      by_cases c1179 : v1176 = v1166
                                                                                                                      · rw [if_pos c1179] at hs474
                                                                                                                        refine aw_iceq_t at_0_3739 c1179 ?_
                                                                                                                        refine aw_iload (pc1 := 3746) at_0_3744 (am_lk1 am_lk0 rfl rfl) rfl ?_
                                                                                                                        by_cases c1180 : ¬ v1166 = 0
                                                                                                                        · rw [if_pos c1180] at hs474
                                                                                                                          refine aw_ifne_t at_0_3746 c1180 ?_
                                                                                                                          exact rg_0_3761 (fun z0 z1 z2 z3 h o hs474 => ih z0 z1 z2 z3 h o hs474) x1 x2 x3 x4 h1177 o (am_lk1 (am_lk1 l0 rfl rfl) rfl rfl) (am_lk1 (am_lk1 l1 rfl rfl) rfl rfl) (am_lk1 (am_lk1 l2 rfl rfl) rfl rfl) (am_lk1 (am_lk1 l3 rfl rfl) rfl rfl) (am_lk1 (am_lk1 l4 rfl rfl) rfl rfl) i1 i2 i3 hs474
                                                                                                                        · rw [if_neg c1180] at hs474
                                                                                                                          refine aw_ifne_f (pc1 := 3749) at_0_3746 c1180 rfl ?_
                                                                                                                          refine aw_vload_n (pc1 := 3750) at_0_3749 (am_lk1 (am_lk1 l3 rfl rfl) rfl rfl) i3 rfl ?_
                                                                                                                          refine aw_iconst (v := 0) (pc1 := 3751) at_0_3750 (by decide) rfl ?_
                                                                                                                          obtain ⟨v1181, e1182, hs475⟩ := am_bind hs474
                                                                                                                          clear hs474
                                                                                                                          refine aw_pAL (pc1 := 3752) at_0_3751 e1182 rfl ?_
                                                                                                                          refine aw_iload (pc1 := 3754) at_0_3752 am_lk0 rfl ?_
                                                                                                                          refine aw_i2l (v := (Int32.toInt64 v1172)) (pc1 := 3755) at_0_3754 rfl rfl ?_
                                                                                                                          refine aw_lcmp (v := (lg_cmp v1181 (Int32.toInt64 v1172))) (pc1 := 3756) at_0_3755 rfl rfl ?_
                                                                                                                          by_cases c1183 : (lg_cmp v1181 (Int32.toInt64 v1172)) = 0
                                                                                                                          · rw [if_pos c1183] at hs475
                                                                                                                            refine aw_ifeq_t at_0_3756 c1183 ?_
                                                                                                                            exact rg_0_3761 (fun z0 z1 z2 z3 h o hs475 => ih z0 z1 z2 z3 h o hs475) x1 x2 x3 x4 h1177 o (am_lk1 (am_lk1 l0 rfl rfl) rfl rfl) (am_lk1 (am_lk1 l1 rfl rfl) rfl rfl) (am_lk1 (am_lk1 l2 rfl rfl) rfl rfl) (am_lk1 (am_lk1 l3 rfl rfl) rfl rfl) (am_lk1 (am_lk1 l4 rfl rfl) rfl rfl) i1 i2 i3 hs475
                                                                                                                          · rw [if_neg c1183] at hs475
                                                                                                                            refine aw_ifeq_f (pc1 := 3759) at_0_3756 c1183 rfl ?_
                                                                                                                            refine aw_iconst (v := 0) (pc1 := 3760) at_0_3759 (by decide) rfl ?_
                                                                                                                            cases hs475
                                                                                                                            exact aw_iret at_0_3760 (by rw [rt_0]; decide) rfl
                                                                                                                      · rw [if_neg c1179] at hs474
                                                                                                                        refine aw_iceq_f (pc1 := 3742) at_0_3739 c1179 rfl ?_
                                                                                                                        refine aw_iconst (v := 0) (pc1 := 3743) at_0_3742 (by decide) rfl ?_
                                                                                                                        cases hs474
                                                                                                                        exact aw_iret at_0_3743 (by rw [rt_0]; decide) rfl
                                                                                                                    · clear hs473
                                                                                                                      exact Or.inr hs474
                                                                                                                  · clear hs471
                                                                                                                    exact Or.inr hs472
                                                                                                                · clear hs468
                                                                                                                  exact Or.inr hs469
                                                                                                              · rw [if_neg c1163] at hs1
                                                                                                                by_cases c1184 : (v2 &&& 63) = 53
                                                                                                                · rw [if_pos c1184] at hs1
                                                                                                                  refine aw_tsw (t := 3764) at_0_40 (by rw [c1184]; rfl) ?_
                                                                                                                  refine aw_vload_n (pc1 := 3765) at_0_3764 l1 i1 rfl ?_
                                                                                                                  refine aw_vload_n (pc1 := 3766) at_0_3765 l0 rfl rfl ?_
                                                                                                                  refine aw_iload (pc1 := 3768) at_0_3766 l4 rfl ?_
                                                                                                                  refine aw_iconst (v := 1) (pc1 := 3769) at_0_3768 (by decide) rfl ?_
                                                                                                                  refine aw_iadd (v := (x4 + 1)) (pc1 := 3770) at_0_3769 rfl rfl ?_
                                                                                                                  obtain ⟨v1185, e1186, hs476⟩ := am_bind hs1
                                                                                                                  clear hs1
                                                                                                                  refine aw_pX (j := 0) (pc1 := 3771) at_0_3770 rfl rfl e1186 rfl ?_
                                                                                                                  refine aw_vload_n (pc1 := 3772) at_0_3771 l3 i3 rfl ?_
                                                                                                                  refine aw_call (F := fm_301 N x1 v1185 x3 h) (t := false) (na := 3) (kd := 0) (as := [x1, (.int v1185), x3]) at_0_3772 (am_k3s kb_301) mn_301 mk_301 rfl rfl (am_ok_s mi_301 (am_hl rfl (am_ccR i1 (am_ccI (am_ccR i3 am_cats_0))) rfl)) (am_hc am_cats_0 rfl) (fun hz9 => by cases hz9) (fun o1 hz9 => rm_301 x1 v1185 x3 h o1 i1 i3 hz9) ?_
                                                                                                                  rcases am_cI_s hs476 with ⟨v1187, h1188, f1189, hs477⟩ | hs477
                                                                                                                  · clear hs476
                                                                                                                    refine Or.inl ⟨_, _, f1189, ?_⟩
                                                                                                                    show am_W X _ 0 3775 _ [(.int v1187)] h1188 _
                                                                                                                    refine aw_istore (lv1 := am_put1 _ 5 _) (pc1 := 3777) at_0_3775 rfl rfl ?_
                                                                                                                    refine aw_vload_n (pc1 := 3778) at_0_3777 (am_lk1 l2 rfl rfl) i2 rfl ?_
                                                                                                                    refine aw_vload_n (pc1 := 3779) at_0_3778 (am_lk1 l0 rfl rfl) rfl rfl ?_
                                                                                                                    refine aw_iload (pc1 := 3781) at_0_3779 (am_lk1 l4 rfl rfl) rfl ?_
                                                                                                                    refine aw_iconst (v := 1) (pc1 := 3782) at_0_3781 (by decide) rfl ?_
                                                                                                                    refine aw_iadd (v := (x4 + 1)) (pc1 := 3783) at_0_3782 rfl rfl ?_
                                                                                                                    obtain ⟨v1190, e1191, hs478⟩ := am_bind hs477
                                                                                                                    clear hs477
                                                                                                                    refine aw_pX (j := 0) (pc1 := 3784) at_0_3783 rfl rfl e1191 rfl ?_
                                                                                                                    obtain ⟨z1192, hs479⟩ := am_ift hs478
                                                                                                                    clear hs478
                                                                                                                    refine aw_call (F := fm_577 N x2 v1190 h1188) (t := true) (na := 2) (kd := 1) (as := [x2, (.int v1190)]) at_0_3784 (am_k3v kb_577) mn_577 mk_577 rfl rfl (am_ok_v mi_577 (am_hl rfl (am_ccR i2 (am_ccI am_cats_0)) rfl) z1192) (am_hc am_cats_0 rfl) (fun _ => ⟨rfl, hh_0⟩) (fun o1 hz9 => rm_577 x2 v1190 h1188 o1 i2 hz9) ?_
                                                                                                                    rcases am_cI_s hs479 with ⟨v1193, h1194, f1195, hs480⟩ | hs480
                                                                                                                    · clear hs479
                                                                                                                      refine Or.inl ⟨_, _, f1195, ?_⟩
                                                                                                                      show am_W X _ 0 3787 _ [(.int v1193)] h1194 _
                                                                                                                      refine aw_istore (lv1 := am_put1 _ 6 _) (pc1 := 3789) at_0_3787 rfl rfl ?_
                                                                                                                      refine aw_vload_n (pc1 := 3790) at_0_3789 (am_lk1 (am_lk1 l2 rfl rfl) rfl rfl) i2 rfl ?_
                                                                                                                      obtain ⟨z1196, hs481⟩ := am_ift hs480
                                                                                                                      clear hs480
                                                                                                                      refine aw_call (F := fm_324 x2 h1194) (t := true) (na := 1) (kd := 1) (as := [x2]) at_0_3790 (am_k3v kb_324) mn_324 mk_324 rfl rfl (am_ok_v mi_324 (am_hl rfl (am_ccR i2 am_cats_0) rfl) z1196) (am_hc am_cats_0 rfl) (fun _ => ⟨rfl, hh_0⟩) (fun o1 hz9 => rm_324 x2 h1194 o1 i2 hz9) ?_
                                                                                                                      rcases am_cI_s hs481 with ⟨v1197, h1198, f1199, hs482⟩ | hs482
                                                                                                                      · clear hs481
                                                                                                                        refine Or.inl ⟨_, _, f1199, ?_⟩
                                                                                                                        show am_W X _ 0 3793 _ [(.int v1197)] h1198 _
                                                                                                                        refine aw_iload (pc1 := 3795) at_0_3793 (am_lk1 am_lk0 rfl rfl) rfl ?_
                                                                                                                        by_cases c1200 : v1197 = v1187
                                                                                                                        · rw [if_pos c1200] at hs482
                                                                                                                          refine aw_iceq_t at_0_3795 c1200 ?_
                                                                                                                          refine aw_iload (pc1 := 3802) at_0_3800 (am_lk1 am_lk0 rfl rfl) rfl ?_
                                                                                                                          by_cases c1201 : ¬ v1187 = 0
                                                                                                                          · rw [if_pos c1201] at hs482
                                                                                                                            refine aw_ifne_t at_0_3802 c1201 ?_
                                                                                                                            exact rg_0_3817 (fun z0 z1 z2 z3 h o hs482 => ih z0 z1 z2 z3 h o hs482) x1 x2 x3 x4 h1198 o (am_lk1 (am_lk1 l0 rfl rfl) rfl rfl) (am_lk1 (am_lk1 l1 rfl rfl) rfl rfl) (am_lk1 (am_lk1 l2 rfl rfl) rfl rfl) (am_lk1 (am_lk1 l3 rfl rfl) rfl rfl) (am_lk1 (am_lk1 l4 rfl rfl) rfl rfl) i1 i2 i3 hs482
                                                                                                                          · rw [if_neg c1201] at hs482
                                                                                                                            refine aw_ifne_f (pc1 := 3805) at_0_3802 c1201 rfl ?_
                                                                                                                            refine aw_vload_n (pc1 := 3806) at_0_3805 (am_lk1 (am_lk1 l3 rfl rfl) rfl rfl) i3 rfl ?_
                                                                                                                            refine aw_iconst (v := 0) (pc1 := 3807) at_0_3806 (by decide) rfl ?_
                                                                                                                            obtain ⟨v1202, e1203, hs483⟩ := am_bind hs482
                                                                                                                            clear hs482
                                                                                                                            refine aw_pAL (pc1 := 3808) at_0_3807 e1203 rfl ?_
                                                                                                                            refine aw_iload (pc1 := 3810) at_0_3808 am_lk0 rfl ?_
                                                                                                                            refine aw_i2l (v := (Int32.toInt64 v1193)) (pc1 := 3811) at_0_3810 rfl rfl ?_
                                                                                                                            refine aw_lcmp (v := (lg_cmp v1202 (Int32.toInt64 v1193))) (pc1 := 3812) at_0_3811 rfl rfl ?_
                                                                                                                            by_cases c1204 : (lg_cmp v1202 (Int32.toInt64 v1193)) = 0
                                                                                                                            · rw [if_pos c1204] at hs483
                                                                                                                              refine aw_ifeq_t at_0_3812 c1204 ?_
                                                                                                                              exact rg_0_3817 (fun z0 z1 z2 z3 h o hs483 => ih z0 z1 z2 z3 h o hs483) x1 x2 x3 x4 h1198 o (am_lk1 (am_lk1 l0 rfl rfl) rfl rfl) (am_lk1 (am_lk1 l1 rfl rfl) rfl rfl) (am_lk1 (am_lk1 l2 rfl rfl) rfl rfl) (am_lk1 (am_lk1 l3 rfl rfl) rfl rfl) (am_lk1 (am_lk1 l4 rfl rfl) rfl rfl) i1 i2 i3 hs483
                                                                                                                            · rw [if_neg c1204] at hs483
                                                                                                                              refine aw_ifeq_f (pc1 := 3815) at_0_3812 c1204 rfl ?_
                                                                                                                              refine aw_iconst (v := 0) (pc1 := 3816) at_0_3815 (by decide) rfl ?_
                                                                                                                              cases hs483
                                                                                                                              exact aw_iret at_0_3816 (by rw [rt_0]; decide) rfl
                                                                                                                        · rw [if_neg c1200] at hs482
                                                                                                                          refine aw_iceq_f (pc1 := 3798) at_0_3795 c1200 rfl ?_
                                                                                                                          refine aw_iconst (v := 0) (pc1 := 3799) at_0_3798 (by decide) rfl ?_
                                                                                                                          cases hs482
                                                                                                                          exact aw_iret at_0_3799 (by rw [rt_0]; decide) rfl
                                                                                                                      · clear hs481
                                                                                                                        exact Or.inr hs482
                                                                                                                    · clear hs479
                                                                                                                      exact Or.inr hs480
                                                                                                                  · clear hs476
                                                                                                                    exact Or.inr hs477
                                                                                                                · rw [if_neg c1184] at hs1
                                                                                                                  by_cases c1205 : (v2 &&& 63) = 54
                                                                                                                  · rw [if_pos c1205] at hs1
                                                                                                                    refine aw_tsw (t := 3820) at_0_40 (by rw [c1205]; rfl) ?_
                                                                                                                    refine aw_vload_n (pc1 := 3821) at_0_3820 l1 i1 rfl ?_
                                                                                                                    refine aw_vload_n (pc1 := 3822) at_0_3821 l0 rfl rfl ?_
                                                                                                                    refine aw_iload (pc1 := 3824) at_0_3822 l4 rfl ?_
                                                                                                                    refine aw_iconst (v := 1) (pc1 := 3825) at_0_3824 (by decide) rfl ?_
                                                                                                                    refine aw_iadd (v := (x4 + 1)) (pc1 := 3826) at_0_3825 rfl rfl ?_
                                                                                                                    obtain ⟨v1206, e1207, hs484⟩ := am_bind hs1
                                                                                                                    clear hs1
                                                                                                                    refine aw_pX (j := 0) (pc1 := 3827) at_0_3826 rfl rfl e1207 rfl ?_
                                                                                                                    refine aw_vload_n (pc1 := 3828) at_0_3827 l0 rfl rfl ?_
                                                                                                                    refine aw_iload (pc1 := 3830) at_0_3828 l4 rfl ?_
                                                                                                                    refine aw_iconst (v := 2) (pc1 := 3831) at_0_3830 (by decide) rfl ?_
                                                                                                                    refine aw_iadd (v := (x4 + 2)) (pc1 := 3832) at_0_3831 rfl rfl ?_
                                                                                                                    obtain ⟨v1208, e1209, hs485⟩ := am_bind hs484
                                                                                                                    clear hs484
                                                                                                                    refine aw_pX (j := 0) (pc1 := 3833) at_0_3832 rfl rfl e1209 rfl ?_
                                                                                                                    refine aw_vload_n (pc1 := 3834) at_0_3833 l0 rfl rfl ?_
                                                                                                                    refine aw_iload (pc1 := 3836) at_0_3834 l4 rfl ?_
                                                                                                                    refine aw_iconst (v := 3) (pc1 := 3837) at_0_3836 (by decide) rfl ?_
                                                                                                                    refine aw_iadd (v := (x4 + 3)) (pc1 := 3838) at_0_3837 rfl rfl ?_
                                                                                                                    obtain ⟨v1210, e1211, hs486⟩ := am_bind hs485
                                                                                                                    clear hs485
                                                                                                                    refine aw_pX (j := 0) (pc1 := 3839) at_0_3838 rfl rfl e1211 rfl ?_
                                                                                                                    refine aw_vload_n (pc1 := 3840) at_0_3839 l3 i3 rfl ?_
                                                                                                                    refine aw_call (F := fm_304 N x1 v1206 v1208 v1210 x3 h) (t := false) (na := 5) (kd := 0) (as := [x1, (.int v1206), (.int v1208), (.int v1210), x3]) at_0_3840 (am_k3s kb_304) mn_304 mk_304 rfl rfl (am_ok_s mi_304 (am_hl rfl (am_ccR i1 (am_ccI (am_ccI (am_ccI (am_ccR i3 am_cats_0))))) rfl)) (am_hc am_cats_0 rfl) (fun hz9 => by cases hz9) (fun o1 hz9 => rm_304 x1 v1206 v1208 v1210 x3 h o1 i1 i3 hz9) ?_
                                                                                                                    rcases am_cI_s hs486 with ⟨v1212, h1213, f1214, hs487⟩ | hs487
                                                                                                                    · clear hs486
                                                                                                                      refine Or.inl ⟨_, _, f1214, ?_⟩
                                                                                                                      show am_W X _ 0 3843 _ [(.int v1212)] h1213 _
                                                                                                                      refine aw_istore (lv1 := am_put1 _ 5 _) (pc1 := 3845) at_0_3843 rfl rfl ?_
                                                                                                                      refine aw_vload_n (pc1 := 3846) at_0_3845 (am_lk1 l2 rfl rfl) i2 rfl ?_
                                                                                                                      refine aw_vload_n (pc1 := 3847) at_0_3846 (am_lk1 l0 rfl rfl) rfl rfl ?_
                                                                                                                      refine aw_iload (pc1 := 3849) at_0_3847 (am_lk1 l4 rfl rfl) rfl ?_
                                                                                                                      refine aw_iconst (v := 1) (pc1 := 3850) at_0_3849 (by decide) rfl ?_
                                                                                                                      refine aw_iadd (v := (x4 + 1)) (pc1 := 3851) at_0_3850 rfl rfl ?_
                                                                                                                      obtain ⟨v1215, e1216, hs488⟩ := am_bind hs487
                                                                                                                      clear hs487
                                                                                                                      refine aw_pX (j := 0) (pc1 := 3852) at_0_3851 rfl rfl e1216 rfl ?_
                                                                                                                      refine aw_vload_n (pc1 := 3853) at_0_3852 (am_lk1 l0 rfl rfl) rfl rfl ?_
                                                                                                                      refine aw_iload (pc1 := 3855) at_0_3853 (am_lk1 l4 rfl rfl) rfl ?_
                                                                                                                      refine aw_iconst (v := 2) (pc1 := 3856) at_0_3855 (by decide) rfl ?_
                                                                                                                      refine aw_iadd (v := (x4 + 2)) (pc1 := 3857) at_0_3856 rfl rfl ?_
                                                                                                                      obtain ⟨v1217, e1218, hs489⟩ := am_bind hs488
                                                                                                                      clear hs488
                                                                                                                      refine aw_pX (j := 0) (pc1 := 3858) at_0_3857 rfl rfl e1218 rfl ?_
                                                                                                                      refine aw_vload_n (pc1 := 3859) at_0_3858 (am_lk1 l0 rfl rfl) rfl rfl ?_
                                                                                                                      refine aw_iload (pc1 := 3861) at_0_3859 (am_lk1 l4 rfl rfl) rfl ?_
                                                                                                                      refine aw_iconst (v := 3) (pc1 := 3862) at_0_3861 (by decide) rfl ?_
                                                                                                                      refine aw_iadd (v := (x4 + 3)) (pc1 := 3863) at_0_3862 rfl rfl ?_
                                                                                                                      obtain ⟨v1219, e1220, hs490⟩ := am_bind hs489
                                                                                                                      clear hs489
                                                                                                                      refine aw_pX (j := 0) (pc1 := 3864) at_0_3863 rfl rfl e1220 rfl ?_
                                                                                                                      obtain ⟨z1221, hs491⟩ := am_ift hs490
                                                                                                                      clear hs490
                                                                                                                      refine aw_call (F := fm_581 N x2 v1215 v1217 v1219 h1213) (t := true) (na := 4) (kd := 1) (as := [x2, (.int v1215), (.int v1217), (.int v1219)]) at_0_3864 (am_k3v kb_581) mn_581 mk_581 rfl rfl (am_ok_v mi_581 (am_hl rfl (am_ccR i2 (am_ccI (am_ccI (am_ccI am_cats_0)))) rfl) z1221) (am_hc am_cats_0 rfl) (fun _ => ⟨rfl, hh_0⟩) (fun o1 hz9 => rm_581 x2 v1215 v1217 v1219 h1213 o1 i2 hz9) ?_
                                                                                                                      rcases am_cI_s hs491 with ⟨v1222, h1223, f1224, hs492⟩ | hs492
                                                                                                                      · clear hs491
                                                                                                                        refine Or.inl ⟨_, _, f1224, ?_⟩
                                                                                                                        show am_W X _ 0 3867 _ [(.int v1222)] h1223 _
                                                                                                                        refine aw_istore (lv1 := am_put1 _ 6 _) (pc1 := 3869) at_0_3867 rfl rfl ?_
                                                                                                                        refine aw_vload_n (pc1 := 3870) at_0_3869 (am_lk1 (am_lk1 l2 rfl rfl) rfl rfl) i2 rfl ?_
                                                                                                                        obtain ⟨z1225, hs493⟩ := am_ift hs492
                                                                                                                        clear hs492
                                                                                                                        refine aw_call (F := fm_324 x2 h1223) (t := true) (na := 1) (kd := 1) (as := [x2]) at_0_3870 (am_k3v kb_324) mn_324 mk_324 rfl rfl (am_ok_v mi_324 (am_hl rfl (am_ccR i2 am_cats_0) rfl) z1225) (am_hc am_cats_0 rfl) (fun _ => ⟨rfl, hh_0⟩) (fun o1 hz9 => rm_324 x2 h1223 o1 i2 hz9) ?_
                                                                                                                        rcases am_cI_s hs493 with ⟨v1226, h1227, f1228, hs494⟩ | hs494
                                                                                                                        · clear hs493
                                                                                                                          refine Or.inl ⟨_, _, f1228, ?_⟩
                                                                                                                          show am_W X _ 0 3873 _ [(.int v1226)] h1227 _
                                                                                                                          refine aw_iload (pc1 := 3875) at_0_3873 (am_lk1 am_lk0 rfl rfl) rfl ?_
                                                                                                                          by_cases c1229 : v1226 = v1212
                                                                                                                          · rw [if_pos c1229] at hs494
                                                                                                                            refine aw_iceq_t at_0_3875 c1229 ?_
                                                                                                                            refine aw_iload (pc1 := 3882) at_0_3880 (am_lk1 am_lk0 rfl rfl) rfl ?_
                                                                                                                            by_cases c1230 : ¬ v1212 = 0
                                                                                                                            · rw [if_pos c1230] at hs494
                                                                                                                              refine aw_ifne_t at_0_3882 c1230 ?_
                                                                                                                              exact rg_0_3897 (fun z0 z1 z2 z3 h o hs494 => ih z0 z1 z2 z3 h o hs494) x1 x2 x3 x4 h1227 o (am_lk1 (am_lk1 l0 rfl rfl) rfl rfl) (am_lk1 (am_lk1 l1 rfl rfl) rfl rfl) (am_lk1 (am_lk1 l2 rfl rfl) rfl rfl) (am_lk1 (am_lk1 l3 rfl rfl) rfl rfl) (am_lk1 (am_lk1 l4 rfl rfl) rfl rfl) i1 i2 i3 hs494
                                                                                                                            · rw [if_neg c1230] at hs494
                                                                                                                              refine aw_ifne_f (pc1 := 3885) at_0_3882 c1230 rfl ?_
                                                                                                                              refine aw_vload_n (pc1 := 3886) at_0_3885 (am_lk1 (am_lk1 l3 rfl rfl) rfl rfl) i3 rfl ?_
                                                                                                                              refine aw_iconst (v := 0) (pc1 := 3887) at_0_3886 (by decide) rfl ?_
                                                                                                                              obtain ⟨v1231, e1232, hs495⟩ := am_bind hs494
                                                                                                                              clear hs494
                                                                                                                              refine aw_pAL (pc1 := 3888) at_0_3887 e1232 rfl ?_
                                                                                                                              refine aw_iload (pc1 := 3890) at_0_3888 am_lk0 rfl ?_
                                                                                                                              refine aw_i2l (v := (Int32.toInt64 v1222)) (pc1 := 3891) at_0_3890 rfl rfl ?_
                                                                                                                              refine aw_lcmp (v := (lg_cmp v1231 (Int32.toInt64 v1222))) (pc1 := 3892) at_0_3891 rfl rfl ?_
                                                                                                                              by_cases c1233 : (lg_cmp v1231 (Int32.toInt64 v1222)) = 0
                                                                                                                              · rw [if_pos c1233] at hs495
                                                                                                                                refine aw_ifeq_t at_0_3892 c1233 ?_
                                                                                                                                exact rg_0_3897 (fun z0 z1 z2 z3 h o hs495 => ih z0 z1 z2 z3 h o hs495) x1 x2 x3 x4 h1227 o (am_lk1 (am_lk1 l0 rfl rfl) rfl rfl) (am_lk1 (am_lk1 l1 rfl rfl) rfl rfl) (am_lk1 (am_lk1 l2 rfl rfl) rfl rfl) (am_lk1 (am_lk1 l3 rfl rfl) rfl rfl) (am_lk1 (am_lk1 l4 rfl rfl) rfl rfl) i1 i2 i3 hs495
                                                                                                                              · rw [if_neg c1233] at hs495
                                                                                                                                refine aw_ifeq_f (pc1 := 3895) at_0_3892 c1233 rfl ?_
                                                                                                                                refine aw_iconst (v := 0) (pc1 := 3896) at_0_3895 (by decide) rfl ?_
                                                                                                                                cases hs495
                                                                                                                                exact aw_iret at_0_3896 (by rw [rt_0]; decide) rfl
                                                                                                                          · rw [if_neg c1229] at hs494
                                                                                                                            refine aw_iceq_f (pc1 := 3878) at_0_3875 c1229 rfl ?_
                                                                                                                            refine aw_iconst (v := 0) (pc1 := 3879) at_0_3878 (by decide) rfl ?_
                                                                                                                            cases hs494
                                                                                                                            exact aw_iret at_0_3879 (by rw [rt_0]; decide) rfl
                                                                                                                        · clear hs493
                                                                                                                          exact Or.inr hs494
                                                                                                                      · clear hs491
                                                                                                                        exact Or.inr hs492
                                                                                                                    · clear hs486
                                                                                                                      exact Or.inr hs487
                                                                                                                  · rw [if_neg c1205] at hs1
                                                                                                                    by_cases c1234 : (v2 &&& 63) = 55
                                                                                                                    · rw [if_pos c1234] at hs1
                                                                                                                      refine aw_tsw (t := 3900) at_0_40 (by rw [c1234]; rfl) ?_
                                                                                                                      refine aw_vload_n (pc1 := 3901) at_0_3900 l1 i1 rfl ?_
                                                                                                                      refine aw_vload_n (pc1 := 3902) at_0_3901 l0 rfl rfl ?_
                                                                                                                      refine aw_iload (pc1 := 3904) at_0_3902 l4 rfl ?_
                                                                                                                      refine aw_iconst (v := 1) (pc1 := 3905) at_0_3904 (by decide) rfl ?_
                                                                                                                      refine aw_iadd (v := (x4 + 1)) (pc1 := 3906) at_0_3905 rfl rfl ?_
                                                                                                                      obtain ⟨v1235, e1236, hs496⟩ := am_bind hs1
                                                                                                                      clear hs1
                                                                                                                      refine aw_pX (j := 0) (pc1 := 3907) at_0_3906 rfl rfl e1236 rfl ?_
                                                                                                                      refine aw_vload_n (pc1 := 3908) at_0_3907 l0 rfl rfl ?_
                                                                                                                      refine aw_iload (pc1 := 3910) at_0_3908 l4 rfl ?_
                                                                                                                      refine aw_iconst (v := 2) (pc1 := 3911) at_0_3910 (by decide) rfl ?_
                                                                                                                      refine aw_iadd (v := (x4 + 2)) (pc1 := 3912) at_0_3911 rfl rfl ?_
                                                                                                                      obtain ⟨v1237, e1238, hs497⟩ := am_bind hs496
                                                                                                                      clear hs496
                                                                                                                      refine aw_pX (j := 0) (pc1 := 3913) at_0_3912 rfl rfl e1238 rfl ?_
                                                                                                                      refine aw_vload_n (pc1 := 3914) at_0_3913 l3 i3 rfl ?_
                                                                                                                      refine aw_call (F := fm_306 N x1 v1235 v1237 x3 h) (t := false) (na := 4) (kd := 0) (as := [x1, (.int v1235), (.int v1237), x3]) at_0_3914 (am_k3s kb_306) mn_306 mk_306 rfl rfl (am_ok_s mi_306 (am_hl rfl (am_ccR i1 (am_ccI (am_ccI (am_ccR i3 am_cats_0)))) rfl)) (am_hc am_cats_0 rfl) (fun hz9 => by cases hz9) (fun o1 hz9 => rm_306 x1 v1235 v1237 x3 h o1 i1 i3 hz9) ?_
                                                                                                                      rcases am_cI_s hs497 with ⟨v1239, h1240, f1241, hs498⟩ | hs498
                                                                                                                      · clear hs497
                                                                                                                        refine Or.inl ⟨_, _, f1241, ?_⟩
                                                                                                                        show am_W X _ 0 3917 _ [(.int v1239)] h1240 _
                                                                                                                        refine aw_istore (lv1 := am_put1 _ 5 _) (pc1 := 3919) at_0_3917 rfl rfl ?_
                                                                                                                        refine aw_vload_n (pc1 := 3920) at_0_3919 (am_lk1 l2 rfl rfl) i2 rfl ?_
                                                                                                                        refine aw_vload_n (pc1 := 3921) at_0_3920 (am_lk1 l0 rfl rfl) rfl rfl ?_
                                                                                                                        refine aw_iload (pc1 := 3923) at_0_3921 (am_lk1 l4 rfl rfl) rfl ?_
                                                                                                                        refine aw_iconst (v := 1) (pc1 := 3924) at_0_3923 (by decide) rfl ?_
                                                                                                                        refine aw_iadd (v := (x4 + 1)) (pc1 := 3925) at_0_3924 rfl rfl ?_
                                                                                                                        obtain ⟨v1242, e1243, hs499⟩ := am_bind hs498
                                                                                                                        clear hs498
                                                                                                                        refine aw_pX (j := 0) (pc1 := 3926) at_0_3925 rfl rfl e1243 rfl ?_
                                                                                                                        refine aw_vload_n (pc1 := 3927) at_0_3926 (am_lk1 l0 rfl rfl) rfl rfl ?_
                                                                                                                        refine aw_iload (pc1 := 3929) at_0_3927 (am_lk1 l4 rfl rfl) rfl ?_
                                                                                                                        refine aw_iconst (v := 2) (pc1 := 3930) at_0_3929 (by decide) rfl ?_
                                                                                                                        refine aw_iadd (v := (x4 + 2)) (pc1 := 3931) at_0_3930 rfl rfl ?_
                                                                                                                        obtain ⟨v1244, e1245, hs500⟩ := am_bind hs499
                                                                                                                        clear hs499
                                                                                                                        refine aw_pX (j := 0) (pc1 := 3932) at_0_3931 rfl rfl e1245 rfl ?_
                                                                                                                        obtain ⟨z1246, hs501⟩ := am_ift hs500
                                                                                                                        clear hs500
                                                                                                                        refine aw_call (F := fm_556 N x2 v1242 v1244 h1240) (t := true) (na := 3) (kd := 1) (as := [x2, (.int v1242), (.int v1244)]) at_0_3932 (am_k3v kb_556) mn_556 mk_556 rfl rfl (am_ok_v mi_556 (am_hl rfl (am_ccR i2 (am_ccI (am_ccI am_cats_0))) rfl) z1246) (am_hc am_cats_0 rfl) (fun _ => ⟨rfl, hh_0⟩) (fun o1 hz9 => rm_556 x2 v1242 v1244 h1240 o1 i2 hz9) ?_
                                                                                                                        rcases am_cI_s hs501 with ⟨v1247, h1248, f1249, hs502⟩ | hs502
                                                                                                                        · clear hs501
                                                                                                                          refine Or.inl ⟨_, _, f1249, ?_⟩
                                                                                                                          show am_W X _ 0 3935 _ [(.int v1247)] h1248 _
                                                                                                                          refine aw_istore (lv1 := am_put1 _ 6 _) (pc1 := 3937) at_0_3935 rfl rfl ?_
                                                                                                                          refine aw_vload_n (pc1 := 3938) at_0_3937 (am_lk1 (am_lk1 l2 rfl rfl) rfl rfl) i2 rfl ?_
                                                                                                                          obtain ⟨z1250, hs503⟩ := am_ift hs502
                                                                                                                          clear hs502
                                                                                                                          refine aw_call (F := fm_324 x2 h1248) (t := true) (na := 1) (kd := 1) (as := [x2]) at_0_3938 (am_k3v kb_324) mn_324 mk_324 rfl rfl (am_ok_v mi_324 (am_hl rfl (am_ccR i2 am_cats_0) rfl) z1250) (am_hc am_cats_0 rfl) (fun _ => ⟨rfl, hh_0⟩) (fun o1 hz9 => rm_324 x2 h1248 o1 i2 hz9) ?_
                                                                                                                          rcases am_cI_s hs503 with ⟨v1251, h1252, f1253, hs504⟩ | hs504
                                                                                                                          · clear hs503
                                                                                                                            refine Or.inl ⟨_, _, f1253, ?_⟩
                                                                                                                            show am_W X _ 0 3941 _ [(.int v1251)] h1252 _
                                                                                                                            refine aw_iload (pc1 := 3943) at_0_3941 (am_lk1 am_lk0 rfl rfl) rfl ?_
                                                                                                                            by_cases c1254 : v1251 = v1239
                                                                                                                            · rw [if_pos c1254] at hs504
                                                                                                                              refine aw_iceq_t at_0_3943 c1254 ?_
                                                                                                                              refine aw_iload (pc1 := 3950) at_0_3948 (am_lk1 am_lk0 rfl rfl) rfl ?_
                                                                                                                              by_cases c1255 : ¬ v1239 = 0
                                                                                                                              · rw [if_pos c1255] at hs504
                                                                                                                                refine aw_ifne_t at_0_3950 c1255 ?_
                                                                                                                                exact rg_0_3965 (fun z0 z1 z2 z3 h o hs504 => ih z0 z1 z2 z3 h o hs504) x1 x2 x3 x4 h1252 o (am_lk1 (am_lk1 l0 rfl rfl) rfl rfl) (am_lk1 (am_lk1 l1 rfl rfl) rfl rfl) (am_lk1 (am_lk1 l2 rfl rfl) rfl rfl) (am_lk1 (am_lk1 l3 rfl rfl) rfl rfl) (am_lk1 (am_lk1 l4 rfl rfl) rfl rfl) i1 i2 i3 hs504
                                                                                                                              · rw [if_neg c1255] at hs504
                                                                                                                                refine aw_ifne_f (pc1 := 3953) at_0_3950 c1255 rfl ?_
                                                                                                                                refine aw_vload_n (pc1 := 3954) at_0_3953 (am_lk1 (am_lk1 l3 rfl rfl) rfl rfl) i3 rfl ?_
                                                                                                                                refine aw_iconst (v := 0) (pc1 := 3955) at_0_3954 (by decide) rfl ?_
                                                                                                                                obtain ⟨v1256, e1257, hs505⟩ := am_bind hs504
                                                                                                                                clear hs504
                                                                                                                                refine aw_pAL (pc1 := 3956) at_0_3955 e1257 rfl ?_
                                                                                                                                refine aw_iload (pc1 := 3958) at_0_3956 am_lk0 rfl ?_
                                                                                                                                refine aw_i2l (v := (Int32.toInt64 v1247)) (pc1 := 3959) at_0_3958 rfl rfl ?_
                                                                                                                                refine aw_lcmp (v := (lg_cmp v1256 (Int32.toInt64 v1247))) (pc1 := 3960) at_0_3959 rfl rfl ?_
                                                                                                                                by_cases c1258 : (lg_cmp v1256 (Int32.toInt64 v1247)) = 0
                                                                                                                                · rw [if_pos c1258] at hs505
                                                                                                                                  refine aw_ifeq_t at_0_3960 c1258 ?_
                                                                                                                                  exact rg_0_3965 (fun z0 z1 z2 z3 h o hs505 => ih z0 z1 z2 z3 h o hs505) x1 x2 x3 x4 h1252 o (am_lk1 (am_lk1 l0 rfl rfl) rfl rfl) (am_lk1 (am_lk1 l1 rfl rfl) rfl rfl) (am_lk1 (am_lk1 l2 rfl rfl) rfl rfl) (am_lk1 (am_lk1 l3 rfl rfl) rfl rfl) (am_lk1 (am_lk1 l4 rfl rfl) rfl rfl) i1 i2 i3 hs505
                                                                                                                                · rw [if_neg c1258] at hs505
                                                                                                                                  refine aw_ifeq_f (pc1 := 3963) at_0_3960 c1258 rfl ?_
                                                                                                                                  refine aw_iconst (v := 0) (pc1 := 3964) at_0_3963 (by decide) rfl ?_
                                                                                                                                  cases hs505
                                                                                                                                  exact aw_iret at_0_3964 (by rw [rt_0]; decide) rfl
                                                                                                                            · rw [if_neg c1254] at hs504
                                                                                                                              refine aw_iceq_f (pc1 := 3946) at_0_3943 c1254 rfl ?_
                                                                                                                              refine aw_iconst (v := 0) (pc1 := 3947) at_0_3946 (by decide) rfl ?_
                                                                                                                              cases hs504
                                                                                                                              exact aw_iret at_0_3947 (by rw [rt_0]; decide) rfl
                                                                                                                          · clear hs503
                                                                                                                            exact Or.inr hs504
                                                                                                                        · clear hs501
                                                                                                                          exact Or.inr hs502
                                                                                                                      · clear hs497
                                                                                                                        exact Or.inr hs498
                                                                                                                    · rw [if_neg c1234] at hs1
                                                                                                                      by_cases c1259 : (v2 &&& 63) = 56
                                                                                                                      · rw [if_pos c1259] at hs1
                                                                                                                        refine aw_tsw (t := 3968) at_0_40 (by rw [c1259]; rfl) ?_
                                                                                                                        refine aw_vload_n (pc1 := 3969) at_0_3968 l1 i1 rfl ?_
                                                                                                                        refine aw_vload_n (pc1 := 3970) at_0_3969 l0 rfl rfl ?_
                                                                                                                        refine aw_iload (pc1 := 3972) at_0_3970 l4 rfl ?_
                                                                                                                        refine aw_iconst (v := 1) (pc1 := 3973) at_0_3972 (by decide) rfl ?_
                                                                                                                        refine aw_iadd (v := (x4 + 1)) (pc1 := 3974) at_0_3973 rfl rfl ?_
                                                                                                                        obtain ⟨v1260, e1261, hs506⟩ := am_bind hs1
                                                                                                                        clear hs1
                                                                                                                        refine aw_pX (j := 0) (pc1 := 3975) at_0_3974 rfl rfl e1261 rfl ?_
                                                                                                                        refine aw_vload_n (pc1 := 3976) at_0_3975 l3 i3 rfl ?_
                                                                                                                        refine aw_call (F := fm_308 N x1 v1260 x3 h) (t := false) (na := 3) (kd := 0) (as := [x1, (.int v1260), x3]) at_0_3976 (am_k3s kb_308) mn_308 mk_308 rfl rfl (am_ok_s mi_308 (am_hl rfl (am_ccR i1 (am_ccI (am_ccR i3 am_cats_0))) rfl)) (am_hc am_cats_0 rfl) (fun hz9 => by cases hz9) (fun o1 hz9 => rm_308 x1 v1260 x3 h o1 i1 i3 hz9) ?_
                                                                                                                        rcases am_cI_s hs506 with ⟨v1262, h1263, f1264, hs507⟩ | hs507
                                                                                                                        · clear hs506
                                                                                                                          refine Or.inl ⟨_, _, f1264, ?_⟩
                                                                                                                          show am_W X _ 0 3979 _ [(.int v1262)] h1263 _
                                                                                                                          refine aw_istore (lv1 := am_put1 _ 5 _) (pc1 := 3981) at_0_3979 rfl rfl ?_
                                                                                                                          refine aw_vload_n (pc1 := 3982) at_0_3981 (am_lk1 l2 rfl rfl) i2 rfl ?_
                                                                                                                          refine aw_vload_n (pc1 := 3983) at_0_3982 (am_lk1 l0 rfl rfl) rfl rfl ?_
                                                                                                                          refine aw_iload (pc1 := 3985) at_0_3983 (am_lk1 l4 rfl rfl) rfl ?_
                                                                                                                          refine aw_iconst (v := 1) (pc1 := 3986) at_0_3985 (by decide) rfl ?_
                                                                                                                          refine aw_iadd (v := (x4 + 1)) (pc1 := 3987) at_0_3986 rfl rfl ?_
                                                                                                                          obtain ⟨v1265, e1266, hs508⟩ := am_bind hs507
                                                                                                                          clear hs507
                                                                                                                          refine aw_pX (j := 0) (pc1 := 3988) at_0_3987 rfl rfl e1266 rfl ?_
                                                                                                                          obtain ⟨z1267, hs509⟩ := am_ift hs508
                                                                                                                          clear hs508
                                                                                                                          refine aw_call (F := fm_582 N x2 v1265 h1263) (t := true) (na := 2) (kd := 1) (as := [x2, (.int v1265)]) at_0_3988 (am_k3v kb_582) mn_582 mk_582 rfl rfl (am_ok_v mi_582 (am_hl rfl (am_ccR i2 (am_ccI am_cats_0)) rfl) z1267) (am_hc am_cats_0 rfl) (fun _ => ⟨rfl, hh_0⟩) (fun o1 hz9 => rm_582 x2 v1265 h1263 o1 i2 hz9) ?_
                                                                                                                          rcases am_cI_s hs509 with ⟨v1268, h1269, f1270, hs510⟩ | hs510
                                                                                                                          · clear hs509
                                                                                                                            refine Or.inl ⟨_, _, f1270, ?_⟩
                                                                                                                            show am_W X _ 0 3991 _ [(.int v1268)] h1269 _
                                                                                                                            refine aw_istore (lv1 := am_put1 _ 6 _) (pc1 := 3993) at_0_3991 rfl rfl ?_
                                                                                                                            refine aw_vload_n (pc1 := 3994) at_0_3993 (am_lk1 (am_lk1 l2 rfl rfl) rfl rfl) i2 rfl ?_
                                                                                                                            obtain ⟨z1271, hs511⟩ := am_ift hs510
                                                                                                                            clear hs510
                                                                                                                            refine aw_call (F := fm_324 x2 h1269) (t := true) (na := 1) (kd := 1) (as := [x2]) at_0_3994 (am_k3v kb_324) mn_324 mk_324 rfl rfl (am_ok_v mi_324 (am_hl rfl (am_ccR i2 am_cats_0) rfl) z1271) (am_hc am_cats_0 rfl) (fun _ => ⟨rfl, hh_0⟩) (fun o1 hz9 => rm_324 x2 h1269 o1 i2 hz9) ?_
                                                                                                                            rcases am_cI_s hs511 with ⟨v1272, h1273, f1274, hs512⟩ | hs512
                                                                                                                            · clear hs511
                                                                                                                              refine Or.inl ⟨_, _, f1274, ?_⟩
                                                                                                                              show am_W X _ 0 3997 _ [(.int v1272)] h1273 _
                                                                                                                              refine aw_iload (pc1 := 3999) at_0_3997 (am_lk1 am_lk0 rfl rfl) rfl ?_
                                                                                                                              by_cases c1275 : v1272 = v1262
                                                                                                                              · rw [if_pos c1275] at hs512
                                                                                                                                refine aw_iceq_t at_0_3999 c1275 ?_
                                                                                                                                refine aw_iload (pc1 := 4006) at_0_4004 (am_lk1 am_lk0 rfl rfl) rfl ?_
                                                                                                                                by_cases c1276 : ¬ v1262 = 0
                                                                                                                                · rw [if_pos c1276] at hs512
                                                                                                                                  refine aw_ifne_t at_0_4006 c1276 ?_
                                                                                                                                  exact rg_0_4021 (fun z0 z1 z2 z3 h o hs512 => ih z0 z1 z2 z3 h o hs512) x1 x2 x3 x4 h1273 o (am_lk1 (am_lk1 l0 rfl rfl) rfl rfl) (am_lk1 (am_lk1 l1 rfl rfl) rfl rfl) (am_lk1 (am_lk1 l2 rfl rfl) rfl rfl) (am_lk1 (am_lk1 l3 rfl rfl) rfl rfl) (am_lk1 (am_lk1 l4 rfl rfl) rfl rfl) i1 i2 i3 hs512
                                                                                                                                · rw [if_neg c1276] at hs512
                                                                                                                                  refine aw_ifne_f (pc1 := 4009) at_0_4006 c1276 rfl ?_
                                                                                                                                  refine aw_vload_n (pc1 := 4010) at_0_4009 (am_lk1 (am_lk1 l3 rfl rfl) rfl rfl) i3 rfl ?_
                                                                                                                                  refine aw_iconst (v := 0) (pc1 := 4011) at_0_4010 (by decide) rfl ?_
                                                                                                                                  obtain ⟨v1277, e1278, hs513⟩ := am_bind hs512
                                                                                                                                  clear hs512
                                                                                                                                  refine aw_pAL (pc1 := 4012) at_0_4011 e1278 rfl ?_
                                                                                                                                  refine aw_iload (pc1 := 4014) at_0_4012 am_lk0 rfl ?_
                                                                                                                                  refine aw_i2l (v := (Int32.toInt64 v1268)) (pc1 := 4015) at_0_4014 rfl rfl ?_
                                                                                                                                  refine aw_lcmp (v := (lg_cmp v1277 (Int32.toInt64 v1268))) (pc1 := 4016) at_0_4015 rfl rfl ?_
                                                                                                                                  by_cases c1279 : (lg_cmp v1277 (Int32.toInt64 v1268)) = 0
                                                                                                                                  · rw [if_pos c1279] at hs513
                                                                                                                                    refine aw_ifeq_t at_0_4016 c1279 ?_
                                                                                                                                    exact rg_0_4021 (fun z0 z1 z2 z3 h o hs513 => ih z0 z1 z2 z3 h o hs513) x1 x2 x3 x4 h1273 o (am_lk1 (am_lk1 l0 rfl rfl) rfl rfl) (am_lk1 (am_lk1 l1 rfl rfl) rfl rfl) (am_lk1 (am_lk1 l2 rfl rfl) rfl rfl) (am_lk1 (am_lk1 l3 rfl rfl) rfl rfl) (am_lk1 (am_lk1 l4 rfl rfl) rfl rfl) i1 i2 i3 hs513
                                                                                                                                  · rw [if_neg c1279] at hs513
                                                                                                                                    refine aw_ifeq_f (pc1 := 4019) at_0_4016 c1279 rfl ?_
                                                                                                                                    refine aw_iconst (v := 0) (pc1 := 4020) at_0_4019 (by decide) rfl ?_
                                                                                                                                    cases hs513
                                                                                                                                    exact aw_iret at_0_4020 (by rw [rt_0]; decide) rfl
                                                                                                                              · rw [if_neg c1275] at hs512
                                                                                                                                refine aw_iceq_f (pc1 := 4002) at_0_3999 c1275 rfl ?_
                                                                                                                                refine aw_iconst (v := 0) (pc1 := 4003) at_0_4002 (by decide) rfl ?_
                                                                                                                                cases hs512
                                                                                                                                exact aw_iret at_0_4003 (by rw [rt_0]; decide) rfl
                                                                                                                            · clear hs511
                                                                                                                              exact Or.inr hs512
                                                                                                                          · clear hs509
                                                                                                                            exact Or.inr hs510
                                                                                                                        · clear hs506
                                                                                                                          exact Or.inr hs507
                                                                                                                      · rw [if_neg c1259] at hs1
                                                                                                                        by_cases c1280 : (v2 &&& 63) = 57
                                                                                                                        · rw [if_pos c1280] at hs1
                                                                                                                          refine aw_tsw (t := 4024) at_0_40 (by rw [c1280]; rfl) ?_
                                                                                                                          refine aw_vload_n (pc1 := 4025) at_0_4024 l1 i1 rfl ?_
                                                                                                                          refine aw_vload_n (pc1 := 4026) at_0_4025 l0 rfl rfl ?_
                                                                                                                          refine aw_iload (pc1 := 4028) at_0_4026 l4 rfl ?_
                                                                                                                          refine aw_iconst (v := 1) (pc1 := 4029) at_0_4028 (by decide) rfl ?_
                                                                                                                          refine aw_iadd (v := (x4 + 1)) (pc1 := 4030) at_0_4029 rfl rfl ?_
                                                                                                                          obtain ⟨v1281, e1282, hs514⟩ := am_bind hs1
                                                                                                                          clear hs1
                                                                                                                          refine aw_pX (j := 0) (pc1 := 4031) at_0_4030 rfl rfl e1282 rfl ?_
                                                                                                                          refine aw_vload_n (pc1 := 4032) at_0_4031 l3 i3 rfl ?_
                                                                                                                          refine aw_call (F := fm_313 N x1 v1281 x3 h) (t := false) (na := 3) (kd := 0) (as := [x1, (.int v1281), x3]) at_0_4032 (am_k3s kb_313) mn_313 mk_313 rfl rfl (am_ok_s mi_313 (am_hl rfl (am_ccR i1 (am_ccI (am_ccR i3 am_cats_0))) rfl)) (am_hc am_cats_0 rfl) (fun hz9 => by cases hz9) (fun o1 hz9 => rm_313 x1 v1281 x3 h o1 i1 i3 hz9) ?_
                                                                                                                          rcases am_cI_s hs514 with ⟨v1283, h1284, f1285, hs515⟩ | hs515
                                                                                                                          · clear hs514
                                                                                                                            refine Or.inl ⟨_, _, f1285, ?_⟩
                                                                                                                            show am_W X _ 0 4035 _ [(.int v1283)] h1284 _
                                                                                                                            refine aw_istore (lv1 := am_put1 _ 5 _) (pc1 := 4037) at_0_4035 rfl rfl ?_
                                                                                                                            refine aw_vload_n (pc1 := 4038) at_0_4037 (am_lk1 l2 rfl rfl) i2 rfl ?_
                                                                                                                            refine aw_vload_n (pc1 := 4039) at_0_4038 (am_lk1 l0 rfl rfl) rfl rfl ?_
                                                                                                                            refine aw_iload (pc1 := 4041) at_0_4039 (am_lk1 l4 rfl rfl) rfl ?_
                                                                                                                            refine aw_iconst (v := 1) (pc1 := 4042) at_0_4041 (by decide) rfl ?_
                                                                                                                            refine aw_iadd (v := (x4 + 1)) (pc1 := 4043) at_0_4042 rfl rfl ?_
                                                                                                                            obtain ⟨v1286, e1287, hs516⟩ := am_bind hs515
                                                                                                                            clear hs515
                                                                                                                            refine aw_pX (j := 0) (pc1 := 4044) at_0_4043 rfl rfl e1287 rfl ?_
                                                                                                                            obtain ⟨z1288, hs517⟩ := am_ift hs516
                                                                                                                            clear hs516
                                                                                                                            refine aw_call (F := fm_585 N x2 v1286 h1284) (t := true) (na := 2) (kd := 1) (as := [x2, (.int v1286)]) at_0_4044 (am_k3v kb_585) mn_585 mk_585 rfl rfl (am_ok_v mi_585 (am_hl rfl (am_ccR i2 (am_ccI am_cats_0)) rfl) z1288) (am_hc am_cats_0 rfl) (fun _ => ⟨rfl, hh_0⟩) (fun o1 hz9 => rm_585 x2 v1286 h1284 o1 i2 hz9) ?_
                                                                                                                            rcases am_cI_s hs517 with ⟨v1289, h1290, f1291, hs518⟩ | hs518
                                                                                                                            · clear hs517
                                                                                                                              refine Or.inl ⟨_, _, f1291, ?_⟩
                                                                                                                              show am_W X _ 0 4047 _ [(.int v1289)] h1290 _
                                                                                                                              refine aw_istore (lv1 := am_put1 _ 6 _) (pc1 := 4049) at_0_4047 rfl rfl ?_
                                                                                                                              refine aw_vload_n (pc1 := 4050) at_0_4049 (am_lk1 (am_lk1 l2 rfl rfl) rfl rfl) i2 rfl ?_
                                                                                                                              obtain ⟨z1292, hs519⟩ := am_ift hs518
                                                                                                                              clear hs518
                                                                                                                              refine aw_call (F := fm_324 x2 h1290) (t := true) (na := 1) (kd := 1) (as := [x2]) at_0_4050 (am_k3v kb_324) mn_324 mk_324 rfl rfl (am_ok_v mi_324 (am_hl rfl (am_ccR i2 am_cats_0) rfl) z1292) (am_hc am_cats_0 rfl) (fun _ => ⟨rfl, hh_0⟩) (fun o1 hz9 => rm_324 x2 h1290 o1 i2 hz9) ?_
                                                                                                                              rcases am_cI_s hs519 with ⟨v1293, h1294, f1295, hs520⟩ | hs520
                                                                                                                              · clear hs519
                                                                                                                                refine Or.inl ⟨_, _, f1295, ?_⟩
                                                                                                                                show am_W X _ 0 4053 _ [(.int v1293)] h1294 _
                                                                                                                                refine aw_iload (pc1 := 4055) at_0_4053 (am_lk1 am_lk0 rfl rfl) rfl ?_
                                                                                                                                by_cases c1296 : v1293 = v1283
                                                                                                                                · rw [if_pos c1296] at hs520
                                                                                                                                  refine aw_iceq_t at_0_4055 c1296 ?_
                                                                                                                                  refine aw_iload (pc1 := 4062) at_0_4060 (am_lk1 am_lk0 rfl rfl) rfl ?_
                                                                                                                                  by_cases c1297 : ¬ v1283 = 0
                                                                                                                                  · rw [if_pos c1297] at hs520
                                                                                                                                    refine aw_ifne_t at_0_4062 c1297 ?_
                                                                                                                                    exact rg_0_4077 (fun z0 z1 z2 z3 h o hs520 => ih z0 z1 z2 z3 h o hs520) x1 x2 x3 x4 h1294 o (am_lk1 (am_lk1 l0 rfl rfl) rfl rfl) (am_lk1 (am_lk1 l1 rfl rfl) rfl rfl) (am_lk1 (am_lk1 l2 rfl rfl) rfl rfl) (am_lk1 (am_lk1 l3 rfl rfl) rfl rfl) (am_lk1 (am_lk1 l4 rfl rfl) rfl rfl) i1 i2 i3 hs520
                                                                                                                                  · rw [if_neg c1297] at hs520
                                                                                                                                    refine aw_ifne_f (pc1 := 4065) at_0_4062 c1297 rfl ?_
                                                                                                                                    refine aw_vload_n (pc1 := 4066) at_0_4065 (am_lk1 (am_lk1 l3 rfl rfl) rfl rfl) i3 rfl ?_
                                                                                                                                    refine aw_iconst (v := 0) (pc1 := 4067) at_0_4066 (by decide) rfl ?_
                                                                                                                                    obtain ⟨v1298, e1299, hs521⟩ := am_bind hs520
                                                                                                                                    clear hs520
                                                                                                                                    refine aw_pAL (pc1 := 4068) at_0_4067 e1299 rfl ?_
                                                                                                                                    refine aw_iload (pc1 := 4070) at_0_4068 am_lk0 rfl ?_
                                                                                                                                    refine aw_i2l (v := (Int32.toInt64 v1289)) (pc1 := 4071) at_0_4070 rfl rfl ?_
                                                                                                                                    refine aw_lcmp (v := (lg_cmp v1298 (Int32.toInt64 v1289))) (pc1 := 4072) at_0_4071 rfl rfl ?_
                                                                                                                                    by_cases c1300 : (lg_cmp v1298 (Int32.toInt64 v1289)) = 0
                                                                                                                                    · rw [if_pos c1300] at hs521
                                                                                                                                      refine aw_ifeq_t at_0_4072 c1300 ?_
                                                                                                                                      exact rg_0_4077 (fun z0 z1 z2 z3 h o hs521 => ih z0 z1 z2 z3 h o hs521) x1 x2 x3 x4 h1294 o (am_lk1 (am_lk1 l0 rfl rfl) rfl rfl) (am_lk1 (am_lk1 l1 rfl rfl) rfl rfl) (am_lk1 (am_lk1 l2 rfl rfl) rfl rfl) (am_lk1 (am_lk1 l3 rfl rfl) rfl rfl) (am_lk1 (am_lk1 l4 rfl rfl) rfl rfl) i1 i2 i3 hs521
                                                                                                                                    · rw [if_neg c1300] at hs521
                                                                                                                                      refine aw_ifeq_f (pc1 := 4075) at_0_4072 c1300 rfl ?_
                                                                                                                                      refine aw_iconst (v := 0) (pc1 := 4076) at_0_4075 (by decide) rfl ?_
                                                                                                                                      cases hs521
                                                                                                                                      exact aw_iret at_0_4076 (by rw [rt_0]; decide) rfl
                                                                                                                                · rw [if_neg c1296] at hs520
                                                                                                                                  refine aw_iceq_f (pc1 := 4058) at_0_4055 c1296 rfl ?_
                                                                                                                                  refine aw_iconst (v := 0) (pc1 := 4059) at_0_4058 (by decide) rfl ?_
                                                                                                                                  cases hs520
                                                                                                                                  exact aw_iret at_0_4059 (by rw [rt_0]; decide) rfl
                                                                                                                              · clear hs519
                                                                                                                                exact Or.inr hs520
                                                                                                                            · clear hs517
                                                                                                                              exact Or.inr hs518
                                                                                                                          · clear hs514
                                                                                                                            exact Or.inr hs515
                                                                                                                        · rw [if_neg c1280] at hs1
                                                                                                                          by_cases c1301 : (v2 &&& 63) = 58
                                                                                                                          · rw [if_pos c1301] at hs1
                                                                                                                            refine aw_tsw (t := 4080) at_0_40 (by rw [c1301]; rfl) ?_
                                                                                                                            refine aw_vload_n (pc1 := 4081) at_0_4080 l1 i1 rfl ?_
                                                                                                                            refine aw_vload_n (pc1 := 4082) at_0_4081 l0 rfl rfl ?_
                                                                                                                            refine aw_iload (pc1 := 4084) at_0_4082 l4 rfl ?_
                                                                                                                            refine aw_iconst (v := 1) (pc1 := 4085) at_0_4084 (by decide) rfl ?_
                                                                                                                            refine aw_iadd (v := (x4 + 1)) (pc1 := 4086) at_0_4085 rfl rfl ?_
                                                                                                                            obtain ⟨v1302, e1303, hs522⟩ := am_bind hs1
                                                                                                                            clear hs1
                                                                                                                            refine aw_pX (j := 0) (pc1 := 4087) at_0_4086 rfl rfl e1303 rfl ?_
                                                                                                                            refine aw_vload_n (pc1 := 4088) at_0_4087 l3 i3 rfl ?_
                                                                                                                            refine aw_call (F := fm_317 N x1 v1302 x3 h) (t := false) (na := 3) (kd := 0) (as := [x1, (.int v1302), x3]) at_0_4088 (am_k3s kb_317) mn_317 mk_317 rfl rfl (am_ok_s mi_317 (am_hl rfl (am_ccR i1 (am_ccI (am_ccR i3 am_cats_0))) rfl)) (am_hc am_cats_0 rfl) (fun hz9 => by cases hz9) (fun o1 hz9 => rm_317 x1 v1302 x3 h o1 i1 i3 hz9) ?_
                                                                                                                            rcases am_cI_s hs522 with ⟨v1304, h1305, f1306, hs523⟩ | hs523
                                                                                                                            · clear hs522
                                                                                                                              refine Or.inl ⟨_, _, f1306, ?_⟩
                                                                                                                              show am_W X _ 0 4091 _ [(.int v1304)] h1305 _
                                                                                                                              refine aw_istore (lv1 := am_put1 _ 5 _) (pc1 := 4093) at_0_4091 rfl rfl ?_
                                                                                                                              refine aw_vload_n (pc1 := 4094) at_0_4093 (am_lk1 l2 rfl rfl) i2 rfl ?_
                                                                                                                              refine aw_vload_n (pc1 := 4095) at_0_4094 (am_lk1 l0 rfl rfl) rfl rfl ?_
                                                                                                                              refine aw_iload (pc1 := 4097) at_0_4095 (am_lk1 l4 rfl rfl) rfl ?_
                                                                                                                              refine aw_iconst (v := 1) (pc1 := 4098) at_0_4097 (by decide) rfl ?_
                                                                                                                              refine aw_iadd (v := (x4 + 1)) (pc1 := 4099) at_0_4098 rfl rfl ?_
                                                                                                                              obtain ⟨v1307, e1308, hs524⟩ := am_bind hs523
                                                                                                                              clear hs523
                                                                                                                              refine aw_pX (j := 0) (pc1 := 4100) at_0_4099 rfl rfl e1308 rfl ?_
                                                                                                                              obtain ⟨z1309, hs525⟩ := am_ift hs524
                                                                                                                              clear hs524
                                                                                                                              refine aw_call (F := fm_587 N x2 v1307 h1305) (t := true) (na := 2) (kd := 1) (as := [x2, (.int v1307)]) at_0_4100 (am_k3v kb_587) mn_587 mk_587 rfl rfl (am_ok_v mi_587 (am_hl rfl (am_ccR i2 (am_ccI am_cats_0)) rfl) z1309) (am_hc am_cats_0 rfl) (fun _ => ⟨rfl, hh_0⟩) (fun o1 hz9 => rm_587 x2 v1307 h1305 o1 i2 hz9) ?_
                                                                                                                              rcases am_cI_s hs525 with ⟨v1310, h1311, f1312, hs526⟩ | hs526
                                                                                                                              · clear hs525
                                                                                                                                refine Or.inl ⟨_, _, f1312, ?_⟩
                                                                                                                                show am_W X _ 0 4103 _ [(.int v1310)] h1311 _
                                                                                                                                refine aw_istore (lv1 := am_put1 _ 6 _) (pc1 := 4105) at_0_4103 rfl rfl ?_
                                                                                                                                refine aw_vload_n (pc1 := 4106) at_0_4105 (am_lk1 (am_lk1 l2 rfl rfl) rfl rfl) i2 rfl ?_
                                                                                                                                obtain ⟨z1313, hs527⟩ := am_ift hs526
                                                                                                                                clear hs526
                                                                                                                                refine aw_call (F := fm_324 x2 h1311) (t := true) (na := 1) (kd := 1) (as := [x2]) at_0_4106 (am_k3v kb_324) mn_324 mk_324 rfl rfl (am_ok_v mi_324 (am_hl rfl (am_ccR i2 am_cats_0) rfl) z1313) (am_hc am_cats_0 rfl) (fun _ => ⟨rfl, hh_0⟩) (fun o1 hz9 => rm_324 x2 h1311 o1 i2 hz9) ?_
                                                                                                                                rcases am_cI_s hs527 with ⟨v1314, h1315, f1316, hs528⟩ | hs528
                                                                                                                                · clear hs527
                                                                                                                                  refine Or.inl ⟨_, _, f1316, ?_⟩
                                                                                                                                  show am_W X _ 0 4109 _ [(.int v1314)] h1315 _
                                                                                                                                  refine aw_iload (pc1 := 4111) at_0_4109 (am_lk1 am_lk0 rfl rfl) rfl ?_
                                                                                                                                  by_cases c1317 : v1314 = v1304
                                                                                                                                  · rw [if_pos c1317] at hs528
                                                                                                                                    refine aw_iceq_t at_0_4111 c1317 ?_
                                                                                                                                    refine aw_iload (pc1 := 4118) at_0_4116 (am_lk1 am_lk0 rfl rfl) rfl ?_
                                                                                                                                    by_cases c1318 : ¬ v1304 = 0
                                                                                                                                    · rw [if_pos c1318] at hs528
                                                                                                                                      refine aw_ifne_t at_0_4118 c1318 ?_
                                                                                                                                      exact rg_0_4133 (fun z0 z1 z2 z3 h o hs528 => ih z0 z1 z2 z3 h o hs528) x1 x2 x3 x4 h1315 o (am_lk1 (am_lk1 l0 rfl rfl) rfl rfl) (am_lk1 (am_lk1 l1 rfl rfl) rfl rfl) (am_lk1 (am_lk1 l2 rfl rfl) rfl rfl) (am_lk1 (am_lk1 l3 rfl rfl) rfl rfl) (am_lk1 (am_lk1 l4 rfl rfl) rfl rfl) i1 i2 i3 hs528
                                                                                                                                    · rw [if_neg c1318] at hs528
                                                                                                                                      refine aw_ifne_f (pc1 := 4121) at_0_4118 c1318 rfl ?_
                                                                                                                                      refine aw_vload_n (pc1 := 4122) at_0_4121 (am_lk1 (am_lk1 l3 rfl rfl) rfl rfl) i3 rfl ?_
                                                                                                                                      refine aw_iconst (v := 0) (pc1 := 4123) at_0_4122 (by decide) rfl ?_
                                                                                                                                      obtain ⟨v1319, e1320, hs529⟩ := am_bind hs528
                                                                                                                                      clear hs528
                                                                                                                                      refine aw_pAL (pc1 := 4124) at_0_4123 e1320 rfl ?_
                                                                                                                                      refine aw_iload (pc1 := 4126) at_0_4124 am_lk0 rfl ?_
                                                                                                                                      refine aw_i2l (v := (Int32.toInt64 v1310)) (pc1 := 4127) at_0_4126 rfl rfl ?_
                                                                                                                                      refine aw_lcmp (v := (lg_cmp v1319 (Int32.toInt64 v1310))) (pc1 := 4128) at_0_4127 rfl rfl ?_
                                                                                                                                      by_cases c1321 : (lg_cmp v1319 (Int32.toInt64 v1310)) = 0
                                                                                                                                      · rw [if_pos c1321] at hs529
                                                                                                                                        refine aw_ifeq_t at_0_4128 c1321 ?_
                                                                                                                                        exact rg_0_4133 (fun z0 z1 z2 z3 h o hs529 => ih z0 z1 z2 z3 h o hs529) x1 x2 x3 x4 h1315 o (am_lk1 (am_lk1 l0 rfl rfl) rfl rfl) (am_lk1 (am_lk1 l1 rfl rfl) rfl rfl) (am_lk1 (am_lk1 l2 rfl rfl) rfl rfl) (am_lk1 (am_lk1 l3 rfl rfl) rfl rfl) (am_lk1 (am_lk1 l4 rfl rfl) rfl rfl) i1 i2 i3 hs529
                                                                                                                                      · rw [if_neg c1321] at hs529
                                                                                                                                        refine aw_ifeq_f (pc1 := 4131) at_0_4128 c1321 rfl ?_
                                                                                                                                        refine aw_iconst (v := 0) (pc1 := 4132) at_0_4131 (by decide) rfl ?_
                                                                                                                                        cases hs529
                                                                                                                                        exact aw_iret at_0_4132 (by rw [rt_0]; decide) rfl
                                                                                                                                  · rw [if_neg c1317] at hs528
                                                                                                                                    refine aw_iceq_f (pc1 := 4114) at_0_4111 c1317 rfl ?_
                                                                                                                                    refine aw_iconst (v := 0) (pc1 := 4115) at_0_4114 (by decide) rfl ?_
                                                                                                                                    cases hs528
                                                                                                                                    exact aw_iret at_0_4115 (by rw [rt_0]; decide) rfl
                                                                                                                                · clear hs527
                                                                                                                                  exact Or.inr hs528
                                                                                                                              · clear hs525
                                                                                                                                exact Or.inr hs526
                                                                                                                            · clear hs522
                                                                                                                              exact Or.inr hs523
                                                                                                                          · rw [if_neg c1301] at hs1
                                                                                                                            by_cases c1322 : (v2 &&& 63) = 59
                                                                                                                            · rw [if_pos c1322] at hs1
                                                                                                                              refine aw_tsw (t := 4136) at_0_40 (by rw [c1322]; rfl) ?_
                                                                                                                              refine aw_vload_n (pc1 := 4137) at_0_4136 l1 i1 rfl ?_
                                                                                                                              refine aw_vload_n (pc1 := 4138) at_0_4137 l0 rfl rfl ?_
                                                                                                                              refine aw_iload (pc1 := 4140) at_0_4138 l4 rfl ?_
                                                                                                                              refine aw_iconst (v := 1) (pc1 := 4141) at_0_4140 (by decide) rfl ?_
                                                                                                                              refine aw_iadd (v := (x4 + 1)) (pc1 := 4142) at_0_4141 rfl rfl ?_
                                                                                                                              obtain ⟨v1323, e1324, hs530⟩ := am_bind hs1
                                                                                                                              clear hs1
                                                                                                                              refine aw_pX (j := 0) (pc1 := 4143) at_0_4142 rfl rfl e1324 rfl ?_
                                                                                                                              refine aw_vload_n (pc1 := 4144) at_0_4143 l3 i3 rfl ?_
                                                                                                                              refine aw_call (F := fm_320 N x1 v1323 x3 h) (t := false) (na := 3) (kd := 0) (as := [x1, (.int v1323), x3]) at_0_4144 (am_k3s kb_320) mn_320 mk_320 rfl rfl (am_ok_s mi_320 (am_hl rfl (am_ccR i1 (am_ccI (am_ccR i3 am_cats_0))) rfl)) (am_hc am_cats_0 rfl) (fun hz9 => by cases hz9) (fun o1 hz9 => rm_320 x1 v1323 x3 h o1 i1 i3 hz9) ?_
                                                                                                                              rcases am_cI_s hs530 with ⟨v1325, h1326, f1327, hs531⟩ | hs531
                                                                                                                              · clear hs530
                                                                                                                                refine Or.inl ⟨_, _, f1327, ?_⟩
                                                                                                                                show am_W X _ 0 4147 _ [(.int v1325)] h1326 _
                                                                                                                                refine aw_istore (lv1 := am_put1 _ 5 _) (pc1 := 4149) at_0_4147 rfl rfl ?_
                                                                                                                                refine aw_vload_n (pc1 := 4150) at_0_4149 (am_lk1 l2 rfl rfl) i2 rfl ?_
                                                                                                                                refine aw_vload_n (pc1 := 4151) at_0_4150 (am_lk1 l0 rfl rfl) rfl rfl ?_
                                                                                                                                refine aw_iload (pc1 := 4153) at_0_4151 (am_lk1 l4 rfl rfl) rfl ?_
                                                                                                                                refine aw_iconst (v := 1) (pc1 := 4154) at_0_4153 (by decide) rfl ?_
                                                                                                                                refine aw_iadd (v := (x4 + 1)) (pc1 := 4155) at_0_4154 rfl rfl ?_
                                                                                                                                obtain ⟨v1328, e1329, hs532⟩ := am_bind hs531
                                                                                                                                clear hs531
                                                                                                                                refine aw_pX (j := 0) (pc1 := 4156) at_0_4155 rfl rfl e1329 rfl ?_
                                                                                                                                obtain ⟨z1330, hs533⟩ := am_ift hs532
                                                                                                                                clear hs532
                                                                                                                                refine aw_call (F := fm_588 N x2 v1328 h1326) (t := true) (na := 2) (kd := 1) (as := [x2, (.int v1328)]) at_0_4156 (am_k3v kb_588) mn_588 mk_588 rfl rfl (am_ok_v mi_588 (am_hl rfl (am_ccR i2 (am_ccI am_cats_0)) rfl) z1330) (am_hc am_cats_0 rfl) (fun _ => ⟨rfl, hh_0⟩) (fun o1 hz9 => rm_588 x2 v1328 h1326 o1 i2 hz9) ?_
                                                                                                                                rcases am_cI_s hs533 with ⟨v1331, h1332, f1333, hs534⟩ | hs534
                                                                                                                                · clear hs533
                                                                                                                                  refine Or.inl ⟨_, _, f1333, ?_⟩
                                                                                                                                  show am_W X _ 0 4159 _ [(.int v1331)] h1332 _
                                                                                                                                  refine aw_istore (lv1 := am_put1 _ 6 _) (pc1 := 4161) at_0_4159 rfl rfl ?_
                                                                                                                                  refine aw_vload_n (pc1 := 4162) at_0_4161 (am_lk1 (am_lk1 l2 rfl rfl) rfl rfl) i2 rfl ?_
                                                                                                                                  obtain ⟨z1334, hs535⟩ := am_ift hs534
                                                                                                                                  clear hs534
                                                                                                                                  refine aw_call (F := fm_324 x2 h1332) (t := true) (na := 1) (kd := 1) (as := [x2]) at_0_4162 (am_k3v kb_324) mn_324 mk_324 rfl rfl (am_ok_v mi_324 (am_hl rfl (am_ccR i2 am_cats_0) rfl) z1334) (am_hc am_cats_0 rfl) (fun _ => ⟨rfl, hh_0⟩) (fun o1 hz9 => rm_324 x2 h1332 o1 i2 hz9) ?_
                                                                                                                                  rcases am_cI_s hs535 with ⟨v1335, h1336, f1337, hs536⟩ | hs536
                                                                                                                                  · clear hs535
                                                                                                                                    refine Or.inl ⟨_, _, f1337, ?_⟩
                                                                                                                                    show am_W X _ 0 4165 _ [(.int v1335)] h1336 _
                                                                                                                                    refine aw_iload (pc1 := 4167) at_0_4165 (am_lk1 am_lk0 rfl rfl) rfl ?_
                                                                                                                                    by_cases c1338 : v1335 = v1325
                                                                                                                                    · rw [if_pos c1338] at hs536
                                                                                                                                      refine aw_iceq_t at_0_4167 c1338 ?_
                                                                                                                                      refine aw_iload (pc1 := 4174) at_0_4172 (am_lk1 am_lk0 rfl rfl) rfl ?_
                                                                                                                                      by_cases c1339 : ¬ v1325 = 0
                                                                                                                                      · rw [if_pos c1339] at hs536
                                                                                                                                        refine aw_ifne_t at_0_4174 c1339 ?_
                                                                                                                                        exact rg_0_4189 (fun z0 z1 z2 z3 h o hs536 => ih z0 z1 z2 z3 h o hs536) x1 x2 x3 x4 h1336 o (am_lk1 (am_lk1 l0 rfl rfl) rfl rfl) (am_lk1 (am_lk1 l1 rfl rfl) rfl rfl) (am_lk1 (am_lk1 l2 rfl rfl) rfl rfl) (am_lk1 (am_lk1 l3 rfl rfl) rfl rfl) (am_lk1 (am_lk1 l4 rfl rfl) rfl rfl) i1 i2 i3 hs536
                                                                                                                                      · rw [if_neg c1339] at hs536
                                                                                                                                        refine aw_ifne_f (pc1 := 4177) at_0_4174 c1339 rfl ?_
                                                                                                                                        refine aw_vload_n (pc1 := 4178) at_0_4177 (am_lk1 (am_lk1 l3 rfl rfl) rfl rfl) i3 rfl ?_
                                                                                                                                        refine aw_iconst (v := 0) (pc1 := 4179) at_0_4178 (by decide) rfl ?_
                                                                                                                                        obtain ⟨v1340, e1341, hs537⟩ := am_bind hs536
                                                                                                                                        clear hs536
                                                                                                                                        refine aw_pAL (pc1 := 4180) at_0_4179 e1341 rfl ?_
                                                                                                                                        refine aw_iload (pc1 := 4182) at_0_4180 am_lk0 rfl ?_
                                                                                                                                        refine aw_i2l (v := (Int32.toInt64 v1331)) (pc1 := 4183) at_0_4182 rfl rfl ?_
                                                                                                                                        refine aw_lcmp (v := (lg_cmp v1340 (Int32.toInt64 v1331))) (pc1 := 4184) at_0_4183 rfl rfl ?_
                                                                                                                                        by_cases c1342 : (lg_cmp v1340 (Int32.toInt64 v1331)) = 0
                                                                                                                                        · rw [if_pos c1342] at hs537
                                                                                                                                          refine aw_ifeq_t at_0_4184 c1342 ?_
                                                                                                                                          exact rg_0_4189 (fun z0 z1 z2 z3 h o hs537 => ih z0 z1 z2 z3 h o hs537) x1 x2 x3 x4 h1336 o (am_lk1 (am_lk1 l0 rfl rfl) rfl rfl) (am_lk1 (am_lk1 l1 rfl rfl) rfl rfl) (am_lk1 (am_lk1 l2 rfl rfl) rfl rfl) (am_lk1 (am_lk1 l3 rfl rfl) rfl rfl) (am_lk1 (am_lk1 l4 rfl rfl) rfl rfl) i1 i2 i3 hs537
                                                                                                                                        · rw [if_neg c1342] at hs537
                                                                                                                                          refine aw_ifeq_f (pc1 := 4187) at_0_4184 c1342 rfl ?_
                                                                                                                                          refine aw_iconst (v := 0) (pc1 := 4188) at_0_4187 (by decide) rfl ?_
                                                                                                                                          cases hs537
                                                                                                                                          exact aw_iret at_0_4188 (by rw [rt_0]; decide) rfl
                                                                                                                                    · rw [if_neg c1338] at hs536
                                                                                                                                      refine aw_iceq_f (pc1 := 4170) at_0_4167 c1338 rfl ?_
                                                                                                                                      refine aw_iconst (v := 0) (pc1 := 4171) at_0_4170 (by decide) rfl ?_
                                                                                                                                      cases hs536
                                                                                                                                      exact aw_iret at_0_4171 (by rw [rt_0]; decide) rfl
                                                                                                                                  · clear hs535
                                                                                                                                    exact Or.inr hs536
                                                                                                                                · clear hs533
                                                                                                                                  exact Or.inr hs534
                                                                                                                              · clear hs530
                                                                                                                                exact Or.inr hs531
                                                                                                                            · rw [if_neg c1322] at hs1
                                                                                                                              have tc4 : ((v2 &&& 63)).toInt ≠ 0 := fun e9 => c4 (Int32.toInt_inj.mp e9)
                                                                                                                              have tc22 : ((v2 &&& 63)).toInt ≠ 1 := fun e9 => c22 (Int32.toInt_inj.mp e9)
                                                                                                                              have tc43 : ((v2 &&& 63)).toInt ≠ 2 := fun e9 => c43 (Int32.toInt_inj.mp e9)
                                                                                                                              have tc64 : ((v2 &&& 63)).toInt ≠ 3 := fun e9 => c64 (Int32.toInt_inj.mp e9)
                                                                                                                              have tc89 : ((v2 &&& 63)).toInt ≠ 4 := fun e9 => c89 (Int32.toInt_inj.mp e9)
                                                                                                                              have tc99 : ((v2 &&& 63)).toInt ≠ 5 := fun e9 => c99 (Int32.toInt_inj.mp e9)
                                                                                                                              have tc124 : ((v2 &&& 63)).toInt ≠ 6 := fun e9 => c124 (Int32.toInt_inj.mp e9)
                                                                                                                              have tc145 : ((v2 &&& 63)).toInt ≠ 7 := fun e9 => c145 (Int32.toInt_inj.mp e9)
                                                                                                                              have tc174 : ((v2 &&& 63)).toInt ≠ 8 := fun e9 => c174 (Int32.toInt_inj.mp e9)
                                                                                                                              have tc199 : ((v2 &&& 63)).toInt ≠ 9 := fun e9 => c199 (Int32.toInt_inj.mp e9)
                                                                                                                              have tc220 : ((v2 &&& 63)).toInt ≠ 10 := fun e9 => c220 (Int32.toInt_inj.mp e9)
                                                                                                                              have tc249 : ((v2 &&& 63)).toInt ≠ 11 := fun e9 => c249 (Int32.toInt_inj.mp e9)
                                                                                                                              have tc270 : ((v2 &&& 63)).toInt ≠ 12 := fun e9 => c270 (Int32.toInt_inj.mp e9)
                                                                                                                              have tc284 : ((v2 &&& 63)).toInt ≠ 13 := fun e9 => c284 (Int32.toInt_inj.mp e9)
                                                                                                                              have tc298 : ((v2 &&& 63)).toInt ≠ 14 := fun e9 => c298 (Int32.toInt_inj.mp e9)
                                                                                                                              have tc319 : ((v2 &&& 63)).toInt ≠ 15 := fun e9 => c319 (Int32.toInt_inj.mp e9)
                                                                                                                              have tc329 : ((v2 &&& 63)).toInt ≠ 16 := fun e9 => c329 (Int32.toInt_inj.mp e9)
                                                                                                                              have tc354 : ((v2 &&& 63)).toInt ≠ 17 := fun e9 => c354 (Int32.toInt_inj.mp e9)
                                                                                                                              have tc379 : ((v2 &&& 63)).toInt ≠ 18 := fun e9 => c379 (Int32.toInt_inj.mp e9)
                                                                                                                              have tc412 : ((v2 &&& 63)).toInt ≠ 19 := fun e9 => c412 (Int32.toInt_inj.mp e9)
                                                                                                                              have tc422 : ((v2 &&& 63)).toInt ≠ 20 := fun e9 => c422 (Int32.toInt_inj.mp e9)
                                                                                                                              have tc432 : ((v2 &&& 63)).toInt ≠ 21 := fun e9 => c432 (Int32.toInt_inj.mp e9)
                                                                                                                              have tc457 : ((v2 &&& 63)).toInt ≠ 22 := fun e9 => c457 (Int32.toInt_inj.mp e9)
                                                                                                                              have tc463 : ((v2 &&& 63)).toInt ≠ 23 := fun e9 => c463 (Int32.toInt_inj.mp e9)
                                                                                                                              have tc488 : ((v2 &&& 63)).toInt ≠ 24 := fun e9 => c488 (Int32.toInt_inj.mp e9)
                                                                                                                              have tc494 : ((v2 &&& 63)).toInt ≠ 25 := fun e9 => c494 (Int32.toInt_inj.mp e9)
                                                                                                                              have tc519 : ((v2 &&& 63)).toInt ≠ 26 := fun e9 => c519 (Int32.toInt_inj.mp e9)
                                                                                                                              have tc544 : ((v2 &&& 63)).toInt ≠ 27 := fun e9 => c544 (Int32.toInt_inj.mp e9)
                                                                                                                              have tc569 : ((v2 &&& 63)).toInt ≠ 28 := fun e9 => c569 (Int32.toInt_inj.mp e9)
                                                                                                                              have tc598 : ((v2 &&& 63)).toInt ≠ 29 := fun e9 => c598 (Int32.toInt_inj.mp e9)
                                                                                                                              have tc631 : ((v2 &&& 63)).toInt ≠ 30 := fun e9 => c631 (Int32.toInt_inj.mp e9)
                                                                                                                              have tc656 : ((v2 &&& 63)).toInt ≠ 31 := fun e9 => c656 (Int32.toInt_inj.mp e9)
                                                                                                                              have tc689 : ((v2 &&& 63)).toInt ≠ 32 := fun e9 => c689 (Int32.toInt_inj.mp e9)
                                                                                                                              have tc730 : ((v2 &&& 63)).toInt ≠ 33 := fun e9 => c730 (Int32.toInt_inj.mp e9)
                                                                                                                              have tc751 : ((v2 &&& 63)).toInt ≠ 34 := fun e9 => c751 (Int32.toInt_inj.mp e9)
                                                                                                                              have tc776 : ((v2 &&& 63)).toInt ≠ 35 := fun e9 => c776 (Int32.toInt_inj.mp e9)
                                                                                                                              have tc801 : ((v2 &&& 63)).toInt ≠ 36 := fun e9 => c801 (Int32.toInt_inj.mp e9)
                                                                                                                              have tc826 : ((v2 &&& 63)).toInt ≠ 37 := fun e9 => c826 (Int32.toInt_inj.mp e9)
                                                                                                                              have tc847 : ((v2 &&& 63)).toInt ≠ 38 := fun e9 => c847 (Int32.toInt_inj.mp e9)
                                                                                                                              have tc872 : ((v2 &&& 63)).toInt ≠ 39 := fun e9 => c872 (Int32.toInt_inj.mp e9)
                                                                                                                              have tc901 : ((v2 &&& 63)).toInt ≠ 40 := fun e9 => c901 (Int32.toInt_inj.mp e9)
                                                                                                                              have tc926 : ((v2 &&& 63)).toInt ≠ 41 := fun e9 => c926 (Int32.toInt_inj.mp e9)
                                                                                                                              have tc951 : ((v2 &&& 63)).toInt ≠ 42 := fun e9 => c951 (Int32.toInt_inj.mp e9)
                                                                                                                              have tc972 : ((v2 &&& 63)).toInt ≠ 43 := fun e9 => c972 (Int32.toInt_inj.mp e9)
                                                                                                                              have tc997 : ((v2 &&& 63)).toInt ≠ 44 := fun e9 => c997 (Int32.toInt_inj.mp e9)
                                                                                                                              have tc1022 : ((v2 &&& 63)).toInt ≠ 45 := fun e9 => c1022 (Int32.toInt_inj.mp e9)
                                                                                                                              have tc1043 : ((v2 &&& 63)).toInt ≠ 46 := fun e9 => c1043 (Int32.toInt_inj.mp e9)
                                                                                                                              have tc1064 : ((v2 &&& 63)).toInt ≠ 47 := fun e9 => c1064 (Int32.toInt_inj.mp e9)
                                                                                                                              have tc1085 : ((v2 &&& 63)).toInt ≠ 48 := fun e9 => c1085 (Int32.toInt_inj.mp e9)
                                                                                                                              have tc1095 : ((v2 &&& 63)).toInt ≠ 49 := fun e9 => c1095 (Int32.toInt_inj.mp e9)
                                                                                                                              have tc1113 : ((v2 &&& 63)).toInt ≠ 50 := fun e9 => c1113 (Int32.toInt_inj.mp e9)
                                                                                                                              have tc1138 : ((v2 &&& 63)).toInt ≠ 51 := fun e9 => c1138 (Int32.toInt_inj.mp e9)
                                                                                                                              have tc1163 : ((v2 &&& 63)).toInt ≠ 52 := fun e9 => c1163 (Int32.toInt_inj.mp e9)
                                                                                                                              have tc1184 : ((v2 &&& 63)).toInt ≠ 53 := fun e9 => c1184 (Int32.toInt_inj.mp e9)
                                                                                                                              have tc1205 : ((v2 &&& 63)).toInt ≠ 54 := fun e9 => c1205 (Int32.toInt_inj.mp e9)
                                                                                                                              have tc1234 : ((v2 &&& 63)).toInt ≠ 55 := fun e9 => c1234 (Int32.toInt_inj.mp e9)
                                                                                                                              have tc1259 : ((v2 &&& 63)).toInt ≠ 56 := fun e9 => c1259 (Int32.toInt_inj.mp e9)
                                                                                                                              have tc1280 : ((v2 &&& 63)).toInt ≠ 57 := fun e9 => c1280 (Int32.toInt_inj.mp e9)
                                                                                                                              have tc1301 : ((v2 &&& 63)).toInt ≠ 58 := fun e9 => c1301 (Int32.toInt_inj.mp e9)
                                                                                                                              have tc1322 : ((v2 &&& 63)).toInt ≠ 59 := fun e9 => c1322 (Int32.toInt_inj.mp e9)
                                                                                                                              refine aw_tsw (t := 4192) at_0_40 (am_tsw_d (by omega)) ?_
                                                                                                                              exact rg_0_4192 (fun z0 z1 z2 z3 h o hs1 => ih z0 z1 z2 z3 h o hs1) x1 x2 x3 x4 h o l0 l1 l2 l3 l4 i1 i2 i3 hs1
def fg_0_0 (X : am_X) (N : Nat) (h : am_H) : Option am_O := ((am_pObj 11 h).bind fun h1 => (if am_pOk 11 (Value.ref h.length) h1 then am_cV false (fm_1 N ((Value.ref h.length)) h1) (fun h5 => ((am_pObj 12 h5).bind fun h7 => (if am_pOk 12 (Value.ref h5.length) h7 then am_cV false (fm_323 ((Value.ref h5.length)) h7) (fun h11 => ((am_pNew 1 1 h11).bind fun h13 => (fg_0_23 X N N ((Value.ref h.length)) ((Value.ref h5.length)) ((Value.ref h11.length)) 0 h13))) else none))) else none))
theorem rg_0_0 {X : am_X} {d : Nat} {N : Nat} {lv : am_LV} (h : am_H) (o : am_O) (l0 : lv.lookup 0 = some (Value.float 0)) (hs : fg_0_0 X N h = some o) : am_W X (d + 164) 0 0 lv [] h (fun q => q = o) := by
  unfold fg_0_0 at hs
  obtain ⟨h1, e2, hs1⟩ := am_bind hs
  clear hs
  refine aw_pObj (pc1 := 3) at_0_0 rfl rfl e2 rfl ?_
  refine aw_vdup (pc1 := 4) at_0_3 rfl rfl ?_
  obtain ⟨z3, hs2⟩ := am_ift hs1
  clear hs1
  refine aw_call (F := fm_1 N ((Value.ref h.length)) h1) (t := false) (na := 1) (kd := 2) (as := [(Value.ref h.length)]) at_0_4 (am_k3p kb_1) mn_1 mk_1 rfl rfl (am_ok_v mi_1 (am_hl rfl (am_ccR rfl am_cats_0) rfl) z3) (am_hc (am_ccR rfl am_cats_0) rfl) (fun hz9 => by cases hz9) (fun o1 hz9 => rm_1 ((Value.ref h.length)) h1 o1 rfl hz9) ?_
  rcases am_cV_s hs2 with ⟨h5, f6, hs3⟩ | hs3
  · clear hs2
    refine Or.inl ⟨_, _, f6, ?_⟩
    show am_W X _ 0 7 _ [(Value.ref h.length)] h5 _
    refine aw_vstore_n (lv1 := am_put1 _ 1 _) (pc1 := 8) at_0_7 rfl rfl rfl ?_
    obtain ⟨h7, e8, hs4⟩ := am_bind hs3
    clear hs3
    refine aw_pObj (pc1 := 11) at_0_8 rfl rfl e8 rfl ?_
    refine aw_vdup (pc1 := 12) at_0_11 rfl rfl ?_
    obtain ⟨z9, hs5⟩ := am_ift hs4
    clear hs4
    refine aw_call (F := fm_323 ((Value.ref h5.length)) h7) (t := false) (na := 1) (kd := 2) (as := [(Value.ref h5.length)]) at_0_12 (am_k3p kb_323) mn_323 mk_323 rfl rfl (am_ok_v mi_323 (am_hl rfl (am_ccR rfl am_cats_0) rfl) z9) (am_hc (am_ccR rfl am_cats_0) rfl) (fun hz9 => by cases hz9) (fun o1 hz9 => rm_323 ((Value.ref h5.length)) h7 o1 rfl hz9) ?_
    rcases am_cV_s hs5 with ⟨h11, f12, hs6⟩ | hs6
    · clear hs5
      refine Or.inl ⟨_, _, f12, ?_⟩
      show am_W X _ 0 15 _ [(Value.ref h5.length)] h11 _
      refine aw_vstore_n (lv1 := am_put1 _ 2 _) (pc1 := 16) at_0_15 rfl rfl rfl ?_
      refine aw_iconst (v := 1) (pc1 := 17) at_0_16 (by decide) rfl ?_
      obtain ⟨h13, e14, hs7⟩ := am_bind hs6
      clear hs6
      refine aw_pNew (pc1 := 19) at_0_17 e14 rfl ?_
      refine aw_vstore_n (lv1 := am_put1 _ 3 _) (pc1 := 20) at_0_19 rfl rfl rfl ?_
      refine aw_iconst (v := 0) (pc1 := 21) at_0_20 (by decide) rfl ?_
      refine aw_istore (lv1 := am_put1 _ 4 _) (pc1 := 23) at_0_21 rfl rfl ?_
      exact rg_0_23 N ((Value.ref h.length)) ((Value.ref h5.length)) ((Value.ref h11.length)) 0 h13 o hs7 _ (am_lk1 (am_lk1 (am_lk1 (am_lk1 l0 rfl rfl) rfl rfl) rfl rfl) rfl rfl) (am_lk1 (am_lk1 (am_lk1 am_lk0 rfl (by rw [am_isRc rfl]; rfl)) rfl rfl) rfl rfl) (am_lk1 (am_lk1 am_lk0 rfl (by rw [am_isRc rfl]; rfl)) rfl rfl) (am_lk1 am_lk0 rfl (by rw [am_isRc rfl]; rfl)) am_lk0 rfl rfl rfl
    · clear hs5
      exact Or.inr hs6
  · clear hs2
    exact Or.inr hs3
def fm_0 (X : am_X) (N : Nat) (h : am_H) : Option am_O := fg_0_0 X N h
theorem rm_0 {X : am_X} {d : Nat} {N : Nat} (h : am_H) (o : am_O) (hs : fm_0 X N h = some o) : am_W X (d + 164) 0 0 (am_args 0 [.float 0]) [] h (fun q => q = o) := by
  rw [am_args_R (v := .float 0) rfl]
  exact rg_0_0 h o rfl  hs
