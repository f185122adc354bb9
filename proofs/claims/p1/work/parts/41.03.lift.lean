/-! ===== methods as functions ===== -/
def fg_99_55 (N : Nat) (rc_99 : Value → Int32 → Int32 → Int32 → am_H → Option am_O) : Nat → Value → Int32 → Int32 → Int32 → Int32 → Int32 → Int32 → Int32 → Int64 → Int32 → am_H → Option am_O
  | 0 => fun _ _ _ _ _ _ _ _ _ _ _ => none
  | K + 1 => fun x0 x1 x2 x3 x4 x5 x6 x7 x8 x10 h => (if x4 ≤ x10 then am_cI false (fm_14 x4 h) (fun v2 h3 => (if ¬ v2 = 0 then ((am_vR (am_pG 1026 x0 h3)).bind fun v6 => (if am_pOk 7 v6 h3 then am_cI true (fm_100 v6 ((x2 + 1)) h3) (fun v9 h10 => (if am_pOk 4 x0 h10 then am_cL true (rc_99 x0 x6 ((x2 + 1)) ((x3 + 1)) h10) (fun v13 h14 => am_cI false (fm_14 x4 h14) (fun v16 h17 => (if ¬ v16 = 1 then ((am_vR (am_pG 1026 x0 h17)).bind fun v20 => (if am_pOk 7 v20 h17 then am_cI true (fm_100 v20 v9 h17) (fun v23 h24 => (if am_pOk 4 x0 h24 then am_cL true (rc_99 x0 x7 v9 ((x3 + 1)) h24) (fun v27 h28 => am_cI false (fm_14 x4 h28) (fun v30 h31 => (if ¬ v30 = 2 then (if am_pOk 4 x0 h31 then am_cL true (rc_99 x0 x7 ((v9 + (v23 - v9))) ((x3 + 1)) h31) (fun v35 h36 => (if am_pOk 4 x0 h36 then am_cL true (fm_102 N x0 x6 x7 ((x5 - 1)) (((v9 - x2) - 1)) ((v23 - v9)) h36) (fun v39 h40 => (if am_pOk 4 x0 h40 then am_cL true (fm_15 x0 x7 ((v23 - v9)) h40) (fun v43 h44 => (if am_pOk 4 x0 h44 then am_cL true (fm_15 x0 x7 ((((x5 - 1) - ((v9 - x2) - 1)) - (v23 - v9))) h44) (fun v47 h48 => some (.inl (some (.long (((x8 + v39) + (((v13 * v43) + v27) * v47)) + v35)), h48))) else none)) else none)) else none)) else none) else (if am_pOk 4 x0 h31 then am_cL true (fm_101 N x0 x6 x7 ((x5 - 1)) (((v9 - x2) - 1)) h31) (fun v51 h52 => (if am_pOk 4 x0 h52 then am_cL true (fm_15 x0 x7 ((v23 - v9)) h52) (fun v55 h56 => some (.inl (some (.long (((x8 + v51) + (v13 * v55)) + v27)), h56))) else none)) else none)))) else none)) else none)) else some (.inl (some (.long (x8 + v13)), h17))))) else none)) else none)) else ((am_vR (am_pG 1027 x0 h3)).bind fun v58 => (if am_pOk 3 v58 h3 then am_cI true (fm_54 v58 x2 1 h3) (fun v61 h62 => some (.inl (some (.long (x8 + (Int32.toInt64 v61))), h62))) else none)))) else (if am_pOk 4 x0 h then am_cL true (fm_93 x0 x1 x10 x5 h) (fun v65 h66 => (fg_99_55 N rc_99 K x0 x1 x2 x3 x4 x5 x6 x7 ((x8 + v65)) ((x10 + 1)) h66)) else none))
theorem rg_99_55 {X : am_X} {d : Nat} {N : Nat} {rc_99 : Value → Int32 → Int32 → Int32 → am_H → Option am_O} (qc_99 : ∀ (y0 : Value) (y1 : Int32) (y2 : Int32) (y3 : Int32) (h : am_H) (o : am_O), (am_isR y0 = true) → rc_99 y0 y1 y2 y3 h = some o → am_W X (d + 3) 99 0 (am_args 0 [y0, .int y1, .int y2, .int y3]) [] h (fun q => q = o)) : ∀ (K : Nat) (x0 : Value) (x1 : Int32) (x2 : Int32) (x3 : Int32) (x4 : Int32) (x5 : Int32) (x6 : Int32) (x7 : Int32) (x8 : Int64) (x10 : Int32) (h : am_H) (o : am_O), fg_99_55 N rc_99 K x0 x1 x2 x3 x4 x5 x6 x7 x8 x10 h = some o → ∀ lv : am_LV, (lv.lookup 0 = some x0) → (lv.lookup 1 = some (.int x1)) → (lv.lookup 2 = some (.int x2)) → (lv.lookup 3 = some (.int x3)) → (lv.lookup 4 = some (.int x4)) → (lv.lookup 5 = some (.int x5)) → (lv.lookup 6 = some (.int x6)) → (lv.lookup 7 = some (.int x7)) → (lv.lookup 8 = some (.long x8)) → (lv.lookup 10 = some (.int x10)) → (am_isR x0 = true) → am_W X (d + 4) 99 55 lv [] h (fun q => q = o) := by
  intro K
  induction K with
  | zero => intro x0 x1 x2 x3 x4 x5 x6 x7 x8 x10 h o hs; cases hs
  | succ K ih =>
    intro x0 x1 x2 x3 x4 x5 x6 x7 x8 x10 h o hs lv l0 l1 l2 l3 l4 l5 l6 l7 l8 l10 i0
    unfold fg_99_55 at hs
    refine aw_iload (pc1 := 57) at_99_55 l10 rfl ?_
    refine aw_iload (pc1 := 59) at_99_57 l4 rfl ?_
    by_cases c1 : x4 ≤ x10
    · rw [if_pos c1] at hs
      refine aw_icge_t at_99_59 c1 ?_
      refine aw_iload (pc1 := 84) at_99_82 l4 rfl ?_
      refine aw_call (F := fm_14 x4 h) (t := false) (na := 1) (kd := 0) (as := [(.int x4)]) at_99_84 (am_k3s kb_14) mn_14 mk_14 rfl rfl (am_ok_s mi_14 (am_hl rfl (am_ccI am_cats_0) rfl)) (am_hc am_cats_0 rfl) (fun hz9 => by cases hz9) (fun o1 hz9 => rm_14 x4 h o1  hz9) ?_
      rcases am_cI_s hs with ⟨v2, h3, f4, hs1⟩ | hs1
      · clear hs
        refine Or.inl ⟨_, _, f4, ?_⟩
        show am_W X _ 99 87 _ [(.int v2)] h3 _
        by_cases c5 : ¬ v2 = 0
        · rw [if_pos c5] at hs1
          refine aw_ifne_t at_99_87 c5 ?_
          refine aw_vload_n (pc1 := 105) at_99_104 l0 i0 rfl ?_
          obtain ⟨v6, e7, hs2⟩ := am_bind hs1
          clear hs1
          refine aw_pG (pc1 := 108) at_99_105 (am_vR_s e7).1 rfl ?_
          refine aw_iload_n (pc1 := 109) at_99_108 l2 rfl ?_
          refine aw_iconst (v := 1) (pc1 := 110) at_99_109 (by decide) rfl ?_
          refine aw_iadd (v := (x2 + 1)) (pc1 := 111) at_99_110 rfl rfl ?_
          obtain ⟨z8, hs3⟩ := am_ift hs2
          clear hs2
          refine aw_call (F := fm_100 v6 ((x2 + 1)) h3) (t := true) (na := 2) (kd := 1) (as := [v6, (.int (x2 + 1))]) at_99_111 (am_k3v kb_100) mn_100 mk_100 rfl rfl (am_ok_v mi_100 (am_hl rfl (am_ccR (am_vR_s e7).2 (am_ccI am_cats_0)) rfl) z8) (am_hc am_cats_0 rfl) (fun _ => ⟨rfl, hh_99⟩) (fun o1 hz9 => rm_100 v6 ((x2 + 1)) h3 o1 (am_vR_s e7).2 hz9) ?_
          rcases am_cI_s hs3 with ⟨v9, h10, f11, hs4⟩ | hs4
          · clear hs3
            refine Or.inl ⟨_, _, f11, ?_⟩
            show am_W X _ 99 114 _ [(.int v9)] h10 _
            refine aw_istore (lv1 := am_put1 _ 10 _) (pc1 := 116) at_99_114 rfl rfl ?_
            refine aw_iload (pc1 := 118) at_99_116 am_lk0 rfl ?_
            refine aw_iload_n (pc1 := 119) at_99_118 (am_lk1 l2 rfl rfl) rfl ?_
            refine aw_isub (v := (v9 - x2)) (pc1 := 120) at_99_119 rfl rfl ?_
            refine aw_iconst (v := 1) (pc1 := 121) at_99_120 (by decide) rfl ?_
            refine aw_isub (v := ((v9 - x2) - 1)) (pc1 := 122) at_99_121 rfl rfl ?_
            refine aw_istore (lv1 := am_put1 _ 11 _) (pc1 := 124) at_99_122 rfl rfl ?_
            refine aw_vload_n (pc1 := 125) at_99_124 (am_lk1 (am_lk1 l0 rfl rfl) rfl rfl) i0 rfl ?_
            refine aw_iload (pc1 := 127) at_99_125 (am_lk1 (am_lk1 l6 rfl rfl) rfl rfl) rfl ?_
            refine aw_iload_n (pc1 := 128) at_99_127 (am_lk1 (am_lk1 l2 rfl rfl) rfl rfl) rfl ?_
            refine aw_iconst (v := 1) (pc1 := 129) at_99_128 (by decide) rfl ?_
            refine aw_iadd (v := (x2 + 1)) (pc1 := 130) at_99_129 rfl rfl ?_
            refine aw_iload_n (pc1 := 131) at_99_130 (am_lk1 (am_lk1 l3 rfl rfl) rfl rfl) rfl ?_
            refine aw_iconst (v := 1) (pc1 := 132) at_99_131 (by decide) rfl ?_
            refine aw_iadd (v := (x3 + 1)) (pc1 := 133) at_99_132 rfl rfl ?_
            obtain ⟨z12, hs5⟩ := am_ift hs4
            clear hs4
            refine aw_call (F := rc_99 x0 x6 ((x2 + 1)) ((x3 + 1)) h10) (t := true) (na := 4) (kd := 1) (as := [x0, (.int x6), (.int (x2 + 1)), (.int (x3 + 1))]) at_99_133 (am_k3v kb_99) mn_99 mk_99 rfl rfl (am_ok_v mi_99 (am_hl rfl (am_ccR i0 (am_ccI (am_ccI (am_ccI am_cats_0)))) rfl) z12) (am_hc am_cats_0 rfl) (fun _ => ⟨rfl, hh_99⟩) (fun o1 hz9 => qc_99 x0 x6 ((x2 + 1)) ((x3 + 1)) h10 o1 i0 hz9) ?_
            rcases am_cL_s hs5 with ⟨v13, h14, f15, hs6⟩ | hs6
            · clear hs5
              refine Or.inl ⟨_, _, f15, ?_⟩
              show am_W X _ 99 136 _ [(.long v13)] h14 _
              refine aw_lstore (lv1 := am_put2 _ 12 _) (pc1 := 138) at_99_136 rfl rfl ?_
              refine aw_iload (pc1 := 140) at_99_138 (am_lk2 (am_lk1 (am_lk1 l4 rfl rfl) rfl rfl) rfl rfl) rfl ?_
              refine aw_call (F := fm_14 x4 h14) (t := false) (na := 1) (kd := 0) (as := [(.int x4)]) at_99_140 (am_k3s kb_14) mn_14 mk_14 rfl rfl (am_ok_s mi_14 (am_hl rfl (am_ccI am_cats_0) rfl)) (am_hc am_cats_0 rfl) (fun hz9 => by cases hz9) (fun o1 hz9 => rm_14 x4 h14 o1  hz9) ?_
              rcases am_cI_s hs6 with ⟨v16, h17, f18, hs7⟩ | hs7
              · clear hs6
                refine Or.inl ⟨_, _, f18, ?_⟩
                show am_W X _ 99 143 _ [(.int v16)] h17 _
                refine aw_iconst (v := 1) (pc1 := 144) at_99_143 (by decide) rfl ?_
                by_cases c19 : ¬ v16 = 1
                · rw [if_pos c19] at hs7
                  refine aw_icne_t at_99_144 c19 ?_
                  refine aw_vload_n (pc1 := 154) at_99_153 (am_lk2 (am_lk1 (am_lk1 l0 rfl rfl) rfl rfl) rfl rfl) i0 rfl ?_
                  obtain ⟨v20, e21, hs8⟩ := am_bind hs7
                  clear hs7
                  refine aw_pG (pc1 := 157) at_99_154 (am_vR_s e21).1 rfl ?_
                  refine aw_iload (pc1 := 159) at_99_157 (am_lk2 (am_lk1 am_lk0 rfl rfl) rfl rfl) rfl ?_
                  obtain ⟨z22, hs9⟩ := am_ift hs8
                  clear hs8
                  refine aw_call (F := fm_100 v20 v9 h17) (t := true) (na := 2) (kd := 1) (as := [v20, (.int v9)]) at_99_159 (am_k3v kb_100) mn_100 mk_100 rfl rfl (am_ok_v mi_100 (am_hl rfl (am_ccR (am_vR_s e21).2 (am_ccI am_cats_0)) rfl) z22) (am_hc am_cats_0 rfl) (fun _ => ⟨rfl, hh_99⟩) (fun o1 hz9 => rm_100 v20 v9 h17 o1 (am_vR_s e21).2 hz9) ?_
                  rcases am_cI_s hs9 with ⟨v23, h24, f25, hs10⟩ | hs10
                  · clear hs9
                    refine Or.inl ⟨_, _, f25, ?_⟩
                    show am_W X _ 99 162 _ [(.int v23)] h24 _
                    refine aw_iload (pc1 := 164) at_99_162 (am_lk2 (am_lk1 am_lk0 rfl rfl) rfl rfl) rfl ?_
                    refine aw_isub (v := (v23 - v9)) (pc1 := 165) at_99_164 rfl rfl ?_
                    refine aw_istore (lv1 := am_put1 _ 14 _) (pc1 := 167) at_99_165 rfl rfl ?_
                    refine aw_vload_n (pc1 := 168) at_99_167 (am_lk1 (am_lk2 (am_lk1 (am_lk1 l0 rfl rfl) rfl rfl) rfl rfl) rfl rfl) i0 rfl ?_
                    refine aw_iload (pc1 := 170) at_99_168 (am_lk1 (am_lk2 (am_lk1 (am_lk1 l7 rfl rfl) rfl rfl) rfl rfl) rfl rfl) rfl ?_
                    refine aw_iload (pc1 := 172) at_99_170 (am_lk1 (am_lk2 (am_lk1 am_lk0 rfl rfl) rfl rfl) rfl rfl) rfl ?_
                    refine aw_iload_n (pc1 := 173) at_99_172 (am_lk1 (am_lk2 (am_lk1 (am_lk1 l3 rfl rfl) rfl rfl) rfl rfl) rfl rfl) rfl ?_
                    refine aw_iconst (v := 1) (pc1 := 174) at_99_173 (by decide) rfl ?_
                    refine aw_iadd (v := (x3 + 1)) (pc1 := 175) at_99_174 rfl rfl ?_
                    obtain ⟨z26, hs11⟩ := am_ift hs10
                    clear hs10
                    refine aw_call (F := rc_99 x0 x7 v9 ((x3 + 1)) h24) (t := true) (na := 4) (kd := 1) (as := [x0, (.int x7), (.int v9), (.int (x3 + 1))]) at_99_175 (am_k3v kb_99) mn_99 mk_99 rfl rfl (am_ok_v mi_99 (am_hl rfl (am_ccR i0 (am_ccI (am_ccI (am_ccI am_cats_0)))) rfl) z26) (am_hc am_cats_0 rfl) (fun _ => ⟨rfl, hh_99⟩) (fun o1 hz9 => qc_99 x0 x7 v9 ((x3 + 1)) h24 o1 i0 hz9) ?_
                    rcases am_cL_s hs11 with ⟨v27, h28, f29, hs12⟩ | hs12
                    · clear hs11
                      refine Or.inl ⟨_, _, f29, ?_⟩
                      show am_W X _ 99 178 _ [(.long v27)] h28 _
                      refine aw_lstore (lv1 := am_put2 _ 15 _) (pc1 := 180) at_99_178 rfl rfl ?_
                      refine aw_iload (pc1 := 182) at_99_180 (am_lk2 (am_lk1 (am_lk2 (am_lk1 (am_lk1 l4 rfl rfl) rfl rfl) rfl rfl) rfl rfl) rfl rfl) rfl ?_
                      refine aw_call (F := fm_14 x4 h28) (t := false) (na := 1) (kd := 0) (as := [(.int x4)]) at_99_182 (am_k3s kb_14) mn_14 mk_14 rfl rfl (am_ok_s mi_14 (am_hl rfl (am_ccI am_cats_0) rfl)) (am_hc am_cats_0 rfl) (fun hz9 => by cases hz9) (fun o1 hz9 => rm_14 x4 h28 o1  hz9) ?_
                      rcases am_cI_s hs12 with ⟨v30, h31, f32, hs13⟩ | hs13
                      · clear hs12
                        refine Or.inl ⟨_, _, f32, ?_⟩
                        show am_W X _ 99 185 _ [(.int v30)] h31 _
                        refine aw_iconst (v := 2) (pc1 := 186) at_99_185 (by decide) rfl ?_
                        by_cases c33 : ¬ v30 = 2
                        · rw [if_pos c33] at hs13
                          refine aw_icne_t at_99_186 c33 ?_
                          refine aw_iload (pc1 := 224) at_99_222 (am_lk2 (am_lk1 (am_lk2 (am_lk1 (am_lk1 l5 rfl rfl) rfl rfl) rfl rfl) rfl rfl) rfl rfl) rfl ?_
                          refine aw_iconst (v := 1) (pc1 := 225) at_99_224 (by decide) rfl ?_
                          refine aw_isub (v := (x5 - 1)) (pc1 := 226) at_99_225 rfl rfl ?_
                          refine aw_iload (pc1 := 228) at_99_226 (am_lk2 (am_lk1 (am_lk2 am_lk0 rfl rfl) rfl rfl) rfl rfl) rfl ?_
                          refine aw_isub (v := ((x5 - 1) - ((v9 - x2) - 1))) (pc1 := 229) at_99_228 rfl rfl ?_
                          refine aw_iload (pc1 := 231) at_99_229 (am_lk2 am_lk0 rfl rfl) rfl ?_
                          refine aw_isub (v := (((x5 - 1) - ((v9 - x2) - 1)) - (v23 - v9))) (pc1 := 232) at_99_231 rfl rfl ?_
                          refine aw_istore (lv1 := am_put1 _ 17 _) (pc1 := 234) at_99_232 rfl rfl ?_
                          refine aw_vload_n (pc1 := 235) at_99_234 (am_lk1 (am_lk2 (am_lk1 (am_lk2 (am_lk1 (am_lk1 l0 rfl rfl) rfl rfl) rfl rfl) rfl rfl) rfl rfl) rfl rfl) i0 rfl ?_
                          refine aw_iload (pc1 := 237) at_99_235 (am_lk1 (am_lk2 (am_lk1 (am_lk2 (am_lk1 (am_lk1 l7 rfl rfl) rfl rfl) rfl rfl) rfl rfl) rfl rfl) rfl rfl) rfl ?_
                          refine aw_iload (pc1 := 239) at_99_237 (am_lk1 (am_lk2 (am_lk1 (am_lk2 (am_lk1 am_lk0 rfl rfl) rfl rfl) rfl rfl) rfl rfl) rfl rfl) rfl ?_
                          refine aw_iload (pc1 := 241) at_99_239 (am_lk1 (am_lk2 am_lk0 rfl rfl) rfl rfl) rfl ?_
                          refine aw_iadd (v := (v9 + (v23 - v9))) (pc1 := 242) at_99_241 rfl rfl ?_
                          refine aw_iload_n (pc1 := 243) at_99_242 (am_lk1 (am_lk2 (am_lk1 (am_lk2 (am_lk1 (am_lk1 l3 rfl rfl) rfl rfl) rfl rfl) rfl rfl) rfl rfl) rfl rfl) rfl ?_
                          refine aw_iconst (v := 1) (pc1 := 244) at_99_243 (by decide) rfl ?_
                          refine aw_iadd (v := (x3 + 1)) (pc1 := 245) at_99_244 rfl rfl ?_
                          obtain ⟨z34, hs14⟩ := am_ift hs13
                          clear hs13
                          refine aw_call (F := rc_99 x0 x7 ((v9 + (v23 - v9))) ((x3 + 1)) h31) (t := true) (na := 4) (kd := 1) (as := [x0, (.int x7), (.int (v9 + (v23 - v9))), (.int (x3 + 1))]) at_99_245 (am_k3v kb_99) mn_99 mk_99 rfl rfl (am_ok_v mi_99 (am_hl rfl (am_ccR i0 (am_ccI (am_ccI (am_ccI am_cats_0)))) rfl) z34) (am_hc am_cats_0 rfl) (fun _ => ⟨rfl, hh_99⟩) (fun o1 hz9 => qc_99 x0 x7 ((v9 + (v23 - v9))) ((x3 + 1)) h31 o1 i0 hz9) ?_
                          rcases am_cL_s hs14 with ⟨v35, h36, f37, hs15⟩ | hs15
                          · clear hs14
                            refine Or.inl ⟨_, _, f37, ?_⟩
                            show am_W X _ 99 248 _ [(.long v35)] h36 _
                            refine aw_lstore (lv1 := am_put2 _ 18 _) (pc1 := 250) at_99_248 rfl rfl ?_
                            refine aw_lload (pc1 := 252) at_99_250 (am_lk2 (am_lk1 (am_lk2 (am_lk1 (am_lk2 (am_lk1 (am_lk1 l8 rfl rfl) rfl rfl) rfl rfl) rfl rfl) rfl rfl) rfl rfl) rfl rfl) rfl ?_
                            refine aw_vload_n (pc1 := 253) at_99_252 (am_lk2 (am_lk1 (am_lk2 (am_lk1 (am_lk2 (am_lk1 (am_lk1 l0 rfl rfl) rfl rfl) rfl rfl) rfl rfl) rfl rfl) rfl rfl) rfl rfl) i0 rfl ?_
                            refine aw_iload (pc1 := 255) at_99_253 (am_lk2 (am_lk1 (am_lk2 (am_lk1 (am_lk2 (am_lk1 (am_lk1 l6 rfl rfl) rfl rfl) rfl rfl) rfl rfl) rfl rfl) rfl rfl) rfl rfl) rfl ?_
                            refine aw_iload (pc1 := 257) at_99_255 (am_lk2 (am_lk1 (am_lk2 (am_lk1 (am_lk2 (am_lk1 (am_lk1 l7 rfl rfl) rfl rfl) rfl rfl) rfl rfl) rfl rfl) rfl rfl) rfl rfl) rfl ?_
                            refine aw_iload (pc1 := 259) at_99_257 (am_lk2 (am_lk1 (am_lk2 (am_lk1 (am_lk2 (am_lk1 (am_lk1 l5 rfl rfl) rfl rfl) rfl rfl) rfl rfl) rfl rfl) rfl rfl) rfl rfl) rfl ?_
                            refine aw_iconst (v := 1) (pc1 := 260) at_99_259 (by decide) rfl ?_
                            refine aw_isub (v := (x5 - 1)) (pc1 := 261) at_99_260 rfl rfl ?_
                            refine aw_iload (pc1 := 263) at_99_261 (am_lk2 (am_lk1 (am_lk2 (am_lk1 (am_lk2 am_lk0 rfl rfl) rfl rfl) rfl rfl) rfl rfl) rfl rfl) rfl ?_
                            refine aw_iload (pc1 := 265) at_99_263 (am_lk2 (am_lk1 (am_lk2 am_lk0 rfl rfl) rfl rfl) rfl rfl) rfl ?_
                            obtain ⟨z38, hs16⟩ := am_ift hs15
                            clear hs15
                            refine aw_call (F := fm_102 N x0 x6 x7 ((x5 - 1)) (((v9 - x2) - 1)) ((v23 - v9)) h36) (t := true) (na := 6) (kd := 1) (as := [x0, (.int x6), (.int x7), (.int (x5 - 1)), (.int ((v9 - x2) - 1)), (.int (v23 - v9))]) at_99_265 (am_k3v kb_102) mn_102 mk_102 rfl rfl (am_ok_v mi_102 (am_hl rfl (am_ccR i0 (am_ccI (am_ccI (am_ccI (am_ccI (am_ccI am_cats_0)))))) rfl) z38) (am_hc (am_ccL am_cats_0) rfl) (fun _ => ⟨rfl, hh_99⟩) (fun o1 hz9 => rm_102 x0 x6 x7 ((x5 - 1)) (((v9 - x2) - 1)) ((v23 - v9)) h36 o1 i0 hz9) ?_
                            rcases am_cL_s hs16 with ⟨v39, h40, f41, hs17⟩ | hs17
                            · clear hs16
                              refine Or.inl ⟨_, _, f41, ?_⟩
                              show am_W X _ 99 268 _ [(.long v39), (.long x8)] h40 _
                              refine aw_ladd (v := (x8 + v39)) (pc1 := 269) at_99_268 rfl rfl ?_
                              refine aw_lload (pc1 := 271) at_99_269 (am_lk2 (am_lk1 (am_lk2 (am_lk1 am_lk02 rfl rfl) rfl rfl) rfl rfl) rfl rfl) rfl ?_
                              refine aw_vload_n (pc1 := 272) at_99_271 (am_lk2 (am_lk1 (am_lk2 (am_lk1 (am_lk2 (am_lk1 (am_lk1 l0 rfl rfl) rfl rfl) rfl rfl) rfl rfl) rfl rfl) rfl rfl) rfl rfl) i0 rfl ?_
                              refine aw_iload (pc1 := 274) at_99_272 (am_lk2 (am_lk1 (am_lk2 (am_lk1 (am_lk2 (am_lk1 (am_lk1 l7 rfl rfl) rfl rfl) rfl rfl) rfl rfl) rfl rfl) rfl rfl) rfl rfl) rfl ?_
                              refine aw_iload (pc1 := 276) at_99_274 (am_lk2 (am_lk1 (am_lk2 am_lk0 rfl rfl) rfl rfl) rfl rfl) rfl ?_
                              obtain ⟨z42, hs18⟩ := am_ift hs17
                              clear hs17
                              refine aw_call (F := fm_15 x0 x7 ((v23 - v9)) h40) (t := true) (na := 3) (kd := 1) (as := [x0, (.int x7), (.int (v23 - v9))]) at_99_276 (am_k3v kb_15) mn_15 mk_15 rfl rfl (am_ok_v mi_15 (am_hl rfl (am_ccR i0 (am_ccI (am_ccI am_cats_0))) rfl) z42) (am_hc (am_ccL (am_ccL am_cats_0)) rfl) (fun _ => ⟨rfl, hh_99⟩) (fun o1 hz9 => rm_15 x0 x7 ((v23 - v9)) h40 o1 i0 hz9) ?_
                              rcases am_cL_s hs18 with ⟨v43, h44, f45, hs19⟩ | hs19
                              · clear hs18
                                refine Or.inl ⟨_, _, f45, ?_⟩
                                show am_W X _ 99 279 _ [(.long v43), (.long v13), (.long (x8 + v39))] h44 _
                                refine aw_lmul (v := (v13 * v43)) (pc1 := 280) at_99_279 rfl rfl ?_
                                refine aw_lload (pc1 := 282) at_99_280 (am_lk2 (am_lk1 am_lk02 rfl rfl) rfl rfl) rfl ?_
                                refine aw_ladd (v := ((v13 * v43) + v27)) (pc1 := 283) at_99_282 rfl rfl ?_
                                refine aw_vload_n (pc1 := 284) at_99_283 (am_lk2 (am_lk1 (am_lk2 (am_lk1 (am_lk2 (am_lk1 (am_lk1 l0 rfl rfl) rfl rfl) rfl rfl) rfl rfl) rfl rfl) rfl rfl) rfl rfl) i0 rfl ?_
                                refine aw_iload (pc1 := 286) at_99_284 (am_lk2 (am_lk1 (am_lk2 (am_lk1 (am_lk2 (am_lk1 (am_lk1 l7 rfl rfl) rfl rfl) rfl rfl) rfl rfl) rfl rfl) rfl rfl) rfl rfl) rfl ?_
                                refine aw_iload (pc1 := 288) at_99_286 (am_lk2 am_lk0 rfl rfl) rfl ?_
                                obtain ⟨z46, hs20⟩ := am_ift hs19
                                clear hs19
                                refine aw_call (F := fm_15 x0 x7 ((((x5 - 1) - ((v9 - x2) - 1)) - (v23 - v9))) h44) (t := true) (na := 3) (kd := 1) (as := [x0, (.int x7), (.int (((x5 - 1) - ((v9 - x2) - 1)) - (v23 - v9)))]) at_99_288 (am_k3v kb_15) mn_15 mk_15 rfl rfl (am_ok_v mi_15 (am_hl rfl (am_ccR i0 (am_ccI (am_ccI am_cats_0))) rfl) z46) (am_hc (am_ccL (am_ccL am_cats_0)) rfl) (fun _ => ⟨rfl, hh_99⟩) (fun o1 hz9 => rm_15 x0 x7 ((((x5 - 1) - ((v9 - x2) - 1)) - (v23 - v9))) h44 o1 i0 hz9) ?_
                                rcases am_cL_s hs20 with ⟨v47, h48, f49, hs21⟩ | hs21
                                · clear hs20
                                  refine Or.inl ⟨_, _, f49, ?_⟩
                                  show am_W X _ 99 291 _ [(.long v47), (.long ((v13 * v43) + v27)), (.long (x8 + v39))] h48 _
                                  refine aw_lmul (v := (((v13 * v43) + v27) * v47)) (pc1 := 292) at_99_291 rfl rfl ?_
                                  refine aw_ladd (v := ((x8 + v39) + (((v13 * v43) + v27) * v47))) (pc1 := 293) at_99_292 rfl rfl ?_
                                  refine aw_lload (pc1 := 295) at_99_293 am_lk02 rfl ?_
                                  refine aw_ladd (v := (((x8 + v39) + (((v13 * v43) + v27) * v47)) + v35)) (pc1 := 296) at_99_295 rfl rfl ?_
                                  cases hs21
                                  exact aw_lret at_99_296 rt_99 rfl
                                · clear hs20
                                  exact Or.inr hs21
                              · clear hs18
                                exact Or.inr hs19
                            · clear hs16
                              exact Or.inr hs17
                          · clear hs14
                            exact Or.inr hs15
                        · rw [if_neg c33] at hs13
                          refine aw_icne_f (pc1 := 189) at_99_186 c33 rfl ?_
                          refine aw_lload (pc1 := 191) at_99_189 (am_lk2 (am_lk1 (am_lk2 (am_lk1 (am_lk1 l8 rfl rfl) rfl rfl) rfl rfl) rfl rfl) rfl rfl) rfl ?_
                          refine aw_vload_n (pc1 := 192) at_99_191 (am_lk2 (am_lk1 (am_lk2 (am_lk1 (am_lk1 l0 rfl rfl) rfl rfl) rfl rfl) rfl rfl) rfl rfl) i0 rfl ?_
                          refine aw_iload (pc1 := 194) at_99_192 (am_lk2 (am_lk1 (am_lk2 (am_lk1 (am_lk1 l6 rfl rfl) rfl rfl) rfl rfl) rfl rfl) rfl rfl) rfl ?_
                          refine aw_iload (pc1 := 196) at_99_194 (am_lk2 (am_lk1 (am_lk2 (am_lk1 (am_lk1 l7 rfl rfl) rfl rfl) rfl rfl) rfl rfl) rfl rfl) rfl ?_
                          refine aw_iload (pc1 := 198) at_99_196 (am_lk2 (am_lk1 (am_lk2 (am_lk1 (am_lk1 l5 rfl rfl) rfl rfl) rfl rfl) rfl rfl) rfl rfl) rfl ?_
                          refine aw_iconst (v := 1) (pc1 := 199) at_99_198 (by decide) rfl ?_
                          refine aw_isub (v := (x5 - 1)) (pc1 := 200) at_99_199 rfl rfl ?_
                          refine aw_iload (pc1 := 202) at_99_200 (am_lk2 (am_lk1 (am_lk2 am_lk0 rfl rfl) rfl rfl) rfl rfl) rfl ?_
                          obtain ⟨z50, hs22⟩ := am_ift hs13
                          clear hs13
                          refine aw_call (F := fm_101 N x0 x6 x7 ((x5 - 1)) (((v9 - x2) - 1)) h31) (t := true) (na := 5) (kd := 1) (as := [x0, (.int x6), (.int x7), (.int (x5 - 1)), (.int ((v9 - x2) - 1))]) at_99_202 (am_k3v kb_101) mn_101 mk_101 rfl rfl (am_ok_v mi_101 (am_hl rfl (am_ccR i0 (am_ccI (am_ccI (am_ccI (am_ccI am_cats_0))))) rfl) z50) (am_hc (am_ccL am_cats_0) rfl) (fun _ => ⟨rfl, hh_99⟩) (fun o1 hz9 => rm_101 x0 x6 x7 ((x5 - 1)) (((v9 - x2) - 1)) h31 o1 i0 hz9) ?_
                          rcases am_cL_s hs22 with ⟨v51, h52, f53, hs23⟩ | hs23
                          · clear hs22
                            refine Or.inl ⟨_, _, f53, ?_⟩
                            show am_W X _ 99 205 _ [(.long v51), (.long x8)] h52 _
                            refine aw_ladd (v := (x8 + v51)) (pc1 := 206) at_99_205 rfl rfl ?_
                            refine aw_lload (pc1 := 208) at_99_206 (am_lk2 (am_lk1 am_lk02 rfl rfl) rfl rfl) rfl ?_
                            refine aw_vload_n (pc1 := 209) at_99_208 (am_lk2 (am_lk1 (am_lk2 (am_lk1 (am_lk1 l0 rfl rfl) rfl rfl) rfl rfl) rfl rfl) rfl rfl) i0 rfl ?_
                            refine aw_iload (pc1 := 211) at_99_209 (am_lk2 (am_lk1 (am_lk2 (am_lk1 (am_lk1 l7 rfl rfl) rfl rfl) rfl rfl) rfl rfl) rfl rfl) rfl ?_
                            refine aw_iload (pc1 := 213) at_99_211 (am_lk2 am_lk0 rfl rfl) rfl ?_
                            obtain ⟨z54, hs24⟩ := am_ift hs23
                            clear hs23
                            refine aw_call (F := fm_15 x0 x7 ((v23 - v9)) h52) (t := true) (na := 3) (kd := 1) (as := [x0, (.int x7), (.int (v23 - v9))]) at_99_213 (am_k3v kb_15) mn_15 mk_15 rfl rfl (am_ok_v mi_15 (am_hl rfl (am_ccR i0 (am_ccI (am_ccI am_cats_0))) rfl) z54) (am_hc (am_ccL (am_ccL am_cats_0)) rfl) (fun _ => ⟨rfl, hh_99⟩) (fun o1 hz9 => rm_15 x0 x7 ((v23 - v9)) h52 o1 i0 hz9) ?_
                            rcases am_cL_s hs24 with ⟨v55, h56, f57, hs25⟩ | hs25
                            · clear hs24
                              refine Or.inl ⟨_, _, f57, ?_⟩
                              show am_W X _ 99 216 _ [(.long v55), (.long v13), (.long (x8 + v51))] h56 _
                              refine aw_lmul (v := (v13 * v55)) (pc1 := 217) at_99_216 rfl rfl ?_
                              refine aw_ladd (v := ((x8 + v51) + (v13 * v55))) (pc1 := 218) at_99_217 rfl rfl ?_
                              refine aw_lload (pc1 := 220) at_99_218 am_lk02 rfl ?_
                              refine aw_ladd (v := (((x8 + v51) + (v13 * v55)) + v27)) (pc1 := 221) at_99_220 rfl rfl ?_
                              cases hs25
                              exact aw_lret at_99_221 rt_99 rfl
                            · clear hs24
                              exact Or.inr hs25
                          · clear hs22
                            exact Or.inr hs23
                      · clear hs12
                        exact Or.inr hs13
                    · clear hs11
                      exact Or.inr hs12
                  · clear hs9
                    exact Or.inr hs10
                · rw [if_neg c19] at hs7
                  refine aw_icne_f (pc1 := 147) at_99_144 c19 rfl ?_
                  refine aw_lload (pc1 := 149) at_99_147 (am_lk2 (am_lk1 (am_lk1 l8 rfl rfl) rfl rfl) rfl rfl) rfl ?_
                  refine aw_lload (pc1 := 151) at_99_149 am_lk02 rfl ?_
                  refine aw_ladd (v := (x8 + v13)) (pc1 := 152) at_99_151 rfl rfl ?_
                  cases hs7
                  exact aw_lret at_99_152 rt_99 rfl
              · clear hs6
                exact Or.inr hs7
            · clear hs5
              exact Or.inr hs6
          · clear hs3
            exact Or.inr hs4
        · rw [if_neg c5] at hs1
          refine aw_ifne_f (pc1 := 90) at_99_87 c5 rfl ?_
          refine aw_lload (pc1 := 92) at_99_90 l8 rfl ?_
          refine aw_vload_n (pc1 := 93) at_99_92 l0 i0 rfl ?_
          obtain ⟨v58, e59, hs26⟩ := am_bind hs1
          clear hs1
          refine aw_pG (pc1 := 96) at_99_93 (am_vR_s e59).1 rfl ?_
          refine aw_iload_n (pc1 := 97) at_99_96 l2 rfl ?_
          refine aw_iconst (v := 1) (pc1 := 98) at_99_97 (by decide) rfl ?_
          obtain ⟨z60, hs27⟩ := am_ift hs26
          clear hs26
          refine aw_call (F := fm_54 v58 x2 1 h3) (t := true) (na := 3) (kd := 1) (as := [v58, (.int x2), (.int 1)]) at_99_98 (am_k3v kb_54) mn_54 mk_54 rfl rfl (am_ok_v mi_54 (am_hl rfl (am_ccR (am_vR_s e59).2 (am_ccI (am_ccI am_cats_0))) rfl) z60) (am_hc (am_ccL am_cats_0) rfl) (fun _ => ⟨rfl, hh_99⟩) (fun o1 hz9 => rm_54 v58 x2 1 h3 o1 (am_vR_s e59).2 hz9) ?_
          rcases am_cI_s hs27 with ⟨v61, h62, f63, hs28⟩ | hs28
          · clear hs27
            refine Or.inl ⟨_, _, f63, ?_⟩
            show am_W X _ 99 101 _ [(.int v61), (.long x8)] h62 _
            refine aw_i2l (v := (Int32.toInt64 v61)) (pc1 := 102) at_99_101 rfl rfl ?_
            refine aw_ladd (v := (x8 + (Int32.toInt64 v61))) (pc1 := 103) at_99_102 rfl rfl ?_
            cases hs28
            exact aw_lret at_99_103 rt_99 rfl
          · clear hs27
            exact Or.inr hs28
      · clear hs
        exact Or.inr hs1
    · rw [if_neg c1] at hs
      refine aw_icge_f (pc1 := 62) at_99_59 c1 rfl ?_
      refine aw_lload (pc1 := 64) at_99_62 l8 rfl ?_
      refine aw_vload_n (pc1 := 65) at_99_64 l0 i0 rfl ?_
      refine aw_iload_n (pc1 := 66) at_99_65 l1 rfl ?_
      refine aw_iload (pc1 := 68) at_99_66 l10 rfl ?_
      refine aw_iload (pc1 := 70) at_99_68 l5 rfl ?_
      obtain ⟨z64, hs29⟩ := am_ift hs
      clear hs
      refine aw_call (F := fm_93 x0 x1 x10 x5 h) (t := true) (na := 4) (kd := 1) (as := [x0, (.int x1), (.int x10), (.int x5)]) at_99_70 (am_k3v kb_93) mn_93 mk_93 rfl rfl (am_ok_v mi_93 (am_hl rfl (am_ccR i0 (am_ccI (am_ccI (am_ccI am_cats_0)))) rfl) z64) (am_hc (am_ccL am_cats_0) rfl) (fun _ => ⟨rfl, hh_99⟩) (fun o1 hz9 => rm_93 x0 x1 x10 x5 h o1 i0 hz9) ?_
      rcases am_cL_s hs29 with ⟨v65, h66, f67, hs30⟩ | hs30
      · clear hs29
        refine Or.inl ⟨_, _, f67, ?_⟩
        show am_W X _ 99 73 _ [(.long v65), (.long x8)] h66 _
        refine aw_ladd (v := (x8 + v65)) (pc1 := 74) at_99_73 rfl rfl ?_
        refine aw_lstore (lv1 := am_put2 _ 8 _) (pc1 := 76) at_99_74 rfl rfl ?_
        refine aw_iinc (v := (x10 + 1)) (c := 1) (lv1 := am_put1 _ 10 _) (pc1 := 79) at_99_76 (am_lk2 l10 rfl rfl) (by decide) rfl rfl rfl ?_
        refine aw_goto at_99_79 ?_
        exact ih x0 x1 x2 x3 x4 x5 x6 x7 ((x8 + v65)) ((x10 + 1)) h66 o hs30 _ (am_lk1 (am_lk2 l0 rfl rfl) rfl rfl) (am_lk1 (am_lk2 l1 rfl rfl) rfl rfl) (am_lk1 (am_lk2 l2 rfl rfl) rfl rfl) (am_lk1 (am_lk2 l3 rfl rfl) rfl rfl) (am_lk1 (am_lk2 l4 rfl rfl) rfl rfl) (am_lk1 (am_lk2 l5 rfl rfl) rfl rfl) (am_lk1 (am_lk2 l6 rfl rfl) rfl rfl) (am_lk1 (am_lk2 l7 rfl rfl) rfl rfl) (am_lk1 am_lk02 rfl rfl) am_lk0 i0
      · clear hs29
        exact Or.inr hs30
def fg_99_0 (N : Nat) (rc_99 : Value → Int32 → Int32 → Int32 → am_H → Option am_O) (x0 : Value) (x1 : Int32) (x2 : Int32) (x3 : Int32) (h : am_H) : Option am_O := (if x3 ≤ 12 then ((am_vR (am_pG 1027 x0 h)).bind fun v2 => (if am_pOk 3 v2 h then am_cI true (fm_54 v2 x2 0 h) (fun v5 h6 => ((am_vR (am_pG 1026 x0 h6)).bind fun v8 => (if am_pOk 7 v8 h6 then am_cI true (fm_100 v8 x2 h6) (fun v11 h12 => am_cI false (fm_12 x1 v5 0 h12) (fun v14 h15 => am_cI false (fm_12 x1 v5 1 h15) (fun v17 h18 => (fg_99_55 N rc_99 N x0 x1 x2 x3 v5 ((v11 - x2)) v14 v17 0 0 h18)))) else none))) else none)) else some (.inl (some (.long 0), h)))
theorem rg_99_0 {X : am_X} {d : Nat} {N : Nat} {rc_99 : Value → Int32 → Int32 → Int32 → am_H → Option am_O} (qc_99 : ∀ (y0 : Value) (y1 : Int32) (y2 : Int32) (y3 : Int32) (h : am_H) (o : am_O), (am_isR y0 = true) → rc_99 y0 y1 y2 y3 h = some o → am_W X (d + 3) 99 0 (am_args 0 [y0, .int y1, .int y2, .int y3]) [] h (fun q => q = o)) {lv : am_LV} (x0 : Value) (x1 : Int32) (x2 : Int32) (x3 : Int32) (h : am_H) (o : am_O) (l0 : lv.lookup 0 = some x0) (l1 : lv.lookup 1 = some (.int x1)) (l2 : lv.lookup 2 = some (.int x2)) (l3 : lv.lookup 3 = some (.int x3)) (i0 : am_isR x0 = true) (hs : fg_99_0 N rc_99 x0 x1 x2 x3 h = some o) : am_W X (d + 4) 99 0 lv [] h (fun q => q = o) := by
  unfold fg_99_0 at hs
  refine aw_iload_n (pc1 := 1) at_99_0 l3 rfl ?_
  refine aw_bipush (v := 12) (pc1 := 3) at_99_1 (by decide) rfl ?_
  by_cases c1 : x3 ≤ 12
  · rw [if_pos c1] at hs
    refine aw_icle_t at_99_3 c1 ?_
    refine aw_vload_n (pc1 := 9) at_99_8 l0 i0 rfl ?_
    obtain ⟨v2, e3, hs1⟩ := am_bind hs
    clear hs
    refine aw_pG (pc1 := 12) at_99_9 (am_vR_s e3).1 rfl ?_
    refine aw_iload_n (pc1 := 13) at_99_12 l2 rfl ?_
    refine aw_iconst (v := 0) (pc1 := 14) at_99_13 (by decide) rfl ?_
    obtain ⟨z4, hs2⟩ := am_ift hs1
    clear hs1
    refine aw_call (F := fm_54 v2 x2 0 h) (t := true) (na := 3) (kd := 1) (as := [v2, (.int x2), (.int 0)]) at_99_14 (am_k3v kb_54) mn_54 mk_54 rfl rfl (am_ok_v mi_54 (am_hl rfl (am_ccR (am_vR_s e3).2 (am_ccI (am_ccI am_cats_0))) rfl) z4) (am_hc am_cats_0 rfl) (fun _ => ⟨rfl, hh_99⟩) (fun o1 hz9 => rm_54 v2 x2 0 h o1 (am_vR_s e3).2 hz9) ?_
    rcases am_cI_s hs2 with ⟨v5, h6, f7, hs3⟩ | hs3
    · clear hs2
      refine Or.inl ⟨_, _, f7, ?_⟩
      show am_W X _ 99 17 _ [(.int v5)] h6 _
      refine aw_istore (lv1 := am_put1 _ 4 _) (pc1 := 19) at_99_17 rfl rfl ?_
      refine aw_vload_n (pc1 := 20) at_99_19 (am_lk1 l0 rfl rfl) i0 rfl ?_
      obtain ⟨v8, e9, hs4⟩ := am_bind hs3
      clear hs3
      refine aw_pG (pc1 := 23) at_99_20 (am_vR_s e9).1 rfl ?_
      refine aw_iload_n (pc1 := 24) at_99_23 (am_lk1 l2 rfl rfl) rfl ?_
      obtain ⟨z10, hs5⟩ := am_ift hs4
      clear hs4
      refine aw_call (F := fm_100 v8 x2 h6) (t := true) (na := 2) (kd := 1) (as := [v8, (.int x2)]) at_99_24 (am_k3v kb_100) mn_100 mk_100 rfl rfl (am_ok_v mi_100 (am_hl rfl (am_ccR (am_vR_s e9).2 (am_ccI am_cats_0)) rfl) z10) (am_hc am_cats_0 rfl) (fun _ => ⟨rfl, hh_99⟩) (fun o1 hz9 => rm_100 v8 x2 h6 o1 (am_vR_s e9).2 hz9) ?_
      rcases am_cI_s hs5 with ⟨v11, h12, f13, hs6⟩ | hs6
      · clear hs5
        refine Or.inl ⟨_, _, f13, ?_⟩
        show am_W X _ 99 27 _ [(.int v11)] h12 _
        refine aw_iload_n (pc1 := 28) at_99_27 (am_lk1 l2 rfl rfl) rfl ?_
        refine aw_isub (v := (v11 - x2)) (pc1 := 29) at_99_28 rfl rfl ?_
        refine aw_istore (lv1 := am_put1 _ 5 _) (pc1 := 31) at_99_29 rfl rfl ?_
        refine aw_iload_n (pc1 := 32) at_99_31 (am_lk1 (am_lk1 l1 rfl rfl) rfl rfl) rfl ?_
        refine aw_iload (pc1 := 34) at_99_32 (am_lk1 am_lk0 rfl rfl) rfl ?_
        refine aw_iconst (v := 0) (pc1 := 35) at_99_34 (by decide) rfl ?_
        refine aw_call (F := fm_12 x1 v5 0 h12) (t := false) (na := 3) (kd := 0) (as := [(.int x1), (.int v5), (.int 0)]) at_99_35 (am_k3s kb_12) mn_12 mk_12 rfl rfl (am_ok_s mi_12 (am_hl rfl (am_ccI (am_ccI (am_ccI am_cats_0))) rfl)) (am_hc am_cats_0 rfl) (fun hz9 => by cases hz9) (fun o1 hz9 => rm_12 x1 v5 0 h12 o1  hz9) ?_
        rcases am_cI_s hs6 with ⟨v14, h15, f16, hs7⟩ | hs7
        · clear hs6
          refine Or.inl ⟨_, _, f16, ?_⟩
          show am_W X _ 99 38 _ [(.int v14)] h15 _
          refine aw_istore (lv1 := am_put1 _ 6 _) (pc1 := 40) at_99_38 rfl rfl ?_
          refine aw_iload_n (pc1 := 41) at_99_40 (am_lk1 (am_lk1 (am_lk1 l1 rfl rfl) rfl rfl) rfl rfl) rfl ?_
          refine aw_iload (pc1 := 43) at_99_41 (am_lk1 (am_lk1 am_lk0 rfl rfl) rfl rfl) rfl ?_
          refine aw_iconst (v := 1) (pc1 := 44) at_99_43 (by decide) rfl ?_
          refine aw_call (F := fm_12 x1 v5 1 h15) (t := false) (na := 3) (kd := 0) (as := [(.int x1), (.int v5), (.int 1)]) at_99_44 (am_k3s kb_12) mn_12 mk_12 rfl rfl (am_ok_s mi_12 (am_hl rfl (am_ccI (am_ccI (am_ccI am_cats_0))) rfl)) (am_hc am_cats_0 rfl) (fun hz9 => by cases hz9) (fun o1 hz9 => rm_12 x1 v5 1 h15 o1  hz9) ?_
          rcases am_cI_s hs7 with ⟨v17, h18, f19, hs8⟩ | hs8
          · clear hs7
            refine Or.inl ⟨_, _, f19, ?_⟩
            show am_W X _ 99 47 _ [(.int v17)] h18 _
            refine aw_istore (lv1 := am_put1 _ 7 _) (pc1 := 49) at_99_47 rfl rfl ?_
            refine aw_lconst (v := 0) (pc1 := 50) at_99_49 (by decide) rfl ?_
            refine aw_lstore (lv1 := am_put2 _ 8 _) (pc1 := 52) at_99_50 rfl rfl ?_
            refine aw_iconst (v := 0) (pc1 := 53) at_99_52 (by decide) rfl ?_
            refine aw_istore (lv1 := am_put1 _ 10 _) (pc1 := 55) at_99_53 rfl rfl ?_
            exact rg_99_55 qc_99 N x0 x1 x2 x3 v5 ((v11 - x2)) v14 v17 0 0 h18 o hs8 _ (am_lk1 (am_lk2 (am_lk1 (am_lk1 (am_lk1 (am_lk1 l0 rfl rfl) rfl rfl) rfl rfl) rfl rfl) rfl rfl) rfl rfl) (am_lk1 (am_lk2 (am_lk1 (am_lk1 (am_lk1 (am_lk1 l1 rfl rfl) rfl rfl) rfl rfl) rfl rfl) rfl rfl) rfl rfl) (am_lk1 (am_lk2 (am_lk1 (am_lk1 (am_lk1 (am_lk1 l2 rfl rfl) rfl rfl) rfl rfl) rfl rfl) rfl rfl) rfl rfl) (am_lk1 (am_lk2 (am_lk1 (am_lk1 (am_lk1 (am_lk1 l3 rfl rfl) rfl rfl) rfl rfl) rfl rfl) rfl rfl) rfl rfl) (am_lk1 (am_lk2 (am_lk1 (am_lk1 (am_lk1 am_lk0 rfl rfl) rfl rfl) rfl rfl) rfl rfl) rfl rfl) (am_lk1 (am_lk2 (am_lk1 (am_lk1 am_lk0 rfl rfl) rfl rfl) rfl rfl) rfl rfl) (am_lk1 (am_lk2 (am_lk1 am_lk0 rfl rfl) rfl rfl) rfl rfl) (am_lk1 (am_lk2 am_lk0 rfl rfl) rfl rfl) (am_lk1 am_lk02 rfl rfl) am_lk0 i0
          · clear hs7
            exact Or.inr hs8
        · clear hs6
          exact Or.inr hs7
      · clear hs5
        exact Or.inr hs6
    · clear hs2
      exact Or.inr hs3
  · rw [if_neg c1] at hs
    refine aw_icle_f (pc1 := 6) at_99_3 c1 rfl ?_
    refine aw_lconst (v := 0) (pc1 := 7) at_99_6 (by decide) rfl ?_
    cases hs
    exact aw_lret at_99_7 rt_99 rfl
def fo_99 (N : Nat) (rc_99 : Value → Int32 → Int32 → Int32 → am_H → Option am_O) (y0 : Value) (y1 : Int32) (y2 : Int32) (y3 : Int32) (h : am_H) : Option am_O := fg_99_0 N rc_99 y0 y1 y2 y3 h
theorem ro_99 {X : am_X} {d : Nat} {N : Nat} {rc_99 : Value → Int32 → Int32 → Int32 → am_H → Option am_O} (qc_99 : ∀ (y0 : Value) (y1 : Int32) (y2 : Int32) (y3 : Int32) (h : am_H) (o : am_O), (am_isR y0 = true) → rc_99 y0 y1 y2 y3 h = some o → am_W X (d + 3) 99 0 (am_args 0 [y0, .int y1, .int y2, .int y3]) [] h (fun q => q = o)) (y0 : Value) (y1 : Int32) (y2 : Int32) (y3 : Int32) (h : am_H) (o : am_O) (i0 : am_isR y0 = true) (hs : fo_99 N rc_99 y0 y1 y2 y3 h = some o) : am_W X (d + 4) 99 0 (am_args 0 [y0, .int y1, .int y2, .int y3]) [] h (fun q => q = o) := by
  rw [am_args_R i0, am_args_I, am_args_I, am_args_I]
  exact rg_99_0 qc_99 y0 y1 y2 y3 h o rfl rfl rfl rfl i0 hs
def gr_99 (N : Nat) : Nat → Nat → List Value → am_H → Option am_O
  | 0 => fun _ _ _ => none
  | K + 1 => fun w as h => match w, as with
    | 99, [y0, .int y1, .int y2, .int y3] => fo_99 N (fun y0 y1 y2 y3 h => gr_99 N K 99 [y0, .int y1, .int y2, .int y3] h) y0 y1 y2 y3 h
    | _, _ => none
theorem gs_99 {X : am_X} {d N : Nat} : ∀ K : Nat, (∀ (y0 : Value) (y1 : Int32) (y2 : Int32) (y3 : Int32) (h : am_H) (o : am_O), (am_isR y0 = true) → gr_99 N K 99 [y0, .int y1, .int y2, .int y3] h = some o → am_W X (d + 4 * K) 99 0 (am_args 0 [y0, .int y1, .int y2, .int y3]) [] h (fun q => q = o)) := by
  intro K
  induction K with
  | zero => exact fun _ _ _ _ h o _ hs => (by cases hs)
  | succ K ih =>
    have q99 := ih
    have up : d + 4 * K ≤ d + 4 * K + 3 := Nat.le_add_right _ _
    have eD : d + 4 * (K + 1) = d + 4 * K + 4 := by rw [Nat.mul_succ, Nat.add_assoc]
    rw [eD]
    skip
    · intro y0 y1 y2 y3 h o i0 hs
      exact ro_99 (fun w0 w1 w2 w3 h o k0 hs => (q99 w0 w1 w2 w3 h o k0 hs).up up) y0 y1 y2 y3 h o i0 hs
def fm_99 (N : Nat) (y0 : Value) (y1 : Int32) (y2 : Int32) (y3 : Int32) (h : am_H) : Option am_O := gr_99 N 40 99 [y0, .int y1, .int y2, .int y3] h
theorem rm_99 {X : am_X} {d : Nat} {N : Nat} (y0 : Value) (y1 : Int32) (y2 : Int32) (y3 : Int32) (h : am_H) (o : am_O) (i0 : am_isR y0 = true) (hs : fm_99 N y0 y1 y2 y3 h = some o) : am_W X (d + 160) 99 0 (am_args 0 [y0, .int y1, .int y2, .int y3]) [] h (fun q => q = o) := (gs_99 (X := X) (d := d) (N := N) 40) y0 y1 y2 y3 h o i0 hs
def fg_98_43 (N : Nat) (rec_2 : Value → Value → Int32 → am_H → Option am_O) (x0 : Value) (x1 : Value) (x2 : Int32) (h : am_H) : Option am_O := (rec_2 x0 x1 ((x2 + 1)) h)
theorem rg_98_43 {X : am_X} {d : Nat} {N : Nat} {rec_2 : Value → Value → Int32 → am_H → Option am_O} (q_2 : ∀ (x0 : Value) (x1 : Value) (x2 : Int32) (h : am_H) (o : am_O), rec_2 x0 x1 x2 h = some o → ∀ lv : am_LV, (lv.lookup 0 = some x0) → (lv.lookup 1 = some x1) → (lv.lookup 2 = some (.int x2)) → (am_isR x0 = true) → (am_isR x1 = true) → am_W X (d + 161) 98 2 lv [] h (fun q => q = o)) {lv : am_LV} (x0 : Value) (x1 : Value) (x2 : Int32) (h : am_H) (o : am_O) (l0 : lv.lookup 0 = some x0) (l1 : lv.lookup 1 = some x1) (l2 : lv.lookup 2 = some (.int x2)) (i0 : am_isR x0 = true) (i1 : am_isR x1 = true) (hs : fg_98_43 N rec_2 x0 x1 x2 h = some o) : am_W X (d + 161) 98 43 lv [] h (fun q => q = o) := by
  unfold fg_98_43 at hs
  refine aw_iinc (v := (x2 + 1)) (c := 1) (lv1 := am_put1 _ 2 _) (pc1 := 46) at_98_43 l2 (by decide) rfl rfl rfl ?_
  refine aw_goto at_98_46 ?_
  exact q_2 x0 x1 ((x2 + 1)) h o hs _ (am_lk1 l0 rfl rfl) (am_lk1 l1 rfl (by rw [am_isRc i1]; rfl)) am_lk0 i0 i1
def fg_98_39 (N : Nat) (h : am_H) : Option am_O := some (.inl (some (.long (-1)), h))
theorem rg_98_39 {X : am_X} {d : Nat} {N : Nat} {lv : am_LV} (h : am_H) (o : am_O) (hs : fg_98_39 N h = some o) : am_W X (d + 161) 98 39 lv [] h (fun q => q = o) := by
  unfold fg_98_39 at hs
  refine aw_ldc2 (v := (-1)) (pc1 := 42) at_98_39 rfl rfl ?_
  cases hs
  exact aw_lret at_98_42 rt_98 rfl
def fg_98_2 (N : Nat) : Nat → Value → Value → Int32 → am_H → Option am_O
  | 0 => fun _ _ _ _ => none
  | K + 1 => fun x0 x1 x2 h => ((am_vI (am_pG 771 x1 h)).bind fun v1 => (if v1 ≤ x2 then ((am_pP 1027 x0 x1 h).bind fun h4 => ((am_vR (am_pG 1026 x0 h4)).bind fun v6 => (if am_pOk 7 v6 h4 then am_cV true (fm_77 N v6 x1 h4) (fun h10 => (if am_pOk 4 x0 h10 then am_cL true (fm_99 N x0 0 0 1 h10) (fun v13 h14 => some (.inl (some (.long v13), h14))) else none)) else none))) else (if am_pOk 3 x1 h then am_cI true (fm_54 x1 x2 0 h) (fun v17 h18 => (if ¬ v17 = 0 then (fg_98_43 N (fg_98_2 N K) x0 x1 x2 h18) else (if am_pOk 3 x1 h18 then am_cI true (fm_54 x1 x2 1 h18) (fun v22 h23 => (if v22 < 0 then (fg_98_39 N h23) else (if am_pOk 3 x1 h23 then am_cI true (fm_54 x1 x2 1 h23) (fun v27 h28 => (if v27 ≤ 9 then (fg_98_43 N (fg_98_2 N K) x0 x1 x2 h28) else (fg_98_39 N h28))) else none))) else none))) else none)))
theorem rg_98_2 {X : am_X} {d : Nat} {N : Nat} : ∀ (K : Nat) (x0 : Value) (x1 : Value) (x2 : Int32) (h : am_H) (o : am_O), fg_98_2 N K x0 x1 x2 h = some o → ∀ lv : am_LV, (lv.lookup 0 = some x0) → (lv.lookup 1 = some x1) → (lv.lookup 2 = some (.int x2)) → (am_isR x0 = true) → (am_isR x1 = true) → am_W X (d + 161) 98 2 lv [] h (fun q => q = o) := by
  intro K
  induction K with
  | zero => intro x0 x1 x2 h o hs; cases hs
  | succ K ih =>
    intro x0 x1 x2 h o hs lv l0 l1 l2 i0 i1
    unfold fg_98_2 at hs
    refine aw_iload_n (pc1 := 3) at_98_2 l2 rfl ?_
    refine aw_vload_n (pc1 := 4) at_98_3 l1 i1 rfl ?_
    obtain ⟨v1, e2, hs1⟩ := am_bind hs
    clear hs
    refine aw_pG (pc1 := 7) at_98_4 (am_vI_s e2) rfl ?_
    by_cases c3 : v1 ≤ x2
    · rw [if_pos c3] at hs1
      refine aw_icge_t at_98_7 c3 ?_
      refine aw_vload_n (pc1 := 50) at_98_49 l0 i0 rfl ?_
      refine aw_vload_n (pc1 := 51) at_98_50 l1 i1 rfl ?_
      obtain ⟨h4, e5, hs2⟩ := am_bind hs1
      clear hs1
      refine aw_pP (pc1 := 54) at_98_51 e5 rfl ?_
      refine aw_vload_n (pc1 := 55) at_98_54 l0 i0 rfl ?_
      obtain ⟨v6, e7, hs3⟩ := am_bind hs2
      clear hs2
      refine aw_pG (pc1 := 58) at_98_55 (am_vR_s e7).1 rfl ?_
      refine aw_vload_n (pc1 := 59) at_98_58 l1 i1 rfl ?_
      obtain ⟨z8, hs4⟩ := am_ift hs3
      clear hs3
      refine aw_call (F := fm_77 N v6 x1 h4) (t := true) (na := 2) (kd := 1) (as := [v6, x1]) at_98_59 (am_k3v kb_77) mn_77 mk_77 rfl rfl (am_ok_v mi_77 (am_hl rfl (am_ccR (am_vR_s e7).2 (am_ccR i1 am_cats_0)) rfl) z8) (am_hc am_cats_0 rfl) (fun _ => ⟨rfl, hh_98⟩) (fun o1 hz9 => rm_77 v6 x1 h4 o1 (am_vR_s e7).2 i1 hz9) ?_
      rcases am_cV_s hs4 with ⟨h10, f11, hs5⟩ | hs5
      · clear hs4
        refine Or.inl ⟨_, _, f11, ?_⟩
        show am_W X _ 98 62 _ [] h10 _
        refine aw_vload_n (pc1 := 63) at_98_62 l0 i0 rfl ?_
        refine aw_iconst (v := 0) (pc1 := 64) at_98_63 (by decide) rfl ?_
        refine aw_iconst (v := 0) (pc1 := 65) at_98_64 (by decide) rfl ?_
        refine aw_iconst (v := 1) (pc1 := 66) at_98_65 (by decide) rfl ?_
        obtain ⟨z12, hs6⟩ := am_ift hs5
        clear hs5
        refine aw_call (F := fm_99 N x0 0 0 1 h10) (t := true) (na := 4) (kd := 1) (as := [x0, (.int 0), (.int 0), (.int 1)]) at_98_66 (am_k3v kb_99) mn_99 mk_99 rfl rfl (am_ok_v mi_99 (am_hl rfl (am_ccR i0 (am_ccI (am_ccI (am_ccI am_cats_0)))) rfl) z12) (am_hc am_cats_0 rfl) (fun _ => ⟨rfl, hh_98⟩) (fun o1 hz9 => rm_99 x0 0 0 1 h10 o1 i0 hz9) ?_
        rcases am_cL_s hs6 with ⟨v13, h14, f15, hs7⟩ | hs7
        · clear hs6
          refine Or.inl ⟨_, _, f15, ?_⟩
          show am_W X _ 98 69 _ [(.long v13)] h14 _
          cases hs7
          exact aw_lret at_98_69 rt_98 rfl
        · clear hs6
          exact Or.inr hs7
      · clear hs4
        exact Or.inr hs5
    · rw [if_neg c3] at hs1
      refine aw_icge_f (pc1 := 10) at_98_7 c3 rfl ?_
      refine aw_vload_n (pc1 := 11) at_98_10 l1 i1 rfl ?_
      refine aw_iload_n (pc1 := 12) at_98_11 l2 rfl ?_
      refine aw_iconst (v := 0) (pc1 := 13) at_98_12 (by decide) rfl ?_
      obtain ⟨z16, hs8⟩ := am_ift hs1
      clear hs1
      refine aw_call (F := fm_54 x1 x2 0 h) (t := true) (na := 3) (kd := 1) (as := [x1, (.int x2), (.int 0)]) at_98_13 (am_k3v kb_54) mn_54 mk_54 rfl rfl (am_ok_v mi_54 (am_hl rfl (am_ccR i1 (am_ccI (am_ccI am_cats_0))) rfl) z16) (am_hc am_cats_0 rfl) (fun _ => ⟨rfl, hh_98⟩) (fun o1 hz9 => rm_54 x1 x2 0 h o1 i1 hz9) ?_
      rcases am_cI_s hs8 with ⟨v17, h18, f19, hs9⟩ | hs9
      · clear hs8
        refine Or.inl ⟨_, _, f19, ?_⟩
        show am_W X _ 98 16 _ [(.int v17)] h18 _
        by_cases c20 : ¬ v17 = 0
        · rw [if_pos c20] at hs9
          refine aw_ifne_t at_98_16 c20 ?_
          exact rg_98_43 (fun z0 z1 z2 h o hs9 => ih z0 z1 z2 h o hs9) x0 x1 x2 h18 o l0 l1 l2 i0 i1 hs9
        · rw [if_neg c20] at hs9
          refine aw_ifne_f (pc1 := 19) at_98_16 c20 rfl ?_
          refine aw_vload_n (pc1 := 20) at_98_19 l1 i1 rfl ?_
          refine aw_iload_n (pc1 := 21) at_98_20 l2 rfl ?_
          refine aw_iconst (v := 1) (pc1 := 22) at_98_21 (by decide) rfl ?_
          obtain ⟨z21, hs10⟩ := am_ift hs9
          clear hs9
          refine aw_call (F := fm_54 x1 x2 1 h18) (t := true) (na := 3) (kd := 1) (as := [x1, (.int x2), (.int 1)]) at_98_22 (am_k3v kb_54) mn_54 mk_54 rfl rfl (am_ok_v mi_54 (am_hl rfl (am_ccR i1 (am_ccI (am_ccI am_cats_0))) rfl) z21) (am_hc am_cats_0 rfl) (fun _ => ⟨rfl, hh_98⟩) (fun o1 hz9 => rm_54 x1 x2 1 h18 o1 i1 hz9) ?_
          rcases am_cI_s hs10 with ⟨v22, h23, f24, hs11⟩ | hs11
          · clear hs10
            refine Or.inl ⟨_, _, f24, ?_⟩
            show am_W X _ 98 25 _ [(.int v22)] h23 _
            by_cases c25 : v22 < 0
            · rw [if_pos c25] at hs11
              refine aw_iflt_t at_98_25 c25 ?_
              exact rg_98_39 h23 o   hs11
            · rw [if_neg c25] at hs11
              refine aw_iflt_f (pc1 := 28) at_98_25 c25 rfl ?_
              refine aw_vload_n (pc1 := 29) at_98_28 l1 i1 rfl ?_
              refine aw_iload_n (pc1 := 30) at_98_29 l2 rfl ?_
              refine aw_iconst (v := 1) (pc1 := 31) at_98_30 (by decide) rfl ?_
              obtain ⟨z26, hs12⟩ := am_ift hs11
              clear hs11
              refine aw_call (F := fm_54 x1 x2 1 h23) (t := true) (na := 3) (kd := 1) (as := [x1, (.int x2), (.int 1)]) at_98_31 (am_k3v kb_54) mn_54 mk_54 rfl rfl (am_ok_v mi_54 (am_hl rfl (am_ccR i1 (am_ccI (am_ccI am_cats_0))) rfl) z26) (am_hc am_cats_0 rfl) (fun _ => ⟨rfl, hh_98⟩) (fun o1 hz9 => rm_54 x1 x2 1 h23 o1 i1 hz9) ?_
              rcases am_cI_s hs12 with ⟨v27, h28, f29, hs13⟩ | hs13
              · clear hs12
                refine Or.inl ⟨_, _, f29, ?_⟩
                show am_W X _ 98 34 _ [(.int v27)] h28 _
                refine aw_bipush (v := 9) (pc1 := 36) at_98_34 (by decide) rfl ?_
                by_cases c30 : v27 ≤ 9
                · rw [if_pos c30] at hs13
                  refine aw_icle_t at_98_36 c30 ?_
                  exact rg_98_43 (fun z0 z1 z2 h o hs13 => ih z0 z1 z2 h o hs13) x0 x1 x2 h28 o l0 l1 l2 i0 i1 hs13
                · rw [if_neg c30] at hs13
                  refine aw_icle_f (pc1 := 39) at_98_36 c30 rfl ?_
                  exact rg_98_39 h28 o   hs13
              · clear hs12
                exact Or.inr hs13
          · clear hs10
            exact Or.inr hs11
      · clear hs8
        exact Or.inr hs9
def fg_98_0 (N : Nat) (x0 : Value) (x1 : Value) (h : am_H) : Option am_O := (fg_98_2 N N x0 x1 0 h)
theorem rg_98_0 {X : am_X} {d : Nat} {N : Nat} {lv : am_LV} (x0 : Value) (x1 : Value) (h : am_H) (o : am_O) (l0 : lv.lookup 0 = some x0) (l1 : lv.lookup 1 = some x1) (i0 : am_isR x0 = true) (i1 : am_isR x1 = true) (hs : fg_98_0 N x0 x1 h = some o) : am_W X (d + 161) 98 0 lv [] h (fun q => q = o) := by
  unfold fg_98_0 at hs
  refine aw_iconst (v := 0) (pc1 := 1) at_98_0 (by decide) rfl ?_
  refine aw_istore_n (lv1 := am_put1 _ 2 _) (pc1 := 2) at_98_1 rfl rfl ?_
  exact rg_98_2 N x0 x1 0 h o hs _ (am_lk1 l0 rfl rfl) (am_lk1 l1 rfl (by rw [am_isRc i1]; rfl)) am_lk0 i0 i1
def fm_98 (N : Nat) (y0 : Value) (y1 : Value) (h : am_H) : Option am_O := fg_98_0 N y0 y1 h
theorem rm_98 {X : am_X} {d : Nat} {N : Nat} (y0 : Value) (y1 : Value) (h : am_H) (o : am_O) (i0 : am_isR y0 = true) (i1 : am_isR y1 = true) (hs : fm_98 N y0 y1 h = some o) : am_W X (d + 161) 98 0 (am_args 0 [y0, y1]) [] h (fun q => q = o) := by
  rw [am_args_R i0, am_args_R i1]
  exact rg_98_0 y0 y1 h o rfl rfl i0 i1 hs
def fg_97_22 (N : Nat) (h : am_H) : Option am_O := some (.inr (0, h ++ [am_dummy]))
theorem rg_97_22 {X : am_X} {d : Nat} {N : Nat} {lv : am_LV} (h : am_H) (o : am_O) (hs : fg_97_22 N h = some o) : am_W X (d + 162) 97 22 lv [] h (fun q => q = o) := by
  unfold fg_97_22 at hs
  cases hs
  exact aw_throw at_97_22 rfl th_97_22 (am_hc am_cats_0 rfl) rfl
def fg_97_0 (N : Nat) (x0 : Value) (x1 : Int32) (h : am_H) : Option am_O := (if am_pOk 11 x0 h then am_cR true (fm_63 x0 x1 h) (fun v2 h3 => ((am_vI (am_pG 769 v2 h3)).bind fun v5 => (if ¬ v5 = 0 then (fg_97_22 N h3) else ((am_vI (am_pG 771 v2 h3)).bind fun v8 => (if v8 ≤ 12 then ((am_vR (am_pG 2822 x0 h3)).bind fun v11 => (if am_pOk 4 v11 h3 then am_cL true (fm_98 N v11 v2 h3) (fun v14 h15 => some (.inl (some (.long v14), h15))) else none)) else (fg_97_22 N h3)))))) else none)
theorem rg_97_0 {X : am_X} {d : Nat} {N : Nat} {lv : am_LV} (x0 : Value) (x1 : Int32) (h : am_H) (o : am_O) (l0 : lv.lookup 0 = some x0) (l1 : lv.lookup 1 = some (.int x1)) (i0 : am_isR x0 = true) (hs : fg_97_0 N x0 x1 h = some o) : am_W X (d + 162) 97 0 lv [] h (fun q => q = o) := by
  unfold fg_97_0 at hs
  refine aw_vload_n (pc1 := 1) at_97_0 l0 i0 rfl ?_
  refine aw_iload_n (pc1 := 2) at_97_1 l1 rfl ?_
  obtain ⟨z1, hs1⟩ := am_ift hs
  clear hs
  refine aw_call (F := fm_63 x0 x1 h) (t := true) (na := 2) (kd := 1) (as := [x0, (.int x1)]) at_97_2 (am_k3v kb_63) mn_63 mk_63 rfl rfl (am_ok_v mi_63 (am_hl rfl (am_ccR i0 (am_ccI am_cats_0)) rfl) z1) (am_hc am_cats_0 rfl) (fun _ => ⟨rfl, hh_97⟩) (fun o1 hz9 => rm_63 x0 x1 h o1 i0 hz9) ?_
  rcases am_cR_s hs1 with ⟨v2, h3, f4, iv2, hs2⟩ | hs2
  · clear hs1
    refine Or.inl ⟨_, _, f4, ?_⟩
    show am_W X _ 97 5 _ [v2] h3 _
    refine aw_vstore_n (lv1 := am_put1 _ 2 _) (pc1 := 6) at_97_5 iv2 rfl rfl ?_
    refine aw_vload_n (pc1 := 7) at_97_6 am_lk0 iv2 rfl ?_
    obtain ⟨v5, e6, hs3⟩ := am_bind hs2
    clear hs2
    refine aw_pG (pc1 := 10) at_97_7 (am_vI_s e6) rfl ?_
    by_cases c7 : ¬ v5 = 0
    · rw [if_pos c7] at hs3
      refine aw_ifne_t at_97_10 c7 ?_
      exact rg_97_22 h3 o   hs3
    · rw [if_neg c7] at hs3
      refine aw_ifne_f (pc1 := 13) at_97_10 c7 rfl ?_
      refine aw_vload_n (pc1 := 14) at_97_13 am_lk0 iv2 rfl ?_
      obtain ⟨v8, e9, hs4⟩ := am_bind hs3
      clear hs3
      refine aw_pG (pc1 := 17) at_97_14 (am_vI_s e9) rfl ?_
      refine aw_bipush (v := 12) (pc1 := 19) at_97_17 (by decide) rfl ?_
      by_cases c10 : v8 ≤ 12
      · rw [if_pos c10] at hs4
        refine aw_icle_t at_97_19 c10 ?_
        refine aw_vload_n (pc1 := 33) at_97_32 (am_lk1 l0 rfl rfl) i0 rfl ?_
        obtain ⟨v11, e12, hs5⟩ := am_bind hs4
        clear hs4
        refine aw_pG (pc1 := 36) at_97_33 (am_vR_s e12).1 rfl ?_
        refine aw_vload_n (pc1 := 37) at_97_36 am_lk0 iv2 rfl ?_
        obtain ⟨z13, hs6⟩ := am_ift hs5
        clear hs5
        refine aw_call (F := fm_98 N v11 v2 h3) (t := true) (na := 2) (kd := 1) (as := [v11, v2]) at_97_37 (am_k3v kb_98) mn_98 mk_98 rfl rfl (am_ok_v mi_98 (am_hl rfl (am_ccR (am_vR_s e12).2 (am_ccR iv2 am_cats_0)) rfl) z13) (am_hc am_cats_0 rfl) (fun _ => ⟨rfl, hh_97⟩) (fun o1 hz9 => rm_98 v11 v2 h3 o1 (am_vR_s e12).2 iv2 hz9) ?_
        rcases am_cL_s hs6 with ⟨v14, h15, f16, hs7⟩ | hs7
        · clear hs6
          refine Or.inl ⟨_, _, f16, ?_⟩
          show am_W X _ 97 40 _ [(.long v14)] h15 _
          cases hs7
          exact aw_lret at_97_40 rt_97 rfl
        · clear hs6
          exact Or.inr hs7
      · rw [if_neg c10] at hs4
        refine aw_icle_f (pc1 := 22) at_97_19 c10 rfl ?_
        exact rg_97_22 h3 o   hs4
  · clear hs1
    exact Or.inr hs2
def fm_97 (N : Nat) (y0 : Value) (y1 : Int32) (h : am_H) : Option am_O := fg_97_0 N y0 y1 h
theorem rm_97 {X : am_X} {d : Nat} {N : Nat} (y0 : Value) (y1 : Int32) (h : am_H) (o : am_O) (i0 : am_isR y0 = true) (hs : fm_97 N y0 y1 h = some o) : am_W X (d + 162) 97 0 (am_args 0 [y0, .int y1]) [] h (fun q => q = o) := by
  rw [am_args_R i0, am_args_I]
  exact rg_97_0 y0 y1 h o rfl rfl i0 hs
def fg_96_15 (N : Nat) (h : am_H) : Option am_O := some (.inl (some (.int 2), h))
theorem rg_96_15 {X : am_X} {d : Nat} {N : Nat} {lv : am_LV} (h : am_H) (o : am_O) (hs : fg_96_15 N h = some o) : am_W X (d + 163) 96 15 lv [] h (fun q => q = o) := by
  unfold fg_96_15 at hs
  refine aw_iconst (v := 2) (pc1 := 16) at_96_15 (by decide) rfl ?_
  cases hs
  exact aw_iret at_96_16 (by rw [rt_96]; rfl) rfl
def fg_96_12 (N : Nat) (h : am_H) : Option am_O := some (.inl (some (.int 1), h))
theorem rg_96_12 {X : am_X} {d : Nat} {N : Nat} {lv : am_LV} (h : am_H) (o : am_O) (hs : fg_96_12 N h = some o) : am_W X (d + 163) 96 12 lv [] h (fun q => q = o) := by
  unfold fg_96_12 at hs
  refine aw_iconst (v := 1) (pc1 := 13) at_96_12 (by decide) rfl ?_
  cases hs
  exact aw_iret at_96_13 (by rw [rt_96]; rfl) rfl
def fg_96_0 (N : Nat) (x0 : Value) (x1 : Int32) (x2 : Value) (h : am_H) : Option am_O := (if am_pOk 11 x0 h then (match fm_97 N x0 x1 h with | some (.inl (some (.long v2), h3)) => ((am_pSL x2 0 v2 h3).bind fun h5 => some (.inl (some (.int 0), h5))) | some (.inr (0, h7)) => (fg_96_15 N h7) | some (.inr (2, h9)) => (fg_96_12 N h9) | _ => none) else none)
theorem rg_96_0 {X : am_X} {d : Nat} {N : Nat} {lv : am_LV} (x0 : Value) (x1 : Int32) (x2 : Value) (h : am_H) (o : am_O) (l0 : lv.lookup 0 = some x0) (l1 : lv.lookup 1 = some (.int x1)) (l2 : lv.lookup 2 = some x2) (i0 : am_isR x0 = true) (i2 : am_isR x2 = true) (hs : fg_96_0 N x0 x1 x2 h = some o) : am_W X (d + 163) 96 0 lv [] h (fun q => q = o) := by
  unfold fg_96_0 at hs
  refine aw_vload_n (pc1 := 1) at_96_0 l2 i2 rfl ?_
  refine aw_iconst (v := 0) (pc1 := 2) at_96_1 (by decide) rfl ?_
  refine aw_vload_n (pc1 := 3) at_96_2 l0 i0 rfl ?_
  refine aw_iload_n (pc1 := 4) at_96_3 l1 rfl ?_
  obtain ⟨z1, hs1⟩ := am_ift hs
  clear hs
  refine aw_callH (F := fm_97 N x0 x1 h) (na := 2) (kd := 1) (as := [x0, (.int x1)]) at_96_4 (am_k3v kb_97) mn_97 mk_97 rfl rfl (am_ok_v mi_97 (am_hl rfl (am_ccR i0 (am_ccI am_cats_0)) rfl) z1) (am_hc (am_ccI (am_ccR i2 am_cats_0)) rfl) (fun o1 hz9 => rm_97 x0 x1 h o1 i0 hz9) ?_
  split at hs1
  · rename_i v2 h3 f4
    refine Or.inl ⟨_, _, f4, ?_⟩
    show am_W X _ 96 7 _ [(.long v2), (.int 0), x2] h3 _
    obtain ⟨h5, e6, hs2⟩ := am_bind hs1
    clear hs1
    refine aw_pSL (pc1 := 8) at_96_7 e6 rfl ?_
    refine aw_goto at_96_8 ?_
    refine aw_iconst (v := 0) (pc1 := 18) at_96_17 (by decide) rfl ?_
    cases hs2
    exact aw_iret at_96_18 (by rw [rt_96]; rfl) rfl
  · rename_i h7 f8
    refine Or.inr ⟨_, _, 15, 3, f8, rfl, hn_96, hd_96_4_0, ?_⟩
    exact rg_96_15 h7 o   hs1
  · rename_i h9 f10
    refine Or.inr ⟨_, _, 12, 3, f10, rfl, hn_96, hd_96_4_2, ?_⟩
    exact rg_96_12 h9 o   hs1
  · cases hs1
def fm_96 (N : Nat) (y0 : Value) (y1 : Int32) (y2 : Value) (h : am_H) : Option am_O := fg_96_0 N y0 y1 y2 h
theorem rm_96 {X : am_X} {d : Nat} {N : Nat} (y0 : Value) (y1 : Int32) (y2 : Value) (h : am_H) (o : am_O) (i0 : am_isR y0 = true) (i2 : am_isR y2 = true) (hs : fm_96 N y0 y1 y2 h = some o) : am_W X (d + 163) 96 0 (am_args 0 [y0, .int y1, y2]) [] h (fun q => q = o) := by
  rw [am_args_R i0, am_args_I, am_args_R i2]
  exact rg_96_0 y0 y1 y2 h o rfl rfl rfl i0 i2 hs
def fg_392_15 (N : Nat) (rec_7 : Value → Int32 → am_H → Option am_O) : Nat → Value → Int32 → Int32 → Int32 → am_H → Option am_O
  | 0 => fun _ _ _ _ _ => none
  | K + 1 => fun x0 x1 x2 x3 h => ((am_vR (am_pG 3093 x0 h)).bind fun v1 => ((am_pA 0 v1 x1 h).bind fun v3 => am_cI false (fm_343 v3 h) (fun v5 h6 => (if v5 ≤ x3 then ((am_vR (am_pG 3098 x0 h6)).bind fun v9 => ((am_pS 0 v9 x1 x2 h6).bind fun h11 => (rec_7 x0 ((x1 + (-1))) h11))) else ((am_vR (am_pG 3098 x0 h6)).bind fun v13 => ((am_pA 0 v13 (x1 + x2) h6).bind fun v15 => (fg_392_15 N rec_7 K x0 x1 ((x2 + v15)) ((x3 + 1)) h6)))))))
theorem rg_392_15 {X : am_X} {d : Nat} {N : Nat} {rec_7 : Value → Int32 → am_H → Option am_O} (q_7 : ∀ (x0 : Value) (x1 : Int32) (h : am_H) (o : am_O), rec_7 x0 x1 h = some o → ∀ lv : am_LV, (lv.lookup 0 = some x0) → (lv.lookup 1 = some (.int x1)) → (am_isR x0 = true) → am_W X (d + 1) 392 7 lv [] h (fun q => q = o)) : ∀ (K : Nat) (x0 : Value) (x1 : Int32) (x2 : Int32) (x3 : Int32) (h : am_H) (o : am_O), fg_392_15 N rec_7 K x0 x1 x2 x3 h = some o → ∀ lv : am_LV, (lv.lookup 0 = some x0) → (lv.lookup 1 = some (.int x1)) → (lv.lookup 2 = some (.int x2)) → (lv.lookup 3 = some (.int x3)) → (am_isR x0 = true) → am_W X (d + 1) 392 15 lv [] h (fun q => q = o) := by
  intro K
  induction K with
  | zero => intro x0 x1 x2 x3 h o hs; cases hs
  | succ K ih =>
    intro x0 x1 x2 x3 h o hs lv l0 l1 l2 l3 i0
    unfold fg_392_15 at hs
    refine aw_iload_n (pc1 := 16) at_392_15 l3 rfl ?_
    refine aw_vload_n (pc1 := 17) at_392_16 l0 i0 rfl ?_
    obtain ⟨v1, e2, hs1⟩ := am_bind hs
    clear hs
    refine aw_pG (pc1 := 20) at_392_17 (am_vR_s e2).1 rfl ?_
    refine aw_iload_n (pc1 := 21) at_392_20 l1 rfl ?_
    obtain ⟨v3, e4, hs2⟩ := am_bind hs1
    clear hs1
    refine aw_pA (pc1 := 22) at_392_21 (Or.inl ⟨rfl, rfl⟩) e4 rfl ?_
    refine aw_call (F := fm_343 v3 h) (t := false) (na := 1) (kd := 0) (as := [(.int v3)]) at_392_22 (am_k3s kb_343) mn_343 mk_343 rfl rfl (am_ok_s mi_343 (am_hl rfl (am_ccI am_cats_0) rfl)) (am_hc (am_ccI am_cats_0) rfl) (fun hz9 => by cases hz9) (fun o1 hz9 => rm_343 v3 h o1  hz9) ?_
    rcases am_cI_s hs2 with ⟨v5, h6, f7, hs3⟩ | hs3
    · clear hs2
      refine Or.inl ⟨_, _, f7, ?_⟩
      show am_W X _ 392 25 _ [(.int v5), (.int x3)] h6 _
      by_cases c8 : v5 ≤ x3
      · rw [if_pos c8] at hs3
        refine aw_icge_t at_392_25 c8 ?_
        refine aw_vload_n (pc1 := 46) at_392_45 l0 i0 rfl ?_
        obtain ⟨v9, e10, hs4⟩ := am_bind hs3
        clear hs3
        refine aw_pG (pc1 := 49) at_392_46 (am_vR_s e10).1 rfl ?_
        refine aw_iload_n (pc1 := 50) at_392_49 l1 rfl ?_
        refine aw_iload_n (pc1 := 51) at_392_50 l2 rfl ?_
        obtain ⟨h11, e12, hs5⟩ := am_bind hs4
        clear hs4
        refine aw_pS (pc1 := 52) at_392_51 (Or.inl ⟨rfl, rfl⟩) e12 rfl ?_
        refine aw_iinc (v := (x1 + (-1))) (c := (-1)) (lv1 := am_put1 _ 1 _) (pc1 := 55) at_392_52 l1 (by decide) rfl rfl rfl ?_
        refine aw_goto at_392_55 ?_
        exact q_7 x0 ((x1 + (-1))) h11 o hs5 _ (am_lk1 l0 rfl (by rw [am_isRc i0]; rfl)) am_lk0 i0
      · rw [if_neg c8] at hs3
        refine aw_icge_f (pc1 := 28) at_392_25 c8 rfl ?_
        refine aw_iload_n (pc1 := 29) at_392_28 l2 rfl ?_
        refine aw_vload_n (pc1 := 30) at_392_29 l0 i0 rfl ?_
        obtain ⟨v13, e14, hs6⟩ := am_bind hs3
        clear hs3
        refine aw_pG (pc1 := 33) at_392_30 (am_vR_s e14).1 rfl ?_
        refine aw_iload_n (pc1 := 34) at_392_33 l1 rfl ?_
        refine aw_iload_n (pc1 := 35) at_392_34 l2 rfl ?_
        refine aw_iadd (v := (x1 + x2)) (pc1 := 36) at_392_35 rfl rfl ?_
        obtain ⟨v15, e16, hs7⟩ := am_bind hs6
        clear hs6
        refine aw_pA (pc1 := 37) at_392_36 (Or.inl ⟨rfl, rfl⟩) e16 rfl ?_
        refine aw_iadd (v := (x2 + v15)) (pc1 := 38) at_392_37 rfl rfl ?_
        refine aw_istore_n (lv1 := am_put1 _ 2 _) (pc1 := 39) at_392_38 rfl rfl ?_
        refine aw_iinc (v := (x3 + 1)) (c := 1) (lv1 := am_put1 _ 3 _) (pc1 := 42) at_392_39 (am_lk1 l3 rfl rfl) (by decide) rfl rfl rfl ?_
        refine aw_goto at_392_42 ?_
        exact ih x0 x1 ((x2 + v15)) ((x3 + 1)) h6 o hs7 _ (am_lk1 (am_lk1 l0 rfl rfl) rfl rfl) (am_lk1 (am_lk1 l1 rfl rfl) rfl rfl) (am_lk1 am_lk0 rfl rfl) am_lk0 i0
    · clear hs2
      exact Or.inr hs3
def fg_392_7 (N : Nat) : Nat → Value → Int32 → am_H → Option am_O
  | 0 => fun _ _ _ => none
  | K + 1 => fun x0 x1 h => (if x1 < 0 then some (.inl (none, h)) else (fg_392_15 N (fg_392_7 N K) N x0 x1 1 0 h))
theorem rg_392_7 {X : am_X} {d : Nat} {N : Nat} : ∀ (K : Nat) (x0 : Value) (x1 : Int32) (h : am_H) (o : am_O), fg_392_7 N K x0 x1 h = some o → ∀ lv : am_LV, (lv.lookup 0 = some x0) → (lv.lookup 1 = some (.int x1)) → (am_isR x0 = true) → am_W X (d + 1) 392 7 lv [] h (fun q => q = o) := by
  intro K
  induction K with
  | zero => intro x0 x1 h o hs; cases hs
  | succ K ih =>
    intro x0 x1 h o hs lv l0 l1 i0
    unfold fg_392_7 at hs
    refine aw_iload_n (pc1 := 8) at_392_7 l1 rfl ?_
    by_cases c1 : x1 < 0
    · rw [if_pos c1] at hs
      refine aw_iflt_t at_392_8 c1 ?_
      cases hs
      exact aw_vret at_392_58 rt_392 rfl
    · rw [if_neg c1] at hs
      refine aw_iflt_f (pc1 := 11) at_392_8 c1 rfl ?_
      refine aw_iconst (v := 1) (pc1 := 12) at_392_11 (by decide) rfl ?_
      refine aw_istore_n (lv1 := am_put1 _ 2 _) (pc1 := 13) at_392_12 rfl rfl ?_
      refine aw_iconst (v := 0) (pc1 := 14) at_392_13 (by decide) rfl ?_
      refine aw_istore_n (lv1 := am_put1 _ 3 _) (pc1 := 15) at_392_14 rfl rfl ?_
      exact rg_392_15 (fun z0 z1 h o hs => ih z0 z1 h o hs) N x0 x1 1 0 h o hs _ (am_lk1 (am_lk1 l0 rfl rfl) rfl rfl) (am_lk1 (am_lk1 l1 rfl rfl) rfl rfl) (am_lk1 am_lk0 rfl rfl) am_lk0 i0
def fg_392_0 (N : Nat) (x0 : Value) (h : am_H) : Option am_O := ((am_vI (am_pG 3090 x0 h)).bind fun v1 => (fg_392_7 N N x0 ((v1 - 1)) h))
theorem rg_392_0 {X : am_X} {d : Nat} {N : Nat} {lv : am_LV} (x0 : Value) (h : am_H) (o : am_O) (l0 : lv.lookup 0 = some x0) (i0 : am_isR x0 = true) (hs : fg_392_0 N x0 h = some o) : am_W X (d + 1) 392 0 lv [] h (fun q => q = o) := by
  unfold fg_392_0 at hs
  refine aw_vload_n (pc1 := 1) at_392_0 l0 i0 rfl ?_
  obtain ⟨v1, e2, hs1⟩ := am_bind hs
  clear hs
  refine aw_pG (pc1 := 4) at_392_1 (am_vI_s e2) rfl ?_
  refine aw_iconst (v := 1) (pc1 := 5) at_392_4 (by decide) rfl ?_
  refine aw_isub (v := (v1 - 1)) (pc1 := 6) at_392_5 rfl rfl ?_
  refine aw_istore_n (lv1 := am_put1 _ 1 _) (pc1 := 7) at_392_6 rfl rfl ?_
  exact rg_392_7 N x0 ((v1 - 1)) h o hs1 _ (am_lk1 l0 rfl (by rw [am_isRc i0]; rfl)) am_lk0 i0
def fm_392 (N : Nat) (y0 : Value) (h : am_H) : Option am_O := fg_392_0 N y0 h
theorem rm_392 {X : am_X} {d : Nat} {N : Nat} (y0 : Value) (h : am_H) (o : am_O) (i0 : am_isR y0 = true) (hs : fm_392 N y0 h = some o) : am_W X (d + 1) 392 0 (am_args 0 [y0]) [] h (fun q => q = o) := by
  rw [am_args_R i0]
  exact rg_392_0 y0 h o rfl i0 hs
def fg_391_91 (N : Nat) (h : am_H) : Option am_O := some (.inl (none, h))
theorem rg_391_91 {X : am_X} {d : Nat} {N : Nat} {lv : am_LV} (h : am_H) (o : am_O) (hs : fg_391_91 N h = some o) : am_W X (d + 2) 391 91 lv [] h (fun q => q = o) := by
  unfold fg_391_91 at hs
  cases hs
  exact aw_vret at_391_91 rt_391 rfl
def fg_391_32 (N : Nat) : Nat → Value → Int32 → Int32 → am_H → Option am_O
  | 0 => fun _ _ _ _ => none
  | K + 1 => fun x0 x1 x2 h => ((am_vI (am_pG 3090 x0 h)).bind fun v1 => (if v1 ≤ x2 then ((am_vI (am_pG 3092 x0 h)).bind fun v4 => (if ¬ v4 = 0 then (fg_391_91 N h) else (if am_pOk 12 x0 h then am_cV true (fm_392 N x0 h) (fun h9 => (fg_391_91 N h9)) else none))) else ((am_vR (am_pG 3093 x0 h)).bind fun v11 => ((am_vR (am_pG 3083 x0 h)).bind fun v13 => ((am_pA 0 v13 ((60 * x1) + x2) h).bind fun v15 => ((am_pS 0 v11 x2 v15 h).bind fun h17 => ((am_vR (am_pG 3094 x0 h17)).bind fun v19 => ((am_vR (am_pG 3084 x0 h17)).bind fun v21 => ((am_pA 0 v21 ((60 * x1) + x2) h17).bind fun v23 => ((am_pS 0 v19 x2 v23 h17).bind fun h25 => (fg_391_32 N K x0 x1 ((x2 + 1)) h25)))))))))))
theorem rg_391_32 {X : am_X} {d : Nat} {N : Nat} : ∀ (K : Nat) (x0 : Value) (x1 : Int32) (x2 : Int32) (h : am_H) (o : am_O), fg_391_32 N K x0 x1 x2 h = some o → ∀ lv : am_LV, (lv.lookup 0 = some x0) → (lv.lookup 1 = some (.int x1)) → (lv.lookup 2 = some (.int x2)) → (am_isR x0 = true) → am_W X (d + 2) 391 32 lv [] h (fun q => q = o) := by
  intro K
  induction K with
  | zero => intro x0 x1 x2 h o hs; cases hs
  | succ K ih =>
    intro x0 x1 x2 h o hs lv l0 l1 l2 i0
    unfold fg_391_32 at hs
    refine aw_iload_n (pc1 := 33) at_391_32 l2 rfl ?_
    refine aw_vload_n (pc1 := 34) at_391_33 l0 i0 rfl ?_
    obtain ⟨v1, e2, hs1⟩ := am_bind hs
    clear hs
    refine aw_pG (pc1 := 37) at_391_34 (am_vI_s e2) rfl ?_
    by_cases c3 : v1 ≤ x2
    · rw [if_pos c3] at hs1
      refine aw_icge_t at_391_37 c3 ?_
      refine aw_vload_n (pc1 := 81) at_391_80 l0 i0 rfl ?_
      obtain ⟨v4, e5, hs2⟩ := am_bind hs1
      clear hs1
      refine aw_pG (pc1 := 84) at_391_81 (am_vI_s e5) rfl ?_
      by_cases c6 : ¬ v4 = 0
      · rw [if_pos c6] at hs2
        refine aw_ifne_t at_391_84 c6 ?_
        exact rg_391_91 h o   hs2
      · rw [if_neg c6] at hs2
        refine aw_ifne_f (pc1 := 87) at_391_84 c6 rfl ?_
        refine aw_vload_n (pc1 := 88) at_391_87 l0 i0 rfl ?_
        obtain ⟨z7, hs3⟩ := am_ift hs2
        clear hs2
        refine aw_call (F := fm_392 N x0 h) (t := true) (na := 1) (kd := 1) (as := [x0]) at_391_88 (am_k3v kb_392) mn_392 mk_392 rfl rfl (am_ok_v mi_392 (am_hl rfl (am_ccR i0 am_cats_0) rfl) z7) (am_hc am_cats_0 rfl) (fun _ => ⟨rfl, hh_391⟩) (fun o1 hz9 => rm_392 x0 h o1 i0 hz9) ?_
        rcases am_cV_s hs3 with ⟨h9, f10, hs4⟩ | hs4
        · clear hs3
          refine Or.inl ⟨_, _, f10, ?_⟩
          show am_W X _ 391 91 _ [] h9 _
          exact rg_391_91 h9 o   hs4
        · clear hs3
          exact Or.inr hs4
    · rw [if_neg c3] at hs1
      refine aw_icge_f (pc1 := 40) at_391_37 c3 rfl ?_
      refine aw_vload_n (pc1 := 41) at_391_40 l0 i0 rfl ?_
      obtain ⟨v11, e12, hs5⟩ := am_bind hs1
      clear hs1
      refine aw_pG (pc1 := 44) at_391_41 (am_vR_s e12).1 rfl ?_
      refine aw_iload_n (pc1 := 45) at_391_44 l2 rfl ?_
      refine aw_vload_n (pc1 := 46) at_391_45 l0 i0 rfl ?_
      obtain ⟨v13, e14, hs6⟩ := am_bind hs5
      clear hs5
      refine aw_pG (pc1 := 49) at_391_46 (am_vR_s e14).1 rfl ?_
      refine aw_bipush (v := 60) (pc1 := 51) at_391_49 (by decide) rfl ?_
      refine aw_iload_n (pc1 := 52) at_391_51 l1 rfl ?_
      refine aw_imul (v := (60 * x1)) (pc1 := 53) at_391_52 rfl rfl ?_
      refine aw_iload_n (pc1 := 54) at_391_53 l2 rfl ?_
      refine aw_iadd (v := ((60 * x1) + x2)) (pc1 := 55) at_391_54 rfl rfl ?_
      obtain ⟨v15, e16, hs7⟩ := am_bind hs6
      clear hs6
      refine aw_pA (pc1 := 56) at_391_55 (Or.inl ⟨rfl, rfl⟩) e16 rfl ?_
      obtain ⟨h17, e18, hs8⟩ := am_bind hs7
      clear hs7
      refine aw_pS (pc1 := 57) at_391_56 (Or.inl ⟨rfl, rfl⟩) e18 rfl ?_
      refine aw_vload_n (pc1 := 58) at_391_57 l0 i0 rfl ?_
      obtain ⟨v19, e20, hs9⟩ := am_bind hs8
      clear hs8
      refine aw_pG (pc1 := 61) at_391_58 (am_vR_s e20).1 rfl ?_
      refine aw_iload_n (pc1 := 62) at_391_61 l2 rfl ?_
      refine aw_vload_n (pc1 := 63) at_391_62 l0 i0 rfl ?_
      obtain ⟨v21, e22, hs10⟩ := am_bind hs9
      clear hs9
      refine aw_pG (pc1 := 66) at_391_63 (am_vR_s e22).1 rfl ?_
      refine aw_bipush (v := 60) (pc1 := 68) at_391_66 (by decide) rfl ?_
      refine aw_iload_n (pc1 := 69) at_391_68 l1 rfl ?_
      refine aw_imul (v := (60 * x1)) (pc1 := 70) at_391_69 rfl rfl ?_
      refine aw_iload_n (pc1 := 71) at_391_70 l2 rfl ?_
      refine aw_iadd (v := ((60 * x1) + x2)) (pc1 := 72) at_391_71 rfl rfl ?_
      obtain ⟨v23, e24, hs11⟩ := am_bind hs10
      clear hs10
      refine aw_pA (pc1 := 73) at_391_72 (Or.inl ⟨rfl, rfl⟩) e24 rfl ?_
      obtain ⟨h25, e26, hs12⟩ := am_bind hs11
      clear hs11
      refine aw_pS (pc1 := 74) at_391_73 (Or.inl ⟨rfl, rfl⟩) e26 rfl ?_
      refine aw_iinc (v := (x2 + 1)) (c := 1) (lv1 := am_put1 _ 2 _) (pc1 := 77) at_391_74 l2 (by decide) rfl rfl rfl ?_
      refine aw_goto at_391_77 ?_
      exact ih x0 x1 ((x2 + 1)) h25 o hs12 _ (am_lk1 l0 rfl rfl) (am_lk1 l1 rfl rfl) am_lk0 i0
def fg_391_0 (N : Nat) (x0 : Value) (x1 : Int32) (h : am_H) : Option am_O := ((am_vR (am_pG 3074 x0 h)).bind fun v1 => ((am_pA 0 v1 x1 h).bind fun v3 => ((am_pP 3092 x0 (.int v3) h).bind fun h5 => ((am_vR (am_pG 3075 x0 h5)).bind fun v7 => ((am_pA 0 v7 x1 h5).bind fun v9 => ((am_pP 3090 x0 (.int v9) h5).bind fun h11 => ((am_vR (am_pG 3076 x0 h11)).bind fun v13 => ((am_pA 0 v13 x1 h11).bind fun v15 => ((am_pP 3091 x0 (.int v15) h11).bind fun h17 => (fg_391_32 N N x0 x1 0 h17))))))))))
theorem rg_391_0 {X : am_X} {d : Nat} {N : Nat} {lv : am_LV} (x0 : Value) (x1 : Int32) (h : am_H) (o : am_O) (l0 : lv.lookup 0 = some x0) (l1 : lv.lookup 1 = some (.int x1)) (i0 : am_isR x0 = true) (hs : fg_391_0 N x0 x1 h = some o) : am_W X (d + 2) 391 0 lv [] h (fun q => q = o) := by
  unfold fg_391_0 at hs
  refine aw_vload_n (pc1 := 1) at_391_0 l0 i0 rfl ?_
  refine aw_vload_n (pc1 := 2) at_391_1 l0 i0 rfl ?_
  obtain ⟨v1, e2, hs1⟩ := am_bind hs
  clear hs
  refine aw_pG (pc1 := 5) at_391_2 (am_vR_s e2).1 rfl ?_
  refine aw_iload_n (pc1 := 6) at_391_5 l1 rfl ?_
  obtain ⟨v3, e4, hs2⟩ := am_bind hs1
  clear hs1
  refine aw_pA (pc1 := 7) at_391_6 (Or.inl ⟨rfl, rfl⟩) e4 rfl ?_
  obtain ⟨h5, e6, hs3⟩ := am_bind hs2
  clear hs2
  refine aw_pP (pc1 := 10) at_391_7 e6 rfl ?_
  refine aw_vload_n (pc1 := 11) at_391_10 l0 i0 rfl ?_
  refine aw_vload_n (pc1 := 12) at_391_11 l0 i0 rfl ?_
  obtain ⟨v7, e8, hs4⟩ := am_bind hs3
  clear hs3
  refine aw_pG (pc1 := 15) at_391_12 (am_vR_s e8).1 rfl ?_
  refine aw_iload_n (pc1 := 16) at_391_15 l1 rfl ?_
  obtain ⟨v9, e10, hs5⟩ := am_bind hs4
  clear hs4
  refine aw_pA (pc1 := 17) at_391_16 (Or.inl ⟨rfl, rfl⟩) e10 rfl ?_
  obtain ⟨h11, e12, hs6⟩ := am_bind hs5
  clear hs5
  refine aw_pP (pc1 := 20) at_391_17 e12 rfl ?_
  refine aw_vload_n (pc1 := 21) at_391_20 l0 i0 rfl ?_
  refine aw_vload_n (pc1 := 22) at_391_21 l0 i0 rfl ?_
  obtain ⟨v13, e14, hs7⟩ := am_bind hs6
  clear hs6
  refine aw_pG (pc1 := 25) at_391_22 (am_vR_s e14).1 rfl ?_
  refine aw_iload_n (pc1 := 26) at_391_25 l1 rfl ?_
  obtain ⟨v15, e16, hs8⟩ := am_bind hs7
  clear hs7
  refine aw_pA (pc1 := 27) at_391_26 (Or.inl ⟨rfl, rfl⟩) e16 rfl ?_
  obtain ⟨h17, e18, hs9⟩ := am_bind hs8
  clear hs8
  refine aw_pP (pc1 := 30) at_391_27 e18 rfl ?_
  refine aw_iconst (v := 0) (pc1 := 31) at_391_30 (by decide) rfl ?_
  refine aw_istore_n (lv1 := am_put1 _ 2 _) (pc1 := 32) at_391_31 rfl rfl ?_
  exact rg_391_32 N x0 x1 0 h17 o hs9 _ (am_lk1 l0 rfl rfl) (am_lk1 l1 rfl rfl) am_lk0 i0
def fm_391 (N : Nat) (y0 : Value) (y1 : Int32) (h : am_H) : Option am_O := fg_391_0 N y0 y1 h
theorem rm_391 {X : am_X} {d : Nat} {N : Nat} (y0 : Value) (y1 : Int32) (h : am_H) (o : am_O) (i0 : am_isR y0 = true) (hs : fm_391 N y0 y1 h = some o) : am_W X (d + 2) 391 0 (am_args 0 [y0, .int y1]) [] h (fun q => q = o) := by
  rw [am_args_R i0, am_args_I]
  exact rg_391_0 y0 y1 h o rfl rfl i0 hs
def fg_393_7 (N : Nat) : Nat → Value → Int32 → Int32 → Int32 → am_H → Option am_O
  | 0 => fun _ _ _ _ _ => none
  | K + 1 => fun x0 x2 x3 x4 h => (if x2 ≤ x4 then some (.inl (some (.int x3), h)) else ((am_vR (am_pG 3098 x0 h)).bind fun v2 => ((am_pA 0 v2 x3 h).bind fun v4 => (fg_393_7 N K x0 x2 ((x3 + v4)) ((x4 + 1)) h))))
theorem rg_393_7 {X : am_X} {d : Nat} {N : Nat} : ∀ (K : Nat) (x0 : Value) (x2 : Int32) (x3 : Int32) (x4 : Int32) (h : am_H) (o : am_O), fg_393_7 N K x0 x2 x3 x4 h = some o → ∀ lv : am_LV, (lv.lookup 0 = some x0) → (lv.lookup 2 = some (.int x2)) → (lv.lookup 3 = some (.int x3)) → (lv.lookup 4 = some (.int x4)) → (am_isR x0 = true) → am_W X (d) 393 7 lv [] h (fun q => q = o) := by
  intro K
  induction K with
  | zero => intro x0 x2 x3 x4 h o hs; cases hs
  | succ K ih =>
    intro x0 x2 x3 x4 h o hs lv l0 l2 l3 l4 i0
    unfold fg_393_7 at hs
    refine aw_iload (pc1 := 9) at_393_7 l4 rfl ?_
    refine aw_iload_n (pc1 := 10) at_393_9 l2 rfl ?_
    by_cases c1 : x2 ≤ x4
    · rw [if_pos c1] at hs
      refine aw_icge_t at_393_10 c1 ?_
      refine aw_iload_n (pc1 := 29) at_393_28 l3 rfl ?_
      cases hs
      exact aw_iret at_393_29 (by rw [rt_393]; rfl) rfl
    · rw [if_neg c1] at hs
      refine aw_icge_f (pc1 := 13) at_393_10 c1 rfl ?_
      refine aw_iload_n (pc1 := 14) at_393_13 l3 rfl ?_
      refine aw_vload_n (pc1 := 15) at_393_14 l0 i0 rfl ?_
      obtain ⟨v2, e3, hs1⟩ := am_bind hs
      clear hs
      refine aw_pG (pc1 := 18) at_393_15 (am_vR_s e3).1 rfl ?_
      refine aw_iload_n (pc1 := 19) at_393_18 l3 rfl ?_
      obtain ⟨v4, e5, hs2⟩ := am_bind hs1
      clear hs1
      refine aw_pA (pc1 := 20) at_393_19 (Or.inl ⟨rfl, rfl⟩) e5 rfl ?_
      refine aw_iadd (v := (x3 + v4)) (pc1 := 21) at_393_20 rfl rfl ?_
      refine aw_istore_n (lv1 := am_put1 _ 3 _) (pc1 := 22) at_393_21 rfl rfl ?_
      refine aw_iinc (v := (x4 + 1)) (c := 1) (lv1 := am_put1 _ 4 _) (pc1 := 25) at_393_22 (am_lk1 l4 rfl rfl) (by decide) rfl rfl rfl ?_
      refine aw_goto at_393_25 ?_
      exact ih x0 x2 ((x3 + v4)) ((x4 + 1)) h o hs2 _ (am_lk1 (am_lk1 l0 rfl rfl) rfl rfl) (am_lk1 (am_lk1 l2 rfl rfl) rfl rfl) (am_lk1 am_lk0 rfl rfl) am_lk0 i0
def fg_393_0 (N : Nat) (x0 : Value) (x1 : Int32) (x2 : Int32) (h : am_H) : Option am_O := (fg_393_7 N N x0 x2 ((x1 + 1)) 0 h)
theorem rg_393_0 {X : am_X} {d : Nat} {N : Nat} {lv : am_LV} (x0 : Value) (x1 : Int32) (x2 : Int32) (h : am_H) (o : am_O) (l0 : lv.lookup 0 = some x0) (l1 : lv.lookup 1 = some (.int x1)) (l2 : lv.lookup 2 = some (.int x2)) (i0 : am_isR x0 = true) (hs : fg_393_0 N x0 x1 x2 h = some o) : am_W X (d) 393 0 lv [] h (fun q => q = o) := by
  unfold fg_393_0 at hs
  refine aw_iload_n (pc1 := 1) at_393_0 l1 rfl ?_
  refine aw_iconst (v := 1) (pc1 := 2) at_393_1 (by decide) rfl ?_
  refine aw_iadd (v := (x1 + 1)) (pc1 := 3) at_393_2 rfl rfl ?_
  refine aw_istore_n (lv1 := am_put1 _ 3 _) (pc1 := 4) at_393_3 rfl rfl ?_
  refine aw_iconst (v := 0) (pc1 := 5) at_393_4 (by decide) rfl ?_
  refine aw_istore (lv1 := am_put1 _ 4 _) (pc1 := 7) at_393_5 rfl rfl ?_
  exact rg_393_7 N x0 x2 ((x1 + 1)) 0 h o hs _ (am_lk1 (am_lk1 l0 rfl rfl) rfl rfl) (am_lk1 (am_lk1 l2 rfl rfl) rfl rfl) (am_lk1 am_lk0 rfl rfl) am_lk0 i0
def fm_393 (N : Nat) (y0 : Value) (y1 : Int32) (y2 : Int32) (h : am_H) : Option am_O := fg_393_0 N y0 y1 y2 h
theorem rm_393 {X : am_X} {d : Nat} {N : Nat} (y0 : Value) (y1 : Int32) (y2 : Int32) (h : am_H) (o : am_O) (i0 : am_isR y0 = true) (hs : fm_393 N y0 y1 y2 h = some o) : am_W X (d) 393 0 (am_args 0 [y0, .int y1, .int y2]) [] h (fun q => q = o) := by
  rw [am_args_R i0, am_args_I, am_args_I]
  exact rg_393_0 y0 y1 y2 h o rfl rfl rfl i0 hs
def fg_394_350 (N : Nat) (s0 : Int64) (s1 : Int64) (h : am_H) : Option am_O := some (.inl (some (.long (s0 + s1)), h))
theorem rg_394_350 {X : am_X} {d : Nat} {N : Nat} {lv : am_LV} (s0 : Int64) (s1 : Int64) (h : am_H) (o : am_O) (hs : fg_394_350 N s0 s1 h = some o) : am_W X (d + 3) 394 350 lv [(.long s1), (.long s0)] h (fun q => q = o) := by
  unfold fg_394_350 at hs
  refine aw_ladd (v := (s0 + s1)) (pc1 := 351) at_394_350 rfl rfl ?_
  cases hs
  exact aw_lret at_394_351 rt_394 rfl
def fg_394_324 (N : Nat) (x0 : Value) (x1 : Int32) (x7 : Int32) (s0 : Int64) (s1 : Int64) (h : am_H) : Option am_O := (if x7 ≤ 2 then (fg_394_350 N ((s0 + s1)) 0 h) else ((am_vR (am_pG 3161 x0 h)).bind fun v2 => (if am_pOk 12 x0 h then am_cI true (fm_393 N x0 x1 2 h) (fun v5 h6 => ((am_pAL v2 v5 h6).bind fun v8 => (fg_394_350 N ((s0 + s1)) v8 h6))) else none)))
theorem rg_394_324 {X : am_X} {d : Nat} {N : Nat} {lv : am_LV} (x0 : Value) (x1 : Int32) (x7 : Int32) (s0 : Int64) (s1 : Int64) (h : am_H) (o : am_O) (l0 : lv.lookup 0 = some x0) (l1 : lv.lookup 1 = some (.int x1)) (l7 : lv.lookup 7 = some (.int x7)) (i0 : am_isR x0 = true) (hs : fg_394_324 N x0 x1 x7 s0 s1 h = some o) : am_W X (d + 3) 394 324 lv [(.long s1), (.long s0)] h (fun q => q = o) := by
  unfold fg_394_324 at hs
  refine aw_ladd (v := (s0 + s1)) (pc1 := 325) at_394_324 rfl rfl ?_
  refine aw_lstore (lv1 := am_put2 _ 5 _) (pc1 := 327) at_394_325 rfl rfl ?_
  refine aw_lload (pc1 := 329) at_394_327 am_lk02 rfl ?_
  refine aw_iload (pc1 := 331) at_394_329 (am_lk2 l7 rfl rfl) rfl ?_
  refine aw_iconst (v := 2) (pc1 := 332) at_394_331 (by decide) rfl ?_
  by_cases c1 : x7 ≤ 2
  · rw [if_pos c1] at hs
    refine aw_icle_t at_394_332 c1 ?_
    refine aw_lconst (v := 0) (pc1 := 350) at_394_349 (by decide) rfl ?_
    exact rg_394_350 ((s0 + s1)) 0 h o   hs
  · rw [if_neg c1] at hs
    refine aw_icle_f (pc1 := 335) at_394_332 c1 rfl ?_
    refine aw_vload_n (pc1 := 336) at_394_335 (am_lk2 l0 rfl rfl) i0 rfl ?_
    obtain ⟨v2, e3, hs1⟩ := am_bind hs
    clear hs
    refine aw_pG (pc1 := 339) at_394_336 (am_vR_s e3).1 rfl ?_
    refine aw_vload_n (pc1 := 340) at_394_339 (am_lk2 l0 rfl rfl) i0 rfl ?_
    refine aw_iload_n (pc1 := 341) at_394_340 (am_lk2 l1 rfl rfl) rfl ?_
    refine aw_iconst (v := 2) (pc1 := 342) at_394_341 (by decide) rfl ?_
    obtain ⟨z4, hs2⟩ := am_ift hs1
    clear hs1
    refine aw_call (F := fm_393 N x0 x1 2 h) (t := true) (na := 3) (kd := 1) (as := [x0, (.int x1), (.int 2)]) at_394_342 (am_k3v kb_393) mn_393 mk_393 rfl rfl (am_ok_v mi_393 (am_hl rfl (am_ccR i0 (am_ccI (am_ccI am_cats_0))) rfl) z4) (am_hc (am_ccR (am_vR_s e3).2 (am_ccL am_cats_0)) rfl) (fun _ => ⟨rfl, hh_394⟩) (fun o1 hz9 => rm_393 x0 x1 2 h o1 i0 hz9) ?_
    rcases am_cI_s hs2 with ⟨v5, h6, f7, hs3⟩ | hs3
    · clear hs2
      refine Or.inl ⟨_, _, f7, ?_⟩
      show am_W X _ 394 345 _ [(.int v5), v2, (.long (s0 + s1))] h6 _
      obtain ⟨v8, e9, hs4⟩ := am_bind hs3
      clear hs3
      refine aw_pAL (pc1 := 346) at_394_345 e9 rfl ?_
      refine aw_goto at_394_346 ?_
      exact rg_394_350 ((s0 + s1)) v8 h6 o   hs4
    · clear hs2
      exact Or.inr hs3
def fg_394_277 (N : Nat) (x0 : Value) (x1 : Int32) (x5 : Int64) (x7 : Int32) (x10 : Int64) (s0 : Int64) (h : am_H) : Option am_O := ((am_vR (am_pG 3161 x0 h)).bind fun v1 => ((am_pAL v1 (x1 + 1) h).bind fun v3 => (if x7 ≤ 1 then (fg_394_324 N x0 x1 x7 ((x5 + ((v3 * s0) * x10))) 0 h) else ((am_vR (am_pG 3161 x0 h)).bind fun v6 => (if am_pOk 12 x0 h then am_cI true (fm_393 N x0 x1 1 h) (fun v9 h10 => ((am_pAL v6 v9 h10).bind fun v12 => (fg_394_324 N x0 x1 x7 ((x5 + ((v3 * s0) * x10))) ((v12 * x10)) h10))) else none)))))
theorem rg_394_277 {X : am_X} {d : Nat} {N : Nat} {lv : am_LV} (x0 : Value) (x1 : Int32) (x5 : Int64) (x7 : Int32) (x10 : Int64) (s0 : Int64) (h : am_H) (o : am_O) (l0 : lv.lookup 0 = some x0) (l1 : lv.lookup 1 = some (.int x1)) (l5 : lv.lookup 5 = some (.long x5)) (l7 : lv.lookup 7 = some (.int x7)) (l10 : lv.lookup 10 = some (.long x10)) (i0 : am_isR x0 = true) (hs : fg_394_277 N x0 x1 x5 x7 x10 s0 h = some o) : am_W X (d + 3) 394 277 lv [(.long s0)] h (fun q => q = o) := by
  unfold fg_394_277 at hs
  refine aw_lstore (lv1 := am_put2 _ 12 _) (pc1 := 279) at_394_277 rfl rfl ?_
  refine aw_lload (pc1 := 281) at_394_279 (am_lk2 l5 rfl rfl) rfl ?_
  refine aw_vload_n (pc1 := 282) at_394_281 (am_lk2 l0 rfl rfl) i0 rfl ?_
  obtain ⟨v1, e2, hs1⟩ := am_bind hs
  clear hs
  refine aw_pG (pc1 := 285) at_394_282 (am_vR_s e2).1 rfl ?_
  refine aw_iload_n (pc1 := 286) at_394_285 (am_lk2 l1 rfl rfl) rfl ?_
  refine aw_iconst (v := 1) (pc1 := 287) at_394_286 (by decide) rfl ?_
  refine aw_iadd (v := (x1 + 1)) (pc1 := 288) at_394_287 rfl rfl ?_
  obtain ⟨v3, e4, hs2⟩ := am_bind hs1
  clear hs1
  refine aw_pAL (pc1 := 289) at_394_288 e4 rfl ?_
  refine aw_lload (pc1 := 291) at_394_289 am_lk02 rfl ?_
  refine aw_lmul (v := (v3 * s0)) (pc1 := 292) at_394_291 rfl rfl ?_
  refine aw_lload (pc1 := 294) at_394_292 (am_lk2 l10 rfl rfl) rfl ?_
  refine aw_lmul (v := ((v3 * s0) * x10)) (pc1 := 295) at_394_294 rfl rfl ?_
  refine aw_ladd (v := (x5 + ((v3 * s0) * x10))) (pc1 := 296) at_394_295 rfl rfl ?_
  refine aw_lstore (lv1 := am_put2 _ 5 _) (pc1 := 298) at_394_296 rfl rfl ?_
  refine aw_lload (pc1 := 300) at_394_298 am_lk02 rfl ?_
  refine aw_iload (pc1 := 302) at_394_300 (am_lk2 (am_lk2 l7 rfl rfl) rfl rfl) rfl ?_
  refine aw_iconst (v := 1) (pc1 := 303) at_394_302 (by decide) rfl ?_
  by_cases c5 : x7 ≤ 1
  · rw [if_pos c5] at hs2
    refine aw_icle_t at_394_303 c5 ?_
    refine aw_lconst (v := 0) (pc1 := 324) at_394_323 (by decide) rfl ?_
    exact rg_394_324 x0 x1 x7 ((x5 + ((v3 * s0) * x10))) 0 h o (am_lk2 (am_lk2 l0 rfl rfl) rfl rfl) (am_lk2 (am_lk2 l1 rfl rfl) rfl rfl) (am_lk2 (am_lk2 l7 rfl rfl) rfl rfl) i0 hs2
  · rw [if_neg c5] at hs2
    refine aw_icle_f (pc1 := 306) at_394_303 c5 rfl ?_
    refine aw_vload_n (pc1 := 307) at_394_306 (am_lk2 (am_lk2 l0 rfl rfl) rfl rfl) i0 rfl ?_
    obtain ⟨v6, e7, hs3⟩ := am_bind hs2
    clear hs2
    refine aw_pG (pc1 := 310) at_394_307 (am_vR_s e7).1 rfl ?_
    refine aw_vload_n (pc1 := 311) at_394_310 (am_lk2 (am_lk2 l0 rfl rfl) rfl rfl) i0 rfl ?_
    refine aw_iload_n (pc1 := 312) at_394_311 (am_lk2 (am_lk2 l1 rfl rfl) rfl rfl) rfl ?_
    refine aw_iconst (v := 1) (pc1 := 313) at_394_312 (by decide) rfl ?_
    obtain ⟨z8, hs4⟩ := am_ift hs3
    clear hs3
    refine aw_call (F := fm_393 N x0 x1 1 h) (t := true) (na := 3) (kd := 1) (as := [x0, (.int x1), (.int 1)]) at_394_313 (am_k3v kb_393) mn_393 mk_393 rfl rfl (am_ok_v mi_393 (am_hl rfl (am_ccR i0 (am_ccI (am_ccI am_cats_0))) rfl) z8) (am_hc (am_ccR (am_vR_s e7).2 (am_ccL am_cats_0)) rfl) (fun _ => ⟨rfl, hh_394⟩) (fun o1 hz9 => rm_393 x0 x1 1 h o1 i0 hz9) ?_
    rcases am_cI_s hs4 with ⟨v9, h10, f11, hs5⟩ | hs5
    · clear hs4
      refine Or.inl ⟨_, _, f11, ?_⟩
      show am_W X _ 394 316 _ [(.int v9), v6, (.long (x5 + ((v3 * s0) * x10)))] h10 _
      obtain ⟨v12, e13, hs6⟩ := am_bind hs5
      clear hs5
      refine aw_pAL (pc1 := 317) at_394_316 e13 rfl ?_
      refine aw_lload (pc1 := 319) at_394_317 (am_lk2 (am_lk2 l10 rfl rfl) rfl rfl) rfl ?_
      refine aw_lmul (v := (v12 * x10)) (pc1 := 320) at_394_319 rfl rfl ?_
      refine aw_goto at_394_320 ?_
      exact rg_394_324 x0 x1 x7 ((x5 + ((v3 * s0) * x10))) ((v12 * x10)) h10 o (am_lk2 (am_lk2 l0 rfl rfl) rfl rfl) (am_lk2 (am_lk2 l1 rfl rfl) rfl rfl) (am_lk2 (am_lk2 l7 rfl rfl) rfl rfl) i0 hs6
    · clear hs4
      exact Or.inr hs5
def fg_394_248 (N : Nat) (x0 : Value) (x1 : Int32) (x2 : Int32) (x3 : Int32) (x5 : Int64) (x7 : Int32) (x9 : Int32) (s0 : Int64) (h : am_H) : Option am_O := (if x7 ≤ 1 then (fg_394_277 N x0 x1 x5 x7 s0 1 h) else am_cI false (fm_381 x3 x2 1 h) (fun v2 h3 => am_cI false (fm_382 x2 1 h3) (fun v5 h6 => (if am_pOk 12 x0 h6 then am_cL true (fm_383 x0 v2 v5 x9 h6) (fun v9 h10 => (fg_394_277 N x0 x1 x5 x7 s0 v9 h10)) else none))))
theorem rg_394_248 {X : am_X} {d : Nat} {N : Nat} {lv : am_LV} (x0 : Value) (x1 : Int32) (x2 : Int32) (x3 : Int32) (x5 : Int64) (x7 : Int32) (x9 : Int32) (s0 : Int64) (h : am_H) (o : am_O) (l0 : lv.lookup 0 = some x0) (l1 : lv.lookup 1 = some (.int x1)) (l2 : lv.lookup 2 = some (.int x2)) (l3 : lv.lookup 3 = some (.int x3)) (l5 : lv.lookup 5 = some (.long x5)) (l7 : lv.lookup 7 = some (.int x7)) (l9 : lv.lookup 9 = some (.int x9)) (i0 : am_isR x0 = true) (hs : fg_394_248 N x0 x1 x2 x3 x5 x7 x9 s0 h = some o) : am_W X (d + 3) 394 248 lv [(.long s0)] h (fun q => q = o) := by
  unfold fg_394_248 at hs
  refine aw_lstore (lv1 := am_put2 _ 10 _) (pc1 := 250) at_394_248 rfl rfl ?_
  refine aw_iload (pc1 := 252) at_394_250 (am_lk2 l7 rfl rfl) rfl ?_
  refine aw_iconst (v := 1) (pc1 := 253) at_394_252 (by decide) rfl ?_
  by_cases c1 : x7 ≤ 1
  · rw [if_pos c1] at hs
    refine aw_icle_t at_394_253 c1 ?_
    refine aw_lconst (v := 1) (pc1 := 277) at_394_276 (by decide) rfl ?_
    exact rg_394_277 x0 x1 x5 x7 s0 1 h o (am_lk2 l0 rfl rfl) (am_lk2 l1 rfl rfl) (am_lk2 l5 rfl rfl) (am_lk2 l7 rfl rfl) am_lk02 i0 hs
  · rw [if_neg c1] at hs
    refine aw_icle_f (pc1 := 256) at_394_253 c1 rfl ?_
    refine aw_vload_n (pc1 := 257) at_394_256 (am_lk2 l0 rfl rfl) i0 rfl ?_
    refine aw_iload_n (pc1 := 258) at_394_257 (am_lk2 l3 rfl rfl) rfl ?_
    refine aw_iload_n (pc1 := 259) at_394_258 (am_lk2 l2 rfl rfl) rfl ?_
    refine aw_iconst (v := 1) (pc1 := 260) at_394_259 (by decide) rfl ?_
    refine aw_call (F := fm_381 x3 x2 1 h) (t := false) (na := 3) (kd := 0) (as := [(.int x3), (.int x2), (.int 1)]) at_394_260 (am_k3s kb_381) mn_381 mk_381 rfl rfl (am_ok_s mi_381 (am_hl rfl (am_ccI (am_ccI (am_ccI am_cats_0))) rfl)) (am_hc (am_ccR i0 am_cats_0) rfl) (fun hz9 => by cases hz9) (fun o1 hz9 => rm_381 x3 x2 1 h o1  hz9) ?_
    rcases am_cI_s hs with ⟨v2, h3, f4, hs1⟩ | hs1
    · clear hs
      refine Or.inl ⟨_, _, f4, ?_⟩
      show am_W X _ 394 263 _ [(.int v2), x0] h3 _
      refine aw_iload_n (pc1 := 264) at_394_263 (am_lk2 l2 rfl rfl) rfl ?_
      refine aw_iconst (v := 1) (pc1 := 265) at_394_264 (by decide) rfl ?_
      refine aw_call (F := fm_382 x2 1 h3) (t := false) (na := 2) (kd := 0) (as := [(.int x2), (.int 1)]) at_394_265 (am_k3s kb_382) mn_382 mk_382 rfl rfl (am_ok_s mi_382 (am_hl rfl (am_ccI (am_ccI am_cats_0)) rfl)) (am_hc (am_ccI (am_ccR i0 am_cats_0)) rfl) (fun hz9 => by cases hz9) (fun o1 hz9 => rm_382 x2 1 h3 o1  hz9) ?_
      rcases am_cI_s hs1 with ⟨v5, h6, f7, hs2⟩ | hs2
      · clear hs1
        refine Or.inl ⟨_, _, f7, ?_⟩
        show am_W X _ 394 268 _ [(.int v5), (.int v2), x0] h6 _
        refine aw_iload (pc1 := 270) at_394_268 (am_lk2 l9 rfl rfl) rfl ?_
        obtain ⟨z8, hs3⟩ := am_ift hs2
        clear hs2
        refine aw_call (F := fm_383 x0 v2 v5 x9 h6) (t := true) (na := 4) (kd := 1) (as := [x0, (.int v2), (.int v5), (.int x9)]) at_394_270 (am_k3v kb_383) mn_383 mk_383 rfl rfl (am_ok_v mi_383 (am_hl rfl (am_ccR i0 (am_ccI (am_ccI (am_ccI am_cats_0)))) rfl) z8) (am_hc am_cats_0 rfl) (fun _ => ⟨rfl, hh_394⟩) (fun o1 hz9 => rm_383 x0 v2 v5 x9 h6 o1 i0 hz9) ?_
        rcases am_cL_s hs3 with ⟨v9, h10, f11, hs4⟩ | hs4
        · clear hs3
          refine Or.inl ⟨_, _, f11, ?_⟩
          show am_W X _ 394 273 _ [(.long v9)] h10 _
          refine aw_goto at_394_273 ?_
          exact rg_394_277 x0 x1 x5 x7 s0 v9 h10 o (am_lk2 l0 rfl rfl) (am_lk2 l1 rfl rfl) (am_lk2 l5 rfl rfl) (am_lk2 l7 rfl rfl) am_lk02 i0 hs4
        · clear hs3
          exact Or.inr hs4
      · clear hs1
        exact Or.inr hs2
    · clear hs
      exact Or.inr hs1
def fg_394_211 (N : Nat) (rec_134 : Value → Int32 → Int32 → Int32 → Int32 → Int64 → Int32 → Int32 → Int32 → Int32 → am_H → Option am_O) (x0 : Value) (x1 : Int32) (x2 : Int32) (x3 : Int32) (x4 : Int32) (x5 : Int64) (x7 : Int32) (x8 : Int32) (x9 : Int32) (x10 : Int32) (h : am_H) : Option am_O := (rec_134 x0 x1 x2 x3 x4 x5 x7 x8 x9 ((x10 + 1)) h)
theorem rg_394_211 {X : am_X} {d : Nat} {N : Nat} {rec_134 : Value → Int32 → Int32 → Int32 → Int32 → Int64 → Int32 → Int32 → Int32 → Int32 → am_H → Option am_O} (q_134 : ∀ (x0 : Value) (x1 : Int32) (x2 : Int32) (x3 : Int32) (x4 : Int32) (x5 : Int64) (x7 : Int32) (x8 : Int32) (x9 : Int32) (x10 : Int32) (h : am_H) (o : am_O), rec_134 x0 x1 x2 x3 x4 x5 x7 x8 x9 x10 h = some o → ∀ lv : am_LV, (lv.lookup 0 = some x0) → (lv.lookup 1 = some (.int x1)) → (lv.lookup 2 = some (.int x2)) → (lv.lookup 3 = some (.int x3)) → (lv.lookup 4 = some (.int x4)) → (lv.lookup 5 = some (.long x5)) → (lv.lookup 7 = some (.int x7)) → (lv.lookup 8 = some (.int x8)) → (lv.lookup 9 = some (.int x9)) → (lv.lookup 10 = some (.int x10)) → (am_isR x0 = true) → am_W X (d + 3) 394 134 lv [] h (fun q => q = o)) {lv : am_LV} (x0 : Value) (x1 : Int32) (x2 : Int32) (x3 : Int32) (x4 : Int32) (x5 : Int64) (x7 : Int32) (x8 : Int32) (x9 : Int32) (x10 : Int32) (h : am_H) (o : am_O) (l0 : lv.lookup 0 = some x0) (l1 : lv.lookup 1 = some (.int x1)) (l2 : lv.lookup 2 = some (.int x2)) (l3 : lv.lookup 3 = some (.int x3)) (l4 : lv.lookup 4 = some (.int x4)) (l5 : lv.lookup 5 = some (.long x5)) (l7 : lv.lookup 7 = some (.int x7)) (l8 : lv.lookup 8 = some (.int x8)) (l9 : lv.lookup 9 = some (.int x9)) (l10 : lv.lookup 10 = some (.int x10)) (i0 : am_isR x0 = true) (hs : fg_394_211 N rec_134 x0 x1 x2 x3 x4 x5 x7 x8 x9 x10 h = some o) : am_W X (d + 3) 394 211 lv [] h (fun q => q = o) := by
  unfold fg_394_211 at hs
  refine aw_iinc (v := (x10 + 1)) (c := 1) (lv1 := am_put1 _ 10 _) (pc1 := 214) at_394_211 l10 (by decide) rfl rfl rfl ?_
  refine aw_goto at_394_214 ?_
  exact q_134 x0 x1 x2 x3 x4 x5 x7 x8 x9 ((x10 + 1)) h o hs _ (am_lk1 l0 rfl rfl) (am_lk1 l1 rfl rfl) (am_lk1 l2 rfl rfl) (am_lk1 l3 rfl rfl) (am_lk1 l4 rfl rfl) (am_lk1 l5 rfl rfl) (am_lk1 l7 rfl rfl) (am_lk1 l8 rfl rfl) (am_lk1 l9 rfl rfl) am_lk0 i0
def fg_394_188 (N : Nat) (rec_134 : Value → Int32 → Int32 → Int32 → Int32 → Int64 → Int32 → Int32 → Int32 → Int32 → am_H → Option am_O) (rec_154 : Value → Int32 → Int32 → Int32 → Int32 → Int64 → Int32 → Int32 → Int32 → Int32 → Int32 → am_H → Option am_O) (x0 : Value) (x1 : Int32) (x2 : Int32) (x3 : Int32) (x4 : Int32) (x5 : Int64) (x7 : Int32) (x8 : Int32) (x9 : Int32) (x10 : Int32) (x11 : Int32) (h : am_H) : Option am_O := (if am_pOk 12 x0 h then am_cL true (fm_380 x0 x3 x2 x4 x10 x11 h) (fun v2 h3 => (rec_154 x0 x1 x2 x3 x4 ((x5 + v2)) x7 x8 x9 x10 ((x11 + 1)) h3)) else none)
theorem rg_394_188 {X : am_X} {d : Nat} {N : Nat} {rec_134 : Value → Int32 → Int32 → Int32 → Int32 → Int64 → Int32 → Int32 → Int32 → Int32 → am_H → Option am_O} {rec_154 : Value → Int32 → Int32 → Int32 → Int32 → Int64 → Int32 → Int32 → Int32 → Int32 → Int32 → am_H → Option am_O} (q_134 : ∀ (x0 : Value) (x1 : Int32) (x2 : Int32) (x3 : Int32) (x4 : Int32) (x5 : Int64) (x7 : Int32) (x8 : Int32) (x9 : Int32) (x10 : Int32) (h : am_H) (o : am_O), rec_134 x0 x1 x2 x3 x4 x5 x7 x8 x9 x10 h = some o → ∀ lv : am_LV, (lv.lookup 0 = some x0) → (lv.lookup 1 = some (.int x1)) → (lv.lookup 2 = some (.int x2)) → (lv.lookup 3 = some (.int x3)) → (lv.lookup 4 = some (.int x4)) → (lv.lookup 5 = some (.long x5)) → (lv.lookup 7 = some (.int x7)) → (lv.lookup 8 = some (.int x8)) → (lv.lookup 9 = some (.int x9)) → (lv.lookup 10 = some (.int x10)) → (am_isR x0 = true) → am_W X (d + 3) 394 134 lv [] h (fun q => q = o)) (q_154 : ∀ (x0 : Value) (x1 : Int32) (x2 : Int32) (x3 : Int32) (x4 : Int32) (x5 : Int64) (x7 : Int32) (x8 : Int32) (x9 : Int32) (x10 : Int32) (x11 : Int32) (h : am_H) (o : am_O), rec_154 x0 x1 x2 x3 x4 x5 x7 x8 x9 x10 x11 h = some o → ∀ lv : am_LV, (lv.lookup 0 = some x0) → (lv.lookup 1 = some (.int x1)) → (lv.lookup 2 = some (.int x2)) → (lv.lookup 3 = some (.int x3)) → (lv.lookup 4 = some (.int x4)) → (lv.lookup 5 = some (.long x5)) → (lv.lookup 7 = some (.int x7)) → (lv.lookup 8 = some (.int x8)) → (lv.lookup 9 = some (.int x9)) → (lv.lookup 10 = some (.int x10)) → (lv.lookup 11 = some (.int x11)) → (am_isR x0 = true) → am_W X (d + 3) 394 154 lv [] h (fun q => q = o)) {lv : am_LV} (x0 : Value) (x1 : Int32) (x2 : Int32) (x3 : Int32) (x4 : Int32) (x5 : Int64) (x7 : Int32) (x8 : Int32) (x9 : Int32) (x10 : Int32) (x11 : Int32) (h : am_H) (o : am_O) (l0 : lv.lookup 0 = some x0) (l1 : lv.lookup 1 = some (.int x1)) (l2 : lv.lookup 2 = some (.int x2)) (l3 : lv.lookup 3 = some (.int x3)) (l4 : lv.lookup 4 = some (.int x4)) (l5 : lv.lookup 5 = some (.long x5)) (l7 : lv.lookup 7 = some (.int x7)) (l8 : lv.lookup 8 = some (.int x8)) (l9 : lv.lookup 9 = some (.int x9)) (l10 : lv.lookup 10 = some (.int x10)) (l11 : lv.lookup 11 = some (.int x11)) (i0 : am_isR x0 = true) (hs : fg_394_188 N rec_134 rec_154 x0 x1 x2 x3 x4 x5 x7 x8 x9 x10 x11 h = some o) : am_W X (d + 3) 394 188 lv [] h (fun q => q = o) := by
  unfold fg_394_188 at hs
  refine aw_lload (pc1 := 190) at_394_188 l5 rfl ?_
  refine aw_vload_n (pc1 := 191) at_394_190 l0 i0 rfl ?_
  refine aw_iload_n (pc1 := 192) at_394_191 l3 rfl ?_
  refine aw_iload_n (pc1 := 193) at_394_192 l2 rfl ?_
  refine aw_iload (pc1 := 195) at_394_193 l4 rfl ?_
  refine aw_iload (pc1 := 197) at_394_195 l10 rfl ?_
  refine aw_iload (pc1 := 199) at_394_197 l11 rfl ?_
  obtain ⟨z1, hs1⟩ := am_ift hs
  clear hs
  refine aw_call (F := fm_380 x0 x3 x2 x4 x10 x11 h) (t := true) (na := 6) (kd := 1) (as := [x0, (.int x3), (.int x2), (.int x4), (.int x10), (.int x11)]) at_394_199 (am_k3v kb_380) mn_380 mk_380 rfl rfl (am_ok_v mi_380 (am_hl rfl (am_ccR i0 (am_ccI (am_ccI (am_ccI (am_ccI (am_ccI am_cats_0)))))) rfl) z1) (am_hc (am_ccL am_cats_0) rfl) (fun _ => ⟨rfl, hh_394⟩) (fun o1 hz9 => rm_380 x0 x3 x2 x4 x10 x11 h o1 i0 hz9) ?_
  rcases am_cL_s hs1 with ⟨v2, h3, f4, hs2⟩ | hs2
  · clear hs1
    refine Or.inl ⟨_, _, f4, ?_⟩
    show am_W X _ 394 202 _ [(.long v2), (.long x5)] h3 _
    refine aw_ladd (v := (x5 + v2)) (pc1 := 203) at_394_202 rfl rfl ?_
    refine aw_lstore (lv1 := am_put2 _ 5 _) (pc1 := 205) at_394_203 rfl rfl ?_
    refine aw_iinc (v := (x11 + 1)) (c := 1) (lv1 := am_put1 _ 11 _) (pc1 := 208) at_394_205 (am_lk2 l11 rfl rfl) (by decide) rfl rfl rfl ?_
    refine aw_goto at_394_208 ?_
    exact q_154 x0 x1 x2 x3 x4 ((x5 + v2)) x7 x8 x9 x10 ((x11 + 1)) h3 o hs2 _ (am_lk1 (am_lk2 l0 rfl rfl) rfl rfl) (am_lk1 (am_lk2 l1 rfl rfl) rfl rfl) (am_lk1 (am_lk2 l2 rfl rfl) rfl rfl) (am_lk1 (am_lk2 l3 rfl rfl) rfl rfl) (am_lk1 (am_lk2 l4 rfl rfl) rfl rfl) (am_lk1 am_lk02 rfl rfl) (am_lk1 (am_lk2 l7 rfl rfl) rfl rfl) (am_lk1 (am_lk2 l8 rfl rfl) rfl rfl) (am_lk1 (am_lk2 l9 rfl rfl) rfl rfl) (am_lk1 (am_lk2 l10 rfl rfl) rfl rfl) am_lk0 i0
  · clear hs1
    exact Or.inr hs2
def fg_394_168 (N : Nat) (rec_134 : Value → Int32 → Int32 → Int32 → Int32 → Int64 → Int32 → Int32 → Int32 → Int32 → am_H → Option am_O) (rec_154 : Value → Int32 → Int32 → Int32 → Int32 → Int64 → Int32 → Int32 → Int32 → Int32 → Int32 → am_H → Option am_O) (x0 : Value) (x1 : Int32) (x2 : Int32) (x3 : Int32) (x4 : Int32) (x5 : Int64) (x7 : Int32) (x8 : Int32) (x9 : Int32) (x10 : Int32) (x11 : Int32) (s0 : Int32) (s1 : Int32) (h : am_H) : Option am_O := (if s1 ≤ s0 then (fg_394_211 N rec_134 x0 x1 x2 x3 x4 x5 x7 x8 x9 x10 h) else (if ¬ x10 = x8 then (fg_394_188 N rec_134 rec_154 x0 x1 x2 x3 x4 x5 x7 x8 x9 x10 x11 h) else (if x11 < x9 then (fg_394_188 N rec_134 rec_154 x0 x1 x2 x3 x4 x5 x7 x8 x9 x10 x11 h) else (fg_394_211 N rec_134 x0 x1 x2 x3 x4 x5 x7 x8 x9 x10 h))))
theorem rg_394_168 {X : am_X} {d : Nat} {N : Nat} {rec_134 : Value → Int32 → Int32 → Int32 → Int32 → Int64 → Int32 → Int32 → Int32 → Int32 → am_H → Option am_O} {rec_154 : Value → Int32 → Int32 → Int32 → Int32 → Int64 → Int32 → Int32 → Int32 → Int32 → Int32 → am_H → Option am_O} (q_134 : ∀ (x0 : Value) (x1 : Int32) (x2 : Int32) (x3 : Int32) (x4 : Int32) (x5 : Int64) (x7 : Int32) (x8 : Int32) (x9 : Int32) (x10 : Int32) (h : am_H) (o : am_O), rec_134 x0 x1 x2 x3 x4 x5 x7 x8 x9 x10 h = some o → ∀ lv : am_LV, (lv.lookup 0 = some x0) → (lv.lookup 1 = some (.int x1)) → (lv.lookup 2 = some (.int x2)) → (lv.lookup 3 = some (.int x3)) → (lv.lookup 4 = some (.int x4)) → (lv.lookup 5 = some (.long x5)) → (lv.lookup 7 = some (.int x7)) → (lv.lookup 8 = some (.int x8)) → (lv.lookup 9 = some (.int x9)) → (lv.lookup 10 = some (.int x10)) → (am_isR x0 = true) → am_W X (d + 3) 394 134 lv [] h (fun q => q = o)) (q_154 : ∀ (x0 : Value) (x1 : Int32) (x2 : Int32) (x3 : Int32) (x4 : Int32) (x5 : Int64) (x7 : Int32) (x8 : Int32) (x9 : Int32) (x10 : Int32) (x11 : Int32) (h : am_H) (o : am_O), rec_154 x0 x1 x2 x3 x4 x5 x7 x8 x9 x10 x11 h = some o → ∀ lv : am_LV, (lv.lookup 0 = some x0) → (lv.lookup 1 = some (.int x1)) → (lv.lookup 2 = some (.int x2)) → (lv.lookup 3 = some (.int x3)) → (lv.lookup 4 = some (.int x4)) → (lv.lookup 5 = some (.long x5)) → (lv.lookup 7 = some (.int x7)) → (lv.lookup 8 = some (.int x8)) → (lv.lookup 9 = some (.int x9)) → (lv.lookup 10 = some (.int x10)) → (lv.lookup 11 = some (.int x11)) → (am_isR x0 = true) → am_W X (d + 3) 394 154 lv [] h (fun q => q = o)) {lv : am_LV} (x0 : Value) (x1 : Int32) (x2 : Int32) (x3 : Int32) (x4 : Int32) (x5 : Int64) (x7 : Int32) (x8 : Int32) (x9 : Int32) (x10 : Int32) (x11 : Int32) (s0 : Int32) (s1 : Int32) (h : am_H) (o : am_O) (l0 : lv.lookup 0 = some x0) (l1 : lv.lookup 1 = some (.int x1)) (l2 : lv.lookup 2 = some (.int x2)) (l3 : lv.lookup 3 = some (.int x3)) (l4 : lv.lookup 4 = some (.int x4)) (l5 : lv.lookup 5 = some (.long x5)) (l7 : lv.lookup 7 = some (.int x7)) (l8 : lv.lookup 8 = some (.int x8)) (l9 : lv.lookup 9 = some (.int x9)) (l10 : lv.lookup 10 = some (.int x10)) (l11 : lv.lookup 11 = some (.int x11)) (i0 : am_isR x0 = true) (hs : fg_394_168 N rec_134 rec_154 x0 x1 x2 x3 x4 x5 x7 x8 x9 x10 x11 s0 s1 h = some o) : am_W X (d + 3) 394 168 lv [(.int s1), (.int s0)] h (fun q => q = o) := by
  unfold fg_394_168 at hs
  by_cases c1 : s1 ≤ s0
  · rw [if_pos c1] at hs
    refine aw_icge_t at_394_168 c1 ?_
    exact rg_394_211 q_134 x0 x1 x2 x3 x4 x5 x7 x8 x9 x10 h o l0 l1 l2 l3 l4 l5 l7 l8 l9 l10 i0 hs
  · rw [if_neg c1] at hs
    refine aw_icge_f (pc1 := 171) at_394_168 c1 rfl ?_
    refine aw_iload (pc1 := 173) at_394_171 l10 rfl ?_
    refine aw_iload (pc1 := 175) at_394_173 l8 rfl ?_
    by_cases c2 : ¬ x10 = x8
    · rw [if_pos c2] at hs
      refine aw_icne_t at_394_175 c2 ?_
      exact rg_394_188 q_134 q_154 x0 x1 x2 x3 x4 x5 x7 x8 x9 x10 x11 h o l0 l1 l2 l3 l4 l5 l7 l8 l9 l10 l11 i0 hs
    · rw [if_neg c2] at hs
      refine aw_icne_f (pc1 := 178) at_394_175 c2 rfl ?_
      refine aw_iload (pc1 := 180) at_394_178 l11 rfl ?_
      refine aw_iload (pc1 := 182) at_394_180 l9 rfl ?_
      by_cases c3 : x11 < x9
      · rw [if_pos c3] at hs
        refine aw_iclt_t at_394_182 c3 ?_
        exact rg_394_188 q_134 q_154 x0 x1 x2 x3 x4 x5 x7 x8 x9 x10 x11 h o l0 l1 l2 l3 l4 l5 l7 l8 l9 l10 l11 i0 hs
      · rw [if_neg c3] at hs
        refine aw_iclt_f (pc1 := 185) at_394_182 c3 rfl ?_
        refine aw_goto at_394_185 ?_
        exact rg_394_211 q_134 x0 x1 x2 x3 x4 x5 x7 x8 x9 x10 h o l0 l1 l2 l3 l4 l5 l7 l8 l9 l10 i0 hs
def fg_394_154 (N : Nat) (rec_134 : Value → Int32 → Int32 → Int32 → Int32 → Int64 → Int32 → Int32 → Int32 → Int32 → am_H → Option am_O) : Nat → Value → Int32 → Int32 → Int32 → Int32 → Int64 → Int32 → Int32 → Int32 → Int32 → Int32 → am_H → Option am_O
  | 0 => fun _ _ _ _ _ _ _ _ _ _ _ _ => none
  | K + 1 => fun x0 x1 x2 x3 x4 x5 x7 x8 x9 x10 x11 h => (if x7 ≤ 1 then (fg_394_168 N rec_134 (fg_394_154 N rec_134 K) x0 x1 x2 x3 x4 x5 x7 x8 x9 x10 x11 x11 1 h) else (fg_394_168 N rec_134 (fg_394_154 N rec_134 K) x0 x1 x2 x3 x4 x5 x7 x8 x9 x10 x11 x11 x4 h))
theorem rg_394_154 {X : am_X} {d : Nat} {N : Nat} {rec_134 : Value → Int32 → Int32 → Int32 → Int32 → Int64 → Int32 → Int32 → Int32 → Int32 → am_H → Option am_O} (q_134 : ∀ (x0 : Value) (x1 : Int32) (x2 : Int32) (x3 : Int32) (x4 : Int32) (x5 : Int64) (x7 : Int32) (x8 : Int32) (x9 : Int32) (x10 : Int32) (h : am_H) (o : am_O), rec_134 x0 x1 x2 x3 x4 x5 x7 x8 x9 x10 h = some o → ∀ lv : am_LV, (lv.lookup 0 = some x0) → (lv.lookup 1 = some (.int x1)) → (lv.lookup 2 = some (.int x2)) → (lv.lookup 3 = some (.int x3)) → (lv.lookup 4 = some (.int x4)) → (lv.lookup 5 = some (.long x5)) → (lv.lookup 7 = some (.int x7)) → (lv.lookup 8 = some (.int x8)) → (lv.lookup 9 = some (.int x9)) → (lv.lookup 10 = some (.int x10)) → (am_isR x0 = true) → am_W X (d + 3) 394 134 lv [] h (fun q => q = o)) : ∀ (K : Nat) (x0 : Value) (x1 : Int32) (x2 : Int32) (x3 : Int32) (x4 : Int32) (x5 : Int64) (x7 : Int32) (x8 : Int32) (x9 : Int32) (x10 : Int32) (x11 : Int32) (h : am_H) (o : am_O), fg_394_154 N rec_134 K x0 x1 x2 x3 x4 x5 x7 x8 x9 x10 x11 h = some o → ∀ lv : am_LV, (lv.lookup 0 = some x0) → (lv.lookup 1 = some (.int x1)) → (lv.lookup 2 = some (.int x2)) → (lv.lookup 3 = some (.int x3)) → (lv.lookup 4 = some (.int x4)) → (lv.lookup 5 = some (.long x5)) → (lv.lookup 7 = some (.int x7)) → (lv.lookup 8 = some (.int x8)) → (lv.lookup 9 = some (.int x9)) → (lv.lookup 10 = some (.int x10)) → (lv.lookup 11 = some (.int x11)) → (am_isR x0 = true) → am_W X (d + 3) 394 154 lv [] h (fun q => q = o) := by
  intro K
  induction K with
  | zero => intro x0 x1 x2 x3 x4 x5 x7 x8 x9 x10 x11 h o hs; cases hs
  | succ K ih =>
    intro x0 x1 x2 x3 x4 x5 x7 x8 x9 x10 x11 h o hs lv l0 l1 l2 l3 l4 l5 l7 l8 l9 l10 l11 i0
    unfold fg_394_154 at hs
    refine aw_iload (pc1 := 156) at_394_154 l11 rfl ?_
    refine aw_iload (pc1 := 158) at_394_156 l7 rfl ?_
    refine aw_iconst (v := 1) (pc1 := 159) at_394_158 (by decide) rfl ?_
    by_cases c1 : x7 ≤ 1
    · rw [if_pos c1] at hs
      refine aw_icle_t at_394_159 c1 ?_
      refine aw_iconst (v := 1) (pc1 := 168) at_394_167 (by decide) rfl ?_
      exact rg_394_168 q_134 (fun z0 z1 z2 z3 z4 z5 z6 z7 z8 z9 z10 h o hs => ih z0 z1 z2 z3 z4 z5 z6 z7 z8 z9 z10 h o hs) x0 x1 x2 x3 x4 x5 x7 x8 x9 x10 x11 x11 1 h o l0 l1 l2 l3 l4 l5 l7 l8 l9 l10 l11 i0 hs
    · rw [if_neg c1] at hs
      refine aw_icle_f (pc1 := 162) at_394_159 c1 rfl ?_
      refine aw_iload (pc1 := 164) at_394_162 l4 rfl ?_
      refine aw_goto at_394_164 ?_
      exact rg_394_168 q_134 (fun z0 z1 z2 z3 z4 z5 z6 z7 z8 z9 z10 h o hs => ih z0 z1 z2 z3 z4 z5 z6 z7 z8 z9 z10 h o hs) x0 x1 x2 x3 x4 x5 x7 x8 x9 x10 x11 x11 x4 h o l0 l1 l2 l3 l4 l5 l7 l8 l9 l10 l11 i0 hs
def fg_394_152 (N : Nat) (rec_134 : Value → Int32 → Int32 → Int32 → Int32 → Int64 → Int32 → Int32 → Int32 → Int32 → am_H → Option am_O) (x0 : Value) (x1 : Int32) (x2 : Int32) (x3 : Int32) (x4 : Int32) (x5 : Int64) (x7 : Int32) (x8 : Int32) (x9 : Int32) (x10 : Int32) (s0 : Int32) (h : am_H) : Option am_O := (fg_394_154 N rec_134 N x0 x1 x2 x3 x4 x5 x7 x8 x9 x10 s0 h)
theorem rg_394_152 {X : am_X} {d : Nat} {N : Nat} {rec_134 : Value → Int32 → Int32 → Int32 → Int32 → Int64 → Int32 → Int32 → Int32 → Int32 → am_H → Option am_O} (q_134 : ∀ (x0 : Value) (x1 : Int32) (x2 : Int32) (x3 : Int32) (x4 : Int32) (x5 : Int64) (x7 : Int32) (x8 : Int32) (x9 : Int32) (x10 : Int32) (h : am_H) (o : am_O), rec_134 x0 x1 x2 x3 x4 x5 x7 x8 x9 x10 h = some o → ∀ lv : am_LV, (lv.lookup 0 = some x0) → (lv.lookup 1 = some (.int x1)) → (lv.lookup 2 = some (.int x2)) → (lv.lookup 3 = some (.int x3)) → (lv.lookup 4 = some (.int x4)) → (lv.lookup 5 = some (.long x5)) → (lv.lookup 7 = some (.int x7)) → (lv.lookup 8 = some (.int x8)) → (lv.lookup 9 = some (.int x9)) → (lv.lookup 10 = some (.int x10)) → (am_isR x0 = true) → am_W X (d + 3) 394 134 lv [] h (fun q => q = o)) {lv : am_LV} (x0 : Value) (x1 : Int32) (x2 : Int32) (x3 : Int32) (x4 : Int32) (x5 : Int64) (x7 : Int32) (x8 : Int32) (x9 : Int32) (x10 : Int32) (s0 : Int32) (h : am_H) (o : am_O) (l0 : lv.lookup 0 = some x0) (l1 : lv.lookup 1 = some (.int x1)) (l2 : lv.lookup 2 = some (.int x2)) (l3 : lv.lookup 3 = some (.int x3)) (l4 : lv.lookup 4 = some (.int x4)) (l5 : lv.lookup 5 = some (.long x5)) (l7 : lv.lookup 7 = some (.int x7)) (l8 : lv.lookup 8 = some (.int x8)) (l9 : lv.lookup 9 = some (.int x9)) (l10 : lv.lookup 10 = some (.int x10)) (i0 : am_isR x0 = true) (hs : fg_394_152 N rec_134 x0 x1 x2 x3 x4 x5 x7 x8 x9 x10 s0 h = some o) : am_W X (d + 3) 394 152 lv [(.int s0)] h (fun q => q = o) := by
  unfold fg_394_152 at hs
  refine aw_istore (lv1 := am_put1 _ 11 _) (pc1 := 154) at_394_152 rfl rfl ?_
  exact rg_394_154 q_134 N x0 x1 x2 x3 x4 x5 x7 x8 x9 x10 s0 h o hs _ (am_lk1 l0 rfl rfl) (am_lk1 l1 rfl rfl) (am_lk1 l2 rfl rfl) (am_lk1 l3 rfl rfl) (am_lk1 l4 rfl rfl) (am_lk1 l5 rfl rfl) (am_lk1 l7 rfl rfl) (am_lk1 l8 rfl rfl) (am_lk1 l9 rfl rfl) (am_lk1 l10 rfl rfl) am_lk0 i0
def fg_394_134 (N : Nat) : Nat → Value → Int32 → Int32 → Int32 → Int32 → Int64 → Int32 → Int32 → Int32 → Int32 → am_H → Option am_O
  | 0 => fun _ _ _ _ _ _ _ _ _ _ _ => none
  | K + 1 => fun x0 x1 x2 x3 x4 x5 x7 x8 x9 x10 h => (if x8 < x10 then (if x7 ≤ 2 then (fg_394_248 N x0 x1 x2 x3 x5 x7 x9 1 h) else am_cI false (fm_382 x2 2 h) (fun v3 h4 => ((am_vR (am_pG 3098 x0 h4)).bind fun v6 => (if am_pOk 12 x0 h4 then am_cI true (fm_393 N x0 x1 2 h4) (fun v9 h10 => ((am_pA 0 v6 v9 h10).bind fun v12 => (if am_pOk 12 x0 h10 then am_cL true (fm_383 x0 x3 v3 v12 h10) (fun v15 h16 => (fg_394_248 N x0 x1 x2 x3 x5 x7 x9 v15 h16)) else none))) else none)))) else (if x7 ≤ 1 then (fg_394_152 N (fg_394_134 N K) x0 x1 x2 x3 x4 x5 x7 x8 x9 x10 0 h) else (fg_394_152 N (fg_394_134 N K) x0 x1 x2 x3 x4 x5 x7 x8 x9 x10 1 h)))
theorem rg_394_134 {X : am_X} {d : Nat} {N : Nat} : ∀ (K : Nat) (x0 : Value) (x1 : Int32) (x2 : Int32) (x3 : Int32) (x4 : Int32) (x5 : Int64) (x7 : Int32) (x8 : Int32) (x9 : Int32) (x10 : Int32) (h : am_H) (o : am_O), fg_394_134 N K x0 x1 x2 x3 x4 x5 x7 x8 x9 x10 h = some o → ∀ lv : am_LV, (lv.lookup 0 = some x0) → (lv.lookup 1 = some (.int x1)) → (lv.lookup 2 = some (.int x2)) → (lv.lookup 3 = some (.int x3)) → (lv.lookup 4 = some (.int x4)) → (lv.lookup 5 = some (.long x5)) → (lv.lookup 7 = some (.int x7)) → (lv.lookup 8 = some (.int x8)) → (lv.lookup 9 = some (.int x9)) → (lv.lookup 10 = some (.int x10)) → (am_isR x0 = true) → am_W X (d + 3) 394 134 lv [] h (fun q => q = o) := by
  intro K
  induction K with
  | zero => intro x0 x1 x2 x3 x4 x5 x7 x8 x9 x10 h o hs; cases hs
  | succ K ih =>
    intro x0 x1 x2 x3 x4 x5 x7 x8 x9 x10 h o hs lv l0 l1 l2 l3 l4 l5 l7 l8 l9 l10 i0
    unfold fg_394_134 at hs
    refine aw_iload (pc1 := 136) at_394_134 l10 rfl ?_
    refine aw_iload (pc1 := 138) at_394_136 l8 rfl ?_
    by_cases c1 : x8 < x10
    · rw [if_pos c1] at hs
      refine aw_icgt_t at_394_138 c1 ?_
      refine aw_iload (pc1 := 219) at_394_217 l7 rfl ?_
      refine aw_iconst (v := 2) (pc1 := 220) at_394_219 (by decide) rfl ?_
      by_cases c2 : x7 ≤ 2
      · rw [if_pos c2] at hs
        refine aw_icle_t at_394_220 c2 ?_
        refine aw_lconst (v := 1) (pc1 := 248) at_394_247 (by decide) rfl ?_
        exact rg_394_248 x0 x1 x2 x3 x5 x7 x9 1 h o l0 l1 l2 l3 l5 l7 l9 i0 hs
      · rw [if_neg c2] at hs
        refine aw_icle_f (pc1 := 223) at_394_220 c2 rfl ?_
        refine aw_vload_n (pc1 := 224) at_394_223 l0 i0 rfl ?_
        refine aw_iload_n (pc1 := 225) at_394_224 l3 rfl ?_
        refine aw_iload_n (pc1 := 226) at_394_225 l2 rfl ?_
        refine aw_iconst (v := 2) (pc1 := 227) at_394_226 (by decide) rfl ?_
        refine aw_call (F := fm_382 x2 2 h) (t := false) (na := 2) (kd := 0) (as := [(.int x2), (.int 2)]) at_394_227 (am_k3s kb_382) mn_382 mk_382 rfl rfl (am_ok_s mi_382 (am_hl rfl (am_ccI (am_ccI am_cats_0)) rfl)) (am_hc (am_ccI (am_ccR i0 am_cats_0)) rfl) (fun hz9 => by cases hz9) (fun o1 hz9 => rm_382 x2 2 h o1  hz9) ?_
        rcases am_cI_s hs with ⟨v3, h4, f5, hs1⟩ | hs1
        · clear hs
          refine Or.inl ⟨_, _, f5, ?_⟩
          show am_W X _ 394 230 _ [(.int v3), (.int x3), x0] h4 _
          refine aw_vload_n (pc1 := 231) at_394_230 l0 i0 rfl ?_
          obtain ⟨v6, e7, hs2⟩ := am_bind hs1
          clear hs1
          refine aw_pG (pc1 := 234) at_394_231 (am_vR_s e7).1 rfl ?_
          refine aw_vload_n (pc1 := 235) at_394_234 l0 i0 rfl ?_
          refine aw_iload_n (pc1 := 236) at_394_235 l1 rfl ?_
          refine aw_iconst (v := 2) (pc1 := 237) at_394_236 (by decide) rfl ?_
          obtain ⟨z8, hs3⟩ := am_ift hs2
          clear hs2
          refine aw_call (F := fm_393 N x0 x1 2 h4) (t := true) (na := 3) (kd := 1) (as := [x0, (.int x1), (.int 2)]) at_394_237 (am_k3v kb_393) mn_393 mk_393 rfl rfl (am_ok_v mi_393 (am_hl rfl (am_ccR i0 (am_ccI (am_ccI am_cats_0))) rfl) z8) (am_hc (am_ccR (am_vR_s e7).2 (am_ccI (am_ccI (am_ccR i0 am_cats_0)))) rfl) (fun _ => ⟨rfl, hh_394⟩) (fun o1 hz9 => rm_393 x0 x1 2 h4 o1 i0 hz9) ?_
          rcases am_cI_s hs3 with ⟨v9, h10, f11, hs4⟩ | hs4
          · clear hs3
            refine Or.inl ⟨_, _, f11, ?_⟩
            show am_W X _ 394 240 _ [(.int v9), v6, (.int v3), (.int x3), x0] h10 _
            obtain ⟨v12, e13, hs5⟩ := am_bind hs4
            clear hs4
            refine aw_pA (pc1 := 241) at_394_240 (Or.inl ⟨rfl, rfl⟩) e13 rfl ?_
            obtain ⟨z14, hs6⟩ := am_ift hs5
            clear hs5
            refine aw_call (F := fm_383 x0 x3 v3 v12 h10) (t := true) (na := 4) (kd := 1) (as := [x0, (.int x3), (.int v3), (.int v12)]) at_394_241 (am_k3v kb_383) mn_383 mk_383 rfl rfl (am_ok_v mi_383 (am_hl rfl (am_ccR i0 (am_ccI (am_ccI (am_ccI am_cats_0)))) rfl) z14) (am_hc am_cats_0 rfl) (fun _ => ⟨rfl, hh_394⟩) (fun o1 hz9 => rm_383 x0 x3 v3 v12 h10 o1 i0 hz9) ?_
            rcases am_cL_s hs6 with ⟨v15, h16, f17, hs7⟩ | hs7
            · clear hs6
              refine Or.inl ⟨_, _, f17, ?_⟩
              show am_W X _ 394 244 _ [(.long v15)] h16 _
              refine aw_goto at_394_244 ?_
              exact rg_394_248 x0 x1 x2 x3 x5 x7 x9 v15 h16 o l0 l1 l2 l3 l5 l7 l9 i0 hs7
            · clear hs6
              exact Or.inr hs7
          · clear hs3
            exact Or.inr hs4
        · clear hs
          exact Or.inr hs1
    · rw [if_neg c1] at hs
      refine aw_icgt_f (pc1 := 141) at_394_138 c1 rfl ?_
      refine aw_iload (pc1 := 143) at_394_141 l7 rfl ?_
      refine aw_iconst (v := 1) (pc1 := 144) at_394_143 (by decide) rfl ?_
      by_cases c18 : x7 ≤ 1
      · rw [if_pos c18] at hs
        refine aw_icle_t at_394_144 c18 ?_
        refine aw_iconst (v := 0) (pc1 := 152) at_394_151 (by decide) rfl ?_
        exact rg_394_152 (fun z0 z1 z2 z3 z4 z5 z6 z7 z8 z9 h o hs => ih z0 z1 z2 z3 z4 z5 z6 z7 z8 z9 h o hs) x0 x1 x2 x3 x4 x5 x7 x8 x9 x10 0 h o l0 l1 l2 l3 l4 l5 l7 l8 l9 l10 i0 hs
      · rw [if_neg c18] at hs
        refine aw_icle_f (pc1 := 147) at_394_144 c18 rfl ?_
        refine aw_iconst (v := 1) (pc1 := 148) at_394_147 (by decide) rfl ?_
        refine aw_goto at_394_148 ?_
        exact rg_394_152 (fun z0 z1 z2 z3 z4 z5 z6 z7 z8 z9 h o hs => ih z0 z1 z2 z3 z4 z5 z6 z7 z8 z9 h o hs) x0 x1 x2 x3 x4 x5 x7 x8 x9 x10 1 h o l0 l1 l2 l3 l4 l5 l7 l8 l9 l10 i0 hs
def fg_394_129 (N : Nat) (x0 : Value) (x1 : Int32) (x2 : Int32) (x3 : Int32) (x4 : Int32) (x5 : Int64) (x7 : Int32) (x8 : Int32) (s0 : Int32) (h : am_H) : Option am_O := (fg_394_134 N N x0 x1 x2 x3 x4 x5 x7 x8 s0 1 h)
theorem rg_394_129 {X : am_X} {d : Nat} {N : Nat} {lv : am_LV} (x0 : Value) (x1 : Int32) (x2 : Int32) (x3 : Int32) (x4 : Int32) (x5 : Int64) (x7 : Int32) (x8 : Int32) (s0 : Int32) (h : am_H) (o : am_O) (l0 : lv.lookup 0 = some x0) (l1 : lv.lookup 1 = some (.int x1)) (l2 : lv.lookup 2 = some (.int x2)) (l3 : lv.lookup 3 = some (.int x3)) (l4 : lv.lookup 4 = some (.int x4)) (l5 : lv.lookup 5 = some (.long x5)) (l7 : lv.lookup 7 = some (.int x7)) (l8 : lv.lookup 8 = some (.int x8)) (i0 : am_isR x0 = true) (hs : fg_394_129 N x0 x1 x2 x3 x4 x5 x7 x8 s0 h = some o) : am_W X (d + 3) 394 129 lv [(.int s0)] h (fun q => q = o) := by
  unfold fg_394_129 at hs
  refine aw_istore (lv1 := am_put1 _ 9 _) (pc1 := 131) at_394_129 rfl rfl ?_
  refine aw_iconst (v := 1) (pc1 := 132) at_394_131 (by decide) rfl ?_
  refine aw_istore (lv1 := am_put1 _ 10 _) (pc1 := 134) at_394_132 rfl rfl ?_
  exact rg_394_134 N x0 x1 x2 x3 x4 x5 x7 x8 s0 1 h o hs _ (am_lk1 (am_lk1 l0 rfl rfl) rfl rfl) (am_lk1 (am_lk1 l1 rfl rfl) rfl rfl) (am_lk1 (am_lk1 l2 rfl rfl) rfl rfl) (am_lk1 (am_lk1 l3 rfl rfl) rfl rfl) (am_lk1 (am_lk1 l4 rfl rfl) rfl rfl) (am_lk1 (am_lk1 l5 rfl rfl) rfl rfl) (am_lk1 (am_lk1 l7 rfl rfl) rfl rfl) (am_lk1 (am_lk1 l8 rfl rfl) rfl rfl) (am_lk1 am_lk0 rfl rfl) am_lk0 i0
def fg_394_75 (N : Nat) (rec_42 : Value → Int32 → Int32 → Int32 → Int32 → Int64 → Int32 → am_H → Option am_O) (x0 : Value) (x1 : Int32) (x2 : Int32) (x3 : Int32) (x4 : Int32) (x7 : Int32) (s0 : Int64) (s1 : Int64) (h : am_H) : Option am_O := (rec_42 x0 x1 x2 x3 x4 ((s0 + s1)) ((x7 + 1)) h)
theorem rg_394_75 {X : am_X} {d : Nat} {N : Nat} {rec_42 : Value → Int32 → Int32 → Int32 → Int32 → Int64 → Int32 → am_H → Option am_O} (q_42 : ∀ (x0 : Value) (x1 : Int32) (x2 : Int32) (x3 : Int32) (x4 : Int32) (x5 : Int64) (x7 : Int32) (h : am_H) (o : am_O), rec_42 x0 x1 x2 x3 x4 x5 x7 h = some o → ∀ lv : am_LV, (lv.lookup 0 = some x0) → (lv.lookup 1 = some (.int x1)) → (lv.lookup 2 = some (.int x2)) → (lv.lookup 3 = some (.int x3)) → (lv.lookup 4 = some (.int x4)) → (lv.lookup 5 = some (.long x5)) → (lv.lookup 7 = some (.int x7)) → (am_isR x0 = true) → am_W X (d + 3) 394 42 lv [] h (fun q => q = o)) {lv : am_LV} (x0 : Value) (x1 : Int32) (x2 : Int32) (x3 : Int32) (x4 : Int32) (x7 : Int32) (s0 : Int64) (s1 : Int64) (h : am_H) (o : am_O) (l0 : lv.lookup 0 = some x0) (l1 : lv.lookup 1 = some (.int x1)) (l2 : lv.lookup 2 = some (.int x2)) (l3 : lv.lookup 3 = some (.int x3)) (l4 : lv.lookup 4 = some (.int x4)) (l7 : lv.lookup 7 = some (.int x7)) (i0 : am_isR x0 = true) (hs : fg_394_75 N rec_42 x0 x1 x2 x3 x4 x7 s0 s1 h = some o) : am_W X (d + 3) 394 75 lv [(.long s1), (.long s0)] h (fun q => q = o) := by
  unfold fg_394_75 at hs
  refine aw_ladd (v := (s0 + s1)) (pc1 := 76) at_394_75 rfl rfl ?_
  refine aw_lstore (lv1 := am_put2 _ 5 _) (pc1 := 78) at_394_76 rfl rfl ?_
  refine aw_iinc (v := (x7 + 1)) (c := 1) (lv1 := am_put1 _ 7 _) (pc1 := 81) at_394_78 (am_lk2 l7 rfl rfl) (by decide) rfl rfl rfl ?_
  refine aw_goto at_394_81 ?_
  exact q_42 x0 x1 x2 x3 x4 ((s0 + s1)) ((x7 + 1)) h o hs _ (am_lk1 (am_lk2 l0 rfl rfl) rfl rfl) (am_lk1 (am_lk2 l1 rfl rfl) rfl rfl) (am_lk1 (am_lk2 l2 rfl rfl) rfl rfl) (am_lk1 (am_lk2 l3 rfl rfl) rfl rfl) (am_lk1 (am_lk2 l4 rfl rfl) rfl rfl) (am_lk1 am_lk02 rfl rfl) am_lk0 i0
def fg_394_42 (N : Nat) : Nat → Value → Int32 → Int32 → Int32 → Int32 → Int64 → Int32 → am_H → Option am_O
  | 0 => fun _ _ _ _ _ _ _ _ => none
  | K + 1 => fun x0 x1 x2 x3 x4 x5 x7 h => (if x2 ≤ x7 then am_cI false (fm_343 x2 h) (fun v2 h3 => (if ¬ v2 = 0 then ((am_vR (am_pG 3098 x0 h3)).bind fun v6 => ((am_pA 0 v6 (x1 + 1) h3).bind fun v8 => (if v2 ≤ 1 then (fg_394_129 N x0 x1 x2 x3 x4 x5 v2 v8 0 h3) else ((am_vR (am_pG 3098 x0 h3)).bind fun v11 => (if am_pOk 12 x0 h3 then am_cI true (fm_393 N x0 x1 1 h3) (fun v14 h15 => ((am_pA 0 v11 v14 h15).bind fun v17 => (fg_394_129 N x0 x1 x2 x3 x4 x5 v2 v8 v17 h15))) else none))))) else some (.inl (some (.long x5), h3)))) else am_cI false (fm_334 x7 h) (fun v19 h20 => am_cI false (fm_334 x2 h20) (fun v22 h23 => (if ¬ v19 = v22 then (fg_394_75 N (fg_394_42 N K) x0 x1 x2 x3 x4 x7 x5 0 h23) else (if am_pOk 12 x0 h23 then am_cL true (fm_384 x0 x3 x7 x4 h23) (fun v27 h28 => (fg_394_75 N (fg_394_42 N K) x0 x1 x2 x3 x4 x7 x5 v27 h28)) else none)))))
theorem rg_394_42 {X : am_X} {d : Nat} {N : Nat} : ∀ (K : Nat) (x0 : Value) (x1 : Int32) (x2 : Int32) (x3 : Int32) (x4 : Int32) (x5 : Int64) (x7 : Int32) (h : am_H) (o : am_O), fg_394_42 N K x0 x1 x2 x3 x4 x5 x7 h = some o → ∀ lv : am_LV, (lv.lookup 0 = some x0) → (lv.lookup 1 = some (.int x1)) → (lv.lookup 2 = some (.int x2)) → (lv.lookup 3 = some (.int x3)) → (lv.lookup 4 = some (.int x4)) → (lv.lookup 5 = some (.long x5)) → (lv.lookup 7 = some (.int x7)) → (am_isR x0 = true) → am_W X (d + 3) 394 42 lv [] h (fun q => q = o) := by
  intro K
  induction K with
  | zero => intro x0 x1 x2 x3 x4 x5 x7 h o hs; cases hs
  | succ K ih =>
    intro x0 x1 x2 x3 x4 x5 x7 h o hs lv l0 l1 l2 l3 l4 l5 l7 i0
    unfold fg_394_42 at hs
    refine aw_iload (pc1 := 44) at_394_42 l7 rfl ?_
    refine aw_iload_n (pc1 := 45) at_394_44 l2 rfl ?_
    by_cases c1 : x2 ≤ x7
    · rw [if_pos c1] at hs
      refine aw_icge_t at_394_45 c1 ?_
      refine aw_iload_n (pc1 := 85) at_394_84 l2 rfl ?_
      refine aw_call (F := fm_343 x2 h) (t := false) (na := 1) (kd := 0) (as := [(.int x2)]) at_394_85 (am_k3s kb_343) mn_343 mk_343 rfl rfl (am_ok_s mi_343 (am_hl rfl (am_ccI am_cats_0) rfl)) (am_hc am_cats_0 rfl) (fun hz9 => by cases hz9) (fun o1 hz9 => rm_343 x2 h o1  hz9) ?_
      rcases am_cI_s hs with ⟨v2, h3, f4, hs1⟩ | hs1
      · clear hs
        refine Or.inl ⟨_, _, f4, ?_⟩
        show am_W X _ 394 88 _ [(.int v2)] h3 _
        refine aw_istore (lv1 := am_put1 _ 7 _) (pc1 := 90) at_394_88 rfl rfl ?_
        refine aw_iload (pc1 := 92) at_394_90 am_lk0 rfl ?_
        by_cases c5 : ¬ v2 = 0
        · rw [if_pos c5] at hs1
          refine aw_ifne_t at_394_92 c5 ?_
          refine aw_vload_n (pc1 := 99) at_394_98 (am_lk1 l0 rfl rfl) i0 rfl ?_
          obtain ⟨v6, e7, hs2⟩ := am_bind hs1
          clear hs1
          refine aw_pG (pc1 := 102) at_394_99 (am_vR_s e7).1 rfl ?_
          refine aw_iload_n (pc1 := 103) at_394_102 (am_lk1 l1 rfl rfl) rfl ?_
          refine aw_iconst (v := 1) (pc1 := 104) at_394_103 (by decide) rfl ?_
          refine aw_iadd (v := (x1 + 1)) (pc1 := 105) at_394_104 rfl rfl ?_
          obtain ⟨v8, e9, hs3⟩ := am_bind hs2
          clear hs2
          refine aw_pA (pc1 := 106) at_394_105 (Or.inl ⟨rfl, rfl⟩) e9 rfl ?_
          refine aw_istore (lv1 := am_put1 _ 8 _) (pc1 := 108) at_394_106 rfl rfl ?_
          refine aw_iload (pc1 := 110) at_394_108 (am_lk1 am_lk0 rfl rfl) rfl ?_
          refine aw_iconst (v := 1) (pc1 := 111) at_394_110 (by decide) rfl ?_
          by_cases c10 : v2 ≤ 1
          · rw [if_pos c10] at hs3
            refine aw_icle_t at_394_111 c10 ?_
            refine aw_iconst (v := 0) (pc1 := 129) at_394_128 (by decide) rfl ?_
            exact rg_394_129 x0 x1 x2 x3 x4 x5 v2 v8 0 h3 o (am_lk1 (am_lk1 l0 rfl rfl) rfl rfl) (am_lk1 (am_lk1 l1 rfl rfl) rfl rfl) (am_lk1 (am_lk1 l2 rfl rfl) rfl rfl) (am_lk1 (am_lk1 l3 rfl rfl) rfl rfl) (am_lk1 (am_lk1 l4 rfl rfl) rfl rfl) (am_lk1 (am_lk1 l5 rfl rfl) rfl rfl) (am_lk1 am_lk0 rfl rfl) am_lk0 i0 hs3
          · rw [if_neg c10] at hs3
            refine aw_icle_f (pc1 := 114) at_394_111 c10 rfl ?_
            refine aw_vload_n (pc1 := 115) at_394_114 (am_lk1 (am_lk1 l0 rfl rfl) rfl rfl) i0 rfl ?_
            obtain ⟨v11, e12, hs4⟩ := am_bind hs3
            clear hs3
            refine aw_pG (pc1 := 118) at_394_115 (am_vR_s e12).1 rfl ?_
            refine aw_vload_n (pc1 := 119) at_394_118 (am_lk1 (am_lk1 l0 rfl rfl) rfl rfl) i0 rfl ?_
            refine aw_iload_n (pc1 := 120) at_394_119 (am_lk1 (am_lk1 l1 rfl rfl) rfl rfl) rfl ?_
            refine aw_iconst (v := 1) (pc1 := 121) at_394_120 (by decide) rfl ?_
            obtain ⟨z13, hs5⟩ := am_ift hs4
            clear hs4
            refine aw_call (F := fm_393 N x0 x1 1 h3) (t := true) (na := 3) (kd := 1) (as := [x0, (.int x1), (.int 1)]) at_394_121 (am_k3v kb_393) mn_393 mk_393 rfl rfl (am_ok_v mi_393 (am_hl rfl (am_ccR i0 (am_ccI (am_ccI am_cats_0))) rfl) z13) (am_hc (am_ccR (am_vR_s e12).2 am_cats_0) rfl) (fun _ => ⟨rfl, hh_394⟩) (fun o1 hz9 => rm_393 x0 x1 1 h3 o1 i0 hz9) ?_
            rcases am_cI_s hs5 with ⟨v14, h15, f16, hs6⟩ | hs6
            · clear hs5
              refine Or.inl ⟨_, _, f16, ?_⟩
              show am_W X _ 394 124 _ [(.int v14), v11] h15 _
              obtain ⟨v17, e18, hs7⟩ := am_bind hs6
              clear hs6
              refine aw_pA (pc1 := 125) at_394_124 (Or.inl ⟨rfl, rfl⟩) e18 rfl ?_
              refine aw_goto at_394_125 ?_
              exact rg_394_129 x0 x1 x2 x3 x4 x5 v2 v8 v17 h15 o (am_lk1 (am_lk1 l0 rfl rfl) rfl rfl) (am_lk1 (am_lk1 l1 rfl rfl) rfl rfl) (am_lk1 (am_lk1 l2 rfl rfl) rfl rfl) (am_lk1 (am_lk1 l3 rfl rfl) rfl rfl) (am_lk1 (am_lk1 l4 rfl rfl) rfl rfl) (am_lk1 (am_lk1 l5 rfl rfl) rfl rfl) (am_lk1 am_lk0 rfl rfl) am_lk0 i0 hs7
            · clear hs5
              exact Or.inr hs6
        · rw [if_neg c5] at hs1
          refine aw_ifne_f (pc1 := 95) at_394_92 c5 rfl ?_
          refine aw_lload (pc1 := 97) at_394_95 (am_lk1 l5 rfl rfl) rfl ?_
          cases hs1
          exact aw_lret at_394_97 rt_394 rfl
      · clear hs
        exact Or.inr hs1
    · rw [if_neg c1] at hs
      refine aw_icge_f (pc1 := 48) at_394_45 c1 rfl ?_
      refine aw_lload (pc1 := 50) at_394_48 l5 rfl ?_
      refine aw_iload (pc1 := 52) at_394_50 l7 rfl ?_
      refine aw_call (F := fm_334 x7 h) (t := false) (na := 1) (kd := 0) (as := [(.int x7)]) at_394_52 (am_k3s kb_334) mn_334 mk_334 rfl rfl (am_ok_s mi_334 (am_hl rfl (am_ccI am_cats_0) rfl)) (am_hc (am_ccL am_cats_0) rfl) (fun hz9 => by cases hz9) (fun o1 hz9 => rm_334 x7 h o1  hz9) ?_
      rcases am_cI_s hs with ⟨v19, h20, f21, hs8⟩ | hs8
      · clear hs
        refine Or.inl ⟨_, _, f21, ?_⟩
        show am_W X _ 394 55 _ [(.int v19), (.long x5)] h20 _
        refine aw_iload_n (pc1 := 56) at_394_55 l2 rfl ?_
        refine aw_call (F := fm_334 x2 h20) (t := false) (na := 1) (kd := 0) (as := [(.int x2)]) at_394_56 (am_k3s kb_334) mn_334 mk_334 rfl rfl (am_ok_s mi_334 (am_hl rfl (am_ccI am_cats_0) rfl)) (am_hc (am_ccI (am_ccL am_cats_0)) rfl) (fun hz9 => by cases hz9) (fun o1 hz9 => rm_334 x2 h20 o1  hz9) ?_
        rcases am_cI_s hs8 with ⟨v22, h23, f24, hs9⟩ | hs9
        · clear hs8
          refine Or.inl ⟨_, _, f24, ?_⟩
          show am_W X _ 394 59 _ [(.int v22), (.int v19), (.long x5)] h23 _
          by_cases c25 : ¬ v19 = v22
          · rw [if_pos c25] at hs9
            refine aw_icne_t at_394_59 c25 ?_
            refine aw_lconst (v := 0) (pc1 := 75) at_394_74 (by decide) rfl ?_
            exact rg_394_75 (fun z0 z1 z2 z3 z4 z5 z6 h o hs9 => ih z0 z1 z2 z3 z4 z5 z6 h o hs9) x0 x1 x2 x3 x4 x7 x5 0 h23 o l0 l1 l2 l3 l4 l7 i0 hs9
          · rw [if_neg c25] at hs9
            refine aw_icne_f (pc1 := 62) at_394_59 c25 rfl ?_
            refine aw_vload_n (pc1 := 63) at_394_62 l0 i0 rfl ?_
            refine aw_iload_n (pc1 := 64) at_394_63 l3 rfl ?_
            refine aw_iload (pc1 := 66) at_394_64 l7 rfl ?_
            refine aw_iload (pc1 := 68) at_394_66 l4 rfl ?_
            obtain ⟨z26, hs10⟩ := am_ift hs9
            clear hs9
            refine aw_call (F := fm_384 x0 x3 x7 x4 h23) (t := true) (na := 4) (kd := 1) (as := [x0, (.int x3), (.int x7), (.int x4)]) at_394_68 (am_k3v kb_384) mn_384 mk_384 rfl rfl (am_ok_v mi_384 (am_hl rfl (am_ccR i0 (am_ccI (am_ccI (am_ccI am_cats_0)))) rfl) z26) (am_hc (am_ccL am_cats_0) rfl) (fun _ => ⟨rfl, hh_394⟩) (fun o1 hz9 => rm_384 x0 x3 x7 x4 h23 o1 i0 hz9) ?_
            rcases am_cL_s hs10 with ⟨v27, h28, f29, hs11⟩ | hs11
            · clear hs10
              refine Or.inl ⟨_, _, f29, ?_⟩
              show am_W X _ 394 71 _ [(.long v27), (.long x5)] h28 _
              refine aw_goto at_394_71 ?_
              exact rg_394_75 (fun z0 z1 z2 z3 z4 z5 z6 h o hs11 => ih z0 z1 z2 z3 z4 z5 z6 h o hs11) x0 x1 x2 x3 x4 x7 x5 v27 h28 o l0 l1 l2 l3 l4 l7 i0 hs11
            · clear hs10
              exact Or.inr hs11
        · clear hs8
          exact Or.inr hs9
      · clear hs
        exact Or.inr hs8
def fg_394_37 (N : Nat) (x0 : Value) (x1 : Int32) (x2 : Int32) (x3 : Int32) (x4 : Int32) (s0 : Int64) (h : am_H) : Option am_O := (fg_394_42 N N x0 x1 x2 x3 x4 s0 0 h)
theorem rg_394_37 {X : am_X} {d : Nat} {N : Nat} {lv : am_LV} (x0 : Value) (x1 : Int32) (x2 : Int32) (x3 : Int32) (x4 : Int32) (s0 : Int64) (h : am_H) (o : am_O) (l0 : lv.lookup 0 = some x0) (l1 : lv.lookup 1 = some (.int x1)) (l2 : lv.lookup 2 = some (.int x2)) (l3 : lv.lookup 3 = some (.int x3)) (l4 : lv.lookup 4 = some (.int x4)) (i0 : am_isR x0 = true) (hs : fg_394_37 N x0 x1 x2 x3 x4 s0 h = some o) : am_W X (d + 3) 394 37 lv [(.long s0)] h (fun q => q = o) := by
  unfold fg_394_37 at hs
  refine aw_lstore (lv1 := am_put2 _ 5 _) (pc1 := 39) at_394_37 rfl rfl ?_
  refine aw_iconst (v := 0) (pc1 := 40) at_394_39 (by decide) rfl ?_
  refine aw_istore (lv1 := am_put1 _ 7 _) (pc1 := 42) at_394_40 rfl rfl ?_
  exact rg_394_42 N x0 x1 x2 x3 x4 s0 0 h o hs _ (am_lk1 (am_lk2 l0 rfl rfl) rfl rfl) (am_lk1 (am_lk2 l1 rfl rfl) rfl rfl) (am_lk1 (am_lk2 l2 rfl rfl) rfl rfl) (am_lk1 (am_lk2 l3 rfl rfl) rfl rfl) (am_lk1 (am_lk2 l4 rfl rfl) rfl rfl) (am_lk1 am_lk02 rfl rfl) am_lk0 i0
def fg_394_0 (N : Nat) (x0 : Value) (x1 : Int32) (h : am_H) : Option am_O := ((am_vR (am_pG 3093 x0 h)).bind fun v1 => ((am_pA 0 v1 x1 h).bind fun v3 => ((am_vR (am_pG 3162 x0 h)).bind fun v5 => ((am_pA 0 v5 x1 h).bind fun v7 => ((am_vR (am_pG 3098 x0 h)).bind fun v9 => ((am_pA 0 v9 x1 h).bind fun v11 => (if ¬ v3 = 0 then (fg_394_37 N x0 x1 v3 v7 v11 0 h) else ((am_vR (am_pG 3094 x0 h)).bind fun v14 => ((am_pA 0 v14 x1 h).bind fun v16 => (fg_394_37 N x0 x1 v3 v7 v11 ((Int32.toInt64 v16)) h))))))))))
theorem rg_394_0 {X : am_X} {d : Nat} {N : Nat} {lv : am_LV} (x0 : Value) (x1 : Int32) (h : am_H) (o : am_O) (l0 : lv.lookup 0 = some x0) (l1 : lv.lookup 1 = some (.int x1)) (i0 : am_isR x0 = true) (hs : fg_394_0 N x0 x1 h = some o) : am_W X (d + 3) 394 0 lv [] h (fun q => q = o) := by
  unfold fg_394_0 at hs
  refine aw_vload_n (pc1 := 1) at_394_0 l0 i0 rfl ?_
  obtain ⟨v1, e2, hs1⟩ := am_bind hs
  clear hs
  refine aw_pG (pc1 := 4) at_394_1 (am_vR_s e2).1 rfl ?_
  refine aw_iload_n (pc1 := 5) at_394_4 l1 rfl ?_
  obtain ⟨v3, e4, hs2⟩ := am_bind hs1
  clear hs1
  refine aw_pA (pc1 := 6) at_394_5 (Or.inl ⟨rfl, rfl⟩) e4 rfl ?_
  refine aw_istore_n (lv1 := am_put1 _ 2 _) (pc1 := 7) at_394_6 rfl rfl ?_
  refine aw_vload_n (pc1 := 8) at_394_7 (am_lk1 l0 rfl rfl) i0 rfl ?_
  obtain ⟨v5, e6, hs3⟩ := am_bind hs2
  clear hs2
  refine aw_pG (pc1 := 11) at_394_8 (am_vR_s e6).1 rfl ?_
  refine aw_iload_n (pc1 := 12) at_394_11 (am_lk1 l1 rfl rfl) rfl ?_
  obtain ⟨v7, e8, hs4⟩ := am_bind hs3
  clear hs3
  refine aw_pA (pc1 := 13) at_394_12 (Or.inl ⟨rfl, rfl⟩) e8 rfl ?_
  refine aw_istore_n (lv1 := am_put1 _ 3 _) (pc1 := 14) at_394_13 rfl rfl ?_
  refine aw_vload_n (pc1 := 15) at_394_14 (am_lk1 (am_lk1 l0 rfl rfl) rfl rfl) i0 rfl ?_
  obtain ⟨v9, e10, hs5⟩ := am_bind hs4
  clear hs4
  refine aw_pG (pc1 := 18) at_394_15 (am_vR_s e10).1 rfl ?_
  refine aw_iload_n (pc1 := 19) at_394_18 (am_lk1 (am_lk1 l1 rfl rfl) rfl rfl) rfl ?_
  obtain ⟨v11, e12, hs6⟩ := am_bind hs5
  clear hs5
  refine aw_pA (pc1 := 20) at_394_19 (Or.inl ⟨rfl, rfl⟩) e12 rfl ?_
  refine aw_istore (lv1 := am_put1 _ 4 _) (pc1 := 22) at_394_20 rfl rfl ?_
  refine aw_iload_n (pc1 := 23) at_394_22 (am_lk1 (am_lk1 am_lk0 rfl rfl) rfl rfl) rfl ?_
  by_cases c13 : ¬ v3 = 0
  · rw [if_pos c13] at hs6
    refine aw_ifne_t at_394_23 c13 ?_
    refine aw_lconst (v := 0) (pc1 := 37) at_394_36 (by decide) rfl ?_
    exact rg_394_37 x0 x1 v3 v7 v11 0 h o (am_lk1 (am_lk1 (am_lk1 l0 rfl rfl) rfl rfl) rfl rfl) (am_lk1 (am_lk1 (am_lk1 l1 rfl rfl) rfl rfl) rfl rfl) (am_lk1 (am_lk1 am_lk0 rfl rfl) rfl rfl) (am_lk1 am_lk0 rfl rfl) am_lk0 i0 hs6
  · rw [if_neg c13] at hs6
    refine aw_ifne_f (pc1 := 26) at_394_23 c13 rfl ?_
    refine aw_vload_n (pc1 := 27) at_394_26 (am_lk1 (am_lk1 (am_lk1 l0 rfl rfl) rfl rfl) rfl rfl) i0 rfl ?_
    obtain ⟨v14, e15, hs7⟩ := am_bind hs6
    clear hs6
    refine aw_pG (pc1 := 30) at_394_27 (am_vR_s e15).1 rfl ?_
    refine aw_iload_n (pc1 := 31) at_394_30 (am_lk1 (am_lk1 (am_lk1 l1 rfl rfl) rfl rfl) rfl rfl) rfl ?_
    obtain ⟨v16, e17, hs8⟩ := am_bind hs7
    clear hs7
    refine aw_pA (pc1 := 32) at_394_31 (Or.inl ⟨rfl, rfl⟩) e17 rfl ?_
    refine aw_i2l (v := (Int32.toInt64 v16)) (pc1 := 33) at_394_32 rfl rfl ?_
    refine aw_goto at_394_33 ?_
    exact rg_394_37 x0 x1 v3 v7 v11 ((Int32.toInt64 v16)) h o (am_lk1 (am_lk1 (am_lk1 l0 rfl rfl) rfl rfl) rfl rfl) (am_lk1 (am_lk1 (am_lk1 l1 rfl rfl) rfl rfl) rfl rfl) (am_lk1 (am_lk1 am_lk0 rfl rfl) rfl rfl) (am_lk1 am_lk0 rfl rfl) am_lk0 i0 hs8
def fm_394 (N : Nat) (y0 : Value) (y1 : Int32) (h : am_H) : Option am_O := fg_394_0 N y0 y1 h
theorem rm_394 {X : am_X} {d : Nat} {N : Nat} (y0 : Value) (y1 : Int32) (h : am_H) (o : am_O) (i0 : am_isR y0 = true) (hs : fm_394 N y0 y1 h = some o) : am_W X (d + 3) 394 0 (am_args 0 [y0, .int y1]) [] h (fun q => q = o) := by
  rw [am_args_R i0, am_args_I]
  exact rg_394_0 y0 y1 h o rfl rfl i0 hs
def fg_390_207 (N : Nat) : Nat → Value → Int32 → am_H → Option am_O
  | 0 => fun _ _ _ => none
  | K + 1 => fun x0 x2 h => (if x2 < 0 then ((am_vR (am_pG 3161 x0 h)).bind fun v2 => ((am_pAL v2 0 h).bind fun v4 => some (.inl (some (.long v4), h)))) else ((am_vR (am_pG 3161 x0 h)).bind fun v6 => (if am_pOk 12 x0 h then am_cL true (fm_394 N x0 x2 h) (fun v9 h10 => ((am_pSL v6 x2 v9 h10).bind fun h12 => (fg_390_207 N K x0 ((x2 + (-1))) h12))) else none)))
theorem rg_390_207 {X : am_X} {d : Nat} {N : Nat} : ∀ (K : Nat) (x0 : Value) (x2 : Int32) (h : am_H) (o : am_O), fg_390_207 N K x0 x2 h = some o → ∀ lv : am_LV, (lv.lookup 0 = some x0) → (lv.lookup 2 = some (.int x2)) → (am_isR x0 = true) → am_W X (d + 5) 390 207 lv [] h (fun q => q = o) := by
  intro K
  induction K with
  | zero => intro x0 x2 h o hs; cases hs
  | succ K ih =>
    intro x0 x2 h o hs lv l0 l2 i0
    unfold fg_390_207 at hs
    refine aw_iload_n (pc1 := 208) at_390_207 l2 rfl ?_
    by_cases c1 : x2 < 0
    · rw [if_pos c1] at hs
      refine aw_iflt_t at_390_208 c1 ?_
      refine aw_vload_n (pc1 := 229) at_390_228 l0 i0 rfl ?_
      obtain ⟨v2, e3, hs1⟩ := am_bind hs
      clear hs
      refine aw_pG (pc1 := 232) at_390_229 (am_vR_s e3).1 rfl ?_
      refine aw_iconst (v := 0) (pc1 := 233) at_390_232 (by decide) rfl ?_
      obtain ⟨v4, e5, hs2⟩ := am_bind hs1
      clear hs1
      refine aw_pAL (pc1 := 234) at_390_233 e5 rfl ?_
      cases hs2
      exact aw_lret at_390_234 rt_390 rfl
    · rw [if_neg c1] at hs
      refine aw_iflt_f (pc1 := 211) at_390_208 c1 rfl ?_
      refine aw_vload_n (pc1 := 212) at_390_211 l0 i0 rfl ?_
      obtain ⟨v6, e7, hs3⟩ := am_bind hs
      clear hs
      refine aw_pG (pc1 := 215) at_390_212 (am_vR_s e7).1 rfl ?_
      refine aw_iload_n (pc1 := 216) at_390_215 l2 rfl ?_
      refine aw_vload_n (pc1 := 217) at_390_216 l0 i0 rfl ?_
      refine aw_iload_n (pc1 := 218) at_390_217 l2 rfl ?_
      obtain ⟨z8, hs4⟩ := am_ift hs3
      clear hs3
      refine aw_call (F := fm_394 N x0 x2 h) (t := true) (na := 2) (kd := 1) (as := [x0, (.int x2)]) at_390_218 (am_k3v kb_394) mn_394 mk_394 rfl rfl (am_ok_v mi_394 (am_hl rfl (am_ccR i0 (am_ccI am_cats_0)) rfl) z8) (am_hc (am_ccI (am_ccR (am_vR_s e7).2 am_cats_0)) rfl) (fun _ => ⟨rfl, hh_390⟩) (fun o1 hz9 => rm_394 x0 x2 h o1 i0 hz9) ?_
      rcases am_cL_s hs4 with ⟨v9, h10, f11, hs5⟩ | hs5
      · clear hs4
        refine Or.inl ⟨_, _, f11, ?_⟩
        show am_W X _ 390 221 _ [(.long v9), (.int x2), v6] h10 _
        obtain ⟨h12, e13, hs6⟩ := am_bind hs5
        clear hs5
        refine aw_pSL (pc1 := 222) at_390_221 e13 rfl ?_
        refine aw_iinc (v := (x2 + (-1))) (c := (-1)) (lv1 := am_put1 _ 2 _) (pc1 := 225) at_390_222 l2 (by decide) rfl rfl rfl ?_
        refine aw_goto at_390_225 ?_
        exact ih x0 ((x2 + (-1))) h12 o hs6 _ (am_lk1 l0 rfl rfl) am_lk0 i0
      · clear hs4
        exact Or.inr hs5
def fg_390_148 (N : Nat) (rec_138 : Value → Int32 → am_H → Option am_O) : Nat → Value → Int32 → Int32 → am_H → Option am_O
  | 0 => fun _ _ _ _ => none
  | K + 1 => fun x0 x2 x3 h => ((am_vR (am_pG 3093 x0 h)).bind fun v1 => ((am_pA 0 v1 x2 h).bind fun v3 => am_cI false (fm_343 v3 h) (fun v5 h6 => (if v5 ≤ x3 then (rec_138 x0 ((x2 + 1)) h6) else ((am_vR (am_pG 3162 x0 h6)).bind fun v9 => (if am_pOk 12 x0 h6 then am_cI true (fm_393 N x0 x2 x3 h6) (fun v12 h13 => ((am_vR (am_pG 3162 x0 h13)).bind fun v15 => ((am_pA 0 v15 x2 h13).bind fun v17 => ((am_vR (am_pG 3093 x0 h13)).bind fun v19 => ((am_pA 0 v19 x2 h13).bind fun v21 => am_cI false (fm_381 v17 v21 x3 h13) (fun v23 h24 => ((am_pS 0 v9 v12 v23 h24).bind fun h26 => (fg_390_148 N rec_138 K x0 x2 ((x3 + 1)) h26)))))))) else none))))))
theorem rg_390_148 {X : am_X} {d : Nat} {N : Nat} {rec_138 : Value → Int32 → am_H → Option am_O} (q_138 : ∀ (x0 : Value) (x2 : Int32) (h : am_H) (o : am_O), rec_138 x0 x2 h = some o → ∀ lv : am_LV, (lv.lookup 0 = some x0) → (lv.lookup 2 = some (.int x2)) → (am_isR x0 = true) → am_W X (d + 5) 390 138 lv [] h (fun q => q = o)) : ∀ (K : Nat) (x0 : Value) (x2 : Int32) (x3 : Int32) (h : am_H) (o : am_O), fg_390_148 N rec_138 K x0 x2 x3 h = some o → ∀ lv : am_LV, (lv.lookup 0 = some x0) → (lv.lookup 2 = some (.int x2)) → (lv.lookup 3 = some (.int x3)) → (am_isR x0 = true) → am_W X (d + 5) 390 148 lv [] h (fun q => q = o) := by
  intro K
  induction K with
  | zero => intro x0 x2 x3 h o hs; cases hs
  | succ K ih =>
    intro x0 x2 x3 h o hs lv l0 l2 l3 i0
    unfold fg_390_148 at hs
    refine aw_iload_n (pc1 := 149) at_390_148 l3 rfl ?_
    refine aw_vload_n (pc1 := 150) at_390_149 l0 i0 rfl ?_
    obtain ⟨v1, e2, hs1⟩ := am_bind hs
    clear hs
    refine aw_pG (pc1 := 153) at_390_150 (am_vR_s e2).1 rfl ?_
    refine aw_iload_n (pc1 := 154) at_390_153 l2 rfl ?_
    obtain ⟨v3, e4, hs2⟩ := am_bind hs1
    clear hs1
    refine aw_pA (pc1 := 155) at_390_154 (Or.inl ⟨rfl, rfl⟩) e4 rfl ?_
    refine aw_call (F := fm_343 v3 h) (t := false) (na := 1) (kd := 0) (as := [(.int v3)]) at_390_155 (am_k3s kb_343) mn_343 mk_343 rfl rfl (am_ok_s mi_343 (am_hl rfl (am_ccI am_cats_0) rfl)) (am_hc (am_ccI am_cats_0) rfl) (fun hz9 => by cases hz9) (fun o1 hz9 => rm_343 v3 h o1  hz9) ?_
    rcases am_cI_s hs2 with ⟨v5, h6, f7, hs3⟩ | hs3
    · clear hs2
      refine Or.inl ⟨_, _, f7, ?_⟩
      show am_W X _ 390 158 _ [(.int v5), (.int x3)] h6 _
      by_cases c8 : v5 ≤ x3
      · rw [if_pos c8] at hs3
        refine aw_icge_t at_390_158 c8 ?_
        refine aw_iinc (v := (x2 + 1)) (c := 1) (lv1 := am_put1 _ 2 _) (pc1 := 197) at_390_194 l2 (by decide) rfl rfl rfl ?_
        refine aw_goto at_390_197 ?_
        exact q_138 x0 ((x2 + 1)) h6 o hs3 _ (am_lk1 l0 rfl rfl) am_lk0 i0
      · rw [if_neg c8] at hs3
        refine aw_icge_f (pc1 := 161) at_390_158 c8 rfl ?_
        refine aw_vload_n (pc1 := 162) at_390_161 l0 i0 rfl ?_
        obtain ⟨v9, e10, hs4⟩ := am_bind hs3
        clear hs3
        refine aw_pG (pc1 := 165) at_390_162 (am_vR_s e10).1 rfl ?_
        refine aw_vload_n (pc1 := 166) at_390_165 l0 i0 rfl ?_
        refine aw_iload_n (pc1 := 167) at_390_166 l2 rfl ?_
        refine aw_iload_n (pc1 := 168) at_390_167 l3 rfl ?_
        obtain ⟨z11, hs5⟩ := am_ift hs4
        clear hs4
        refine aw_call (F := fm_393 N x0 x2 x3 h6) (t := true) (na := 3) (kd := 1) (as := [x0, (.int x2), (.int x3)]) at_390_168 (am_k3v kb_393) mn_393 mk_393 rfl rfl (am_ok_v mi_393 (am_hl rfl (am_ccR i0 (am_ccI (am_ccI am_cats_0))) rfl) z11) (am_hc (am_ccR (am_vR_s e10).2 am_cats_0) rfl) (fun _ => ⟨rfl, hh_390⟩) (fun o1 hz9 => rm_393 x0 x2 x3 h6 o1 i0 hz9) ?_
        rcases am_cI_s hs5 with ⟨v12, h13, f14, hs6⟩ | hs6
        · clear hs5
          refine Or.inl ⟨_, _, f14, ?_⟩
          show am_W X _ 390 171 _ [(.int v12), v9] h13 _
          refine aw_vload_n (pc1 := 172) at_390_171 l0 i0 rfl ?_
          obtain ⟨v15, e16, hs7⟩ := am_bind hs6
          clear hs6
          refine aw_pG (pc1 := 175) at_390_172 (am_vR_s e16).1 rfl ?_
          refine aw_iload_n (pc1 := 176) at_390_175 l2 rfl ?_
          obtain ⟨v17, e18, hs8⟩ := am_bind hs7
          clear hs7
          refine aw_pA (pc1 := 177) at_390_176 (Or.inl ⟨rfl, rfl⟩) e18 rfl ?_
          refine aw_vload_n (pc1 := 178) at_390_177 l0 i0 rfl ?_
          obtain ⟨v19, e20, hs9⟩ := am_bind hs8
          clear hs8
          refine aw_pG (pc1 := 181) at_390_178 (am_vR_s e20).1 rfl ?_
          refine aw_iload_n (pc1 := 182) at_390_181 l2 rfl ?_
          obtain ⟨v21, e22, hs10⟩ := am_bind hs9
          clear hs9
          refine aw_pA (pc1 := 183) at_390_182 (Or.inl ⟨rfl, rfl⟩) e22 rfl ?_
          refine aw_iload_n (pc1 := 184) at_390_183 l3 rfl ?_
          refine aw_call (F := fm_381 v17 v21 x3 h13) (t := false) (na := 3) (kd := 0) (as := [(.int v17), (.int v21), (.int x3)]) at_390_184 (am_k3s kb_381) mn_381 mk_381 rfl rfl (am_ok_s mi_381 (am_hl rfl (am_ccI (am_ccI (am_ccI am_cats_0))) rfl)) (am_hc (am_ccI (am_ccR (am_vR_s e10).2 am_cats_0)) rfl) (fun hz9 => by cases hz9) (fun o1 hz9 => rm_381 v17 v21 x3 h13 o1  hz9) ?_
          rcases am_cI_s hs10 with ⟨v23, h24, f25, hs11⟩ | hs11
          · clear hs10
            refine Or.inl ⟨_, _, f25, ?_⟩
            show am_W X _ 390 187 _ [(.int v23), (.int v12), v9] h24 _
            obtain ⟨h26, e27, hs12⟩ := am_bind hs11
            clear hs11
            refine aw_pS (pc1 := 188) at_390_187 (Or.inl ⟨rfl, rfl⟩) e27 rfl ?_
            refine aw_iinc (v := (x3 + 1)) (c := 1) (lv1 := am_put1 _ 3 _) (pc1 := 191) at_390_188 l3 (by decide) rfl rfl rfl ?_
            refine aw_goto at_390_191 ?_
            exact ih x0 x2 ((x3 + 1)) h26 o hs12 _ (am_lk1 l0 rfl rfl) (am_lk1 l2 rfl rfl) am_lk0 i0
          · clear hs10
            exact Or.inr hs11
        · clear hs5
          exact Or.inr hs6
    · clear hs2
      exact Or.inr hs3
def fg_390_138 (N : Nat) : Nat → Value → Int32 → am_H → Option am_O
  | 0 => fun _ _ _ => none
  | K + 1 => fun x0 x2 h => ((am_vI (am_pG 3090 x0 h)).bind fun v1 => (if v1 ≤ x2 then ((am_vI (am_pG 3090 x0 h)).bind fun v4 => (fg_390_207 N N x0 ((v4 - 1)) h)) else (fg_390_148 N (fg_390_138 N K) N x0 x2 0 h)))
theorem rg_390_138 {X : am_X} {d : Nat} {N : Nat} : ∀ (K : Nat) (x0 : Value) (x2 : Int32) (h : am_H) (o : am_O), fg_390_138 N K x0 x2 h = some o → ∀ lv : am_LV, (lv.lookup 0 = some x0) → (lv.lookup 2 = some (.int x2)) → (am_isR x0 = true) → am_W X (d + 5) 390 138 lv [] h (fun q => q = o) := by
  intro K
  induction K with
  | zero => intro x0 x2 h o hs; cases hs
  | succ K ih =>
    intro x0 x2 h o hs lv l0 l2 i0
    unfold fg_390_138 at hs
    refine aw_iload_n (pc1 := 139) at_390_138 l2 rfl ?_
    refine aw_vload_n (pc1 := 140) at_390_139 l0 i0 rfl ?_
    obtain ⟨v1, e2, hs1⟩ := am_bind hs
    clear hs
    refine aw_pG (pc1 := 143) at_390_140 (am_vI_s e2) rfl ?_
    by_cases c3 : v1 ≤ x2
    · rw [if_pos c3] at hs1
      refine aw_icge_t at_390_143 c3 ?_
      refine aw_vload_n (pc1 := 201) at_390_200 l0 i0 rfl ?_
      obtain ⟨v4, e5, hs2⟩ := am_bind hs1
      clear hs1
      refine aw_pG (pc1 := 204) at_390_201 (am_vI_s e5) rfl ?_
      refine aw_iconst (v := 1) (pc1 := 205) at_390_204 (by decide) rfl ?_
      refine aw_isub (v := (v4 - 1)) (pc1 := 206) at_390_205 rfl rfl ?_
      refine aw_istore_n (lv1 := am_put1 _ 2 _) (pc1 := 207) at_390_206 rfl rfl ?_
      exact rg_390_207 N x0 ((v4 - 1)) h o hs2 _ (am_lk1 l0 rfl rfl) am_lk0 i0
    · rw [if_neg c3] at hs1
      refine aw_icge_f (pc1 := 146) at_390_143 c3 rfl ?_
      refine aw_iconst (v := 0) (pc1 := 147) at_390_146 (by decide) rfl ?_
      refine aw_istore_n (lv1 := am_put1 _ 3 _) (pc1 := 148) at_390_147 rfl rfl ?_
      exact rg_390_148 (fun z0 z1 h o hs1 => ih z0 z1 h o hs1) N x0 x2 0 h o hs1 _ (am_lk1 l0 rfl rfl) (am_lk1 l2 rfl rfl) am_lk0 i0
def fg_390_123 (N : Nat) (rec_85 : Value → Int32 → am_H → Option am_O) (x0 : Value) (x2 : Int32) (h : am_H) : Option am_O := (rec_85 x0 ((x2 + 1)) h)
theorem rg_390_123 {X : am_X} {d : Nat} {N : Nat} {rec_85 : Value → Int32 → am_H → Option am_O} (q_85 : ∀ (x0 : Value) (x2 : Int32) (h : am_H) (o : am_O), rec_85 x0 x2 h = some o → ∀ lv : am_LV, (lv.lookup 0 = some x0) → (lv.lookup 2 = some (.int x2)) → (am_isR x0 = true) → am_W X (d + 5) 390 85 lv [] h (fun q => q = o)) {lv : am_LV} (x0 : Value) (x2 : Int32) (h : am_H) (o : am_O) (l0 : lv.lookup 0 = some x0) (l2 : lv.lookup 2 = some (.int x2)) (i0 : am_isR x0 = true) (hs : fg_390_123 N rec_85 x0 x2 h = some o) : am_W X (d + 5) 390 123 lv [] h (fun q => q = o) := by
  unfold fg_390_123 at hs
  refine aw_iinc (v := (x2 + 1)) (c := 1) (lv1 := am_put1 _ 2 _) (pc1 := 126) at_390_123 l2 (by decide) rfl rfl rfl ?_
  refine aw_goto at_390_126 ?_
  exact q_85 x0 ((x2 + 1)) h o hs _ (am_lk1 l0 rfl rfl) am_lk0 i0
def fg_390_85 (N : Nat) : Nat → Value → Int32 → am_H → Option am_O
  | 0 => fun _ _ _ => none
  | K + 1 => fun x0 x2 h => ((am_vI (am_pG 3090 x0 h)).bind fun v1 => (if v1 ≤ x2 then ((am_vR (am_pG 3162 x0 h)).bind fun v4 => ((am_pS 0 v4 0 0 h).bind fun h6 => (fg_390_138 N N x0 0 h6))) else ((am_vR (am_pG 3093 x0 h)).bind fun v8 => ((am_pA 0 v8 x2 h).bind fun v10 => (if ¬ v10 = 0 then (fg_390_123 N (fg_390_85 N K) x0 x2 h) else ((am_vR (am_pG 3094 x0 h)).bind fun v13 => ((am_pA 0 v13 x2 h).bind fun v15 => am_cI false (fm_327 ((Int32.toInt64 v15)) 0 9 h) (fun v17 h18 => (if ¬ v17 = 0 then (fg_390_123 N (fg_390_85 N K) x0 x2 h18) else some (.inl (some (.long (-1)), h18)))))))))))
theorem rg_390_85 {X : am_X} {d : Nat} {N : Nat} : ∀ (K : Nat) (x0 : Value) (x2 : Int32) (h : am_H) (o : am_O), fg_390_85 N K x0 x2 h = some o → ∀ lv : am_LV, (lv.lookup 0 = some x0) → (lv.lookup 2 = some (.int x2)) → (am_isR x0 = true) → am_W X (d + 5) 390 85 lv [] h (fun q => q = o) := by
  intro K
  induction K with
  | zero => intro x0 x2 h o hs; cases hs
  | succ K ih =>
    intro x0 x2 h o hs lv l0 l2 i0
    unfold fg_390_85 at hs
    refine aw_iload_n (pc1 := 86) at_390_85 l2 rfl ?_
    refine aw_vload_n (pc1 := 87) at_390_86 l0 i0 rfl ?_
    obtain ⟨v1, e2, hs1⟩ := am_bind hs
    clear hs
    refine aw_pG (pc1 := 90) at_390_87 (am_vI_s e2) rfl ?_
    by_cases c3 : v1 ≤ x2
    · rw [if_pos c3] at hs1
      refine aw_icge_t at_390_90 c3 ?_
      refine aw_vload_n (pc1 := 130) at_390_129 l0 i0 rfl ?_
      obtain ⟨v4, e5, hs2⟩ := am_bind hs1
      clear hs1
      refine aw_pG (pc1 := 133) at_390_130 (am_vR_s e5).1 rfl ?_
      refine aw_iconst (v := 0) (pc1 := 134) at_390_133 (by decide) rfl ?_
      refine aw_iconst (v := 0) (pc1 := 135) at_390_134 (by decide) rfl ?_
      obtain ⟨h6, e7, hs3⟩ := am_bind hs2
      clear hs2
      refine aw_pS (pc1 := 136) at_390_135 (Or.inl ⟨rfl, rfl⟩) e7 rfl ?_
      refine aw_iconst (v := 0) (pc1 := 137) at_390_136 (by decide) rfl ?_
      refine aw_istore_n (lv1 := am_put1 _ 2 _) (pc1 := 138) at_390_137 rfl rfl ?_
      exact rg_390_138 N x0 0 h6 o hs3 _ (am_lk1 l0 rfl rfl) am_lk0 i0
    · rw [if_neg c3] at hs1
      refine aw_icge_f (pc1 := 93) at_390_90 c3 rfl ?_
      refine aw_vload_n (pc1 := 94) at_390_93 l0 i0 rfl ?_
      obtain ⟨v8, e9, hs4⟩ := am_bind hs1
      clear hs1
      refine aw_pG (pc1 := 97) at_390_94 (am_vR_s e9).1 rfl ?_
      refine aw_iload_n (pc1 := 98) at_390_97 l2 rfl ?_
      obtain ⟨v10, e11, hs5⟩ := am_bind hs4
      clear hs4
      refine aw_pA (pc1 := 99) at_390_98 (Or.inl ⟨rfl, rfl⟩) e11 rfl ?_
      by_cases c12 : ¬ v10 = 0
      · rw [if_pos c12] at hs5
        refine aw_ifne_t at_390_99 c12 ?_
        exact rg_390_123 (fun z0 z1 h o hs5 => ih z0 z1 h o hs5) x0 x2 h o l0 l2 i0 hs5
      · rw [if_neg c12] at hs5
        refine aw_ifne_f (pc1 := 102) at_390_99 c12 rfl ?_
        refine aw_vload_n (pc1 := 103) at_390_102 l0 i0 rfl ?_
        obtain ⟨v13, e14, hs6⟩ := am_bind hs5
        clear hs5
        refine aw_pG (pc1 := 106) at_390_103 (am_vR_s e14).1 rfl ?_
        refine aw_iload_n (pc1 := 107) at_390_106 l2 rfl ?_
        obtain ⟨v15, e16, hs7⟩ := am_bind hs6
        clear hs6
        refine aw_pA (pc1 := 108) at_390_107 (Or.inl ⟨rfl, rfl⟩) e16 rfl ?_
        refine aw_i2l (v := (Int32.toInt64 v15)) (pc1 := 109) at_390_108 rfl rfl ?_
        refine aw_lconst (v := 0) (pc1 := 110) at_390_109 (by decide) rfl ?_
        refine aw_ldc2 (v := 9) (pc1 := 113) at_390_110 rfl rfl ?_
        refine aw_call (F := fm_327 ((Int32.toInt64 v15)) 0 9 h) (t := false) (na := 3) (kd := 0) (as := [(.long (Int32.toInt64 v15)), (.long 0), (.long 9)]) at_390_113 (am_k3s kb_327) mn_327 mk_327 rfl rfl (am_ok_s mi_327 (am_hl rfl (am_ccL (am_ccL (am_ccL am_cats_0))) rfl)) (am_hc am_cats_0 rfl) (fun hz9 => by cases hz9) (fun o1 hz9 => rm_327 ((Int32.toInt64 v15)) 0 9 h o1  hz9) ?_
        rcases am_cI_s hs7 with ⟨v17, h18, f19, hs8⟩ | hs8
        · clear hs7
          refine Or.inl ⟨_, _, f19, ?_⟩
          show am_W X _ 390 116 _ [(.int v17)] h18 _
          by_cases c20 : ¬ v17 = 0
          · rw [if_pos c20] at hs8
            refine aw_ifne_t at_390_116 c20 ?_
            exact rg_390_123 (fun z0 z1 h o hs8 => ih z0 z1 h o hs8) x0 x2 h18 o l0 l2 i0 hs8
          · rw [if_neg c20] at hs8
            refine aw_ifne_f (pc1 := 119) at_390_116 c20 rfl ?_
            refine aw_ldc2 (v := (-1)) (pc1 := 122) at_390_119 rfl rfl ?_
            cases hs8
            exact aw_lret at_390_122 rt_390 rfl
        · clear hs7
          exact Or.inr hs8
def fg_390_62 (N : Nat) (x0 : Value) (x1 : Int32) (s0 : Value) (s1 : Int32) (h : am_H) : Option am_O := ((am_pP 3072 s0 (.int s1) h).bind fun h1 => ((am_vI (am_pG 3072 x0 h1)).bind fun v3 => (if v3 ≤ 0 then (if am_pOk 12 x0 h1 then am_cV true (fm_377 N x0 h1) (fun h8 => (if am_pOk 12 x0 h8 then am_cV true (fm_391 N x0 x1 h8) (fun h12 => (fg_390_85 N N x0 0 h12)) else none)) else none) else some (.inl (some (.long 0), h1)))))
theorem rg_390_62 {X : am_X} {d : Nat} {N : Nat} {lv : am_LV} (x0 : Value) (x1 : Int32) (s0 : Value) (s1 : Int32) (h : am_H) (o : am_O) (l0 : lv.lookup 0 = some x0) (l1 : lv.lookup 1 = some (.int x1)) (i0 : am_isR x0 = true) (j0 : am_isR s0 = true) (hs : fg_390_62 N x0 x1 s0 s1 h = some o) : am_W X (d + 5) 390 62 lv [(.int s1), s0] h (fun q => q = o) := by
  unfold fg_390_62 at hs
  obtain ⟨h1, e2, hs1⟩ := am_bind hs
  clear hs
  refine aw_pP (pc1 := 65) at_390_62 e2 rfl ?_
  refine aw_vload_n (pc1 := 66) at_390_65 l0 i0 rfl ?_
  obtain ⟨v3, e4, hs2⟩ := am_bind hs1
  clear hs1
  refine aw_pG (pc1 := 69) at_390_66 (am_vI_s e4) rfl ?_
  by_cases c5 : v3 ≤ 0
  · rw [if_pos c5] at hs2
    refine aw_ifle_t at_390_69 c5 ?_
    refine aw_vload_n (pc1 := 75) at_390_74 l0 i0 rfl ?_
    obtain ⟨z6, hs3⟩ := am_ift hs2
    clear hs2
    refine aw_call (F := fm_377 N x0 h1) (t := true) (na := 1) (kd := 1) (as := [x0]) at_390_75 (am_k3v kb_377) mn_377 mk_377 rfl rfl (am_ok_v mi_377 (am_hl rfl (am_ccR i0 am_cats_0) rfl) z6) (am_hc am_cats_0 rfl) (fun _ => ⟨rfl, hh_390⟩) (fun o1 hz9 => rm_377 x0 h1 o1 i0 hz9) ?_
    rcases am_cV_s hs3 with ⟨h8, f9, hs4⟩ | hs4
    · clear hs3
      refine Or.inl ⟨_, _, f9, ?_⟩
      show am_W X _ 390 78 _ [] h8 _
      refine aw_vload_n (pc1 := 79) at_390_78 l0 i0 rfl ?_
      refine aw_iload_n (pc1 := 80) at_390_79 l1 rfl ?_
      obtain ⟨z10, hs5⟩ := am_ift hs4
      clear hs4
      refine aw_call (F := fm_391 N x0 x1 h8) (t := true) (na := 2) (kd := 1) (as := [x0, (.int x1)]) at_390_80 (am_k3v kb_391) mn_391 mk_391 rfl rfl (am_ok_v mi_391 (am_hl rfl (am_ccR i0 (am_ccI am_cats_0)) rfl) z10) (am_hc am_cats_0 rfl) (fun _ => ⟨rfl, hh_390⟩) (fun o1 hz9 => rm_391 x0 x1 h8 o1 i0 hz9) ?_
      rcases am_cV_s hs5 with ⟨h12, f13, hs6⟩ | hs6
      · clear hs5
        refine Or.inl ⟨_, _, f13, ?_⟩
        show am_W X _ 390 83 _ [] h12 _
        refine aw_iconst (v := 0) (pc1 := 84) at_390_83 (by decide) rfl ?_
        refine aw_istore_n (lv1 := am_put1 _ 2 _) (pc1 := 85) at_390_84 rfl rfl ?_
        exact rg_390_85 N x0 0 h12 o hs6 _ (am_lk1 l0 rfl rfl) am_lk0 i0
      · clear hs5
        exact Or.inr hs6
    · clear hs3
      exact Or.inr hs4
  · rw [if_neg c5] at hs2
    refine aw_ifle_f (pc1 := 72) at_390_69 c5 rfl ?_
    refine aw_lconst (v := 0) (pc1 := 73) at_390_72 (by decide) rfl ?_
    cases hs2
    exact aw_lret at_390_73 rt_390 rfl
def fg_390_57 (N : Nat) (x0 : Value) (x1 : Int32) (s0 : Value) (h : am_H) : Option am_O := (fg_390_62 N x0 x1 s0 2 h)
theorem rg_390_57 {X : am_X} {d : Nat} {N : Nat} {lv : am_LV} (x0 : Value) (x1 : Int32) (s0 : Value) (h : am_H) (o : am_O) (l0 : lv.lookup 0 = some x0) (l1 : lv.lookup 1 = some (.int x1)) (i0 : am_isR x0 = true) (j0 : am_isR s0 = true) (hs : fg_390_57 N x0 x1 s0 h = some o) : am_W X (d + 5) 390 57 lv [s0] h (fun q => q = o) := by
  unfold fg_390_57 at hs
  refine aw_iconst (v := 2) (pc1 := 58) at_390_57 (by decide) rfl ?_
  refine aw_goto at_390_58 ?_
  exact rg_390_62 x0 x1 s0 2 h o l0 l1 i0 j0 hs
def fg_390_51 (N : Nat) (x0 : Value) (x1 : Int32) (s0 : Value) (s1 : Value) (s2 : Int32) (h : am_H) : Option am_O := ((am_pA 0 s1 s2 h).bind fun v1 => (if v1 ≤ 12 then (fg_390_62 N x0 x1 s0 0 h) else (fg_390_57 N x0 x1 s0 h)))
theorem rg_390_51 {X : am_X} {d : Nat} {N : Nat} {lv : am_LV} (x0 : Value) (x1 : Int32) (s0 : Value) (s1 : Value) (s2 : Int32) (h : am_H) (o : am_O) (l0 : lv.lookup 0 = some x0) (l1 : lv.lookup 1 = some (.int x1)) (i0 : am_isR x0 = true) (j0 : am_isR s0 = true) (j1 : am_isR s1 = true) (hs : fg_390_51 N x0 x1 s0 s1 s2 h = some o) : am_W X (d + 5) 390 51 lv [(.int s2), s1, s0] h (fun q => q = o) := by
  unfold fg_390_51 at hs
  obtain ⟨v1, e2, hs1⟩ := am_bind hs
  clear hs
  refine aw_pA (pc1 := 52) at_390_51 (Or.inl ⟨rfl, rfl⟩) e2 rfl ?_
  refine aw_bipush (v := 12) (pc1 := 54) at_390_52 (by decide) rfl ?_
  by_cases c3 : v1 ≤ 12
  · rw [if_pos c3] at hs1
    refine aw_icle_t at_390_54 c3 ?_
    refine aw_iconst (v := 0) (pc1 := 62) at_390_61 (by decide) rfl ?_
    exact rg_390_62 x0 x1 s0 0 h o l0 l1 i0 j0 hs1
  · rw [if_neg c3] at hs1
    refine aw_icle_f (pc1 := 57) at_390_54 c3 rfl ?_
    exact rg_390_57 x0 x1 s0 h o l0 l1 i0 j0 hs1
def fg_390_30 (N : Nat) (x0 : Value) (x1 : Int32) (s0 : Value) (s1 : Value) (s2 : Int32) (h : am_H) : Option am_O := ((am_pA 0 s1 s2 h).bind fun v1 => (if ¬ v1 = 0 then (fg_390_57 N x0 x1 s0 h) else ((am_vR (am_pG 3075 x0 h)).bind fun v4 => (if am_pOk 12 x0 h then am_cI true (fm_358 x0 x1 h) (fun v7 h8 => (if v7 = 0 then (fg_390_51 N x0 x1 s0 v4 0 h8) else (fg_390_51 N x0 x1 s0 v4 x1 h8))) else none))))
theorem rg_390_30 {X : am_X} {d : Nat} {N : Nat} {lv : am_LV} (x0 : Value) (x1 : Int32) (s0 : Value) (s1 : Value) (s2 : Int32) (h : am_H) (o : am_O) (l0 : lv.lookup 0 = some x0) (l1 : lv.lookup 1 = some (.int x1)) (i0 : am_isR x0 = true) (j0 : am_isR s0 = true) (j1 : am_isR s1 = true) (hs : fg_390_30 N x0 x1 s0 s1 s2 h = some o) : am_W X (d + 5) 390 30 lv [(.int s2), s1, s0] h (fun q => q = o) := by
  unfold fg_390_30 at hs
  obtain ⟨v1, e2, hs1⟩ := am_bind hs
  clear hs
  refine aw_pA (pc1 := 31) at_390_30 (Or.inl ⟨rfl, rfl⟩) e2 rfl ?_
  by_cases c3 : ¬ v1 = 0
  · rw [if_pos c3] at hs1
    refine aw_ifne_t at_390_31 c3 ?_
    exact rg_390_57 x0 x1 s0 h o l0 l1 i0 j0 hs1
  · rw [if_neg c3] at hs1
    refine aw_ifne_f (pc1 := 34) at_390_31 c3 rfl ?_
    refine aw_vload_n (pc1 := 35) at_390_34 l0 i0 rfl ?_
    obtain ⟨v4, e5, hs2⟩ := am_bind hs1
    clear hs1
    refine aw_pG (pc1 := 38) at_390_35 (am_vR_s e5).1 rfl ?_
    refine aw_vload_n (pc1 := 39) at_390_38 l0 i0 rfl ?_
    refine aw_iload_n (pc1 := 40) at_390_39 l1 rfl ?_
    obtain ⟨z6, hs3⟩ := am_ift hs2
    clear hs2
    refine aw_call (F := fm_358 x0 x1 h) (t := true) (na := 2) (kd := 1) (as := [x0, (.int x1)]) at_390_40 (am_k3v kb_358) mn_358 mk_358 rfl rfl (am_ok_v mi_358 (am_hl rfl (am_ccR i0 (am_ccI am_cats_0)) rfl) z6) (am_hc (am_ccR (am_vR_s e5).2 (am_ccR j0 am_cats_0)) rfl) (fun _ => ⟨rfl, hh_390⟩) (fun o1 hz9 => rm_358 x0 x1 h o1 i0 hz9) ?_
    rcases am_cI_s hs3 with ⟨v7, h8, f9, hs4⟩ | hs4
    · clear hs3
      refine Or.inl ⟨_, _, f9, ?_⟩
      show am_W X _ 390 43 _ [(.int v7), v4, s0] h8 _
      by_cases c10 : v7 = 0
      · rw [if_pos c10] at hs4
        refine aw_ifeq_t at_390_43 c10 ?_
        refine aw_iconst (v := 0) (pc1 := 51) at_390_50 (by decide) rfl ?_
        exact rg_390_51 x0 x1 s0 v4 0 h8 o l0 l1 i0 j0 (am_vR_s e5).2 hs4
      · rw [if_neg c10] at hs4
        refine aw_ifeq_f (pc1 := 46) at_390_43 c10 rfl ?_
        refine aw_iload_n (pc1 := 47) at_390_46 l1 rfl ?_
        refine aw_goto at_390_47 ?_
        exact rg_390_51 x0 x1 s0 v4 x1 h8 o l0 l1 i0 j0 (am_vR_s e5).2 hs4
    · clear hs3
      exact Or.inr hs4
def fg_390_0 (N : Nat) (x0 : Value) (x1 : Int32) (h : am_H) : Option am_O := (if am_pOk 12 x0 h then am_cI true (fm_358 x0 x1 h) (fun v2 h3 => (if ¬ v2 = 0 then ((am_vR (am_pG 3074 x0 h3)).bind fun v6 => (if am_pOk 12 x0 h3 then am_cI true (fm_358 x0 x1 h3) (fun v9 h10 => (if v9 = 0 then (fg_390_30 N x0 x1 x0 v6 0 h10) else (fg_390_30 N x0 x1 x0 v6 x1 h10))) else none)) else (fg_390_62 N x0 x1 x0 1 h3))) else none)
theorem rg_390_0 {X : am_X} {d : Nat} {N : Nat} {lv : am_LV} (x0 : Value) (x1 : Int32) (h : am_H) (o : am_O) (l0 : lv.lookup 0 = some x0) (l1 : lv.lookup 1 = some (.int x1)) (i0 : am_isR x0 = true) (hs : fg_390_0 N x0 x1 h = some o) : am_W X (d + 5) 390 0 lv [] h (fun q => q = o) := by
  unfold fg_390_0 at hs
  refine aw_vload_n (pc1 := 1) at_390_0 l0 i0 rfl ?_
  refine aw_vload_n (pc1 := 2) at_390_1 l0 i0 rfl ?_
  refine aw_iload_n (pc1 := 3) at_390_2 l1 rfl ?_
  obtain ⟨z1, hs1⟩ := am_ift hs
  clear hs
  refine aw_call (F := fm_358 x0 x1 h) (t := true) (na := 2) (kd := 1) (as := [x0, (.int x1)]) at_390_3 (am_k3v kb_358) mn_358 mk_358 rfl rfl (am_ok_v mi_358 (am_hl rfl (am_ccR i0 (am_ccI am_cats_0)) rfl) z1) (am_hc (am_ccR i0 am_cats_0) rfl) (fun _ => ⟨rfl, hh_390⟩) (fun o1 hz9 => rm_358 x0 x1 h o1 i0 hz9) ?_
  rcases am_cI_s hs1 with ⟨v2, h3, f4, hs2⟩ | hs2
  · clear hs1
    refine Or.inl ⟨_, _, f4, ?_⟩
    show am_W X _ 390 6 _ [(.int v2), x0] h3 _
    by_cases c5 : ¬ v2 = 0
    · rw [if_pos c5] at hs2
      refine aw_ifne_t at_390_6 c5 ?_
      refine aw_vload_n (pc1 := 14) at_390_13 l0 i0 rfl ?_
      obtain ⟨v6, e7, hs3⟩ := am_bind hs2
      clear hs2
      refine aw_pG (pc1 := 17) at_390_14 (am_vR_s e7).1 rfl ?_
      refine aw_vload_n (pc1 := 18) at_390_17 l0 i0 rfl ?_
      refine aw_iload_n (pc1 := 19) at_390_18 l1 rfl ?_
      obtain ⟨z8, hs4⟩ := am_ift hs3
      clear hs3
      refine aw_call (F := fm_358 x0 x1 h3) (t := true) (na := 2) (kd := 1) (as := [x0, (.int x1)]) at_390_19 (am_k3v kb_358) mn_358 mk_358 rfl rfl (am_ok_v mi_358 (am_hl rfl (am_ccR i0 (am_ccI am_cats_0)) rfl) z8) (am_hc (am_ccR (am_vR_s e7).2 (am_ccR i0 am_cats_0)) rfl) (fun _ => ⟨rfl, hh_390⟩) (fun o1 hz9 => rm_358 x0 x1 h3 o1 i0 hz9) ?_
      rcases am_cI_s hs4 with ⟨v9, h10, f11, hs5⟩ | hs5
      · clear hs4
        refine Or.inl ⟨_, _, f11, ?_⟩
        show am_W X _ 390 22 _ [(.int v9), v6, x0] h10 _
        by_cases c12 : v9 = 0
        · rw [if_pos c12] at hs5
          refine aw_ifeq_t at_390_22 c12 ?_
          refine aw_iconst (v := 0) (pc1 := 30) at_390_29 (by decide) rfl ?_
          exact rg_390_30 x0 x1 x0 v6 0 h10 o l0 l1 i0 i0 (am_vR_s e7).2 hs5
        · rw [if_neg c12] at hs5
          refine aw_ifeq_f (pc1 := 25) at_390_22 c12 rfl ?_
          refine aw_iload_n (pc1 := 26) at_390_25 l1 rfl ?_
          refine aw_goto at_390_26 ?_
          exact rg_390_30 x0 x1 x0 v6 x1 h10 o l0 l1 i0 i0 (am_vR_s e7).2 hs5
      · clear hs4
        exact Or.inr hs5
    · rw [if_neg c5] at hs2
      refine aw_ifne_f (pc1 := 9) at_390_6 c5 rfl ?_
      refine aw_iconst (v := 1) (pc1 := 10) at_390_9 (by decide) rfl ?_
      refine aw_goto at_390_10 ?_
      exact rg_390_62 x0 x1 x0 1 h3 o l0 l1 i0 i0 hs2
  · clear hs1
    exact Or.inr hs2
def fm_390 (N : Nat) (y0 : Value) (y1 : Int32) (h : am_H) : Option am_O := fg_390_0 N y0 y1 h
theorem rm_390 {X : am_X} {d : Nat} {N : Nat} (y0 : Value) (y1 : Int32) (h : am_H) (o : am_O) (i0 : am_isR y0 = true) (hs : fm_390 N y0 y1 h = some o) : am_W X (d + 5) 390 0 (am_args 0 [y0, .int y1]) [] h (fun q => q = o) := by
  rw [am_args_R i0, am_args_I]
  exact rg_390_0 y0 y1 h o rfl rfl i0 hs
def fg_24_0 (x0 : Value) (x1 : Int32) (h : am_H) : Option am_O := ((am_vR (am_pG 2826 x0 h)).bind fun v1 => ((am_pA 0 v1 6 h).bind fun v3 => (if v3 < 8 then ((am_vR (am_pG 2826 x0 h)).bind fun v6 => ((am_pS 0 v6 (7 + v3) x1 h).bind fun h8 => ((am_vR (am_pG 2826 x0 h8)).bind fun v10 => ((am_pS 0 v10 6 (v3 + 1) h8).bind fun h12 => some (.inl (some (.int (v3 + 1)), h12)))))) else some (.inl (some (.int (-1)), h)))))
theorem rg_24_0 {X : am_X} {d : Nat} {lv : am_LV} (x0 : Value) (x1 : Int32) (h : am_H) (o : am_O) (l0 : lv.lookup 0 = some x0) (l1 : lv.lookup 1 = some (.int x1)) (i0 : am_isR x0 = true) (hs : fg_24_0 x0 x1 h = some o) : am_W X (d) 24 0 lv [] h (fun q => q = o) := by
  unfold fg_24_0 at hs
  refine aw_vload_n (pc1 := 1) at_24_0 l0 i0 rfl ?_
  obtain ⟨v1, e2, hs1⟩ := am_bind hs
  clear hs
  refine aw_pG (pc1 := 4) at_24_1 (am_vR_s e2).1 rfl ?_
  refine aw_bipush (v := 6) (pc1 := 6) at_24_4 (by decide) rfl ?_
  obtain ⟨v3, e4, hs2⟩ := am_bind hs1
  clear hs1
  refine aw_pA (pc1 := 7) at_24_6 (Or.inl ⟨rfl, rfl⟩) e4 rfl ?_
  refine aw_istore_n (lv1 := am_put1 _ 2 _) (pc1 := 8) at_24_7 rfl rfl ?_
  refine aw_iload_n (pc1 := 9) at_24_8 am_lk0 rfl ?_
  refine aw_bipush (v := 8) (pc1 := 11) at_24_9 (by decide) rfl ?_
  by_cases c5 : v3 < 8
  · rw [if_pos c5] at hs2
    refine aw_iclt_t at_24_11 c5 ?_
    refine aw_vload_n (pc1 := 17) at_24_16 (am_lk1 l0 rfl rfl) i0 rfl ?_
    obtain ⟨v6, e7, hs3⟩ := am_bind hs2
    clear hs2
    refine aw_pG (pc1 := 20) at_24_17 (am_vR_s e7).1 rfl ?_
    refine aw_bipush (v := 7) (pc1 := 22) at_24_20 (by decide) rfl ?_
    refine aw_iload_n (pc1 := 23) at_24_22 am_lk0 rfl ?_
    refine aw_iadd (v := (7 + v3)) (pc1 := 24) at_24_23 rfl rfl ?_
    refine aw_iload_n (pc1 := 25) at_24_24 (am_lk1 l1 rfl rfl) rfl ?_
    obtain ⟨h8, e9, hs4⟩ := am_bind hs3
    clear hs3
    refine aw_pS (pc1 := 26) at_24_25 (Or.inl ⟨rfl, rfl⟩) e9 rfl ?_
    refine aw_vload_n (pc1 := 27) at_24_26 (am_lk1 l0 rfl rfl) i0 rfl ?_
    obtain ⟨v10, e11, hs5⟩ := am_bind hs4
    clear hs4
    refine aw_pG (pc1 := 30) at_24_27 (am_vR_s e11).1 rfl ?_
    refine aw_bipush (v := 6) (pc1 := 32) at_24_30 (by decide) rfl ?_
    refine aw_iload_n (pc1 := 33) at_24_32 am_lk0 rfl ?_
    refine aw_iconst (v := 1) (pc1 := 34) at_24_33 (by decide) rfl ?_
    refine aw_iadd (v := (v3 + 1)) (pc1 := 35) at_24_34 rfl rfl ?_
    obtain ⟨h12, e13, hs6⟩ := am_bind hs5
    clear hs5
    refine aw_pS (pc1 := 36) at_24_35 (Or.inl ⟨rfl, rfl⟩) e13 rfl ?_
    refine aw_iload_n (pc1 := 37) at_24_36 am_lk0 rfl ?_
    refine aw_iconst (v := 1) (pc1 := 38) at_24_37 (by decide) rfl ?_
    refine aw_iadd (v := (v3 + 1)) (pc1 := 39) at_24_38 rfl rfl ?_
    cases hs6
    exact aw_iret at_24_39 (by rw [rt_24]; rfl) rfl
  · rw [if_neg c5] at hs2
    refine aw_iclt_f (pc1 := 14) at_24_11 c5 rfl ?_
    refine aw_iconst (v := (-1)) (pc1 := 15) at_24_14 (by decide) rfl ?_
    cases hs2
    exact aw_iret at_24_15 (by rw [rt_24]; rfl) rfl
def fm_24 (y0 : Value) (y1 : Int32) (h : am_H) : Option am_O := fg_24_0 y0 y1 h
theorem rm_24 {X : am_X} {d : Nat} (y0 : Value) (y1 : Int32) (h : am_H) (o : am_O) (i0 : am_isR y0 = true) (hs : fm_24 y0 y1 h = some o) : am_W X (d) 24 0 (am_args 0 [y0, .int y1]) [] h (fun q => q = o) := by
  rw [am_args_R i0, am_args_I]
  exact rg_24_0 y0 y1 h o rfl rfl i0 hs
def fg_395_0 (x0 : Value) (x1 : Int32) (h : am_H) : Option am_O := ((am_pP 3072 x0 (.int 0) h).bind fun h1 => ((am_vI (am_pG 3112 x0 h1)).bind fun v3 => (if ¬ v3 = 8 then ((am_vR (am_pG 3113 x0 h1)).bind fun v6 => ((am_vI (am_pG 3112 x0 h1)).bind fun v8 => ((am_pS 0 v6 v8 x1 h1).bind fun h10 => ((am_vI (am_pG 3112 x0 h10)).bind fun v12 => ((am_pP 3112 x0 (.int (v12 + 1)) h10).bind fun h14 => ((am_vI (am_pG 3112 x0 h14)).bind fun v16 => some (.inl (some (.int v16), h14)))))))) else some (.inl (some (.int (-1)), h1)))))
theorem rg_395_0 {X : am_X} {d : Nat} {lv : am_LV} (x0 : Value) (x1 : Int32) (h : am_H) (o : am_O) (l0 : lv.lookup 0 = some x0) (l1 : lv.lookup 1 = some (.int x1)) (i0 : am_isR x0 = true) (hs : fg_395_0 x0 x1 h = some o) : am_W X (d) 395 0 lv [] h (fun q => q = o) := by
  unfold fg_395_0 at hs
  refine aw_vload_n (pc1 := 1) at_395_0 l0 i0 rfl ?_
  refine aw_iconst (v := 0) (pc1 := 2) at_395_1 (by decide) rfl ?_
  obtain ⟨h1, e2, hs1⟩ := am_bind hs
  clear hs
  refine aw_pP (pc1 := 5) at_395_2 e2 rfl ?_
  refine aw_vload_n (pc1 := 6) at_395_5 l0 i0 rfl ?_
  obtain ⟨v3, e4, hs2⟩ := am_bind hs1
  clear hs1
  refine aw_pG (pc1 := 9) at_395_6 (am_vI_s e4) rfl ?_
  refine aw_bipush (v := 8) (pc1 := 11) at_395_9 (by decide) rfl ?_
  by_cases c5 : ¬ v3 = 8
  · rw [if_pos c5] at hs2
    refine aw_icne_t at_395_11 c5 ?_
    refine aw_vload_n (pc1 := 17) at_395_16 l0 i0 rfl ?_
    obtain ⟨v6, e7, hs3⟩ := am_bind hs2
    clear hs2
    refine aw_pG (pc1 := 20) at_395_17 (am_vR_s e7).1 rfl ?_
    refine aw_vload_n (pc1 := 21) at_395_20 l0 i0 rfl ?_
    obtain ⟨v8, e9, hs4⟩ := am_bind hs3
    clear hs3
    refine aw_pG (pc1 := 24) at_395_21 (am_vI_s e9) rfl ?_
    refine aw_iload_n (pc1 := 25) at_395_24 l1 rfl ?_
    obtain ⟨h10, e11, hs5⟩ := am_bind hs4
    clear hs4
    refine aw_pS (pc1 := 26) at_395_25 (Or.inl ⟨rfl, rfl⟩) e11 rfl ?_
    refine aw_vload_n (pc1 := 27) at_395_26 l0 i0 rfl ?_
    refine aw_vdup (pc1 := 28) at_395_27 i0 rfl ?_
    obtain ⟨v12, e13, hs6⟩ := am_bind hs5
    clear hs5
    refine aw_pG (pc1 := 31) at_395_28 (am_vI_s e13) rfl ?_
    refine aw_iconst (v := 1) (pc1 := 32) at_395_31 (by decide) rfl ?_
    refine aw_iadd (v := (v12 + 1)) (pc1 := 33) at_395_32 rfl rfl ?_
    obtain ⟨h14, e15, hs7⟩ := am_bind hs6
    clear hs6
    refine aw_pP (pc1 := 36) at_395_33 e15 rfl ?_
    refine aw_vload_n (pc1 := 37) at_395_36 l0 i0 rfl ?_
    obtain ⟨v16, e17, hs8⟩ := am_bind hs7
    clear hs7
    refine aw_pG (pc1 := 40) at_395_37 (am_vI_s e17) rfl ?_
    cases hs8
    exact aw_iret at_395_40 (by rw [rt_395]; rfl) rfl
  · rw [if_neg c5] at hs2
    refine aw_icne_f (pc1 := 14) at_395_11 c5 rfl ?_
    refine aw_iconst (v := (-1)) (pc1 := 15) at_395_14 (by decide) rfl ?_
    cases hs2
    exact aw_iret at_395_15 (by rw [rt_395]; rfl) rfl
def fm_395 (y0 : Value) (y1 : Int32) (h : am_H) : Option am_O := fg_395_0 y0 y1 h
theorem rm_395 {X : am_X} {d : Nat} (y0 : Value) (y1 : Int32) (h : am_H) (o : am_O) (i0 : am_isR y0 = true) (hs : fm_395 y0 y1 h = some o) : am_W X (d) 395 0 (am_args 0 [y0, .int y1]) [] h (fun q => q = o) := by
  rw [am_args_R i0, am_args_I]
  exact rg_395_0 y0 y1 h o rfl rfl i0 hs
def fg_105_0 (x0 : Value) (x1 : Value) (h : am_H) : Option am_O := ((am_vR (am_pG 512 x0 h)).bind fun v1 => ((am_vI (am_pG 513 x0 h)).bind fun v3 => ((am_pCpy x1 0 v1 (v3 * 15) 15 h).bind fun h5 => ((am_vI (am_pG 513 x0 h5)).bind fun v7 => ((am_pP 513 x0 (.int (v7 + 1)) h5).bind fun h9 => ((am_vI (am_pG 513 x0 h9)).bind fun v11 => some (.inl (some (.int (v11 - 1)), h9))))))))
theorem rg_105_0 {X : am_X} {d : Nat} {lv : am_LV} (x0 : Value) (x1 : Value) (h : am_H) (o : am_O) (l0 : lv.lookup 0 = some x0) (l1 : lv.lookup 1 = some x1) (i0 : am_isR x0 = true) (i1 : am_isR x1 = true) (hs : fg_105_0 x0 x1 h = some o) : am_W X (d) 105 0 lv [] h (fun q => q = o) := by
  unfold fg_105_0 at hs
  refine aw_vload_n (pc1 := 1) at_105_0 l1 i1 rfl ?_
  refine aw_iconst (v := 0) (pc1 := 2) at_105_1 (by decide) rfl ?_
  refine aw_vload_n (pc1 := 3) at_105_2 l0 i0 rfl ?_
  obtain ⟨v1, e2, hs1⟩ := am_bind hs
  clear hs
  refine aw_pG (pc1 := 6) at_105_3 (am_vR_s e2).1 rfl ?_
  refine aw_vload_n (pc1 := 7) at_105_6 l0 i0 rfl ?_
  obtain ⟨v3, e4, hs2⟩ := am_bind hs1
  clear hs1
  refine aw_pG (pc1 := 10) at_105_7 (am_vI_s e4) rfl ?_
  refine aw_bipush (v := 15) (pc1 := 12) at_105_10 (by decide) rfl ?_
  refine aw_imul (v := (v3 * 15)) (pc1 := 13) at_105_12 rfl rfl ?_
  refine aw_bipush (v := 15) (pc1 := 15) at_105_13 (by decide) rfl ?_
  obtain ⟨h5, e6, hs3⟩ := am_bind hs2
  clear hs2
  refine aw_pCpy at_105_15 rfl e6 (am_hc am_cats_0 rfl) ?_
  refine aw_vload_n (pc1 := 19) at_105_18 l0 i0 rfl ?_
  refine aw_vdup (pc1 := 20) at_105_19 i0 rfl ?_
  obtain ⟨v7, e8, hs4⟩ := am_bind hs3
  clear hs3
  refine aw_pG (pc1 := 23) at_105_20 (am_vI_s e8) rfl ?_
  refine aw_iconst (v := 1) (pc1 := 24) at_105_23 (by decide) rfl ?_
  refine aw_iadd (v := (v7 + 1)) (pc1 := 25) at_105_24 rfl rfl ?_
  obtain ⟨h9, e10, hs5⟩ := am_bind hs4
  clear hs4
  refine aw_pP (pc1 := 28) at_105_25 e10 rfl ?_
  refine aw_vload_n (pc1 := 29) at_105_28 l0 i0 rfl ?_
  obtain ⟨v11, e12, hs6⟩ := am_bind hs5
  clear hs5
  refine aw_pG (pc1 := 32) at_105_29 (am_vI_s e12) rfl ?_
  refine aw_iconst (v := 1) (pc1 := 33) at_105_32 (by decide) rfl ?_
  refine aw_isub (v := (v11 - 1)) (pc1 := 34) at_105_33 rfl rfl ?_
  cases hs6
  exact aw_iret at_105_34 (by rw [rt_105]; rfl) rfl
def fm_105 (y0 : Value) (y1 : Value) (h : am_H) : Option am_O := fg_105_0 y0 y1 h
theorem rm_105 {X : am_X} {d : Nat} (y0 : Value) (y1 : Value) (h : am_H) (o : am_O) (i0 : am_isR y0 = true) (i1 : am_isR y1 = true) (hs : fm_105 y0 y1 h = some o) : am_W X (d) 105 0 (am_args 0 [y0, y1]) [] h (fun q => q = o) := by
  rw [am_args_R i0, am_args_R i1]
  exact rg_105_0 y0 y1 h o rfl rfl i0 i1 hs
def fg_104_97 (N : Nat) (x0 : Value) (s0 : Value) (s1 : Int32) (s2 : Int32) (h : am_H) : Option am_O := ((am_pS 0 s0 s1 s2 h).bind fun h1 => ((am_vR (am_pG 2819 x0 h1)).bind fun v3 => ((am_vR (am_pG 2826 x0 h1)).bind fun v5 => (if am_pOk 2 v3 h1 then am_cI true (fm_105 v3 v5 h1) (fun v8 h9 => ((am_vR (am_pG 2826 x0 h9)).bind fun v11 => am_cV false (fm_53 N v11 0 h9) (fun h14 => some (.inl (some (.int v8), h14))))) else none))))
theorem rg_104_97 {X : am_X} {d : Nat} {N : Nat} {lv : am_LV} (x0 : Value) (s0 : Value) (s1 : Int32) (s2 : Int32) (h : am_H) (o : am_O) (l0 : lv.lookup 0 = some x0) (i0 : am_isR x0 = true) (j0 : am_isR s0 = true) (hs : fg_104_97 N x0 s0 s1 s2 h = some o) : am_W X (d + 1) 104 97 lv [(.int s2), (.int s1), s0] h (fun q => q = o) := by
  unfold fg_104_97 at hs
  obtain ⟨h1, e2, hs1⟩ := am_bind hs
  clear hs
  refine aw_pS (pc1 := 98) at_104_97 (Or.inl ⟨rfl, rfl⟩) e2 rfl ?_
  refine aw_vload_n (pc1 := 99) at_104_98 l0 i0 rfl ?_
  obtain ⟨v3, e4, hs2⟩ := am_bind hs1
  clear hs1
  refine aw_pG (pc1 := 102) at_104_99 (am_vR_s e4).1 rfl ?_
  refine aw_vload_n (pc1 := 103) at_104_102 l0 i0 rfl ?_
  obtain ⟨v5, e6, hs3⟩ := am_bind hs2
  clear hs2
  refine aw_pG (pc1 := 106) at_104_103 (am_vR_s e6).1 rfl ?_
  obtain ⟨z7, hs4⟩ := am_ift hs3
  clear hs3
  refine aw_call (F := fm_105 v3 v5 h1) (t := true) (na := 2) (kd := 1) (as := [v3, v5]) at_104_106 (am_k3v kb_105) mn_105 mk_105 rfl rfl (am_ok_v mi_105 (am_hl rfl (am_ccR (am_vR_s e4).2 (am_ccR (am_vR_s e6).2 am_cats_0)) rfl) z7) (am_hc am_cats_0 rfl) (fun _ => ⟨rfl, hh_104⟩) (fun o1 hz9 => rm_105 v3 v5 h1 o1 (am_vR_s e4).2 (am_vR_s e6).2 hz9) ?_
  rcases am_cI_s hs4 with ⟨v8, h9, f10, hs5⟩ | hs5
  · clear hs4
    refine Or.inl ⟨_, _, f10, ?_⟩
    show am_W X _ 104 109 _ [(.int v8)] h9 _
    refine aw_istore (lv1 := am_put1 _ 7 _) (pc1 := 111) at_104_109 rfl rfl ?_
    refine aw_vload_n (pc1 := 112) at_104_111 (am_lk1 l0 rfl rfl) i0 rfl ?_
    obtain ⟨v11, e12, hs6⟩ := am_bind hs5
    clear hs5
    refine aw_pG (pc1 := 115) at_104_112 (am_vR_s e12).1 rfl ?_
    refine aw_iconst (v := 0) (pc1 := 116) at_104_115 (by decide) rfl ?_
    refine aw_call (F := fm_53 N v11 0 h9) (t := false) (na := 2) (kd := 0) (as := [v11, (.int 0)]) at_104_116 (am_k3s kb_53) mn_53 mk_53 rfl rfl (am_ok_s mi_53 (am_hl rfl (am_ccR (am_vR_s e12).2 (am_ccI am_cats_0)) rfl)) (am_hc am_cats_0 rfl) (fun hz9 => by cases hz9) (fun o1 hz9 => rm_53 v11 0 h9 o1 (am_vR_s e12).2 hz9) ?_
    rcases am_cV_s hs6 with ⟨h14, f15, hs7⟩ | hs7
    · clear hs6
      refine Or.inl ⟨_, _, f15, ?_⟩
      show am_W X _ 104 119 _ [] h14 _
      refine aw_iload (pc1 := 121) at_104_119 am_lk0 rfl ?_
      cases hs7
      exact aw_iret at_104_121 (by rw [rt_104]; rfl) rfl
    · clear hs6
      exact Or.inr hs7
  · clear hs4
    exact Or.inr hs5
def fg_104_13 (N : Nat) (h : am_H) : Option am_O := some (.inr (0, h ++ [am_dummy]))
theorem rg_104_13 {X : am_X} {d : Nat} {N : Nat} {lv : am_LV} (h : am_H) (o : am_O) (hs : fg_104_13 N h = some o) : am_W X (d + 1) 104 13 lv [] h (fun q => q = o) := by
  unfold fg_104_13 at hs
  cases hs
  exact aw_throw at_104_13 rfl th_104_13 (am_hc am_cats_0 rfl) rfl
def fg_104_0 (N : Nat) (x0 : Value) (x1 : Int32) (x2 : Int32) (x3 : Int32) (x4 : Int32) (x5 : Int32) (x6 : Int32) (h : am_H) : Option am_O := (if x5 < 1 then (fg_104_13 N h) else (if x5 ≤ 9 then ((am_vR (am_pG 2819 x0 h)).bind fun v3 => ((am_vI (am_pG 513 v3 h)).bind fun v5 => (if v5 < 24 then ((am_vR (am_pG 2826 x0 h)).bind fun v8 => ((am_pS 0 v8 0 x1 h).bind fun h10 => ((am_vR (am_pG 2826 x0 h10)).bind fun v12 => ((am_pS 0 v12 1 x2 h10).bind fun h14 => ((am_vR (am_pG 2826 x0 h14)).bind fun v16 => ((am_pS 0 v16 2 x3 h14).bind fun h18 => ((am_vR (am_pG 2826 x0 h18)).bind fun v20 => ((am_pS 0 v20 3 x4 h18).bind fun h22 => ((am_vR (am_pG 2826 x0 h22)).bind fun v24 => ((am_pS 0 v24 4 x5 h22).bind fun h26 => ((am_vR (am_pG 2826 x0 h26)).bind fun v28 => (if x6 = 0 then (fg_104_97 N x0 v28 5 0 h26) else (fg_104_97 N x0 v28 5 1 h26))))))))))))) else some (.inr (1, h ++ [am_dummy]))))) else (fg_104_13 N h)))
theorem rg_104_0 {X : am_X} {d : Nat} {N : Nat} {lv : am_LV} (x0 : Value) (x1 : Int32) (x2 : Int32) (x3 : Int32) (x4 : Int32) (x5 : Int32) (x6 : Int32) (h : am_H) (o : am_O) (l0 : lv.lookup 0 = some x0) (l1 : lv.lookup 1 = some (.int x1)) (l2 : lv.lookup 2 = some (.int x2)) (l3 : lv.lookup 3 = some (.int x3)) (l4 : lv.lookup 4 = some (.int x4)) (l5 : lv.lookup 5 = some (.int x5)) (l6 : lv.lookup 6 = some (.int x6)) (i0 : am_isR x0 = true) (hs : fg_104_0 N x0 x1 x2 x3 x4 x5 x6 h = some o) : am_W X (d + 1) 104 0 lv [] h (fun q => q = o) := by
  unfold fg_104_0 at hs
  refine aw_iload (pc1 := 2) at_104_0 l5 rfl ?_
  refine aw_iconst (v := 1) (pc1 := 3) at_104_2 (by decide) rfl ?_
  by_cases c1 : x5 < 1
  · rw [if_pos c1] at hs
    refine aw_iclt_t at_104_3 c1 ?_
    exact rg_104_13 h o   hs
  · rw [if_neg c1] at hs
    refine aw_iclt_f (pc1 := 6) at_104_3 c1 rfl ?_
    refine aw_iload (pc1 := 8) at_104_6 l5 rfl ?_
    refine aw_bipush (v := 9) (pc1 := 10) at_104_8 (by decide) rfl ?_
    by_cases c2 : x5 ≤ 9
    · rw [if_pos c2] at hs
      refine aw_icle_t at_104_10 c2 ?_
      refine aw_vload_n (pc1 := 24) at_104_23 l0 i0 rfl ?_
      obtain ⟨v3, e4, hs1⟩ := am_bind hs
      clear hs
      refine aw_pG (pc1 := 27) at_104_24 (am_vR_s e4).1 rfl ?_
      obtain ⟨v5, e6, hs2⟩ := am_bind hs1
      clear hs1
      refine aw_pG (pc1 := 30) at_104_27 (am_vI_s e6) rfl ?_
      refine aw_bipush (v := 24) (pc1 := 32) at_104_30 (by decide) rfl ?_
      by_cases c7 : v5 < 24
      · rw [if_pos c7] at hs2
        refine aw_iclt_t at_104_32 c7 ?_
        refine aw_vload_n (pc1 := 46) at_104_45 l0 i0 rfl ?_
        obtain ⟨v8, e9, hs3⟩ := am_bind hs2
        clear hs2
        refine aw_pG (pc1 := 49) at_104_46 (am_vR_s e9).1 rfl ?_
        refine aw_iconst (v := 0) (pc1 := 50) at_104_49 (by decide) rfl ?_
        refine aw_iload_n (pc1 := 51) at_104_50 l1 rfl ?_
        obtain ⟨h10, e11, hs4⟩ := am_bind hs3
        clear hs3
        refine aw_pS (pc1 := 52) at_104_51 (Or.inl ⟨rfl, rfl⟩) e11 rfl ?_
        refine aw_vload_n (pc1 := 53) at_104_52 l0 i0 rfl ?_
        obtain ⟨v12, e13, hs5⟩ := am_bind hs4
        clear hs4
        refine aw_pG (pc1 := 56) at_104_53 (am_vR_s e13).1 rfl ?_
        refine aw_iconst (v := 1) (pc1 := 57) at_104_56 (by decide) rfl ?_
        refine aw_iload_n (pc1 := 58) at_104_57 l2 rfl ?_
        obtain ⟨h14, e15, hs6⟩ := am_bind hs5
        clear hs5
        refine aw_pS (pc1 := 59) at_104_58 (Or.inl ⟨rfl, rfl⟩) e15 rfl ?_
        refine aw_vload_n (pc1 := 60) at_104_59 l0 i0 rfl ?_
        obtain ⟨v16, e17, hs7⟩ := am_bind hs6
        clear hs6
        refine aw_pG (pc1 := 63) at_104_60 (am_vR_s e17).1 rfl ?_
        refine aw_iconst (v := 2) (pc1 := 64) at_104_63 (by decide) rfl ?_
        refine aw_iload_n (pc1 := 65) at_104_64 l3 rfl ?_
        obtain ⟨h18, e19, hs8⟩ := am_bind hs7
        clear hs7
        refine aw_pS (pc1 := 66) at_104_65 (Or.inl ⟨rfl, rfl⟩) e19 rfl ?_
        refine aw_vload_n (pc1 := 67) at_104_66 l0 i0 rfl ?_
        obtain ⟨v20, e21, hs9⟩ := am_bind hs8
        clear hs8
        refine aw_pG (pc1 := 70) at_104_67 (am_vR_s e21).1 rfl ?_
        refine aw_iconst (v := 3) (pc1 := 71) at_104_70 (by decide) rfl ?_
        refine aw_iload (pc1 := 73) at_104_71 l4 rfl ?_
        obtain ⟨h22, e23, hs10⟩ := am_bind hs9
        clear hs9
        refine aw_pS (pc1 := 74) at_104_73 (Or.inl ⟨rfl, rfl⟩) e23 rfl ?_
        refine aw_vload_n (pc1 := 75) at_104_74 l0 i0 rfl ?_
        obtain ⟨v24, e25, hs11⟩ := am_bind hs10
        clear hs10
        refine aw_pG (pc1 := 78) at_104_75 (am_vR_s e25).1 rfl ?_
        refine aw_iconst (v := 4) (pc1 := 79) at_104_78 (by decide) rfl ?_
        refine aw_iload (pc1 := 81) at_104_79 l5 rfl ?_
        obtain ⟨h26, e27, hs12⟩ := am_bind hs11
        clear hs11
        refine aw_pS (pc1 := 82) at_104_81 (Or.inl ⟨rfl, rfl⟩) e27 rfl ?_
        refine aw_vload_n (pc1 := 83) at_104_82 l0 i0 rfl ?_
        obtain ⟨v28, e29, hs13⟩ := am_bind hs12
        clear hs12
        refine aw_pG (pc1 := 86) at_104_83 (am_vR_s e29).1 rfl ?_
        refine aw_iconst (v := 5) (pc1 := 87) at_104_86 (by decide) rfl ?_
        refine aw_iload (pc1 := 89) at_104_87 l6 rfl ?_
        by_cases c30 : x6 = 0
        · rw [if_pos c30] at hs13
          refine aw_ifeq_t at_104_89 c30 ?_
          refine aw_iconst (v := 0) (pc1 := 97) at_104_96 (by decide) rfl ?_
          exact rg_104_97 x0 v28 5 0 h26 o l0 i0 (am_vR_s e29).2 hs13
        · rw [if_neg c30] at hs13
          refine aw_ifeq_f (pc1 := 92) at_104_89 c30 rfl ?_
          refine aw_iconst (v := 1) (pc1 := 93) at_104_92 (by decide) rfl ?_
          refine aw_goto at_104_93 ?_
          exact rg_104_97 x0 v28 5 1 h26 o l0 i0 (am_vR_s e29).2 hs13
      · rw [if_neg c7] at hs2
        refine aw_iclt_f (pc1 := 35) at_104_32 c7 rfl ?_
        cases hs2
        exact aw_throw at_104_35 rfl th_104_35 (am_hc am_cats_0 rfl) rfl
    · rw [if_neg c2] at hs
      refine aw_icle_f (pc1 := 13) at_104_10 c2 rfl ?_
      exact rg_104_13 h o   hs
def fm_104 (N : Nat) (y0 : Value) (y1 : Int32) (y2 : Int32) (y3 : Int32) (y4 : Int32) (y5 : Int32) (y6 : Int32) (h : am_H) : Option am_O := fg_104_0 N y0 y1 y2 y3 y4 y5 y6 h
theorem rm_104 {X : am_X} {d : Nat} {N : Nat} (y0 : Value) (y1 : Int32) (y2 : Int32) (y3 : Int32) (y4 : Int32) (y5 : Int32) (y6 : Int32) (h : am_H) (o : am_O) (i0 : am_isR y0 = true) (hs : fm_104 N y0 y1 y2 y3 y4 y5 y6 h = some o) : am_W X (d + 1) 104 0 (am_args 0 [y0, .int y1, .int y2, .int y3, .int y4, .int y5, .int y6]) [] h (fun q => q = o) := by
  rw [am_args_R i0, am_args_I, am_args_I, am_args_I, am_args_I, am_args_I, am_args_I]
  exact rg_104_0 y0 y1 y2 y3 y4 y5 y6 h o rfl rfl rfl rfl rfl rfl rfl i0 hs
def fg_103_27 (N : Nat) (h : am_H) : Option am_O := some (.inl (some (.int 2), h))
theorem rg_103_27 {X : am_X} {d : Nat} {N : Nat} {lv : am_LV} (h : am_H) (o : am_O) (hs : fg_103_27 N h = some o) : am_W X (d + 2) 103 27 lv [] h (fun q => q = o) := by
  unfold fg_103_27 at hs
  refine aw_iconst (v := 2) (pc1 := 28) at_103_27 (by decide) rfl ?_
  cases hs
  exact aw_iret at_103_28 (by rw [rt_103]; rfl) rfl
def fg_103_23 (N : Nat) (h : am_H) : Option am_O := some (.inl (some (.int 1), h))
theorem rg_103_23 {X : am_X} {d : Nat} {N : Nat} {lv : am_LV} (h : am_H) (o : am_O) (hs : fg_103_23 N h = some o) : am_W X (d + 2) 103 23 lv [] h (fun q => q = o) := by
  unfold fg_103_23 at hs
  refine aw_iconst (v := 1) (pc1 := 24) at_103_23 (by decide) rfl ?_
  cases hs
  exact aw_iret at_103_24 (by rw [rt_103]; rfl) rfl
def fg_103_0 (N : Nat) (x0 : Value) (x1 : Int32) (x2 : Int32) (x3 : Int32) (x4 : Int32) (x5 : Int32) (x6 : Int32) (x7 : Value) (h : am_H) : Option am_O := (if am_pOk 11 x0 h then (match fm_104 N x0 x1 x2 x3 x4 x5 x6 h with | some (.inl (some (.int v2), h3)) => ((am_pSL x7 0 (Int32.toInt64 v2) h3).bind fun h5 => some (.inl (some (.int 0), h5))) | some (.inr (0, h7)) => (fg_103_23 N h7) | some (.inr (1, h9)) => (fg_103_27 N h9) | _ => none) else none)
theorem rg_103_0 {X : am_X} {d : Nat} {N : Nat} {lv : am_LV} (x0 : Value) (x1 : Int32) (x2 : Int32) (x3 : Int32) (x4 : Int32) (x5 : Int32) (x6 : Int32) (x7 : Value) (h : am_H) (o : am_O) (l0 : lv.lookup 0 = some x0) (l1 : lv.lookup 1 = some (.int x1)) (l2 : lv.lookup 2 = some (.int x2)) (l3 : lv.lookup 3 = some (.int x3)) (l4 : lv.lookup 4 = some (.int x4)) (l5 : lv.lookup 5 = some (.int x5)) (l6 : lv.lookup 6 = some (.int x6)) (l7 : lv.lookup 7 = some x7) (i0 : am_isR x0 = true) (i7 : am_isR x7 = true) (hs : fg_103_0 N x0 x1 x2 x3 x4 x5 x6 x7 h = some o) : am_W X (d + 2) 103 0 lv [] h (fun q => q = o) := by
  unfold fg_103_0 at hs
  refine aw_vload (pc1 := 2) at_103_0 l7 i7 rfl ?_
  refine aw_iconst (v := 0) (pc1 := 3) at_103_2 (by decide) rfl ?_
  refine aw_vload_n (pc1 := 4) at_103_3 l0 i0 rfl ?_
  refine aw_iload_n (pc1 := 5) at_103_4 l1 rfl ?_
  refine aw_iload_n (pc1 := 6) at_103_5 l2 rfl ?_
  refine aw_iload_n (pc1 := 7) at_103_6 l3 rfl ?_
  refine aw_iload (pc1 := 9) at_103_7 l4 rfl ?_
  refine aw_iload (pc1 := 11) at_103_9 l5 rfl ?_
  refine aw_iload (pc1 := 13) at_103_11 l6 rfl ?_
  obtain ⟨z1, hs1⟩ := am_ift hs
  clear hs
  refine aw_callH (F := fm_104 N x0 x1 x2 x3 x4 x5 x6 h) (na := 7) (kd := 1) (as := [x0, (.int x1), (.int x2), (.int x3), (.int x4), (.int x5), (.int x6)]) at_103_13 (am_k3v kb_104) mn_104 mk_104 rfl rfl (am_ok_v mi_104 (am_hl rfl (am_ccR i0 (am_ccI (am_ccI (am_ccI (am_ccI (am_ccI (am_ccI am_cats_0))))))) rfl) z1) (am_hc (am_ccI (am_ccR i7 am_cats_0)) rfl) (fun o1 hz9 => rm_104 x0 x1 x2 x3 x4 x5 x6 h o1 i0 hz9) ?_
  split at hs1
  · rename_i v2 h3 f4
    refine Or.inl ⟨_, _, f4, ?_⟩
    show am_W X _ 103 16 _ [(.int v2), (.int 0), x7] h3 _
    refine aw_i2l (v := (Int32.toInt64 v2)) (pc1 := 17) at_103_16 rfl rfl ?_
    obtain ⟨h5, e6, hs2⟩ := am_bind hs1
    clear hs1
    refine aw_pSL (pc1 := 18) at_103_17 e6 rfl ?_
    refine aw_goto at_103_18 ?_
    refine aw_iconst (v := 0) (pc1 := 30) at_103_29 (by decide) rfl ?_
    cases hs2
    exact aw_iret at_103_30 (by rw [rt_103]; rfl) rfl
  · rename_i h7 f8
    refine Or.inr ⟨_, _, 23, 8, f8, rfl, hn_103, hd_103_13_0, ?_⟩
    exact rg_103_23 h7 o   hs1
  · rename_i h9 f10
    refine Or.inr ⟨_, _, 27, 8, f10, rfl, hn_103, hd_103_13_1, ?_⟩
    exact rg_103_27 h9 o   hs1
  · cases hs1
def fm_103 (N : Nat) (y0 : Value) (y1 : Int32) (y2 : Int32) (y3 : Int32) (y4 : Int32) (y5 : Int32) (y6 : Int32) (y7 : Value) (h : am_H) : Option am_O := fg_103_0 N y0 y1 y2 y3 y4 y5 y6 y7 h
theorem rm_103 {X : am_X} {d : Nat} {N : Nat} (y0 : Value) (y1 : Int32) (y2 : Int32) (y3 : Int32) (y4 : Int32) (y5 : Int32) (y6 : Int32) (y7 : Value) (h : am_H) (o : am_O) (i0 : am_isR y0 = true) (i7 : am_isR y7 = true) (hs : fm_103 N y0 y1 y2 y3 y4 y5 y6 y7 h = some o) : am_W X (d + 2) 103 0 (am_args 0 [y0, .int y1, .int y2, .int y3, .int y4, .int y5, .int y6, y7]) [] h (fun q => q = o) := by
  rw [am_args_R i0, am_args_I, am_args_I, am_args_I, am_args_I, am_args_I, am_args_I, am_args_R i7]
  exact rg_103_0 y0 y1 y2 y3 y4 y5 y6 y7 h o rfl rfl rfl rfl rfl rfl rfl rfl i0 i7 hs
def fg_396_164 (N : Nat) (rec_123 : Value → Int32 → am_H → Option am_O) (x0 : Value) (x7 : Int32) (s0 : Value) (s1 : Int32) (s2 : Int32) (h : am_H) : Option am_O := ((am_pS 0 s0 s1 s2 h).bind fun h1 => (rec_123 x0 ((x7 + 1)) h1))
theorem rg_396_164 {X : am_X} {d : Nat} {N : Nat} {rec_123 : Value → Int32 → am_H → Option am_O} (q_123 : ∀ (x0 : Value) (x7 : Int32) (h : am_H) (o : am_O), rec_123 x0 x7 h = some o → ∀ lv : am_LV, (lv.lookup 0 = some x0) → (lv.lookup 7 = some (.int x7)) → (am_isR x0 = true) → am_W X (d + 1) 396 123 lv [] h (fun q => q = o)) {lv : am_LV} (x0 : Value) (x7 : Int32) (s0 : Value) (s1 : Int32) (s2 : Int32) (h : am_H) (o : am_O) (l0 : lv.lookup 0 = some x0) (l7 : lv.lookup 7 = some (.int x7)) (i0 : am_isR x0 = true) (j0 : am_isR s0 = true) (hs : fg_396_164 N rec_123 x0 x7 s0 s1 s2 h = some o) : am_W X (d + 1) 396 164 lv [(.int s2), (.int s1), s0] h (fun q => q = o) := by
  unfold fg_396_164 at hs
  obtain ⟨h1, e2, hs1⟩ := am_bind hs
  clear hs
  refine aw_pS (pc1 := 165) at_396_164 (Or.inl ⟨rfl, rfl⟩) e2 rfl ?_
  refine aw_iinc (v := (x7 + 1)) (c := 1) (lv1 := am_put1 _ 7 _) (pc1 := 168) at_396_165 l7 (by decide) rfl rfl rfl ?_
  refine aw_goto at_396_168 ?_
  exact q_123 x0 ((x7 + 1)) h1 o hs1 _ (am_lk1 l0 rfl rfl) am_lk0 i0
def fg_396_123 (N : Nat) : Nat → Value → Int32 → am_H → Option am_O
  | 0 => fun _ _ _ => none
  | K + 1 => fun x0 x7 h => (if 8 ≤ x7 then ((am_pP 3112 x0 (.int 0) h).bind fun h2 => ((am_vI (am_pG 3103 x0 h2)).bind fun v4 => ((am_pP 3103 x0 (.int (v4 + 1)) h2).bind fun h6 => ((am_vI (am_pG 3103 x0 h6)).bind fun v8 => some (.inl (some (.int (v8 - 1)), h6)))))) else ((am_vR (am_pG 3111 x0 h)).bind fun v10 => ((am_vI (am_pG 3103 x0 h)).bind fun v12 => ((am_vI (am_pG 3112 x0 h)).bind fun v14 => (if v14 ≤ x7 then (fg_396_164 N (fg_396_123 N K) x0 x7 v10 (((8 * v12) + x7)) 0 h) else ((am_vR (am_pG 3113 x0 h)).bind fun v17 => ((am_pA 0 v17 x7 h).bind fun v19 => (fg_396_164 N (fg_396_123 N K) x0 x7 v10 (((8 * v12) + x7)) v19 h))))))))
theorem rg_396_123 {X : am_X} {d : Nat} {N : Nat} : ∀ (K : Nat) (x0 : Value) (x7 : Int32) (h : am_H) (o : am_O), fg_396_123 N K x0 x7 h = some o → ∀ lv : am_LV, (lv.lookup 0 = some x0) → (lv.lookup 7 = some (.int x7)) → (am_isR x0 = true) → am_W X (d + 1) 396 123 lv [] h (fun q => q = o) := by
  intro K
  induction K with
  | zero => intro x0 x7 h o hs; cases hs
  | succ K ih =>
    intro x0 x7 h o hs lv l0 l7 i0
    unfold fg_396_123 at hs
    refine aw_iload (pc1 := 125) at_396_123 l7 rfl ?_
    refine aw_bipush (v := 8) (pc1 := 127) at_396_125 (by decide) rfl ?_
    by_cases c1 : 8 ≤ x7
    · rw [if_pos c1] at hs
      refine aw_icge_t at_396_127 c1 ?_
      refine aw_vload_n (pc1 := 172) at_396_171 l0 i0 rfl ?_
      refine aw_iconst (v := 0) (pc1 := 173) at_396_172 (by decide) rfl ?_
      obtain ⟨h2, e3, hs1⟩ := am_bind hs
      clear hs
      refine aw_pP (pc1 := 176) at_396_173 e3 rfl ?_
      refine aw_vload_n (pc1 := 177) at_396_176 l0 i0 rfl ?_
      refine aw_vdup (pc1 := 178) at_396_177 i0 rfl ?_
      obtain ⟨v4, e5, hs2⟩ := am_bind hs1
      clear hs1
      refine aw_pG (pc1 := 181) at_396_178 (am_vI_s e5) rfl ?_
      refine aw_iconst (v := 1) (pc1 := 182) at_396_181 (by decide) rfl ?_
      refine aw_iadd (v := (v4 + 1)) (pc1 := 183) at_396_182 rfl rfl ?_
      obtain ⟨h6, e7, hs3⟩ := am_bind hs2
      clear hs2
      refine aw_pP (pc1 := 186) at_396_183 e7 rfl ?_
      refine aw_vload_n (pc1 := 187) at_396_186 l0 i0 rfl ?_
      obtain ⟨v8, e9, hs4⟩ := am_bind hs3
      clear hs3
      refine aw_pG (pc1 := 190) at_396_187 (am_vI_s e9) rfl ?_
      refine aw_iconst (v := 1) (pc1 := 191) at_396_190 (by decide) rfl ?_
      refine aw_isub (v := (v8 - 1)) (pc1 := 192) at_396_191 rfl rfl ?_
      cases hs4
      exact aw_iret at_396_192 (by rw [rt_396]; rfl) rfl
    · rw [if_neg c1] at hs
      refine aw_icge_f (pc1 := 130) at_396_127 c1 rfl ?_
      refine aw_vload_n (pc1 := 131) at_396_130 l0 i0 rfl ?_
      obtain ⟨v10, e11, hs5⟩ := am_bind hs
      clear hs
      refine aw_pG (pc1 := 134) at_396_131 (am_vR_s e11).1 rfl ?_
      refine aw_bipush (v := 8) (pc1 := 136) at_396_134 (by decide) rfl ?_
      refine aw_vload_n (pc1 := 137) at_396_136 l0 i0 rfl ?_
      obtain ⟨v12, e13, hs6⟩ := am_bind hs5
      clear hs5
      refine aw_pG (pc1 := 140) at_396_137 (am_vI_s e13) rfl ?_
      refine aw_imul (v := (8 * v12)) (pc1 := 141) at_396_140 rfl rfl ?_
      refine aw_iload (pc1 := 143) at_396_141 l7 rfl ?_
      refine aw_iadd (v := ((8 * v12) + x7)) (pc1 := 144) at_396_143 rfl rfl ?_
      refine aw_iload (pc1 := 146) at_396_144 l7 rfl ?_
      refine aw_vload_n (pc1 := 147) at_396_146 l0 i0 rfl ?_
      obtain ⟨v14, e15, hs7⟩ := am_bind hs6
      clear hs6
      refine aw_pG (pc1 := 150) at_396_147 (am_vI_s e15) rfl ?_
      by_cases c16 : v14 ≤ x7
      · rw [if_pos c16] at hs7
        refine aw_icge_t at_396_150 c16 ?_
        refine aw_iconst (v := 0) (pc1 := 164) at_396_163 (by decide) rfl ?_
        exact rg_396_164 (fun z0 z1 h o hs7 => ih z0 z1 h o hs7) x0 x7 v10 (((8 * v12) + x7)) 0 h o l0 l7 i0 (am_vR_s e11).2 hs7
      · rw [if_neg c16] at hs7
        refine aw_icge_f (pc1 := 153) at_396_150 c16 rfl ?_
        refine aw_vload_n (pc1 := 154) at_396_153 l0 i0 rfl ?_
        obtain ⟨v17, e18, hs8⟩ := am_bind hs7
        clear hs7
        refine aw_pG (pc1 := 157) at_396_154 (am_vR_s e18).1 rfl ?_
        refine aw_iload (pc1 := 159) at_396_157 l7 rfl ?_
        obtain ⟨v19, e20, hs9⟩ := am_bind hs8
        clear hs8
        refine aw_pA (pc1 := 160) at_396_159 (Or.inl ⟨rfl, rfl⟩) e20 rfl ?_
        refine aw_goto at_396_160 ?_
        exact rg_396_164 (fun z0 z1 h o hs9 => ih z0 z1 h o hs9) x0 x7 v10 (((8 * v12) + x7)) v19 h o l0 l7 i0 (am_vR_s e11).2 hs9
def fg_396_32 (N : Nat) (x0 : Value) (x1 : Int32) (x2 : Int32) (x3 : Int32) (x4 : Int32) (x5 : Int32) (x6 : Int32) (s0 : Value) (s1 : Int32) (h : am_H) : Option am_O := ((am_pP 3072 s0 (.int s1) h).bind fun h1 => ((am_vI (am_pG 3072 x0 h1)).bind fun v3 => (if v3 ≤ 0 then ((am_vR (am_pG 3104 x0 h1)).bind fun v6 => ((am_vI (am_pG 3103 x0 h1)).bind fun v8 => ((am_pS 0 v6 v8 x1 h1).bind fun h10 => ((am_vR (am_pG 3105 x0 h10)).bind fun v12 => ((am_vI (am_pG 3103 x0 h10)).bind fun v14 => ((am_pS 0 v12 v14 x2 h10).bind fun h16 => ((am_vR (am_pG 3106 x0 h16)).bind fun v18 => ((am_vI (am_pG 3103 x0 h16)).bind fun v20 => ((am_pS 0 v18 v20 x3 h16).bind fun h22 => ((am_vR (am_pG 3107 x0 h22)).bind fun v24 => ((am_vI (am_pG 3103 x0 h22)).bind fun v26 => ((am_pS 0 v24 v26 x4 h22).bind fun h28 => ((am_vR (am_pG 3108 x0 h28)).bind fun v30 => ((am_vI (am_pG 3103 x0 h28)).bind fun v32 => ((am_pS 0 v30 v32 x5 h28).bind fun h34 => ((am_vR (am_pG 3109 x0 h34)).bind fun v36 => ((am_vI (am_pG 3103 x0 h34)).bind fun v38 => ((am_pS 2 v36 v38 x6 h34).bind fun h40 => ((am_vR (am_pG 3110 x0 h40)).bind fun v42 => ((am_vI (am_pG 3103 x0 h40)).bind fun v44 => ((am_vI (am_pG 3112 x0 h40)).bind fun v46 => ((am_pS 0 v42 v44 v46 h40).bind fun h48 => (fg_396_123 N N x0 0 h48))))))))))))))))))))))) else some (.inl (some (.int 0), h1)))))
theorem rg_396_32 {X : am_X} {d : Nat} {N : Nat} {lv : am_LV} (x0 : Value) (x1 : Int32) (x2 : Int32) (x3 : Int32) (x4 : Int32) (x5 : Int32) (x6 : Int32) (s0 : Value) (s1 : Int32) (h : am_H) (o : am_O) (l0 : lv.lookup 0 = some x0) (l1 : lv.lookup 1 = some (.int x1)) (l2 : lv.lookup 2 = some (.int x2)) (l3 : lv.lookup 3 = some (.int x3)) (l4 : lv.lookup 4 = some (.int x4)) (l5 : lv.lookup 5 = some (.int x5)) (l6 : lv.lookup 6 = some (.int x6)) (i0 : am_isR x0 = true) (j0 : am_isR s0 = true) (hs : fg_396_32 N x0 x1 x2 x3 x4 x5 x6 s0 s1 h = some o) : am_W X (d + 1) 396 32 lv [(.int s1), s0] h (fun q => q = o) := by
  unfold fg_396_32 at hs
  obtain ⟨h1, e2, hs1⟩ := am_bind hs
  clear hs
  refine aw_pP (pc1 := 35) at_396_32 e2 rfl ?_
  refine aw_vload_n (pc1 := 36) at_396_35 l0 i0 rfl ?_
  obtain ⟨v3, e4, hs2⟩ := am_bind hs1
  clear hs1
  refine aw_pG (pc1 := 39) at_396_36 (am_vI_s e4) rfl ?_
  by_cases c5 : v3 ≤ 0
  · rw [if_pos c5] at hs2
    refine aw_ifle_t at_396_39 c5 ?_
    refine aw_vload_n (pc1 := 45) at_396_44 l0 i0 rfl ?_
    obtain ⟨v6, e7, hs3⟩ := am_bind hs2
    clear hs2
    refine aw_pG (pc1 := 48) at_396_45 (am_vR_s e7).1 rfl ?_
    refine aw_vload_n (pc1 := 49) at_396_48 l0 i0 rfl ?_
    obtain ⟨v8, e9, hs4⟩ := am_bind hs3
    clear hs3
    refine aw_pG (pc1 := 52) at_396_49 (am_vI_s e9) rfl ?_
    refine aw_iload_n (pc1 := 53) at_396_52 l1 rfl ?_
    obtain ⟨h10, e11, hs5⟩ := am_bind hs4
    clear hs4
    refine aw_pS (pc1 := 54) at_396_53 (Or.inl ⟨rfl, rfl⟩) e11 rfl ?_
    refine aw_vload_n (pc1 := 55) at_396_54 l0 i0 rfl ?_
    obtain ⟨v12, e13, hs6⟩ := am_bind hs5
    clear hs5
    refine aw_pG (pc1 := 58) at_396_55 (am_vR_s e13).1 rfl ?_
    refine aw_vload_n (pc1 := 59) at_396_58 l0 i0 rfl ?_
    obtain ⟨v14, e15, hs7⟩ := am_bind hs6
    clear hs6
    refine aw_pG (pc1 := 62) at_396_59 (am_vI_s e15) rfl ?_
    refine aw_iload_n (pc1 := 63) at_396_62 l2 rfl ?_
    obtain ⟨h16, e17, hs8⟩ := am_bind hs7
    clear hs7
    refine aw_pS (pc1 := 64) at_396_63 (Or.inl ⟨rfl, rfl⟩) e17 rfl ?_
    refine aw_vload_n (pc1 := 65) at_396_64 l0 i0 rfl ?_
    obtain ⟨v18, e19, hs9⟩ := am_bind hs8
    clear hs8
    refine aw_pG (pc1 := 68) at_396_65 (am_vR_s e19).1 rfl ?_
    refine aw_vload_n (pc1 := 69) at_396_68 l0 i0 rfl ?_
    obtain ⟨v20, e21, hs10⟩ := am_bind hs9
    clear hs9
    refine aw_pG (pc1 := 72) at_396_69 (am_vI_s e21) rfl ?_
    refine aw_iload_n (pc1 := 73) at_396_72 l3 rfl ?_
    obtain ⟨h22, e23, hs11⟩ := am_bind hs10
    clear hs10
    refine aw_pS (pc1 := 74) at_396_73 (Or.inl ⟨rfl, rfl⟩) e23 rfl ?_
    refine aw_vload_n (pc1 := 75) at_396_74 l0 i0 rfl ?_
    obtain ⟨v24, e25, hs12⟩ := am_bind hs11
    clear hs11
    refine aw_pG (pc1 := 78) at_396_75 (am_vR_s e25).1 rfl ?_
    refine aw_vload_n (pc1 := 79) at_396_78 l0 i0 rfl ?_
    obtain ⟨v26, e27, hs13⟩ := am_bind hs12
    clear hs12
    refine aw_pG (pc1 := 82) at_396_79 (am_vI_s e27) rfl ?_
    refine aw_iload (pc1 := 84) at_396_82 l4 rfl ?_
    obtain ⟨h28, e29, hs14⟩ := am_bind hs13
    clear hs13
    refine aw_pS (pc1 := 85) at_396_84 (Or.inl ⟨rfl, rfl⟩) e29 rfl ?_
    refine aw_vload_n (pc1 := 86) at_396_85 l0 i0 rfl ?_
    obtain ⟨v30, e31, hs15⟩ := am_bind hs14
    clear hs14
    refine aw_pG (pc1 := 89) at_396_86 (am_vR_s e31).1 rfl ?_
    refine aw_vload_n (pc1 := 90) at_396_89 l0 i0 rfl ?_
    obtain ⟨v32, e33, hs16⟩ := am_bind hs15
    clear hs15
    refine aw_pG (pc1 := 93) at_396_90 (am_vI_s e33) rfl ?_
    refine aw_iload (pc1 := 95) at_396_93 l5 rfl ?_
    obtain ⟨h34, e35, hs17⟩ := am_bind hs16
    clear hs16
    refine aw_pS (pc1 := 96) at_396_95 (Or.inl ⟨rfl, rfl⟩) e35 rfl ?_
    refine aw_vload_n (pc1 := 97) at_396_96 l0 i0 rfl ?_
    obtain ⟨v36, e37, hs18⟩ := am_bind hs17
    clear hs17
    refine aw_pG (pc1 := 100) at_396_97 (am_vR_s e37).1 rfl ?_
    refine aw_vload_n (pc1 := 101) at_396_100 l0 i0 rfl ?_
    obtain ⟨v38, e39, hs19⟩ := am_bind hs18
    clear hs18
    refine aw_pG (pc1 := 104) at_396_101 (am_vI_s e39) rfl ?_
    refine aw_iload (pc1 := 106) at_396_104 l6 rfl ?_
    obtain ⟨h40, e41, hs20⟩ := am_bind hs19
    clear hs19
    refine aw_pS (pc1 := 107) at_396_106 (Or.inr (Or.inl ⟨rfl, rfl⟩)) e41 rfl ?_
    refine aw_vload_n (pc1 := 108) at_396_107 l0 i0 rfl ?_
    obtain ⟨v42, e43, hs21⟩ := am_bind hs20
    clear hs20
    refine aw_pG (pc1 := 111) at_396_108 (am_vR_s e43).1 rfl ?_
    refine aw_vload_n (pc1 := 112) at_396_111 l0 i0 rfl ?_
    obtain ⟨v44, e45, hs22⟩ := am_bind hs21
    clear hs21
    refine aw_pG (pc1 := 115) at_396_112 (am_vI_s e45) rfl ?_
    refine aw_vload_n (pc1 := 116) at_396_115 l0 i0 rfl ?_
    obtain ⟨v46, e47, hs23⟩ := am_bind hs22
    clear hs22
    refine aw_pG (pc1 := 119) at_396_116 (am_vI_s e47) rfl ?_
    obtain ⟨h48, e49, hs24⟩ := am_bind hs23
    clear hs23
    refine aw_pS (pc1 := 120) at_396_119 (Or.inl ⟨rfl, rfl⟩) e49 rfl ?_
    refine aw_iconst (v := 0) (pc1 := 121) at_396_120 (by decide) rfl ?_
    refine aw_istore (lv1 := am_put1 _ 7 _) (pc1 := 123) at_396_121 rfl rfl ?_
    exact rg_396_123 N x0 0 h48 o hs24 _ (am_lk1 l0 rfl rfl) am_lk0 i0
  · rw [if_neg c5] at hs2
    refine aw_ifle_f (pc1 := 42) at_396_39 c5 rfl ?_
    refine aw_iconst (v := 0) (pc1 := 43) at_396_42 (by decide) rfl ?_
    cases hs2
    exact aw_iret at_396_43 (by rw [rt_396]; rfl) rfl
def fg_396_0 (N : Nat) (x0 : Value) (x1 : Int32) (x2 : Int32) (x3 : Int32) (x4 : Int32) (x5 : Int32) (x6 : Int32) (h : am_H) : Option am_O := am_cI false (fm_327 ((Int32.toInt64 x5)) 1 9 h) (fun v1 h2 => (if ¬ v1 = 0 then ((am_vI (am_pG 3103 x0 h2)).bind fun v5 => (if ¬ v5 = 24 then (fg_396_32 N x0 x1 x2 x3 x4 x5 x6 x0 0 h2) else (fg_396_32 N x0 x1 x2 x3 x4 x5 x6 x0 2 h2))) else (fg_396_32 N x0 x1 x2 x3 x4 x5 x6 x0 1 h2)))
theorem rg_396_0 {X : am_X} {d : Nat} {N : Nat} {lv : am_LV} (x0 : Value) (x1 : Int32) (x2 : Int32) (x3 : Int32) (x4 : Int32) (x5 : Int32) (x6 : Int32) (h : am_H) (o : am_O) (l0 : lv.lookup 0 = some x0) (l1 : lv.lookup 1 = some (.int x1)) (l2 : lv.lookup 2 = some (.int x2)) (l3 : lv.lookup 3 = some (.int x3)) (l4 : lv.lookup 4 = some (.int x4)) (l5 : lv.lookup 5 = some (.int x5)) (l6 : lv.lookup 6 = some (.int x6)) (i0 : am_isR x0 = true) (hs : fg_396_0 N x0 x1 x2 x3 x4 x5 x6 h = some o) : am_W X (d + 1) 396 0 lv [] h (fun q => q = o) := by
  unfold fg_396_0 at hs
  refine aw_vload_n (pc1 := 1) at_396_0 l0 i0 rfl ?_
  refine aw_iload (pc1 := 3) at_396_1 l5 rfl ?_
  refine aw_i2l (v := (Int32.toInt64 x5)) (pc1 := 4) at_396_3 rfl rfl ?_
  refine aw_lconst (v := 1) (pc1 := 5) at_396_4 (by decide) rfl ?_
  refine aw_ldc2 (v := 9) (pc1 := 8) at_396_5 rfl rfl ?_
  refine aw_call (F := fm_327 ((Int32.toInt64 x5)) 1 9 h) (t := false) (na := 3) (kd := 0) (as := [(.long (Int32.toInt64 x5)), (.long 1), (.long 9)]) at_396_8 (am_k3s kb_327) mn_327 mk_327 rfl rfl (am_ok_s mi_327 (am_hl rfl (am_ccL (am_ccL (am_ccL am_cats_0))) rfl)) (am_hc (am_ccR i0 am_cats_0) rfl) (fun hz9 => by cases hz9) (fun o1 hz9 => rm_327 ((Int32.toInt64 x5)) 1 9 h o1  hz9) ?_
  rcases am_cI_s hs with ⟨v1, h2, f3, hs1⟩ | hs1
  · clear hs
    refine Or.inl ⟨_, _, f3, ?_⟩
    show am_W X _ 396 11 _ [(.int v1), x0] h2 _
    by_cases c4 : ¬ v1 = 0
    · rw [if_pos c4] at hs1
      refine aw_ifne_t at_396_11 c4 ?_
      refine aw_vload_n (pc1 := 19) at_396_18 l0 i0 rfl ?_
      obtain ⟨v5, e6, hs2⟩ := am_bind hs1
      clear hs1
      refine aw_pG (pc1 := 22) at_396_19 (am_vI_s e6) rfl ?_
      refine aw_bipush (v := 24) (pc1 := 24) at_396_22 (by decide) rfl ?_
      by_cases c7 : ¬ v5 = 24
      · rw [if_pos c7] at hs2
        refine aw_icne_t at_396_24 c7 ?_
        refine aw_iconst (v := 0) (pc1 := 32) at_396_31 (by decide) rfl ?_
        exact rg_396_32 x0 x1 x2 x3 x4 x5 x6 x0 0 h2 o l0 l1 l2 l3 l4 l5 l6 i0 i0 hs2
      · rw [if_neg c7] at hs2
        refine aw_icne_f (pc1 := 27) at_396_24 c7 rfl ?_
        refine aw_iconst (v := 2) (pc1 := 28) at_396_27 (by decide) rfl ?_
        refine aw_goto at_396_28 ?_
        exact rg_396_32 x0 x1 x2 x3 x4 x5 x6 x0 2 h2 o l0 l1 l2 l3 l4 l5 l6 i0 i0 hs2
    · rw [if_neg c4] at hs1
      refine aw_ifne_f (pc1 := 14) at_396_11 c4 rfl ?_
      refine aw_iconst (v := 1) (pc1 := 15) at_396_14 (by decide) rfl ?_
      refine aw_goto at_396_15 ?_
      exact rg_396_32 x0 x1 x2 x3 x4 x5 x6 x0 1 h2 o l0 l1 l2 l3 l4 l5 l6 i0 i0 hs1
  · clear hs
    exact Or.inr hs1
def fm_396 (N : Nat) (y0 : Value) (y1 : Int32) (y2 : Int32) (y3 : Int32) (y4 : Int32) (y5 : Int32) (y6 : Int32) (h : am_H) : Option am_O := fg_396_0 N y0 y1 y2 y3 y4 y5 y6 h
theorem rm_396 {X : am_X} {d : Nat} {N : Nat} (y0 : Value) (y1 : Int32) (y2 : Int32) (y3 : Int32) (y4 : Int32) (y5 : Int32) (y6 : Int32) (h : am_H) (o : am_O) (i0 : am_isR y0 = true) (hs : fm_396 N y0 y1 y2 y3 y4 y5 y6 h = some o) : am_W X (d + 1) 396 0 (am_args 0 [y0, .int y1, .int y2, .int y3, .int y4, .int y5, .int y6]) [] h (fun q => q = o) := by
  rw [am_args_R i0, am_args_I, am_args_I, am_args_I, am_args_I, am_args_I, am_args_I]
  exact rg_396_0 y0 y1 y2 y3 y4 y5 y6 h o rfl rfl rfl rfl rfl rfl rfl i0 hs
def fg_108_15 (h : am_H) : Option am_O := some (.inr (2, h ++ [am_dummy]))
theorem rg_108_15 {X : am_X} {d : Nat} {lv : am_LV} (h : am_H) (o : am_O) (hs : fg_108_15 h = some o) : am_W X (d) 108 15 lv [] h (fun q => q = o) := by
  unfold fg_108_15 at hs
  cases hs
  exact aw_throw at_108_15 rfl th_108_15 (am_hc am_cats_0 rfl) rfl
def fg_108_0 (x0 : Value) (x1 : Int32) (h : am_H) : Option am_O := (if x1 < 0 then (fg_108_15 h) else ((am_vR (am_pG 2819 x0 h)).bind fun v2 => ((am_vI (am_pG 513 v2 h)).bind fun v4 => (if x1 < v4 then some (.inl (none, h)) else (fg_108_15 h)))))
theorem rg_108_0 {X : am_X} {d : Nat} {lv : am_LV} (x0 : Value) (x1 : Int32) (h : am_H) (o : am_O) (l0 : lv.lookup 0 = some x0) (l1 : lv.lookup 1 = some (.int x1)) (i0 : am_isR x0 = true) (hs : fg_108_0 x0 x1 h = some o) : am_W X (d) 108 0 lv [] h (fun q => q = o) := by
  unfold fg_108_0 at hs
  refine aw_iload_n (pc1 := 1) at_108_0 l1 rfl ?_
  by_cases c1 : x1 < 0
  · rw [if_pos c1] at hs
    refine aw_iflt_t at_108_1 c1 ?_
    exact rg_108_15 h o   hs
  · rw [if_neg c1] at hs
    refine aw_iflt_f (pc1 := 4) at_108_1 c1 rfl ?_
    refine aw_iload_n (pc1 := 5) at_108_4 l1 rfl ?_
    refine aw_vload_n (pc1 := 6) at_108_5 l0 i0 rfl ?_
    obtain ⟨v2, e3, hs1⟩ := am_bind hs
    clear hs
    refine aw_pG (pc1 := 9) at_108_6 (am_vR_s e3).1 rfl ?_
    obtain ⟨v4, e5, hs2⟩ := am_bind hs1
    clear hs1
    refine aw_pG (pc1 := 12) at_108_9 (am_vI_s e5) rfl ?_
    by_cases c6 : x1 < v4
    · rw [if_pos c6] at hs2
      refine aw_iclt_t at_108_12 c6 ?_
      cases hs2
      exact aw_vret at_108_26 rt_108 rfl
    · rw [if_neg c6] at hs2
      refine aw_iclt_f (pc1 := 15) at_108_12 c6 rfl ?_
      exact rg_108_15 h o   hs2
def fm_108 (y0 : Value) (y1 : Int32) (h : am_H) : Option am_O := fg_108_0 y0 y1 h
theorem rm_108 {X : am_X} {d : Nat} (y0 : Value) (y1 : Int32) (h : am_H) (o : am_O) (i0 : am_isR y0 = true) (hs : fm_108 y0 y1 h = some o) : am_W X (d) 108 0 (am_args 0 [y0, .int y1]) [] h (fun q => q = o) := by
  rw [am_args_R i0, am_args_I]
  exact rg_108_0 y0 y1 h o rfl rfl i0 hs
def fg_109_0 (x0 : Value) (x1 : Int32) (h : am_H) : Option am_O := ((am_vR (am_pG 512 x0 h)).bind fun v1 => ((am_vR (am_pG 512 x0 h)).bind fun v3 => ((am_vI (am_pG 513 x0 h)).bind fun v5 => ((am_pCpy v1 ((x1 + 1) * 15) v3 (x1 * 15) (((v5 - 1) - x1) * 15) h).bind fun h7 => ((am_vI (am_pG 513 x0 h7)).bind fun v9 => ((am_pP 513 x0 (.int (v9 - 1)) h7).bind fun h11 => some (.inl (none, h11))))))))
theorem rg_109_0 {X : am_X} {d : Nat} {lv : am_LV} (x0 : Value) (x1 : Int32) (h : am_H) (o : am_O) (l0 : lv.lookup 0 = some x0) (l1 : lv.lookup 1 = some (.int x1)) (i0 : am_isR x0 = true) (hs : fg_109_0 x0 x1 h = some o) : am_W X (d) 109 0 lv [] h (fun q => q = o) := by
  unfold fg_109_0 at hs
  refine aw_vload_n (pc1 := 1) at_109_0 l0 i0 rfl ?_
  obtain ⟨v1, e2, hs1⟩ := am_bind hs
  clear hs
  refine aw_pG (pc1 := 4) at_109_1 (am_vR_s e2).1 rfl ?_
  refine aw_iload_n (pc1 := 5) at_109_4 l1 rfl ?_
  refine aw_iconst (v := 1) (pc1 := 6) at_109_5 (by decide) rfl ?_
  refine aw_iadd (v := (x1 + 1)) (pc1 := 7) at_109_6 rfl rfl ?_
  refine aw_bipush (v := 15) (pc1 := 9) at_109_7 (by decide) rfl ?_
  refine aw_imul (v := ((x1 + 1) * 15)) (pc1 := 10) at_109_9 rfl rfl ?_
  refine aw_vload_n (pc1 := 11) at_109_10 l0 i0 rfl ?_
  obtain ⟨v3, e4, hs2⟩ := am_bind hs1
  clear hs1
  refine aw_pG (pc1 := 14) at_109_11 (am_vR_s e4).1 rfl ?_
  refine aw_iload_n (pc1 := 15) at_109_14 l1 rfl ?_
  refine aw_bipush (v := 15) (pc1 := 17) at_109_15 (by decide) rfl ?_
  refine aw_imul (v := (x1 * 15)) (pc1 := 18) at_109_17 rfl rfl ?_
  refine aw_vload_n (pc1 := 19) at_109_18 l0 i0 rfl ?_
  obtain ⟨v5, e6, hs3⟩ := am_bind hs2
  clear hs2
  refine aw_pG (pc1 := 22) at_109_19 (am_vI_s e6) rfl ?_
  refine aw_iconst (v := 1) (pc1 := 23) at_109_22 (by decide) rfl ?_
  refine aw_isub (v := (v5 - 1)) (pc1 := 24) at_109_23 rfl rfl ?_
  refine aw_iload_n (pc1 := 25) at_109_24 l1 rfl ?_
  refine aw_isub (v := ((v5 - 1) - x1)) (pc1 := 26) at_109_25 rfl rfl ?_
  refine aw_bipush (v := 15) (pc1 := 28) at_109_26 (by decide) rfl ?_
  refine aw_imul (v := (((v5 - 1) - x1) * 15)) (pc1 := 29) at_109_28 rfl rfl ?_
  obtain ⟨h7, e8, hs4⟩ := am_bind hs3
  clear hs3
  refine aw_pCpy at_109_29 rfl e8 (am_hc am_cats_0 rfl) ?_
  refine aw_vload_n (pc1 := 33) at_109_32 l0 i0 rfl ?_
  refine aw_vdup (pc1 := 34) at_109_33 i0 rfl ?_
  obtain ⟨v9, e10, hs5⟩ := am_bind hs4
  clear hs4
  refine aw_pG (pc1 := 37) at_109_34 (am_vI_s e10) rfl ?_
  refine aw_iconst (v := 1) (pc1 := 38) at_109_37 (by decide) rfl ?_
  refine aw_isub (v := (v9 - 1)) (pc1 := 39) at_109_38 rfl rfl ?_
  obtain ⟨h11, e12, hs6⟩ := am_bind hs5
  clear hs5
  refine aw_pP (pc1 := 42) at_109_39 e12 rfl ?_
  cases hs6
  exact aw_vret at_109_42 rt_109 rfl
def fm_109 (y0 : Value) (y1 : Int32) (h : am_H) : Option am_O := fg_109_0 y0 y1 h
theorem rm_109 {X : am_X} {d : Nat} (y0 : Value) (y1 : Int32) (h : am_H) (o : am_O) (i0 : am_isR y0 = true) (hs : fm_109 y0 y1 h = some o) : am_W X (d) 109 0 (am_args 0 [y0, .int y1]) [] h (fun q => q = o) := by
  rw [am_args_R i0, am_args_I]
  exact rg_109_0 y0 y1 h o rfl rfl i0 hs
def fg_107_0 (x0 : Value) (x1 : Int32) (h : am_H) : Option am_O := (if am_pOk 11 x0 h then am_cV true (fm_108 x0 x1 h) (fun h3 => ((am_vR (am_pG 2819 x0 h3)).bind fun v5 => (if am_pOk 2 v5 h3 then am_cV true (fm_109 v5 x1 h3) (fun h9 => ((am_vR (am_pG 2819 x0 h9)).bind fun v11 => ((am_vI (am_pG 513 v11 h9)).bind fun v13 => some (.inl (some (.int v13), h9))))) else none))) else none)
theorem rg_107_0 {X : am_X} {d : Nat} {lv : am_LV} (x0 : Value) (x1 : Int32) (h : am_H) (o : am_O) (l0 : lv.lookup 0 = some x0) (l1 : lv.lookup 1 = some (.int x1)) (i0 : am_isR x0 = true) (hs : fg_107_0 x0 x1 h = some o) : am_W X (d + 1) 107 0 lv [] h (fun q => q = o) := by
  unfold fg_107_0 at hs
  refine aw_vload_n (pc1 := 1) at_107_0 l0 i0 rfl ?_
  refine aw_iload_n (pc1 := 2) at_107_1 l1 rfl ?_
  obtain ⟨z1, hs1⟩ := am_ift hs
  clear hs
  refine aw_call (F := fm_108 x0 x1 h) (t := true) (na := 2) (kd := 1) (as := [x0, (.int x1)]) at_107_2 (am_k3v kb_108) mn_108 mk_108 rfl rfl (am_ok_v mi_108 (am_hl rfl (am_ccR i0 (am_ccI am_cats_0)) rfl) z1) (am_hc am_cats_0 rfl) (fun _ => ⟨rfl, hh_107⟩) (fun o1 hz9 => rm_108 x0 x1 h o1 i0 hz9) ?_
  rcases am_cV_s hs1 with ⟨h3, f4, hs2⟩ | hs2
  · clear hs1
    refine Or.inl ⟨_, _, f4, ?_⟩
    show am_W X _ 107 5 _ [] h3 _
    refine aw_vload_n (pc1 := 6) at_107_5 l0 i0 rfl ?_
    obtain ⟨v5, e6, hs3⟩ := am_bind hs2
    clear hs2
    refine aw_pG (pc1 := 9) at_107_6 (am_vR_s e6).1 rfl ?_
    refine aw_iload_n (pc1 := 10) at_107_9 l1 rfl ?_
    obtain ⟨z7, hs4⟩ := am_ift hs3
    clear hs3
    refine aw_call (F := fm_109 v5 x1 h3) (t := true) (na := 2) (kd := 1) (as := [v5, (.int x1)]) at_107_10 (am_k3v kb_109) mn_109 mk_109 rfl rfl (am_ok_v mi_109 (am_hl rfl (am_ccR (am_vR_s e6).2 (am_ccI am_cats_0)) rfl) z7) (am_hc am_cats_0 rfl) (fun _ => ⟨rfl, hh_107⟩) (fun o1 hz9 => rm_109 v5 x1 h3 o1 (am_vR_s e6).2 hz9) ?_
    rcases am_cV_s hs4 with ⟨h9, f10, hs5⟩ | hs5
    · clear hs4
      refine Or.inl ⟨_, _, f10, ?_⟩
      show am_W X _ 107 13 _ [] h9 _
      refine aw_vload_n (pc1 := 14) at_107_13 l0 i0 rfl ?_
      obtain ⟨v11, e12, hs6⟩ := am_bind hs5
      clear hs5
      refine aw_pG (pc1 := 17) at_107_14 (am_vR_s e12).1 rfl ?_
      obtain ⟨v13, e14, hs7⟩ := am_bind hs6
      clear hs6
      refine aw_pG (pc1 := 20) at_107_17 (am_vI_s e14) rfl ?_
      cases hs7
      exact aw_iret at_107_20 (by rw [rt_107]; rfl) rfl
    · clear hs4
      exact Or.inr hs5
  · clear hs1
    exact Or.inr hs2
def fm_107 (y0 : Value) (y1 : Int32) (h : am_H) : Option am_O := fg_107_0 y0 y1 h
theorem rm_107 {X : am_X} {d : Nat} (y0 : Value) (y1 : Int32) (h : am_H) (o : am_O) (i0 : am_isR y0 = true) (hs : fm_107 y0 y1 h = some o) : am_W X (d + 1) 107 0 (am_args 0 [y0, .int y1]) [] h (fun q => q = o) := by
  rw [am_args_R i0, am_args_I]
  exact rg_107_0 y0 y1 h o rfl rfl i0 hs
def fg_106_13 (h : am_H) : Option am_O := some (.inl (some (.int 1), h))
theorem rg_106_13 {X : am_X} {d : Nat} {lv : am_LV} (h : am_H) (o : am_O) (hs : fg_106_13 h = some o) : am_W X (d + 2) 106 13 lv [] h (fun q => q = o) := by
  unfold fg_106_13 at hs
  refine aw_iconst (v := 1) (pc1 := 14) at_106_13 (by decide) rfl ?_
  cases hs
  exact aw_iret at_106_14 (by rw [rt_106]; rfl) rfl
def fg_106_0 (x0 : Value) (x1 : Int32) (x2 : Value) (h : am_H) : Option am_O := (if am_pOk 11 x0 h then (match fm_107 x0 x1 h with | some (.inl (some (.int v2), h3)) => ((am_pSL x2 0 (Int32.toInt64 v2) h3).bind fun h5 => some (.inl (some (.int 0), h5))) | some (.inr (2, h7)) => (fg_106_13 h7) | _ => none) else none)
theorem rg_106_0 {X : am_X} {d : Nat} {lv : am_LV} (x0 : Value) (x1 : Int32) (x2 : Value) (h : am_H) (o : am_O) (l0 : lv.lookup 0 = some x0) (l1 : lv.lookup 1 = some (.int x1)) (l2 : lv.lookup 2 = some x2) (i0 : am_isR x0 = true) (i2 : am_isR x2 = true) (hs : fg_106_0 x0 x1 x2 h = some o) : am_W X (d + 2) 106 0 lv [] h (fun q => q = o) := by
  unfold fg_106_0 at hs
  refine aw_vload_n (pc1 := 1) at_106_0 l2 i2 rfl ?_
  refine aw_iconst (v := 0) (pc1 := 2) at_106_1 (by decide) rfl ?_
  refine aw_vload_n (pc1 := 3) at_106_2 l0 i0 rfl ?_
  refine aw_iload_n (pc1 := 4) at_106_3 l1 rfl ?_
  obtain ⟨z1, hs1⟩ := am_ift hs
  clear hs
  refine aw_callH (F := fm_107 x0 x1 h) (na := 2) (kd := 1) (as := [x0, (.int x1)]) at_106_4 (am_k3v kb_107) mn_107 mk_107 rfl rfl (am_ok_v mi_107 (am_hl rfl (am_ccR i0 (am_ccI am_cats_0)) rfl) z1) (am_hc (am_ccI (am_ccR i2 am_cats_0)) rfl) (fun o1 hz9 => rm_107 x0 x1 h o1 i0 hz9) ?_
  split at hs1
  · rename_i v2 h3 f4
    refine Or.inl ⟨_, _, f4, ?_⟩
    show am_W X _ 106 7 _ [(.int v2), (.int 0), x2] h3 _
    refine aw_i2l (v := (Int32.toInt64 v2)) (pc1 := 8) at_106_7 rfl rfl ?_
    obtain ⟨h5, e6, hs2⟩ := am_bind hs1
    clear hs1
    refine aw_pSL (pc1 := 9) at_106_8 e6 rfl ?_
    refine aw_goto at_106_9 ?_
    refine aw_iconst (v := 0) (pc1 := 16) at_106_15 (by decide) rfl ?_
    cases hs2
    exact aw_iret at_106_16 (by rw [rt_106]; rfl) rfl
  · rename_i h7 f8
    refine Or.inr ⟨_, _, 13, 3, f8, rfl, hn_106, hd_106_4_2, ?_⟩
    exact rg_106_13 h7 o   hs1
  · cases hs1
def fm_106 (y0 : Value) (y1 : Int32) (y2 : Value) (h : am_H) : Option am_O := fg_106_0 y0 y1 y2 h
theorem rm_106 {X : am_X} {d : Nat} (y0 : Value) (y1 : Int32) (y2 : Value) (h : am_H) (o : am_O) (i0 : am_isR y0 = true) (i2 : am_isR y2 = true) (hs : fm_106 y0 y1 y2 h = some o) : am_W X (d + 2) 106 0 (am_args 0 [y0, .int y1, y2]) [] h (fun q => q = o) := by
  rw [am_args_R i0, am_args_I, am_args_R i2]
  exact rg_106_0 y0 y1 y2 h o rfl rfl rfl i0 i2 hs
def fg_398_0 (x0 : Value) (x1 : Int32) (h : am_H) : Option am_O := ((am_vI (am_pG 3103 x0 h)).bind fun v1 => am_cI false (fm_327 ((Int32.toInt64 x1)) 0 (((Int32.toInt64 v1) - 1)) h) (fun v3 h4 => (if am_rfit (some FieldType.boolean) v3 then some (.inl (some (.int v3), h4)) else none)))
theorem rg_398_0 {X : am_X} {d : Nat} {lv : am_LV} (x0 : Value) (x1 : Int32) (h : am_H) (o : am_O) (l0 : lv.lookup 0 = some x0) (l1 : lv.lookup 1 = some (.int x1)) (i0 : am_isR x0 = true) (hs : fg_398_0 x0 x1 h = some o) : am_W X (d + 1) 398 0 lv [] h (fun q => q = o) := by
  unfold fg_398_0 at hs
  refine aw_iload_n (pc1 := 1) at_398_0 l1 rfl ?_
  refine aw_i2l (v := (Int32.toInt64 x1)) (pc1 := 2) at_398_1 rfl rfl ?_
  refine aw_lconst (v := 0) (pc1 := 3) at_398_2 (by decide) rfl ?_
  refine aw_vload_n (pc1 := 4) at_398_3 l0 i0 rfl ?_
  obtain ⟨v1, e2, hs1⟩ := am_bind hs
  clear hs
  refine aw_pG (pc1 := 7) at_398_4 (am_vI_s e2) rfl ?_
  refine aw_i2l (v := (Int32.toInt64 v1)) (pc1 := 8) at_398_7 rfl rfl ?_
  refine aw_lconst (v := 1) (pc1 := 9) at_398_8 (by decide) rfl ?_
  refine aw_lsub (v := ((Int32.toInt64 v1) - 1)) (pc1 := 10) at_398_9 rfl rfl ?_
  refine aw_call (F := fm_327 ((Int32.toInt64 x1)) 0 (((Int32.toInt64 v1) - 1)) h) (t := false) (na := 3) (kd := 0) (as := [(.long (Int32.toInt64 x1)), (.long 0), (.long ((Int32.toInt64 v1) - 1))]) at_398_10 (am_k3s kb_327) mn_327 mk_327 rfl rfl (am_ok_s mi_327 (am_hl rfl (am_ccL (am_ccL (am_ccL am_cats_0))) rfl)) (am_hc am_cats_0 rfl) (fun hz9 => by cases hz9) (fun o1 hz9 => rm_327 ((Int32.toInt64 x1)) 0 (((Int32.toInt64 v1) - 1)) h o1  hz9) ?_
  rcases am_cI_s hs1 with ⟨v3, h4, f5, hs2⟩ | hs2
  · clear hs1
    refine Or.inl ⟨_, _, f5, ?_⟩
    show am_W X _ 398 13 _ [(.int v3)] h4 _
    obtain ⟨z6, hs3⟩ := am_ift hs2
    clear hs2
    cases hs3
    exact aw_iret at_398_13 (by rw [rt_398]; exact z6) rfl
  · clear hs1
    exact Or.inr hs2
def fm_398 (y0 : Value) (y1 : Int32) (h : am_H) : Option am_O := fg_398_0 y0 y1 h
theorem rm_398 {X : am_X} {d : Nat} (y0 : Value) (y1 : Int32) (h : am_H) (o : am_O) (i0 : am_isR y0 = true) (hs : fm_398 y0 y1 h = some o) : am_W X (d + 1) 398 0 (am_args 0 [y0, .int y1]) [] h (fun q => q = o) := by
  rw [am_args_R i0, am_args_I]
  exact rg_398_0 y0 y1 h o rfl rfl i0 hs
def fg_397_146 (N : Nat) (rec_38 : Value → Int32 → am_H → Option am_O) : Nat → Value → Int32 → Int32 → am_H → Option am_O
  | 0 => fun _ _ _ _ => none
  | K + 1 => fun x0 x2 x3 h => (if 8 ≤ x3 then (rec_38 x0 ((x2 + 1)) h) else ((am_vR (am_pG 3111 x0 h)).bind fun v2 => ((am_vR (am_pG 3111 x0 h)).bind fun v4 => ((am_pA 0 v4 (((8 * x2) + 8) + x3) h).bind fun v6 => ((am_pS 0 v2 ((8 * x2) + x3) v6 h).bind fun h8 => (fg_397_146 N rec_38 K x0 x2 ((x3 + 1)) h8))))))
theorem rg_397_146 {X : am_X} {d : Nat} {N : Nat} {rec_38 : Value → Int32 → am_H → Option am_O} (q_38 : ∀ (x0 : Value) (x2 : Int32) (h : am_H) (o : am_O), rec_38 x0 x2 h = some o → ∀ lv : am_LV, (lv.lookup 0 = some x0) → (lv.lookup 2 = some (.int x2)) → (am_isR x0 = true) → am_W X (d + 2) 397 38 lv [] h (fun q => q = o)) : ∀ (K : Nat) (x0 : Value) (x2 : Int32) (x3 : Int32) (h : am_H) (o : am_O), fg_397_146 N rec_38 K x0 x2 x3 h = some o → ∀ lv : am_LV, (lv.lookup 0 = some x0) → (lv.lookup 2 = some (.int x2)) → (lv.lookup 3 = some (.int x3)) → (am_isR x0 = true) → am_W X (d + 2) 397 146 lv [] h (fun q => q = o) := by
  intro K
  induction K with
  | zero => intro x0 x2 x3 h o hs; cases hs
  | succ K ih =>
    intro x0 x2 x3 h o hs lv l0 l2 l3 i0
    unfold fg_397_146 at hs
    refine aw_iload_n (pc1 := 147) at_397_146 l3 rfl ?_
    refine aw_bipush (v := 8) (pc1 := 149) at_397_147 (by decide) rfl ?_
    by_cases c1 : 8 ≤ x3
    · rw [if_pos c1] at hs
      refine aw_icge_t at_397_149 c1 ?_
      refine aw_iinc (v := (x2 + 1)) (c := 1) (lv1 := am_put1 _ 2 _) (pc1 := 186) at_397_183 l2 (by decide) rfl rfl rfl ?_
      refine aw_goto at_397_186 ?_
      exact q_38 x0 ((x2 + 1)) h o hs _ (am_lk1 l0 rfl rfl) am_lk0 i0
    · rw [if_neg c1] at hs
      refine aw_icge_f (pc1 := 152) at_397_149 c1 rfl ?_
      refine aw_vload_n (pc1 := 153) at_397_152 l0 i0 rfl ?_
      obtain ⟨v2, e3, hs1⟩ := am_bind hs
      clear hs
      refine aw_pG (pc1 := 156) at_397_153 (am_vR_s e3).1 rfl ?_
      refine aw_bipush (v := 8) (pc1 := 158) at_397_156 (by decide) rfl ?_
      refine aw_iload_n (pc1 := 159) at_397_158 l2 rfl ?_
      refine aw_imul (v := (8 * x2)) (pc1 := 160) at_397_159 rfl rfl ?_
      refine aw_iload_n (pc1 := 161) at_397_160 l3 rfl ?_
      refine aw_iadd (v := ((8 * x2) + x3)) (pc1 := 162) at_397_161 rfl rfl ?_
      refine aw_vload_n (pc1 := 163) at_397_162 l0 i0 rfl ?_
      obtain ⟨v4, e5, hs2⟩ := am_bind hs1
      clear hs1
      refine aw_pG (pc1 := 166) at_397_163 (am_vR_s e5).1 rfl ?_
      refine aw_bipush (v := 8) (pc1 := 168) at_397_166 (by decide) rfl ?_
      refine aw_iload_n (pc1 := 169) at_397_168 l2 rfl ?_
      refine aw_imul (v := (8 * x2)) (pc1 := 170) at_397_169 rfl rfl ?_
      refine aw_bipush (v := 8) (pc1 := 172) at_397_170 (by decide) rfl ?_
      refine aw_iadd (v := ((8 * x2) + 8)) (pc1 := 173) at_397_172 rfl rfl ?_
      refine aw_iload_n (pc1 := 174) at_397_173 l3 rfl ?_
      refine aw_iadd (v := (((8 * x2) + 8) + x3)) (pc1 := 175) at_397_174 rfl rfl ?_
      obtain ⟨v6, e7, hs3⟩ := am_bind hs2
      clear hs2
      refine aw_pA (pc1 := 176) at_397_175 (Or.inl ⟨rfl, rfl⟩) e7 rfl ?_
      obtain ⟨h8, e9, hs4⟩ := am_bind hs3
      clear hs3
      refine aw_pS (pc1 := 177) at_397_176 (Or.inl ⟨rfl, rfl⟩) e9 rfl ?_
      refine aw_iinc (v := (x3 + 1)) (c := 1) (lv1 := am_put1 _ 3 _) (pc1 := 180) at_397_177 l3 (by decide) rfl rfl rfl ?_
      refine aw_goto at_397_180 ?_
      exact ih x0 x2 ((x3 + 1)) h8 o hs4 _ (am_lk1 l0 rfl rfl) (am_lk1 l2 rfl rfl) am_lk0 i0
def fg_397_38 (N : Nat) : Nat → Value → Int32 → am_H → Option am_O
  | 0 => fun _ _ _ => none
  | K + 1 => fun x0 x2 h => ((am_vI (am_pG 3103 x0 h)).bind fun v1 => (if v1 ≤ x2 then ((am_vI (am_pG 3103 x0 h)).bind fun v4 => some (.inl (some (.int v4), h))) else ((am_vR (am_pG 3104 x0 h)).bind fun v6 => ((am_vR (am_pG 3104 x0 h)).bind fun v8 => ((am_pA 0 v8 (x2 + 1) h).bind fun v10 => ((am_pS 0 v6 x2 v10 h).bind fun h12 => ((am_vR (am_pG 3105 x0 h12)).bind fun v14 => ((am_vR (am_pG 3105 x0 h12)).bind fun v16 => ((am_pA 0 v16 (x2 + 1) h12).bind fun v18 => ((am_pS 0 v14 x2 v18 h12).bind fun h20 => ((am_vR (am_pG 3106 x0 h20)).bind fun v22 => ((am_vR (am_pG 3106 x0 h20)).bind fun v24 => ((am_pA 0 v24 (x2 + 1) h20).bind fun v26 => ((am_pS 0 v22 x2 v26 h20).bind fun h28 => ((am_vR (am_pG 3107 x0 h28)).bind fun v30 => ((am_vR (am_pG 3107 x0 h28)).bind fun v32 => ((am_pA 0 v32 (x2 + 1) h28).bind fun v34 => ((am_pS 0 v30 x2 v34 h28).bind fun h36 => ((am_vR (am_pG 3108 x0 h36)).bind fun v38 => ((am_vR (am_pG 3108 x0 h36)).bind fun v40 => ((am_pA 0 v40 (x2 + 1) h36).bind fun v42 => ((am_pS 0 v38 x2 v42 h36).bind fun h44 => ((am_vR (am_pG 3109 x0 h44)).bind fun v46 => ((am_vR (am_pG 3109 x0 h44)).bind fun v48 => ((am_pA 2 v48 (x2 + 1) h44).bind fun v50 => ((am_pS 2 v46 x2 v50 h44).bind fun h52 => ((am_vR (am_pG 3110 x0 h52)).bind fun v54 => ((am_vR (am_pG 3110 x0 h52)).bind fun v56 => ((am_pA 0 v56 (x2 + 1) h52).bind fun v58 => ((am_pS 0 v54 x2 v58 h52).bind fun h60 => (fg_397_146 N (fg_397_38 N K) N x0 x2 0 h60)))))))))))))))))))))))))))))))
theorem rg_397_38 {X : am_X} {d : Nat} {N : Nat} : ∀ (K : Nat) (x0 : Value) (x2 : Int32) (h : am_H) (o : am_O), fg_397_38 N K x0 x2 h = some o → ∀ lv : am_LV, (lv.lookup 0 = some x0) → (lv.lookup 2 = some (.int x2)) → (am_isR x0 = true) → am_W X (d + 2) 397 38 lv [] h (fun q => q = o) := by
  intro K
  induction K with
  | zero => intro x0 x2 h o hs; cases hs
  | succ K ih =>
    intro x0 x2 h o hs lv l0 l2 i0
    unfold fg_397_38 at hs
    refine aw_iload_n (pc1 := 39) at_397_38 l2 rfl ?_
    refine aw_vload_n (pc1 := 40) at_397_39 l0 i0 rfl ?_
    obtain ⟨v1, e2, hs1⟩ := am_bind hs
    clear hs
    refine aw_pG (pc1 := 43) at_397_40 (am_vI_s e2) rfl ?_
    by_cases c3 : v1 ≤ x2
    · rw [if_pos c3] at hs1
      refine aw_icge_t at_397_43 c3 ?_
      refine aw_vload_n (pc1 := 190) at_397_189 l0 i0 rfl ?_
      obtain ⟨v4, e5, hs2⟩ := am_bind hs1
      clear hs1
      refine aw_pG (pc1 := 193) at_397_190 (am_vI_s e5) rfl ?_
      cases hs2
      exact aw_iret at_397_193 (by rw [rt_397]; rfl) rfl
    · rw [if_neg c3] at hs1
      refine aw_icge_f (pc1 := 46) at_397_43 c3 rfl ?_
      refine aw_vload_n (pc1 := 47) at_397_46 l0 i0 rfl ?_
      obtain ⟨v6, e7, hs3⟩ := am_bind hs1
      clear hs1
      refine aw_pG (pc1 := 50) at_397_47 (am_vR_s e7).1 rfl ?_
      refine aw_iload_n (pc1 := 51) at_397_50 l2 rfl ?_
      refine aw_vload_n (pc1 := 52) at_397_51 l0 i0 rfl ?_
      obtain ⟨v8, e9, hs4⟩ := am_bind hs3
      clear hs3
      refine aw_pG (pc1 := 55) at_397_52 (am_vR_s e9).1 rfl ?_
      refine aw_iload_n (pc1 := 56) at_397_55 l2 rfl ?_
      refine aw_iconst (v := 1) (pc1 := 57) at_397_56 (by decide) rfl ?_
      refine aw_iadd (v := (x2 + 1)) (pc1 := 58) at_397_57 rfl rfl ?_
      obtain ⟨v10, e11, hs5⟩ := am_bind hs4
      clear hs4
      refine aw_pA (pc1 := 59) at_397_58 (Or.inl ⟨rfl, rfl⟩) e11 rfl ?_
      obtain ⟨h12, e13, hs6⟩ := am_bind hs5
      clear hs5
      refine aw_pS (pc1 := 60) at_397_59 (Or.inl ⟨rfl, rfl⟩) e13 rfl ?_
      refine aw_vload_n (pc1 := 61) at_397_60 l0 i0 rfl ?_
      obtain ⟨v14, e15, hs7⟩ := am_bind hs6
      clear hs6
      refine aw_pG (pc1 := 64) at_397_61 (am_vR_s e15).1 rfl ?_
      refine aw_iload_n (pc1 := 65) at_397_64 l2 rfl ?_
      refine aw_vload_n (pc1 := 66) at_397_65 l0 i0 rfl ?_
      obtain ⟨v16, e17, hs8⟩ := am_bind hs7
      clear hs7
      refine aw_pG (pc1 := 69) at_397_66 (am_vR_s e17).1 rfl ?_
      refine aw_iload_n (pc1 := 70) at_397_69 l2 rfl ?_
      refine aw_iconst (v := 1) (pc1 := 71) at_397_70 (by decide) rfl ?_
      refine aw_iadd (v := (x2 + 1)) (pc1 := 72) at_397_71 rfl rfl ?_
      obtain ⟨v18, e19, hs9⟩ := am_bind hs8
      clear hs8
      refine aw_pA (pc1 := 73) at_397_72 (Or.inl ⟨rfl, rfl⟩) e19 rfl ?_
      obtain ⟨h20, e21, hs10⟩ := am_bind hs9
      clear hs9
      refine aw_pS (pc1 := 74) at_397_73 (Or.inl ⟨rfl, rfl⟩) e21 rfl ?_
      refine aw_vload_n (pc1 := 75) at_397_74 l0 i0 rfl ?_
      obtain ⟨v22, e23, hs11⟩ := am_bind hs10
      clear hs10
      refine aw_pG (pc1 := 78) at_397_75 (am_vR_s e23).1 rfl ?_
      refine aw_iload_n (pc1 := 79) at_397_78 l2 rfl ?_
      refine aw_vload_n (pc1 := 80) at_397_79 l0 i0 rfl ?_
      obtain ⟨v24, e25, hs12⟩ := am_bind hs11
      clear hs11
      refine aw_pG (pc1 := 83) at_397_80 (am_vR_s e25).1 rfl ?_
      refine aw_iload_n (pc1 := 84) at_397_83 l2 rfl ?_
      refine aw_iconst (v := 1) (pc1 := 85) at_397_84 (by decide) rfl ?_
      refine aw_iadd (v := (x2 + 1)) (pc1 := 86) at_397_85 rfl rfl ?_
      obtain ⟨v26, e27, hs13⟩ := am_bind hs12
      clear hs12
      refine aw_pA (pc1 := 87) at_397_86 (Or.inl ⟨rfl, rfl⟩) e27 rfl ?_
      obtain ⟨h28, e29, hs14⟩ := am_bind hs13
      clear hs13
      refine aw_pS (pc1 := 88) at_397_87 (Or.inl ⟨rfl, rfl⟩) e29 rfl ?_
      refine aw_vload_n (pc1 := 89) at_397_88 l0 i0 rfl ?_
      obtain ⟨v30, e31, hs15⟩ := am_bind hs14
      clear hs14
      refine aw_pG (pc1 := 92) at_397_89 (am_vR_s e31).1 rfl ?_
      refine aw_iload_n (pc1 := 93) at_397_92 l2 rfl ?_
      refine aw_vload_n (pc1 := 94) at_397_93 l0 i0 rfl ?_
      obtain ⟨v32, e33, hs16⟩ := am_bind hs15
      clear hs15
      refine aw_pG (pc1 := 97) at_397_94 (am_vR_s e33).1 rfl ?_
      refine aw_iload_n (pc1 := 98) at_397_97 l2 rfl ?_
      refine aw_iconst (v := 1) (pc1 := 99) at_397_98 (by decide) rfl ?_
      refine aw_iadd (v := (x2 + 1)) (pc1 := 100) at_397_99 rfl rfl ?_
      obtain ⟨v34, e35, hs17⟩ := am_bind hs16
      clear hs16
      refine aw_pA (pc1 := 101) at_397_100 (Or.inl ⟨rfl, rfl⟩) e35 rfl ?_
      obtain ⟨h36, e37, hs18⟩ := am_bind hs17
      clear hs17
      refine aw_pS (pc1 := 102) at_397_101 (Or.inl ⟨rfl, rfl⟩) e37 rfl ?_
      refine aw_vload_n (pc1 := 103) at_397_102 l0 i0 rfl ?_
      obtain ⟨v38, e39, hs19⟩ := am_bind hs18
      clear hs18
      refine aw_pG (pc1 := 106) at_397_103 (am_vR_s e39).1 rfl ?_
      refine aw_iload_n (pc1 := 107) at_397_106 l2 rfl ?_
      refine aw_vload_n (pc1 := 108) at_397_107 l0 i0 rfl ?_
      obtain ⟨v40, e41, hs20⟩ := am_bind hs19
      clear hs19
      refine aw_pG (pc1 := 111) at_397_108 (am_vR_s e41).1 rfl ?_
      refine aw_iload_n (pc1 := 112) at_397_111 l2 rfl ?_
      refine aw_iconst (v := 1) (pc1 := 113) at_397_112 (by decide) rfl ?_
      refine aw_iadd (v := (x2 + 1)) (pc1 := 114) at_397_113 rfl rfl ?_
      obtain ⟨v42, e43, hs21⟩ := am_bind hs20
      clear hs20
      refine aw_pA (pc1 := 115) at_397_114 (Or.inl ⟨rfl, rfl⟩) e43 rfl ?_
      obtain ⟨h44, e45, hs22⟩ := am_bind hs21
      clear hs21
      refine aw_pS (pc1 := 116) at_397_115 (Or.inl ⟨rfl, rfl⟩) e45 rfl ?_
      refine aw_vload_n (pc1 := 117) at_397_116 l0 i0 rfl ?_
      obtain ⟨v46, e47, hs23⟩ := am_bind hs22
      clear hs22
      refine aw_pG (pc1 := 120) at_397_117 (am_vR_s e47).1 rfl ?_
      refine aw_iload_n (pc1 := 121) at_397_120 l2 rfl ?_
      refine aw_vload_n (pc1 := 122) at_397_121 l0 i0 rfl ?_
      obtain ⟨v48, e49, hs24⟩ := am_bind hs23
      clear hs23
      refine aw_pG (pc1 := 125) at_397_122 (am_vR_s e49).1 rfl ?_
      refine aw_iload_n (pc1 := 126) at_397_125 l2 rfl ?_
      refine aw_iconst (v := 1) (pc1 := 127) at_397_126 (by decide) rfl ?_
      refine aw_iadd (v := (x2 + 1)) (pc1 := 128) at_397_127 rfl rfl ?_
      obtain ⟨v50, e51, hs25⟩ := am_bind hs24
      clear hs24
      refine aw_pA (pc1 := 129) at_397_128 (Or.inr (Or.inl ⟨rfl, rfl⟩)) e51 rfl ?_
      obtain ⟨h52, e53, hs26⟩ := am_bind hs25
      clear hs25
      refine aw_pS (pc1 := 130) at_397_129 (Or.inr (Or.inl ⟨rfl, rfl⟩)) e53 rfl ?_
      refine aw_vload_n (pc1 := 131) at_397_130 l0 i0 rfl ?_
      obtain ⟨v54, e55, hs27⟩ := am_bind hs26
      clear hs26
      refine aw_pG (pc1 := 134) at_397_131 (am_vR_s e55).1 rfl ?_
      refine aw_iload_n (pc1 := 135) at_397_134 l2 rfl ?_
      refine aw_vload_n (pc1 := 136) at_397_135 l0 i0 rfl ?_
      obtain ⟨v56, e57, hs28⟩ := am_bind hs27
      clear hs27
      refine aw_pG (pc1 := 139) at_397_136 (am_vR_s e57).1 rfl ?_
      refine aw_iload_n (pc1 := 140) at_397_139 l2 rfl ?_
      refine aw_iconst (v := 1) (pc1 := 141) at_397_140 (by decide) rfl ?_
      refine aw_iadd (v := (x2 + 1)) (pc1 := 142) at_397_141 rfl rfl ?_
      obtain ⟨v58, e59, hs29⟩ := am_bind hs28
      clear hs28
      refine aw_pA (pc1 := 143) at_397_142 (Or.inl ⟨rfl, rfl⟩) e59 rfl ?_
      obtain ⟨h60, e61, hs30⟩ := am_bind hs29
      clear hs29
      refine aw_pS (pc1 := 144) at_397_143 (Or.inl ⟨rfl, rfl⟩) e61 rfl ?_
      refine aw_iconst (v := 0) (pc1 := 145) at_397_144 (by decide) rfl ?_
      refine aw_istore_n (lv1 := am_put1 _ 3 _) (pc1 := 146) at_397_145 rfl rfl ?_
      exact rg_397_146 (fun z0 z1 h o hs30 => ih z0 z1 h o hs30) N x0 x2 0 h60 o hs30 _ (am_lk1 l0 rfl rfl) (am_lk1 l2 rfl rfl) am_lk0 i0
def fg_397_14 (N : Nat) (x0 : Value) (x1 : Int32) (s0 : Value) (s1 : Int32) (h : am_H) : Option am_O := ((am_pP 3072 s0 (.int s1) h).bind fun h1 => ((am_vI (am_pG 3072 x0 h1)).bind fun v3 => (if v3 ≤ 0 then ((am_vI (am_pG 3103 x0 h1)).bind fun v6 => ((am_pP 3103 x0 (.int (v6 - 1)) h1).bind fun h8 => (fg_397_38 N N x0 x1 h8))) else some (.inl (some (.int 0), h1)))))
theorem rg_397_14 {X : am_X} {d : Nat} {N : Nat} {lv : am_LV} (x0 : Value) (x1 : Int32) (s0 : Value) (s1 : Int32) (h : am_H) (o : am_O) (l0 : lv.lookup 0 = some x0) (l1 : lv.lookup 1 = some (.int x1)) (i0 : am_isR x0 = true) (j0 : am_isR s0 = true) (hs : fg_397_14 N x0 x1 s0 s1 h = some o) : am_W X (d + 2) 397 14 lv [(.int s1), s0] h (fun q => q = o) := by
  unfold fg_397_14 at hs
  obtain ⟨h1, e2, hs1⟩ := am_bind hs
  clear hs
  refine aw_pP (pc1 := 17) at_397_14 e2 rfl ?_
  refine aw_vload_n (pc1 := 18) at_397_17 l0 i0 rfl ?_
  obtain ⟨v3, e4, hs2⟩ := am_bind hs1
  clear hs1
  refine aw_pG (pc1 := 21) at_397_18 (am_vI_s e4) rfl ?_
  by_cases c5 : v3 ≤ 0
  · rw [if_pos c5] at hs2
    refine aw_ifle_t at_397_21 c5 ?_
    refine aw_vload_n (pc1 := 27) at_397_26 l0 i0 rfl ?_
    refine aw_vdup (pc1 := 28) at_397_27 i0 rfl ?_
    obtain ⟨v6, e7, hs3⟩ := am_bind hs2
    clear hs2
    refine aw_pG (pc1 := 31) at_397_28 (am_vI_s e7) rfl ?_
    refine aw_iconst (v := 1) (pc1 := 32) at_397_31 (by decide) rfl ?_
    refine aw_isub (v := (v6 - 1)) (pc1 := 33) at_397_32 rfl rfl ?_
    obtain ⟨h8, e9, hs4⟩ := am_bind hs3
    clear hs3
    refine aw_pP (pc1 := 36) at_397_33 e9 rfl ?_
    refine aw_iload_n (pc1 := 37) at_397_36 l1 rfl ?_
    refine aw_istore_n (lv1 := am_put1 _ 2 _) (pc1 := 38) at_397_37 rfl rfl ?_
    exact rg_397_38 N x0 x1 h8 o hs4 _ (am_lk1 l0 rfl rfl) am_lk0 i0
  · rw [if_neg c5] at hs2
    refine aw_ifle_f (pc1 := 24) at_397_21 c5 rfl ?_
    refine aw_iconst (v := 0) (pc1 := 25) at_397_24 (by decide) rfl ?_
    cases hs2
    exact aw_iret at_397_25 (by rw [rt_397]; rfl) rfl
def fg_397_0 (N : Nat) (x0 : Value) (x1 : Int32) (h : am_H) : Option am_O := (if am_pOk 12 x0 h then am_cI true (fm_398 x0 x1 h) (fun v2 h3 => (if v2 = 0 then (fg_397_14 N x0 x1 x0 1 h3) else (fg_397_14 N x0 x1 x0 0 h3))) else none)
theorem rg_397_0 {X : am_X} {d : Nat} {N : Nat} {lv : am_LV} (x0 : Value) (x1 : Int32) (h : am_H) (o : am_O) (l0 : lv.lookup 0 = some x0) (l1 : lv.lookup 1 = some (.int x1)) (i0 : am_isR x0 = true) (hs : fg_397_0 N x0 x1 h = some o) : am_W X (d + 2) 397 0 lv [] h (fun q => q = o) := by
  unfold fg_397_0 at hs
  refine aw_vload_n (pc1 := 1) at_397_0 l0 i0 rfl ?_
  refine aw_vload_n (pc1 := 2) at_397_1 l0 i0 rfl ?_
  refine aw_iload_n (pc1 := 3) at_397_2 l1 rfl ?_
  obtain ⟨z1, hs1⟩ := am_ift hs
  clear hs
  refine aw_call (F := fm_398 x0 x1 h) (t := true) (na := 2) (kd := 1) (as := [x0, (.int x1)]) at_397_3 (am_k3v kb_398) mn_398 mk_398 rfl rfl (am_ok_v mi_398 (am_hl rfl (am_ccR i0 (am_ccI am_cats_0)) rfl) z1) (am_hc (am_ccR i0 am_cats_0) rfl) (fun _ => ⟨rfl, hh_397⟩) (fun o1 hz9 => rm_398 x0 x1 h o1 i0 hz9) ?_
  rcases am_cI_s hs1 with ⟨v2, h3, f4, hs2⟩ | hs2
  · clear hs1
    refine Or.inl ⟨_, _, f4, ?_⟩
    show am_W X _ 397 6 _ [(.int v2), x0] h3 _
    by_cases c5 : v2 = 0
    · rw [if_pos c5] at hs2
      refine aw_ifeq_t at_397_6 c5 ?_
      refine aw_iconst (v := 1) (pc1 := 14) at_397_13 (by decide) rfl ?_
      exact rg_397_14 x0 x1 x0 1 h3 o l0 l1 i0 i0 hs2
    · rw [if_neg c5] at hs2
      refine aw_ifeq_f (pc1 := 9) at_397_6 c5 rfl ?_
      refine aw_iconst (v := 0) (pc1 := 10) at_397_9 (by decide) rfl ?_
      refine aw_goto at_397_10 ?_
      exact rg_397_14 x0 x1 x0 0 h3 o l0 l1 i0 i0 hs2
  · clear hs1
    exact Or.inr hs2
def fm_397 (N : Nat) (y0 : Value) (y1 : Int32) (h : am_H) : Option am_O := fg_397_0 N y0 y1 h
theorem rm_397 {X : am_X} {d : Nat} {N : Nat} (y0 : Value) (y1 : Int32) (h : am_H) (o : am_O) (i0 : am_isR y0 = true) (hs : fm_397 N y0 y1 h = some o) : am_W X (d + 2) 397 0 (am_args 0 [y0, .int y1]) [] h (fun q => q = o) := by
  rw [am_args_R i0, am_args_I]
  exact rg_397_0 y0 y1 h o rfl rfl i0 hs
def fg_25_0 (x0 : Value) (h : am_H) : Option am_O := ((am_vR (am_pG 2819 x0 h)).bind fun v1 => ((am_vI (am_pG 513 v1 h)).bind fun v3 => some (.inl (some (.int v3), h))))
theorem rg_25_0 {X : am_X} {d : Nat} {lv : am_LV} (x0 : Value) (h : am_H) (o : am_O) (l0 : lv.lookup 0 = some x0) (i0 : am_isR x0 = true) (hs : fg_25_0 x0 h = some o) : am_W X (d) 25 0 lv [] h (fun q => q = o) := by
  unfold fg_25_0 at hs
  refine aw_vload_n (pc1 := 1) at_25_0 l0 i0 rfl ?_
  obtain ⟨v1, e2, hs1⟩ := am_bind hs
  clear hs
  refine aw_pG (pc1 := 4) at_25_1 (am_vR_s e2).1 rfl ?_
  obtain ⟨v3, e4, hs2⟩ := am_bind hs1
  clear hs1
  refine aw_pG (pc1 := 7) at_25_4 (am_vI_s e4) rfl ?_
  cases hs2
  exact aw_iret at_25_7 (by rw [rt_25]; rfl) rfl
def fm_25 (y0 : Value) (h : am_H) : Option am_O := fg_25_0 y0 h
theorem rm_25 {X : am_X} {d : Nat} (y0 : Value) (h : am_H) (o : am_O) (i0 : am_isR y0 = true) (hs : fm_25 y0 h = some o) : am_W X (d) 25 0 (am_args 0 [y0]) [] h (fun q => q = o) := by
  rw [am_args_R i0]
  exact rg_25_0 y0 h o rfl i0 hs
def fg_399_0 (x0 : Value) (h : am_H) : Option am_O := ((am_pP 3072 x0 (.int 0) h).bind fun h1 => ((am_vI (am_pG 3103 x0 h1)).bind fun v3 => some (.inl (some (.int v3), h1))))
theorem rg_399_0 {X : am_X} {d : Nat} {lv : am_LV} (x0 : Value) (h : am_H) (o : am_O) (l0 : lv.lookup 0 = some x0) (i0 : am_isR x0 = true) (hs : fg_399_0 x0 h = some o) : am_W X (d) 399 0 lv [] h (fun q => q = o) := by
  unfold fg_399_0 at hs
  refine aw_vload_n (pc1 := 1) at_399_0 l0 i0 rfl ?_
  refine aw_iconst (v := 0) (pc1 := 2) at_399_1 (by decide) rfl ?_
  obtain ⟨h1, e2, hs1⟩ := am_bind hs
  clear hs
  refine aw_pP (pc1 := 5) at_399_2 e2 rfl ?_
  refine aw_vload_n (pc1 := 6) at_399_5 l0 i0 rfl ?_
  obtain ⟨v3, e4, hs2⟩ := am_bind hs1
  clear hs1
  refine aw_pG (pc1 := 9) at_399_6 (am_vI_s e4) rfl ?_
  cases hs2
  exact aw_iret at_399_9 (by rw [rt_399]; rfl) rfl
def fm_399 (y0 : Value) (h : am_H) : Option am_O := fg_399_0 y0 h
theorem rm_399 {X : am_X} {d : Nat} (y0 : Value) (h : am_H) (o : am_O) (i0 : am_isR y0 = true) (hs : fm_399 y0 h = some o) : am_W X (d) 399 0 (am_args 0 [y0]) [] h (fun q => q = o) := by
  rw [am_args_R i0]
  exact rg_399_0 y0 h o rfl i0 hs
def fg_112_30 (s0 : Int32) (h : am_H) : Option am_O := some (.inl (some (.int s0), h))
theorem rg_112_30 {X : am_X} {d : Nat} {lv : am_LV} (s0 : Int32) (h : am_H) (o : am_O) (hs : fg_112_30 s0 h = some o) : am_W X (d) 112 30 lv [(.int s0)] h (fun q => q = o) := by
  unfold fg_112_30 at hs
  cases hs
  exact aw_iret at_112_30 (by rw [rt_112]; rfl) rfl
def fg_112_29 (h : am_H) : Option am_O := (fg_112_30 0 h)
theorem rg_112_29 {X : am_X} {d : Nat} {lv : am_LV} (h : am_H) (o : am_O) (hs : fg_112_29 h = some o) : am_W X (d) 112 29 lv [] h (fun q => q = o) := by
  unfold fg_112_29 at hs
  refine aw_iconst (v := 0) (pc1 := 30) at_112_29 (by decide) rfl ?_
  exact rg_112_30 0 h o   hs
def fg_112_0 (x0 : Value) (x1 : Int32) (x2 : Int32) (h : am_H) : Option am_O := (if ((x1 * 15) + x2) < 0 then (fg_112_29 h) else ((am_vR (am_pG 512 x0 h)).bind fun v2 => ((am_pLen v2 h).bind fun v4 => (if v4 ≤ ((x1 * 15) + x2) then (fg_112_29 h) else ((am_vR (am_pG 512 x0 h)).bind fun v7 => ((am_pA 0 v7 ((x1 * 15) + x2) h).bind fun v9 => (fg_112_30 v9 h)))))))
theorem rg_112_0 {X : am_X} {d : Nat} {lv : am_LV} (x0 : Value) (x1 : Int32) (x2 : Int32) (h : am_H) (o : am_O) (l0 : lv.lookup 0 = some x0) (l1 : lv.lookup 1 = some (.int x1)) (l2 : lv.lookup 2 = some (.int x2)) (i0 : am_isR x0 = true) (hs : fg_112_0 x0 x1 x2 h = some o) : am_W X (d) 112 0 lv [] h (fun q => q = o) := by
  unfold fg_112_0 at hs
  refine aw_iload_n (pc1 := 1) at_112_0 l1 rfl ?_
  refine aw_bipush (v := 15) (pc1 := 3) at_112_1 (by decide) rfl ?_
  refine aw_imul (v := (x1 * 15)) (pc1 := 4) at_112_3 rfl rfl ?_
  refine aw_iload_n (pc1 := 5) at_112_4 l2 rfl ?_
  refine aw_iadd (v := ((x1 * 15) + x2)) (pc1 := 6) at_112_5 rfl rfl ?_
  refine aw_istore_n (lv1 := am_put1 _ 3 _) (pc1 := 7) at_112_6 rfl rfl ?_
  refine aw_iload_n (pc1 := 8) at_112_7 am_lk0 rfl ?_
  by_cases c1 : ((x1 * 15) + x2) < 0
  · rw [if_pos c1] at hs
    refine aw_iflt_t at_112_8 c1 ?_
    exact rg_112_29 h o   hs
  · rw [if_neg c1] at hs
    refine aw_iflt_f (pc1 := 11) at_112_8 c1 rfl ?_
    refine aw_iload_n (pc1 := 12) at_112_11 am_lk0 rfl ?_
    refine aw_vload_n (pc1 := 13) at_112_12 (am_lk1 l0 rfl rfl) i0 rfl ?_
    obtain ⟨v2, e3, hs1⟩ := am_bind hs
    clear hs
    refine aw_pG (pc1 := 16) at_112_13 (am_vR_s e3).1 rfl ?_
    obtain ⟨v4, e5, hs2⟩ := am_bind hs1
    clear hs1
    refine aw_pLen (pc1 := 17) at_112_16 e5 rfl ?_
    by_cases c6 : v4 ≤ ((x1 * 15) + x2)
    · rw [if_pos c6] at hs2
      refine aw_icge_t at_112_17 c6 ?_
      exact rg_112_29 h o   hs2
    · rw [if_neg c6] at hs2
      refine aw_icge_f (pc1 := 20) at_112_17 c6 rfl ?_
      refine aw_vload_n (pc1 := 21) at_112_20 (am_lk1 l0 rfl rfl) i0 rfl ?_
      obtain ⟨v7, e8, hs3⟩ := am_bind hs2
      clear hs2
      refine aw_pG (pc1 := 24) at_112_21 (am_vR_s e8).1 rfl ?_
      refine aw_iload_n (pc1 := 25) at_112_24 am_lk0 rfl ?_
      obtain ⟨v9, e10, hs4⟩ := am_bind hs3
      clear hs3
      refine aw_pA (pc1 := 26) at_112_25 (Or.inl ⟨rfl, rfl⟩) e10 rfl ?_
      refine aw_goto at_112_26 ?_
      exact rg_112_30 v9 h o   hs4
def fm_112 (y0 : Value) (y1 : Int32) (y2 : Int32) (h : am_H) : Option am_O := fg_112_0 y0 y1 y2 h
theorem rm_112 {X : am_X} {d : Nat} (y0 : Value) (y1 : Int32) (y2 : Int32) (h : am_H) (o : am_O) (i0 : am_isR y0 = true) (hs : fm_112 y0 y1 y2 h = some o) : am_W X (d) 112 0 (am_args 0 [y0, .int y1, .int y2]) [] h (fun q => q = o) := by
  rw [am_args_R i0, am_args_I, am_args_I]
  exact rg_112_0 y0 y1 y2 h o rfl rfl rfl i0 hs
def fg_111_15 (h : am_H) : Option am_O := some (.inr (0, h ++ [am_dummy]))
theorem rg_111_15 {X : am_X} {d : Nat} {lv : am_LV} (h : am_H) (o : am_O) (hs : fg_111_15 h = some o) : am_W X (d + 1) 111 15 lv [] h (fun q => q = o) := by
  unfold fg_111_15 at hs
  cases hs
  exact aw_throw at_111_15 rfl th_111_15 (am_hc am_cats_0 rfl) rfl
def fg_111_0 (x0 : Value) (x1 : Int32) (x2 : Int32) (h : am_H) : Option am_O := (if am_pOk 11 x0 h then am_cV true (fm_108 x0 x1 h) (fun h3 => (if x2 < 0 then (fg_111_15 h3) else (if x2 < 15 then ((am_vR (am_pG 2819 x0 h3)).bind fun v7 => (if am_pOk 2 v7 h3 then am_cI true (fm_112 v7 x1 x2 h3) (fun v10 h11 => some (.inl (some (.int v10), h11))) else none)) else (fg_111_15 h3)))) else none)
theorem rg_111_0 {X : am_X} {d : Nat} {lv : am_LV} (x0 : Value) (x1 : Int32) (x2 : Int32) (h : am_H) (o : am_O) (l0 : lv.lookup 0 = some x0) (l1 : lv.lookup 1 = some (.int x1)) (l2 : lv.lookup 2 = some (.int x2)) (i0 : am_isR x0 = true) (hs : fg_111_0 x0 x1 x2 h = some o) : am_W X (d + 1) 111 0 lv [] h (fun q => q = o) := by
  unfold fg_111_0 at hs
  refine aw_vload_n (pc1 := 1) at_111_0 l0 i0 rfl ?_
  refine aw_iload_n (pc1 := 2) at_111_1 l1 rfl ?_
  obtain ⟨z1, hs1⟩ := am_ift hs
  clear hs
  refine aw_call (F := fm_108 x0 x1 h) (t := true) (na := 2) (kd := 1) (as := [x0, (.int x1)]) at_111_2 (am_k3v kb_108) mn_108 mk_108 rfl rfl (am_ok_v mi_108 (am_hl rfl (am_ccR i0 (am_ccI am_cats_0)) rfl) z1) (am_hc am_cats_0 rfl) (fun _ => ⟨rfl, hh_111⟩) (fun o1 hz9 => rm_108 x0 x1 h o1 i0 hz9) ?_
  rcases am_cV_s hs1 with ⟨h3, f4, hs2⟩ | hs2
  · clear hs1
    refine Or.inl ⟨_, _, f4, ?_⟩
    show am_W X _ 111 5 _ [] h3 _
    refine aw_iload_n (pc1 := 6) at_111_5 l2 rfl ?_
    by_cases c5 : x2 < 0
    · rw [if_pos c5] at hs2
      refine aw_iflt_t at_111_6 c5 ?_
      exact rg_111_15 h3 o   hs2
    · rw [if_neg c5] at hs2
      refine aw_iflt_f (pc1 := 9) at_111_6 c5 rfl ?_
      refine aw_iload_n (pc1 := 10) at_111_9 l2 rfl ?_
      refine aw_bipush (v := 15) (pc1 := 12) at_111_10 (by decide) rfl ?_
      by_cases c6 : x2 < 15
      · rw [if_pos c6] at hs2
        refine aw_iclt_t at_111_12 c6 ?_
        refine aw_vload_n (pc1 := 26) at_111_25 l0 i0 rfl ?_
        obtain ⟨v7, e8, hs3⟩ := am_bind hs2
        clear hs2
        refine aw_pG (pc1 := 29) at_111_26 (am_vR_s e8).1 rfl ?_
        refine aw_iload_n (pc1 := 30) at_111_29 l1 rfl ?_
        refine aw_iload_n (pc1 := 31) at_111_30 l2 rfl ?_
        obtain ⟨z9, hs4⟩ := am_ift hs3
        clear hs3
        refine aw_call (F := fm_112 v7 x1 x2 h3) (t := true) (na := 3) (kd := 1) (as := [v7, (.int x1), (.int x2)]) at_111_31 (am_k3v kb_112) mn_112 mk_112 rfl rfl (am_ok_v mi_112 (am_hl rfl (am_ccR (am_vR_s e8).2 (am_ccI (am_ccI am_cats_0))) rfl) z9) (am_hc am_cats_0 rfl) (fun _ => ⟨rfl, hh_111⟩) (fun o1 hz9 => rm_112 v7 x1 x2 h3 o1 (am_vR_s e8).2 hz9) ?_
        rcases am_cI_s hs4 with ⟨v10, h11, f12, hs5⟩ | hs5
        · clear hs4
          refine Or.inl ⟨_, _, f12, ?_⟩
          show am_W X _ 111 34 _ [(.int v10)] h11 _
          cases hs5
          exact aw_iret at_111_34 (by rw [rt_111]; rfl) rfl
        · clear hs4
          exact Or.inr hs5
      · rw [if_neg c6] at hs2
        refine aw_iclt_f (pc1 := 15) at_111_12 c6 rfl ?_
        exact rg_111_15 h3 o   hs2
  · clear hs1
    exact Or.inr hs2
def fm_111 (y0 : Value) (y1 : Int32) (y2 : Int32) (h : am_H) : Option am_O := fg_111_0 y0 y1 y2 h
theorem rm_111 {X : am_X} {d : Nat} (y0 : Value) (y1 : Int32) (y2 : Int32) (h : am_H) (o : am_O) (i0 : am_isR y0 = true) (hs : fm_111 y0 y1 y2 h = some o) : am_W X (d + 1) 111 0 (am_args 0 [y0, .int y1, .int y2]) [] h (fun q => q = o) := by
  rw [am_args_R i0, am_args_I, am_args_I]
  exact rg_111_0 y0 y1 y2 h o rfl rfl rfl i0 hs
def fg_110_19 (h : am_H) : Option am_O := some (.inl (some (.int 2), h))
theorem rg_110_19 {X : am_X} {d : Nat} {lv : am_LV} (h : am_H) (o : am_O) (hs : fg_110_19 h = some o) : am_W X (d + 2) 110 19 lv [] h (fun q => q = o) := by
  unfold fg_110_19 at hs
  refine aw_iconst (v := 2) (pc1 := 20) at_110_19 (by decide) rfl ?_
  cases hs
  exact aw_iret at_110_20 (by rw [rt_110]; rfl) rfl
def fg_110_15 (h : am_H) : Option am_O := some (.inl (some (.int 1), h))
theorem rg_110_15 {X : am_X} {d : Nat} {lv : am_LV} (h : am_H) (o : am_O) (hs : fg_110_15 h = some o) : am_W X (d + 2) 110 15 lv [] h (fun q => q = o) := by
  unfold fg_110_15 at hs
  refine aw_iconst (v := 1) (pc1 := 16) at_110_15 (by decide) rfl ?_
  cases hs
  exact aw_iret at_110_16 (by rw [rt_110]; rfl) rfl
def fg_110_0 (x0 : Value) (x1 : Int32) (x2 : Int32) (x3 : Value) (h : am_H) : Option am_O := (if am_pOk 11 x0 h then (match fm_111 x0 x1 x2 h with | some (.inl (some (.int v2), h3)) => ((am_pSL x3 0 (Int32.toInt64 v2) h3).bind fun h5 => some (.inl (some (.int 0), h5))) | some (.inr (0, h7)) => (fg_110_19 h7) | some (.inr (2, h9)) => (fg_110_15 h9) | _ => none) else none)
theorem rg_110_0 {X : am_X} {d : Nat} {lv : am_LV} (x0 : Value) (x1 : Int32) (x2 : Int32) (x3 : Value) (h : am_H) (o : am_O) (l0 : lv.lookup 0 = some x0) (l1 : lv.lookup 1 = some (.int x1)) (l2 : lv.lookup 2 = some (.int x2)) (l3 : lv.lookup 3 = some x3) (i0 : am_isR x0 = true) (i3 : am_isR x3 = true) (hs : fg_110_0 x0 x1 x2 x3 h = some o) : am_W X (d + 2) 110 0 lv [] h (fun q => q = o) := by
  unfold fg_110_0 at hs
  refine aw_vload_n (pc1 := 1) at_110_0 l3 i3 rfl ?_
  refine aw_iconst (v := 0) (pc1 := 2) at_110_1 (by decide) rfl ?_
  refine aw_vload_n (pc1 := 3) at_110_2 l0 i0 rfl ?_
  refine aw_iload_n (pc1 := 4) at_110_3 l1 rfl ?_
  refine aw_iload_n (pc1 := 5) at_110_4 l2 rfl ?_
  obtain ⟨z1, hs1⟩ := am_ift hs
  clear hs
  refine aw_callH (F := fm_111 x0 x1 x2 h) (na := 3) (kd := 1) (as := [x0, (.int x1), (.int x2)]) at_110_5 (am_k3v kb_111) mn_111 mk_111 rfl rfl (am_ok_v mi_111 (am_hl rfl (am_ccR i0 (am_ccI (am_ccI am_cats_0))) rfl) z1) (am_hc (am_ccI (am_ccR i3 am_cats_0)) rfl) (fun o1 hz9 => rm_111 x0 x1 x2 h o1 i0 hz9) ?_
  split at hs1
  · rename_i v2 h3 f4
    refine Or.inl ⟨_, _, f4, ?_⟩
    show am_W X _ 110 8 _ [(.int v2), (.int 0), x3] h3 _
    refine aw_i2l (v := (Int32.toInt64 v2)) (pc1 := 9) at_110_8 rfl rfl ?_
    obtain ⟨h5, e6, hs2⟩ := am_bind hs1
    clear hs1
    refine aw_pSL (pc1 := 10) at_110_9 e6 rfl ?_
    refine aw_goto at_110_10 ?_
    refine aw_iconst (v := 0) (pc1 := 22) at_110_21 (by decide) rfl ?_
    cases hs2
    exact aw_iret at_110_22 (by rw [rt_110]; rfl) rfl
  · rename_i h7 f8
    refine Or.inr ⟨_, _, 19, 4, f8, rfl, hn_110, hd_110_5_0, ?_⟩
    exact rg_110_19 h7 o   hs1
  · rename_i h9 f10
    refine Or.inr ⟨_, _, 15, 4, f10, rfl, hn_110, hd_110_5_2, ?_⟩
    exact rg_110_15 h9 o   hs1
  · cases hs1
def fm_110 (y0 : Value) (y1 : Int32) (y2 : Int32) (y3 : Value) (h : am_H) : Option am_O := fg_110_0 y0 y1 y2 y3 h
theorem rm_110 {X : am_X} {d : Nat} (y0 : Value) (y1 : Int32) (y2 : Int32) (y3 : Value) (h : am_H) (o : am_O) (i0 : am_isR y0 = true) (i3 : am_isR y3 = true) (hs : fm_110 y0 y1 y2 y3 h = some o) : am_W X (d + 2) 110 0 (am_args 0 [y0, .int y1, .int y2, y3]) [] h (fun q => q = o) := by
  rw [am_args_R i0, am_args_I, am_args_I, am_args_R i3]
  exact rg_110_0 y0 y1 y2 y3 h o rfl rfl rfl rfl i0 i3 hs
def fg_400_133 (s0 : Int32) (h : am_H) : Option am_O := some (.inl (some (.int s0), h))
theorem rg_400_133 {X : am_X} {d : Nat} {lv : am_LV} (s0 : Int32) (h : am_H) (o : am_O) (hs : fg_400_133 s0 h = some o) : am_W X (d + 2) 400 133 lv [(.int s0)] h (fun q => q = o) := by
  unfold fg_400_133 at hs
  cases hs
  exact aw_iret at_400_133 (by rw [rt_400]; rfl) rfl
def fg_400_30 (x0 : Value) (x1 : Int32) (x2 : Int32) (s0 : Value) (s1 : Int32) (h : am_H) : Option am_O := ((am_pP 3072 s0 (.int s1) h).bind fun h1 => ((am_vI (am_pG 3072 x0 h1)).bind fun v3 => (if v3 ≤ 0 then (if x2 = 0 then ((am_vR (am_pG 3104 x0 h1)).bind fun v7 => ((am_pA 0 v7 x1 h1).bind fun v9 => some (.inl (some (.int v9), h1)))) else (if x2 = 1 then ((am_vR (am_pG 3105 x0 h1)).bind fun v12 => ((am_pA 0 v12 x1 h1).bind fun v14 => some (.inl (some (.int v14), h1)))) else (if x2 = 2 then ((am_vR (am_pG 3106 x0 h1)).bind fun v17 => ((am_pA 0 v17 x1 h1).bind fun v19 => some (.inl (some (.int v19), h1)))) else (if x2 = 3 then ((am_vR (am_pG 3107 x0 h1)).bind fun v22 => ((am_pA 0 v22 x1 h1).bind fun v24 => some (.inl (some (.int v24), h1)))) else (if x2 = 4 then ((am_vR (am_pG 3108 x0 h1)).bind fun v27 => ((am_pA 0 v27 x1 h1).bind fun v29 => some (.inl (some (.int v29), h1)))) else (if x2 = 5 then ((am_vR (am_pG 3109 x0 h1)).bind fun v32 => ((am_pA 2 v32 x1 h1).bind fun v34 => (if v34 = 0 then (fg_400_133 0 h1) else (fg_400_133 1 h1)))) else (if x2 = 6 then ((am_vR (am_pG 3110 x0 h1)).bind fun v38 => ((am_pA 0 v38 x1 h1).bind fun v40 => some (.inl (some (.int v40), h1)))) else ((am_vR (am_pG 3111 x0 h1)).bind fun v42 => ((am_pA 0 v42 (((8 * x1) + x2) - 7) h1).bind fun v44 => some (.inl (some (.int v44), h1))))))))))) else some (.inl (some (.int 0), h1)))))
theorem rg_400_30 {X : am_X} {d : Nat} {lv : am_LV} (x0 : Value) (x1 : Int32) (x2 : Int32) (s0 : Value) (s1 : Int32) (h : am_H) (o : am_O) (l0 : lv.lookup 0 = some x0) (l1 : lv.lookup 1 = some (.int x1)) (l2 : lv.lookup 2 = some (.int x2)) (i0 : am_isR x0 = true) (j0 : am_isR s0 = true) (hs : fg_400_30 x0 x1 x2 s0 s1 h = some o) : am_W X (d + 2) 400 30 lv [(.int s1), s0] h (fun q => q = o) := by
  unfold fg_400_30 at hs
  obtain ⟨h1, e2, hs1⟩ := am_bind hs
  clear hs
  refine aw_pP (pc1 := 33) at_400_30 e2 rfl ?_
  refine aw_vload_n (pc1 := 34) at_400_33 l0 i0 rfl ?_
  obtain ⟨v3, e4, hs2⟩ := am_bind hs1
  clear hs1
  refine aw_pG (pc1 := 37) at_400_34 (am_vI_s e4) rfl ?_
  by_cases c5 : v3 ≤ 0
  · rw [if_pos c5] at hs2
    refine aw_ifle_t at_400_37 c5 ?_
    refine aw_iload_n (pc1 := 43) at_400_42 l2 rfl ?_
    by_cases c6 : x2 = 0
    · rw [if_pos c6] at hs2
      refine aw_tsw (t := 84) at_400_43 (by rw [c6]; rfl) ?_
      refine aw_vload_n (pc1 := 85) at_400_84 l0 i0 rfl ?_
      obtain ⟨v7, e8, hs3⟩ := am_bind hs2
      clear hs2
      refine aw_pG (pc1 := 88) at_400_85 (am_vR_s e8).1 rfl ?_
      refine aw_iload_n (pc1 := 89) at_400_88 l1 rfl ?_
      obtain ⟨v9, e10, hs4⟩ := am_bind hs3
      clear hs3
      refine aw_pA (pc1 := 90) at_400_89 (Or.inl ⟨rfl, rfl⟩) e10 rfl ?_
      cases hs4
      exact aw_iret at_400_90 (by rw [rt_400]; rfl) rfl
    · rw [if_neg c6] at hs2
      by_cases c11 : x2 = 1
      · rw [if_pos c11] at hs2
        refine aw_tsw (t := 91) at_400_43 (by rw [c11]; rfl) ?_
        refine aw_vload_n (pc1 := 92) at_400_91 l0 i0 rfl ?_
        obtain ⟨v12, e13, hs5⟩ := am_bind hs2
        clear hs2
        refine aw_pG (pc1 := 95) at_400_92 (am_vR_s e13).1 rfl ?_
        refine aw_iload_n (pc1 := 96) at_400_95 l1 rfl ?_
        obtain ⟨v14, e15, hs6⟩ := am_bind hs5
        clear hs5
        refine aw_pA (pc1 := 97) at_400_96 (Or.inl ⟨rfl, rfl⟩) e15 rfl ?_
        cases hs6
        exact aw_iret at_400_97 (by rw [rt_400]; rfl) rfl
      · rw [if_neg c11] at hs2
        by_cases c16 : x2 = 2
        · rw [if_pos c16] at hs2
          refine aw_tsw (t := 98) at_400_43 (by rw [c16]; rfl) ?_
          refine aw_vload_n (pc1 := 99) at_400_98 l0 i0 rfl ?_
          obtain ⟨v17, e18, hs7⟩ := am_bind hs2
          clear hs2
          refine aw_pG (pc1 := 102) at_400_99 (am_vR_s e18).1 rfl ?_
          refine aw_iload_n (pc1 := 103) at_400_102 l1 rfl ?_
          obtain ⟨v19, e20, hs8⟩ := am_bind hs7
          clear hs7
          refine aw_pA (pc1 := 104) at_400_103 (Or.inl ⟨rfl, rfl⟩) e20 rfl ?_
          cases hs8
          exact aw_iret at_400_104 (by rw [rt_400]; rfl) rfl
        · rw [if_neg c16] at hs2
          by_cases c21 : x2 = 3
          · rw [if_pos c21] at hs2
            refine aw_tsw (t := 105) at_400_43 (by rw [c21]; rfl) ?_
            refine aw_vload_n (pc1 := 106) at_400_105 l0 i0 rfl ?_
            obtain ⟨v22, e23, hs9⟩ := am_bind hs2
            clear hs2
            refine aw_pG (pc1 := 109) at_400_106 (am_vR_s e23).1 rfl ?_
            refine aw_iload_n (pc1 := 110) at_400_109 l1 rfl ?_
            obtain ⟨v24, e25, hs10⟩ := am_bind hs9
            clear hs9
            refine aw_pA (pc1 := 111) at_400_110 (Or.inl ⟨rfl, rfl⟩) e25 rfl ?_
            cases hs10
            exact aw_iret at_400_111 (by rw [rt_400]; rfl) rfl
          · rw [if_neg c21] at hs2
            by_cases c26 : x2 = 4
            · rw [if_pos c26] at hs2
              refine aw_tsw (t := 112) at_400_43 (by rw [c26]; rfl) ?_
              refine aw_vload_n (pc1 := 113) at_400_112 l0 i0 rfl ?_
              obtain ⟨v27, e28, hs11⟩ := am_bind hs2
              clear hs2
              refine aw_pG (pc1 := 116) at_400_113 (am_vR_s e28).1 rfl ?_
              refine aw_iload_n (pc1 := 117) at_400_116 l1 rfl ?_
              obtain ⟨v29, e30, hs12⟩ := am_bind hs11
              clear hs11
              refine aw_pA (pc1 := 118) at_400_117 (Or.inl ⟨rfl, rfl⟩) e30 rfl ?_
              cases hs12
              exact aw_iret at_400_118 (by rw [rt_400]; rfl) rfl
            · rw [if_neg c26] at hs2
              by_cases c31 : x2 = 5
              · rw [if_pos c31] at hs2
                refine aw_tsw (t := 119) at_400_43 (by rw [c31]; rfl) ?_
                refine aw_vload_n (pc1 := 120) at_400_119 l0 i0 rfl ?_
                obtain ⟨v32, e33, hs13⟩ := am_bind hs2
                clear hs2
                refine aw_pG (pc1 := 123) at_400_120 (am_vR_s e33).1 rfl ?_
                refine aw_iload_n (pc1 := 124) at_400_123 l1 rfl ?_
                obtain ⟨v34, e35, hs14⟩ := am_bind hs13
                clear hs13
                refine aw_pA (pc1 := 125) at_400_124 (Or.inr (Or.inl ⟨rfl, rfl⟩)) e35 rfl ?_
                by_cases c36 : v34 = 0
                · rw [if_pos c36] at hs14
                  refine aw_ifeq_t at_400_125 c36 ?_
                  refine aw_iconst (v := 0) (pc1 := 133) at_400_132 (by decide) rfl ?_
                  exact rg_400_133 0 h1 o   hs14
                · rw [if_neg c36] at hs14
                  refine aw_ifeq_f (pc1 := 128) at_400_125 c36 rfl ?_
                  refine aw_iconst (v := 1) (pc1 := 129) at_400_128 (by decide) rfl ?_
                  refine aw_goto at_400_129 ?_
                  exact rg_400_133 1 h1 o   hs14
              · rw [if_neg c31] at hs2
                by_cases c37 : x2 = 6
                · rw [if_pos c37] at hs2
                  refine aw_tsw (t := 134) at_400_43 (by rw [c37]; rfl) ?_
                  refine aw_vload_n (pc1 := 135) at_400_134 l0 i0 rfl ?_
                  obtain ⟨v38, e39, hs15⟩ := am_bind hs2
                  clear hs2
                  refine aw_pG (pc1 := 138) at_400_135 (am_vR_s e39).1 rfl ?_
                  refine aw_iload_n (pc1 := 139) at_400_138 l1 rfl ?_
                  obtain ⟨v40, e41, hs16⟩ := am_bind hs15
                  clear hs15
                  refine aw_pA (pc1 := 140) at_400_139 (Or.inl ⟨rfl, rfl⟩) e41 rfl ?_
                  cases hs16
                  exact aw_iret at_400_140 (by rw [rt_400]; rfl) rfl
                · rw [if_neg c37] at hs2
                  have tc6 : x2.toInt ≠ 0 := fun e9 => c6 (Int32.toInt_inj.mp e9)
                  have tc11 : x2.toInt ≠ 1 := fun e9 => c11 (Int32.toInt_inj.mp e9)
                  have tc16 : x2.toInt ≠ 2 := fun e9 => c16 (Int32.toInt_inj.mp e9)
                  have tc21 : x2.toInt ≠ 3 := fun e9 => c21 (Int32.toInt_inj.mp e9)
                  have tc26 : x2.toInt ≠ 4 := fun e9 => c26 (Int32.toInt_inj.mp e9)
                  have tc31 : x2.toInt ≠ 5 := fun e9 => c31 (Int32.toInt_inj.mp e9)
                  have tc37 : x2.toInt ≠ 6 := fun e9 => c37 (Int32.toInt_inj.mp e9)
                  refine aw_tsw (t := 141) at_400_43 (am_tsw_d (by omega)) ?_
                  refine aw_vload_n (pc1 := 142) at_400_141 l0 i0 rfl ?_
                  obtain ⟨v42, e43, hs17⟩ := am_bind hs2
                  clear hs2
                  refine aw_pG (pc1 := 145) at_400_142 (am_vR_s e43).1 rfl ?_
                  refine aw_bipush (v := 8) (pc1 := 147) at_400_145 (by decide) rfl ?_
                  refine aw_iload_n (pc1 := 148) at_400_147 l1 rfl ?_
                  refine aw_imul (v := (8 * x1)) (pc1 := 149) at_400_148 rfl rfl ?_
                  refine aw_iload_n (pc1 := 150) at_400_149 l2 rfl ?_
                  refine aw_iadd (v := ((8 * x1) + x2)) (pc1 := 151) at_400_150 rfl rfl ?_
                  refine aw_bipush (v := 7) (pc1 := 153) at_400_151 (by decide) rfl ?_
                  refine aw_isub (v := (((8 * x1) + x2) - 7)) (pc1 := 154) at_400_153 rfl rfl ?_
                  obtain ⟨v44, e45, hs18⟩ := am_bind hs17
                  clear hs17
                  refine aw_pA (pc1 := 155) at_400_154 (Or.inl ⟨rfl, rfl⟩) e45 rfl ?_
                  cases hs18
                  exact aw_iret at_400_155 (by rw [rt_400]; rfl) rfl
  · rw [if_neg c5] at hs2
    refine aw_ifle_f (pc1 := 40) at_400_37 c5 rfl ?_
    refine aw_iconst (v := 0) (pc1 := 41) at_400_40 (by decide) rfl ?_
    cases hs2
    exact aw_iret at_400_41 (by rw [rt_400]; rfl) rfl
def fg_400_0 (x0 : Value) (x1 : Int32) (x2 : Int32) (h : am_H) : Option am_O := (if am_pOk 12 x0 h then am_cI true (fm_398 x0 x1 h) (fun v2 h3 => (if ¬ v2 = 0 then am_cI false (fm_327 ((Int32.toInt64 x2)) 0 14 h3) (fun v6 h7 => (if ¬ v6 = 0 then (fg_400_30 x0 x1 x2 x0 0 h7) else (fg_400_30 x0 x1 x2 x0 2 h7))) else (fg_400_30 x0 x1 x2 x0 1 h3))) else none)
theorem rg_400_0 {X : am_X} {d : Nat} {lv : am_LV} (x0 : Value) (x1 : Int32) (x2 : Int32) (h : am_H) (o : am_O) (l0 : lv.lookup 0 = some x0) (l1 : lv.lookup 1 = some (.int x1)) (l2 : lv.lookup 2 = some (.int x2)) (i0 : am_isR x0 = true) (hs : fg_400_0 x0 x1 x2 h = some o) : am_W X (d + 2) 400 0 lv [] h (fun q => q = o) := by
  unfold fg_400_0 at hs
  refine aw_vload_n (pc1 := 1) at_400_0 l0 i0 rfl ?_
  refine aw_vload_n (pc1 := 2) at_400_1 l0 i0 rfl ?_
  refine aw_iload_n (pc1 := 3) at_400_2 l1 rfl ?_
  obtain ⟨z1, hs1⟩ := am_ift hs
  clear hs
  refine aw_call (F := fm_398 x0 x1 h) (t := true) (na := 2) (kd := 1) (as := [x0, (.int x1)]) at_400_3 (am_k3v kb_398) mn_398 mk_398 rfl rfl (am_ok_v mi_398 (am_hl rfl (am_ccR i0 (am_ccI am_cats_0)) rfl) z1) (am_hc (am_ccR i0 am_cats_0) rfl) (fun _ => ⟨rfl, hh_400⟩) (fun o1 hz9 => rm_398 x0 x1 h o1 i0 hz9) ?_
  rcases am_cI_s hs1 with ⟨v2, h3, f4, hs2⟩ | hs2
  · clear hs1
    refine Or.inl ⟨_, _, f4, ?_⟩
    show am_W X _ 400 6 _ [(.int v2), x0] h3 _
    by_cases c5 : ¬ v2 = 0
    · rw [if_pos c5] at hs2
      refine aw_ifne_t at_400_6 c5 ?_
      refine aw_iload_n (pc1 := 14) at_400_13 l2 rfl ?_
      refine aw_i2l (v := (Int32.toInt64 x2)) (pc1 := 15) at_400_14 rfl rfl ?_
      refine aw_lconst (v := 0) (pc1 := 16) at_400_15 (by decide) rfl ?_
      refine aw_ldc2 (v := 14) (pc1 := 19) at_400_16 rfl rfl ?_
      refine aw_call (F := fm_327 ((Int32.toInt64 x2)) 0 14 h3) (t := false) (na := 3) (kd := 0) (as := [(.long (Int32.toInt64 x2)), (.long 0), (.long 14)]) at_400_19 (am_k3s kb_327) mn_327 mk_327 rfl rfl (am_ok_s mi_327 (am_hl rfl (am_ccL (am_ccL (am_ccL am_cats_0))) rfl)) (am_hc (am_ccR i0 am_cats_0) rfl) (fun hz9 => by cases hz9) (fun o1 hz9 => rm_327 ((Int32.toInt64 x2)) 0 14 h3 o1  hz9) ?_
      rcases am_cI_s hs2 with ⟨v6, h7, f8, hs3⟩ | hs3
      · clear hs2
        refine Or.inl ⟨_, _, f8, ?_⟩
        show am_W X _ 400 22 _ [(.int v6), x0] h7 _
        by_cases c9 : ¬ v6 = 0
        · rw [if_pos c9] at hs3
          refine aw_ifne_t at_400_22 c9 ?_
          refine aw_iconst (v := 0) (pc1 := 30) at_400_29 (by decide) rfl ?_
          exact rg_400_30 x0 x1 x2 x0 0 h7 o l0 l1 l2 i0 i0 hs3
        · rw [if_neg c9] at hs3
          refine aw_ifne_f (pc1 := 25) at_400_22 c9 rfl ?_
          refine aw_iconst (v := 2) (pc1 := 26) at_400_25 (by decide) rfl ?_
          refine aw_goto at_400_26 ?_
          exact rg_400_30 x0 x1 x2 x0 2 h7 o l0 l1 l2 i0 i0 hs3
      · clear hs2
        exact Or.inr hs3
    · rw [if_neg c5] at hs2
      refine aw_ifne_f (pc1 := 9) at_400_6 c5 rfl ?_
      refine aw_iconst (v := 1) (pc1 := 10) at_400_9 (by decide) rfl ?_
      refine aw_goto at_400_10 ?_
      exact rg_400_30 x0 x1 x2 x0 1 h3 o l0 l1 l2 i0 i0 hs2
  · clear hs1
    exact Or.inr hs2
def fm_400 (y0 : Value) (y1 : Int32) (y2 : Int32) (h : am_H) : Option am_O := fg_400_0 y0 y1 y2 h
theorem rm_400 {X : am_X} {d : Nat} (y0 : Value) (y1 : Int32) (y2 : Int32) (h : am_H) (o : am_O) (i0 : am_isR y0 = true) (hs : fm_400 y0 y1 y2 h = some o) : am_W X (d + 2) 400 0 (am_args 0 [y0, .int y1, .int y2]) [] h (fun q => q = o) := by
  rw [am_args_R i0, am_args_I, am_args_I]
  exact rg_400_0 y0 y1 y2 h o rfl rfl rfl i0 hs
def fg_115_20 (N : Nat) (h : am_H) : Option am_O := some (.inl (none, h))
theorem rg_115_20 {X : am_X} {d : Nat} {N : Nat} {lv : am_LV} (h : am_H) (o : am_O) (hs : fg_115_20 N h = some o) : am_W X (d + 2) 115 20 lv [] h (fun q => q = o) := by
  unfold fg_115_20 at hs
  cases hs
  exact aw_vret at_115_20 rt_115 rfl
def fg_115_0 (N : Nat) (x0 : Value) (x1 : Value) (h : am_H) : Option am_O := ((am_pP 1540 x0 x1 h).bind fun h1 => ((am_vI (am_pG 769 x1 h1)).bind fun v3 => (if ¬ v3 = 0 then (fg_115_20 N h1) else ((am_vR (am_pG 1541 x0 h1)).bind fun v6 => (if am_pOk 7 v6 h1 then am_cV true (fm_77 N v6 x1 h1) (fun h10 => (fg_115_20 N h10)) else none)))))
theorem rg_115_0 {X : am_X} {d : Nat} {N : Nat} {lv : am_LV} (x0 : Value) (x1 : Value) (h : am_H) (o : am_O) (l0 : lv.lookup 0 = some x0) (l1 : lv.lookup 1 = some x1) (i0 : am_isR x0 = true) (i1 : am_isR x1 = true) (hs : fg_115_0 N x0 x1 h = some o) : am_W X (d + 2) 115 0 lv [] h (fun q => q = o) := by
  unfold fg_115_0 at hs
  refine aw_vload_n (pc1 := 1) at_115_0 l0 i0 rfl ?_
  refine aw_vload_n (pc1 := 2) at_115_1 l1 i1 rfl ?_
  obtain ⟨h1, e2, hs1⟩ := am_bind hs
  clear hs
  refine aw_pP (pc1 := 5) at_115_2 e2 rfl ?_
  refine aw_vload_n (pc1 := 6) at_115_5 l1 i1 rfl ?_
  obtain ⟨v3, e4, hs2⟩ := am_bind hs1
  clear hs1
  refine aw_pG (pc1 := 9) at_115_6 (am_vI_s e4) rfl ?_
  by_cases c5 : ¬ v3 = 0
  · rw [if_pos c5] at hs2
    refine aw_ifne_t at_115_9 c5 ?_
    exact rg_115_20 h1 o   hs2
  · rw [if_neg c5] at hs2
    refine aw_ifne_f (pc1 := 12) at_115_9 c5 rfl ?_
    refine aw_vload_n (pc1 := 13) at_115_12 l0 i0 rfl ?_
    obtain ⟨v6, e7, hs3⟩ := am_bind hs2
    clear hs2
    refine aw_pG (pc1 := 16) at_115_13 (am_vR_s e7).1 rfl ?_
    refine aw_vload_n (pc1 := 17) at_115_16 l1 i1 rfl ?_
    obtain ⟨z8, hs4⟩ := am_ift hs3
    clear hs3
    refine aw_call (F := fm_77 N v6 x1 h1) (t := true) (na := 2) (kd := 1) (as := [v6, x1]) at_115_17 (am_k3v kb_77) mn_77 mk_77 rfl rfl (am_ok_v mi_77 (am_hl rfl (am_ccR (am_vR_s e7).2 (am_ccR i1 am_cats_0)) rfl) z8) (am_hc am_cats_0 rfl) (fun _ => ⟨rfl, hh_115⟩) (fun o1 hz9 => rm_77 v6 x1 h1 o1 (am_vR_s e7).2 i1 hz9) ?_
    rcases am_cV_s hs4 with ⟨h10, f11, hs5⟩ | hs5
    · clear hs4
      refine Or.inl ⟨_, _, f11, ?_⟩
      show am_W X _ 115 20 _ [] h10 _
      exact rg_115_20 h10 o   hs5
    · clear hs4
      exact Or.inr hs5
def fm_115 (N : Nat) (y0 : Value) (y1 : Value) (h : am_H) : Option am_O := fg_115_0 N y0 y1 h
theorem rm_115 {X : am_X} {d : Nat} {N : Nat} (y0 : Value) (y1 : Value) (h : am_H) (o : am_O) (i0 : am_isR y0 = true) (i1 : am_isR y1 = true) (hs : fm_115 N y0 y1 h = some o) : am_W X (d + 2) 115 0 (am_args 0 [y0, y1]) [] h (fun q => q = o) := by
  rw [am_args_R i0, am_args_R i1]
  exact rg_115_0 y0 y1 h o rfl rfl i0 i1 hs
def fg_118_0 (x0 : Value) (h : am_H) : Option am_O := ((am_vI (am_pG 1538 x0 h)).bind fun v1 => ((am_vI (am_pG 1536 x0 h)).bind fun v3 => (if v1 < v3 then ((am_vI (am_pG 1538 x0 h)).bind fun v6 => ((am_pP 1538 x0 (.int (v6 + 1)) h).bind fun h8 => some (.inl (some (.int 1), h8)))) else ((am_pP 1537 x0 (.int 3) h).bind fun h10 => some (.inl (some (.int 0), h10))))))
theorem rg_118_0 {X : am_X} {d : Nat} {lv : am_LV} (x0 : Value) (h : am_H) (o : am_O) (l0 : lv.lookup 0 = some x0) (i0 : am_isR x0 = true) (hs : fg_118_0 x0 h = some o) : am_W X (d) 118 0 lv [] h (fun q => q = o) := by
  unfold fg_118_0 at hs
  refine aw_vload_n (pc1 := 1) at_118_0 l0 i0 rfl ?_
  obtain ⟨v1, e2, hs1⟩ := am_bind hs
  clear hs
  refine aw_pG (pc1 := 4) at_118_1 (am_vI_s e2) rfl ?_
  refine aw_vload_n (pc1 := 5) at_118_4 l0 i0 rfl ?_
  obtain ⟨v3, e4, hs2⟩ := am_bind hs1
  clear hs1
  refine aw_pG (pc1 := 8) at_118_5 (am_vI_s e4) rfl ?_
  by_cases c5 : v1 < v3
  · rw [if_pos c5] at hs2
    refine aw_iclt_t at_118_8 c5 ?_
    refine aw_vload_n (pc1 := 19) at_118_18 l0 i0 rfl ?_
    refine aw_vdup (pc1 := 20) at_118_19 i0 rfl ?_
    obtain ⟨v6, e7, hs3⟩ := am_bind hs2
    clear hs2
    refine aw_pG (pc1 := 23) at_118_20 (am_vI_s e7) rfl ?_
    refine aw_iconst (v := 1) (pc1 := 24) at_118_23 (by decide) rfl ?_
    refine aw_iadd (v := (v6 + 1)) (pc1 := 25) at_118_24 rfl rfl ?_
    obtain ⟨h8, e9, hs4⟩ := am_bind hs3
    clear hs3
    refine aw_pP (pc1 := 28) at_118_25 e9 rfl ?_
    refine aw_iconst (v := 1) (pc1 := 29) at_118_28 (by decide) rfl ?_
    cases hs4
    exact aw_iret at_118_29 (by rw [rt_118]; decide) rfl
  · rw [if_neg c5] at hs2
    refine aw_iclt_f (pc1 := 11) at_118_8 c5 rfl ?_
    refine aw_vload_n (pc1 := 12) at_118_11 l0 i0 rfl ?_
    refine aw_iconst (v := 3) (pc1 := 13) at_118_12 (by decide) rfl ?_
    obtain ⟨h10, e11, hs5⟩ := am_bind hs2
    clear hs2
    refine aw_pP (pc1 := 16) at_118_13 e11 rfl ?_
    refine aw_iconst (v := 0) (pc1 := 17) at_118_16 (by decide) rfl ?_
    cases hs5
    exact aw_iret at_118_17 (by rw [rt_118]; decide) rfl
def fm_118 (y0 : Value) (h : am_H) : Option am_O := fg_118_0 y0 h
theorem rm_118 {X : am_X} {d : Nat} (y0 : Value) (h : am_H) (o : am_O) (i0 : am_isR y0 = true) (hs : fm_118 y0 h = some o) : am_W X (d) 118 0 (am_args 0 [y0]) [] h (fun q => q = o) := by
  rw [am_args_R i0]
  exact rg_118_0 y0 h o rfl i0 hs
def fg_119_0 (x0 : Value) (x1 : Int32) (x2 : Int32) (h : am_H) : Option am_O := (if x1 = 1 then ((am_vI (am_pG 1542 x0 h)).bind fun v2 => some (.inl (some (.int v2), h))) else (if x1 = 2 then ((am_vI (am_pG 1543 x0 h)).bind fun v5 => some (.inl (some (.int v5), h))) else (if x1 = 3 then ((am_vI (am_pG 1544 x0 h)).bind fun v8 => some (.inl (some (.int v8), h))) else (if x1 = 4 then ((am_vI (am_pG 1546 x0 h)).bind fun v11 => some (.inl (some (.int v11), h))) else (if x1 = 5 then ((am_vI (am_pG 1547 x0 h)).bind fun v14 => some (.inl (some (.int v14), h))) else (if x1 = 6 then ((am_vI (am_pG 1548 x0 h)).bind fun v17 => some (.inl (some (.int v17), h))) else some (.inl (some (.int x2), h))))))))
theorem rg_119_0 {X : am_X} {d : Nat} {lv : am_LV} (x0 : Value) (x1 : Int32) (x2 : Int32) (h : am_H) (o : am_O) (l0 : lv.lookup 0 = some x0) (l1 : lv.lookup 1 = some (.int x1)) (l2 : lv.lookup 2 = some (.int x2)) (i0 : am_isR x0 = true) (hs : fg_119_0 x0 x1 x2 h = some o) : am_W X (d) 119 0 lv [] h (fun q => q = o) := by
  unfold fg_119_0 at hs
  refine aw_iload_n (pc1 := 1) at_119_0 l1 rfl ?_
  by_cases c1 : x1 = 1
  · rw [if_pos c1] at hs
    refine aw_tsw (t := 40) at_119_1 (by rw [c1]; rfl) ?_
    refine aw_vload_n (pc1 := 41) at_119_40 l0 i0 rfl ?_
    obtain ⟨v2, e3, hs1⟩ := am_bind hs
    clear hs
    refine aw_pG (pc1 := 44) at_119_41 (am_vI_s e3) rfl ?_
    cases hs1
    exact aw_iret at_119_44 (by rw [rt_119]; rfl) rfl
  · rw [if_neg c1] at hs
    by_cases c4 : x1 = 2
    · rw [if_pos c4] at hs
      refine aw_tsw (t := 45) at_119_1 (by rw [c4]; rfl) ?_
      refine aw_vload_n (pc1 := 46) at_119_45 l0 i0 rfl ?_
      obtain ⟨v5, e6, hs2⟩ := am_bind hs
      clear hs
      refine aw_pG (pc1 := 49) at_119_46 (am_vI_s e6) rfl ?_
      cases hs2
      exact aw_iret at_119_49 (by rw [rt_119]; rfl) rfl
    · rw [if_neg c4] at hs
      by_cases c7 : x1 = 3
      · rw [if_pos c7] at hs
        refine aw_tsw (t := 50) at_119_1 (by rw [c7]; rfl) ?_
        refine aw_vload_n (pc1 := 51) at_119_50 l0 i0 rfl ?_
        obtain ⟨v8, e9, hs3⟩ := am_bind hs
        clear hs
        refine aw_pG (pc1 := 54) at_119_51 (am_vI_s e9) rfl ?_
        cases hs3
        exact aw_iret at_119_54 (by rw [rt_119]; rfl) rfl
      · rw [if_neg c7] at hs
        by_cases c10 : x1 = 4
        · rw [if_pos c10] at hs
          refine aw_tsw (t := 55) at_119_1 (by rw [c10]; rfl) ?_
          refine aw_vload_n (pc1 := 56) at_119_55 l0 i0 rfl ?_
          obtain ⟨v11, e12, hs4⟩ := am_bind hs
          clear hs
          refine aw_pG (pc1 := 59) at_119_56 (am_vI_s e12) rfl ?_
          cases hs4
          exact aw_iret at_119_59 (by rw [rt_119]; rfl) rfl
        · rw [if_neg c10] at hs
          by_cases c13 : x1 = 5
          · rw [if_pos c13] at hs
            refine aw_tsw (t := 60) at_119_1 (by rw [c13]; rfl) ?_
            refine aw_vload_n (pc1 := 61) at_119_60 l0 i0 rfl ?_
            obtain ⟨v14, e15, hs5⟩ := am_bind hs
            clear hs
            refine aw_pG (pc1 := 64) at_119_61 (am_vI_s e15) rfl ?_
            cases hs5
            exact aw_iret at_119_64 (by rw [rt_119]; rfl) rfl
          · rw [if_neg c13] at hs
            by_cases c16 : x1 = 6
            · rw [if_pos c16] at hs
              refine aw_tsw (t := 65) at_119_1 (by rw [c16]; rfl) ?_
              refine aw_vload_n (pc1 := 66) at_119_65 l0 i0 rfl ?_
              obtain ⟨v17, e18, hs6⟩ := am_bind hs
              clear hs
              refine aw_pG (pc1 := 69) at_119_66 (am_vI_s e18) rfl ?_
              cases hs6
              exact aw_iret at_119_69 (by rw [rt_119]; rfl) rfl
            · rw [if_neg c16] at hs
              have tc1 : x1.toInt ≠ 1 := fun e9 => c1 (Int32.toInt_inj.mp e9)
              have tc4 : x1.toInt ≠ 2 := fun e9 => c4 (Int32.toInt_inj.mp e9)
              have tc7 : x1.toInt ≠ 3 := fun e9 => c7 (Int32.toInt_inj.mp e9)
              have tc10 : x1.toInt ≠ 4 := fun e9 => c10 (Int32.toInt_inj.mp e9)
              have tc13 : x1.toInt ≠ 5 := fun e9 => c13 (Int32.toInt_inj.mp e9)
              have tc16 : x1.toInt ≠ 6 := fun e9 => c16 (Int32.toInt_inj.mp e9)
              refine aw_tsw (t := 70) at_119_1 (am_tsw_d (by omega)) ?_
              refine aw_iload_n (pc1 := 71) at_119_70 l2 rfl ?_
              cases hs
              exact aw_iret at_119_71 (by rw [rt_119]; rfl) rfl
def fm_119 (y0 : Value) (y1 : Int32) (y2 : Int32) (h : am_H) : Option am_O := fg_119_0 y0 y1 y2 h
theorem rm_119 {X : am_X} {d : Nat} (y0 : Value) (y1 : Int32) (y2 : Int32) (h : am_H) (o : am_O) (i0 : am_isR y0 = true) (hs : fm_119 y0 y1 y2 h = some o) : am_W X (d) 119 0 (am_args 0 [y0, .int y1, .int y2]) [] h (fun q => q = o) := by
  rw [am_args_R i0, am_args_I, am_args_I]
  exact rg_119_0 y0 y1 y2 h o rfl rfl rfl i0 hs
def fg_120_31 (x0 : Value) (h : am_H) : Option am_O := ((am_pP 1537 x0 (.int 2) h).bind fun h1 => some (.inl (some (.int 0), h1)))
theorem rg_120_31 {X : am_X} {d : Nat} {lv : am_LV} (x0 : Value) (h : am_H) (o : am_O) (l0 : lv.lookup 0 = some x0) (i0 : am_isR x0 = true) (hs : fg_120_31 x0 h = some o) : am_W X (d) 120 31 lv [] h (fun q => q = o) := by
  unfold fg_120_31 at hs
  refine aw_vload_n (pc1 := 32) at_120_31 l0 i0 rfl ?_
  refine aw_iconst (v := 2) (pc1 := 33) at_120_32 (by decide) rfl ?_
  obtain ⟨h1, e2, hs1⟩ := am_bind hs
  clear hs
  refine aw_pP (pc1 := 36) at_120_33 e2 rfl ?_
  refine aw_iconst (v := 0) (pc1 := 37) at_120_36 (by decide) rfl ?_
  cases hs1
  exact aw_iret at_120_37 (by rw [rt_120]; rfl) rfl
def fg_120_0 (x0 : Value) (x1 : Int32) (x2 : Int32) (h : am_H) : Option am_O := (if ¬ x1 = 9 then (if ¬ x1 = 7 then (if x2 < 0 then (fg_120_31 x0 h) else ((am_vI (am_pG 1546 x0 h)).bind fun v4 => (if x2 < v4 then ((am_vR (am_pG 1545 x0 h)).bind fun v7 => ((am_pA 0 v7 x2 h).bind fun v9 => some (.inl (some (.int v9), h)))) else (fg_120_31 x0 h)))) else some (.inl (some (.int (-x2)), h))) else some (.inl (some (.int (1 - x2)), h)))
theorem rg_120_0 {X : am_X} {d : Nat} {lv : am_LV} (x0 : Value) (x1 : Int32) (x2 : Int32) (h : am_H) (o : am_O) (l0 : lv.lookup 0 = some x0) (l1 : lv.lookup 1 = some (.int x1)) (l2 : lv.lookup 2 = some (.int x2)) (i0 : am_isR x0 = true) (hs : fg_120_0 x0 x1 x2 h = some o) : am_W X (d) 120 0 lv [] h (fun q => q = o) := by
  unfold fg_120_0 at hs
  refine aw_iload_n (pc1 := 1) at_120_0 l1 rfl ?_
  refine aw_bipush (v := 9) (pc1 := 3) at_120_1 (by decide) rfl ?_
  by_cases c1 : ¬ x1 = 9
  · rw [if_pos c1] at hs
    refine aw_icne_t at_120_3 c1 ?_
    refine aw_iload_n (pc1 := 11) at_120_10 l1 rfl ?_
    refine aw_bipush (v := 7) (pc1 := 13) at_120_11 (by decide) rfl ?_
    by_cases c2 : ¬ x1 = 7
    · rw [if_pos c2] at hs
      refine aw_icne_t at_120_13 c2 ?_
      refine aw_iload_n (pc1 := 20) at_120_19 l2 rfl ?_
      by_cases c3 : x2 < 0
      · rw [if_pos c3] at hs
        refine aw_iflt_t at_120_20 c3 ?_
        exact rg_120_31 x0 h o l0 i0 hs
      · rw [if_neg c3] at hs
        refine aw_iflt_f (pc1 := 23) at_120_20 c3 rfl ?_
        refine aw_iload_n (pc1 := 24) at_120_23 l2 rfl ?_
        refine aw_vload_n (pc1 := 25) at_120_24 l0 i0 rfl ?_
        obtain ⟨v4, e5, hs1⟩ := am_bind hs
        clear hs
        refine aw_pG (pc1 := 28) at_120_25 (am_vI_s e5) rfl ?_
        by_cases c6 : x2 < v4
        · rw [if_pos c6] at hs1
          refine aw_iclt_t at_120_28 c6 ?_
          refine aw_vload_n (pc1 := 39) at_120_38 l0 i0 rfl ?_
          obtain ⟨v7, e8, hs2⟩ := am_bind hs1
          clear hs1
          refine aw_pG (pc1 := 42) at_120_39 (am_vR_s e8).1 rfl ?_
          refine aw_iload_n (pc1 := 43) at_120_42 l2 rfl ?_
          obtain ⟨v9, e10, hs3⟩ := am_bind hs2
          clear hs2
          refine aw_pA (pc1 := 44) at_120_43 (Or.inl ⟨rfl, rfl⟩) e10 rfl ?_
          cases hs3
          exact aw_iret at_120_44 (by rw [rt_120]; rfl) rfl
        · rw [if_neg c6] at hs1
          refine aw_iclt_f (pc1 := 31) at_120_28 c6 rfl ?_
          exact rg_120_31 x0 h o l0 i0 hs1
    · rw [if_neg c2] at hs
      refine aw_icne_f (pc1 := 16) at_120_13 c2 rfl ?_
      refine aw_iload_n (pc1 := 17) at_120_16 l2 rfl ?_
      refine aw_ineg (v := (-x2)) (pc1 := 18) at_120_17 rfl rfl ?_
      cases hs
      exact aw_iret at_120_18 (by rw [rt_120]; rfl) rfl
  · rw [if_neg c1] at hs
    refine aw_icne_f (pc1 := 6) at_120_3 c1 rfl ?_
    refine aw_iconst (v := 1) (pc1 := 7) at_120_6 (by decide) rfl ?_
    refine aw_iload_n (pc1 := 8) at_120_7 l2 rfl ?_
    refine aw_isub (v := (1 - x2)) (pc1 := 9) at_120_8 rfl rfl ?_
    cases hs
    exact aw_iret at_120_9 (by rw [rt_120]; rfl) rfl
def fm_120 (y0 : Value) (y1 : Int32) (y2 : Int32) (h : am_H) : Option am_O := fg_120_0 y0 y1 y2 h
theorem rm_120 {X : am_X} {d : Nat} (y0 : Value) (y1 : Int32) (y2 : Int32) (h : am_H) (o : am_O) (i0 : am_isR y0 = true) (hs : fm_120 y0 y1 y2 h = some o) : am_W X (d) 120 0 (am_args 0 [y0, .int y1, .int y2]) [] h (fun q => q = o) := by
  rw [am_args_R i0, am_args_I, am_args_I]
  exact rg_120_0 y0 y1 y2 h o rfl rfl rfl i0 hs
def fg_122_104 (s0 : Int32) (h : am_H) : Option am_O := some (.inl (some (.int s0), h))
theorem rg_122_104 {X : am_X} {d : Nat} {lv : am_LV} (s0 : Int32) (h : am_H) (o : am_O) (hs : fg_122_104 s0 h = some o) : am_W X (d) 122 104 lv [(.int s0)] h (fun q => q = o) := by
  unfold fg_122_104 at hs
  cases hs
  exact aw_iret at_122_104 (by rw [rt_122]; rfl) rfl
def fg_122_78 (x0 : Value) (x1 : Int32) (x2 : Int32) (x3 : Int32) (h : am_H) : Option am_O := (if ¬ x3 = 0 then (if ¬ x1 = 13 then (if (x3 : Int32) ≠ 0 then (fg_122_104 ((x2 - x2 / x3 * x3)) h) else none) else (if (x3 : Int32) ≠ 0 then (fg_122_104 ((x2 / x3)) h) else none)) else ((am_pP 1537 x0 (.int 1) h).bind fun h5 => some (.inl (some (.int 0), h5))))
theorem rg_122_78 {X : am_X} {d : Nat} {lv : am_LV} (x0 : Value) (x1 : Int32) (x2 : Int32) (x3 : Int32) (h : am_H) (o : am_O) (l0 : lv.lookup 0 = some x0) (l1 : lv.lookup 1 = some (.int x1)) (l2 : lv.lookup 2 = some (.int x2)) (l3 : lv.lookup 3 = some (.int x3)) (i0 : am_isR x0 = true) (hs : fg_122_78 x0 x1 x2 x3 h = some o) : am_W X (d) 122 78 lv [] h (fun q => q = o) := by
  unfold fg_122_78 at hs
  refine aw_iload_n (pc1 := 79) at_122_78 l3 rfl ?_
  by_cases c1 : ¬ x3 = 0
  · rw [if_pos c1] at hs
    refine aw_ifne_t at_122_79 c1 ?_
    refine aw_iload_n (pc1 := 90) at_122_89 l1 rfl ?_
    refine aw_bipush (v := 13) (pc1 := 92) at_122_90 (by decide) rfl ?_
    by_cases c2 : ¬ x1 = 13
    · rw [if_pos c2] at hs
      refine aw_icne_t at_122_92 c2 ?_
      refine aw_iload_n (pc1 := 102) at_122_101 l2 rfl ?_
      refine aw_iload_n (pc1 := 103) at_122_102 l3 rfl ?_
      obtain ⟨z3, hs1⟩ := am_ift hs
      clear hs
      refine aw_irem (v := (x2 - x2 / x3 * x3)) (pc1 := 104) at_122_103 z3 rfl rfl ?_
      exact rg_122_104 ((x2 - x2 / x3 * x3)) h o   hs1
    · rw [if_neg c2] at hs
      refine aw_icne_f (pc1 := 95) at_122_92 c2 rfl ?_
      refine aw_iload_n (pc1 := 96) at_122_95 l2 rfl ?_
      refine aw_iload_n (pc1 := 97) at_122_96 l3 rfl ?_
      obtain ⟨z4, hs2⟩ := am_ift hs
      clear hs
      refine aw_idiv (v := (x2 / x3)) (pc1 := 98) at_122_97 z4 rfl rfl ?_
      refine aw_goto at_122_98 ?_
      exact rg_122_104 ((x2 / x3)) h o   hs2
  · rw [if_neg c1] at hs
    refine aw_ifne_f (pc1 := 82) at_122_79 c1 rfl ?_
    refine aw_vload_n (pc1 := 83) at_122_82 l0 i0 rfl ?_
    refine aw_iconst (v := 1) (pc1 := 84) at_122_83 (by decide) rfl ?_
    obtain ⟨h5, e6, hs3⟩ := am_bind hs
    clear hs
    refine aw_pP (pc1 := 87) at_122_84 e6 rfl ?_
    refine aw_iconst (v := 0) (pc1 := 88) at_122_87 (by decide) rfl ?_
    cases hs3
    exact aw_iret at_122_88 (by rw [rt_122]; rfl) rfl
def fg_122_77 (s0 : Int32) (h : am_H) : Option am_O := some (.inl (some (.int s0), h))
theorem rg_122_77 {X : am_X} {d : Nat} {lv : am_LV} (s0 : Int32) (h : am_H) (o : am_O) (hs : fg_122_77 s0 h = some o) : am_W X (d) 122 77 lv [(.int s0)] h (fun q => q = o) := by
  unfold fg_122_77 at hs
  cases hs
  exact aw_iret at_122_77 (by rw [rt_122]; rfl) rfl
def fg_122_66 (s0 : Int32) (h : am_H) : Option am_O := some (.inl (some (.int s0), h))
theorem rg_122_66 {X : am_X} {d : Nat} {lv : am_LV} (s0 : Int32) (h : am_H) (o : am_O) (hs : fg_122_66 s0 h = some o) : am_W X (d) 122 66 lv [(.int s0)] h (fun q => q = o) := by
  unfold fg_122_66 at hs
  cases hs
  exact aw_iret at_122_66 (by rw [rt_122]; rfl) rfl
def fg_122_0 (x0 : Value) (x1 : Int32) (x2 : Int32) (x3 : Int32) (h : am_H) : Option am_O := (if x1 = 10 then some (.inl (some (.int (x2 + x3)), h)) else (if x1 = 11 then some (.inl (some (.int (x2 - x3)), h)) else (if x1 = 12 then some (.inl (some (.int (x2 * x3)), h)) else (if x1 = 15 then (if x3 ≤ x2 then (fg_122_66 0 h) else (fg_122_66 1 h)) else (if x1 = 16 then (if ¬ x2 = x3 then (fg_122_77 0 h) else (fg_122_77 1 h)) else (fg_122_78 x0 x1 x2 x3 h))))))
theorem rg_122_0 {X : am_X} {d : Nat} {lv : am_LV} (x0 : Value) (x1 : Int32) (x2 : Int32) (x3 : Int32) (h : am_H) (o : am_O) (l0 : lv.lookup 0 = some x0) (l1 : lv.lookup 1 = some (.int x1)) (l2 : lv.lookup 2 = some (.int x2)) (l3 : lv.lookup 3 = some (.int x3)) (i0 : am_isR x0 = true) (hs : fg_122_0 x0 x1 x2 x3 h = some o) : am_W X (d) 122 0 lv [] h (fun q => q = o) := by
  unfold fg_122_0 at hs
  refine aw_iload_n (pc1 := 1) at_122_0 l1 rfl ?_
  by_cases c1 : x1 = 10
  · rw [if_pos c1] at hs
    refine aw_tsw (t := 44) at_122_1 (by rw [c1]; rfl) ?_
    refine aw_iload_n (pc1 := 45) at_122_44 l2 rfl ?_
    refine aw_iload_n (pc1 := 46) at_122_45 l3 rfl ?_
    refine aw_iadd (v := (x2 + x3)) (pc1 := 47) at_122_46 rfl rfl ?_
    cases hs
    exact aw_iret at_122_47 (by rw [rt_122]; rfl) rfl
  · rw [if_neg c1] at hs
    by_cases c2 : x1 = 11
    · rw [if_pos c2] at hs
      refine aw_tsw (t := 48) at_122_1 (by rw [c2]; rfl) ?_
      refine aw_iload_n (pc1 := 49) at_122_48 l2 rfl ?_
      refine aw_iload_n (pc1 := 50) at_122_49 l3 rfl ?_
      refine aw_isub (v := (x2 - x3)) (pc1 := 51) at_122_50 rfl rfl ?_
      cases hs
      exact aw_iret at_122_51 (by rw [rt_122]; rfl) rfl
    · rw [if_neg c2] at hs
      by_cases c3 : x1 = 12
      · rw [if_pos c3] at hs
        refine aw_tsw (t := 52) at_122_1 (by rw [c3]; rfl) ?_
        refine aw_iload_n (pc1 := 53) at_122_52 l2 rfl ?_
        refine aw_iload_n (pc1 := 54) at_122_53 l3 rfl ?_
        refine aw_imul (v := (x2 * x3)) (pc1 := 55) at_122_54 rfl rfl ?_
        cases hs
        exact aw_iret at_122_55 (by rw [rt_122]; rfl) rfl
      · rw [if_neg c3] at hs
        by_cases c4 : x1 = 15
        · rw [if_pos c4] at hs
          refine aw_tsw (t := 56) at_122_1 (by rw [c4]; rfl) ?_
          refine aw_iload_n (pc1 := 57) at_122_56 l2 rfl ?_
          refine aw_iload_n (pc1 := 58) at_122_57 l3 rfl ?_
          by_cases c5 : x3 ≤ x2
          · rw [if_pos c5] at hs
            refine aw_icge_t at_122_58 c5 ?_
            refine aw_iconst (v := 0) (pc1 := 66) at_122_65 (by decide) rfl ?_
            exact rg_122_66 0 h o   hs
          · rw [if_neg c5] at hs
            refine aw_icge_f (pc1 := 61) at_122_58 c5 rfl ?_
            refine aw_iconst (v := 1) (pc1 := 62) at_122_61 (by decide) rfl ?_
            refine aw_goto at_122_62 ?_
            exact rg_122_66 1 h o   hs
        · rw [if_neg c4] at hs
          by_cases c6 : x1 = 16
          · rw [if_pos c6] at hs
            refine aw_tsw (t := 67) at_122_1 (by rw [c6]; rfl) ?_
            refine aw_iload_n (pc1 := 68) at_122_67 l2 rfl ?_
            refine aw_iload_n (pc1 := 69) at_122_68 l3 rfl ?_
            by_cases c7 : ¬ x2 = x3
            · rw [if_pos c7] at hs
              refine aw_icne_t at_122_69 c7 ?_
              refine aw_iconst (v := 0) (pc1 := 77) at_122_76 (by decide) rfl ?_
              exact rg_122_77 0 h o   hs
            · rw [if_neg c7] at hs
              refine aw_icne_f (pc1 := 72) at_122_69 c7 rfl ?_
              refine aw_iconst (v := 1) (pc1 := 73) at_122_72 (by decide) rfl ?_
              refine aw_goto at_122_73 ?_
              exact rg_122_77 1 h o   hs
          · rw [if_neg c6] at hs
            have tc1 : x1.toInt ≠ 10 := fun e9 => c1 (Int32.toInt_inj.mp e9)
            have tc2 : x1.toInt ≠ 11 := fun e9 => c2 (Int32.toInt_inj.mp e9)
            have tc3 : x1.toInt ≠ 12 := fun e9 => c3 (Int32.toInt_inj.mp e9)
            have tc4 : x1.toInt ≠ 15 := fun e9 => c4 (Int32.toInt_inj.mp e9)
            have tc6 : x1.toInt ≠ 16 := fun e9 => c6 (Int32.toInt_inj.mp e9)
            have hw : (x1.toInt < 10 ∨ 16 < x1.toInt) ∨ x1.toInt = 13 ∨ x1.toInt = 14 := by omega
            refine aw_tsw (t := 78) at_122_1 ?_ ?_
            · rcases hw with hw | hw | hw
              · exact am_tsw_d hw
              · rw [show x1 = 13 from Int32.toInt_inj.mp hw]; rfl
              · rw [show x1 = 14 from Int32.toInt_inj.mp hw]; rfl
            exact rg_122_78 x0 x1 x2 x3 h o l0 l1 l2 l3 i0 hs
def fm_122 (y0 : Value) (y1 : Int32) (y2 : Int32) (y3 : Int32) (h : am_H) : Option am_O := fg_122_0 y0 y1 y2 y3 h
theorem rm_122 {X : am_X} {d : Nat} (y0 : Value) (y1 : Int32) (y2 : Int32) (y3 : Int32) (h : am_H) (o : am_O) (i0 : am_isR y0 = true) (hs : fm_122 y0 y1 y2 y3 h = some o) : am_W X (d) 122 0 (am_args 0 [y0, .int y1, .int y2, .int y3]) [] h (fun q => q = o) := by
  rw [am_args_R i0, am_args_I, am_args_I, am_args_I]
  exact rg_122_0 y0 y1 y2 y3 h o rfl rfl rfl rfl i0 hs
def fg_117_217 (N : Nat) (rc_117 : Value → Int32 → Int32 → am_H → Option am_O) (rc_121 : Value → Int32 → Int32 → Int32 → am_H → Option am_O) (s0 : Int32) (h : am_H) : Option am_O := some (.inl (some (.int s0), h))
theorem rg_117_217 {X : am_X} {d : Nat} {N : Nat} {rc_117 : Value → Int32 → Int32 → am_H → Option am_O} {rc_121 : Value → Int32 → Int32 → Int32 → am_H → Option am_O} (qc_117 : ∀ (y0 : Value) (y1 : Int32) (y2 : Int32) (h : am_H) (o : am_O), (am_isR y0 = true) → rc_117 y0 y1 y2 h = some o → am_W X (d + 1) 117 0 (am_args 0 [y0, .int y1, .int y2]) [] h (fun q => q = o)) (qc_121 : ∀ (y0 : Value) (y1 : Int32) (y2 : Int32) (y3 : Int32) (h : am_H) (o : am_O), (am_isR y0 = true) → rc_121 y0 y1 y2 y3 h = some o → am_W X (d + 1) 121 0 (am_args 0 [y0, .int y1, .int y2, .int y3]) [] h (fun q => q = o)) {lv : am_LV} (s0 : Int32) (h : am_H) (o : am_O) (hs : fg_117_217 N rc_117 rc_121 s0 h = some o) : am_W X (d + 2) 117 217 lv [(.int s0)] h (fun q => q = o) := by
  unfold fg_117_217 at hs
  cases hs
  exact aw_iret at_117_217 (by rw [rt_117]; rfl) rfl
def fg_117_203 (N : Nat) (rc_117 : Value → Int32 → Int32 → am_H → Option am_O) (rc_121 : Value → Int32 → Int32 → Int32 → am_H → Option am_O) (x6 : Int32) (h : am_H) : Option am_O := (fg_117_217 N rc_117 rc_121 x6 h)
theorem rg_117_203 {X : am_X} {d : Nat} {N : Nat} {rc_117 : Value → Int32 → Int32 → am_H → Option am_O} {rc_121 : Value → Int32 → Int32 → Int32 → am_H → Option am_O} (qc_117 : ∀ (y0 : Value) (y1 : Int32) (y2 : Int32) (h : am_H) (o : am_O), (am_isR y0 = true) → rc_117 y0 y1 y2 h = some o → am_W X (d + 1) 117 0 (am_args 0 [y0, .int y1, .int y2]) [] h (fun q => q = o)) (qc_121 : ∀ (y0 : Value) (y1 : Int32) (y2 : Int32) (y3 : Int32) (h : am_H) (o : am_O), (am_isR y0 = true) → rc_121 y0 y1 y2 y3 h = some o → am_W X (d + 1) 121 0 (am_args 0 [y0, .int y1, .int y2, .int y3]) [] h (fun q => q = o)) {lv : am_LV} (x6 : Int32) (h : am_H) (o : am_O) (l6 : lv.lookup 6 = some (.int x6)) (hs : fg_117_203 N rc_117 rc_121 x6 h = some o) : am_W X (d + 2) 117 203 lv [] h (fun q => q = o) := by
  unfold fg_117_203 at hs
  refine aw_iload (pc1 := 205) at_117_203 l6 rfl ?_
  refine aw_goto at_117_205 ?_
  exact rg_117_217 qc_117 qc_121 x6 h o   hs
def fg_117_167 (N : Nat) (rc_117 : Value → Int32 → Int32 → am_H → Option am_O) (rc_121 : Value → Int32 → Int32 → Int32 → am_H → Option am_O) (x0 : Value) (x2 : Int32) (x3 : Int32) (x4 : Int32) (x5 : Int32) (h : am_H) : Option am_O := (if am_pOk 6 x0 h then am_cI true (rc_117 x0 x5 ((x2 + 1)) h) (fun v2 h3 => ((am_vI (am_pG 1537 x0 h3)).bind fun v5 => (if ¬ v5 = 0 then (fg_117_203 N rc_117 rc_121 v2 h3) else (if x3 = 17 then (fg_117_203 N rc_117 rc_121 v2 h3) else (if x3 = 18 then (fg_117_203 N rc_117 rc_121 v2 h3) else (if ¬ x3 = 20 then (if am_pOk 6 x0 h3 then am_cI true (fm_122 x0 x3 x4 v2 h3) (fun v12 h13 => (fg_117_217 N rc_117 rc_121 v12 h13)) else none) else (fg_117_203 N rc_117 rc_121 v2 h3))))))) else none)
theorem rg_117_167 {X : am_X} {d : Nat} {N : Nat} {rc_117 : Value → Int32 → Int32 → am_H → Option am_O} {rc_121 : Value → Int32 → Int32 → Int32 → am_H → Option am_O} (qc_117 : ∀ (y0 : Value) (y1 : Int32) (y2 : Int32) (h : am_H) (o : am_O), (am_isR y0 = true) → rc_117 y0 y1 y2 h = some o → am_W X (d + 1) 117 0 (am_args 0 [y0, .int y1, .int y2]) [] h (fun q => q = o)) (qc_121 : ∀ (y0 : Value) (y1 : Int32) (y2 : Int32) (y3 : Int32) (h : am_H) (o : am_O), (am_isR y0 = true) → rc_121 y0 y1 y2 y3 h = some o → am_W X (d + 1) 121 0 (am_args 0 [y0, .int y1, .int y2, .int y3]) [] h (fun q => q = o)) {lv : am_LV} (x0 : Value) (x2 : Int32) (x3 : Int32) (x4 : Int32) (x5 : Int32) (h : am_H) (o : am_O) (l0 : lv.lookup 0 = some x0) (l2 : lv.lookup 2 = some (.int x2)) (l3 : lv.lookup 3 = some (.int x3)) (l4 : lv.lookup 4 = some (.int x4)) (l5 : lv.lookup 5 = some (.int x5)) (i0 : am_isR x0 = true) (hs : fg_117_167 N rc_117 rc_121 x0 x2 x3 x4 x5 h = some o) : am_W X (d + 2) 117 167 lv [] h (fun q => q = o) := by
  unfold fg_117_167 at hs
  refine aw_vload_n (pc1 := 168) at_117_167 l0 i0 rfl ?_
  refine aw_iload (pc1 := 170) at_117_168 l5 rfl ?_
  refine aw_iload_n (pc1 := 171) at_117_170 l2 rfl ?_
  refine aw_iconst (v := 1) (pc1 := 172) at_117_171 (by decide) rfl ?_
  refine aw_iadd (v := (x2 + 1)) (pc1 := 173) at_117_172 rfl rfl ?_
  obtain ⟨z1, hs1⟩ := am_ift hs
  clear hs
  refine aw_call (F := rc_117 x0 x5 ((x2 + 1)) h) (t := true) (na := 3) (kd := 1) (as := [x0, (.int x5), (.int (x2 + 1))]) at_117_173 (am_k3v kb_117) mn_117 mk_117 rfl rfl (am_ok_v mi_117 (am_hl rfl (am_ccR i0 (am_ccI (am_ccI am_cats_0))) rfl) z1) (am_hc am_cats_0 rfl) (fun _ => ⟨rfl, hh_117⟩) (fun o1 hz9 => qc_117 x0 x5 ((x2 + 1)) h o1 i0 hz9) ?_
  rcases am_cI_s hs1 with ⟨v2, h3, f4, hs2⟩ | hs2
  · clear hs1
    refine Or.inl ⟨_, _, f4, ?_⟩
    show am_W X _ 117 176 _ [(.int v2)] h3 _
    refine aw_istore (lv1 := am_put1 _ 6 _) (pc1 := 178) at_117_176 rfl rfl ?_
    refine aw_vload_n (pc1 := 179) at_117_178 (am_lk1 l0 rfl rfl) i0 rfl ?_
    obtain ⟨v5, e6, hs3⟩ := am_bind hs2
    clear hs2
    refine aw_pG (pc1 := 182) at_117_179 (am_vI_s e6) rfl ?_
    by_cases c7 : ¬ v5 = 0
    · rw [if_pos c7] at hs3
      refine aw_ifne_t at_117_182 c7 ?_
      exact rg_117_203 qc_117 qc_121 v2 h3 o am_lk0  hs3
    · rw [if_neg c7] at hs3
      refine aw_ifne_f (pc1 := 185) at_117_182 c7 rfl ?_
      refine aw_iload_n (pc1 := 186) at_117_185 (am_lk1 l3 rfl rfl) rfl ?_
      refine aw_bipush (v := 17) (pc1 := 188) at_117_186 (by decide) rfl ?_
      by_cases c8 : x3 = 17
      · rw [if_pos c8] at hs3
        refine aw_iceq_t at_117_188 c8 ?_
        exact rg_117_203 qc_117 qc_121 v2 h3 o am_lk0  hs3
      · rw [if_neg c8] at hs3
        refine aw_iceq_f (pc1 := 191) at_117_188 c8 rfl ?_
        refine aw_iload_n (pc1 := 192) at_117_191 (am_lk1 l3 rfl rfl) rfl ?_
        refine aw_bipush (v := 18) (pc1 := 194) at_117_192 (by decide) rfl ?_
        by_cases c9 : x3 = 18
        · rw [if_pos c9] at hs3
          refine aw_iceq_t at_117_194 c9 ?_
          exact rg_117_203 qc_117 qc_121 v2 h3 o am_lk0  hs3
        · rw [if_neg c9] at hs3
          refine aw_iceq_f (pc1 := 197) at_117_194 c9 rfl ?_
          refine aw_iload_n (pc1 := 198) at_117_197 (am_lk1 l3 rfl rfl) rfl ?_
          refine aw_bipush (v := 20) (pc1 := 200) at_117_198 (by decide) rfl ?_
          by_cases c10 : ¬ x3 = 20
          · rw [if_pos c10] at hs3
            refine aw_icne_t at_117_200 c10 ?_
            refine aw_vload_n (pc1 := 209) at_117_208 (am_lk1 l0 rfl rfl) i0 rfl ?_
            refine aw_iload_n (pc1 := 210) at_117_209 (am_lk1 l3 rfl rfl) rfl ?_
            refine aw_iload (pc1 := 212) at_117_210 (am_lk1 l4 rfl rfl) rfl ?_
            refine aw_iload (pc1 := 214) at_117_212 am_lk0 rfl ?_
            obtain ⟨z11, hs4⟩ := am_ift hs3
            clear hs3
            refine aw_call (F := fm_122 x0 x3 x4 v2 h3) (t := true) (na := 4) (kd := 1) (as := [x0, (.int x3), (.int x4), (.int v2)]) at_117_214 (am_k3v kb_122) mn_122 mk_122 rfl rfl (am_ok_v mi_122 (am_hl rfl (am_ccR i0 (am_ccI (am_ccI (am_ccI am_cats_0)))) rfl) z11) (am_hc am_cats_0 rfl) (fun _ => ⟨rfl, hh_117⟩) (fun o1 hz9 => rm_122 x0 x3 x4 v2 h3 o1 i0 hz9) ?_
            rcases am_cI_s hs4 with ⟨v12, h13, f14, hs5⟩ | hs5
            · clear hs4
              refine Or.inl ⟨_, _, f14, ?_⟩
              show am_W X _ 117 217 _ [(.int v12)] h13 _
              exact rg_117_217 qc_117 qc_121 v12 h13 o   hs5
            · clear hs4
              exact Or.inr hs5
          · rw [if_neg c10] at hs3
            refine aw_icne_f (pc1 := 203) at_117_200 c10 rfl ?_
            exact rg_117_203 qc_117 qc_121 v2 h3 o am_lk0  hs3
  · clear hs1
    exact Or.inr hs2
def fg_117_109 (N : Nat) (rc_117 : Value → Int32 → Int32 → am_H → Option am_O) (rc_121 : Value → Int32 → Int32 → Int32 → am_H → Option am_O) (x0 : Value) (x2 : Int32) (x3 : Int32) (x4 : Int32) (x5 : Int32) (h : am_H) : Option am_O := (if 10 ≤ x3 then (if ¬ x3 = 19 then (if ¬ x3 = 20 then (fg_117_167 N rc_117 rc_121 x0 x2 x3 x4 x5 h) else (if ¬ x4 = 0 then (fg_117_167 N rc_117 rc_121 x0 x2 x3 x4 x5 h) else ((am_vR (am_pG 1541 x0 h)).bind fun v5 => (if am_pOk 7 v5 h then am_cI true (fm_100 v5 x5 h) (fun v8 h9 => (if am_pOk 6 x0 h9 then am_cI true (rc_117 x0 v8 ((x2 + 1)) h9) (fun v12 h13 => some (.inl (some (.int v12), h13))) else none)) else none)))) else (if am_pOk 6 x0 h then am_cI true (rc_121 x0 x4 x5 x2 h) (fun v16 h17 => some (.inl (some (.int v16), h17))) else none)) else (if am_pOk 6 x0 h then am_cI true (fm_120 x0 x3 x4 h) (fun v20 h21 => some (.inl (some (.int v20), h21))) else none))
theorem rg_117_109 {X : am_X} {d : Nat} {N : Nat} {rc_117 : Value → Int32 → Int32 → am_H → Option am_O} {rc_121 : Value → Int32 → Int32 → Int32 → am_H → Option am_O} (qc_117 : ∀ (y0 : Value) (y1 : Int32) (y2 : Int32) (h : am_H) (o : am_O), (am_isR y0 = true) → rc_117 y0 y1 y2 h = some o → am_W X (d + 1) 117 0 (am_args 0 [y0, .int y1, .int y2]) [] h (fun q => q = o)) (qc_121 : ∀ (y0 : Value) (y1 : Int32) (y2 : Int32) (y3 : Int32) (h : am_H) (o : am_O), (am_isR y0 = true) → rc_121 y0 y1 y2 y3 h = some o → am_W X (d + 1) 121 0 (am_args 0 [y0, .int y1, .int y2, .int y3]) [] h (fun q => q = o)) {lv : am_LV} (x0 : Value) (x2 : Int32) (x3 : Int32) (x4 : Int32) (x5 : Int32) (h : am_H) (o : am_O) (l0 : lv.lookup 0 = some x0) (l2 : lv.lookup 2 = some (.int x2)) (l3 : lv.lookup 3 = some (.int x3)) (l4 : lv.lookup 4 = some (.int x4)) (l5 : lv.lookup 5 = some (.int x5)) (i0 : am_isR x0 = true) (hs : fg_117_109 N rc_117 rc_121 x0 x2 x3 x4 x5 h = some o) : am_W X (d + 2) 117 109 lv [] h (fun q => q = o) := by
  unfold fg_117_109 at hs
  refine aw_iload_n (pc1 := 110) at_117_109 l3 rfl ?_
  refine aw_bipush (v := 10) (pc1 := 112) at_117_110 (by decide) rfl ?_
  by_cases c1 : 10 ≤ x3
  · rw [if_pos c1] at hs
    refine aw_icge_t at_117_112 c1 ?_
    refine aw_iload_n (pc1 := 124) at_117_123 l3 rfl ?_
    refine aw_bipush (v := 19) (pc1 := 126) at_117_124 (by decide) rfl ?_
    by_cases c2 : ¬ x3 = 19
    · rw [if_pos c2] at hs
      refine aw_icne_t at_117_126 c2 ?_
      refine aw_iload_n (pc1 := 140) at_117_139 l3 rfl ?_
      refine aw_bipush (v := 20) (pc1 := 142) at_117_140 (by decide) rfl ?_
      by_cases c3 : ¬ x3 = 20
      · rw [if_pos c3] at hs
        refine aw_icne_t at_117_142 c3 ?_
        exact rg_117_167 qc_117 qc_121 x0 x2 x3 x4 x5 h o l0 l2 l3 l4 l5 i0 hs
      · rw [if_neg c3] at hs
        refine aw_icne_f (pc1 := 145) at_117_142 c3 rfl ?_
        refine aw_iload (pc1 := 147) at_117_145 l4 rfl ?_
        by_cases c4 : ¬ x4 = 0
        · rw [if_pos c4] at hs
          refine aw_ifne_t at_117_147 c4 ?_
          exact rg_117_167 qc_117 qc_121 x0 x2 x3 x4 x5 h o l0 l2 l3 l4 l5 i0 hs
        · rw [if_neg c4] at hs
          refine aw_ifne_f (pc1 := 150) at_117_147 c4 rfl ?_
          refine aw_vload_n (pc1 := 151) at_117_150 l0 i0 rfl ?_
          refine aw_vload_n (pc1 := 152) at_117_151 l0 i0 rfl ?_
          obtain ⟨v5, e6, hs1⟩ := am_bind hs
          clear hs
          refine aw_pG (pc1 := 155) at_117_152 (am_vR_s e6).1 rfl ?_
          refine aw_iload (pc1 := 157) at_117_155 l5 rfl ?_
          obtain ⟨z7, hs2⟩ := am_ift hs1
          clear hs1
          refine aw_call (F := fm_100 v5 x5 h) (t := true) (na := 2) (kd := 1) (as := [v5, (.int x5)]) at_117_157 (am_k3v kb_100) mn_100 mk_100 rfl rfl (am_ok_v mi_100 (am_hl rfl (am_ccR (am_vR_s e6).2 (am_ccI am_cats_0)) rfl) z7) (am_hc (am_ccR i0 am_cats_0) rfl) (fun _ => ⟨rfl, hh_117⟩) (fun o1 hz9 => rm_100 v5 x5 h o1 (am_vR_s e6).2 hz9) ?_
          rcases am_cI_s hs2 with ⟨v8, h9, f10, hs3⟩ | hs3
          · clear hs2
            refine Or.inl ⟨_, _, f10, ?_⟩
            show am_W X _ 117 160 _ [(.int v8), x0] h9 _
            refine aw_iload_n (pc1 := 161) at_117_160 l2 rfl ?_
            refine aw_iconst (v := 1) (pc1 := 162) at_117_161 (by decide) rfl ?_
            refine aw_iadd (v := (x2 + 1)) (pc1 := 163) at_117_162 rfl rfl ?_
            obtain ⟨z11, hs4⟩ := am_ift hs3
            clear hs3
            refine aw_call (F := rc_117 x0 v8 ((x2 + 1)) h9) (t := true) (na := 3) (kd := 1) (as := [x0, (.int v8), (.int (x2 + 1))]) at_117_163 (am_k3v kb_117) mn_117 mk_117 rfl rfl (am_ok_v mi_117 (am_hl rfl (am_ccR i0 (am_ccI (am_ccI am_cats_0))) rfl) z11) (am_hc am_cats_0 rfl) (fun _ => ⟨rfl, hh_117⟩) (fun o1 hz9 => qc_117 x0 v8 ((x2 + 1)) h9 o1 i0 hz9) ?_
            rcases am_cI_s hs4 with ⟨v12, h13, f14, hs5⟩ | hs5
            · clear hs4
              refine Or.inl ⟨_, _, f14, ?_⟩
              show am_W X _ 117 166 _ [(.int v12)] h13 _
              cases hs5
              exact aw_iret at_117_166 (by rw [rt_117]; rfl) rfl
            · clear hs4
              exact Or.inr hs5
          · clear hs2
            exact Or.inr hs3
    · rw [if_neg c2] at hs
      refine aw_icne_f (pc1 := 129) at_117_126 c2 rfl ?_
      refine aw_vload_n (pc1 := 130) at_117_129 l0 i0 rfl ?_
      refine aw_iload (pc1 := 132) at_117_130 l4 rfl ?_
      refine aw_iload (pc1 := 134) at_117_132 l5 rfl ?_
      refine aw_iload_n (pc1 := 135) at_117_134 l2 rfl ?_
      obtain ⟨z15, hs6⟩ := am_ift hs
      clear hs
      refine aw_call (F := rc_121 x0 x4 x5 x2 h) (t := true) (na := 4) (kd := 1) (as := [x0, (.int x4), (.int x5), (.int x2)]) at_117_135 (am_k3v kb_121) mn_121 mk_121 rfl rfl (am_ok_v mi_121 (am_hl rfl (am_ccR i0 (am_ccI (am_ccI (am_ccI am_cats_0)))) rfl) z15) (am_hc am_cats_0 rfl) (fun _ => ⟨rfl, hh_117⟩) (fun o1 hz9 => qc_121 x0 x4 x5 x2 h o1 i0 hz9) ?_
      rcases am_cI_s hs6 with ⟨v16, h17, f18, hs7⟩ | hs7
      · clear hs6
        refine Or.inl ⟨_, _, f18, ?_⟩
        show am_W X _ 117 138 _ [(.int v16)] h17 _
        cases hs7
        exact aw_iret at_117_138 (by rw [rt_117]; rfl) rfl
      · clear hs6
        exact Or.inr hs7
  · rw [if_neg c1] at hs
    refine aw_icge_f (pc1 := 115) at_117_112 c1 rfl ?_
    refine aw_vload_n (pc1 := 116) at_117_115 l0 i0 rfl ?_
    refine aw_iload_n (pc1 := 117) at_117_116 l3 rfl ?_
    refine aw_iload (pc1 := 119) at_117_117 l4 rfl ?_
    obtain ⟨z19, hs8⟩ := am_ift hs
    clear hs
    refine aw_call (F := fm_120 x0 x3 x4 h) (t := true) (na := 3) (kd := 1) (as := [x0, (.int x3), (.int x4)]) at_117_119 (am_k3v kb_120) mn_120 mk_120 rfl rfl (am_ok_v mi_120 (am_hl rfl (am_ccR i0 (am_ccI (am_ccI am_cats_0))) rfl) z19) (am_hc am_cats_0 rfl) (fun _ => ⟨rfl, hh_117⟩) (fun o1 hz9 => rm_120 x0 x3 x4 h o1 i0 hz9) ?_
    rcases am_cI_s hs8 with ⟨v20, h21, f22, hs9⟩ | hs9
    · clear hs8
      refine Or.inl ⟨_, _, f22, ?_⟩
      show am_W X _ 117 122 _ [(.int v20)] h21 _
      cases hs9
      exact aw_iret at_117_122 (by rw [rt_117]; rfl) rfl
    · clear hs8
      exact Or.inr hs9
def fg_117_106 (N : Nat) (rc_117 : Value → Int32 → Int32 → am_H → Option am_O) (rc_121 : Value → Int32 → Int32 → Int32 → am_H → Option am_O) (x4 : Int32) (h : am_H) : Option am_O := some (.inl (some (.int x4), h))
theorem rg_117_106 {X : am_X} {d : Nat} {N : Nat} {rc_117 : Value → Int32 → Int32 → am_H → Option am_O} {rc_121 : Value → Int32 → Int32 → Int32 → am_H → Option am_O} (qc_117 : ∀ (y0 : Value) (y1 : Int32) (y2 : Int32) (h : am_H) (o : am_O), (am_isR y0 = true) → rc_117 y0 y1 y2 h = some o → am_W X (d + 1) 117 0 (am_args 0 [y0, .int y1, .int y2]) [] h (fun q => q = o)) (qc_121 : ∀ (y0 : Value) (y1 : Int32) (y2 : Int32) (y3 : Int32) (h : am_H) (o : am_O), (am_isR y0 = true) → rc_121 y0 y1 y2 y3 h = some o → am_W X (d + 1) 121 0 (am_args 0 [y0, .int y1, .int y2, .int y3]) [] h (fun q => q = o)) {lv : am_LV} (x4 : Int32) (h : am_H) (o : am_O) (l4 : lv.lookup 4 = some (.int x4)) (hs : fg_117_106 N rc_117 rc_121 x4 h = some o) : am_W X (d + 2) 117 106 lv [] h (fun q => q = o) := by
  unfold fg_117_106 at hs
  refine aw_iload (pc1 := 108) at_117_106 l4 rfl ?_
  cases hs
  exact aw_iret at_117_108 (by rw [rt_117]; rfl) rfl
def fg_117_95 (N : Nat) (rc_117 : Value → Int32 → Int32 → am_H → Option am_O) (rc_121 : Value → Int32 → Int32 → Int32 → am_H → Option am_O) (x0 : Value) (x2 : Int32) (x3 : Int32) (x4 : Int32) (x5 : Int32) (h : am_H) : Option am_O := (if ¬ x3 = 18 then (fg_117_109 N rc_117 rc_121 x0 x2 x3 x4 x5 h) else (if x4 = 0 then (fg_117_109 N rc_117 rc_121 x0 x2 x3 x4 x5 h) else (fg_117_106 N rc_117 rc_121 x4 h)))
theorem rg_117_95 {X : am_X} {d : Nat} {N : Nat} {rc_117 : Value → Int32 → Int32 → am_H → Option am_O} {rc_121 : Value → Int32 → Int32 → Int32 → am_H → Option am_O} (qc_117 : ∀ (y0 : Value) (y1 : Int32) (y2 : Int32) (h : am_H) (o : am_O), (am_isR y0 = true) → rc_117 y0 y1 y2 h = some o → am_W X (d + 1) 117 0 (am_args 0 [y0, .int y1, .int y2]) [] h (fun q => q = o)) (qc_121 : ∀ (y0 : Value) (y1 : Int32) (y2 : Int32) (y3 : Int32) (h : am_H) (o : am_O), (am_isR y0 = true) → rc_121 y0 y1 y2 y3 h = some o → am_W X (d + 1) 121 0 (am_args 0 [y0, .int y1, .int y2, .int y3]) [] h (fun q => q = o)) {lv : am_LV} (x0 : Value) (x2 : Int32) (x3 : Int32) (x4 : Int32) (x5 : Int32) (h : am_H) (o : am_O) (l0 : lv.lookup 0 = some x0) (l2 : lv.lookup 2 = some (.int x2)) (l3 : lv.lookup 3 = some (.int x3)) (l4 : lv.lookup 4 = some (.int x4)) (l5 : lv.lookup 5 = some (.int x5)) (i0 : am_isR x0 = true) (hs : fg_117_95 N rc_117 rc_121 x0 x2 x3 x4 x5 h = some o) : am_W X (d + 2) 117 95 lv [] h (fun q => q = o) := by
  unfold fg_117_95 at hs
  refine aw_iload_n (pc1 := 96) at_117_95 l3 rfl ?_
  refine aw_bipush (v := 18) (pc1 := 98) at_117_96 (by decide) rfl ?_
  by_cases c1 : ¬ x3 = 18
  · rw [if_pos c1] at hs
    refine aw_icne_t at_117_98 c1 ?_
    exact rg_117_109 qc_117 qc_121 x0 x2 x3 x4 x5 h o l0 l2 l3 l4 l5 i0 hs
  · rw [if_neg c1] at hs
    refine aw_icne_f (pc1 := 101) at_117_98 c1 rfl ?_
    refine aw_iload (pc1 := 103) at_117_101 l4 rfl ?_
    by_cases c2 : x4 = 0
    · rw [if_pos c2] at hs
      refine aw_ifeq_t at_117_103 c2 ?_
      exact rg_117_109 qc_117 qc_121 x0 x2 x3 x4 x5 h o l0 l2 l3 l4 l5 i0 hs
    · rw [if_neg c2] at hs
      refine aw_ifeq_f (pc1 := 106) at_117_103 c2 rfl ?_
      exact rg_117_106 qc_117 qc_121 x4 h o l4  hs
def fg_117_20 (N : Nat) (rc_117 : Value → Int32 → Int32 → am_H → Option am_O) (rc_121 : Value → Int32 → Int32 → Int32 → am_H → Option am_O) (h : am_H) : Option am_O := some (.inl (some (.int 0), h))
theorem rg_117_20 {X : am_X} {d : Nat} {N : Nat} {rc_117 : Value → Int32 → Int32 → am_H → Option am_O} {rc_121 : Value → Int32 → Int32 → Int32 → am_H → Option am_O} (qc_117 : ∀ (y0 : Value) (y1 : Int32) (y2 : Int32) (h : am_H) (o : am_O), (am_isR y0 = true) → rc_117 y0 y1 y2 h = some o → am_W X (d + 1) 117 0 (am_args 0 [y0, .int y1, .int y2]) [] h (fun q => q = o)) (qc_121 : ∀ (y0 : Value) (y1 : Int32) (y2 : Int32) (y3 : Int32) (h : am_H) (o : am_O), (am_isR y0 = true) → rc_121 y0 y1 y2 y3 h = some o → am_W X (d + 1) 121 0 (am_args 0 [y0, .int y1, .int y2, .int y3]) [] h (fun q => q = o)) {lv : am_LV} (h : am_H) (o : am_O) (hs : fg_117_20 N rc_117 rc_121 h = some o) : am_W X (d + 2) 117 20 lv [] h (fun q => q = o) := by
  unfold fg_117_20 at hs
  refine aw_iconst (v := 0) (pc1 := 21) at_117_20 (by decide) rfl ?_
  cases hs
  exact aw_iret at_117_21 (by rw [rt_117]; rfl) rfl
def fg_117_0 (N : Nat) (rc_117 : Value → Int32 → Int32 → am_H → Option am_O) (rc_121 : Value → Int32 → Int32 → Int32 → am_H → Option am_O) (x0 : Value) (x1 : Int32) (x2 : Int32) (h : am_H) : Option am_O := (if 12 < x2 then (fg_117_20 N rc_117 rc_121 h) else ((am_vI (am_pG 1537 x0 h)).bind fun v2 => (if ¬ v2 = 0 then (fg_117_20 N rc_117 rc_121 h) else (if am_pOk 6 x0 h then am_cI true (fm_118 x0 h) (fun v6 h7 => (if ¬ v6 = 0 then ((am_vR (am_pG 1540 x0 h7)).bind fun v10 => (if am_pOk 3 v10 h7 then am_cI true (fm_54 v10 x1 0 h7) (fun v13 h14 => (if 7 ≤ v13 then (if am_pOk 6 x0 h14 then am_cI true (rc_117 x0 ((x1 + 1)) ((x2 + 1)) h14) (fun v18 h19 => ((am_vR (am_pG 1541 x0 h19)).bind fun v21 => (if am_pOk 7 v21 h19 then am_cI true (fm_100 v21 ((x1 + 1)) h19) (fun v24 h25 => ((am_vI (am_pG 1537 x0 h25)).bind fun v27 => (if ¬ v27 = 0 then (fg_117_106 N rc_117 rc_121 v18 h25) else (if ¬ v13 = 17 then (fg_117_95 N rc_117 rc_121 x0 x2 v13 v18 v24 h25) else (if v18 = 0 then (fg_117_106 N rc_117 rc_121 v18 h25) else (fg_117_95 N rc_117 rc_121 x0 x2 v13 v18 v24 h25)))))) else none))) else none) else ((am_vR (am_pG 1540 x0 h14)).bind fun v32 => (if am_pOk 3 v32 h14 then am_cI true (fm_54 v32 x1 1 h14) (fun v35 h36 => (if am_pOk 6 x0 h36 then am_cI true (fm_119 x0 v13 v35 h36) (fun v39 h40 => some (.inl (some (.int v39), h40))) else none)) else none)))) else none)) else (fg_117_20 N rc_117 rc_121 h7))) else none))))
theorem rg_117_0 {X : am_X} {d : Nat} {N : Nat} {rc_117 : Value → Int32 → Int32 → am_H → Option am_O} {rc_121 : Value → Int32 → Int32 → Int32 → am_H → Option am_O} (qc_117 : ∀ (y0 : Value) (y1 : Int32) (y2 : Int32) (h : am_H) (o : am_O), (am_isR y0 = true) → rc_117 y0 y1 y2 h = some o → am_W X (d + 1) 117 0 (am_args 0 [y0, .int y1, .int y2]) [] h (fun q => q = o)) (qc_121 : ∀ (y0 : Value) (y1 : Int32) (y2 : Int32) (y3 : Int32) (h : am_H) (o : am_O), (am_isR y0 = true) → rc_121 y0 y1 y2 y3 h = some o → am_W X (d + 1) 121 0 (am_args 0 [y0, .int y1, .int y2, .int y3]) [] h (fun q => q = o)) {lv : am_LV} (x0 : Value) (x1 : Int32) (x2 : Int32) (h : am_H) (o : am_O) (l0 : lv.lookup 0 = some x0) (l1 : lv.lookup 1 = some (.int x1)) (l2 : lv.lookup 2 = some (.int x2)) (i0 : am_isR x0 = true) (hs : fg_117_0 N rc_117 rc_121 x0 x1 x2 h = some o) : am_W X (d + 2) 117 0 lv [] h (fun q => q = o) := by
  unfold fg_117_0 at hs
  refine aw_iload_n (pc1 := 1) at_117_0 l2 rfl ?_
  refine aw_bipush (v := 12) (pc1 := 3) at_117_1 (by decide) rfl ?_
  by_cases c1 : 12 < x2
  · rw [if_pos c1] at hs
    refine aw_icgt_t at_117_3 c1 ?_
    exact rg_117_20 qc_117 qc_121 h o   hs
  · rw [if_neg c1] at hs
    refine aw_icgt_f (pc1 := 6) at_117_3 c1 rfl ?_
    refine aw_vload_n (pc1 := 7) at_117_6 l0 i0 rfl ?_
    obtain ⟨v2, e3, hs1⟩ := am_bind hs
    clear hs
    refine aw_pG (pc1 := 10) at_117_7 (am_vI_s e3) rfl ?_
    by_cases c4 : ¬ v2 = 0
    · rw [if_pos c4] at hs1
      refine aw_ifne_t at_117_10 c4 ?_
      exact rg_117_20 qc_117 qc_121 h o   hs1
    · rw [if_neg c4] at hs1
      refine aw_ifne_f (pc1 := 13) at_117_10 c4 rfl ?_
      refine aw_vload_n (pc1 := 14) at_117_13 l0 i0 rfl ?_
      obtain ⟨z5, hs2⟩ := am_ift hs1
      clear hs1
      refine aw_call (F := fm_118 x0 h) (t := true) (na := 1) (kd := 1) (as := [x0]) at_117_14 (am_k3v kb_118) mn_118 mk_118 rfl rfl (am_ok_v mi_118 (am_hl rfl (am_ccR i0 am_cats_0) rfl) z5) (am_hc am_cats_0 rfl) (fun _ => ⟨rfl, hh_117⟩) (fun o1 hz9 => rm_118 x0 h o1 i0 hz9) ?_
      rcases am_cI_s hs2 with ⟨v6, h7, f8, hs3⟩ | hs3
      · clear hs2
        refine Or.inl ⟨_, _, f8, ?_⟩
        show am_W X _ 117 17 _ [(.int v6)] h7 _
        by_cases c9 : ¬ v6 = 0
        · rw [if_pos c9] at hs3
          refine aw_ifne_t at_117_17 c9 ?_
          refine aw_vload_n (pc1 := 23) at_117_22 l0 i0 rfl ?_
          obtain ⟨v10, e11, hs4⟩ := am_bind hs3
          clear hs3
          refine aw_pG (pc1 := 26) at_117_23 (am_vR_s e11).1 rfl ?_
          refine aw_iload_n (pc1 := 27) at_117_26 l1 rfl ?_
          refine aw_iconst (v := 0) (pc1 := 28) at_117_27 (by decide) rfl ?_
          obtain ⟨z12, hs5⟩ := am_ift hs4
          clear hs4
          refine aw_call (F := fm_54 v10 x1 0 h7) (t := true) (na := 3) (kd := 1) (as := [v10, (.int x1), (.int 0)]) at_117_28 (am_k3v kb_54) mn_54 mk_54 rfl rfl (am_ok_v mi_54 (am_hl rfl (am_ccR (am_vR_s e11).2 (am_ccI (am_ccI am_cats_0))) rfl) z12) (am_hc am_cats_0 rfl) (fun _ => ⟨rfl, hh_117⟩) (fun o1 hz9 => rm_54 v10 x1 0 h7 o1 (am_vR_s e11).2 hz9) ?_
          rcases am_cI_s hs5 with ⟨v13, h14, f15, hs6⟩ | hs6
          · clear hs5
            refine Or.inl ⟨_, _, f15, ?_⟩
            show am_W X _ 117 31 _ [(.int v13)] h14 _
            refine aw_istore_n (lv1 := am_put1 _ 3 _) (pc1 := 32) at_117_31 rfl rfl ?_
            refine aw_iload_n (pc1 := 33) at_117_32 am_lk0 rfl ?_
            refine aw_bipush (v := 7) (pc1 := 35) at_117_33 (by decide) rfl ?_
            by_cases c16 : 7 ≤ v13
            · rw [if_pos c16] at hs6
              refine aw_icge_t at_117_35 c16 ?_
              refine aw_vload_n (pc1 := 54) at_117_53 (am_lk1 l0 rfl rfl) i0 rfl ?_
              refine aw_iload_n (pc1 := 55) at_117_54 (am_lk1 l1 rfl rfl) rfl ?_
              refine aw_iconst (v := 1) (pc1 := 56) at_117_55 (by decide) rfl ?_
              refine aw_iadd (v := (x1 + 1)) (pc1 := 57) at_117_56 rfl rfl ?_
              refine aw_iload_n (pc1 := 58) at_117_57 (am_lk1 l2 rfl rfl) rfl ?_
              refine aw_iconst (v := 1) (pc1 := 59) at_117_58 (by decide) rfl ?_
              refine aw_iadd (v := (x2 + 1)) (pc1 := 60) at_117_59 rfl rfl ?_
              obtain ⟨z17, hs7⟩ := am_ift hs6
              clear hs6
              refine aw_call (F := rc_117 x0 ((x1 + 1)) ((x2 + 1)) h14) (t := true) (na := 3) (kd := 1) (as := [x0, (.int (x1 + 1)), (.int (x2 + 1))]) at_117_60 (am_k3v kb_117) mn_117 mk_117 rfl rfl (am_ok_v mi_117 (am_hl rfl (am_ccR i0 (am_ccI (am_ccI am_cats_0))) rfl) z17) (am_hc am_cats_0 rfl) (fun _ => ⟨rfl, hh_117⟩) (fun o1 hz9 => qc_117 x0 ((x1 + 1)) ((x2 + 1)) h14 o1 i0 hz9) ?_
              rcases am_cI_s hs7 with ⟨v18, h19, f20, hs8⟩ | hs8
              · clear hs7
                refine Or.inl ⟨_, _, f20, ?_⟩
                show am_W X _ 117 63 _ [(.int v18)] h19 _
                refine aw_istore (lv1 := am_put1 _ 4 _) (pc1 := 65) at_117_63 rfl rfl ?_
                refine aw_vload_n (pc1 := 66) at_117_65 (am_lk1 (am_lk1 l0 rfl rfl) rfl rfl) i0 rfl ?_
                obtain ⟨v21, e22, hs9⟩ := am_bind hs8
                clear hs8
                refine aw_pG (pc1 := 69) at_117_66 (am_vR_s e22).1 rfl ?_
                refine aw_iload_n (pc1 := 70) at_117_69 (am_lk1 (am_lk1 l1 rfl rfl) rfl rfl) rfl ?_
                refine aw_iconst (v := 1) (pc1 := 71) at_117_70 (by decide) rfl ?_
                refine aw_iadd (v := (x1 + 1)) (pc1 := 72) at_117_71 rfl rfl ?_
                obtain ⟨z23, hs10⟩ := am_ift hs9
                clear hs9
                refine aw_call (F := fm_100 v21 ((x1 + 1)) h19) (t := true) (na := 2) (kd := 1) (as := [v21, (.int (x1 + 1))]) at_117_72 (am_k3v kb_100) mn_100 mk_100 rfl rfl (am_ok_v mi_100 (am_hl rfl (am_ccR (am_vR_s e22).2 (am_ccI am_cats_0)) rfl) z23) (am_hc am_cats_0 rfl) (fun _ => ⟨rfl, hh_117⟩) (fun o1 hz9 => rm_100 v21 ((x1 + 1)) h19 o1 (am_vR_s e22).2 hz9) ?_
                rcases am_cI_s hs10 with ⟨v24, h25, f26, hs11⟩ | hs11
                · clear hs10
                  refine Or.inl ⟨_, _, f26, ?_⟩
                  show am_W X _ 117 75 _ [(.int v24)] h25 _
                  refine aw_istore (lv1 := am_put1 _ 5 _) (pc1 := 77) at_117_75 rfl rfl ?_
                  refine aw_vload_n (pc1 := 78) at_117_77 (am_lk1 (am_lk1 (am_lk1 l0 rfl rfl) rfl rfl) rfl rfl) i0 rfl ?_
                  obtain ⟨v27, e28, hs12⟩ := am_bind hs11
                  clear hs11
                  refine aw_pG (pc1 := 81) at_117_78 (am_vI_s e28) rfl ?_
                  by_cases c29 : ¬ v27 = 0
                  · rw [if_pos c29] at hs12
                    refine aw_ifne_t at_117_81 c29 ?_
                    exact rg_117_106 qc_117 qc_121 v18 h25 o (am_lk1 am_lk0 rfl rfl)  hs12
                  · rw [if_neg c29] at hs12
                    refine aw_ifne_f (pc1 := 84) at_117_81 c29 rfl ?_
                    refine aw_iload_n (pc1 := 85) at_117_84 (am_lk1 (am_lk1 am_lk0 rfl rfl) rfl rfl) rfl ?_
                    refine aw_bipush (v := 17) (pc1 := 87) at_117_85 (by decide) rfl ?_
                    by_cases c30 : ¬ v13 = 17
                    · rw [if_pos c30] at hs12
                      refine aw_icne_t at_117_87 c30 ?_
                      exact rg_117_95 qc_117 qc_121 x0 x2 v13 v18 v24 h25 o (am_lk1 (am_lk1 (am_lk1 l0 rfl rfl) rfl rfl) rfl rfl) (am_lk1 (am_lk1 (am_lk1 l2 rfl rfl) rfl rfl) rfl rfl) (am_lk1 (am_lk1 am_lk0 rfl rfl) rfl rfl) (am_lk1 am_lk0 rfl rfl) am_lk0 i0 hs12
                    · rw [if_neg c30] at hs12
                      refine aw_icne_f (pc1 := 90) at_117_87 c30 rfl ?_
                      refine aw_iload (pc1 := 92) at_117_90 (am_lk1 am_lk0 rfl rfl) rfl ?_
                      by_cases c31 : v18 = 0
                      · rw [if_pos c31] at hs12
                        refine aw_ifeq_t at_117_92 c31 ?_
                        exact rg_117_106 qc_117 qc_121 v18 h25 o (am_lk1 am_lk0 rfl rfl)  hs12
                      · rw [if_neg c31] at hs12
                        refine aw_ifeq_f (pc1 := 95) at_117_92 c31 rfl ?_
                        exact rg_117_95 qc_117 qc_121 x0 x2 v13 v18 v24 h25 o (am_lk1 (am_lk1 (am_lk1 l0 rfl rfl) rfl rfl) rfl rfl) (am_lk1 (am_lk1 (am_lk1 l2 rfl rfl) rfl rfl) rfl rfl) (am_lk1 (am_lk1 am_lk0 rfl rfl) rfl rfl) (am_lk1 am_lk0 rfl rfl) am_lk0 i0 hs12
                · clear hs10
                  exact Or.inr hs11
              · clear hs7
                exact Or.inr hs8
            · rw [if_neg c16] at hs6
              refine aw_icge_f (pc1 := 38) at_117_35 c16 rfl ?_
              refine aw_vload_n (pc1 := 39) at_117_38 (am_lk1 l0 rfl rfl) i0 rfl ?_
              refine aw_iload_n (pc1 := 40) at_117_39 am_lk0 rfl ?_
              refine aw_vload_n (pc1 := 41) at_117_40 (am_lk1 l0 rfl rfl) i0 rfl ?_
              obtain ⟨v32, e33, hs13⟩ := am_bind hs6
              clear hs6
              refine aw_pG (pc1 := 44) at_117_41 (am_vR_s e33).1 rfl ?_
              refine aw_iload_n (pc1 := 45) at_117_44 (am_lk1 l1 rfl rfl) rfl ?_
              refine aw_iconst (v := 1) (pc1 := 46) at_117_45 (by decide) rfl ?_
              obtain ⟨z34, hs14⟩ := am_ift hs13
              clear hs13
              refine aw_call (F := fm_54 v32 x1 1 h14) (t := true) (na := 3) (kd := 1) (as := [v32, (.int x1), (.int 1)]) at_117_46 (am_k3v kb_54) mn_54 mk_54 rfl rfl (am_ok_v mi_54 (am_hl rfl (am_ccR (am_vR_s e33).2 (am_ccI (am_ccI am_cats_0))) rfl) z34) (am_hc (am_ccI (am_ccR i0 am_cats_0)) rfl) (fun _ => ⟨rfl, hh_117⟩) (fun o1 hz9 => rm_54 v32 x1 1 h14 o1 (am_vR_s e33).2 hz9) ?_
              rcases am_cI_s hs14 with ⟨v35, h36, f37, hs15⟩ | hs15
              · clear hs14
                refine Or.inl ⟨_, _, f37, ?_⟩
                show am_W X _ 117 49 _ [(.int v35), (.int v13), x0] h36 _
                obtain ⟨z38, hs16⟩ := am_ift hs15
                clear hs15
                refine aw_call (F := fm_119 x0 v13 v35 h36) (t := true) (na := 3) (kd := 1) (as := [x0, (.int v13), (.int v35)]) at_117_49 (am_k3v kb_119) mn_119 mk_119 rfl rfl (am_ok_v mi_119 (am_hl rfl (am_ccR i0 (am_ccI (am_ccI am_cats_0))) rfl) z38) (am_hc am_cats_0 rfl) (fun _ => ⟨rfl, hh_117⟩) (fun o1 hz9 => rm_119 x0 v13 v35 h36 o1 i0 hz9) ?_
                rcases am_cI_s hs16 with ⟨v39, h40, f41, hs17⟩ | hs17
                · clear hs16
                  refine Or.inl ⟨_, _, f41, ?_⟩
                  show am_W X _ 117 52 _ [(.int v39)] h40 _
                  cases hs17
                  exact aw_iret at_117_52 (by rw [rt_117]; rfl) rfl
                · clear hs16
                  exact Or.inr hs17
              · clear hs14
                exact Or.inr hs15
          · clear hs5
            exact Or.inr hs6
        · rw [if_neg c9] at hs3
          refine aw_ifne_f (pc1 := 20) at_117_17 c9 rfl ?_
          exact rg_117_20 qc_117 qc_121 h7 o   hs3
      · clear hs2
        exact Or.inr hs3
def fo_117 (N : Nat) (rc_117 : Value → Int32 → Int32 → am_H → Option am_O) (rc_121 : Value → Int32 → Int32 → Int32 → am_H → Option am_O) (y0 : Value) (y1 : Int32) (y2 : Int32) (h : am_H) : Option am_O := fg_117_0 N rc_117 rc_121 y0 y1 y2 h
theorem ro_117 {X : am_X} {d : Nat} {N : Nat} {rc_117 : Value → Int32 → Int32 → am_H → Option am_O} {rc_121 : Value → Int32 → Int32 → Int32 → am_H → Option am_O} (qc_117 : ∀ (y0 : Value) (y1 : Int32) (y2 : Int32) (h : am_H) (o : am_O), (am_isR y0 = true) → rc_117 y0 y1 y2 h = some o → am_W X (d + 1) 117 0 (am_args 0 [y0, .int y1, .int y2]) [] h (fun q => q = o)) (qc_121 : ∀ (y0 : Value) (y1 : Int32) (y2 : Int32) (y3 : Int32) (h : am_H) (o : am_O), (am_isR y0 = true) → rc_121 y0 y1 y2 y3 h = some o → am_W X (d + 1) 121 0 (am_args 0 [y0, .int y1, .int y2, .int y3]) [] h (fun q => q = o)) (y0 : Value) (y1 : Int32) (y2 : Int32) (h : am_H) (o : am_O) (i0 : am_isR y0 = true) (hs : fo_117 N rc_117 rc_121 y0 y1 y2 h = some o) : am_W X (d + 2) 117 0 (am_args 0 [y0, .int y1, .int y2]) [] h (fun q => q = o) := by
  rw [am_args_R i0, am_args_I, am_args_I]
  exact rg_117_0 qc_117 qc_121 y0 y1 y2 h o rfl rfl rfl i0 hs
def fg_121_55 (N : Nat) (rc_117 : Value → Int32 → Int32 → am_H → Option am_O) (rc_121 : Value → Int32 → Int32 → Int32 → am_H → Option am_O) (x4 : Int32) (h : am_H) : Option am_O := some (.inl (some (.int x4), h))
theorem rg_121_55 {X : am_X} {d : Nat} {N : Nat} {rc_117 : Value → Int32 → Int32 → am_H → Option am_O} {rc_121 : Value → Int32 → Int32 → Int32 → am_H → Option am_O} (qc_117 : ∀ (y0 : Value) (y1 : Int32) (y2 : Int32) (h : am_H) (o : am_O), (am_isR y0 = true) → rc_117 y0 y1 y2 h = some o → am_W X (d + 1) 117 0 (am_args 0 [y0, .int y1, .int y2]) [] h (fun q => q = o)) (qc_121 : ∀ (y0 : Value) (y1 : Int32) (y2 : Int32) (y3 : Int32) (h : am_H) (o : am_O), (am_isR y0 = true) → rc_121 y0 y1 y2 y3 h = some o → am_W X (d + 1) 121 0 (am_args 0 [y0, .int y1, .int y2, .int y3]) [] h (fun q => q = o)) {lv : am_LV} (x4 : Int32) (h : am_H) (o : am_O) (l4 : lv.lookup 4 = some (.int x4)) (hs : fg_121_55 N rc_117 rc_121 x4 h = some o) : am_W X (d + 2) 121 55 lv [] h (fun q => q = o) := by
  unfold fg_121_55 at hs
  refine aw_iload (pc1 := 57) at_121_55 l4 rfl ?_
  cases hs
  exact aw_iret at_121_57 (by rw [rt_121]; rfl) rfl
def fg_121_6 (N : Nat) (rc_117 : Value → Int32 → Int32 → am_H → Option am_O) (rc_121 : Value → Int32 → Int32 → Int32 → am_H → Option am_O) : Nat → Value → Int32 → Int32 → Int32 → Int32 → am_H → Option am_O
  | 0 => fun _ _ _ _ _ _ => none
  | K + 1 => fun x0 x2 x3 x4 x5 h => ((am_vI (am_pG 1546 x0 h)).bind fun v1 => (if v1 ≤ x5 then (fg_121_55 N rc_117 rc_121 x4 h) else ((am_vI (am_pG 1537 x0 h)).bind fun v4 => (if ¬ v4 = 0 then (fg_121_55 N rc_117 rc_121 x4 h) else ((am_pP 1547 x0 (.int x4) h).bind fun h7 => ((am_vR (am_pG 1545 x0 h7)).bind fun v9 => ((am_pA 0 v9 x5 h7).bind fun v11 => ((am_pP 1548 x0 (.int v11) h7).bind fun h13 => (if am_pOk 6 x0 h13 then am_cI true (rc_117 x0 x2 ((x3 + 1)) h13) (fun v16 h17 => (fg_121_6 N rc_117 rc_121 K x0 x2 x3 v16 ((x5 + 1)) h17)) else none)))))))))
theorem rg_121_6 {X : am_X} {d : Nat} {N : Nat} {rc_117 : Value → Int32 → Int32 → am_H → Option am_O} {rc_121 : Value → Int32 → Int32 → Int32 → am_H → Option am_O} (qc_117 : ∀ (y0 : Value) (y1 : Int32) (y2 : Int32) (h : am_H) (o : am_O), (am_isR y0 = true) → rc_117 y0 y1 y2 h = some o → am_W X (d + 1) 117 0 (am_args 0 [y0, .int y1, .int y2]) [] h (fun q => q = o)) (qc_121 : ∀ (y0 : Value) (y1 : Int32) (y2 : Int32) (y3 : Int32) (h : am_H) (o : am_O), (am_isR y0 = true) → rc_121 y0 y1 y2 y3 h = some o → am_W X (d + 1) 121 0 (am_args 0 [y0, .int y1, .int y2, .int y3]) [] h (fun q => q = o)) : ∀ (K : Nat) (x0 : Value) (x2 : Int32) (x3 : Int32) (x4 : Int32) (x5 : Int32) (h : am_H) (o : am_O), fg_121_6 N rc_117 rc_121 K x0 x2 x3 x4 x5 h = some o → ∀ lv : am_LV, (lv.lookup 0 = some x0) → (lv.lookup 2 = some (.int x2)) → (lv.lookup 3 = some (.int x3)) → (lv.lookup 4 = some (.int x4)) → (lv.lookup 5 = some (.int x5)) → (am_isR x0 = true) → am_W X (d + 2) 121 6 lv [] h (fun q => q = o) := by
  intro K
  induction K with
  | zero => intro x0 x2 x3 x4 x5 h o hs; cases hs
  | succ K ih =>
    intro x0 x2 x3 x4 x5 h o hs lv l0 l2 l3 l4 l5 i0
    unfold fg_121_6 at hs
    refine aw_iload (pc1 := 8) at_121_6 l5 rfl ?_
    refine aw_vload_n (pc1 := 9) at_121_8 l0 i0 rfl ?_
    obtain ⟨v1, e2, hs1⟩ := am_bind hs
    clear hs
    refine aw_pG (pc1 := 12) at_121_9 (am_vI_s e2) rfl ?_
    by_cases c3 : v1 ≤ x5
    · rw [if_pos c3] at hs1
      refine aw_icge_t at_121_12 c3 ?_
      exact rg_121_55 qc_117 qc_121 x4 h o l4  hs1
    · rw [if_neg c3] at hs1
      refine aw_icge_f (pc1 := 15) at_121_12 c3 rfl ?_
      refine aw_vload_n (pc1 := 16) at_121_15 l0 i0 rfl ?_
      obtain ⟨v4, e5, hs2⟩ := am_bind hs1
      clear hs1
      refine aw_pG (pc1 := 19) at_121_16 (am_vI_s e5) rfl ?_
      by_cases c6 : ¬ v4 = 0
      · rw [if_pos c6] at hs2
        refine aw_ifne_t at_121_19 c6 ?_
        exact rg_121_55 qc_117 qc_121 x4 h o l4  hs2
      · rw [if_neg c6] at hs2
        refine aw_ifne_f (pc1 := 22) at_121_19 c6 rfl ?_
        refine aw_vload_n (pc1 := 23) at_121_22 l0 i0 rfl ?_
        refine aw_iload (pc1 := 25) at_121_23 l4 rfl ?_
        obtain ⟨h7, e8, hs3⟩ := am_bind hs2
        clear hs2
        refine aw_pP (pc1 := 28) at_121_25 e8 rfl ?_
        refine aw_vload_n (pc1 := 29) at_121_28 l0 i0 rfl ?_
        refine aw_vload_n (pc1 := 30) at_121_29 l0 i0 rfl ?_
        obtain ⟨v9, e10, hs4⟩ := am_bind hs3
        clear hs3
        refine aw_pG (pc1 := 33) at_121_30 (am_vR_s e10).1 rfl ?_
        refine aw_iload (pc1 := 35) at_121_33 l5 rfl ?_
        obtain ⟨v11, e12, hs5⟩ := am_bind hs4
        clear hs4
        refine aw_pA (pc1 := 36) at_121_35 (Or.inl ⟨rfl, rfl⟩) e12 rfl ?_
        obtain ⟨h13, e14, hs6⟩ := am_bind hs5
        clear hs5
        refine aw_pP (pc1 := 39) at_121_36 e14 rfl ?_
        refine aw_vload_n (pc1 := 40) at_121_39 l0 i0 rfl ?_
        refine aw_iload_n (pc1 := 41) at_121_40 l2 rfl ?_
        refine aw_iload_n (pc1 := 42) at_121_41 l3 rfl ?_
        refine aw_iconst (v := 1) (pc1 := 43) at_121_42 (by decide) rfl ?_
        refine aw_iadd (v := (x3 + 1)) (pc1 := 44) at_121_43 rfl rfl ?_
        obtain ⟨z15, hs7⟩ := am_ift hs6
        clear hs6
        refine aw_call (F := rc_117 x0 x2 ((x3 + 1)) h13) (t := true) (na := 3) (kd := 1) (as := [x0, (.int x2), (.int (x3 + 1))]) at_121_44 (am_k3v kb_117) mn_117 mk_117 rfl rfl (am_ok_v mi_117 (am_hl rfl (am_ccR i0 (am_ccI (am_ccI am_cats_0))) rfl) z15) (am_hc am_cats_0 rfl) (fun _ => ⟨rfl, hh_121⟩) (fun o1 hz9 => qc_117 x0 x2 ((x3 + 1)) h13 o1 i0 hz9) ?_
        rcases am_cI_s hs7 with ⟨v16, h17, f18, hs8⟩ | hs8
        · clear hs7
          refine Or.inl ⟨_, _, f18, ?_⟩
          show am_W X _ 121 47 _ [(.int v16)] h17 _
          refine aw_istore (lv1 := am_put1 _ 4 _) (pc1 := 49) at_121_47 rfl rfl ?_
          refine aw_iinc (v := (x5 + 1)) (c := 1) (lv1 := am_put1 _ 5 _) (pc1 := 52) at_121_49 (am_lk1 l5 rfl rfl) (by decide) rfl rfl rfl ?_
          refine aw_goto at_121_52 ?_
          exact ih x0 x2 x3 v16 ((x5 + 1)) h17 o hs8 _ (am_lk1 (am_lk1 l0 rfl rfl) rfl rfl) (am_lk1 (am_lk1 l2 rfl rfl) rfl rfl) (am_lk1 (am_lk1 l3 rfl rfl) rfl rfl) (am_lk1 am_lk0 rfl rfl) am_lk0 i0
        · clear hs7
          exact Or.inr hs8
def fg_121_0 (N : Nat) (rc_117 : Value → Int32 → Int32 → am_H → Option am_O) (rc_121 : Value → Int32 → Int32 → Int32 → am_H → Option am_O) (x0 : Value) (x1 : Int32) (x2 : Int32) (x3 : Int32) (h : am_H) : Option am_O := (fg_121_6 N rc_117 rc_121 N x0 x2 x3 x1 0 h)
theorem rg_121_0 {X : am_X} {d : Nat} {N : Nat} {rc_117 : Value → Int32 → Int32 → am_H → Option am_O} {rc_121 : Value → Int32 → Int32 → Int32 → am_H → Option am_O} (qc_117 : ∀ (y0 : Value) (y1 : Int32) (y2 : Int32) (h : am_H) (o : am_O), (am_isR y0 = true) → rc_117 y0 y1 y2 h = some o → am_W X (d + 1) 117 0 (am_args 0 [y0, .int y1, .int y2]) [] h (fun q => q = o)) (qc_121 : ∀ (y0 : Value) (y1 : Int32) (y2 : Int32) (y3 : Int32) (h : am_H) (o : am_O), (am_isR y0 = true) → rc_121 y0 y1 y2 y3 h = some o → am_W X (d + 1) 121 0 (am_args 0 [y0, .int y1, .int y2, .int y3]) [] h (fun q => q = o)) {lv : am_LV} (x0 : Value) (x1 : Int32) (x2 : Int32) (x3 : Int32) (h : am_H) (o : am_O) (l0 : lv.lookup 0 = some x0) (l1 : lv.lookup 1 = some (.int x1)) (l2 : lv.lookup 2 = some (.int x2)) (l3 : lv.lookup 3 = some (.int x3)) (i0 : am_isR x0 = true) (hs : fg_121_0 N rc_117 rc_121 x0 x1 x2 x3 h = some o) : am_W X (d + 2) 121 0 lv [] h (fun q => q = o) := by
  unfold fg_121_0 at hs
  refine aw_iload_n (pc1 := 1) at_121_0 l1 rfl ?_
  refine aw_istore (lv1 := am_put1 _ 4 _) (pc1 := 3) at_121_1 rfl rfl ?_
  refine aw_iconst (v := 0) (pc1 := 4) at_121_3 (by decide) rfl ?_
  refine aw_istore (lv1 := am_put1 _ 5 _) (pc1 := 6) at_121_4 rfl rfl ?_
  exact rg_121_6 qc_117 qc_121 N x0 x2 x3 x1 0 h o hs _ (am_lk1 (am_lk1 l0 rfl rfl) rfl rfl) (am_lk1 (am_lk1 l2 rfl rfl) rfl rfl) (am_lk1 (am_lk1 l3 rfl rfl) rfl rfl) (am_lk1 am_lk0 rfl rfl) am_lk0 i0
def fo_121 (N : Nat) (rc_117 : Value → Int32 → Int32 → am_H → Option am_O) (rc_121 : Value → Int32 → Int32 → Int32 → am_H → Option am_O) (y0 : Value) (y1 : Int32) (y2 : Int32) (y3 : Int32) (h : am_H) : Option am_O := fg_121_0 N rc_117 rc_121 y0 y1 y2 y3 h
theorem ro_121 {X : am_X} {d : Nat} {N : Nat} {rc_117 : Value → Int32 → Int32 → am_H → Option am_O} {rc_121 : Value → Int32 → Int32 → Int32 → am_H → Option am_O} (qc_117 : ∀ (y0 : Value) (y1 : Int32) (y2 : Int32) (h : am_H) (o : am_O), (am_isR y0 = true) → rc_117 y0 y1 y2 h = some o → am_W X (d + 1) 117 0 (am_args 0 [y0, .int y1, .int y2]) [] h (fun q => q = o)) (qc_121 : ∀ (y0 : Value) (y1 : Int32) (y2 : Int32) (y3 : Int32) (h : am_H) (o : am_O), (am_isR y0 = true) → rc_121 y0 y1 y2 y3 h = some o → am_W X (d + 1) 121 0 (am_args 0 [y0, .int y1, .int y2, .int y3]) [] h (fun q => q = o)) (y0 : Value) (y1 : Int32) (y2 : Int32) (y3 : Int32) (h : am_H) (o : am_O) (i0 : am_isR y0 = true) (hs : fo_121 N rc_117 rc_121 y0 y1 y2 y3 h = some o) : am_W X (d + 2) 121 0 (am_args 0 [y0, .int y1, .int y2, .int y3]) [] h (fun q => q = o) := by
  rw [am_args_R i0, am_args_I, am_args_I, am_args_I]
  exact rg_121_0 qc_117 qc_121 y0 y1 y2 y3 h o rfl rfl rfl rfl i0 hs
def gr_117 (N : Nat) : Nat → Nat → List Value → am_H → Option am_O
  | 0 => fun _ _ _ => none
  | K + 1 => fun w as h => match w, as with
    | 117, [y0, .int y1, .int y2] => fo_117 N (fun y0 y1 y2 h => gr_117 N K 117 [y0, .int y1, .int y2] h) (fun y0 y1 y2 y3 h => gr_117 N K 121 [y0, .int y1, .int y2, .int y3] h) y0 y1 y2 h
    | 121, [y0, .int y1, .int y2, .int y3] => fo_121 N (fun y0 y1 y2 h => gr_117 N K 117 [y0, .int y1, .int y2] h) (fun y0 y1 y2 y3 h => gr_117 N K 121 [y0, .int y1, .int y2, .int y3] h) y0 y1 y2 y3 h
    | _, _ => none
theorem gs_117 {X : am_X} {d N : Nat} : ∀ K : Nat, (∀ (y0 : Value) (y1 : Int32) (y2 : Int32) (h : am_H) (o : am_O), (am_isR y0 = true) → gr_117 N K 117 [y0, .int y1, .int y2] h = some o → am_W X (d + 2 * K) 117 0 (am_args 0 [y0, .int y1, .int y2]) [] h (fun q => q = o)) ∧ (∀ (y0 : Value) (y1 : Int32) (y2 : Int32) (y3 : Int32) (h : am_H) (o : am_O), (am_isR y0 = true) → gr_117 N K 121 [y0, .int y1, .int y2, .int y3] h = some o → am_W X (d + 2 * K) 121 0 (am_args 0 [y0, .int y1, .int y2, .int y3]) [] h (fun q => q = o)) := by
  intro K
  induction K with
  | zero => exact ⟨fun _ _ _ h o _ hs => (by cases hs), fun _ _ _ _ h o _ hs => (by cases hs)⟩
  | succ K ih =>
    obtain ⟨q117, q121⟩ := ih
    have up : d + 2 * K ≤ d + 2 * K + 1 := Nat.le_add_right _ _
    have eD : d + 2 * (K + 1) = d + 2 * K + 2 := by rw [Nat.mul_succ, Nat.add_assoc]
    rw [eD]
    refine ⟨?_, ?_⟩
    · intro y0 y1 y2 h o i0 hs
      exact ro_117 (fun w0 w1 w2 h o k0 hs => (q117 w0 w1 w2 h o k0 hs).up up) (fun w0 w1 w2 w3 h o k0 hs => (q121 w0 w1 w2 w3 h o k0 hs).up up) y0 y1 y2 h o i0 hs
    · intro y0 y1 y2 y3 h o i0 hs
      exact ro_121 (fun w0 w1 w2 h o k0 hs => (q117 w0 w1 w2 h o k0 hs).up up) (fun w0 w1 w2 w3 h o k0 hs => (q121 w0 w1 w2 w3 h o k0 hs).up up) y0 y1 y2 y3 h o i0 hs
def fm_117 (N : Nat) (y0 : Value) (y1 : Int32) (y2 : Int32) (h : am_H) : Option am_O := gr_117 N 40 117 [y0, .int y1, .int y2] h
theorem rm_117 {X : am_X} {d : Nat} {N : Nat} (y0 : Value) (y1 : Int32) (y2 : Int32) (h : am_H) (o : am_O) (i0 : am_isR y0 = true) (hs : fm_117 N y0 y1 y2 h = some o) : am_W X (d + 80) 117 0 (am_args 0 [y0, .int y1, .int y2]) [] h (fun q => q = o) := (gs_117 (X := X) (d := d) (N := N) 40).1 y0 y1 y2 h o i0 hs
def fm_121 (N : Nat) (y0 : Value) (y1 : Int32) (y2 : Int32) (y3 : Int32) (h : am_H) : Option am_O := gr_117 N 40 121 [y0, .int y1, .int y2, .int y3] h
theorem rm_121 {X : am_X} {d : Nat} {N : Nat} (y0 : Value) (y1 : Int32) (y2 : Int32) (y3 : Int32) (h : am_H) (o : am_O) (i0 : am_isR y0 = true) (hs : fm_121 N y0 y1 y2 y3 h = some o) : am_W X (d + 80) 121 0 (am_args 0 [y0, .int y1, .int y2, .int y3]) [] h (fun q => q = o) := (gs_117 (X := X) (d := d) (N := N) 40).2 y0 y1 y2 y3 h o i0 hs
def fg_123_370 (N : Nat) (s0 : Int32) (h : am_H) : Option am_O := some (.inl (some (.int s0), h))
theorem rg_123_370 {X : am_X} {d : Nat} {N : Nat} {lv : am_LV} (s0 : Int32) (h : am_H) (o : am_O) (hs : fg_123_370 N s0 h = some o) : am_W X (d + 1) 123 370 lv [(.int s0)] h (fun q => q = o) := by
  unfold fg_123_370 at hs
  cases hs
  exact aw_iret at_123_370 (by rw [rt_123]; rfl) rfl
def fg_123_348 (N : Nat) (x0 : Value) (h : am_H) : Option am_O := ((am_vI (am_pG 1550 x0 h)).bind fun v1 => (if v1 ≤ 0 then (fg_123_370 N 0 h) else ((am_vR (am_pG 1549 x0 h)).bind fun v4 => ((am_vI (am_pG 1550 x0 h)).bind fun v6 => ((am_pA 0 v4 (v6 - 1) h).bind fun v8 => (fg_123_370 N v8 h))))))
theorem rg_123_348 {X : am_X} {d : Nat} {N : Nat} {lv : am_LV} (x0 : Value) (h : am_H) (o : am_O) (l0 : lv.lookup 0 = some x0) (i0 : am_isR x0 = true) (hs : fg_123_348 N x0 h = some o) : am_W X (d + 1) 123 348 lv [] h (fun q => q = o) := by
  unfold fg_123_348 at hs
  refine aw_vload_n (pc1 := 349) at_123_348 l0 i0 rfl ?_
  obtain ⟨v1, e2, hs1⟩ := am_bind hs
  clear hs
  refine aw_pG (pc1 := 352) at_123_349 (am_vI_s e2) rfl ?_
  by_cases c3 : v1 ≤ 0
  · rw [if_pos c3] at hs1
    refine aw_ifle_t at_123_352 c3 ?_
    refine aw_iconst (v := 0) (pc1 := 370) at_123_369 (by decide) rfl ?_
    exact rg_123_370 0 h o   hs1
  · rw [if_neg c3] at hs1
    refine aw_ifle_f (pc1 := 355) at_123_352 c3 rfl ?_
    refine aw_vload_n (pc1 := 356) at_123_355 l0 i0 rfl ?_
    obtain ⟨v4, e5, hs2⟩ := am_bind hs1
    clear hs1
    refine aw_pG (pc1 := 359) at_123_356 (am_vR_s e5).1 rfl ?_
    refine aw_vload_n (pc1 := 360) at_123_359 l0 i0 rfl ?_
    obtain ⟨v6, e7, hs3⟩ := am_bind hs2
    clear hs2
    refine aw_pG (pc1 := 363) at_123_360 (am_vI_s e7) rfl ?_
    refine aw_iconst (v := 1) (pc1 := 364) at_123_363 (by decide) rfl ?_
    refine aw_isub (v := (v6 - 1)) (pc1 := 365) at_123_364 rfl rfl ?_
    obtain ⟨v8, e9, hs4⟩ := am_bind hs3
    clear hs3
    refine aw_pA (pc1 := 366) at_123_365 (Or.inl ⟨rfl, rfl⟩) e9 rfl ?_
    refine aw_goto at_123_366 ?_
    exact rg_123_370 v8 h o   hs4
def fg_123_340 (N : Nat) (rec_9 : Value → Int32 → Int32 → am_H → Option am_O) (x0 : Value) (x2 : Int32) (s0 : Int32) (s1 : Int32) (h : am_H) : Option am_O := (rec_9 x0 ((s0 + s1)) ((x2 + 1)) h)
theorem rg_123_340 {X : am_X} {d : Nat} {N : Nat} {rec_9 : Value → Int32 → Int32 → am_H → Option am_O} (q_9 : ∀ (x0 : Value) (x1 : Int32) (x2 : Int32) (h : am_H) (o : am_O), rec_9 x0 x1 x2 h = some o → ∀ lv : am_LV, (lv.lookup 0 = some x0) → (lv.lookup 1 = some (.int x1)) → (lv.lookup 2 = some (.int x2)) → (am_isR x0 = true) → am_W X (d + 1) 123 9 lv [] h (fun q => q = o)) {lv : am_LV} (x0 : Value) (x2 : Int32) (s0 : Int32) (s1 : Int32) (h : am_H) (o : am_O) (l0 : lv.lookup 0 = some x0) (l2 : lv.lookup 2 = some (.int x2)) (i0 : am_isR x0 = true) (hs : fg_123_340 N rec_9 x0 x2 s0 s1 h = some o) : am_W X (d + 1) 123 340 lv [(.int s1), (.int s0)] h (fun q => q = o) := by
  unfold fg_123_340 at hs
  refine aw_iadd (v := (s0 + s1)) (pc1 := 341) at_123_340 rfl rfl ?_
  refine aw_istore_n (lv1 := am_put1 _ 1 _) (pc1 := 342) at_123_341 rfl rfl ?_
  refine aw_iinc (v := (x2 + 1)) (c := 1) (lv1 := am_put1 _ 2 _) (pc1 := 345) at_123_342 (am_lk1 l2 rfl rfl) (by decide) rfl rfl rfl ?_
  refine aw_goto at_123_345 ?_
  exact q_9 x0 ((s0 + s1)) ((x2 + 1)) h o hs _ (am_lk1 (am_lk1 l0 rfl (by rw [am_isRc i0]; rfl)) rfl rfl) (am_lk1 am_lk0 rfl rfl) am_lk0 i0
def fg_123_324 (N : Nat) (rec_9 : Value → Int32 → Int32 → am_H → Option am_O) (x0 : Value) (x1 : Int32) (x2 : Int32) (x4 : Int32) (s0 : Int32) (h : am_H) : Option am_O := (if s0 = 0 then (fg_123_340 N rec_9 x0 x2 x1 1 h) else (fg_123_340 N rec_9 x0 x2 x1 ((1 + x4)) h))
theorem rg_123_324 {X : am_X} {d : Nat} {N : Nat} {rec_9 : Value → Int32 → Int32 → am_H → Option am_O} (q_9 : ∀ (x0 : Value) (x1 : Int32) (x2 : Int32) (h : am_H) (o : am_O), rec_9 x0 x1 x2 h = some o → ∀ lv : am_LV, (lv.lookup 0 = some x0) → (lv.lookup 1 = some (.int x1)) → (lv.lookup 2 = some (.int x2)) → (am_isR x0 = true) → am_W X (d + 1) 123 9 lv [] h (fun q => q = o)) {lv : am_LV} (x0 : Value) (x1 : Int32) (x2 : Int32) (x4 : Int32) (s0 : Int32) (h : am_H) (o : am_O) (l0 : lv.lookup 0 = some x0) (l1 : lv.lookup 1 = some (.int x1)) (l2 : lv.lookup 2 = some (.int x2)) (l4 : lv.lookup 4 = some (.int x4)) (i0 : am_isR x0 = true) (hs : fg_123_324 N rec_9 x0 x1 x2 x4 s0 h = some o) : am_W X (d + 1) 123 324 lv [(.int s0)] h (fun q => q = o) := by
  unfold fg_123_324 at hs
  refine aw_istore (lv1 := am_put1 _ 5 _) (pc1 := 326) at_123_324 rfl rfl ?_
  refine aw_iload_n (pc1 := 327) at_123_326 (am_lk1 l1 rfl rfl) rfl ?_
  refine aw_iload (pc1 := 329) at_123_327 am_lk0 rfl ?_
  by_cases c1 : s0 = 0
  · rw [if_pos c1] at hs
    refine aw_ifeq_t at_123_329 c1 ?_
    refine aw_iconst (v := 1) (pc1 := 340) at_123_339 (by decide) rfl ?_
    exact rg_123_340 q_9 x0 x2 x1 1 h o (am_lk1 l0 rfl rfl) (am_lk1 l2 rfl rfl) i0 hs
  · rw [if_neg c1] at hs
    refine aw_ifeq_f (pc1 := 332) at_123_329 c1 rfl ?_
    refine aw_iconst (v := 1) (pc1 := 333) at_123_332 (by decide) rfl ?_
    refine aw_iload (pc1 := 335) at_123_333 (am_lk1 l4 rfl rfl) rfl ?_
    refine aw_iadd (v := (1 + x4)) (pc1 := 336) at_123_335 rfl rfl ?_
    refine aw_goto at_123_336 ?_
    exact rg_123_340 q_9 x0 x2 x1 ((1 + x4)) h o (am_lk1 l0 rfl rfl) (am_lk1 l2 rfl rfl) i0 hs
def fg_123_323 (N : Nat) (rec_9 : Value → Int32 → Int32 → am_H → Option am_O) (x0 : Value) (x1 : Int32) (x2 : Int32) (x4 : Int32) (h : am_H) : Option am_O := (fg_123_324 N rec_9 x0 x1 x2 x4 0 h)
theorem rg_123_323 {X : am_X} {d : Nat} {N : Nat} {rec_9 : Value → Int32 → Int32 → am_H → Option am_O} (q_9 : ∀ (x0 : Value) (x1 : Int32) (x2 : Int32) (h : am_H) (o : am_O), rec_9 x0 x1 x2 h = some o → ∀ lv : am_LV, (lv.lookup 0 = some x0) → (lv.lookup 1 = some (.int x1)) → (lv.lookup 2 = some (.int x2)) → (am_isR x0 = true) → am_W X (d + 1) 123 9 lv [] h (fun q => q = o)) {lv : am_LV} (x0 : Value) (x1 : Int32) (x2 : Int32) (x4 : Int32) (h : am_H) (o : am_O) (l0 : lv.lookup 0 = some x0) (l1 : lv.lookup 1 = some (.int x1)) (l2 : lv.lookup 2 = some (.int x2)) (l4 : lv.lookup 4 = some (.int x4)) (i0 : am_isR x0 = true) (hs : fg_123_323 N rec_9 x0 x1 x2 x4 h = some o) : am_W X (d + 1) 123 323 lv [] h (fun q => q = o) := by
  unfold fg_123_323 at hs
  refine aw_iconst (v := 0) (pc1 := 324) at_123_323 (by decide) rfl ?_
  exact rg_123_324 q_9 x0 x1 x2 x4 0 h o l0 l1 l2 l4 i0 hs
def fg_123_319 (N : Nat) (rec_9 : Value → Int32 → Int32 → am_H → Option am_O) (x0 : Value) (x1 : Int32) (x2 : Int32) (x4 : Int32) (h : am_H) : Option am_O := (fg_123_324 N rec_9 x0 x1 x2 x4 1 h)
theorem rg_123_319 {X : am_X} {d : Nat} {N : Nat} {rec_9 : Value → Int32 → Int32 → am_H → Option am_O} (q_9 : ∀ (x0 : Value) (x1 : Int32) (x2 : Int32) (h : am_H) (o : am_O), rec_9 x0 x1 x2 h = some o → ∀ lv : am_LV, (lv.lookup 0 = some x0) → (lv.lookup 1 = some (.int x1)) → (lv.lookup 2 = some (.int x2)) → (am_isR x0 = true) → am_W X (d + 1) 123 9 lv [] h (fun q => q = o)) {lv : am_LV} (x0 : Value) (x1 : Int32) (x2 : Int32) (x4 : Int32) (h : am_H) (o : am_O) (l0 : lv.lookup 0 = some x0) (l1 : lv.lookup 1 = some (.int x1)) (l2 : lv.lookup 2 = some (.int x2)) (l4 : lv.lookup 4 = some (.int x4)) (i0 : am_isR x0 = true) (hs : fg_123_319 N rec_9 x0 x1 x2 x4 h = some o) : am_W X (d + 1) 123 319 lv [] h (fun q => q = o) := by
  unfold fg_123_319 at hs
  refine aw_iconst (v := 1) (pc1 := 320) at_123_319 (by decide) rfl ?_
  refine aw_goto at_123_320 ?_
  exact rg_123_324 q_9 x0 x1 x2 x4 1 h o l0 l1 l2 l4 i0 hs
def fg_123_282 (N : Nat) (rec_9 : Value → Int32 → Int32 → am_H → Option am_O) (x0 : Value) (x1 : Int32) (x2 : Int32) (x3 : Int32) (x4 : Int32) (h : am_H) : Option am_O := ((am_vI (am_pG 1550 x0 h)).bind fun v1 => am_cI false (fm_55 x3 h) (fun v3 h4 => ((am_pP 1550 x0 (.int (v1 + v3)) h4).bind fun h6 => (if x3 = 17 then (fg_123_319 N rec_9 x0 x1 x2 x4 h6) else (if ¬ x3 = 18 then (fg_123_323 N rec_9 x0 x1 x2 x4 h6) else ((am_vR (am_pG 1549 x0 h6)).bind fun v10 => ((am_vI (am_pG 1550 x0 h6)).bind fun v12 => ((am_pA 0 v10 v12 h6).bind fun v14 => (if ¬ v14 = 0 then (fg_123_323 N rec_9 x0 x1 x2 x4 h6) else (fg_123_319 N rec_9 x0 x1 x2 x4 h6))))))))))
theorem rg_123_282 {X : am_X} {d : Nat} {N : Nat} {rec_9 : Value → Int32 → Int32 → am_H → Option am_O} (q_9 : ∀ (x0 : Value) (x1 : Int32) (x2 : Int32) (h : am_H) (o : am_O), rec_9 x0 x1 x2 h = some o → ∀ lv : am_LV, (lv.lookup 0 = some x0) → (lv.lookup 1 = some (.int x1)) → (lv.lookup 2 = some (.int x2)) → (am_isR x0 = true) → am_W X (d + 1) 123 9 lv [] h (fun q => q = o)) {lv : am_LV} (x0 : Value) (x1 : Int32) (x2 : Int32) (x3 : Int32) (x4 : Int32) (h : am_H) (o : am_O) (l0 : lv.lookup 0 = some x0) (l1 : lv.lookup 1 = some (.int x1)) (l2 : lv.lookup 2 = some (.int x2)) (l3 : lv.lookup 3 = some (.int x3)) (l4 : lv.lookup 4 = some (.int x4)) (i0 : am_isR x0 = true) (hs : fg_123_282 N rec_9 x0 x1 x2 x3 x4 h = some o) : am_W X (d + 1) 123 282 lv [] h (fun q => q = o) := by
  unfold fg_123_282 at hs
  refine aw_vload_n (pc1 := 283) at_123_282 l0 i0 rfl ?_
  refine aw_vdup (pc1 := 284) at_123_283 i0 rfl ?_
  obtain ⟨v1, e2, hs1⟩ := am_bind hs
  clear hs
  refine aw_pG (pc1 := 287) at_123_284 (am_vI_s e2) rfl ?_
  refine aw_iload_n (pc1 := 288) at_123_287 l3 rfl ?_
  refine aw_call (F := fm_55 x3 h) (t := false) (na := 1) (kd := 0) (as := [(.int x3)]) at_123_288 (am_k3s kb_55) mn_55 mk_55 rfl rfl (am_ok_s mi_55 (am_hl rfl (am_ccI am_cats_0) rfl)) (am_hc (am_ccI (am_ccR i0 am_cats_0)) rfl) (fun hz9 => by cases hz9) (fun o1 hz9 => rm_55 x3 h o1  hz9) ?_
  rcases am_cI_s hs1 with ⟨v3, h4, f5, hs2⟩ | hs2
  · clear hs1
    refine Or.inl ⟨_, _, f5, ?_⟩
    show am_W X _ 123 291 _ [(.int v3), (.int v1), x0] h4 _
    refine aw_iadd (v := (v1 + v3)) (pc1 := 292) at_123_291 rfl rfl ?_
    obtain ⟨h6, e7, hs3⟩ := am_bind hs2
    clear hs2
    refine aw_pP (pc1 := 295) at_123_292 e7 rfl ?_
    refine aw_iload_n (pc1 := 296) at_123_295 l3 rfl ?_
    refine aw_bipush (v := 17) (pc1 := 298) at_123_296 (by decide) rfl ?_
    by_cases c8 : x3 = 17
    · rw [if_pos c8] at hs3
      refine aw_iceq_t at_123_298 c8 ?_
      exact rg_123_319 q_9 x0 x1 x2 x4 h6 o l0 l1 l2 l4 i0 hs3
    · rw [if_neg c8] at hs3
      refine aw_iceq_f (pc1 := 301) at_123_298 c8 rfl ?_
      refine aw_iload_n (pc1 := 302) at_123_301 l3 rfl ?_
      refine aw_bipush (v := 18) (pc1 := 304) at_123_302 (by decide) rfl ?_
      by_cases c9 : ¬ x3 = 18
      · rw [if_pos c9] at hs3
        refine aw_icne_t at_123_304 c9 ?_
        exact rg_123_323 q_9 x0 x1 x2 x4 h6 o l0 l1 l2 l4 i0 hs3
      · rw [if_neg c9] at hs3
        refine aw_icne_f (pc1 := 307) at_123_304 c9 rfl ?_
        refine aw_vload_n (pc1 := 308) at_123_307 l0 i0 rfl ?_
        obtain ⟨v10, e11, hs4⟩ := am_bind hs3
        clear hs3
        refine aw_pG (pc1 := 311) at_123_308 (am_vR_s e11).1 rfl ?_
        refine aw_vload_n (pc1 := 312) at_123_311 l0 i0 rfl ?_
        obtain ⟨v12, e13, hs5⟩ := am_bind hs4
        clear hs4
        refine aw_pG (pc1 := 315) at_123_312 (am_vI_s e13) rfl ?_
        obtain ⟨v14, e15, hs6⟩ := am_bind hs5
        clear hs5
        refine aw_pA (pc1 := 316) at_123_315 (Or.inl ⟨rfl, rfl⟩) e15 rfl ?_
        by_cases c16 : ¬ v14 = 0
        · rw [if_pos c16] at hs6
          refine aw_ifne_t at_123_316 c16 ?_
          exact rg_123_323 q_9 x0 x1 x2 x4 h6 o l0 l1 l2 l4 i0 hs6
        · rw [if_neg c16] at hs6
          refine aw_ifne_f (pc1 := 319) at_123_316 c16 rfl ?_
          exact rg_123_319 q_9 x0 x1 x2 x4 h6 o l0 l1 l2 l4 i0 hs6
  · clear hs1
    exact Or.inr hs2
def fg_123_86 (N : Nat) (h : am_H) : Option am_O := some (.inl (some (.int 0), h))
theorem rg_123_86 {X : am_X} {d : Nat} {N : Nat} {lv : am_LV} (h : am_H) (o : am_O) (hs : fg_123_86 N h = some o) : am_W X (d + 1) 123 86 lv [] h (fun q => q = o) := by
  unfold fg_123_86 at hs
  refine aw_iconst (v := 0) (pc1 := 87) at_123_86 (by decide) rfl ?_
  cases hs
  exact aw_iret at_123_87 (by rw [rt_123]; rfl) rfl
def fg_123_9 (N : Nat) : Nat → Value → Int32 → Int32 → am_H → Option am_O
  | 0 => fun _ _ _ _ => none
  | K + 1 => fun x0 x1 x2 h => (if 60 ≤ x2 then (fg_123_348 N x0 h) else ((am_vR (am_pG 1540 x0 h)).bind fun v2 => ((am_vI (am_pG 771 v2 h)).bind fun v4 => (if v4 ≤ x1 then (fg_123_348 N x0 h) else ((am_vI (am_pG 1537 x0 h)).bind fun v7 => (if ¬ v7 = 0 then (fg_123_348 N x0 h) else ((am_vR (am_pG 1540 x0 h)).bind fun v10 => (if am_pOk 3 v10 h then am_cI true (fm_54 v10 x1 0 h) (fun v13 h14 => ((am_vR (am_pG 1540 x0 h14)).bind fun v16 => (if am_pOk 3 v16 h14 then am_cI true (fm_54 v16 x1 1 h14) (fun v19 h20 => ((am_vI (am_pG 1550 x0 h20)).bind fun v22 => am_cI false (fm_56 v13 h20) (fun v24 h25 => (if v22 < v24 then (fg_123_86 N h25) else ((am_vI (am_pG 1550 x0 h25)).bind fun v28 => am_cI false (fm_55 v13 h25) (fun v30 h31 => (if 8 < (v28 + v30) then (fg_123_86 N h31) else (if am_pOk 6 x0 h31 then am_cI true (fm_118 x0 h31) (fun v35 h36 => (if ¬ v35 = 0 then (if 4 < v13 then (if 6 < v13 then (if 13 < v13 then (if ¬ v13 = 14 then (if ¬ v13 = 15 then (fg_123_282 N (fg_123_9 N K) x0 x1 x2 v13 v19 h36) else ((am_vR (am_pG 1549 x0 h36)).bind fun v44 => ((am_vI (am_pG 1550 x0 h36)).bind fun v46 => ((am_pA 0 v44 (v46 - 1) h36).bind fun v48 => ((am_vR (am_pG 1549 x0 h36)).bind fun v50 => ((am_vI (am_pG 1550 x0 h36)).bind fun v52 => ((am_vR (am_pG 1549 x0 h36)).bind fun v54 => ((am_vI (am_pG 1550 x0 h36)).bind fun v56 => ((am_pA 0 v54 (v56 - 2) h36).bind fun v58 => ((am_pS 0 v50 (v52 - 1) v58 h36).bind fun h60 => ((am_vR (am_pG 1549 x0 h60)).bind fun v62 => ((am_vI (am_pG 1550 x0 h60)).bind fun v64 => ((am_pS 0 v62 (v64 - 2) v48 h60).bind fun h66 => (fg_123_282 N (fg_123_9 N K) x0 x1 x2 v13 v19 h66)))))))))))))) else ((am_vR (am_pG 1549 x0 h36)).bind fun v68 => ((am_vI (am_pG 1550 x0 h36)).bind fun v70 => ((am_vR (am_pG 1549 x0 h36)).bind fun v72 => ((am_vI (am_pG 1550 x0 h36)).bind fun v74 => ((am_pA 0 v72 (v74 - 1) h36).bind fun v76 => ((am_pS 0 v68 v70 v76 h36).bind fun h78 => (fg_123_282 N (fg_123_9 N K) x0 x1 x2 v13 v19 h78)))))))) else ((am_vR (am_pG 1549 x0 h36)).bind fun v80 => ((am_vI (am_pG 1550 x0 h36)).bind fun v82 => ((am_vR (am_pG 1549 x0 h36)).bind fun v84 => ((am_vI (am_pG 1550 x0 h36)).bind fun v86 => ((am_pA 0 v84 (v86 - 2) h36).bind fun v88 => ((am_vR (am_pG 1549 x0 h36)).bind fun v90 => ((am_vI (am_pG 1550 x0 h36)).bind fun v92 => ((am_pA 0 v90 (v92 - 1) h36).bind fun v94 => (if am_pOk 6 x0 h36 then am_cI true (fm_122 x0 ((v13 + 3)) v88 v94 h36) (fun v97 h98 => ((am_pS 0 v80 (v82 - 2) v97 h98).bind fun h100 => (fg_123_282 N (fg_123_9 N K) x0 x1 x2 v13 v19 h100))) else none)))))))))) else ((am_vR (am_pG 1549 x0 h36)).bind fun v102 => ((am_vI (am_pG 1550 x0 h36)).bind fun v104 => ((am_vR (am_pG 1549 x0 h36)).bind fun v106 => ((am_vI (am_pG 1550 x0 h36)).bind fun v108 => ((am_pA 0 v106 (v108 - 1) h36).bind fun v110 => (if am_pOk 6 x0 h36 then am_cI true (fm_120 x0 ((v13 + 2)) v110 h36) (fun v113 h114 => ((am_pS 0 v102 (v104 - 1) v113 h114).bind fun h116 => (fg_123_282 N (fg_123_9 N K) x0 x1 x2 v13 v19 h116))) else none))))))) else ((am_vR (am_pG 1549 x0 h36)).bind fun v118 => ((am_vI (am_pG 1550 x0 h36)).bind fun v120 => (if am_pOk 6 x0 h36 then am_cI true (fm_119 x0 v13 v19 h36) (fun v123 h124 => ((am_pS 0 v118 v120 v123 h124).bind fun h126 => (fg_123_282 N (fg_123_9 N K) x0 x1 x2 v13 v19 h126))) else none)))) else (fg_123_86 N h36))) else none)))))))) else none))) else none))))))))
theorem rg_123_9 {X : am_X} {d : Nat} {N : Nat} : ∀ (K : Nat) (x0 : Value) (x1 : Int32) (x2 : Int32) (h : am_H) (o : am_O), fg_123_9 N K x0 x1 x2 h = some o → ∀ lv : am_LV, (lv.lookup 0 = some x0) → (lv.lookup 1 = some (.int x1)) → (lv.lookup 2 = some (.int x2)) → (am_isR x0 = true) → am_W X (d + 1) 123 9 lv [] h (fun q => q = o) := by
  intro K
  induction K with
  | zero => intro x0 x1 x2 h o hs; cases hs
  | succ K ih =>
    intro x0 x1 x2 h o hs lv l0 l1 l2 i0
    unfold fg_123_9 at hs
    refine aw_iload_n (pc1 := 10) at_123_9 l2 rfl ?_
    refine aw_bipush (v := 60) (pc1 := 12) at_123_10 (by decide) rfl ?_
    by_cases c1 : 60 ≤ x2
    · rw [if_pos c1] at hs
      refine aw_icge_t at_123_12 c1 ?_
      exact rg_123_348 x0 h o l0 i0 hs
    · rw [if_neg c1] at hs
      refine aw_icge_f (pc1 := 15) at_123_12 c1 rfl ?_
      refine aw_iload_n (pc1 := 16) at_123_15 l1 rfl ?_
      refine aw_vload_n (pc1 := 17) at_123_16 l0 i0 rfl ?_
      obtain ⟨v2, e3, hs1⟩ := am_bind hs
      clear hs
      refine aw_pG (pc1 := 20) at_123_17 (am_vR_s e3).1 rfl ?_
      obtain ⟨v4, e5, hs2⟩ := am_bind hs1
      clear hs1
      refine aw_pG (pc1 := 23) at_123_20 (am_vI_s e5) rfl ?_
      by_cases c6 : v4 ≤ x1
      · rw [if_pos c6] at hs2
        refine aw_icge_t at_123_23 c6 ?_
        exact rg_123_348 x0 h o l0 i0 hs2
      · rw [if_neg c6] at hs2
        refine aw_icge_f (pc1 := 26) at_123_23 c6 rfl ?_
        refine aw_vload_n (pc1 := 27) at_123_26 l0 i0 rfl ?_
        obtain ⟨v7, e8, hs3⟩ := am_bind hs2
        clear hs2
        refine aw_pG (pc1 := 30) at_123_27 (am_vI_s e8) rfl ?_
        by_cases c9 : ¬ v7 = 0
        · rw [if_pos c9] at hs3
          refine aw_ifne_t at_123_30 c9 ?_
          exact rg_123_348 x0 h o l0 i0 hs3
        · rw [if_neg c9] at hs3
          refine aw_ifne_f (pc1 := 33) at_123_30 c9 rfl ?_
          refine aw_vload_n (pc1 := 34) at_123_33 l0 i0 rfl ?_
          obtain ⟨v10, e11, hs4⟩ := am_bind hs3
          clear hs3
          refine aw_pG (pc1 := 37) at_123_34 (am_vR_s e11).1 rfl ?_
          refine aw_iload_n (pc1 := 38) at_123_37 l1 rfl ?_
          refine aw_iconst (v := 0) (pc1 := 39) at_123_38 (by decide) rfl ?_
          obtain ⟨z12, hs5⟩ := am_ift hs4
          clear hs4
          refine aw_call (F := fm_54 v10 x1 0 h) (t := true) (na := 3) (kd := 1) (as := [v10, (.int x1), (.int 0)]) at_123_39 (am_k3v kb_54) mn_54 mk_54 rfl rfl (am_ok_v mi_54 (am_hl rfl (am_ccR (am_vR_s e11).2 (am_ccI (am_ccI am_cats_0))) rfl) z12) (am_hc am_cats_0 rfl) (fun _ => ⟨rfl, hh_123⟩) (fun o1 hz9 => rm_54 v10 x1 0 h o1 (am_vR_s e11).2 hz9) ?_
          rcases am_cI_s hs5 with ⟨v13, h14, f15, hs6⟩ | hs6
          · clear hs5
            refine Or.inl ⟨_, _, f15, ?_⟩
            show am_W X _ 123 42 _ [(.int v13)] h14 _
            refine aw_istore_n (lv1 := am_put1 _ 3 _) (pc1 := 43) at_123_42 rfl rfl ?_
            refine aw_vload_n (pc1 := 44) at_123_43 (am_lk1 l0 rfl rfl) i0 rfl ?_
            obtain ⟨v16, e17, hs7⟩ := am_bind hs6
            clear hs6
            refine aw_pG (pc1 := 47) at_123_44 (am_vR_s e17).1 rfl ?_
            refine aw_iload_n (pc1 := 48) at_123_47 (am_lk1 l1 rfl rfl) rfl ?_
            refine aw_iconst (v := 1) (pc1 := 49) at_123_48 (by decide) rfl ?_
            obtain ⟨z18, hs8⟩ := am_ift hs7
            clear hs7
            refine aw_call (F := fm_54 v16 x1 1 h14) (t := true) (na := 3) (kd := 1) (as := [v16, (.int x1), (.int 1)]) at_123_49 (am_k3v kb_54) mn_54 mk_54 rfl rfl (am_ok_v mi_54 (am_hl rfl (am_ccR (am_vR_s e17).2 (am_ccI (am_ccI am_cats_0))) rfl) z18) (am_hc am_cats_0 rfl) (fun _ => ⟨rfl, hh_123⟩) (fun o1 hz9 => rm_54 v16 x1 1 h14 o1 (am_vR_s e17).2 hz9) ?_
            rcases am_cI_s hs8 with ⟨v19, h20, f21, hs9⟩ | hs9
            · clear hs8
              refine Or.inl ⟨_, _, f21, ?_⟩
              show am_W X _ 123 52 _ [(.int v19)] h20 _
              refine aw_istore (lv1 := am_put1 _ 4 _) (pc1 := 54) at_123_52 rfl rfl ?_
              refine aw_vload_n (pc1 := 55) at_123_54 (am_lk1 (am_lk1 l0 rfl rfl) rfl rfl) i0 rfl ?_
              obtain ⟨v22, e23, hs10⟩ := am_bind hs9
              clear hs9
              refine aw_pG (pc1 := 58) at_123_55 (am_vI_s e23) rfl ?_
              refine aw_iload_n (pc1 := 59) at_123_58 (am_lk1 am_lk0 rfl rfl) rfl ?_
              refine aw_call (F := fm_56 v13 h20) (t := false) (na := 1) (kd := 0) (as := [(.int v13)]) at_123_59 (am_k3s kb_56) mn_56 mk_56 rfl rfl (am_ok_s mi_56 (am_hl rfl (am_ccI am_cats_0) rfl)) (am_hc (am_ccI am_cats_0) rfl) (fun hz9 => by cases hz9) (fun o1 hz9 => rm_56 v13 h20 o1  hz9) ?_
              rcases am_cI_s hs10 with ⟨v24, h25, f26, hs11⟩ | hs11
              · clear hs10
                refine Or.inl ⟨_, _, f26, ?_⟩
                show am_W X _ 123 62 _ [(.int v24), (.int v22)] h25 _
                by_cases c27 : v22 < v24
                · rw [if_pos c27] at hs11
                  refine aw_iclt_t at_123_62 c27 ?_
                  exact rg_123_86 h25 o   hs11
                · rw [if_neg c27] at hs11
                  refine aw_iclt_f (pc1 := 65) at_123_62 c27 rfl ?_
                  refine aw_vload_n (pc1 := 66) at_123_65 (am_lk1 (am_lk1 l0 rfl rfl) rfl rfl) i0 rfl ?_
                  obtain ⟨v28, e29, hs12⟩ := am_bind hs11
                  clear hs11
                  refine aw_pG (pc1 := 69) at_123_66 (am_vI_s e29) rfl ?_
                  refine aw_iload_n (pc1 := 70) at_123_69 (am_lk1 am_lk0 rfl rfl) rfl ?_
                  refine aw_call (F := fm_55 v13 h25) (t := false) (na := 1) (kd := 0) (as := [(.int v13)]) at_123_70 (am_k3s kb_55) mn_55 mk_55 rfl rfl (am_ok_s mi_55 (am_hl rfl (am_ccI am_cats_0) rfl)) (am_hc (am_ccI am_cats_0) rfl) (fun hz9 => by cases hz9) (fun o1 hz9 => rm_55 v13 h25 o1  hz9) ?_
                  rcases am_cI_s hs12 with ⟨v30, h31, f32, hs13⟩ | hs13
                  · clear hs12
                    refine Or.inl ⟨_, _, f32, ?_⟩
                    show am_W X _ 123 73 _ [(.int v30), (.int v28)] h31 _
                    refine aw_iadd (v := (v28 + v30)) (pc1 := 74) at_123_73 rfl rfl ?_
                    refine aw_bipush (v := 8) (pc1 := 76) at_123_74 (by decide) rfl ?_
                    by_cases c33 : 8 < (v28 + v30)
                    · rw [if_pos c33] at hs13
                      refine aw_icgt_t at_123_76 c33 ?_
                      exact rg_123_86 h31 o   hs13
                    · rw [if_neg c33] at hs13
                      refine aw_icgt_f (pc1 := 79) at_123_76 c33 rfl ?_
                      refine aw_vload_n (pc1 := 80) at_123_79 (am_lk1 (am_lk1 l0 rfl rfl) rfl rfl) i0 rfl ?_
                      obtain ⟨z34, hs14⟩ := am_ift hs13
                      clear hs13
                      refine aw_call (F := fm_118 x0 h31) (t := true) (na := 1) (kd := 1) (as := [x0]) at_123_80 (am_k3v kb_118) mn_118 mk_118 rfl rfl (am_ok_v mi_118 (am_hl rfl (am_ccR i0 am_cats_0) rfl) z34) (am_hc am_cats_0 rfl) (fun _ => ⟨rfl, hh_123⟩) (fun o1 hz9 => rm_118 x0 h31 o1 i0 hz9) ?_
                      rcases am_cI_s hs14 with ⟨v35, h36, f37, hs15⟩ | hs15
                      · clear hs14
                        refine Or.inl ⟨_, _, f37, ?_⟩
                        show am_W X _ 123 83 _ [(.int v35)] h36 _
                        by_cases c38 : ¬ v35 = 0
                        · rw [if_pos c38] at hs15
                          refine aw_ifne_t at_123_83 c38 ?_
                          refine aw_iload_n (pc1 := 89) at_123_88 (am_lk1 am_lk0 rfl rfl) rfl ?_
                          refine aw_iconst (v := 4) (pc1 := 90) at_123_89 (by decide) rfl ?_
                          by_cases c39 : 4 < v13
                          · rw [if_pos c39] at hs15
                            refine aw_icgt_t at_123_90 c39 ?_
                            refine aw_iload_n (pc1 := 113) at_123_112 (am_lk1 am_lk0 rfl rfl) rfl ?_
                            refine aw_bipush (v := 6) (pc1 := 115) at_123_113 (by decide) rfl ?_
                            by_cases c40 : 6 < v13
                            · rw [if_pos c40] at hs15
                              refine aw_icgt_t at_123_115 c40 ?_
                              refine aw_iload_n (pc1 := 151) at_123_150 (am_lk1 am_lk0 rfl rfl) rfl ?_
                              refine aw_bipush (v := 13) (pc1 := 153) at_123_151 (by decide) rfl ?_
                              by_cases c41 : 13 < v13
                              · rw [if_pos c41] at hs15
                                refine aw_icgt_t at_123_153 c41 ?_
                                refine aw_iload_n (pc1 := 200) at_123_199 (am_lk1 am_lk0 rfl rfl) rfl ?_
                                refine aw_bipush (v := 14) (pc1 := 202) at_123_200 (by decide) rfl ?_
                                by_cases c42 : ¬ v13 = 14
                                · rw [if_pos c42] at hs15
                                  refine aw_icne_t at_123_202 c42 ?_
                                  refine aw_iload_n (pc1 := 229) at_123_228 (am_lk1 am_lk0 rfl rfl) rfl ?_
                                  refine aw_bipush (v := 15) (pc1 := 231) at_123_229 (by decide) rfl ?_
                                  by_cases c43 : ¬ v13 = 15
                                  · rw [if_pos c43] at hs15
                                    refine aw_icne_t at_123_231 c43 ?_
                                    exact rg_123_282 (fun z0 z1 z2 h o hs15 => ih z0 z1 z2 h o hs15) x0 x1 x2 v13 v19 h36 o (am_lk1 (am_lk1 l0 rfl rfl) rfl rfl) (am_lk1 (am_lk1 l1 rfl rfl) rfl rfl) (am_lk1 (am_lk1 l2 rfl rfl) rfl rfl) (am_lk1 am_lk0 rfl rfl) am_lk0 i0 hs15
                                  · rw [if_neg c43] at hs15
                                    refine aw_icne_f (pc1 := 234) at_123_231 c43 rfl ?_
                                    refine aw_vload_n (pc1 := 235) at_123_234 (am_lk1 (am_lk1 l0 rfl rfl) rfl rfl) i0 rfl ?_
                                    obtain ⟨v44, e45, hs16⟩ := am_bind hs15
                                    clear hs15
                                    refine aw_pG (pc1 := 238) at_123_235 (am_vR_s e45).1 rfl ?_
                                    refine aw_vload_n (pc1 := 239) at_123_238 (am_lk1 (am_lk1 l0 rfl rfl) rfl rfl) i0 rfl ?_
                                    obtain ⟨v46, e47, hs17⟩ := am_bind hs16
                                    clear hs16
                                    refine aw_pG (pc1 := 242) at_123_239 (am_vI_s e47) rfl ?_
                                    refine aw_iconst (v := 1) (pc1 := 243) at_123_242 (by decide) rfl ?_
                                    refine aw_isub (v := (v46 - 1)) (pc1 := 244) at_123_243 rfl rfl ?_
                                    obtain ⟨v48, e49, hs18⟩ := am_bind hs17
                                    clear hs17
                                    refine aw_pA (pc1 := 245) at_123_244 (Or.inl ⟨rfl, rfl⟩) e49 rfl ?_
                                    refine aw_istore (lv1 := am_put1 _ 5 _) (pc1 := 247) at_123_245 rfl rfl ?_
                                    refine aw_vload_n (pc1 := 248) at_123_247 (am_lk1 (am_lk1 (am_lk1 l0 rfl rfl) rfl rfl) rfl rfl) i0 rfl ?_
                                    obtain ⟨v50, e51, hs19⟩ := am_bind hs18
                                    clear hs18
                                    refine aw_pG (pc1 := 251) at_123_248 (am_vR_s e51).1 rfl ?_
                                    refine aw_vload_n (pc1 := 252) at_123_251 (am_lk1 (am_lk1 (am_lk1 l0 rfl rfl) rfl rfl) rfl rfl) i0 rfl ?_
                                    obtain ⟨v52, e53, hs20⟩ := am_bind hs19
                                    clear hs19
                                    refine aw_pG (pc1 := 255) at_123_252 (am_vI_s e53) rfl ?_
                                    refine aw_iconst (v := 1) (pc1 := 256) at_123_255 (by decide) rfl ?_
                                    refine aw_isub (v := (v52 - 1)) (pc1 := 257) at_123_256 rfl rfl ?_
                                    refine aw_vload_n (pc1 := 258) at_123_257 (am_lk1 (am_lk1 (am_lk1 l0 rfl rfl) rfl rfl) rfl rfl) i0 rfl ?_
                                    obtain ⟨v54, e55, hs21⟩ := am_bind hs20
                                    clear hs20
                                    refine aw_pG (pc1 := 261) at_123_258 (am_vR_s e55).1 rfl ?_
                                    refine aw_vload_n (pc1 := 262) at_123_261 (am_lk1 (am_lk1 (am_lk1 l0 rfl rfl) rfl rfl) rfl rfl) i0 rfl ?_
                                    obtain ⟨v56, e57, hs22⟩ := am_bind hs21
                                    clear hs21
                                    refine aw_pG (pc1 := 265) at_123_262 (am_vI_s e57) rfl ?_
                                    refine aw_iconst (v := 2) (pc1 := 266) at_123_265 (by decide) rfl ?_
                                    refine aw_isub (v := (v56 - 2)) (pc1 := 267) at_123_266 rfl rfl ?_
                                    obtain ⟨v58, e59, hs23⟩ := am_bind hs22
                                    clear hs22
                                    refine aw_pA (pc1 := 268) at_123_267 (Or.inl ⟨rfl, rfl⟩) e59 rfl ?_
                                    obtain ⟨h60, e61, hs24⟩ := am_bind hs23
                                    clear hs23
                                    refine aw_pS (pc1 := 269) at_123_268 (Or.inl ⟨rfl, rfl⟩) e61 rfl ?_
                                    refine aw_vload_n (pc1 := 270) at_123_269 (am_lk1 (am_lk1 (am_lk1 l0 rfl rfl) rfl rfl) rfl rfl) i0 rfl ?_
                                    obtain ⟨v62, e63, hs25⟩ := am_bind hs24
                                    clear hs24
                                    refine aw_pG (pc1 := 273) at_123_270 (am_vR_s e63).1 rfl ?_
                                    refine aw_vload_n (pc1 := 274) at_123_273 (am_lk1 (am_lk1 (am_lk1 l0 rfl rfl) rfl rfl) rfl rfl) i0 rfl ?_
                                    obtain ⟨v64, e65, hs26⟩ := am_bind hs25
                                    clear hs25
                                    refine aw_pG (pc1 := 277) at_123_274 (am_vI_s e65) rfl ?_
                                    refine aw_iconst (v := 2) (pc1 := 278) at_123_277 (by decide) rfl ?_
                                    refine aw_isub (v := (v64 - 2)) (pc1 := 279) at_123_278 rfl rfl ?_
                                    refine aw_iload (pc1 := 281) at_123_279 am_lk0 rfl ?_
                                    obtain ⟨h66, e67, hs27⟩ := am_bind hs26
                                    clear hs26
                                    refine aw_pS (pc1 := 282) at_123_281 (Or.inl ⟨rfl, rfl⟩) e67 rfl ?_
                                    exact rg_123_282 (fun z0 z1 z2 h o hs27 => ih z0 z1 z2 h o hs27) x0 x1 x2 v13 v19 h66 o (am_lk1 (am_lk1 (am_lk1 l0 rfl rfl) rfl rfl) rfl rfl) (am_lk1 (am_lk1 (am_lk1 l1 rfl rfl) rfl rfl) rfl rfl) (am_lk1 (am_lk1 (am_lk1 l2 rfl rfl) rfl rfl) rfl rfl) (am_lk1 (am_lk1 am_lk0 rfl rfl) rfl rfl) (am_lk1 am_lk0 rfl rfl) i0 hs27
                                · rw [if_neg c42] at hs15
                                  refine aw_icne_f (pc1 := 205) at_123_202 c42 rfl ?_
                                  refine aw_vload_n (pc1 := 206) at_123_205 (am_lk1 (am_lk1 l0 rfl rfl) rfl rfl) i0 rfl ?_
                                  obtain ⟨v68, e69, hs28⟩ := am_bind hs15
                                  clear hs15
                                  refine aw_pG (pc1 := 209) at_123_206 (am_vR_s e69).1 rfl ?_
                                  refine aw_vload_n (pc1 := 210) at_123_209 (am_lk1 (am_lk1 l0 rfl rfl) rfl rfl) i0 rfl ?_
                                  obtain ⟨v70, e71, hs29⟩ := am_bind hs28
                                  clear hs28
                                  refine aw_pG (pc1 := 213) at_123_210 (am_vI_s e71) rfl ?_
                                  refine aw_vload_n (pc1 := 214) at_123_213 (am_lk1 (am_lk1 l0 rfl rfl) rfl rfl) i0 rfl ?_
                                  obtain ⟨v72, e73, hs30⟩ := am_bind hs29
                                  clear hs29
                                  refine aw_pG (pc1 := 217) at_123_214 (am_vR_s e73).1 rfl ?_
                                  refine aw_vload_n (pc1 := 218) at_123_217 (am_lk1 (am_lk1 l0 rfl rfl) rfl rfl) i0 rfl ?_
                                  obtain ⟨v74, e75, hs31⟩ := am_bind hs30
                                  clear hs30
                                  refine aw_pG (pc1 := 221) at_123_218 (am_vI_s e75) rfl ?_
                                  refine aw_iconst (v := 1) (pc1 := 222) at_123_221 (by decide) rfl ?_
                                  refine aw_isub (v := (v74 - 1)) (pc1 := 223) at_123_222 rfl rfl ?_
                                  obtain ⟨v76, e77, hs32⟩ := am_bind hs31
                                  clear hs31
                                  refine aw_pA (pc1 := 224) at_123_223 (Or.inl ⟨rfl, rfl⟩) e77 rfl ?_
                                  obtain ⟨h78, e79, hs33⟩ := am_bind hs32
                                  clear hs32
                                  refine aw_pS (pc1 := 225) at_123_224 (Or.inl ⟨rfl, rfl⟩) e79 rfl ?_
                                  refine aw_goto at_123_225 ?_
                                  exact rg_123_282 (fun z0 z1 z2 h o hs33 => ih z0 z1 z2 h o hs33) x0 x1 x2 v13 v19 h78 o (am_lk1 (am_lk1 l0 rfl rfl) rfl rfl) (am_lk1 (am_lk1 l1 rfl rfl) rfl rfl) (am_lk1 (am_lk1 l2 rfl rfl) rfl rfl) (am_lk1 am_lk0 rfl rfl) am_lk0 i0 hs33
                              · rw [if_neg c41] at hs15
                                refine aw_icgt_f (pc1 := 156) at_123_153 c41 rfl ?_
                                refine aw_vload_n (pc1 := 157) at_123_156 (am_lk1 (am_lk1 l0 rfl rfl) rfl rfl) i0 rfl ?_
                                obtain ⟨v80, e81, hs34⟩ := am_bind hs15
                                clear hs15
                                refine aw_pG (pc1 := 160) at_123_157 (am_vR_s e81).1 rfl ?_
                                refine aw_vload_n (pc1 := 161) at_123_160 (am_lk1 (am_lk1 l0 rfl rfl) rfl rfl) i0 rfl ?_
                                obtain ⟨v82, e83, hs35⟩ := am_bind hs34
                                clear hs34
                                refine aw_pG (pc1 := 164) at_123_161 (am_vI_s e83) rfl ?_
                                refine aw_iconst (v := 2) (pc1 := 165) at_123_164 (by decide) rfl ?_
                                refine aw_isub (v := (v82 - 2)) (pc1 := 166) at_123_165 rfl rfl ?_
                                refine aw_vload_n (pc1 := 167) at_123_166 (am_lk1 (am_lk1 l0 rfl rfl) rfl rfl) i0 rfl ?_
                                refine aw_iload_n (pc1 := 168) at_123_167 (am_lk1 am_lk0 rfl rfl) rfl ?_
                                refine aw_iconst (v := 3) (pc1 := 169) at_123_168 (by decide) rfl ?_
                                refine aw_iadd (v := (v13 + 3)) (pc1 := 170) at_123_169 rfl rfl ?_
                                refine aw_vload_n (pc1 := 171) at_123_170 (am_lk1 (am_lk1 l0 rfl rfl) rfl rfl) i0 rfl ?_
                                obtain ⟨v84, e85, hs36⟩ := am_bind hs35
                                clear hs35
                                refine aw_pG (pc1 := 174) at_123_171 (am_vR_s e85).1 rfl ?_
                                refine aw_vload_n (pc1 := 175) at_123_174 (am_lk1 (am_lk1 l0 rfl rfl) rfl rfl) i0 rfl ?_
                                obtain ⟨v86, e87, hs37⟩ := am_bind hs36
                                clear hs36
                                refine aw_pG (pc1 := 178) at_123_175 (am_vI_s e87) rfl ?_
                                refine aw_iconst (v := 2) (pc1 := 179) at_123_178 (by decide) rfl ?_
                                refine aw_isub (v := (v86 - 2)) (pc1 := 180) at_123_179 rfl rfl ?_
                                obtain ⟨v88, e89, hs38⟩ := am_bind hs37
                                clear hs37
                                refine aw_pA (pc1 := 181) at_123_180 (Or.inl ⟨rfl, rfl⟩) e89 rfl ?_
                                refine aw_vload_n (pc1 := 182) at_123_181 (am_lk1 (am_lk1 l0 rfl rfl) rfl rfl) i0 rfl ?_
                                obtain ⟨v90, e91, hs39⟩ := am_bind hs38
                                clear hs38
                                refine aw_pG (pc1 := 185) at_123_182 (am_vR_s e91).1 rfl ?_
                                refine aw_vload_n (pc1 := 186) at_123_185 (am_lk1 (am_lk1 l0 rfl rfl) rfl rfl) i0 rfl ?_
                                obtain ⟨v92, e93, hs40⟩ := am_bind hs39
                                clear hs39
                                refine aw_pG (pc1 := 189) at_123_186 (am_vI_s e93) rfl ?_
                                refine aw_iconst (v := 1) (pc1 := 190) at_123_189 (by decide) rfl ?_
                                refine aw_isub (v := (v92 - 1)) (pc1 := 191) at_123_190 rfl rfl ?_
                                obtain ⟨v94, e95, hs41⟩ := am_bind hs40
                                clear hs40
                                refine aw_pA (pc1 := 192) at_123_191 (Or.inl ⟨rfl, rfl⟩) e95 rfl ?_
                                obtain ⟨z96, hs42⟩ := am_ift hs41
                                clear hs41
                                refine aw_call (F := fm_122 x0 ((v13 + 3)) v88 v94 h36) (t := true) (na := 4) (kd := 1) (as := [x0, (.int (v13 + 3)), (.int v88), (.int v94)]) at_123_192 (am_k3v kb_122) mn_122 mk_122 rfl rfl (am_ok_v mi_122 (am_hl rfl (am_ccR i0 (am_ccI (am_ccI (am_ccI am_cats_0)))) rfl) z96) (am_hc (am_ccI (am_ccR (am_vR_s e81).2 am_cats_0)) rfl) (fun _ => ⟨rfl, hh_123⟩) (fun o1 hz9 => rm_122 x0 ((v13 + 3)) v88 v94 h36 o1 i0 hz9) ?_
                                rcases am_cI_s hs42 with ⟨v97, h98, f99, hs43⟩ | hs43
                                · clear hs42
                                  refine Or.inl ⟨_, _, f99, ?_⟩
                                  show am_W X _ 123 195 _ [(.int v97), (.int (v82 - 2)), v80] h98 _
                                  obtain ⟨h100, e101, hs44⟩ := am_bind hs43
                                  clear hs43
                                  refine aw_pS (pc1 := 196) at_123_195 (Or.inl ⟨rfl, rfl⟩) e101 rfl ?_
                                  refine aw_goto at_123_196 ?_
                                  exact rg_123_282 (fun z0 z1 z2 h o hs44 => ih z0 z1 z2 h o hs44) x0 x1 x2 v13 v19 h100 o (am_lk1 (am_lk1 l0 rfl rfl) rfl rfl) (am_lk1 (am_lk1 l1 rfl rfl) rfl rfl) (am_lk1 (am_lk1 l2 rfl rfl) rfl rfl) (am_lk1 am_lk0 rfl rfl) am_lk0 i0 hs44
                                · clear hs42
                                  exact Or.inr hs43
                            · rw [if_neg c40] at hs15
                              refine aw_icgt_f (pc1 := 118) at_123_115 c40 rfl ?_
                              refine aw_vload_n (pc1 := 119) at_123_118 (am_lk1 (am_lk1 l0 rfl rfl) rfl rfl) i0 rfl ?_
                              obtain ⟨v102, e103, hs45⟩ := am_bind hs15
                              clear hs15
                              refine aw_pG (pc1 := 122) at_123_119 (am_vR_s e103).1 rfl ?_
                              refine aw_vload_n (pc1 := 123) at_123_122 (am_lk1 (am_lk1 l0 rfl rfl) rfl rfl) i0 rfl ?_
                              obtain ⟨v104, e105, hs46⟩ := am_bind hs45
                              clear hs45
                              refine aw_pG (pc1 := 126) at_123_123 (am_vI_s e105) rfl ?_
                              refine aw_iconst (v := 1) (pc1 := 127) at_123_126 (by decide) rfl ?_
                              refine aw_isub (v := (v104 - 1)) (pc1 := 128) at_123_127 rfl rfl ?_
                              refine aw_vload_n (pc1 := 129) at_123_128 (am_lk1 (am_lk1 l0 rfl rfl) rfl rfl) i0 rfl ?_
                              refine aw_iload_n (pc1 := 130) at_123_129 (am_lk1 am_lk0 rfl rfl) rfl ?_
                              refine aw_iconst (v := 2) (pc1 := 131) at_123_130 (by decide) rfl ?_
                              refine aw_iadd (v := (v13 + 2)) (pc1 := 132) at_123_131 rfl rfl ?_
                              refine aw_vload_n (pc1 := 133) at_123_132 (am_lk1 (am_lk1 l0 rfl rfl) rfl rfl) i0 rfl ?_
                              obtain ⟨v106, e107, hs47⟩ := am_bind hs46
                              clear hs46
                              refine aw_pG (pc1 := 136) at_123_133 (am_vR_s e107).1 rfl ?_
                              refine aw_vload_n (pc1 := 137) at_123_136 (am_lk1 (am_lk1 l0 rfl rfl) rfl rfl) i0 rfl ?_
                              obtain ⟨v108, e109, hs48⟩ := am_bind hs47
                              clear hs47
                              refine aw_pG (pc1 := 140) at_123_137 (am_vI_s e109) rfl ?_
                              refine aw_iconst (v := 1) (pc1 := 141) at_123_140 (by decide) rfl ?_
                              refine aw_isub (v := (v108 - 1)) (pc1 := 142) at_123_141 rfl rfl ?_
                              obtain ⟨v110, e111, hs49⟩ := am_bind hs48
                              clear hs48
                              refine aw_pA (pc1 := 143) at_123_142 (Or.inl ⟨rfl, rfl⟩) e111 rfl ?_
                              obtain ⟨z112, hs50⟩ := am_ift hs49
                              clear hs49
                              refine aw_call (F := fm_120 x0 ((v13 + 2)) v110 h36) (t := true) (na := 3) (kd := 1) (as := [x0, (.int (v13 + 2)), (.int v110)]) at_123_143 (am_k3v kb_120) mn_120 mk_120 rfl rfl (am_ok_v mi_120 (am_hl rfl (am_ccR i0 (am_ccI (am_ccI am_cats_0))) rfl) z112) (am_hc (am_ccI (am_ccR (am_vR_s e103).2 am_cats_0)) rfl) (fun _ => ⟨rfl, hh_123⟩) (fun o1 hz9 => rm_120 x0 ((v13 + 2)) v110 h36 o1 i0 hz9) ?_
                              rcases am_cI_s hs50 with ⟨v113, h114, f115, hs51⟩ | hs51
                              · clear hs50
                                refine Or.inl ⟨_, _, f115, ?_⟩
                                show am_W X _ 123 146 _ [(.int v113), (.int (v104 - 1)), v102] h114 _
                                obtain ⟨h116, e117, hs52⟩ := am_bind hs51
                                clear hs51
                                refine aw_pS (pc1 := 147) at_123_146 (Or.inl ⟨rfl, rfl⟩) e117 rfl ?_
                                refine aw_goto at_123_147 ?_
                                exact rg_123_282 (fun z0 z1 z2 h o hs52 => ih z0 z1 z2 h o hs52) x0 x1 x2 v13 v19 h116 o (am_lk1 (am_lk1 l0 rfl rfl) rfl rfl) (am_lk1 (am_lk1 l1 rfl rfl) rfl rfl) (am_lk1 (am_lk1 l2 rfl rfl) rfl rfl) (am_lk1 am_lk0 rfl rfl) am_lk0 i0 hs52
                              · clear hs50
                                exact Or.inr hs51
                          · rw [if_neg c39] at hs15
                            refine aw_icgt_f (pc1 := 93) at_123_90 c39 rfl ?_
                            refine aw_vload_n (pc1 := 94) at_123_93 (am_lk1 (am_lk1 l0 rfl rfl) rfl rfl) i0 rfl ?_
                            obtain ⟨v118, e119, hs53⟩ := am_bind hs15
                            clear hs15
                            refine aw_pG (pc1 := 97) at_123_94 (am_vR_s e119).1 rfl ?_
                            refine aw_vload_n (pc1 := 98) at_123_97 (am_lk1 (am_lk1 l0 rfl rfl) rfl rfl) i0 rfl ?_
                            obtain ⟨v120, e121, hs54⟩ := am_bind hs53
                            clear hs53
                            refine aw_pG (pc1 := 101) at_123_98 (am_vI_s e121) rfl ?_
                            refine aw_vload_n (pc1 := 102) at_123_101 (am_lk1 (am_lk1 l0 rfl rfl) rfl rfl) i0 rfl ?_
                            refine aw_iload_n (pc1 := 103) at_123_102 (am_lk1 am_lk0 rfl rfl) rfl ?_
                            refine aw_iload (pc1 := 105) at_123_103 am_lk0 rfl ?_
                            obtain ⟨z122, hs55⟩ := am_ift hs54
                            clear hs54
                            refine aw_call (F := fm_119 x0 v13 v19 h36) (t := true) (na := 3) (kd := 1) (as := [x0, (.int v13), (.int v19)]) at_123_105 (am_k3v kb_119) mn_119 mk_119 rfl rfl (am_ok_v mi_119 (am_hl rfl (am_ccR i0 (am_ccI (am_ccI am_cats_0))) rfl) z122) (am_hc (am_ccI (am_ccR (am_vR_s e119).2 am_cats_0)) rfl) (fun _ => ⟨rfl, hh_123⟩) (fun o1 hz9 => rm_119 x0 v13 v19 h36 o1 i0 hz9) ?_
                            rcases am_cI_s hs55 with ⟨v123, h124, f125, hs56⟩ | hs56
                            · clear hs55
                              refine Or.inl ⟨_, _, f125, ?_⟩
                              show am_W X _ 123 108 _ [(.int v123), (.int v120), v118] h124 _
                              obtain ⟨h126, e127, hs57⟩ := am_bind hs56
                              clear hs56
                              refine aw_pS (pc1 := 109) at_123_108 (Or.inl ⟨rfl, rfl⟩) e127 rfl ?_
                              refine aw_goto at_123_109 ?_
                              exact rg_123_282 (fun z0 z1 z2 h o hs57 => ih z0 z1 z2 h o hs57) x0 x1 x2 v13 v19 h126 o (am_lk1 (am_lk1 l0 rfl rfl) rfl rfl) (am_lk1 (am_lk1 l1 rfl rfl) rfl rfl) (am_lk1 (am_lk1 l2 rfl rfl) rfl rfl) (am_lk1 am_lk0 rfl rfl) am_lk0 i0 hs57
                            · clear hs55
                              exact Or.inr hs56
                        · rw [if_neg c38] at hs15
                          refine aw_ifne_f (pc1 := 86) at_123_83 c38 rfl ?_
                          exact rg_123_86 h36 o   hs15
                      · clear hs14
                        exact Or.inr hs15
                  · clear hs12
                    exact Or.inr hs13
              · clear hs10
                exact Or.inr hs11
            · clear hs8
              exact Or.inr hs9
          · clear hs5
            exact Or.inr hs6
def fg_123_0 (N : Nat) (x0 : Value) (h : am_H) : Option am_O := ((am_pP 1550 x0 (.int 0) h).bind fun h1 => (fg_123_9 N N x0 0 0 h1))
theorem rg_123_0 {X : am_X} {d : Nat} {N : Nat} {lv : am_LV} (x0 : Value) (h : am_H) (o : am_O) (l0 : lv.lookup 0 = some x0) (i0 : am_isR x0 = true) (hs : fg_123_0 N x0 h = some o) : am_W X (d + 1) 123 0 lv [] h (fun q => q = o) := by
  unfold fg_123_0 at hs
  refine aw_vload_n (pc1 := 1) at_123_0 l0 i0 rfl ?_
  refine aw_iconst (v := 0) (pc1 := 2) at_123_1 (by decide) rfl ?_
  obtain ⟨h1, e2, hs1⟩ := am_bind hs
  clear hs
  refine aw_pP (pc1 := 5) at_123_2 e2 rfl ?_
  refine aw_iconst (v := 0) (pc1 := 6) at_123_5 (by decide) rfl ?_
  refine aw_istore_n (lv1 := am_put1 _ 1 _) (pc1 := 7) at_123_6 rfl rfl ?_
  refine aw_iconst (v := 0) (pc1 := 8) at_123_7 (by decide) rfl ?_
  refine aw_istore_n (lv1 := am_put1 _ 2 _) (pc1 := 9) at_123_8 rfl rfl ?_
  exact rg_123_9 N x0 0 0 h1 o hs1 _ (am_lk1 (am_lk1 l0 rfl (by rw [am_isRc i0]; rfl)) rfl rfl) (am_lk1 am_lk0 rfl rfl) am_lk0 i0
def fm_123 (N : Nat) (y0 : Value) (h : am_H) : Option am_O := fg_123_0 N y0 h
theorem rm_123 {X : am_X} {d : Nat} {N : Nat} (y0 : Value) (h : am_H) (o : am_O) (i0 : am_isR y0 = true) (hs : fm_123 N y0 h = some o) : am_W X (d + 1) 123 0 (am_args 0 [y0]) [] h (fun q => q = o) := by
  rw [am_args_R i0]
  exact rg_123_0 y0 h o rfl i0 hs
def fg_125_18 (x2 : Int32) (h : am_H) : Option am_O := some (.inl (some (.int x2), h))
theorem rg_125_18 {X : am_X} {d : Nat} {lv : am_LV} (x2 : Int32) (h : am_H) (o : am_O) (l2 : lv.lookup 2 = some (.int x2)) (hs : fg_125_18 x2 h = some o) : am_W X (d) 125 18 lv [] h (fun q => q = o) := by
  unfold fg_125_18 at hs
  refine aw_iload_n (pc1 := 19) at_125_18 l2 rfl ?_
  cases hs
  exact aw_iret at_125_19 (by rw [rt_125]; rfl) rfl
def fg_125_0 (x0 : Int32) (x1 : Int32) (h : am_H) : Option am_O := (if (x1 : Int32) ≠ 0 then (if 0 ≤ (x0 ^^^ x1) then (fg_125_18 ((x0 - x0 / x1 * x1)) h) else (if (x0 - x0 / x1 * x1) = 0 then (fg_125_18 ((x0 - x0 / x1 * x1)) h) else some (.inl (some (.int ((x0 - x0 / x1 * x1) + x1)), h)))) else none)
theorem rg_125_0 {X : am_X} {d : Nat} {lv : am_LV} (x0 : Int32) (x1 : Int32) (h : am_H) (o : am_O) (l0 : lv.lookup 0 = some (.int x0)) (l1 : lv.lookup 1 = some (.int x1)) (hs : fg_125_0 x0 x1 h = some o) : am_W X (d) 125 0 lv [] h (fun q => q = o) := by
  unfold fg_125_0 at hs
  refine aw_iload_n (pc1 := 1) at_125_0 l0 rfl ?_
  refine aw_iload_n (pc1 := 2) at_125_1 l1 rfl ?_
  obtain ⟨z1, hs1⟩ := am_ift hs
  clear hs
  refine aw_irem (v := (x0 - x0 / x1 * x1)) (pc1 := 3) at_125_2 z1 rfl rfl ?_
  refine aw_istore_n (lv1 := am_put1 _ 2 _) (pc1 := 4) at_125_3 rfl rfl ?_
  refine aw_iload_n (pc1 := 5) at_125_4 (am_lk1 l0 rfl rfl) rfl ?_
  refine aw_iload_n (pc1 := 6) at_125_5 (am_lk1 l1 rfl rfl) rfl ?_
  refine aw_ixor (v := (x0 ^^^ x1)) (pc1 := 7) at_125_6 rfl rfl ?_
  by_cases c2 : 0 ≤ (x0 ^^^ x1)
  · rw [if_pos c2] at hs1
    refine aw_ifge_t at_125_7 c2 ?_
    exact rg_125_18 ((x0 - x0 / x1 * x1)) h o am_lk0  hs1
  · rw [if_neg c2] at hs1
    refine aw_ifge_f (pc1 := 10) at_125_7 c2 rfl ?_
    refine aw_iload_n (pc1 := 11) at_125_10 am_lk0 rfl ?_
    by_cases c3 : (x0 - x0 / x1 * x1) = 0
    · rw [if_pos c3] at hs1
      refine aw_ifeq_t at_125_11 c3 ?_
      exact rg_125_18 ((x0 - x0 / x1 * x1)) h o am_lk0  hs1
    · rw [if_neg c3] at hs1
      refine aw_ifeq_f (pc1 := 14) at_125_11 c3 rfl ?_
      refine aw_iload_n (pc1 := 15) at_125_14 am_lk0 rfl ?_
      refine aw_iload_n (pc1 := 16) at_125_15 (am_lk1 l1 rfl rfl) rfl ?_
      refine aw_iadd (v := ((x0 - x0 / x1 * x1) + x1)) (pc1 := 17) at_125_16 rfl rfl ?_
      cases hs1
      exact aw_iret at_125_17 (by rw [rt_125]; rfl) rfl
def fm_125 (y0 : Int32) (y1 : Int32) (h : am_H) : Option am_O := fg_125_0 y0 y1 h
theorem rm_125 {X : am_X} {d : Nat} (y0 : Int32) (y1 : Int32) (h : am_H) (o : am_O) (hs : fm_125 y0 y1 h = some o) : am_W X (d) 125 0 (am_args 0 [.int y0, .int y1]) [] h (fun q => q = o) := by
  rw [am_args_I, am_args_I]
  exact rg_125_0 y0 y1 h o rfl rfl  hs
def fg_124_58 (N : Nat) (x0 : Value) (x1 : Int32) (h : am_H) : Option am_O := ((am_vR (am_pG 1540 x0 h)).bind fun v1 => (if am_pOk 3 v1 h then am_cI true (fm_54 v1 x1 0 h) (fun v4 h5 => some (.inl (some (.int v4), h5))) else none))
theorem rg_124_58 {X : am_X} {d : Nat} {N : Nat} {lv : am_LV} (x0 : Value) (x1 : Int32) (h : am_H) (o : am_O) (l0 : lv.lookup 0 = some x0) (l1 : lv.lookup 1 = some (.int x1)) (i0 : am_isR x0 = true) (hs : fg_124_58 N x0 x1 h = some o) : am_W X (d + 1) 124 58 lv [] h (fun q => q = o) := by
  unfold fg_124_58 at hs
  refine aw_vload_n (pc1 := 59) at_124_58 l0 i0 rfl ?_
  obtain ⟨v1, e2, hs1⟩ := am_bind hs
  clear hs
  refine aw_pG (pc1 := 62) at_124_59 (am_vR_s e2).1 rfl ?_
  refine aw_iload_n (pc1 := 63) at_124_62 l1 rfl ?_
  refine aw_iconst (v := 0) (pc1 := 64) at_124_63 (by decide) rfl ?_
  obtain ⟨z3, hs2⟩ := am_ift hs1
  clear hs1
  refine aw_call (F := fm_54 v1 x1 0 h) (t := true) (na := 3) (kd := 1) (as := [v1, (.int x1), (.int 0)]) at_124_64 (am_k3v kb_54) mn_54 mk_54 rfl rfl (am_ok_v mi_54 (am_hl rfl (am_ccR (am_vR_s e2).2 (am_ccI (am_ccI am_cats_0))) rfl) z3) (am_hc am_cats_0 rfl) (fun _ => ⟨rfl, hh_124⟩) (fun o1 hz9 => rm_54 v1 x1 0 h o1 (am_vR_s e2).2 hz9) ?_
  rcases am_cI_s hs2 with ⟨v4, h5, f6, hs3⟩ | hs3
  · clear hs2
    refine Or.inl ⟨_, _, f6, ?_⟩
    show am_W X _ 124 67 _ [(.int v4)] h5 _
    cases hs3
    exact aw_iret at_124_67 (by rw [rt_124]; rfl) rfl
  · clear hs2
    exact Or.inr hs3
def fg_124_52 (N : Nat) (rec_9 : Value → Int32 → Int32 → am_H → Option am_O) (x0 : Value) (x1 : Int32) (x2 : Int32) (h : am_H) : Option am_O := (rec_9 x0 x1 ((x2 + 1)) h)
theorem rg_124_52 {X : am_X} {d : Nat} {N : Nat} {rec_9 : Value → Int32 → Int32 → am_H → Option am_O} (q_9 : ∀ (x0 : Value) (x1 : Int32) (x2 : Int32) (h : am_H) (o : am_O), rec_9 x0 x1 x2 h = some o → ∀ lv : am_LV, (lv.lookup 0 = some x0) → (lv.lookup 1 = some (.int x1)) → (lv.lookup 2 = some (.int x2)) → (am_isR x0 = true) → am_W X (d + 1) 124 9 lv [] h (fun q => q = o)) {lv : am_LV} (x0 : Value) (x1 : Int32) (x2 : Int32) (h : am_H) (o : am_O) (l0 : lv.lookup 0 = some x0) (l1 : lv.lookup 1 = some (.int x1)) (l2 : lv.lookup 2 = some (.int x2)) (i0 : am_isR x0 = true) (hs : fg_124_52 N rec_9 x0 x1 x2 h = some o) : am_W X (d + 1) 124 52 lv [] h (fun q => q = o) := by
  unfold fg_124_52 at hs
  refine aw_iinc (v := (x2 + 1)) (c := 1) (lv1 := am_put1 _ 2 _) (pc1 := 55) at_124_52 l2 (by decide) rfl rfl rfl ?_
  refine aw_goto at_124_55 ?_
  exact q_9 x0 x1 ((x2 + 1)) h o hs _ (am_lk1 l0 rfl rfl) (am_lk1 l1 rfl rfl) am_lk0 i0
def fg_124_9 (N : Nat) : Nat → Value → Int32 → Int32 → am_H → Option am_O
  | 0 => fun _ _ _ _ => none
  | K + 1 => fun x0 x1 x2 h => ((am_vI (am_pG 1546 x0 h)).bind fun v1 => (if v1 ≤ x2 then (fg_124_58 N x0 x1 h) else ((am_vI (am_pG 1537 x0 h)).bind fun v4 => (if ¬ v4 = 0 then (fg_124_58 N x0 x1 h) else (if am_pOk 6 x0 h then am_cI true (fm_118 x0 h) (fun v8 h9 => (if v8 = 0 then (fg_124_52 N (fg_124_9 N K) x0 x1 x2 h9) else ((am_vR (am_pG 1540 x0 h9)).bind fun v12 => ((am_vR (am_pG 1545 x0 h9)).bind fun v14 => ((am_pA 0 v14 x2 h9).bind fun v16 => am_cI false (fm_125 v16 4 h9) (fun v18 h19 => (if am_pOk 3 v12 h19 then am_cI true (fm_54 v12 x1 ((1 + v18)) h19) (fun v22 h23 => (fg_124_52 N (fg_124_9 N K) x0 v22 x2 h23)) else none))))))) else none)))))
theorem rg_124_9 {X : am_X} {d : Nat} {N : Nat} : ∀ (K : Nat) (x0 : Value) (x1 : Int32) (x2 : Int32) (h : am_H) (o : am_O), fg_124_9 N K x0 x1 x2 h = some o → ∀ lv : am_LV, (lv.lookup 0 = some x0) → (lv.lookup 1 = some (.int x1)) → (lv.lookup 2 = some (.int x2)) → (am_isR x0 = true) → am_W X (d + 1) 124 9 lv [] h (fun q => q = o) := by
  intro K
  induction K with
  | zero => intro x0 x1 x2 h o hs; cases hs
  | succ K ih =>
    intro x0 x1 x2 h o hs lv l0 l1 l2 i0
    unfold fg_124_9 at hs
    refine aw_iload_n (pc1 := 10) at_124_9 l2 rfl ?_
    refine aw_vload_n (pc1 := 11) at_124_10 l0 i0 rfl ?_
    obtain ⟨v1, e2, hs1⟩ := am_bind hs
    clear hs
    refine aw_pG (pc1 := 14) at_124_11 (am_vI_s e2) rfl ?_
    by_cases c3 : v1 ≤ x2
    · rw [if_pos c3] at hs1
      refine aw_icge_t at_124_14 c3 ?_
      exact rg_124_58 x0 x1 h o l0 l1 i0 hs1
    · rw [if_neg c3] at hs1
      refine aw_icge_f (pc1 := 17) at_124_14 c3 rfl ?_
      refine aw_vload_n (pc1 := 18) at_124_17 l0 i0 rfl ?_
      obtain ⟨v4, e5, hs2⟩ := am_bind hs1
      clear hs1
      refine aw_pG (pc1 := 21) at_124_18 (am_vI_s e5) rfl ?_
      by_cases c6 : ¬ v4 = 0
      · rw [if_pos c6] at hs2
        refine aw_ifne_t at_124_21 c6 ?_
        exact rg_124_58 x0 x1 h o l0 l1 i0 hs2
      · rw [if_neg c6] at hs2
        refine aw_ifne_f (pc1 := 24) at_124_21 c6 rfl ?_
        refine aw_vload_n (pc1 := 25) at_124_24 l0 i0 rfl ?_
        obtain ⟨z7, hs3⟩ := am_ift hs2
        clear hs2
        refine aw_call (F := fm_118 x0 h) (t := true) (na := 1) (kd := 1) (as := [x0]) at_124_25 (am_k3v kb_118) mn_118 mk_118 rfl rfl (am_ok_v mi_118 (am_hl rfl (am_ccR i0 am_cats_0) rfl) z7) (am_hc am_cats_0 rfl) (fun _ => ⟨rfl, hh_124⟩) (fun o1 hz9 => rm_118 x0 h o1 i0 hz9) ?_
        rcases am_cI_s hs3 with ⟨v8, h9, f10, hs4⟩ | hs4
        · clear hs3
          refine Or.inl ⟨_, _, f10, ?_⟩
          show am_W X _ 124 28 _ [(.int v8)] h9 _
          by_cases c11 : v8 = 0
          · rw [if_pos c11] at hs4
            refine aw_ifeq_t at_124_28 c11 ?_
            exact rg_124_52 (fun z0 z1 z2 h o hs4 => ih z0 z1 z2 h o hs4) x0 x1 x2 h9 o l0 l1 l2 i0 hs4
          · rw [if_neg c11] at hs4
            refine aw_ifeq_f (pc1 := 31) at_124_28 c11 rfl ?_
            refine aw_vload_n (pc1 := 32) at_124_31 l0 i0 rfl ?_
            obtain ⟨v12, e13, hs5⟩ := am_bind hs4
            clear hs4
            refine aw_pG (pc1 := 35) at_124_32 (am_vR_s e13).1 rfl ?_
            refine aw_iload_n (pc1 := 36) at_124_35 l1 rfl ?_
            refine aw_iconst (v := 1) (pc1 := 37) at_124_36 (by decide) rfl ?_
            refine aw_vload_n (pc1 := 38) at_124_37 l0 i0 rfl ?_
            obtain ⟨v14, e15, hs6⟩ := am_bind hs5
            clear hs5
            refine aw_pG (pc1 := 41) at_124_38 (am_vR_s e15).1 rfl ?_
            refine aw_iload_n (pc1 := 42) at_124_41 l2 rfl ?_
            obtain ⟨v16, e17, hs7⟩ := am_bind hs6
            clear hs6
            refine aw_pA (pc1 := 43) at_124_42 (Or.inl ⟨rfl, rfl⟩) e17 rfl ?_
            refine aw_iconst (v := 4) (pc1 := 44) at_124_43 (by decide) rfl ?_
            refine aw_call (F := fm_125 v16 4 h9) (t := false) (na := 2) (kd := 0) (as := [(.int v16), (.int 4)]) at_124_44 (am_k3s kb_125) mn_125 mk_125 rfl rfl (am_ok_s mi_125 (am_hl rfl (am_ccI (am_ccI am_cats_0)) rfl)) (am_hc (am_ccI (am_ccI (am_ccR (am_vR_s e13).2 am_cats_0))) rfl) (fun hz9 => by cases hz9) (fun o1 hz9 => rm_125 v16 4 h9 o1  hz9) ?_
            rcases am_cI_s hs7 with ⟨v18, h19, f20, hs8⟩ | hs8
            · clear hs7
              refine Or.inl ⟨_, _, f20, ?_⟩
              show am_W X _ 124 47 _ [(.int v18), (.int 1), (.int x1), v12] h19 _
              refine aw_iadd (v := (1 + v18)) (pc1 := 48) at_124_47 rfl rfl ?_
              obtain ⟨z21, hs9⟩ := am_ift hs8
              clear hs8
              refine aw_call (F := fm_54 v12 x1 ((1 + v18)) h19) (t := true) (na := 3) (kd := 1) (as := [v12, (.int x1), (.int (1 + v18))]) at_124_48 (am_k3v kb_54) mn_54 mk_54 rfl rfl (am_ok_v mi_54 (am_hl rfl (am_ccR (am_vR_s e13).2 (am_ccI (am_ccI am_cats_0))) rfl) z21) (am_hc am_cats_0 rfl) (fun _ => ⟨rfl, hh_124⟩) (fun o1 hz9 => rm_54 v12 x1 ((1 + v18)) h19 o1 (am_vR_s e13).2 hz9) ?_
              rcases am_cI_s hs9 with ⟨v22, h23, f24, hs10⟩ | hs10
              · clear hs9
                refine Or.inl ⟨_, _, f24, ?_⟩
                show am_W X _ 124 51 _ [(.int v22)] h23 _
                refine aw_istore_n (lv1 := am_put1 _ 1 _) (pc1 := 52) at_124_51 rfl rfl ?_
                exact rg_124_52 (fun z0 z1 z2 h o hs10 => ih z0 z1 z2 h o hs10) x0 v22 x2 h23 o (am_lk1 l0 rfl (by rw [am_isRc i0]; rfl)) am_lk0 (am_lk1 l2 rfl rfl) i0 hs10
              · clear hs9
                exact Or.inr hs10
            · clear hs7
              exact Or.inr hs8
        · clear hs3
          exact Or.inr hs4
def fg_124_0 (N : Nat) (x0 : Value) (h : am_H) : Option am_O := (if am_pOk 6 x0 h then am_cI true (fm_118 x0 h) (fun v2 h3 => (fg_124_9 N N x0 0 0 h3)) else none)
theorem rg_124_0 {X : am_X} {d : Nat} {N : Nat} {lv : am_LV} (x0 : Value) (h : am_H) (o : am_O) (l0 : lv.lookup 0 = some x0) (i0 : am_isR x0 = true) (hs : fg_124_0 N x0 h = some o) : am_W X (d + 1) 124 0 lv [] h (fun q => q = o) := by
  unfold fg_124_0 at hs
  refine aw_vload_n (pc1 := 1) at_124_0 l0 i0 rfl ?_
  obtain ⟨z1, hs1⟩ := am_ift hs
  clear hs
  refine aw_call (F := fm_118 x0 h) (t := true) (na := 1) (kd := 1) (as := [x0]) at_124_1 (am_k3v kb_118) mn_118 mk_118 rfl rfl (am_ok_v mi_118 (am_hl rfl (am_ccR i0 am_cats_0) rfl) z1) (am_hc am_cats_0 rfl) (fun _ => ⟨rfl, hh_124⟩) (fun o1 hz9 => rm_118 x0 h o1 i0 hz9) ?_
  rcases am_cI_s hs1 with ⟨v2, h3, f4, hs2⟩ | hs2
  · clear hs1
    refine Or.inl ⟨_, _, f4, ?_⟩
    show am_W X _ 124 4 _ [(.int v2)] h3 _
    refine aw_popi (pc1 := 5) at_124_4 rfl ?_
    refine aw_iconst (v := 0) (pc1 := 6) at_124_5 (by decide) rfl ?_
    refine aw_istore_n (lv1 := am_put1 _ 1 _) (pc1 := 7) at_124_6 rfl rfl ?_
    refine aw_iconst (v := 0) (pc1 := 8) at_124_7 (by decide) rfl ?_
    refine aw_istore_n (lv1 := am_put1 _ 2 _) (pc1 := 9) at_124_8 rfl rfl ?_
    exact rg_124_9 N x0 0 0 h3 o hs2 _ (am_lk1 (am_lk1 l0 rfl (by rw [am_isRc i0]; rfl)) rfl rfl) (am_lk1 am_lk0 rfl rfl) am_lk0 i0
  · clear hs1
    exact Or.inr hs2
def fm_124 (N : Nat) (y0 : Value) (h : am_H) : Option am_O := fg_124_0 N y0 h
theorem rm_124 {X : am_X} {d : Nat} {N : Nat} (y0 : Value) (h : am_H) (o : am_O) (i0 : am_isR y0 = true) (hs : fm_124 N y0 h = some o) : am_W X (d + 1) 124 0 (am_args 0 [y0]) [] h (fun q => q = o) := by
  rw [am_args_R i0]
  exact rg_124_0 y0 h o rfl i0 hs
def fg_127_59 (h : am_H) : Option am_O := some (.inl (none, h))
theorem rg_127_59 {X : am_X} {d : Nat} {lv : am_LV} (h : am_H) (o : am_O) (hs : fg_127_59 h = some o) : am_W X (d) 127 59 lv [] h (fun q => q = o) := by
  unfold fg_127_59 at hs
  cases hs
  exact aw_vret at_127_59 rt_127 rfl
def fg_127_0 (x0 : Value) (x1 : Int32) (x2 : Int32) (h : am_H) : Option am_O := (if x1 < 0 then (fg_127_59 h) else (if x2 ≤ x1 then (fg_127_59 h) else ((am_vR (am_pG 1549 x0 h)).bind fun v3 => ((am_pLen v3 h).bind fun v5 => (if v5 ≤ x2 then (fg_127_59 h) else ((am_vR (am_pG 1549 x0 h)).bind fun v8 => ((am_pA 0 v8 x1 h).bind fun v10 => ((am_vR (am_pG 1549 x0 h)).bind fun v12 => ((am_pA 0 v12 x2 h).bind fun v14 => (if v10 ≤ v14 then (fg_127_59 h) else ((am_vR (am_pG 1549 x0 h)).bind fun v17 => ((am_pA 0 v17 x1 h).bind fun v19 => ((am_vR (am_pG 1549 x0 h)).bind fun v21 => ((am_vR (am_pG 1549 x0 h)).bind fun v23 => ((am_pA 0 v23 x2 h).bind fun v25 => ((am_pS 0 v21 x1 v25 h).bind fun h27 => ((am_vR (am_pG 1549 x0 h27)).bind fun v29 => ((am_pS 0 v29 x2 v19 h27).bind fun h31 => (fg_127_59 h31)))))))))))))))))))
theorem rg_127_0 {X : am_X} {d : Nat} {lv : am_LV} (x0 : Value) (x1 : Int32) (x2 : Int32) (h : am_H) (o : am_O) (l0 : lv.lookup 0 = some x0) (l1 : lv.lookup 1 = some (.int x1)) (l2 : lv.lookup 2 = some (.int x2)) (i0 : am_isR x0 = true) (hs : fg_127_0 x0 x1 x2 h = some o) : am_W X (d) 127 0 lv [] h (fun q => q = o) := by
  unfold fg_127_0 at hs
  refine aw_iload_n (pc1 := 1) at_127_0 l1 rfl ?_
  by_cases c1 : x1 < 0
  · rw [if_pos c1] at hs
    refine aw_iflt_t at_127_1 c1 ?_
    exact rg_127_59 h o   hs
  · rw [if_neg c1] at hs
    refine aw_iflt_f (pc1 := 4) at_127_1 c1 rfl ?_
    refine aw_iload_n (pc1 := 5) at_127_4 l1 rfl ?_
    refine aw_iload_n (pc1 := 6) at_127_5 l2 rfl ?_
    by_cases c2 : x2 ≤ x1
    · rw [if_pos c2] at hs
      refine aw_icge_t at_127_6 c2 ?_
      exact rg_127_59 h o   hs
    · rw [if_neg c2] at hs
      refine aw_icge_f (pc1 := 9) at_127_6 c2 rfl ?_
      refine aw_iload_n (pc1 := 10) at_127_9 l2 rfl ?_
      refine aw_vload_n (pc1 := 11) at_127_10 l0 i0 rfl ?_
      obtain ⟨v3, e4, hs1⟩ := am_bind hs
      clear hs
      refine aw_pG (pc1 := 14) at_127_11 (am_vR_s e4).1 rfl ?_
      obtain ⟨v5, e6, hs2⟩ := am_bind hs1
      clear hs1
      refine aw_pLen (pc1 := 15) at_127_14 e6 rfl ?_
      by_cases c7 : v5 ≤ x2
      · rw [if_pos c7] at hs2
        refine aw_icge_t at_127_15 c7 ?_
        exact rg_127_59 h o   hs2
      · rw [if_neg c7] at hs2
        refine aw_icge_f (pc1 := 18) at_127_15 c7 rfl ?_
        refine aw_vload_n (pc1 := 19) at_127_18 l0 i0 rfl ?_
        obtain ⟨v8, e9, hs3⟩ := am_bind hs2
        clear hs2
        refine aw_pG (pc1 := 22) at_127_19 (am_vR_s e9).1 rfl ?_
        refine aw_iload_n (pc1 := 23) at_127_22 l1 rfl ?_
        obtain ⟨v10, e11, hs4⟩ := am_bind hs3
        clear hs3
        refine aw_pA (pc1 := 24) at_127_23 (Or.inl ⟨rfl, rfl⟩) e11 rfl ?_
        refine aw_vload_n (pc1 := 25) at_127_24 l0 i0 rfl ?_
        obtain ⟨v12, e13, hs5⟩ := am_bind hs4
        clear hs4
        refine aw_pG (pc1 := 28) at_127_25 (am_vR_s e13).1 rfl ?_
        refine aw_iload_n (pc1 := 29) at_127_28 l2 rfl ?_
        obtain ⟨v14, e15, hs6⟩ := am_bind hs5
        clear hs5
        refine aw_pA (pc1 := 30) at_127_29 (Or.inl ⟨rfl, rfl⟩) e15 rfl ?_
        by_cases c16 : v10 ≤ v14
        · rw [if_pos c16] at hs6
          refine aw_icle_t at_127_30 c16 ?_
          exact rg_127_59 h o   hs6
        · rw [if_neg c16] at hs6
          refine aw_icle_f (pc1 := 33) at_127_30 c16 rfl ?_
          refine aw_vload_n (pc1 := 34) at_127_33 l0 i0 rfl ?_
          obtain ⟨v17, e18, hs7⟩ := am_bind hs6
          clear hs6
          refine aw_pG (pc1 := 37) at_127_34 (am_vR_s e18).1 rfl ?_
          refine aw_iload_n (pc1 := 38) at_127_37 l1 rfl ?_
          obtain ⟨v19, e20, hs8⟩ := am_bind hs7
          clear hs7
          refine aw_pA (pc1 := 39) at_127_38 (Or.inl ⟨rfl, rfl⟩) e20 rfl ?_
          refine aw_istore_n (lv1 := am_put1 _ 3 _) (pc1 := 40) at_127_39 rfl rfl ?_
          refine aw_vload_n (pc1 := 41) at_127_40 (am_lk1 l0 rfl rfl) i0 rfl ?_
          obtain ⟨v21, e22, hs9⟩ := am_bind hs8
          clear hs8
          refine aw_pG (pc1 := 44) at_127_41 (am_vR_s e22).1 rfl ?_
          refine aw_iload_n (pc1 := 45) at_127_44 (am_lk1 l1 rfl rfl) rfl ?_
          refine aw_vload_n (pc1 := 46) at_127_45 (am_lk1 l0 rfl rfl) i0 rfl ?_
          obtain ⟨v23, e24, hs10⟩ := am_bind hs9
          clear hs9
          refine aw_pG (pc1 := 49) at_127_46 (am_vR_s e24).1 rfl ?_
          refine aw_iload_n (pc1 := 50) at_127_49 (am_lk1 l2 rfl rfl) rfl ?_
          obtain ⟨v25, e26, hs11⟩ := am_bind hs10
          clear hs10
          refine aw_pA (pc1 := 51) at_127_50 (Or.inl ⟨rfl, rfl⟩) e26 rfl ?_
          obtain ⟨h27, e28, hs12⟩ := am_bind hs11
          clear hs11
          refine aw_pS (pc1 := 52) at_127_51 (Or.inl ⟨rfl, rfl⟩) e28 rfl ?_
          refine aw_vload_n (pc1 := 53) at_127_52 (am_lk1 l0 rfl rfl) i0 rfl ?_
          obtain ⟨v29, e30, hs13⟩ := am_bind hs12
          clear hs12
          refine aw_pG (pc1 := 56) at_127_53 (am_vR_s e30).1 rfl ?_
          refine aw_iload_n (pc1 := 57) at_127_56 (am_lk1 l2 rfl rfl) rfl ?_
          refine aw_iload_n (pc1 := 58) at_127_57 am_lk0 rfl ?_
          obtain ⟨h31, e32, hs14⟩ := am_bind hs13
          clear hs13
          refine aw_pS (pc1 := 59) at_127_58 (Or.inl ⟨rfl, rfl⟩) e32 rfl ?_
          exact rg_127_59 h31 o   hs14
def fm_127 (y0 : Value) (y1 : Int32) (y2 : Int32) (h : am_H) : Option am_O := fg_127_0 y0 y1 y2 h
theorem rm_127 {X : am_X} {d : Nat} (y0 : Value) (y1 : Int32) (y2 : Int32) (h : am_H) (o : am_O) (i0 : am_isR y0 = true) (hs : fm_127 y0 y1 y2 h = some o) : am_W X (d) 127 0 (am_args 0 [y0, .int y1, .int y2]) [] h (fun q => q = o) := by
  rw [am_args_R i0, am_args_I, am_args_I]
  exact rg_127_0 y0 y1 y2 h o rfl rfl rfl i0 hs
def fg_126_133 (N : Nat) (s0 : Int32) (h : am_H) : Option am_O := some (.inl (some (.int s0), h))
theorem rg_126_133 {X : am_X} {d : Nat} {N : Nat} {lv : am_LV} (s0 : Int32) (h : am_H) (o : am_O) (hs : fg_126_133 N s0 h = some o) : am_W X (d + 1) 126 133 lv [(.int s0)] h (fun q => q = o) := by
  unfold fg_126_133 at hs
  cases hs
  exact aw_iret at_126_133 (by rw [rt_126]; rfl) rfl
def fg_126_132 (N : Nat) (h : am_H) : Option am_O := (fg_126_133 N 0 h)
theorem rg_126_132 {X : am_X} {d : Nat} {N : Nat} {lv : am_LV} (h : am_H) (o : am_O) (hs : fg_126_132 N h = some o) : am_W X (d + 1) 126 132 lv [] h (fun q => q = o) := by
  unfold fg_126_132 at hs
  refine aw_iconst (v := 0) (pc1 := 133) at_126_132 (by decide) rfl ?_
  exact rg_126_133 0 h o   hs
def fg_126_98 (N : Nat) (x0 : Value) (h : am_H) : Option am_O := ((am_vR (am_pG 1540 x0 h)).bind fun v1 => ((am_vI (am_pG 770 v1 h)).bind fun v3 => (if ((v3 - 1) / 2) < 0 then (fg_126_132 N h) else ((am_vR (am_pG 1549 x0 h)).bind fun v6 => ((am_pLen v6 h).bind fun v8 => (if v8 ≤ ((v3 - 1) / 2) then (fg_126_132 N h) else ((am_vR (am_pG 1549 x0 h)).bind fun v11 => ((am_pA 0 v11 ((v3 - 1) / 2) h).bind fun v13 => (fg_126_133 N v13 h)))))))))
theorem rg_126_98 {X : am_X} {d : Nat} {N : Nat} {lv : am_LV} (x0 : Value) (h : am_H) (o : am_O) (l0 : lv.lookup 0 = some x0) (i0 : am_isR x0 = true) (hs : fg_126_98 N x0 h = some o) : am_W X (d + 1) 126 98 lv [] h (fun q => q = o) := by
  unfold fg_126_98 at hs
  refine aw_vload_n (pc1 := 99) at_126_98 l0 i0 rfl ?_
  obtain ⟨v1, e2, hs1⟩ := am_bind hs
  clear hs
  refine aw_pG (pc1 := 102) at_126_99 (am_vR_s e2).1 rfl ?_
  obtain ⟨v3, e4, hs2⟩ := am_bind hs1
  clear hs1
  refine aw_pG (pc1 := 105) at_126_102 (am_vI_s e4) rfl ?_
  refine aw_iconst (v := 1) (pc1 := 106) at_126_105 (by decide) rfl ?_
  refine aw_isub (v := (v3 - 1)) (pc1 := 107) at_126_106 rfl rfl ?_
  refine aw_iconst (v := 2) (pc1 := 108) at_126_107 (by decide) rfl ?_
  refine aw_idiv (v := ((v3 - 1) / 2)) (pc1 := 109) at_126_108 (by decide) rfl rfl ?_
  refine aw_istore_n (lv1 := am_put1 _ 1 _) (pc1 := 110) at_126_109 rfl rfl ?_
  refine aw_iload_n (pc1 := 111) at_126_110 am_lk0 rfl ?_
  by_cases c5 : ((v3 - 1) / 2) < 0
  · rw [if_pos c5] at hs2
    refine aw_iflt_t at_126_111 c5 ?_
    exact rg_126_132 h o   hs2
  · rw [if_neg c5] at hs2
    refine aw_iflt_f (pc1 := 114) at_126_111 c5 rfl ?_
    refine aw_iload_n (pc1 := 115) at_126_114 am_lk0 rfl ?_
    refine aw_vload_n (pc1 := 116) at_126_115 (am_lk1 l0 rfl (by rw [am_isRc i0]; rfl)) i0 rfl ?_
    obtain ⟨v6, e7, hs3⟩ := am_bind hs2
    clear hs2
    refine aw_pG (pc1 := 119) at_126_116 (am_vR_s e7).1 rfl ?_
    obtain ⟨v8, e9, hs4⟩ := am_bind hs3
    clear hs3
    refine aw_pLen (pc1 := 120) at_126_119 e9 rfl ?_
    by_cases c10 : v8 ≤ ((v3 - 1) / 2)
    · rw [if_pos c10] at hs4
      refine aw_icge_t at_126_120 c10 ?_
      exact rg_126_132 h o   hs4
    · rw [if_neg c10] at hs4
      refine aw_icge_f (pc1 := 123) at_126_120 c10 rfl ?_
      refine aw_vload_n (pc1 := 124) at_126_123 (am_lk1 l0 rfl (by rw [am_isRc i0]; rfl)) i0 rfl ?_
      obtain ⟨v11, e12, hs5⟩ := am_bind hs4
      clear hs4
      refine aw_pG (pc1 := 127) at_126_124 (am_vR_s e12).1 rfl ?_
      refine aw_iload_n (pc1 := 128) at_126_127 am_lk0 rfl ?_
      obtain ⟨v13, e14, hs6⟩ := am_bind hs5
      clear hs5
      refine aw_pA (pc1 := 129) at_126_128 (Or.inl ⟨rfl, rfl⟩) e14 rfl ?_
      refine aw_goto at_126_129 ?_
      exact rg_126_133 v13 h o   hs6
def fg_126_92 (N : Nat) (rec_45 : Value → Int32 → am_H → Option am_O) (x0 : Value) (x1 : Int32) (h : am_H) : Option am_O := (rec_45 x0 ((x1 + 1)) h)
theorem rg_126_92 {X : am_X} {d : Nat} {N : Nat} {rec_45 : Value → Int32 → am_H → Option am_O} (q_45 : ∀ (x0 : Value) (x1 : Int32) (h : am_H) (o : am_O), rec_45 x0 x1 h = some o → ∀ lv : am_LV, (lv.lookup 0 = some x0) → (lv.lookup 1 = some (.int x1)) → (am_isR x0 = true) → am_W X (d + 1) 126 45 lv [] h (fun q => q = o)) {lv : am_LV} (x0 : Value) (x1 : Int32) (h : am_H) (o : am_O) (l0 : lv.lookup 0 = some x0) (l1 : lv.lookup 1 = some (.int x1)) (i0 : am_isR x0 = true) (hs : fg_126_92 N rec_45 x0 x1 h = some o) : am_W X (d + 1) 126 92 lv [] h (fun q => q = o) := by
  unfold fg_126_92 at hs
  refine aw_iinc (v := (x1 + 1)) (c := 1) (lv1 := am_put1 _ 1 _) (pc1 := 95) at_126_92 l1 (by decide) rfl rfl rfl ?_
  refine aw_goto at_126_95 ?_
  exact q_45 x0 ((x1 + 1)) h o hs _ (am_lk1 l0 rfl (by rw [am_isRc i0]; rfl)) am_lk0 i0
def fg_126_45 (N : Nat) : Nat → Value → Int32 → am_H → Option am_O
  | 0 => fun _ _ _ => none
  | K + 1 => fun x0 x1 h => ((am_vR (am_pG 1540 x0 h)).bind fun v1 => ((am_vI (am_pG 771 v1 h)).bind fun v3 => (if v3 ≤ x1 then (fg_126_98 N x0 h) else ((am_vI (am_pG 1537 x0 h)).bind fun v6 => (if ¬ v6 = 0 then (fg_126_98 N x0 h) else (if am_pOk 6 x0 h then am_cI true (fm_118 x0 h) (fun v10 h11 => (if v10 = 0 then (fg_126_92 N (fg_126_45 N K) x0 x1 h11) else ((am_vR (am_pG 1540 x0 h11)).bind fun v14 => (if am_pOk 3 v14 h11 then am_cI true (fm_54 v14 x1 0 h11) (fun v17 h18 => ((am_vR (am_pG 1540 x0 h18)).bind fun v20 => (if am_pOk 3 v20 h18 then am_cI true (fm_54 v20 x1 1 h18) (fun v23 h24 => (if am_pOk 6 x0 h24 then am_cV true (fm_127 x0 v17 v23 h24) (fun h28 => (fg_126_92 N (fg_126_45 N K) x0 x1 h28)) else none)) else none))) else none)))) else none))))))
theorem rg_126_45 {X : am_X} {d : Nat} {N : Nat} : ∀ (K : Nat) (x0 : Value) (x1 : Int32) (h : am_H) (o : am_O), fg_126_45 N K x0 x1 h = some o → ∀ lv : am_LV, (lv.lookup 0 = some x0) → (lv.lookup 1 = some (.int x1)) → (am_isR x0 = true) → am_W X (d + 1) 126 45 lv [] h (fun q => q = o) := by
  intro K
  induction K with
  | zero => intro x0 x1 h o hs; cases hs
  | succ K ih =>
    intro x0 x1 h o hs lv l0 l1 i0
    unfold fg_126_45 at hs
    refine aw_iload_n (pc1 := 46) at_126_45 l1 rfl ?_
    refine aw_vload_n (pc1 := 47) at_126_46 l0 i0 rfl ?_
    obtain ⟨v1, e2, hs1⟩ := am_bind hs
    clear hs
    refine aw_pG (pc1 := 50) at_126_47 (am_vR_s e2).1 rfl ?_
    obtain ⟨v3, e4, hs2⟩ := am_bind hs1
    clear hs1
    refine aw_pG (pc1 := 53) at_126_50 (am_vI_s e4) rfl ?_
    by_cases c5 : v3 ≤ x1
    · rw [if_pos c5] at hs2
      refine aw_icge_t at_126_53 c5 ?_
      exact rg_126_98 x0 h o l0 i0 hs2
    · rw [if_neg c5] at hs2
      refine aw_icge_f (pc1 := 56) at_126_53 c5 rfl ?_
      refine aw_vload_n (pc1 := 57) at_126_56 l0 i0 rfl ?_
      obtain ⟨v6, e7, hs3⟩ := am_bind hs2
      clear hs2
      refine aw_pG (pc1 := 60) at_126_57 (am_vI_s e7) rfl ?_
      by_cases c8 : ¬ v6 = 0
      · rw [if_pos c8] at hs3
        refine aw_ifne_t at_126_60 c8 ?_
        exact rg_126_98 x0 h o l0 i0 hs3
      · rw [if_neg c8] at hs3
        refine aw_ifne_f (pc1 := 63) at_126_60 c8 rfl ?_
        refine aw_vload_n (pc1 := 64) at_126_63 l0 i0 rfl ?_
        obtain ⟨z9, hs4⟩ := am_ift hs3
        clear hs3
        refine aw_call (F := fm_118 x0 h) (t := true) (na := 1) (kd := 1) (as := [x0]) at_126_64 (am_k3v kb_118) mn_118 mk_118 rfl rfl (am_ok_v mi_118 (am_hl rfl (am_ccR i0 am_cats_0) rfl) z9) (am_hc am_cats_0 rfl) (fun _ => ⟨rfl, hh_126⟩) (fun o1 hz9 => rm_118 x0 h o1 i0 hz9) ?_
        rcases am_cI_s hs4 with ⟨v10, h11, f12, hs5⟩ | hs5
        · clear hs4
          refine Or.inl ⟨_, _, f12, ?_⟩
          show am_W X _ 126 67 _ [(.int v10)] h11 _
          by_cases c13 : v10 = 0
          · rw [if_pos c13] at hs5
            refine aw_ifeq_t at_126_67 c13 ?_
            exact rg_126_92 (fun z0 z1 h o hs5 => ih z0 z1 h o hs5) x0 x1 h11 o l0 l1 i0 hs5
          · rw [if_neg c13] at hs5
            refine aw_ifeq_f (pc1 := 70) at_126_67 c13 rfl ?_
            refine aw_vload_n (pc1 := 71) at_126_70 l0 i0 rfl ?_
            refine aw_vload_n (pc1 := 72) at_126_71 l0 i0 rfl ?_
            obtain ⟨v14, e15, hs6⟩ := am_bind hs5
            clear hs5
            refine aw_pG (pc1 := 75) at_126_72 (am_vR_s e15).1 rfl ?_
            refine aw_iload_n (pc1 := 76) at_126_75 l1 rfl ?_
            refine aw_iconst (v := 0) (pc1 := 77) at_126_76 (by decide) rfl ?_
            obtain ⟨z16, hs7⟩ := am_ift hs6
            clear hs6
            refine aw_call (F := fm_54 v14 x1 0 h11) (t := true) (na := 3) (kd := 1) (as := [v14, (.int x1), (.int 0)]) at_126_77 (am_k3v kb_54) mn_54 mk_54 rfl rfl (am_ok_v mi_54 (am_hl rfl (am_ccR (am_vR_s e15).2 (am_ccI (am_ccI am_cats_0))) rfl) z16) (am_hc (am_ccR i0 am_cats_0) rfl) (fun _ => ⟨rfl, hh_126⟩) (fun o1 hz9 => rm_54 v14 x1 0 h11 o1 (am_vR_s e15).2 hz9) ?_
            rcases am_cI_s hs7 with ⟨v17, h18, f19, hs8⟩ | hs8
            · clear hs7
              refine Or.inl ⟨_, _, f19, ?_⟩
              show am_W X _ 126 80 _ [(.int v17), x0] h18 _
              refine aw_vload_n (pc1 := 81) at_126_80 l0 i0 rfl ?_
              obtain ⟨v20, e21, hs9⟩ := am_bind hs8
              clear hs8
              refine aw_pG (pc1 := 84) at_126_81 (am_vR_s e21).1 rfl ?_
              refine aw_iload_n (pc1 := 85) at_126_84 l1 rfl ?_
              refine aw_iconst (v := 1) (pc1 := 86) at_126_85 (by decide) rfl ?_
              obtain ⟨z22, hs10⟩ := am_ift hs9
              clear hs9
              refine aw_call (F := fm_54 v20 x1 1 h18) (t := true) (na := 3) (kd := 1) (as := [v20, (.int x1), (.int 1)]) at_126_86 (am_k3v kb_54) mn_54 mk_54 rfl rfl (am_ok_v mi_54 (am_hl rfl (am_ccR (am_vR_s e21).2 (am_ccI (am_ccI am_cats_0))) rfl) z22) (am_hc (am_ccI (am_ccR i0 am_cats_0)) rfl) (fun _ => ⟨rfl, hh_126⟩) (fun o1 hz9 => rm_54 v20 x1 1 h18 o1 (am_vR_s e21).2 hz9) ?_
              rcases am_cI_s hs10 with ⟨v23, h24, f25, hs11⟩ | hs11
              · clear hs10
                refine Or.inl ⟨_, _, f25, ?_⟩
                show am_W X _ 126 89 _ [(.int v23), (.int v17), x0] h24 _
                obtain ⟨z26, hs12⟩ := am_ift hs11
                clear hs11
                refine aw_call (F := fm_127 x0 v17 v23 h24) (t := true) (na := 3) (kd := 1) (as := [x0, (.int v17), (.int v23)]) at_126_89 (am_k3v kb_127) mn_127 mk_127 rfl rfl (am_ok_v mi_127 (am_hl rfl (am_ccR i0 (am_ccI (am_ccI am_cats_0))) rfl) z26) (am_hc am_cats_0 rfl) (fun _ => ⟨rfl, hh_126⟩) (fun o1 hz9 => rm_127 x0 v17 v23 h24 o1 i0 hz9) ?_
                rcases am_cV_s hs12 with ⟨h28, f29, hs13⟩ | hs13
                · clear hs12
                  refine Or.inl ⟨_, _, f29, ?_⟩
                  show am_W X _ 126 92 _ [] h28 _
                  exact rg_126_92 (fun z0 z1 h o hs13 => ih z0 z1 h o hs13) x0 x1 h28 o l0 l1 i0 hs13
                · clear hs12
                  exact Or.inr hs13
              · clear hs10
                exact Or.inr hs11
            · clear hs7
              exact Or.inr hs8
        · clear hs4
          exact Or.inr hs5
def fg_126_36 (N : Nat) (rec_7 : Value → Int32 → am_H → Option am_O) (x0 : Value) (x1 : Int32) (s0 : Value) (s1 : Int32) (s2 : Int32) (h : am_H) : Option am_O := ((am_pS 0 s0 s1 s2 h).bind fun h1 => (rec_7 x0 ((x1 + 1)) h1))
theorem rg_126_36 {X : am_X} {d : Nat} {N : Nat} {rec_7 : Value → Int32 → am_H → Option am_O} (q_7 : ∀ (x0 : Value) (x1 : Int32) (h : am_H) (o : am_O), rec_7 x0 x1 h = some o → ∀ lv : am_LV, (lv.lookup 0 = some x0) → (lv.lookup 1 = some (.int x1)) → (am_isR x0 = true) → am_W X (d + 1) 126 7 lv [] h (fun q => q = o)) {lv : am_LV} (x0 : Value) (x1 : Int32) (s0 : Value) (s1 : Int32) (s2 : Int32) (h : am_H) (o : am_O) (l0 : lv.lookup 0 = some x0) (l1 : lv.lookup 1 = some (.int x1)) (i0 : am_isR x0 = true) (j0 : am_isR s0 = true) (hs : fg_126_36 N rec_7 x0 x1 s0 s1 s2 h = some o) : am_W X (d + 1) 126 36 lv [(.int s2), (.int s1), s0] h (fun q => q = o) := by
  unfold fg_126_36 at hs
  obtain ⟨h1, e2, hs1⟩ := am_bind hs
  clear hs
  refine aw_pS (pc1 := 37) at_126_36 (Or.inl ⟨rfl, rfl⟩) e2 rfl ?_
  refine aw_iinc (v := (x1 + 1)) (c := 1) (lv1 := am_put1 _ 1 _) (pc1 := 40) at_126_37 l1 (by decide) rfl rfl rfl ?_
  refine aw_goto at_126_40 ?_
  exact q_7 x0 ((x1 + 1)) h1 o hs1 _ (am_lk1 l0 rfl (by rw [am_isRc i0]; rfl)) am_lk0 i0
def fg_126_7 (N : Nat) : Nat → Value → Int32 → am_H → Option am_O
  | 0 => fun _ _ _ => none
  | K + 1 => fun x0 x1 h => (if 8 ≤ x1 then (fg_126_45 N N x0 0 h) else ((am_vR (am_pG 1549 x0 h)).bind fun v2 => ((am_vI (am_pG 1546 x0 h)).bind fun v4 => (if v4 ≤ x1 then (fg_126_36 N (fg_126_7 N K) x0 x1 v2 x1 0 h) else ((am_vR (am_pG 1545 x0 h)).bind fun v7 => ((am_pA 0 v7 x1 h).bind fun v9 => (fg_126_36 N (fg_126_7 N K) x0 x1 v2 x1 v9 h)))))))
theorem rg_126_7 {X : am_X} {d : Nat} {N : Nat} : ∀ (K : Nat) (x0 : Value) (x1 : Int32) (h : am_H) (o : am_O), fg_126_7 N K x0 x1 h = some o → ∀ lv : am_LV, (lv.lookup 0 = some x0) → (lv.lookup 1 = some (.int x1)) → (am_isR x0 = true) → am_W X (d + 1) 126 7 lv [] h (fun q => q = o) := by
  intro K
  induction K with
  | zero => intro x0 x1 h o hs; cases hs
  | succ K ih =>
    intro x0 x1 h o hs lv l0 l1 i0
    unfold fg_126_7 at hs
    refine aw_iload_n (pc1 := 8) at_126_7 l1 rfl ?_
    refine aw_bipush (v := 8) (pc1 := 10) at_126_8 (by decide) rfl ?_
    by_cases c1 : 8 ≤ x1
    · rw [if_pos c1] at hs
      refine aw_icge_t at_126_10 c1 ?_
      refine aw_iconst (v := 0) (pc1 := 44) at_126_43 (by decide) rfl ?_
      refine aw_istore_n (lv1 := am_put1 _ 1 _) (pc1 := 45) at_126_44 rfl rfl ?_
      exact rg_126_45 N x0 0 h o hs _ (am_lk1 l0 rfl (by rw [am_isRc i0]; rfl)) am_lk0 i0
    · rw [if_neg c1] at hs
      refine aw_icge_f (pc1 := 13) at_126_10 c1 rfl ?_
      refine aw_vload_n (pc1 := 14) at_126_13 l0 i0 rfl ?_
      obtain ⟨v2, e3, hs1⟩ := am_bind hs
      clear hs
      refine aw_pG (pc1 := 17) at_126_14 (am_vR_s e3).1 rfl ?_
      refine aw_iload_n (pc1 := 18) at_126_17 l1 rfl ?_
      refine aw_iload_n (pc1 := 19) at_126_18 l1 rfl ?_
      refine aw_vload_n (pc1 := 20) at_126_19 l0 i0 rfl ?_
      obtain ⟨v4, e5, hs2⟩ := am_bind hs1
      clear hs1
      refine aw_pG (pc1 := 23) at_126_20 (am_vI_s e5) rfl ?_
      by_cases c6 : v4 ≤ x1
      · rw [if_pos c6] at hs2
        refine aw_icge_t at_126_23 c6 ?_
        refine aw_iconst (v := 0) (pc1 := 36) at_126_35 (by decide) rfl ?_
        exact rg_126_36 (fun z0 z1 h o hs2 => ih z0 z1 h o hs2) x0 x1 v2 x1 0 h o l0 l1 i0 (am_vR_s e3).2 hs2
      · rw [if_neg c6] at hs2
        refine aw_icge_f (pc1 := 26) at_126_23 c6 rfl ?_
        refine aw_vload_n (pc1 := 27) at_126_26 l0 i0 rfl ?_
        obtain ⟨v7, e8, hs3⟩ := am_bind hs2
        clear hs2
        refine aw_pG (pc1 := 30) at_126_27 (am_vR_s e8).1 rfl ?_
        refine aw_iload_n (pc1 := 31) at_126_30 l1 rfl ?_
        obtain ⟨v9, e10, hs4⟩ := am_bind hs3
        clear hs3
        refine aw_pA (pc1 := 32) at_126_31 (Or.inl ⟨rfl, rfl⟩) e10 rfl ?_
        refine aw_goto at_126_32 ?_
        exact rg_126_36 (fun z0 z1 h o hs4 => ih z0 z1 h o hs4) x0 x1 v2 x1 v9 h o l0 l1 i0 (am_vR_s e3).2 hs4
def fg_126_0 (N : Nat) (x0 : Value) (h : am_H) : Option am_O := (if am_pOk 6 x0 h then am_cI true (fm_118 x0 h) (fun v2 h3 => (fg_126_7 N N x0 0 h3)) else none)
theorem rg_126_0 {X : am_X} {d : Nat} {N : Nat} {lv : am_LV} (x0 : Value) (h : am_H) (o : am_O) (l0 : lv.lookup 0 = some x0) (i0 : am_isR x0 = true) (hs : fg_126_0 N x0 h = some o) : am_W X (d + 1) 126 0 lv [] h (fun q => q = o) := by
  unfold fg_126_0 at hs
  refine aw_vload_n (pc1 := 1) at_126_0 l0 i0 rfl ?_
  obtain ⟨z1, hs1⟩ := am_ift hs
  clear hs
  refine aw_call (F := fm_118 x0 h) (t := true) (na := 1) (kd := 1) (as := [x0]) at_126_1 (am_k3v kb_118) mn_118 mk_118 rfl rfl (am_ok_v mi_118 (am_hl rfl (am_ccR i0 am_cats_0) rfl) z1) (am_hc am_cats_0 rfl) (fun _ => ⟨rfl, hh_126⟩) (fun o1 hz9 => rm_118 x0 h o1 i0 hz9) ?_
  rcases am_cI_s hs1 with ⟨v2, h3, f4, hs2⟩ | hs2
  · clear hs1
    refine Or.inl ⟨_, _, f4, ?_⟩
    show am_W X _ 126 4 _ [(.int v2)] h3 _
    refine aw_popi (pc1 := 5) at_126_4 rfl ?_
    refine aw_iconst (v := 0) (pc1 := 6) at_126_5 (by decide) rfl ?_
    refine aw_istore_n (lv1 := am_put1 _ 1 _) (pc1 := 7) at_126_6 rfl rfl ?_
    exact rg_126_7 N x0 0 h3 o hs2 _ (am_lk1 l0 rfl (by rw [am_isRc i0]; rfl)) am_lk0 i0
  · clear hs1
    exact Or.inr hs2
def fm_126 (N : Nat) (y0 : Value) (h : am_H) : Option am_O := fg_126_0 N y0 h
theorem rm_126 {X : am_X} {d : Nat} {N : Nat} (y0 : Value) (h : am_H) (o : am_O) (i0 : am_isR y0 = true) (hs : fm_126 N y0 h = some o) : am_W X (d + 1) 126 0 (am_args 0 [y0]) [] h (fun q => q = o) := by
  rw [am_args_R i0]
  exact rg_126_0 y0 h o rfl i0 hs
def fg_116_164 (N : Nat) (s0 : Value) (s1 : Int32) (h : am_H) : Option am_O := ((am_pP 1539 s0 (.int s1) h).bind fun h1 => some (.inl (none, h1)))
theorem rg_116_164 {X : am_X} {d : Nat} {N : Nat} {lv : am_LV} (s0 : Value) (s1 : Int32) (h : am_H) (o : am_O) (j0 : am_isR s0 = true) (hs : fg_116_164 N s0 s1 h = some o) : am_W X (d + 81) 116 164 lv [(.int s1), s0] h (fun q => q = o) := by
  unfold fg_116_164 at hs
  obtain ⟨h1, e2, hs1⟩ := am_bind hs
  clear hs
  refine aw_pP (pc1 := 167) at_116_164 e2 rfl ?_
  cases hs1
  exact aw_vret at_116_167 rt_116 rfl
def fg_116_150 (N : Nat) (x0 : Value) (s0 : Int32) (h : am_H) : Option am_O := ((am_vI (am_pG 1537 x0 h)).bind fun v1 => (if ¬ v1 = 0 then (fg_116_164 N x0 0 h) else (fg_116_164 N x0 s0 h)))
theorem rg_116_150 {X : am_X} {d : Nat} {N : Nat} {lv : am_LV} (x0 : Value) (s0 : Int32) (h : am_H) (o : am_O) (l0 : lv.lookup 0 = some x0) (i0 : am_isR x0 = true) (hs : fg_116_150 N x0 s0 h = some o) : am_W X (d + 81) 116 150 lv [(.int s0)] h (fun q => q = o) := by
  unfold fg_116_150 at hs
  refine aw_istore_n (lv1 := am_put1 _ 3 _) (pc1 := 151) at_116_150 rfl rfl ?_
  refine aw_vload_n (pc1 := 152) at_116_151 (am_lk1 l0 rfl rfl) i0 rfl ?_
  refine aw_vload_n (pc1 := 153) at_116_152 (am_lk1 l0 rfl rfl) i0 rfl ?_
  obtain ⟨v1, e2, hs1⟩ := am_bind hs
  clear hs
  refine aw_pG (pc1 := 156) at_116_153 (am_vI_s e2) rfl ?_
  by_cases c3 : ¬ v1 = 0
  · rw [if_pos c3] at hs1
    refine aw_ifne_t at_116_156 c3 ?_
    refine aw_iconst (v := 0) (pc1 := 164) at_116_163 (by decide) rfl ?_
    exact rg_116_164 x0 0 h o  i0 hs1
  · rw [if_neg c3] at hs1
    refine aw_ifne_f (pc1 := 159) at_116_156 c3 rfl ?_
    refine aw_iload_n (pc1 := 160) at_116_159 am_lk0 rfl ?_
    refine aw_goto at_116_160 ?_
    exact rg_116_164 x0 s0 h o  i0 hs1
def fg_116_35 (N : Nat) (h : am_H) : Option am_O := some (.inl (none, h))
theorem rg_116_35 {X : am_X} {d : Nat} {N : Nat} {lv : am_LV} (h : am_H) (o : am_O) (hs : fg_116_35 N h = some o) : am_W X (d + 81) 116 35 lv [] h (fun q => q = o) := by
  unfold fg_116_35 at hs
  cases hs
  exact aw_vret at_116_35 rt_116 rfl
def fg_116_0 (N : Nat) (x0 : Value) (x1 : Value) (x2 : Int32) (h : am_H) : Option am_O := ((am_pP 1537 x0 (.int 0) h).bind fun h1 => ((am_pP 1538 x0 (.int 0) h1).bind fun h3 => ((am_pP 1539 x0 (.int 0) h3).bind fun h5 => ((am_vR (am_pG 1540 x0 h5)).bind fun v7 => ((am_pZ v7).bind fun b9 => if b9 = true then (fg_116_35 N h5) else (if x2 < 0 then (fg_116_35 N h5) else ((am_pLen x1 h5).bind fun v12 => (if (x2 + 15) ≤ v12 then ((am_pA 0 x1 x2 h5).bind fun v15 => ((am_pP 1542 x0 (.int v15) h5).bind fun h17 => ((am_pA 0 x1 (x2 + 1) h17).bind fun v19 => ((am_pP 1543 x0 (.int v19) h17).bind fun h21 => ((am_pA 0 x1 (x2 + 2) h21).bind fun v23 => ((am_pP 1544 x0 (.int v23) h21).bind fun h25 => ((am_pA 0 x1 (x2 + 6) h25).bind fun v27 => am_cI false (fm_38 v27 8 h25) (fun v29 h30 => ((am_pP 1546 x0 (.int v29) h30).bind fun h32 => ((am_vR (am_pG 1545 x0 h32)).bind fun v34 => ((am_pCpy x1 (x2 + 7) v34 0 8 h32).bind fun h36 => ((am_vR (am_pG 1540 x0 h36)).bind fun v38 => ((am_vI (am_pG 769 v38 h36)).bind fun v40 => (if ¬ v40 = 0 then ((am_vR (am_pG 1540 x0 h36)).bind fun v43 => ((am_vI (am_pG 769 v43 h36)).bind fun v45 => (if ¬ v45 = 1 then ((am_vR (am_pG 1540 x0 h36)).bind fun v48 => ((am_vI (am_pG 769 v48 h36)).bind fun v50 => (if ¬ v50 = 2 then (if am_pOk 6 x0 h36 then am_cI true (fm_126 N x0 h36) (fun v54 h55 => (fg_116_150 N x0 v54 h55)) else none) else (if am_pOk 6 x0 h36 then am_cI true (fm_124 N x0 h36) (fun v58 h59 => (fg_116_150 N x0 v58 h59)) else none)))) else (if am_pOk 6 x0 h36 then am_cI true (fm_123 N x0 h36) (fun v62 h63 => (fg_116_150 N x0 v62 h63)) else none)))) else (if am_pOk 6 x0 h36 then am_cI true (fm_117 N x0 0 1 h36) (fun v66 h67 => (fg_116_150 N x0 v66 h67)) else none))))))))))))))) else (fg_116_35 N h5)))))))))
theorem rg_116_0 {X : am_X} {d : Nat} {N : Nat} {lv : am_LV} (x0 : Value) (x1 : Value) (x2 : Int32) (h : am_H) (o : am_O) (l0 : lv.lookup 0 = some x0) (l1 : lv.lookup 1 = some x1) (l2 : lv.lookup 2 = some (.int x2)) (i0 : am_isR x0 = true) (i1 : am_isR x1 = true) (hs : fg_116_0 N x0 x1 x2 h = some o) : am_W X (d + 81) 116 0 lv [] h (fun q => q = o) := by
  unfold fg_116_0 at hs
  refine aw_vload_n (pc1 := 1) at_116_0 l0 i0 rfl ?_
  refine aw_iconst (v := 0) (pc1 := 2) at_116_1 (by decide) rfl ?_
  obtain ⟨h1, e2, hs1⟩ := am_bind hs
  clear hs
  refine aw_pP (pc1 := 5) at_116_2 e2 rfl ?_
  refine aw_vload_n (pc1 := 6) at_116_5 l0 i0 rfl ?_
  refine aw_iconst (v := 0) (pc1 := 7) at_116_6 (by decide) rfl ?_
  obtain ⟨h3, e4, hs2⟩ := am_bind hs1
  clear hs1
  refine aw_pP (pc1 := 10) at_116_7 e4 rfl ?_
  refine aw_vload_n (pc1 := 11) at_116_10 l0 i0 rfl ?_
  refine aw_iconst (v := 0) (pc1 := 12) at_116_11 (by decide) rfl ?_
  obtain ⟨h5, e6, hs3⟩ := am_bind hs2
  clear hs2
  refine aw_pP (pc1 := 15) at_116_12 e6 rfl ?_
  refine aw_vload_n (pc1 := 16) at_116_15 l0 i0 rfl ?_
  obtain ⟨v7, e8, hs4⟩ := am_bind hs3
  clear hs3
  refine aw_pG (pc1 := 19) at_116_16 (am_vR_s e8).1 rfl ?_
  obtain ⟨b9, e10, hs5⟩ := am_bind hs4
  clear hs4
  cases b9
  · rw [if_neg (by decide)] at hs5
    refine aw_pZf (pc1 := 22) at_116_19 e10 rfl ?_
    refine aw_iload_n (pc1 := 23) at_116_22 l2 rfl ?_
    by_cases c11 : x2 < 0
    · rw [if_pos c11] at hs5
      refine aw_iflt_t at_116_23 c11 ?_
      exact rg_116_35 h5 o   hs5
    · rw [if_neg c11] at hs5
      refine aw_iflt_f (pc1 := 26) at_116_23 c11 rfl ?_
      refine aw_iload_n (pc1 := 27) at_116_26 l2 rfl ?_
      refine aw_bipush (v := 15) (pc1 := 29) at_116_27 (by decide) rfl ?_
      refine aw_iadd (v := (x2 + 15)) (pc1 := 30) at_116_29 rfl rfl ?_
      refine aw_vload_n (pc1 := 31) at_116_30 l1 i1 rfl ?_
      obtain ⟨v12, e13, hs6⟩ := am_bind hs5
      clear hs5
      refine aw_pLen (pc1 := 32) at_116_31 e13 rfl ?_
      by_cases c14 : (x2 + 15) ≤ v12
      · rw [if_pos c14] at hs6
        refine aw_icle_t at_116_32 c14 ?_
        refine aw_vload_n (pc1 := 37) at_116_36 l0 i0 rfl ?_
        refine aw_vload_n (pc1 := 38) at_116_37 l1 i1 rfl ?_
        refine aw_iload_n (pc1 := 39) at_116_38 l2 rfl ?_
        obtain ⟨v15, e16, hs7⟩ := am_bind hs6
        clear hs6
        refine aw_pA (pc1 := 40) at_116_39 (Or.inl ⟨rfl, rfl⟩) e16 rfl ?_
        obtain ⟨h17, e18, hs8⟩ := am_bind hs7
        clear hs7
        refine aw_pP (pc1 := 43) at_116_40 e18 rfl ?_
        refine aw_vload_n (pc1 := 44) at_116_43 l0 i0 rfl ?_
        refine aw_vload_n (pc1 := 45) at_116_44 l1 i1 rfl ?_
        refine aw_iload_n (pc1 := 46) at_116_45 l2 rfl ?_
        refine aw_iconst (v := 1) (pc1 := 47) at_116_46 (by decide) rfl ?_
        refine aw_iadd (v := (x2 + 1)) (pc1 := 48) at_116_47 rfl rfl ?_
        obtain ⟨v19, e20, hs9⟩ := am_bind hs8
        clear hs8
        refine aw_pA (pc1 := 49) at_116_48 (Or.inl ⟨rfl, rfl⟩) e20 rfl ?_
        obtain ⟨h21, e22, hs10⟩ := am_bind hs9
        clear hs9
        refine aw_pP (pc1 := 52) at_116_49 e22 rfl ?_
        refine aw_vload_n (pc1 := 53) at_116_52 l0 i0 rfl ?_
        refine aw_vload_n (pc1 := 54) at_116_53 l1 i1 rfl ?_
        refine aw_iload_n (pc1 := 55) at_116_54 l2 rfl ?_
        refine aw_iconst (v := 2) (pc1 := 56) at_116_55 (by decide) rfl ?_
        refine aw_iadd (v := (x2 + 2)) (pc1 := 57) at_116_56 rfl rfl ?_
        obtain ⟨v23, e24, hs11⟩ := am_bind hs10
        clear hs10
        refine aw_pA (pc1 := 58) at_116_57 (Or.inl ⟨rfl, rfl⟩) e24 rfl ?_
        obtain ⟨h25, e26, hs12⟩ := am_bind hs11
        clear hs11
        refine aw_pP (pc1 := 61) at_116_58 e26 rfl ?_
        refine aw_vload_n (pc1 := 62) at_116_61 l0 i0 rfl ?_
        refine aw_vload_n (pc1 := 63) at_116_62 l1 i1 rfl ?_
        refine aw_iload_n (pc1 := 64) at_116_63 l2 rfl ?_
        refine aw_bipush (v := 6) (pc1 := 66) at_116_64 (by decide) rfl ?_
        refine aw_iadd (v := (x2 + 6)) (pc1 := 67) at_116_66 rfl rfl ?_
        obtain ⟨v27, e28, hs13⟩ := am_bind hs12
        clear hs12
        refine aw_pA (pc1 := 68) at_116_67 (Or.inl ⟨rfl, rfl⟩) e28 rfl ?_
        refine aw_bipush (v := 8) (pc1 := 70) at_116_68 (by decide) rfl ?_
        refine aw_call (F := fm_38 v27 8 h25) (t := false) (na := 2) (kd := 0) (as := [(.int v27), (.int 8)]) at_116_70 (am_k3s kb_38) mn_38 mk_38 rfl rfl (am_ok_s mi_38 (am_hl rfl (am_ccI (am_ccI am_cats_0)) rfl)) (am_hc (am_ccR i0 am_cats_0) rfl) (fun hz9 => by cases hz9) (fun o1 hz9 => rm_38 v27 8 h25 o1  hz9) ?_
        rcases am_cI_s hs13 with ⟨v29, h30, f31, hs14⟩ | hs14
        · clear hs13
          refine Or.inl ⟨_, _, f31, ?_⟩
          show am_W X _ 116 73 _ [(.int v29), x0] h30 _
          obtain ⟨h32, e33, hs15⟩ := am_bind hs14
          clear hs14
          refine aw_pP (pc1 := 76) at_116_73 e33 rfl ?_
          refine aw_vload_n (pc1 := 77) at_116_76 l1 i1 rfl ?_
          refine aw_iload_n (pc1 := 78) at_116_77 l2 rfl ?_
          refine aw_bipush (v := 7) (pc1 := 80) at_116_78 (by decide) rfl ?_
          refine aw_iadd (v := (x2 + 7)) (pc1 := 81) at_116_80 rfl rfl ?_
          refine aw_vload_n (pc1 := 82) at_116_81 l0 i0 rfl ?_
          obtain ⟨v34, e35, hs16⟩ := am_bind hs15
          clear hs15
          refine aw_pG (pc1 := 85) at_116_82 (am_vR_s e35).1 rfl ?_
          refine aw_iconst (v := 0) (pc1 := 86) at_116_85 (by decide) rfl ?_
          refine aw_bipush (v := 8) (pc1 := 88) at_116_86 (by decide) rfl ?_
          obtain ⟨h36, e37, hs17⟩ := am_bind hs16
          clear hs16
          refine aw_pCpy at_116_88 rfl e37 (am_hc am_cats_0 rfl) ?_
          refine aw_vload_n (pc1 := 92) at_116_91 l0 i0 rfl ?_
          obtain ⟨v38, e39, hs18⟩ := am_bind hs17
          clear hs17
          refine aw_pG (pc1 := 95) at_116_92 (am_vR_s e39).1 rfl ?_
          obtain ⟨v40, e41, hs19⟩ := am_bind hs18
          clear hs18
          refine aw_pG (pc1 := 98) at_116_95 (am_vI_s e41) rfl ?_
          by_cases c42 : ¬ v40 = 0
          · rw [if_pos c42] at hs19
            refine aw_ifne_t at_116_98 c42 ?_
            refine aw_vload_n (pc1 := 111) at_116_110 l0 i0 rfl ?_
            obtain ⟨v43, e44, hs20⟩ := am_bind hs19
            clear hs19
            refine aw_pG (pc1 := 114) at_116_111 (am_vR_s e44).1 rfl ?_
            obtain ⟨v45, e46, hs21⟩ := am_bind hs20
            clear hs20
            refine aw_pG (pc1 := 117) at_116_114 (am_vI_s e46) rfl ?_
            refine aw_iconst (v := 1) (pc1 := 118) at_116_117 (by decide) rfl ?_
            by_cases c47 : ¬ v45 = 1
            · rw [if_pos c47] at hs21
              refine aw_icne_t at_116_118 c47 ?_
              refine aw_vload_n (pc1 := 129) at_116_128 l0 i0 rfl ?_
              obtain ⟨v48, e49, hs22⟩ := am_bind hs21
              clear hs21
              refine aw_pG (pc1 := 132) at_116_129 (am_vR_s e49).1 rfl ?_
              obtain ⟨v50, e51, hs23⟩ := am_bind hs22
              clear hs22
              refine aw_pG (pc1 := 135) at_116_132 (am_vI_s e51) rfl ?_
              refine aw_iconst (v := 2) (pc1 := 136) at_116_135 (by decide) rfl ?_
              by_cases c52 : ¬ v50 = 2
              · rw [if_pos c52] at hs23
                refine aw_icne_t at_116_136 c52 ?_
                refine aw_vload_n (pc1 := 147) at_116_146 l0 i0 rfl ?_
                obtain ⟨z53, hs24⟩ := am_ift hs23
                clear hs23
                refine aw_call (F := fm_126 N x0 h36) (t := true) (na := 1) (kd := 1) (as := [x0]) at_116_147 (am_k3v kb_126) mn_126 mk_126 rfl rfl (am_ok_v mi_126 (am_hl rfl (am_ccR i0 am_cats_0) rfl) z53) (am_hc am_cats_0 rfl) (fun _ => ⟨rfl, hh_116⟩) (fun o1 hz9 => rm_126 x0 h36 o1 i0 hz9) ?_
                rcases am_cI_s hs24 with ⟨v54, h55, f56, hs25⟩ | hs25
                · clear hs24
                  refine Or.inl ⟨_, _, f56, ?_⟩
                  show am_W X _ 116 150 _ [(.int v54)] h55 _
                  exact rg_116_150 x0 v54 h55 o l0 i0 hs25
                · clear hs24
                  exact Or.inr hs25
              · rw [if_neg c52] at hs23
                refine aw_icne_f (pc1 := 139) at_116_136 c52 rfl ?_
                refine aw_vload_n (pc1 := 140) at_116_139 l0 i0 rfl ?_
                obtain ⟨z57, hs26⟩ := am_ift hs23
                clear hs23
                refine aw_call (F := fm_124 N x0 h36) (t := true) (na := 1) (kd := 1) (as := [x0]) at_116_140 (am_k3v kb_124) mn_124 mk_124 rfl rfl (am_ok_v mi_124 (am_hl rfl (am_ccR i0 am_cats_0) rfl) z57) (am_hc am_cats_0 rfl) (fun _ => ⟨rfl, hh_116⟩) (fun o1 hz9 => rm_124 x0 h36 o1 i0 hz9) ?_
                rcases am_cI_s hs26 with ⟨v58, h59, f60, hs27⟩ | hs27
                · clear hs26
                  refine Or.inl ⟨_, _, f60, ?_⟩
                  show am_W X _ 116 143 _ [(.int v58)] h59 _
                  refine aw_goto at_116_143 ?_
                  exact rg_116_150 x0 v58 h59 o l0 i0 hs27
                · clear hs26
                  exact Or.inr hs27
            · rw [if_neg c47] at hs21
              refine aw_icne_f (pc1 := 121) at_116_118 c47 rfl ?_
              refine aw_vload_n (pc1 := 122) at_116_121 l0 i0 rfl ?_
              obtain ⟨z61, hs28⟩ := am_ift hs21
              clear hs21
              refine aw_call (F := fm_123 N x0 h36) (t := true) (na := 1) (kd := 1) (as := [x0]) at_116_122 (am_k3v kb_123) mn_123 mk_123 rfl rfl (am_ok_v mi_123 (am_hl rfl (am_ccR i0 am_cats_0) rfl) z61) (am_hc am_cats_0 rfl) (fun _ => ⟨rfl, hh_116⟩) (fun o1 hz9 => rm_123 x0 h36 o1 i0 hz9) ?_
              rcases am_cI_s hs28 with ⟨v62, h63, f64, hs29⟩ | hs29
              · clear hs28
                refine Or.inl ⟨_, _, f64, ?_⟩
                show am_W X _ 116 125 _ [(.int v62)] h63 _
                refine aw_goto at_116_125 ?_
                exact rg_116_150 x0 v62 h63 o l0 i0 hs29
              · clear hs28
                exact Or.inr hs29
          · rw [if_neg c42] at hs19
            refine aw_ifne_f (pc1 := 101) at_116_98 c42 rfl ?_
            refine aw_vload_n (pc1 := 102) at_116_101 l0 i0 rfl ?_
            refine aw_iconst (v := 0) (pc1 := 103) at_116_102 (by decide) rfl ?_
            refine aw_iconst (v := 1) (pc1 := 104) at_116_103 (by decide) rfl ?_
            obtain ⟨z65, hs30⟩ := am_ift hs19
            clear hs19
            refine aw_call (F := fm_117 N x0 0 1 h36) (t := true) (na := 3) (kd := 1) (as := [x0, (.int 0), (.int 1)]) at_116_104 (am_k3v kb_117) mn_117 mk_117 rfl rfl (am_ok_v mi_117 (am_hl rfl (am_ccR i0 (am_ccI (am_ccI am_cats_0))) rfl) z65) (am_hc am_cats_0 rfl) (fun _ => ⟨rfl, hh_116⟩) (fun o1 hz9 => rm_117 x0 0 1 h36 o1 i0 hz9) ?_
            rcases am_cI_s hs30 with ⟨v66, h67, f68, hs31⟩ | hs31
            · clear hs30
              refine Or.inl ⟨_, _, f68, ?_⟩
              show am_W X _ 116 107 _ [(.int v66)] h67 _
              refine aw_goto at_116_107 ?_
              exact rg_116_150 x0 v66 h67 o l0 i0 hs31
            · clear hs30
              exact Or.inr hs31
        · clear hs13
          exact Or.inr hs14
      · rw [if_neg c14] at hs6
        refine aw_icle_f (pc1 := 35) at_116_32 c14 rfl ?_
        exact rg_116_35 h5 o   hs6
  · rw [if_pos rfl] at hs5
    refine aw_pZt at_116_19 e10 ?_
    exact rg_116_35 h5 o   hs5
def fm_116 (N : Nat) (y0 : Value) (y1 : Value) (y2 : Int32) (h : am_H) : Option am_O := fg_116_0 N y0 y1 y2 h
theorem rm_116 {X : am_X} {d : Nat} {N : Nat} (y0 : Value) (y1 : Value) (y2 : Int32) (h : am_H) (o : am_O) (i0 : am_isR y0 = true) (i1 : am_isR y1 = true) (hs : fm_116 N y0 y1 y2 h = some o) : am_W X (d + 81) 116 0 (am_args 0 [y0, y1, .int y2]) [] h (fun q => q = o) := by
  rw [am_args_R i0, am_args_R i1, am_args_I]
  exact rg_116_0 y0 y1 y2 h o rfl rfl rfl i0 i1 hs
def fg_128_0 (x0 : Value) (h : am_H) : Option am_O := ((am_vR (am_pG 2819 x0 h)).bind fun v1 => ((am_vR (am_pG 514 v1 h)).bind fun v3 => ((am_vI (am_pG 1539 v3 h)).bind fun v5 => ((am_pP 2828 x0 (.int v5) h).bind fun h7 => ((am_vR (am_pG 2819 x0 h7)).bind fun v9 => ((am_vR (am_pG 514 v9 h7)).bind fun v11 => ((am_vI (am_pG 1538 v11 h7)).bind fun v13 => ((am_pP 2829 x0 (.int v13) h7).bind fun h15 => ((am_vR (am_pG 2819 x0 h15)).bind fun v17 => ((am_vR (am_pG 514 v17 h15)).bind fun v19 => ((am_vI (am_pG 1537 v19 h15)).bind fun v21 => some (.inl (some (.int v21), h15)))))))))))))
theorem rg_128_0 {X : am_X} {d : Nat} {lv : am_LV} (x0 : Value) (h : am_H) (o : am_O) (l0 : lv.lookup 0 = some x0) (i0 : am_isR x0 = true) (hs : fg_128_0 x0 h = some o) : am_W X (d) 128 0 lv [] h (fun q => q = o) := by
  unfold fg_128_0 at hs
  refine aw_vload_n (pc1 := 1) at_128_0 l0 i0 rfl ?_
  refine aw_vload_n (pc1 := 2) at_128_1 l0 i0 rfl ?_
  obtain ⟨v1, e2, hs1⟩ := am_bind hs
  clear hs
  refine aw_pG (pc1 := 5) at_128_2 (am_vR_s e2).1 rfl ?_
  obtain ⟨v3, e4, hs2⟩ := am_bind hs1
  clear hs1
  refine aw_pG (pc1 := 8) at_128_5 (am_vR_s e4).1 rfl ?_
  obtain ⟨v5, e6, hs3⟩ := am_bind hs2
  clear hs2
  refine aw_pG (pc1 := 11) at_128_8 (am_vI_s e6) rfl ?_
  obtain ⟨h7, e8, hs4⟩ := am_bind hs3
  clear hs3
  refine aw_pP (pc1 := 14) at_128_11 e8 rfl ?_
  refine aw_vload_n (pc1 := 15) at_128_14 l0 i0 rfl ?_
  refine aw_vload_n (pc1 := 16) at_128_15 l0 i0 rfl ?_
  obtain ⟨v9, e10, hs5⟩ := am_bind hs4
  clear hs4
  refine aw_pG (pc1 := 19) at_128_16 (am_vR_s e10).1 rfl ?_
  obtain ⟨v11, e12, hs6⟩ := am_bind hs5
  clear hs5
  refine aw_pG (pc1 := 22) at_128_19 (am_vR_s e12).1 rfl ?_
  obtain ⟨v13, e14, hs7⟩ := am_bind hs6
  clear hs6
  refine aw_pG (pc1 := 25) at_128_22 (am_vI_s e14) rfl ?_
  obtain ⟨h15, e16, hs8⟩ := am_bind hs7
  clear hs7
  refine aw_pP (pc1 := 28) at_128_25 e16 rfl ?_
  refine aw_vload_n (pc1 := 29) at_128_28 l0 i0 rfl ?_
  obtain ⟨v17, e18, hs9⟩ := am_bind hs8
  clear hs8
  refine aw_pG (pc1 := 32) at_128_29 (am_vR_s e18).1 rfl ?_
  obtain ⟨v19, e20, hs10⟩ := am_bind hs9
  clear hs9
  refine aw_pG (pc1 := 35) at_128_32 (am_vR_s e20).1 rfl ?_
  obtain ⟨v21, e22, hs11⟩ := am_bind hs10
  clear hs10
  refine aw_pG (pc1 := 38) at_128_35 (am_vI_s e22) rfl ?_
  cases hs11
  exact aw_iret at_128_38 (by rw [rt_128]; rfl) rfl
def fm_128 (y0 : Value) (h : am_H) : Option am_O := fg_128_0 y0 h
theorem rm_128 {X : am_X} {d : Nat} (y0 : Value) (h : am_H) (o : am_O) (i0 : am_isR y0 = true) (hs : fm_128 y0 h = some o) : am_W X (d) 128 0 (am_args 0 [y0]) [] h (fun q => q = o) := by
  rw [am_args_R i0]
  exact rg_128_0 y0 h o rfl i0 hs
def fg_114_0 (N : Nat) (x0 : Value) (x1 : Int32) (x2 : Int32) (h : am_H) : Option am_O := (if am_pOk 11 x0 h then am_cR true (fm_63 x0 x1 h) (fun v2 h3 => (if am_pOk 11 x0 h3 then am_cV true (fm_108 x0 x2 h3) (fun h7 => ((am_vR (am_pG 2819 x0 h7)).bind fun v9 => ((am_vR (am_pG 514 v9 h7)).bind fun v11 => (if am_pOk 6 v11 h7 then am_cV true (fm_115 N v11 v2 h7) (fun h15 => ((am_vR (am_pG 2819 x0 h15)).bind fun v17 => ((am_vR (am_pG 514 v17 h15)).bind fun v19 => ((am_vR (am_pG 2819 x0 h15)).bind fun v21 => ((am_vR (am_pG 512 v21 h15)).bind fun v23 => (if am_pOk 6 v19 h15 then am_cV true (fm_116 N v19 v23 ((x2 * 15)) h15) (fun h27 => (if am_pOk 11 x0 h27 then am_cI true (fm_128 x0 h27) (fun v30 h31 => some (.inl (some (.int v30), h31))) else none)) else none)))))) else none)))) else none)) else none)
theorem rg_114_0 {X : am_X} {d : Nat} {N : Nat} {lv : am_LV} (x0 : Value) (x1 : Int32) (x2 : Int32) (h : am_H) (o : am_O) (l0 : lv.lookup 0 = some x0) (l1 : lv.lookup 1 = some (.int x1)) (l2 : lv.lookup 2 = some (.int x2)) (i0 : am_isR x0 = true) (hs : fg_114_0 N x0 x1 x2 h = some o) : am_W X (d + 82) 114 0 lv [] h (fun q => q = o) := by
  unfold fg_114_0 at hs
  refine aw_vload_n (pc1 := 1) at_114_0 l0 i0 rfl ?_
  refine aw_iload_n (pc1 := 2) at_114_1 l1 rfl ?_
  obtain ⟨z1, hs1⟩ := am_ift hs
  clear hs
  refine aw_call (F := fm_63 x0 x1 h) (t := true) (na := 2) (kd := 1) (as := [x0, (.int x1)]) at_114_2 (am_k3v kb_63) mn_63 mk_63 rfl rfl (am_ok_v mi_63 (am_hl rfl (am_ccR i0 (am_ccI am_cats_0)) rfl) z1) (am_hc am_cats_0 rfl) (fun _ => ⟨rfl, hh_114⟩) (fun o1 hz9 => rm_63 x0 x1 h o1 i0 hz9) ?_
  rcases am_cR_s hs1 with ⟨v2, h3, f4, iv2, hs2⟩ | hs2
  · clear hs1
    refine Or.inl ⟨_, _, f4, ?_⟩
    show am_W X _ 114 5 _ [v2] h3 _
    refine aw_vstore_n (lv1 := am_put1 _ 3 _) (pc1 := 6) at_114_5 iv2 rfl rfl ?_
    refine aw_vload_n (pc1 := 7) at_114_6 (am_lk1 l0 rfl rfl) i0 rfl ?_
    refine aw_iload_n (pc1 := 8) at_114_7 (am_lk1 l2 rfl rfl) rfl ?_
    obtain ⟨z5, hs3⟩ := am_ift hs2
    clear hs2
    refine aw_call (F := fm_108 x0 x2 h3) (t := true) (na := 2) (kd := 1) (as := [x0, (.int x2)]) at_114_8 (am_k3v kb_108) mn_108 mk_108 rfl rfl (am_ok_v mi_108 (am_hl rfl (am_ccR i0 (am_ccI am_cats_0)) rfl) z5) (am_hc am_cats_0 rfl) (fun _ => ⟨rfl, hh_114⟩) (fun o1 hz9 => rm_108 x0 x2 h3 o1 i0 hz9) ?_
    rcases am_cV_s hs3 with ⟨h7, f8, hs4⟩ | hs4
    · clear hs3
      refine Or.inl ⟨_, _, f8, ?_⟩
      show am_W X _ 114 11 _ [] h7 _
      refine aw_vload_n (pc1 := 12) at_114_11 (am_lk1 l0 rfl rfl) i0 rfl ?_
      obtain ⟨v9, e10, hs5⟩ := am_bind hs4
      clear hs4
      refine aw_pG (pc1 := 15) at_114_12 (am_vR_s e10).1 rfl ?_
      obtain ⟨v11, e12, hs6⟩ := am_bind hs5
      clear hs5
      refine aw_pG (pc1 := 18) at_114_15 (am_vR_s e12).1 rfl ?_
      refine aw_vload_n (pc1 := 19) at_114_18 am_lk0 iv2 rfl ?_
      obtain ⟨z13, hs7⟩ := am_ift hs6
      clear hs6
      refine aw_call (F := fm_115 N v11 v2 h7) (t := true) (na := 2) (kd := 1) (as := [v11, v2]) at_114_19 (am_k3v kb_115) mn_115 mk_115 rfl rfl (am_ok_v mi_115 (am_hl rfl (am_ccR (am_vR_s e12).2 (am_ccR iv2 am_cats_0)) rfl) z13) (am_hc am_cats_0 rfl) (fun _ => ⟨rfl, hh_114⟩) (fun o1 hz9 => rm_115 v11 v2 h7 o1 (am_vR_s e12).2 iv2 hz9) ?_
      rcases am_cV_s hs7 with ⟨h15, f16, hs8⟩ | hs8
      · clear hs7
        refine Or.inl ⟨_, _, f16, ?_⟩
        show am_W X _ 114 22 _ [] h15 _
        refine aw_vload_n (pc1 := 23) at_114_22 (am_lk1 l0 rfl rfl) i0 rfl ?_
        obtain ⟨v17, e18, hs9⟩ := am_bind hs8
        clear hs8
        refine aw_pG (pc1 := 26) at_114_23 (am_vR_s e18).1 rfl ?_
        obtain ⟨v19, e20, hs10⟩ := am_bind hs9
        clear hs9
        refine aw_pG (pc1 := 29) at_114_26 (am_vR_s e20).1 rfl ?_
        refine aw_vload_n (pc1 := 30) at_114_29 (am_lk1 l0 rfl rfl) i0 rfl ?_
        obtain ⟨v21, e22, hs11⟩ := am_bind hs10
        clear hs10
        refine aw_pG (pc1 := 33) at_114_30 (am_vR_s e22).1 rfl ?_
        obtain ⟨v23, e24, hs12⟩ := am_bind hs11
        clear hs11
        refine aw_pG (pc1 := 36) at_114_33 (am_vR_s e24).1 rfl ?_
        refine aw_iload_n (pc1 := 37) at_114_36 (am_lk1 l2 rfl rfl) rfl ?_
        refine aw_bipush (v := 15) (pc1 := 39) at_114_37 (by decide) rfl ?_
        refine aw_imul (v := (x2 * 15)) (pc1 := 40) at_114_39 rfl rfl ?_
        obtain ⟨z25, hs13⟩ := am_ift hs12
        clear hs12
        refine aw_call (F := fm_116 N v19 v23 ((x2 * 15)) h15) (t := true) (na := 3) (kd := 1) (as := [v19, v23, (.int (x2 * 15))]) at_114_40 (am_k3v kb_116) mn_116 mk_116 rfl rfl (am_ok_v mi_116 (am_hl rfl (am_ccR (am_vR_s e20).2 (am_ccR (am_vR_s e24).2 (am_ccI am_cats_0))) rfl) z25) (am_hc am_cats_0 rfl) (fun _ => ⟨rfl, hh_114⟩) (fun o1 hz9 => rm_116 v19 v23 ((x2 * 15)) h15 o1 (am_vR_s e20).2 (am_vR_s e24).2 hz9) ?_
        rcases am_cV_s hs13 with ⟨h27, f28, hs14⟩ | hs14
        · clear hs13
          refine Or.inl ⟨_, _, f28, ?_⟩
          show am_W X _ 114 43 _ [] h27 _
          refine aw_vload_n (pc1 := 44) at_114_43 (am_lk1 l0 rfl rfl) i0 rfl ?_
          obtain ⟨z29, hs15⟩ := am_ift hs14
          clear hs14
          refine aw_call (F := fm_128 x0 h27) (t := true) (na := 1) (kd := 1) (as := [x0]) at_114_44 (am_k3v kb_128) mn_128 mk_128 rfl rfl (am_ok_v mi_128 (am_hl rfl (am_ccR i0 am_cats_0) rfl) z29) (am_hc am_cats_0 rfl) (fun _ => ⟨rfl, hh_114⟩) (fun o1 hz9 => rm_128 x0 h27 o1 i0 hz9) ?_
          rcases am_cI_s hs15 with ⟨v30, h31, f32, hs16⟩ | hs16
          · clear hs15
            refine Or.inl ⟨_, _, f32, ?_⟩
            show am_W X _ 114 47 _ [(.int v30)] h31 _
            cases hs16
            exact aw_iret at_114_47 (by rw [rt_114]; rfl) rfl
          · clear hs15
            exact Or.inr hs16
        · clear hs13
          exact Or.inr hs14
      · clear hs7
        exact Or.inr hs8
    · clear hs3
      exact Or.inr hs4
  · clear hs1
    exact Or.inr hs2
def fm_114 (N : Nat) (y0 : Value) (y1 : Int32) (y2 : Int32) (h : am_H) : Option am_O := fg_114_0 N y0 y1 y2 h
theorem rm_114 {X : am_X} {d : Nat} {N : Nat} (y0 : Value) (y1 : Int32) (y2 : Int32) (h : am_H) (o : am_O) (i0 : am_isR y0 = true) (hs : fm_114 N y0 y1 y2 h = some o) : am_W X (d + 82) 114 0 (am_args 0 [y0, .int y1, .int y2]) [] h (fun q => q = o) := by
  rw [am_args_R i0, am_args_I, am_args_I]
  exact rg_114_0 y0 y1 y2 h o rfl rfl rfl i0 hs
def fg_113_15 (N : Nat) (h : am_H) : Option am_O := some (.inl (some (.int 1), h))
theorem rg_113_15 {X : am_X} {d : Nat} {N : Nat} {lv : am_LV} (h : am_H) (o : am_O) (hs : fg_113_15 N h = some o) : am_W X (d + 83) 113 15 lv [] h (fun q => q = o) := by
  unfold fg_113_15 at hs
  refine aw_iconst (v := 1) (pc1 := 16) at_113_15 (by decide) rfl ?_
  cases hs
  exact aw_iret at_113_16 (by rw [rt_113]; rfl) rfl
def fg_113_0 (N : Nat) (x0 : Value) (x1 : Int32) (x2 : Int32) (x3 : Value) (h : am_H) : Option am_O := (if am_pOk 11 x0 h then (match fm_114 N x0 x1 x2 h with | some (.inl (some (.int v2), h3)) => ((am_pSL x3 0 (Int32.toInt64 v2) h3).bind fun h5 => some (.inl (some (.int 0), h5))) | some (.inr (2, h7)) => (fg_113_15 N h7) | _ => none) else none)
theorem rg_113_0 {X : am_X} {d : Nat} {N : Nat} {lv : am_LV} (x0 : Value) (x1 : Int32) (x2 : Int32) (x3 : Value) (h : am_H) (o : am_O) (l0 : lv.lookup 0 = some x0) (l1 : lv.lookup 1 = some (.int x1)) (l2 : lv.lookup 2 = some (.int x2)) (l3 : lv.lookup 3 = some x3) (i0 : am_isR x0 = true) (i3 : am_isR x3 = true) (hs : fg_113_0 N x0 x1 x2 x3 h = some o) : am_W X (d + 83) 113 0 lv [] h (fun q => q = o) := by
  unfold fg_113_0 at hs
  refine aw_vload_n (pc1 := 1) at_113_0 l3 i3 rfl ?_
  refine aw_iconst (v := 0) (pc1 := 2) at_113_1 (by decide) rfl ?_
  refine aw_vload_n (pc1 := 3) at_113_2 l0 i0 rfl ?_
  refine aw_iload_n (pc1 := 4) at_113_3 l1 rfl ?_
  refine aw_iload_n (pc1 := 5) at_113_4 l2 rfl ?_
  obtain ⟨z1, hs1⟩ := am_ift hs
  clear hs
  refine aw_callH (F := fm_114 N x0 x1 x2 h) (na := 3) (kd := 1) (as := [x0, (.int x1), (.int x2)]) at_113_5 (am_k3v kb_114) mn_114 mk_114 rfl rfl (am_ok_v mi_114 (am_hl rfl (am_ccR i0 (am_ccI (am_ccI am_cats_0))) rfl) z1) (am_hc (am_ccI (am_ccR i3 am_cats_0)) rfl) (fun o1 hz9 => rm_114 x0 x1 x2 h o1 i0 hz9) ?_
  split at hs1
  · rename_i v2 h3 f4
    refine Or.inl ⟨_, _, f4, ?_⟩
    show am_W X _ 113 8 _ [(.int v2), (.int 0), x3] h3 _
    refine aw_i2l (v := (Int32.toInt64 v2)) (pc1 := 9) at_113_8 rfl rfl ?_
    obtain ⟨h5, e6, hs2⟩ := am_bind hs1
    clear hs1
    refine aw_pSL (pc1 := 10) at_113_9 e6 rfl ?_
    refine aw_goto at_113_10 ?_
    refine aw_iconst (v := 0) (pc1 := 18) at_113_17 (by decide) rfl ?_
    cases hs2
    exact aw_iret at_113_18 (by rw [rt_113]; rfl) rfl
  · rename_i h7 f8
    refine Or.inr ⟨_, _, 15, 4, f8, rfl, hn_113, hd_113_5_2, ?_⟩
    exact rg_113_15 h7 o   hs1
  · cases hs1
def fm_113 (N : Nat) (y0 : Value) (y1 : Int32) (y2 : Int32) (y3 : Value) (h : am_H) : Option am_O := fg_113_0 N y0 y1 y2 y3 h
theorem rm_113 {X : am_X} {d : Nat} {N : Nat} (y0 : Value) (y1 : Int32) (y2 : Int32) (y3 : Value) (h : am_H) (o : am_O) (i0 : am_isR y0 = true) (i3 : am_isR y3 = true) (hs : fm_113 N y0 y1 y2 y3 h = some o) : am_W X (d + 83) 113 0 (am_args 0 [y0, .int y1, .int y2, y3]) [] h (fun q => q = o) := by
  rw [am_args_R i0, am_args_I, am_args_I, am_args_R i3]
  exact rg_113_0 y0 y1 y2 y3 h o rfl rfl rfl rfl i0 i3 hs
def fg_402_42 (N : Nat) : Nat → Value → Int32 → Int32 → am_H → Option am_O
  | 0 => fun _ _ _ _ => none
  | K + 1 => fun x0 x1 x2 h => (if 8 ≤ x2 then some (.inl (none, h)) else ((am_vR (am_pG 3127 x0 h)).bind fun v2 => ((am_vR (am_pG 3111 x0 h)).bind fun v4 => ((am_pA 0 v4 ((8 * x1) + x2) h).bind fun v6 => ((am_pS 0 v2 x2 v6 h).bind fun h8 => (fg_402_42 N K x0 x1 ((x2 + 1)) h8))))))
theorem rg_402_42 {X : am_X} {d : Nat} {N : Nat} : ∀ (K : Nat) (x0 : Value) (x1 : Int32) (x2 : Int32) (h : am_H) (o : am_O), fg_402_42 N K x0 x1 x2 h = some o → ∀ lv : am_LV, (lv.lookup 0 = some x0) → (lv.lookup 1 = some (.int x1)) → (lv.lookup 2 = some (.int x2)) → (am_isR x0 = true) → am_W X (d) 402 42 lv [] h (fun q => q = o) := by
  intro K
  induction K with
  | zero => intro x0 x1 x2 h o hs; cases hs
  | succ K ih =>
    intro x0 x1 x2 h o hs lv l0 l1 l2 i0
    unfold fg_402_42 at hs
    refine aw_iload_n (pc1 := 43) at_402_42 l2 rfl ?_
    refine aw_bipush (v := 8) (pc1 := 45) at_402_43 (by decide) rfl ?_
    by_cases c1 : 8 ≤ x2
    · rw [if_pos c1] at hs
      refine aw_icge_t at_402_45 c1 ?_
      cases hs
      exact aw_vret at_402_71 rt_402 rfl
    · rw [if_neg c1] at hs
      refine aw_icge_f (pc1 := 48) at_402_45 c1 rfl ?_
      refine aw_vload_n (pc1 := 49) at_402_48 l0 i0 rfl ?_
      obtain ⟨v2, e3, hs1⟩ := am_bind hs
      clear hs
      refine aw_pG (pc1 := 52) at_402_49 (am_vR_s e3).1 rfl ?_
      refine aw_iload_n (pc1 := 53) at_402_52 l2 rfl ?_
      refine aw_vload_n (pc1 := 54) at_402_53 l0 i0 rfl ?_
      obtain ⟨v4, e5, hs2⟩ := am_bind hs1
      clear hs1
      refine aw_pG (pc1 := 57) at_402_54 (am_vR_s e5).1 rfl ?_
      refine aw_bipush (v := 8) (pc1 := 59) at_402_57 (by decide) rfl ?_
      refine aw_iload_n (pc1 := 60) at_402_59 l1 rfl ?_
      refine aw_imul (v := (8 * x1)) (pc1 := 61) at_402_60 rfl rfl ?_
      refine aw_iload_n (pc1 := 62) at_402_61 l2 rfl ?_
      refine aw_iadd (v := ((8 * x1) + x2)) (pc1 := 63) at_402_62 rfl rfl ?_
      obtain ⟨v6, e7, hs3⟩ := am_bind hs2
      clear hs2
      refine aw_pA (pc1 := 64) at_402_63 (Or.inl ⟨rfl, rfl⟩) e7 rfl ?_
      obtain ⟨h8, e9, hs4⟩ := am_bind hs3
      clear hs3
      refine aw_pS (pc1 := 65) at_402_64 (Or.inl ⟨rfl, rfl⟩) e9 rfl ?_
      refine aw_iinc (v := (x2 + 1)) (c := 1) (lv1 := am_put1 _ 2 _) (pc1 := 68) at_402_65 l2 (by decide) rfl rfl rfl ?_
      refine aw_goto at_402_68 ?_
      exact ih x0 x1 ((x2 + 1)) h8 o hs4 _ (am_lk1 l0 rfl rfl) (am_lk1 l1 rfl rfl) am_lk0 i0
def fg_402_0 (N : Nat) (x0 : Value) (x1 : Int32) (h : am_H) : Option am_O := ((am_vR (am_pG 3104 x0 h)).bind fun v1 => ((am_pA 0 v1 x1 h).bind fun v3 => ((am_pP 3123 x0 (.int v3) h).bind fun h5 => ((am_vR (am_pG 3105 x0 h5)).bind fun v7 => ((am_pA 0 v7 x1 h5).bind fun v9 => ((am_pP 3124 x0 (.int v9) h5).bind fun h11 => ((am_vR (am_pG 3106 x0 h11)).bind fun v13 => ((am_pA 0 v13 x1 h11).bind fun v15 => ((am_pP 3125 x0 (.int v15) h11).bind fun h17 => ((am_vR (am_pG 3110 x0 h17)).bind fun v19 => ((am_pA 0 v19 x1 h17).bind fun v21 => ((am_pP 3126 x0 (.int v21) h17).bind fun h23 => (fg_402_42 N N x0 x1 0 h23)))))))))))))
theorem rg_402_0 {X : am_X} {d : Nat} {N : Nat} {lv : am_LV} (x0 : Value) (x1 : Int32) (h : am_H) (o : am_O) (l0 : lv.lookup 0 = some x0) (l1 : lv.lookup 1 = some (.int x1)) (i0 : am_isR x0 = true) (hs : fg_402_0 N x0 x1 h = some o) : am_W X (d) 402 0 lv [] h (fun q => q = o) := by
  unfold fg_402_0 at hs
  refine aw_vload_n (pc1 := 1) at_402_0 l0 i0 rfl ?_
  refine aw_vload_n (pc1 := 2) at_402_1 l0 i0 rfl ?_
  obtain ⟨v1, e2, hs1⟩ := am_bind hs
  clear hs
  refine aw_pG (pc1 := 5) at_402_2 (am_vR_s e2).1 rfl ?_
  refine aw_iload_n (pc1 := 6) at_402_5 l1 rfl ?_
  obtain ⟨v3, e4, hs2⟩ := am_bind hs1
  clear hs1
  refine aw_pA (pc1 := 7) at_402_6 (Or.inl ⟨rfl, rfl⟩) e4 rfl ?_
  obtain ⟨h5, e6, hs3⟩ := am_bind hs2
  clear hs2
  refine aw_pP (pc1 := 10) at_402_7 e6 rfl ?_
  refine aw_vload_n (pc1 := 11) at_402_10 l0 i0 rfl ?_
  refine aw_vload_n (pc1 := 12) at_402_11 l0 i0 rfl ?_
  obtain ⟨v7, e8, hs4⟩ := am_bind hs3
  clear hs3
  refine aw_pG (pc1 := 15) at_402_12 (am_vR_s e8).1 rfl ?_
  refine aw_iload_n (pc1 := 16) at_402_15 l1 rfl ?_
  obtain ⟨v9, e10, hs5⟩ := am_bind hs4
  clear hs4
  refine aw_pA (pc1 := 17) at_402_16 (Or.inl ⟨rfl, rfl⟩) e10 rfl ?_
  obtain ⟨h11, e12, hs6⟩ := am_bind hs5
  clear hs5
  refine aw_pP (pc1 := 20) at_402_17 e12 rfl ?_
  refine aw_vload_n (pc1 := 21) at_402_20 l0 i0 rfl ?_
  refine aw_vload_n (pc1 := 22) at_402_21 l0 i0 rfl ?_
  obtain ⟨v13, e14, hs7⟩ := am_bind hs6
  clear hs6
  refine aw_pG (pc1 := 25) at_402_22 (am_vR_s e14).1 rfl ?_
  refine aw_iload_n (pc1 := 26) at_402_25 l1 rfl ?_
  obtain ⟨v15, e16, hs8⟩ := am_bind hs7
  clear hs7
  refine aw_pA (pc1 := 27) at_402_26 (Or.inl ⟨rfl, rfl⟩) e16 rfl ?_
  obtain ⟨h17, e18, hs9⟩ := am_bind hs8
  clear hs8
  refine aw_pP (pc1 := 30) at_402_27 e18 rfl ?_
  refine aw_vload_n (pc1 := 31) at_402_30 l0 i0 rfl ?_
  refine aw_vload_n (pc1 := 32) at_402_31 l0 i0 rfl ?_
  obtain ⟨v19, e20, hs10⟩ := am_bind hs9
  clear hs9
  refine aw_pG (pc1 := 35) at_402_32 (am_vR_s e20).1 rfl ?_
  refine aw_iload_n (pc1 := 36) at_402_35 l1 rfl ?_
  obtain ⟨v21, e22, hs11⟩ := am_bind hs10
  clear hs10
  refine aw_pA (pc1 := 37) at_402_36 (Or.inl ⟨rfl, rfl⟩) e22 rfl ?_
  obtain ⟨h23, e24, hs12⟩ := am_bind hs11
  clear hs11
  refine aw_pP (pc1 := 40) at_402_37 e24 rfl ?_
  refine aw_iconst (v := 0) (pc1 := 41) at_402_40 (by decide) rfl ?_
  refine aw_istore_n (lv1 := am_put1 _ 2 _) (pc1 := 42) at_402_41 rfl rfl ?_
  exact rg_402_42 N x0 x1 0 h23 o hs12 _ (am_lk1 l0 rfl rfl) (am_lk1 l1 rfl rfl) am_lk0 i0
def fm_402 (N : Nat) (y0 : Value) (y1 : Int32) (h : am_H) : Option am_O := fg_402_0 N y0 y1 h
theorem rm_402 {X : am_X} {d : Nat} {N : Nat} (y0 : Value) (y1 : Int32) (h : am_H) (o : am_O) (i0 : am_isR y0 = true) (hs : fm_402 N y0 y1 h = some o) : am_W X (d) 402 0 (am_args 0 [y0, .int y1]) [] h (fun q => q = o) := by
  rw [am_args_R i0, am_args_I]
  exact rg_402_0 y0 y1 h o rfl rfl i0 hs
def fg_405_15 (N : Nat) (rec_7 : Value → Int32 → am_H → Option am_O) : Nat → Value → Int32 → Int32 → Int32 → am_H → Option am_O
  | 0 => fun _ _ _ _ _ => none
  | K + 1 => fun x0 x1 x2 x3 h => ((am_vR (am_pG 3088 x0 h)).bind fun v1 => ((am_pA 0 v1 x1 h).bind fun v3 => am_cI false (fm_343 v3 h) (fun v5 h6 => (if v5 ≤ x3 then ((am_vR (am_pG 3136 x0 h6)).bind fun v9 => ((am_pS 0 v9 x1 x2 h6).bind fun h11 => (rec_7 x0 ((x1 + (-1))) h11))) else ((am_vR (am_pG 3136 x0 h6)).bind fun v13 => ((am_pA 0 v13 (x1 + x2) h6).bind fun v15 => (fg_405_15 N rec_7 K x0 x1 ((x2 + v15)) ((x3 + 1)) h6)))))))
theorem rg_405_15 {X : am_X} {d : Nat} {N : Nat} {rec_7 : Value → Int32 → am_H → Option am_O} (q_7 : ∀ (x0 : Value) (x1 : Int32) (h : am_H) (o : am_O), rec_7 x0 x1 h = some o → ∀ lv : am_LV, (lv.lookup 0 = some x0) → (lv.lookup 1 = some (.int x1)) → (am_isR x0 = true) → am_W X (d + 1) 405 7 lv [] h (fun q => q = o)) : ∀ (K : Nat) (x0 : Value) (x1 : Int32) (x2 : Int32) (x3 : Int32) (h : am_H) (o : am_O), fg_405_15 N rec_7 K x0 x1 x2 x3 h = some o → ∀ lv : am_LV, (lv.lookup 0 = some x0) → (lv.lookup 1 = some (.int x1)) → (lv.lookup 2 = some (.int x2)) → (lv.lookup 3 = some (.int x3)) → (am_isR x0 = true) → am_W X (d + 1) 405 15 lv [] h (fun q => q = o) := by
  intro K
  induction K with
  | zero => intro x0 x1 x2 x3 h o hs; cases hs
  | succ K ih =>
    intro x0 x1 x2 x3 h o hs lv l0 l1 l2 l3 i0
    unfold fg_405_15 at hs
    refine aw_iload_n (pc1 := 16) at_405_15 l3 rfl ?_
    refine aw_vload_n (pc1 := 17) at_405_16 l0 i0 rfl ?_
    obtain ⟨v1, e2, hs1⟩ := am_bind hs
    clear hs
    refine aw_pG (pc1 := 20) at_405_17 (am_vR_s e2).1 rfl ?_
    refine aw_iload_n (pc1 := 21) at_405_20 l1 rfl ?_
    obtain ⟨v3, e4, hs2⟩ := am_bind hs1
    clear hs1
    refine aw_pA (pc1 := 22) at_405_21 (Or.inl ⟨rfl, rfl⟩) e4 rfl ?_
    refine aw_call (F := fm_343 v3 h) (t := false) (na := 1) (kd := 0) (as := [(.int v3)]) at_405_22 (am_k3s kb_343) mn_343 mk_343 rfl rfl (am_ok_s mi_343 (am_hl rfl (am_ccI am_cats_0) rfl)) (am_hc (am_ccI am_cats_0) rfl) (fun hz9 => by cases hz9) (fun o1 hz9 => rm_343 v3 h o1  hz9) ?_
    rcases am_cI_s hs2 with ⟨v5, h6, f7, hs3⟩ | hs3
    · clear hs2
      refine Or.inl ⟨_, _, f7, ?_⟩
      show am_W X _ 405 25 _ [(.int v5), (.int x3)] h6 _
      by_cases c8 : v5 ≤ x3
      · rw [if_pos c8] at hs3
        refine aw_icge_t at_405_25 c8 ?_
        refine aw_vload_n (pc1 := 46) at_405_45 l0 i0 rfl ?_
        obtain ⟨v9, e10, hs4⟩ := am_bind hs3
        clear hs3
        refine aw_pG (pc1 := 49) at_405_46 (am_vR_s e10).1 rfl ?_
        refine aw_iload_n (pc1 := 50) at_405_49 l1 rfl ?_
        refine aw_iload_n (pc1 := 51) at_405_50 l2 rfl ?_
        obtain ⟨h11, e12, hs5⟩ := am_bind hs4
        clear hs4
        refine aw_pS (pc1 := 52) at_405_51 (Or.inl ⟨rfl, rfl⟩) e12 rfl ?_
        refine aw_iinc (v := (x1 + (-1))) (c := (-1)) (lv1 := am_put1 _ 1 _) (pc1 := 55) at_405_52 l1 (by decide) rfl rfl rfl ?_
        refine aw_goto at_405_55 ?_
        exact q_7 x0 ((x1 + (-1))) h11 o hs5 _ (am_lk1 l0 rfl (by rw [am_isRc i0]; rfl)) am_lk0 i0
      · rw [if_neg c8] at hs3
        refine aw_icge_f (pc1 := 28) at_405_25 c8 rfl ?_
        refine aw_iload_n (pc1 := 29) at_405_28 l2 rfl ?_
        refine aw_vload_n (pc1 := 30) at_405_29 l0 i0 rfl ?_
        obtain ⟨v13, e14, hs6⟩ := am_bind hs3
        clear hs3
        refine aw_pG (pc1 := 33) at_405_30 (am_vR_s e14).1 rfl ?_
        refine aw_iload_n (pc1 := 34) at_405_33 l1 rfl ?_
        refine aw_iload_n (pc1 := 35) at_405_34 l2 rfl ?_
        refine aw_iadd (v := (x1 + x2)) (pc1 := 36) at_405_35 rfl rfl ?_
        obtain ⟨v15, e16, hs7⟩ := am_bind hs6
        clear hs6
        refine aw_pA (pc1 := 37) at_405_36 (Or.inl ⟨rfl, rfl⟩) e16 rfl ?_
        refine aw_iadd (v := (x2 + v15)) (pc1 := 38) at_405_37 rfl rfl ?_
        refine aw_istore_n (lv1 := am_put1 _ 2 _) (pc1 := 39) at_405_38 rfl rfl ?_
        refine aw_iinc (v := (x3 + 1)) (c := 1) (lv1 := am_put1 _ 3 _) (pc1 := 42) at_405_39 (am_lk1 l3 rfl rfl) (by decide) rfl rfl rfl ?_
        refine aw_goto at_405_42 ?_
        exact ih x0 x1 ((x2 + v15)) ((x3 + 1)) h6 o hs7 _ (am_lk1 (am_lk1 l0 rfl rfl) rfl rfl) (am_lk1 (am_lk1 l1 rfl rfl) rfl rfl) (am_lk1 am_lk0 rfl rfl) am_lk0 i0
    · clear hs2
      exact Or.inr hs3
def fg_405_7 (N : Nat) : Nat → Value → Int32 → am_H → Option am_O
  | 0 => fun _ _ _ => none
  | K + 1 => fun x0 x1 h => (if x1 < 0 then some (.inl (none, h)) else (fg_405_15 N (fg_405_7 N K) N x0 x1 1 0 h))
theorem rg_405_7 {X : am_X} {d : Nat} {N : Nat} : ∀ (K : Nat) (x0 : Value) (x1 : Int32) (h : am_H) (o : am_O), fg_405_7 N K x0 x1 h = some o → ∀ lv : am_LV, (lv.lookup 0 = some x0) → (lv.lookup 1 = some (.int x1)) → (am_isR x0 = true) → am_W X (d + 1) 405 7 lv [] h (fun q => q = o) := by
  intro K
  induction K with
  | zero => intro x0 x1 h o hs; cases hs
  | succ K ih =>
    intro x0 x1 h o hs lv l0 l1 i0
    unfold fg_405_7 at hs
    refine aw_iload_n (pc1 := 8) at_405_7 l1 rfl ?_
    by_cases c1 : x1 < 0
    · rw [if_pos c1] at hs
      refine aw_iflt_t at_405_8 c1 ?_
      cases hs
      exact aw_vret at_405_58 rt_405 rfl
    · rw [if_neg c1] at hs
      refine aw_iflt_f (pc1 := 11) at_405_8 c1 rfl ?_
      refine aw_iconst (v := 1) (pc1 := 12) at_405_11 (by decide) rfl ?_
      refine aw_istore_n (lv1 := am_put1 _ 2 _) (pc1 := 13) at_405_12 rfl rfl ?_
      refine aw_iconst (v := 0) (pc1 := 14) at_405_13 (by decide) rfl ?_
      refine aw_istore_n (lv1 := am_put1 _ 3 _) (pc1 := 15) at_405_14 rfl rfl ?_
      exact rg_405_15 (fun z0 z1 h o hs => ih z0 z1 h o hs) N x0 x1 1 0 h o hs _ (am_lk1 (am_lk1 l0 rfl rfl) rfl rfl) (am_lk1 (am_lk1 l1 rfl rfl) rfl rfl) (am_lk1 am_lk0 rfl rfl) am_lk0 i0
def fg_405_0 (N : Nat) (x0 : Value) (h : am_H) : Option am_O := ((am_vI (am_pG 3086 x0 h)).bind fun v1 => (fg_405_7 N N x0 ((v1 - 1)) h))
theorem rg_405_0 {X : am_X} {d : Nat} {N : Nat} {lv : am_LV} (x0 : Value) (h : am_H) (o : am_O) (l0 : lv.lookup 0 = some x0) (i0 : am_isR x0 = true) (hs : fg_405_0 N x0 h = some o) : am_W X (d + 1) 405 0 lv [] h (fun q => q = o) := by
  unfold fg_405_0 at hs
  refine aw_vload_n (pc1 := 1) at_405_0 l0 i0 rfl ?_
  obtain ⟨v1, e2, hs1⟩ := am_bind hs
  clear hs
  refine aw_pG (pc1 := 4) at_405_1 (am_vI_s e2) rfl ?_
  refine aw_iconst (v := 1) (pc1 := 5) at_405_4 (by decide) rfl ?_
  refine aw_isub (v := (v1 - 1)) (pc1 := 6) at_405_5 rfl rfl ?_
  refine aw_istore_n (lv1 := am_put1 _ 1 _) (pc1 := 7) at_405_6 rfl rfl ?_
  exact rg_405_7 N x0 ((v1 - 1)) h o hs1 _ (am_lk1 l0 rfl (by rw [am_isRc i0]; rfl)) am_lk0 i0
def fm_405 (N : Nat) (y0 : Value) (h : am_H) : Option am_O := fg_405_0 N y0 h
theorem rm_405 {X : am_X} {d : Nat} {N : Nat} (y0 : Value) (h : am_H) (o : am_O) (i0 : am_isR y0 = true) (hs : fm_405 N y0 h = some o) : am_W X (d + 1) 405 0 (am_args 0 [y0]) [] h (fun q => q = o) := by
  rw [am_args_R i0]
  exact rg_405_0 y0 h o rfl i0 hs
def fg_407_0 (x0 : Value) (h : am_H) : Option am_O := ((am_vI (am_pG 3122 x0 h)).bind fun v1 => ((am_vR (am_pG 3114 x0 h)).bind fun v3 => ((am_pA 0 v3 0 h).bind fun v5 => (if ¬ v1 = v5 then ((am_vI (am_pG 3122 x0 h)).bind fun v8 => ((am_pP 3122 x0 (.int (v8 + 1)) h).bind fun h10 => some (.inl (some (.int 1), h10)))) else ((am_pP 3120 x0 (.int 3) h).bind fun h12 => some (.inl (some (.int 0), h12)))))))
theorem rg_407_0 {X : am_X} {d : Nat} {lv : am_LV} (x0 : Value) (h : am_H) (o : am_O) (l0 : lv.lookup 0 = some x0) (i0 : am_isR x0 = true) (hs : fg_407_0 x0 h = some o) : am_W X (d) 407 0 lv [] h (fun q => q = o) := by
  unfold fg_407_0 at hs
  refine aw_vload_n (pc1 := 1) at_407_0 l0 i0 rfl ?_
  obtain ⟨v1, e2, hs1⟩ := am_bind hs
  clear hs
  refine aw_pG (pc1 := 4) at_407_1 (am_vI_s e2) rfl ?_
  refine aw_vload_n (pc1 := 5) at_407_4 l0 i0 rfl ?_
  obtain ⟨v3, e4, hs2⟩ := am_bind hs1
  clear hs1
  refine aw_pG (pc1 := 8) at_407_5 (am_vR_s e4).1 rfl ?_
  refine aw_iconst (v := 0) (pc1 := 9) at_407_8 (by decide) rfl ?_
  obtain ⟨v5, e6, hs3⟩ := am_bind hs2
  clear hs2
  refine aw_pA (pc1 := 10) at_407_9 (Or.inl ⟨rfl, rfl⟩) e6 rfl ?_
  by_cases c7 : ¬ v1 = v5
  · rw [if_pos c7] at hs3
    refine aw_icne_t at_407_10 c7 ?_
    refine aw_vload_n (pc1 := 21) at_407_20 l0 i0 rfl ?_
    refine aw_vdup (pc1 := 22) at_407_21 i0 rfl ?_
    obtain ⟨v8, e9, hs4⟩ := am_bind hs3
    clear hs3
    refine aw_pG (pc1 := 25) at_407_22 (am_vI_s e9) rfl ?_
    refine aw_iconst (v := 1) (pc1 := 26) at_407_25 (by decide) rfl ?_
    refine aw_iadd (v := (v8 + 1)) (pc1 := 27) at_407_26 rfl rfl ?_
    obtain ⟨h10, e11, hs5⟩ := am_bind hs4
    clear hs4
    refine aw_pP (pc1 := 30) at_407_27 e11 rfl ?_
    refine aw_iconst (v := 1) (pc1 := 31) at_407_30 (by decide) rfl ?_
    cases hs5
    exact aw_iret at_407_31 (by rw [rt_407]; decide) rfl
  · rw [if_neg c7] at hs3
    refine aw_icne_f (pc1 := 13) at_407_10 c7 rfl ?_
    refine aw_vload_n (pc1 := 14) at_407_13 l0 i0 rfl ?_
    refine aw_iconst (v := 3) (pc1 := 15) at_407_14 (by decide) rfl ?_
    obtain ⟨h12, e13, hs6⟩ := am_bind hs3
    clear hs3
    refine aw_pP (pc1 := 18) at_407_15 e13 rfl ?_
    refine aw_iconst (v := 0) (pc1 := 19) at_407_18 (by decide) rfl ?_
    cases hs6
    exact aw_iret at_407_19 (by rw [rt_407]; decide) rfl
def fm_407 (y0 : Value) (h : am_H) : Option am_O := fg_407_0 y0 h
theorem rm_407 {X : am_X} {d : Nat} (y0 : Value) (h : am_H) (o : am_O) (i0 : am_isR y0 = true) (hs : fm_407 y0 h = some o) : am_W X (d) 407 0 (am_args 0 [y0]) [] h (fun q => q = o) := by
  rw [am_args_R i0]
  exact rg_407_0 y0 h o rfl i0 hs
def fg_406_0 (x0 : Value) (x1 : Int32) (h : am_H) : Option am_O := (if am_pOk 12 x0 h then am_cI true (fm_407 x0 h) (fun v2 h3 => (if ¬ v2 = 0 then ((am_vR (am_pG 3132 x0 h3)).bind fun v6 => ((am_vI (am_pG 3137 x0 h3)).bind fun v8 => ((am_pS 0 v6 v8 x1 h3).bind fun h10 => ((am_vR (am_pG 3133 x0 h10)).bind fun v12 => ((am_vI (am_pG 3137 x0 h10)).bind fun v14 => ((am_pS 0 v12 v14 0 h10).bind fun h16 => ((am_vI (am_pG 3137 x0 h16)).bind fun v18 => ((am_pP 3137 x0 (.int (v18 + 1)) h16).bind fun h20 => some (.inl (none, h20)))))))))) else some (.inl (none, h3)))) else none)
theorem rg_406_0 {X : am_X} {d : Nat} {lv : am_LV} (x0 : Value) (x1 : Int32) (h : am_H) (o : am_O) (l0 : lv.lookup 0 = some x0) (l1 : lv.lookup 1 = some (.int x1)) (i0 : am_isR x0 = true) (hs : fg_406_0 x0 x1 h = some o) : am_W X (d + 1) 406 0 lv [] h (fun q => q = o) := by
  unfold fg_406_0 at hs
  refine aw_vload_n (pc1 := 1) at_406_0 l0 i0 rfl ?_
  obtain ⟨z1, hs1⟩ := am_ift hs
  clear hs
  refine aw_call (F := fm_407 x0 h) (t := true) (na := 1) (kd := 1) (as := [x0]) at_406_1 (am_k3v kb_407) mn_407 mk_407 rfl rfl (am_ok_v mi_407 (am_hl rfl (am_ccR i0 am_cats_0) rfl) z1) (am_hc am_cats_0 rfl) (fun _ => ⟨rfl, hh_406⟩) (fun o1 hz9 => rm_407 x0 h o1 i0 hz9) ?_
  rcases am_cI_s hs1 with ⟨v2, h3, f4, hs2⟩ | hs2
  · clear hs1
    refine Or.inl ⟨_, _, f4, ?_⟩
    show am_W X _ 406 4 _ [(.int v2)] h3 _
    by_cases c5 : ¬ v2 = 0
    · rw [if_pos c5] at hs2
      refine aw_ifne_t at_406_4 c5 ?_
      refine aw_vload_n (pc1 := 9) at_406_8 l0 i0 rfl ?_
      obtain ⟨v6, e7, hs3⟩ := am_bind hs2
      clear hs2
      refine aw_pG (pc1 := 12) at_406_9 (am_vR_s e7).1 rfl ?_
      refine aw_vload_n (pc1 := 13) at_406_12 l0 i0 rfl ?_
      obtain ⟨v8, e9, hs4⟩ := am_bind hs3
      clear hs3
      refine aw_pG (pc1 := 16) at_406_13 (am_vI_s e9) rfl ?_
      refine aw_iload_n (pc1 := 17) at_406_16 l1 rfl ?_
      obtain ⟨h10, e11, hs5⟩ := am_bind hs4
      clear hs4
      refine aw_pS (pc1 := 18) at_406_17 (Or.inl ⟨rfl, rfl⟩) e11 rfl ?_
      refine aw_vload_n (pc1 := 19) at_406_18 l0 i0 rfl ?_
      obtain ⟨v12, e13, hs6⟩ := am_bind hs5
      clear hs5
      refine aw_pG (pc1 := 22) at_406_19 (am_vR_s e13).1 rfl ?_
      refine aw_vload_n (pc1 := 23) at_406_22 l0 i0 rfl ?_
      obtain ⟨v14, e15, hs7⟩ := am_bind hs6
      clear hs6
      refine aw_pG (pc1 := 26) at_406_23 (am_vI_s e15) rfl ?_
      refine aw_iconst (v := 0) (pc1 := 27) at_406_26 (by decide) rfl ?_
      obtain ⟨h16, e17, hs8⟩ := am_bind hs7
      clear hs7
      refine aw_pS (pc1 := 28) at_406_27 (Or.inl ⟨rfl, rfl⟩) e17 rfl ?_
      refine aw_vload_n (pc1 := 29) at_406_28 l0 i0 rfl ?_
      refine aw_vdup (pc1 := 30) at_406_29 i0 rfl ?_
      obtain ⟨v18, e19, hs9⟩ := am_bind hs8
      clear hs8
      refine aw_pG (pc1 := 33) at_406_30 (am_vI_s e19) rfl ?_
      refine aw_iconst (v := 1) (pc1 := 34) at_406_33 (by decide) rfl ?_
      refine aw_iadd (v := (v18 + 1)) (pc1 := 35) at_406_34 rfl rfl ?_
      obtain ⟨h20, e21, hs10⟩ := am_bind hs9
      clear hs9
      refine aw_pP (pc1 := 38) at_406_35 e21 rfl ?_
      cases hs10
      exact aw_vret at_406_38 rt_406 rfl
    · rw [if_neg c5] at hs2
      refine aw_ifne_f (pc1 := 7) at_406_4 c5 rfl ?_
      cases hs2
      exact aw_vret at_406_7 rt_406 rfl
  · clear hs1
    exact Or.inr hs2
def fm_406 (y0 : Value) (y1 : Int32) (h : am_H) : Option am_O := fg_406_0 y0 y1 h
theorem rm_406 {X : am_X} {d : Nat} (y0 : Value) (y1 : Int32) (h : am_H) (o : am_O) (i0 : am_isR y0 = true) (hs : fm_406 y0 y1 h = some o) : am_W X (d + 1) 406 0 (am_args 0 [y0, .int y1]) [] h (fun q => q = o) := by
  rw [am_args_R i0, am_args_I]
  exact rg_406_0 y0 y1 h o rfl rfl i0 hs
def fg_408_72 (s0 : Int32) (h : am_H) : Option am_O := some (.inl (some (.int s0), h))
theorem rg_408_72 {X : am_X} {d : Nat} {lv : am_LV} (s0 : Int32) (h : am_H) (o : am_O) (hs : fg_408_72 s0 h = some o) : am_W X (d) 408 72 lv [(.int s0)] h (fun q => q = o) := by
  unfold fg_408_72 at hs
  cases hs
  exact aw_iret at_408_72 (by rw [rt_408]; rfl) rfl
def fg_408_0 (x0 : Value) (x1 : Int32) (x2 : Int32) (h : am_H) : Option am_O := (if ¬ x1 = 0 then (if ¬ x1 = 1 then (if ¬ x1 = 2 then (if ¬ x1 = 3 then (if ¬ x1 = 4 then (if ¬ x1 = 5 then ((am_vI (am_pG 3131 x0 h)).bind fun v7 => (fg_408_72 v7 h)) else ((am_vI (am_pG 3130 x0 h)).bind fun v9 => (fg_408_72 v9 h))) else ((am_vI (am_pG 3126 x0 h)).bind fun v11 => (fg_408_72 v11 h))) else ((am_vI (am_pG 3125 x0 h)).bind fun v13 => (fg_408_72 v13 h))) else ((am_vI (am_pG 3124 x0 h)).bind fun v15 => (fg_408_72 v15 h))) else ((am_vI (am_pG 3123 x0 h)).bind fun v17 => (fg_408_72 v17 h))) else (fg_408_72 x2 h))
theorem rg_408_0 {X : am_X} {d : Nat} {lv : am_LV} (x0 : Value) (x1 : Int32) (x2 : Int32) (h : am_H) (o : am_O) (l0 : lv.lookup 0 = some x0) (l1 : lv.lookup 1 = some (.int x1)) (l2 : lv.lookup 2 = some (.int x2)) (i0 : am_isR x0 = true) (hs : fg_408_0 x0 x1 x2 h = some o) : am_W X (d) 408 0 lv [] h (fun q => q = o) := by
  unfold fg_408_0 at hs
  refine aw_iload_n (pc1 := 1) at_408_0 l1 rfl ?_
  by_cases c1 : ¬ x1 = 0
  · rw [if_pos c1] at hs
    refine aw_ifne_t at_408_1 c1 ?_
    refine aw_iload_n (pc1 := 9) at_408_8 l1 rfl ?_
    refine aw_iconst (v := 1) (pc1 := 10) at_408_9 (by decide) rfl ?_
    by_cases c2 : ¬ x1 = 1
    · rw [if_pos c2] at hs
      refine aw_icne_t at_408_10 c2 ?_
      refine aw_iload_n (pc1 := 21) at_408_20 l1 rfl ?_
      refine aw_iconst (v := 2) (pc1 := 22) at_408_21 (by decide) rfl ?_
      by_cases c3 : ¬ x1 = 2
      · rw [if_pos c3] at hs
        refine aw_icne_t at_408_22 c3 ?_
        refine aw_iload_n (pc1 := 33) at_408_32 l1 rfl ?_
        refine aw_iconst (v := 3) (pc1 := 34) at_408_33 (by decide) rfl ?_
        by_cases c4 : ¬ x1 = 3
        · rw [if_pos c4] at hs
          refine aw_icne_t at_408_34 c4 ?_
          refine aw_iload_n (pc1 := 45) at_408_44 l1 rfl ?_
          refine aw_iconst (v := 4) (pc1 := 46) at_408_45 (by decide) rfl ?_
          by_cases c5 : ¬ x1 = 4
          · rw [if_pos c5] at hs
            refine aw_icne_t at_408_46 c5 ?_
            refine aw_iload_n (pc1 := 57) at_408_56 l1 rfl ?_
            refine aw_iconst (v := 5) (pc1 := 58) at_408_57 (by decide) rfl ?_
            by_cases c6 : ¬ x1 = 5
            · rw [if_pos c6] at hs
              refine aw_icne_t at_408_58 c6 ?_
              refine aw_vload_n (pc1 := 69) at_408_68 l0 i0 rfl ?_
              obtain ⟨v7, e8, hs1⟩ := am_bind hs
              clear hs
              refine aw_pG (pc1 := 72) at_408_69 (am_vI_s e8) rfl ?_
              exact rg_408_72 v7 h o   hs1
            · rw [if_neg c6] at hs
              refine aw_icne_f (pc1 := 61) at_408_58 c6 rfl ?_
              refine aw_vload_n (pc1 := 62) at_408_61 l0 i0 rfl ?_
              obtain ⟨v9, e10, hs2⟩ := am_bind hs
              clear hs
              refine aw_pG (pc1 := 65) at_408_62 (am_vI_s e10) rfl ?_
              refine aw_goto at_408_65 ?_
              exact rg_408_72 v9 h o   hs2
          · rw [if_neg c5] at hs
            refine aw_icne_f (pc1 := 49) at_408_46 c5 rfl ?_
            refine aw_vload_n (pc1 := 50) at_408_49 l0 i0 rfl ?_
            obtain ⟨v11, e12, hs3⟩ := am_bind hs
            clear hs
            refine aw_pG (pc1 := 53) at_408_50 (am_vI_s e12) rfl ?_
            refine aw_goto at_408_53 ?_
            exact rg_408_72 v11 h o   hs3
        · rw [if_neg c4] at hs
          refine aw_icne_f (pc1 := 37) at_408_34 c4 rfl ?_
          refine aw_vload_n (pc1 := 38) at_408_37 l0 i0 rfl ?_
          obtain ⟨v13, e14, hs4⟩ := am_bind hs
          clear hs
          refine aw_pG (pc1 := 41) at_408_38 (am_vI_s e14) rfl ?_
          refine aw_goto at_408_41 ?_
          exact rg_408_72 v13 h o   hs4
      · rw [if_neg c3] at hs
        refine aw_icne_f (pc1 := 25) at_408_22 c3 rfl ?_
        refine aw_vload_n (pc1 := 26) at_408_25 l0 i0 rfl ?_
        obtain ⟨v15, e16, hs5⟩ := am_bind hs
        clear hs
        refine aw_pG (pc1 := 29) at_408_26 (am_vI_s e16) rfl ?_
        refine aw_goto at_408_29 ?_
        exact rg_408_72 v15 h o   hs5
    · rw [if_neg c2] at hs
      refine aw_icne_f (pc1 := 13) at_408_10 c2 rfl ?_
      refine aw_vload_n (pc1 := 14) at_408_13 l0 i0 rfl ?_
      obtain ⟨v17, e18, hs6⟩ := am_bind hs
      clear hs
      refine aw_pG (pc1 := 17) at_408_14 (am_vI_s e18) rfl ?_
      refine aw_goto at_408_17 ?_
      exact rg_408_72 v17 h o   hs6
  · rw [if_neg c1] at hs
    refine aw_ifne_f (pc1 := 4) at_408_1 c1 rfl ?_
    refine aw_iload_n (pc1 := 5) at_408_4 l2 rfl ?_
    refine aw_goto at_408_5 ?_
    exact rg_408_72 x2 h o   hs
def fm_408 (y0 : Value) (y1 : Int32) (y2 : Int32) (h : am_H) : Option am_O := fg_408_0 y0 y1 y2 h
theorem rm_408 {X : am_X} {d : Nat} (y0 : Value) (y1 : Int32) (y2 : Int32) (h : am_H) (o : am_O) (i0 : am_isR y0 = true) (hs : fm_408 y0 y1 y2 h = some o) : am_W X (d) 408 0 (am_args 0 [y0, .int y1, .int y2]) [] h (fun q => q = o) := by
  rw [am_args_R i0, am_args_I, am_args_I]
  exact rg_408_0 y0 y1 y2 h o rfl rfl rfl i0 hs
def fg_409_0 (x0 : Value) (x1 : Int32) (h : am_H) : Option am_O := ((am_vI (am_pG 3137 x0 h)).bind fun v1 => ((am_pP 3137 x0 (.int (v1 - 1)) h).bind fun h3 => ((am_pP 3138 x0 (.int x1) h3).bind fun h5 => some (.inl (none, h5)))))
theorem rg_409_0 {X : am_X} {d : Nat} {lv : am_LV} (x0 : Value) (x1 : Int32) (h : am_H) (o : am_O) (l0 : lv.lookup 0 = some x0) (l1 : lv.lookup 1 = some (.int x1)) (i0 : am_isR x0 = true) (hs : fg_409_0 x0 x1 h = some o) : am_W X (d) 409 0 lv [] h (fun q => q = o) := by
  unfold fg_409_0 at hs
  refine aw_vload_n (pc1 := 1) at_409_0 l0 i0 rfl ?_
  refine aw_vdup (pc1 := 2) at_409_1 i0 rfl ?_
  obtain ⟨v1, e2, hs1⟩ := am_bind hs
  clear hs
  refine aw_pG (pc1 := 5) at_409_2 (am_vI_s e2) rfl ?_
  refine aw_iconst (v := 1) (pc1 := 6) at_409_5 (by decide) rfl ?_
  refine aw_isub (v := (v1 - 1)) (pc1 := 7) at_409_6 rfl rfl ?_
  obtain ⟨h3, e4, hs2⟩ := am_bind hs1
  clear hs1
  refine aw_pP (pc1 := 10) at_409_7 e4 rfl ?_
  refine aw_vload_n (pc1 := 11) at_409_10 l0 i0 rfl ?_
  refine aw_iload_n (pc1 := 12) at_409_11 l1 rfl ?_
  obtain ⟨h5, e6, hs3⟩ := am_bind hs2
  clear hs2
  refine aw_pP (pc1 := 15) at_409_12 e6 rfl ?_
  cases hs3
  exact aw_vret at_409_15 rt_409 rfl
def fm_409 (y0 : Value) (y1 : Int32) (h : am_H) : Option am_O := fg_409_0 y0 y1 h
theorem rm_409 {X : am_X} {d : Nat} (y0 : Value) (y1 : Int32) (h : am_H) (o : am_O) (i0 : am_isR y0 = true) (hs : fm_409 y0 y1 h = some o) : am_W X (d) 409 0 (am_args 0 [y0, .int y1]) [] h (fun q => q = o) := by
  rw [am_args_R i0, am_args_I]
  exact rg_409_0 y0 y1 h o rfl rfl i0 hs
def fg_411_0 (x0 : Value) (x1 : Int32) (h : am_H) : Option am_O := ((am_vI (am_pG 3126 x0 h)).bind fun v1 => am_cI false (fm_327 ((Int32.toInt64 x1)) 0 (((Int32.toInt64 v1) - 1)) h) (fun v3 h4 => (if ¬ v3 = 0 then ((am_vR (am_pG 3127 x0 h4)).bind fun v7 => ((am_pA 0 v7 x1 h4).bind fun v9 => some (.inl (some (.int v9), h4)))) else ((am_pP 3120 x0 (.int 2) h4).bind fun h11 => some (.inl (some (.int 0), h11))))))
theorem rg_411_0 {X : am_X} {d : Nat} {lv : am_LV} (x0 : Value) (x1 : Int32) (h : am_H) (o : am_O) (l0 : lv.lookup 0 = some x0) (l1 : lv.lookup 1 = some (.int x1)) (i0 : am_isR x0 = true) (hs : fg_411_0 x0 x1 h = some o) : am_W X (d + 1) 411 0 lv [] h (fun q => q = o) := by
  unfold fg_411_0 at hs
  refine aw_iload_n (pc1 := 1) at_411_0 l1 rfl ?_
  refine aw_i2l (v := (Int32.toInt64 x1)) (pc1 := 2) at_411_1 rfl rfl ?_
  refine aw_lconst (v := 0) (pc1 := 3) at_411_2 (by decide) rfl ?_
  refine aw_vload_n (pc1 := 4) at_411_3 l0 i0 rfl ?_
  obtain ⟨v1, e2, hs1⟩ := am_bind hs
  clear hs
  refine aw_pG (pc1 := 7) at_411_4 (am_vI_s e2) rfl ?_
  refine aw_i2l (v := (Int32.toInt64 v1)) (pc1 := 8) at_411_7 rfl rfl ?_
  refine aw_lconst (v := 1) (pc1 := 9) at_411_8 (by decide) rfl ?_
  refine aw_lsub (v := ((Int32.toInt64 v1) - 1)) (pc1 := 10) at_411_9 rfl rfl ?_
  refine aw_call (F := fm_327 ((Int32.toInt64 x1)) 0 (((Int32.toInt64 v1) - 1)) h) (t := false) (na := 3) (kd := 0) (as := [(.long (Int32.toInt64 x1)), (.long 0), (.long ((Int32.toInt64 v1) - 1))]) at_411_10 (am_k3s kb_327) mn_327 mk_327 rfl rfl (am_ok_s mi_327 (am_hl rfl (am_ccL (am_ccL (am_ccL am_cats_0))) rfl)) (am_hc am_cats_0 rfl) (fun hz9 => by cases hz9) (fun o1 hz9 => rm_327 ((Int32.toInt64 x1)) 0 (((Int32.toInt64 v1) - 1)) h o1  hz9) ?_
  rcases am_cI_s hs1 with ⟨v3, h4, f5, hs2⟩ | hs2
  · clear hs1
    refine Or.inl ⟨_, _, f5, ?_⟩
    show am_W X _ 411 13 _ [(.int v3)] h4 _
    by_cases c6 : ¬ v3 = 0
    · rw [if_pos c6] at hs2
      refine aw_ifne_t at_411_13 c6 ?_
      refine aw_vload_n (pc1 := 24) at_411_23 l0 i0 rfl ?_
      obtain ⟨v7, e8, hs3⟩ := am_bind hs2
      clear hs2
      refine aw_pG (pc1 := 27) at_411_24 (am_vR_s e8).1 rfl ?_
      refine aw_iload_n (pc1 := 28) at_411_27 l1 rfl ?_
      obtain ⟨v9, e10, hs4⟩ := am_bind hs3
      clear hs3
      refine aw_pA (pc1 := 29) at_411_28 (Or.inl ⟨rfl, rfl⟩) e10 rfl ?_
      cases hs4
      exact aw_iret at_411_29 (by rw [rt_411]; rfl) rfl
    · rw [if_neg c6] at hs2
      refine aw_ifne_f (pc1 := 16) at_411_13 c6 rfl ?_
      refine aw_vload_n (pc1 := 17) at_411_16 l0 i0 rfl ?_
      refine aw_iconst (v := 2) (pc1 := 18) at_411_17 (by decide) rfl ?_
      obtain ⟨h11, e12, hs5⟩ := am_bind hs2
      clear hs2
      refine aw_pP (pc1 := 21) at_411_18 e12 rfl ?_
      refine aw_iconst (v := 0) (pc1 := 22) at_411_21 (by decide) rfl ?_
      cases hs5
      exact aw_iret at_411_22 (by rw [rt_411]; rfl) rfl
  · clear hs1
    exact Or.inr hs2
def fm_411 (y0 : Value) (y1 : Int32) (h : am_H) : Option am_O := fg_411_0 y0 y1 h
theorem rm_411 {X : am_X} {d : Nat} (y0 : Value) (y1 : Int32) (h : am_H) (o : am_O) (i0 : am_isR y0 = true) (hs : fm_411 y0 y1 h = some o) : am_W X (d + 1) 411 0 (am_args 0 [y0, .int y1]) [] h (fun q => q = o) := by
  rw [am_args_R i0, am_args_I]
  exact rg_411_0 y0 y1 h o rfl rfl i0 hs
