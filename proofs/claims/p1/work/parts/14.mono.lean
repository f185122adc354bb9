/-- the heap grows alone -/
def am_le (h h1 : am_H) : Prop := h.length ≤ h1.length ∧ am_sz h ≤ am_sz h1
theorem am_le.rf (h : am_H) : am_le h h := ⟨Nat.le_refl _, Nat.le_refl _⟩
theorem am_le.tr {a b c : am_H} (h1 : am_le a b) (h2 : am_le b c) : am_le a c := ⟨Nat.le_trans h1.1 h2.1, Nat.le_trans h1.2 h2.2⟩
theorem am_le.push (h : am_H) (e : am_E) : am_le h (h ++ [e]) := ⟨by simp, by rw [am_sz_push]; omega⟩
theorem am_le.set {h : am_H} {a : Nat} {e0 e : am_E} (ha : h[a]? = some e0) (he : am_sz1 e = am_sz1 e0) : am_le h (h.set a e) := ⟨by simp, by rw [am_sz_set ha he]; exact Nat.le_refl _⟩
theorem am_iald_h {t pc : Nat} {lv : am_LV} {st : List Value} {h : am_H} {q : am_S} (hs : am_iald t pc lv st h = some q) : am_le h q.2.2.2 := by
  unfold am_iald at hs
  split at hs
  · split at hs
    · split at hs
      · cases hs; exact am_le.rf h
      · cases hs
    · cases hs
  · cases hs
theorem am_iast_h {t pc : Nat} {lv : am_LV} {st : List Value} {h : am_H} {q : am_S} (hs : am_iast t pc lv st h = some q) : am_le h q.2.2.2 := by
  unfold am_iast at hs
  split at hs
  · split at hs
    · rename_i ha
      split at hs
      · cases hs; exact am_le.set ha rfl
      · cases hs
    · cases hs
  · cases hs
theorem am_newa_h {t n pc : Nat} {lv : am_LV} {st : List Value} {h : am_H} {q : am_S} (hs : am_newa t n pc lv st h = some q) : am_le h q.2.2.2 := by
  unfold am_newa at hs
  split at hs
  · split at hs
    · cases hs; exact am_le.push h _
    · cases hs
  · cases hs
theorem am_s1_h {X : am_X} {i : Instr} {r pc : Nat} {lv : am_LV} {st : List Value} {h : am_H} {q : am_S} (hs : am_s1 X i r pc lv st h = some q) : am_le h q.2.2.2 := by
  cases i <;> first
    | (exact absurd (show none = some q from hs) (fun h9 => nomatch h9))
    | (obtain ⟨_, _, _, _, rfl⟩ := am_ii_s hs; exact am_le.rf h)
    | (obtain ⟨_, _, _, _, rfl⟩ := am_ll_s hs; exact am_le.rf h)
    | (obtain ⟨_, _, _, _, rfl⟩ := am_li_s hs; exact am_le.rf h)
    | (obtain ⟨_, _, _, _, _, rfl⟩ := am_iid_s hs; exact am_le.rf h)
    | (obtain ⟨_, _, _, _, _, rfl⟩ := am_lld0_s hs; exact am_le.rf h)
    | (obtain ⟨_, _, _, rfl⟩ := am_i1_s hs; exact am_le.rf h)
    | (obtain ⟨_, _, _, rfl⟩ := am_l1_s hs; exact am_le.rf h)
    | (obtain ⟨_, _, rfl⟩ := am_ild_s hs; exact am_le.rf h)
    | (obtain ⟨_, _, rfl⟩ := am_lld_s hs; exact am_le.rf h)
    | (obtain ⟨_, _, _, rfl⟩ := am_ald_s (base := 0) (ext := fun _ => 0) hs; exact am_le.rf h)
    | (obtain ⟨_, _, _, rfl⟩ := am_ist_s hs; exact am_le.rf h)
    | (obtain ⟨_, _, _, rfl⟩ := am_lst_s hs; exact am_le.rf h)
    | (obtain ⟨_, _, _, _, rfl⟩ := am_ast_s (base := 0) (ext := fun _ => 0) hs; exact am_le.rf h)
    | (cases (show some _ = some q from hs); exact am_le.rf h)
    | skip
  case iinc n w =>
    have hs2 : (match lv.lookup n with | some (.int x) => some (pc + 3, am_put1 lv n (.int (x + Int32.ofInt w)), st, h) | _ => none) = some q := hs
    split at hs2
    · cases hs2; exact am_le.rf h
    · cases hs2
  case ifCond cc o => cases cc <;> (obtain ⟨_, _, _, rfl⟩ := am_br_s hs; exact am_le.rf h)
  case if_icmp cc o => cases cc <;> (obtain ⟨_, _, _, _, rfl⟩ := am_bc_s hs; exact am_le.rf h)
  case lcmp =>
    have hs2 : am_lcm pc lv st h = some q := hs
    unfold am_lcm at hs2
    split at hs2
    · cases hs2; exact am_le.rf h
    · cases hs2
  case ifnull o =>
    have hs2 : am_nul true r pc lv st h = some q := hs
    unfold am_nul at hs2
    split at hs2 <;> first | (cases hs2; exact am_le.rf h) | cases hs2
  case ifnonnull o =>
    have hs2 : am_nul false r pc lv st h = some q := hs
    unfold am_nul at hs2
    split at hs2 <;> first | (cases hs2; exact am_le.rf h) | cases hs2
  case dup =>
    have hs2 : am_dup pc lv st h = some q := hs
    unfold am_dup at hs2
    split at hs2
    · split at hs2
      · cases hs2; exact am_le.rf h
      · cases hs2
    · cases hs2
  case pop =>
    have hs2 : am_pop pc lv st h = some q := hs
    unfold am_pop at hs2
    split at hs2
    · split at hs2
      · cases hs2; exact am_le.rf h
      · cases hs2
    · cases hs2
  case dup2 =>
    have hs2 : am_dup2 pc lv st h = some q := hs
    unfold am_dup2 at hs2
    split at hs2
    · cases hs2; exact am_le.rf h
    · split at hs2
      · cases hs2; exact am_le.rf h
      · cases hs2
    · cases hs2
  case tableswitch d lo hi os =>
    have hs2 : am_tsw d lo hi os pc lv st h = some q := hs
    unfold am_tsw at hs2
    split at hs2
    · split at hs2
      · cases hs2; exact am_le.rf h
      · split at hs2
        · cases hs2; exact am_le.rf h
        · cases hs2
    · cases hs2
  case lookupswitch d ps =>
    have hs2 : am_lsw d ps pc lv st h = some q := hs
    unfold am_lsw at hs2
    split at hs2
    · cases hs2; exact am_le.rf h
    · cases hs2
  case getfield x =>
    have hs2 : am_getf r pc lv st h = some q := hs
    unfold am_getf at hs2
    split at hs2
    · split at hs2
      · split at hs2
        · split at hs2
          · cases hs2; exact am_le.rf h
          · cases hs2
        · cases hs2
      · cases hs2
    · cases hs2
  case putfield x =>
    have hs2 : am_putf r pc lv st h = some q := hs
    unfold am_putf at hs2
    split at hs2
    · split at hs2
      · rename_i ha
        split at hs2
        · cases hs2; exact am_le.set ha rfl
        · cases hs2
      · cases hs2
    · cases hs2
  case iaload =>
    have hs2 : am_ialdX X pc lv st h = some q := hs
    unfold am_ialdX at hs2
    split at hs2
    · split at hs2
      · cases hs2; exact am_le.rf h
      · cases hs2
    · exact am_iald_h hs2
  case baload => exact am_iald_h (t := 2) hs
  case caload => exact am_iald_h (t := 3) hs
  case laload =>
    have hs2 : am_lald pc lv st h = some q := hs
    unfold am_lald at hs2
    split at hs2
    · split at hs2
      · split at hs2
        · cases hs2; exact am_le.rf h
        · cases hs2
      · cases hs2
    · cases hs2
  case aaload =>
    have hs2 : am_aald pc lv st h = some q := hs
    unfold am_aald at hs2
    split at hs2
    · split at hs2
      · split at hs2
        · cases hs2; exact am_le.rf h
        · cases hs2
      · cases hs2
    · cases hs2
  case iastore => exact am_iast_h (t := 0) hs
  case bastore => exact am_iast_h (t := 2) hs
  case castore => exact am_iast_h (t := 3) hs
  case lastore =>
    have hs2 : am_last pc lv st h = some q := hs
    unfold am_last at hs2
    split at hs2
    · split at hs2
      · rename_i ha
        split at hs2
        · cases hs2; exact am_le.set ha rfl
        · cases hs2
      · cases hs2
    · cases hs2
  case aastore =>
    have hs2 : am_aast pc lv st h = some q := hs
    unfold am_aast at hs2
    split at hs2
    · split at hs2
      · rename_i ha hv
        split at hs2
        · cases hs2; exact am_le.set ha rfl
        · cases hs2
      · cases hs2
    · cases hs2
  case arraylength =>
    have hs2 : am_alen X pc lv st h = some q := hs
    unfold am_alen at hs2
    split at hs2
    · split at hs2
      · split at hs2
        · cases hs2; exact am_le.rf h
        · cases hs2
      · cases hs2
    · split at hs2
      · cases hs2; exact am_le.rf h
      · cases hs2
    · cases hs2
  case newarray t => exact am_newa_h hs
  case anewarray x =>
    have hs2 : (if Nat.blt r 7 then am_newa r 3 pc lv st h else none) = some q := hs
    split at hs2
    · exact am_newa_h hs2
    · cases hs2
  case new x =>
    have hs2 : (if Nat.blt r 100 then am_newo r pc lv st h else none) = some q := hs
    split at hs2
    · unfold am_newo at hs2
      split at hs2
      · cases hs2; exact am_le.push h _
      · cases hs2
    · cases hs2
  case ldc x =>
    have hs2 : am_ksi r pc lv st h = some q := hs
    unfold am_ksi at hs2
    split at hs2
    · cases hs2; exact am_le.rf h
    · cases hs2
  case ldc_w x =>
    have hs2 : am_ksw r pc lv st h = some q := hs
    unfold am_ksw at hs2
    split at hs2
    · cases hs2; exact am_le.rf h
    · cases hs2
  case ldc2_w x =>
    have hs2 : am_ksl r pc lv st h = some q := hs
    unfold am_ksl at hs2
    split at hs2
    · cases hs2; exact am_le.rf h
    · cases hs2
  case getstatic x =>
    have hs2 : am_gst r pc lv st h = some q := hs
    unfold am_gst at hs2
    split at hs2
    · cases hs2; exact am_le.rf h
    · cases hs2
/-- the heap that a run leaves -/
def am_oh : am_O → am_H
  | .inl (_, h) => h
  | .inr (_, h) => h
theorem am_ret_h {m : am_M} {i : Instr} {st : List Value} {h : am_H} {o : am_O} (hs : am_ret m i st h = some o) : am_oh o = h := by
  unfold am_ret at hs
  split at hs
  · split at hs
    · cases hs; rfl
    · cases hs
  · split at hs <;> first | (cases hs; rfl) | cases hs
  · split at hs <;> first | (cases hs; rfl) | cases hs
  · split at hs <;> first | (cases hs; rfl) | cases hs
  · cases hs
theorem am_run_h {X : am_X} : ∀ (n d y pc : Nat) (lv : am_LV) (st : List Value) (h : am_H) (o : am_O), am_run X n d y pc lv st h = some o → am_le h (am_oh o) := by
  intro n
  induction n with
  | zero => intro d y pc lv st h o hs; cases hs
  | succ n ih =>
    intro d y pc lv st h o hs
    unfold am_run at hs
    split at hs
    · cases hs
    · split at hs
      · split at hs
        · rename_i h1; exact (am_s1_h h1).tr (ih _ _ _ _ _ _ _ hs)
        · cases hs
      · rw [am_ret_h hs]; exact am_le.rf h
      · split at hs
        · cases hs; exact am_le.push h _
        · cases hs
      · split at hs
        · split at hs
          · cases hs
          · split at hs
            · rename_i h1; exact (ih _ _ _ _ _ _ _ h1).tr (ih _ _ _ _ _ _ _ hs)
            · rename_i h1
              split at hs
              · split at hs
                · cases hs; exact ih _ _ _ _ _ _ _ h1
                · split at hs
                  · exact (ih _ _ _ _ _ _ _ h1).tr (ih _ _ _ _ _ _ _ hs)
                  · cases hs
              · cases hs
            · cases hs
        · cases hs
      · split at hs
        · rename_i h1
          split at hs
          · unfold am_acopy at h1
            split at h1
            · split at h1
              · rename_i ha hb
                split at h1
                · cases h1; refine am_le.tr ?_ (ih _ _ _ _ _ _ _ hs); exact am_le.set hb rfl
                · cases h1
              · cases h1
            · cases h1
          · cases hs
        · cases hs
      · split at hs
        · split at hs
          · exact ih _ _ _ _ _ _ _ hs
          · cases hs
        · cases hs
      · split at hs
        · split at hs
          · exact ih _ _ _ _ _ _ _ hs
          · cases hs
        · cases hs
      · split at hs
        · split at hs
          · exact ih _ _ _ _ _ _ _ hs
          · cases hs
        · cases hs
      · exact ih _ _ _ _ _ _ _ hs
      · cases hs
