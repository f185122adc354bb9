/-- arithmetic, locals, branches, the pile -/
def am_pl : Instr → Bool
  | .iconst _ => true
  | .bipush _ => true
  | .sipush _ => true
  | .lconst _ => true
  | .aconst_null => true
  | .iload_n _ => true
  | .iload _ => true
  | .lload_n _ => true
  | .lload _ => true
  | .aload_n _ => true
  | .aload _ => true
  | .istore_n _ => true
  | .istore _ => true
  | .lstore_n _ => true
  | .lstore _ => true
  | .astore_n _ => true
  | .astore _ => true
  | .iinc _ _ => true
  | .iadd => true
  | .isub => true
  | .imul => true
  | .iand => true
  | .ior => true
  | .ixor => true
  | .ishl => true
  | .ishr => true
  | .iushr => true
  | .idiv => true
  | .irem => true
  | .ineg => true
  | .i2l => true
  | .i2c => true
  | .ladd => true
  | .lsub => true
  | .lmul => true
  | .land => true
  | .lor => true
  | .lxor => true
  | .ldiv => true
  | .lrem => true
  | .lneg => true
  | .l2i => true
  | .lshl => true
  | .lshr => true
  | .lushr => true
  | .lcmp => true
  | .dup => true
  | .pop => true
  | .dup2 => true
  | .goto _ => true
  | .ifCond _ _ => true
  | .if_icmp _ _ => true
  | .ifnull _ => true
  | .ifnonnull _ => true
  | _ => false
section
variable {p : Program} {l : Launch} {e : Env} {R : Room} {s : State} {mm : MethodId} {args : Array Value} {below : List Frame} {meth : Method} {c : Code} {Q : State → Prop} {m : am_M} {D : va_G} {ca : Nat → ClassId} {base : Nat} {ext : Nat → Nat} {X : am_X} {H0 : Heap} {n0 z0 : Nat}
/-- the real machine comes to Q from every state that the abstract one stands for -/
def am_G (p : Program) (l : Launch) (e : Env) (R : Room) (s : State) (mm : MethodId) (args : Array Value) (below : List Frame) (meth : Method) (c : Code) (Q : State → Prop) (m : am_M) (D : va_G) (ca : Nat → ClassId) (base : Nat) (ext : Nat → Nat) (H0 : Heap) (n0 z0 : Nat) (pc : Nat) (lv : am_LV) (st : List Value) (h : am_H) : Prop :=
  ∀ (ls : Array Slot) (H : Heap) (locs : List Loc), lv_has ls (am_mx m) (am_rl base ext lv) → am_Wd base ext D ca h H → (∀ q, q < base → H[q]? = H0[q]?) → (∀ z ∈ locs, base ≤ z.base) →
    W p l e R s mm args below meth c H locs (h.length - n0) (am_sz h - z0) Q (F0 mm pc ls (am_rs base ext st))
abbrev am_G1 (p : Program) (l : Launch) (e : Env) (R : Room) (s : State) (mm : MethodId) (args : Array Value) (below : List Frame) (meth : Method) (c : Code) (Q : State → Prop) (m : am_M) (D : va_G) (ca : Nat → ClassId) (base : Nat) (ext : Nat → Nat) (H0 : Heap) (n0 z0 : Nat) (q : am_S) : Prop := am_G p l e R s mm args below meth c Q m D ca base ext H0 n0 z0 q.1 q.2.1 q.2.2.1 q.2.2.2
theorem am_ii_s {f : Int32 → Int32 → Int32} {pc : Nat} {lv : am_LV} {st : List Value} {h : am_H} {q : am_S} (hs : am_ii f pc lv st h = some q) : ∃ x y r, st = .int y :: .int x :: r ∧ q = (pc + 1, lv, .int (f x y) :: r, h) := by
  unfold am_ii at hs
  split at hs
  · cases hs; exact ⟨_, _, _, rfl, rfl⟩
  · cases hs
theorem am_iid_s {f : Int32 → Int32 → Int32} {pc : Nat} {lv : am_LV} {st : List Value} {h : am_H} {q : am_S} (hs : am_iid f pc lv st h = some q) : ∃ x y r, st = .int y :: .int x :: r ∧ ¬ y = 0 ∧ q = (pc + 1, lv, .int (f x y) :: r, h) := by
  unfold am_iid at hs
  split at hs
  · split at hs
    · cases hs
    · cases hs; exact ⟨_, _, _, rfl, by assumption, rfl⟩
  · cases hs
theorem am_ll_s {f : Int64 → Int64 → Int64} {pc : Nat} {lv : am_LV} {st : List Value} {h : am_H} {q : am_S} (hs : am_ll f pc lv st h = some q) : ∃ x y r, st = .long y :: .long x :: r ∧ q = (pc + 1, lv, .long (f x y) :: r, h) := by
  unfold am_ll at hs
  split at hs
  · cases hs; exact ⟨_, _, _, rfl, rfl⟩
  · cases hs
theorem am_lld0_s {f : Int64 → Int64 → Int64} {pc : Nat} {lv : am_LV} {st : List Value} {h : am_H} {q : am_S} (hs : am_lld0 f pc lv st h = some q) : ∃ x y r, st = .long y :: .long x :: r ∧ ¬ y = 0 ∧ q = (pc + 1, lv, .long (f x y) :: r, h) := by
  unfold am_lld0 at hs
  split at hs
  · split at hs
    · cases hs
    · cases hs; exact ⟨_, _, _, rfl, by assumption, rfl⟩
  · cases hs
theorem am_li_s {f : Int64 → Int32 → Int64} {pc : Nat} {lv : am_LV} {st : List Value} {h : am_H} {q : am_S} (hs : am_li f pc lv st h = some q) : ∃ x y r, st = .int y :: .long x :: r ∧ q = (pc + 1, lv, .long (f x y) :: r, h) := by
  unfold am_li at hs
  split at hs
  · cases hs; exact ⟨_, _, _, rfl, rfl⟩
  · cases hs
theorem am_i1_s {f : Int32 → Value} {pc : Nat} {lv : am_LV} {st : List Value} {h : am_H} {q : am_S} (hs : am_i1 f pc lv st h = some q) : ∃ x r, st = .int x :: r ∧ q = (pc + 1, lv, f x :: r, h) := by
  unfold am_i1 at hs
  split at hs
  · cases hs; exact ⟨_, _, rfl, rfl⟩
  · cases hs
theorem am_l1_s {f : Int64 → Value} {pc : Nat} {lv : am_LV} {st : List Value} {h : am_H} {q : am_S} (hs : am_l1 f pc lv st h = some q) : ∃ x r, st = .long x :: r ∧ q = (pc + 1, lv, f x :: r, h) := by
  unfold am_l1 at hs
  split at hs
  · cases hs; exact ⟨_, _, rfl, rfl⟩
  · cases hs
theorem am_br_s {f : Int32 → Bool} {t pc : Nat} {lv : am_LV} {st : List Value} {h : am_H} {q : am_S} (hs : am_br f t pc lv st h = some q) : ∃ x r, st = .int x :: r ∧ q = (if f x then t else pc + 3, lv, r, h) := by
  unfold am_br at hs
  split at hs
  · cases hs; exact ⟨_, _, rfl, rfl⟩
  · cases hs
theorem am_bc_s {f : Int32 → Int32 → Bool} {t pc : Nat} {lv : am_LV} {st : List Value} {h : am_H} {q : am_S} (hs : am_bc f t pc lv st h = some q) : ∃ x y r, st = .int y :: .int x :: r ∧ q = (if f x y then t else pc + 3, lv, r, h) := by
  unfold am_bc at hs
  split at hs
  · cases hs; exact ⟨_, _, _, rfl, rfl⟩
  · cases hs
theorem am_ild_s {k n pc : Nat} {lv : am_LV} {st : List Value} {h : am_H} {q : am_S} (hs : am_ild k n pc lv st h = some q) : ∃ x, lv.lookup k = some (.int x) ∧ q = (pc + n, lv, .int x :: st, h) := by
  unfold am_ild at hs
  split at hs
  · cases hs; exact ⟨_, by assumption, rfl⟩
  · cases hs
theorem am_lld_s {k n pc : Nat} {lv : am_LV} {st : List Value} {h : am_H} {q : am_S} (hs : am_lld k n pc lv st h = some q) : ∃ x, lv.lookup k = some (.long x) ∧ q = (pc + n, lv, .long x :: st, h) := by
  unfold am_lld at hs
  split at hs
  · cases hs; exact ⟨_, by assumption, rfl⟩
  · cases hs
theorem am_ald_s {k n pc : Nat} {lv : am_LV} {st : List Value} {h : am_H} {q : am_S} (hs : am_ald k n pc lv st h = some q) : ∃ v, lv.lookup k = some v ∧ ((∃ a, am_rv base ext v = .ref a) ∨ am_rv base ext v = .null) ∧ q = (pc + n, lv, v :: st, h) := by
  unfold am_ald at hs
  split at hs
  · cases hs; exact ⟨_, by assumption, Or.inl ⟨_, rfl⟩, rfl⟩
  · cases hs; exact ⟨_, by assumption, Or.inl ⟨_, rfl⟩, rfl⟩
  · cases hs; exact ⟨_, by assumption, Or.inr rfl, rfl⟩
  · cases hs
theorem am_ist_s {k n pc : Nat} {lv : am_LV} {st : List Value} {h : am_H} {q : am_S} (hs : am_ist k n pc lv st h = some q) : ∃ x r, st = .int x :: r ∧ q = (pc + n, am_put1 lv k (.int x), r, h) := by
  unfold am_ist at hs
  split at hs
  · cases hs; exact ⟨_, _, rfl, rfl⟩
  · cases hs
theorem am_lst_s {k n pc : Nat} {lv : am_LV} {st : List Value} {h : am_H} {q : am_S} (hs : am_lst k n pc lv st h = some q) : ∃ x r, st = .long x :: r ∧ q = (pc + n, am_put2 lv k (.long x), r, h) := by
  unfold am_lst at hs
  split at hs
  · cases hs; exact ⟨_, _, rfl, rfl⟩
  · cases hs
theorem am_ast_s {k n pc : Nat} {lv : am_LV} {st : List Value} {h : am_H} {q : am_S} (hs : am_ast k n pc lv st h = some q) : ∃ v r, st = v :: r ∧ ((∃ a, am_rv base ext v = .ref a) ∨ am_rv base ext v = .null) ∧ q = (pc + n, am_put1 lv k v, r, h) := by
  unfold am_ast at hs
  split at hs
  · cases hs; exact ⟨_, _, rfl, Or.inl ⟨_, rfl⟩, rfl⟩
  · cases hs; exact ⟨_, _, rfl, Or.inl ⟨_, rfl⟩, rfl⟩
  · cases hs; exact ⟨_, _, rfl, Or.inr rfl, rfl⟩
  · cases hs
/-- arithmetic, locals, branches -/
theorem am_plain {i : Instr} {r pc : Nat} {lv : am_LV} {st : List Value} {h : am_H} {q : am_S} (Cx : am_Cx p s mm args meth c m D ca base ext X H0) (hd : am_dec (am_by m) pc i = true) (hk : am_lk m pc i r = true) (hs : am_s1 X i r pc lv st h = some q) (hp : am_pl i = true)
    (k : am_G1 p l e R s mm args below meth c Q m D ca base ext H0 n0 z0 q) : am_G p l e R s mm args below meth c Q m D ca base ext H0 n0 z0 pc lv st h := by
  obtain ⟨hx, hb, hml, hown, hts, hK, -⟩ := Cx
  intro ls H locs hl hw h0 hlo
  cases i <;> first
    | (exact absurd (show false = true from hp) Bool.false_ne_true)
    | skip
  case iconst n => cases hs; exact lv_iconst hx hb (am_dec_ok hd rfl) rfl (k ls H locs hl hw h0 hlo)
  case bipush n => cases hs; exact lv_bipush hx hb (am_dec_ok hd rfl) rfl (k ls H locs hl hw h0 hlo)
  case sipush n => cases hs; exact lv_sipush hx hb (am_dec_ok hd rfl) rfl (k ls H locs hl hw h0 hlo)
  case lconst n => cases hs; exact lv_lconst hx hb (am_dec_ok hd rfl) rfl (k ls H locs hl hw h0 hlo)
  case aconst_null => cases hs; exact lv_null hx hb (am_dec_ok hd rfl) (k ls H locs hl hw h0 hlo)
  case iload_n n => obtain ⟨x, h1, rfl⟩ := am_ild_s hs; exact lv_iload_n hx hb (am_dec_ok hd rfl) rfl (am_lv_get hl h1) (k ls H locs hl hw h0 hlo)
  case iload n => obtain ⟨x, h1, rfl⟩ := am_ild_s hs; exact lv_iload hx hb (am_dec_ok hd rfl) (am_lv_get hl h1) (k ls H locs hl hw h0 hlo)
  case lload_n n => obtain ⟨x, h1, rfl⟩ := am_lld_s hs; exact lv_lload_n hx hb (am_dec_ok hd rfl) rfl (am_lv_get hl h1) (k ls H locs hl hw h0 hlo)
  case lload n => obtain ⟨x, h1, rfl⟩ := am_lld_s hs; exact lv_lload hx hb (am_dec_ok hd rfl) (am_lv_get hl h1) (k ls H locs hl hw h0 hlo)
  case aload_n n =>
    obtain ⟨v, h1, h2, rfl⟩ := am_ald_s (base := base) (ext := ext) hs
    have h3 := am_lv_get hl h1
    have h4 := k ls H locs hl hw h0 hlo
    simp only [am_rs, List.map_cons] at h4
    rcases h2 with ⟨a, h2⟩ | h2
    · rw [h2] at h3 h4; exact lv_aload_n hx hb (am_dec_ok hd rfl) rfl h3 h4
    · rw [h2] at h3 h4; exact lv_aload_nN hx hb (am_dec_ok hd rfl) rfl h3 h4
  case aload n =>
    obtain ⟨v, h1, h2, rfl⟩ := am_ald_s (base := base) (ext := ext) hs
    have h3 := am_lv_get hl h1
    have h4 := k ls H locs hl hw h0 hlo
    simp only [am_rs, List.map_cons] at h4
    rcases h2 with ⟨a, h2⟩ | h2
    · rw [h2] at h3 h4; exact lv_aload hx hb (am_dec_ok hd rfl) h3 h4
    · rw [h2] at h3 h4; exact lv_aloadN hx hb (am_dec_ok hd rfl) h3 h4
  case istore_n n => obtain ⟨x, r9, rfl, rfl⟩ := am_ist_s hs; exact lv_istore_n hx hb (am_dec_ok hd rfl) rfl hl (Nat.blt_eq.mp hk) (am_rl_put1 base ext lv _ (.int x)) (fun ls1 hl1 => k ls1 H locs hl1 hw h0 hlo)
  case istore n => obtain ⟨x, r9, rfl, rfl⟩ := am_ist_s hs; exact lv_istore hx hb (am_dec_ok hd rfl) hl (Nat.blt_eq.mp hk) (am_rl_put1 base ext lv _ (.int x)) (fun ls1 hl1 => k ls1 H locs hl1 hw h0 hlo)
  case lstore_n n => obtain ⟨x, r9, rfl, rfl⟩ := am_lst_s hs; exact lv_lstore_n hx hb (am_dec_ok hd rfl) rfl hl (Nat.blt_eq.mp hk) (am_rl_put2 base ext lv _ (.long x)) (fun ls1 hl1 => k ls1 H locs hl1 hw h0 hlo)
  case lstore n => obtain ⟨x, r9, rfl, rfl⟩ := am_lst_s hs; exact lv_lstore hx hb (am_dec_ok hd rfl) hl (Nat.blt_eq.mp hk) (am_rl_put2 base ext lv _ (.long x)) (fun ls1 hl1 => k ls1 H locs hl1 hw h0 hlo)
  case astore_n n =>
    obtain ⟨v, r9, rfl, h2, rfl⟩ := am_ast_s (base := base) (ext := ext) hs
    have h4 := am_rl_put1 base ext lv n v
    show W p l e R s mm args below meth c H locs _ _ Q (F0 mm pc ls (am_rv base ext v :: am_rs base ext r9))
    rcases h2 with ⟨a, h2⟩ | h2
    · rw [h2] at h4 ⊢; exact lv_astore_n hx hb (am_dec_ok hd rfl) rfl hl (Nat.blt_eq.mp hk) h4 (fun ls1 hl1 => k ls1 H locs hl1 hw h0 hlo)
    · rw [h2] at h4 ⊢; exact lv_astore_nN hx hb (am_dec_ok hd rfl) rfl hl (Nat.blt_eq.mp hk) h4 (fun ls1 hl1 => k ls1 H locs hl1 hw h0 hlo)
  case astore n =>
    obtain ⟨v, r9, rfl, h2, rfl⟩ := am_ast_s (base := base) (ext := ext) hs
    have h4 := am_rl_put1 base ext lv n v
    show W p l e R s mm args below meth c H locs _ _ Q (F0 mm pc ls (am_rv base ext v :: am_rs base ext r9))
    rcases h2 with ⟨a, h2⟩ | h2
    · rw [h2] at h4 ⊢; exact lv_astore hx hb (am_dec_ok hd rfl) hl (Nat.blt_eq.mp hk) h4 (fun ls1 hl1 => k ls1 H locs hl1 hw h0 hlo)
    · rw [h2] at h4 ⊢; exact lv_astoreN hx hb (am_dec_ok hd rfl) hl (Nat.blt_eq.mp hk) h4 (fun ls1 hl1 => k ls1 H locs hl1 hw h0 hlo)
  case iinc n w =>
    have hs2 : (match lv.lookup n with | some (.int x) => some (pc + 3, am_put1 lv n (.int (x + Int32.ofInt w)), st, h) | _ => none) = some q := hs
    split at hs2
    · rename_i x h1
      cases hs2
      have hmem : (n, Value.int x) ∈ am_rl base ext lv := List.mem_map.mpr ⟨(n, .int x), am_lookup_mem h1, rfl⟩
      obtain ⟨j, hj⟩ := List.getElem?_of_mem hmem
      exact lv_iinc hx hb (am_dec_ok hd rfl) hl hj rfl (Nat.blt_eq.mp hk) (am_rl_put1 base ext lv _ (.int (x + Int32.ofInt w))) (fun ls1 hl1 => k ls1 H locs hl1 hw h0 hlo)
    · cases hs2
  case iadd => obtain ⟨x, y, r9, rfl, rfl⟩ := am_ii_s hs; exact lv_iadd hx hb (am_dec_ok hd rfl) (k ls H locs hl hw h0 hlo)
  case isub => obtain ⟨x, y, r9, rfl, rfl⟩ := am_ii_s hs; exact lv_isub hx hb (am_dec_ok hd rfl) (k ls H locs hl hw h0 hlo)
  case imul => obtain ⟨x, y, r9, rfl, rfl⟩ := am_ii_s hs; exact lv_imul hx hb (am_dec_ok hd rfl) (k ls H locs hl hw h0 hlo)
  case iand => obtain ⟨x, y, r9, rfl, rfl⟩ := am_ii_s hs; exact lv_iand hx hb (am_dec_ok hd rfl) (k ls H locs hl hw h0 hlo)
  case ior => obtain ⟨x, y, r9, rfl, rfl⟩ := am_ii_s hs; exact lv_ior hx hb (am_dec_ok hd rfl) (k ls H locs hl hw h0 hlo)
  case ixor => obtain ⟨x, y, r9, rfl, rfl⟩ := am_ii_s hs; exact lv_ixor hx hb (am_dec_ok hd rfl) (k ls H locs hl hw h0 hlo)
  case ishl => obtain ⟨x, y, r9, rfl, rfl⟩ := am_ii_s hs; exact lv_ishl hx hb (am_dec_ok hd rfl) (k ls H locs hl hw h0 hlo)
  case ishr => obtain ⟨x, y, r9, rfl, rfl⟩ := am_ii_s hs; exact lv_ishr hx hb (am_dec_ok hd rfl) (k ls H locs hl hw h0 hlo)
  case iushr => obtain ⟨x, y, r9, rfl, rfl⟩ := am_ii_s hs; exact lv_iushr hx hb (am_dec_ok hd rfl) rfl (k ls H locs hl hw h0 hlo)
  case idiv => obtain ⟨x, y, r9, rfl, hy, rfl⟩ := am_iid_s hs; exact lv_idiv hx hb (am_dec_ok hd rfl) hy (k ls H locs hl hw h0 hlo)
  case irem => obtain ⟨x, y, r9, rfl, hy, rfl⟩ := am_iid_s hs; exact lv_irem hx hb (am_dec_ok hd rfl) hy (k ls H locs hl hw h0 hlo)
  case ineg => obtain ⟨x, r9, rfl, rfl⟩ := am_i1_s hs; exact lv_ineg hx hb (am_dec_ok hd rfl) (k ls H locs hl hw h0 hlo)
  case i2l => obtain ⟨x, r9, rfl, rfl⟩ := am_i1_s hs; exact lv_i2l hx hb (am_dec_ok hd rfl) rfl (k ls H locs hl hw h0 hlo)
  case i2c => obtain ⟨x, r9, rfl, rfl⟩ := am_i1_s hs; exact lv_i2c hx hb (am_dec_ok hd rfl) rfl (k ls H locs hl hw h0 hlo)
  case ladd => obtain ⟨x, y, r9, rfl, rfl⟩ := am_ll_s hs; exact lv_ladd hx hb (am_dec_ok hd rfl) (k ls H locs hl hw h0 hlo)
  case lsub => obtain ⟨x, y, r9, rfl, rfl⟩ := am_ll_s hs; exact lv_lsub hx hb (am_dec_ok hd rfl) (k ls H locs hl hw h0 hlo)
  case lmul => obtain ⟨x, y, r9, rfl, rfl⟩ := am_ll_s hs; exact lv_lmul hx hb (am_dec_ok hd rfl) (k ls H locs hl hw h0 hlo)
  case land => obtain ⟨x, y, r9, rfl, rfl⟩ := am_ll_s hs; exact lv_land hx hb (am_dec_ok hd rfl) (k ls H locs hl hw h0 hlo)
  case lor => obtain ⟨x, y, r9, rfl, rfl⟩ := am_ll_s hs; exact lv_lor hx hb (am_dec_ok hd rfl) (k ls H locs hl hw h0 hlo)
  case lxor => obtain ⟨x, y, r9, rfl, rfl⟩ := am_ll_s hs; exact lv_lxor hx hb (am_dec_ok hd rfl) (k ls H locs hl hw h0 hlo)
  case ldiv => obtain ⟨x, y, r9, rfl, hy, rfl⟩ := am_lld0_s hs; exact lv_ldiv hx hb (am_dec_ok hd rfl) hy (k ls H locs hl hw h0 hlo)
  case lrem => obtain ⟨x, y, r9, rfl, hy, rfl⟩ := am_lld0_s hs; exact lv_lrem hx hb (am_dec_ok hd rfl) hy (k ls H locs hl hw h0 hlo)
  case lneg => obtain ⟨x, r9, rfl, rfl⟩ := am_l1_s hs; exact lv_lneg hx hb (am_dec_ok hd rfl) (k ls H locs hl hw h0 hlo)
  case l2i => obtain ⟨x, r9, rfl, rfl⟩ := am_l1_s hs; exact lv_l2i hx hb (am_dec_ok hd rfl) rfl (k ls H locs hl hw h0 hlo)
  case lshl => obtain ⟨x, y, r9, rfl, rfl⟩ := am_li_s hs; exact lv_lshl hx hb (am_dec_ok hd rfl) rfl (k ls H locs hl hw h0 hlo)
  case lshr => obtain ⟨x, y, r9, rfl, rfl⟩ := am_li_s hs; exact lv_lshr hx hb (am_dec_ok hd rfl) rfl (k ls H locs hl hw h0 hlo)
  case lushr => obtain ⟨x, y, r9, rfl, rfl⟩ := am_li_s hs; exact lv_lushr hx hb (am_dec_ok hd rfl) rfl (k ls H locs hl hw h0 hlo)
  case lcmp =>
    have hs2 : am_lcm pc lv st h = some q := hs
    unfold am_lcm at hs2
    split at hs2
    · cases hs2; exact W.lcmp hx hb (am_dec_ok hd rfl) (k ls H locs hl hw h0 hlo)
    · cases hs2
  case goto o => cases hs; exact lv_goto hx hb (am_dec_ok hd rfl) (of_decide_eq_true hk) (k ls H locs hl hw h0 hlo)
  case ifCond cc o =>
    cases cc
    case eq => obtain ⟨x, r9, rfl, rfl⟩ := am_br_s hs; refine lv_if_eq hx hb (am_dec_ok hd rfl) (of_decide_eq_true hk) (fun hc => ?_) (fun hc => ?_) <;> have h4 := k ls H locs hl hw h0 hlo <;> simpa only [hc, decide_true, decide_false, if_true, if_false, Bool.false_eq_true] using h4
    case ne => obtain ⟨x, r9, rfl, rfl⟩ := am_br_s hs; refine lv_if_ne hx hb (am_dec_ok hd rfl) (of_decide_eq_true hk) (fun hc => ?_) (fun hc => ?_) <;> have h4 := k ls H locs hl hw h0 hlo <;> simpa only [hc, not_true, not_false_iff, decide_true, decide_false, if_true, if_false, Bool.false_eq_true] using h4
    case lt => obtain ⟨x, r9, rfl, rfl⟩ := am_br_s hs; refine lv_if_lt hx hb (am_dec_ok hd rfl) (of_decide_eq_true hk) (fun hc => ?_) (fun hc => ?_) <;> have h4 := k ls H locs hl hw h0 hlo <;> simpa only [hc, decide_true, decide_false, if_true, if_false, Bool.false_eq_true] using h4
    case ge => obtain ⟨x, r9, rfl, rfl⟩ := am_br_s hs; refine lv_if_ge hx hb (am_dec_ok hd rfl) (of_decide_eq_true hk) (fun hc => ?_) (fun hc => ?_) <;> have h4 := k ls H locs hl hw h0 hlo <;> simpa only [hc, decide_true, decide_false, if_true, if_false, Bool.false_eq_true] using h4
    case gt => obtain ⟨x, r9, rfl, rfl⟩ := am_br_s hs; refine lv_if_gt hx hb (am_dec_ok hd rfl) (of_decide_eq_true hk) (fun hc => ?_) (fun hc => ?_) <;> have h4 := k ls H locs hl hw h0 hlo <;> simpa only [hc, decide_true, decide_false, if_true, if_false, Bool.false_eq_true] using h4
    case le => obtain ⟨x, r9, rfl, rfl⟩ := am_br_s hs; refine lv_if_le hx hb (am_dec_ok hd rfl) (of_decide_eq_true hk) (fun hc => ?_) (fun hc => ?_) <;> have h4 := k ls H locs hl hw h0 hlo <;> simpa only [hc, decide_true, decide_false, if_true, if_false, Bool.false_eq_true] using h4
  case if_icmp cc o =>
    cases cc
    case eq => obtain ⟨x, y, r9, rfl, rfl⟩ := am_bc_s hs; refine lv_icmp_eq hx hb (am_dec_ok hd rfl) (of_decide_eq_true hk) (fun hc => ?_) (fun hc => ?_) <;> have h4 := k ls H locs hl hw h0 hlo <;> simpa only [hc, decide_true, decide_false, if_true, if_false, Bool.false_eq_true] using h4
    case ne => obtain ⟨x, y, r9, rfl, rfl⟩ := am_bc_s hs; refine lv_icmp_ne hx hb (am_dec_ok hd rfl) (of_decide_eq_true hk) (fun hc => ?_) (fun hc => ?_) <;> have h4 := k ls H locs hl hw h0 hlo <;> simpa only [hc, not_true, not_false_iff, decide_true, decide_false, if_true, if_false, Bool.false_eq_true] using h4
    case lt => obtain ⟨x, y, r9, rfl, rfl⟩ := am_bc_s hs; refine lv_icmp_lt hx hb (am_dec_ok hd rfl) (of_decide_eq_true hk) (fun hc => ?_) (fun hc => ?_) <;> have h4 := k ls H locs hl hw h0 hlo <;> simpa only [hc, decide_true, decide_false, if_true, if_false, Bool.false_eq_true] using h4
    case ge => obtain ⟨x, y, r9, rfl, rfl⟩ := am_bc_s hs; refine lv_icmp_ge hx hb (am_dec_ok hd rfl) (of_decide_eq_true hk) (fun hc => ?_) (fun hc => ?_) <;> have h4 := k ls H locs hl hw h0 hlo <;> simpa only [hc, decide_true, decide_false, if_true, if_false, Bool.false_eq_true] using h4
    case gt => obtain ⟨x, y, r9, rfl, rfl⟩ := am_bc_s hs; refine lv_icmp_gt hx hb (am_dec_ok hd rfl) (of_decide_eq_true hk) (fun hc => ?_) (fun hc => ?_) <;> have h4 := k ls H locs hl hw h0 hlo <;> simpa only [hc, decide_true, decide_false, if_true, if_false, Bool.false_eq_true] using h4
    case le => obtain ⟨x, y, r9, rfl, rfl⟩ := am_bc_s hs; refine lv_icmp_le hx hb (am_dec_ok hd rfl) (of_decide_eq_true hk) (fun hc => ?_) (fun hc => ?_) <;> have h4 := k ls H locs hl hw h0 hlo <;> simpa only [hc, decide_true, decide_false, if_true, if_false, Bool.false_eq_true] using h4
  case dup =>
    have hs2 : am_dup pc lv st h = some q := hs
    unfold am_dup at hs2
    split at hs2
    · split at hs2
      · rename_i v r9 hc
        cases hs2
        exact lv_dup hx hb (am_dec_ok hd rfl) (by rw [am_rv_cat]; exact beq_iff_eq.mp hc) (k ls H locs hl hw h0 hlo)
      · cases hs2
    · cases hs2
  case pop =>
    have hs2 : am_pop pc lv st h = some q := hs
    unfold am_pop at hs2
    split at hs2
    · split at hs2
      · rename_i v r9 hc
        cases hs2
        exact lv_pop hx hb (am_dec_ok hd rfl) (by rw [am_rv_cat]; exact beq_iff_eq.mp hc) (k ls H locs hl hw h0 hlo)
      · cases hs2
    · cases hs2
  case dup2 =>
    have hs2 : am_dup2 pc lv st h = some q := hs
    unfold am_dup2 at hs2
    split at hs2
    · cases hs2; exact lv_dup2_2 hx hb (am_dec_ok hd rfl) rfl (k ls H locs hl hw h0 hlo)
    · split at hs2
      · rename_i v w r9 _ hc
        cases hs2
        rw [Bool.and_eq_true, beq_iff_eq, beq_iff_eq] at hc
        exact lv_dup2_11 hx hb (am_dec_ok hd rfl) (by rw [am_rv_cat]; exact hc.1) (by rw [am_rv_cat]; exact hc.2) (k ls H locs hl hw h0 hlo)
      · cases hs2
    · cases hs2
  case ifnull o =>
    have hs2 : am_nul true r pc lv st h = some q := hs
    unfold am_nul at hs2
    split at hs2
    · cases hs2; exact lv_ifnullN hx hb (am_dec_ok hd rfl) (of_decide_eq_true hk) (k ls H locs hl hw h0 hlo)
    · cases hs2; exact lv_ifnull hx hb (am_dec_ok hd rfl) (k ls H locs hl hw h0 hlo)
    · cases hs2
  case ifnonnull o =>
    have hs2 : am_nul false r pc lv st h = some q := hs
    unfold am_nul at hs2
    split at hs2
    · cases hs2; exact lv_ifnonnullN hx hb (am_dec_ok hd rfl) (k ls H locs hl hw h0 hlo)
    · cases hs2; exact lv_ifnonnull hx hb (am_dec_ok hd rfl) (of_decide_eq_true hk) (k ls H locs hl hw h0 hlo)
    · cases hs2
end
