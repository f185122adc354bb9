/-- arithmetic, locals, branches, the pile -/
def am_pl : Instr → Bool
  | .iconst _ => true
  | .bipush _ => true
  | .sipush _ => true
  | .lconst _ => true
  | .aconst_null => true
  | .iload_n _ => true
  | .iload _ => true
  | .lload_n _ => true
  | .lload _ => true
  | .aload_n _ => true
  | .aload _ => true
  | .istore_n _ => true
  | .istore _ => true
  | .lstore_n _ => true
  | .lstore _ => true
  | .astore_n _ => true
  | .astore _ => true
  | .iinc _ _ => true
  | .iadd => true
  | .isub => true
  | .imul => true
  | .iand => true
  | .ior => true
  | .ixor => true
  | .ishl => true
  | .ishr => true
  | .iushr => true
  | .idiv => true
  | .irem => true
  | .ineg => true
  | .i2l => true
  | .i2c => true
  | .ladd => true
  | .lsub => true
  | .lmul => true
  | .land => true
  | .lor => true
  | .lxor => true
  | .ldiv => true
  | .lrem => true
  | .lneg => true
  | .l2i => true
  | .lshl => true
  | .lshr => true
  | .lushr => true
  | .lcmp => true
  | .dup => true
  | .pop => true
  | .dup2 => true
  | .goto _ => true
  | .ifCond _ _ => true
  | .if_icmp _ _ => true
  | .ifnull _ => true
  | .ifnonnull _ => true
  | _ => false
section
variable {p : Program} {l : Launch} {e : Env} {R : Room} {s : State} {mm : MethodId} {args : Array Value} {below : List Frame} {meth : Method} {c : Code} {Q : State → Prop} {m : am_M} {D : va_G} {ca : Nat → ClassId} {base : Nat} {ext : Nat → Nat} {X : am_X} {H0 : Heap} {n0 z0 : Nat}
/-- the real machine comes to Q from every state that the abstract one stands for -/
def am_G (p : Program) (l : Launch) (e : Env) (R : Room) (s : State) (mm : MethodId) (args : Array Value) (below : List Frame) (meth : Method) (c : Code) (Q : State → Prop) (m : am_M) (D : va_G) (ca : Nat → ClassId) (base : Nat) (ext : Nat → Nat) (H0 : Heap) (n0 z0 : Nat) (pc : Nat) (lv : am_LV) (st : List Value) (h : am_H) : Prop :=
  ∀ (ls : Array Slot) (H : Heap) (locs : List Loc), lv_has ls (am_mx m) (am_rl base ext lv) → am_Wd base ext D ca h H → (∀ q, q < base → H[q]? = H0[q]?) → (∀ z ∈ locs, base ≤ z.base) →
    W p l e R s mm args below meth c H locs (h.length - n0) (am_sz h - z0) Q (F0 mm pc ls (am_rs base ext st))
abbrev am_G1 (p : Program) (l : Launch) (e : Env) (R : Room) (s : State) (mm : MethodId) (args : Array Value) (below : List Frame) (meth : Method) (c : Code) (Q : State → Prop) (m : am_M) (D : va_G) (ca : Nat → ClassId) (base : Nat) (ext : Nat → Nat) (H0 : Heap) (n0 z0 : Nat) (q : am_S) : Prop := am_G p l e R s mm args below meth c Q m D ca base ext H0 n0 z0 q.1 q.2.1 q.2.2.1 q.2.2.2
theorem am_ii_s {f : Int32 → Int32 → Int32} {pc : Nat} {lv : am_LV} {st : List Value} {h : am_H} {q : am_S} (hs : am_ii f pc lv st h = some q) : ∃ x y r, st = .int y :: .int x :: r ∧ q = (pc + 1, lv, .int (f x y) :: r, h) := sorry
theorem am_iid_s {f : Int32 → Int32 → Int32} {pc : Nat} {lv : am_LV} {st : List Value} {h : am_H} {q : am_S} (hs : am_iid f pc lv st h = some q) : ∃ x y r, st = .int y :: .int x :: r ∧ ¬ y = 0 ∧ q = (pc + 1, lv, .int (f x y) :: r, h) := sorry
theorem am_ll_s {f : Int64 → Int64 → Int64} {pc : Nat} {lv : am_LV} {st : List Value} {h : am_H} {q : am_S} (hs : am_ll f pc lv st h = some q) : ∃ x y r, st = .long y :: .long x :: r ∧ q = (pc + 1, lv, .long (f x y) :: r, h) := sorry
theorem am_lld0_s {f : Int64 → Int64 → Int64} {pc : Nat} {lv : am_LV} {st : List Value} {h : am_H} {q : am_S} (hs : am_lld0 f pc lv st h = some q) : ∃ x y r, st = .long y :: .long x :: r ∧ ¬ y = 0 ∧ q = (pc + 1, lv, .long (f x y) :: r, h) := sorry
theorem am_li_s {f : Int64 → Int32 → Int64} {pc : Nat} {lv : am_LV} {st : List Value} {h : am_H} {q : am_S} (hs : am_li f pc lv st h = some q) : ∃ x y r, st = .int y :: .long x :: r ∧ q = (pc + 1, lv, .long (f x y) :: r, h) := sorry
theorem am_i1_s {f : Int32 → Value} {pc : Nat} {lv : am_LV} {st : List Value} {h : am_H} {q : am_S} (hs : am_i1 f pc lv st h = some q) : ∃ x r, st = .int x :: r ∧ q = (pc + 1, lv, f x :: r, h) := sorry
theorem am_l1_s {f : Int64 → Value} {pc : Nat} {lv : am_LV} {st : List Value} {h : am_H} {q : am_S} (hs : am_l1 f pc lv st h = some q) : ∃ x r, st = .long x :: r ∧ q = (pc + 1, lv, f x :: r, h) := sorry
theorem am_br_s {f : Int32 → Bool} {t pc : Nat} {lv : am_LV} {st : List Value} {h : am_H} {q : am_S} (hs : am_br f t pc lv st h = some q) : ∃ x r, st = .int x :: r ∧ q = (if f x then t else pc + 3, lv, r, h) := sorry
theorem am_bc_s {f : Int32 → Int32 → Bool} {t pc : Nat} {lv : am_LV} {st : List Value} {h : am_H} {q : am_S} (hs : am_bc f t pc lv st h = some q) : ∃ x y r, st = .int y :: .int x :: r ∧ q = (if f x y then t else pc + 3, lv, r, h) := sorry
theorem am_ild_s {k n pc : Nat} {lv : am_LV} {st : List Value} {h : am_H} {q : am_S} (hs : am_ild k n pc lv st h = some q) : ∃ x, lv.lookup k = some (.int x) ∧ q = (pc + n, lv, .int x :: st, h) := sorry
theorem am_lld_s {k n pc : Nat} {lv : am_LV} {st : List Value} {h : am_H} {q : am_S} (hs : am_lld k n pc lv st h = some q) : ∃ x, lv.lookup k = some (.long x) ∧ q = (pc + n, lv, .long x :: st, h) := sorry
theorem am_ald_s {k n pc : Nat} {lv : am_LV} {st : List Value} {h : am_H} {q : am_S} (hs : am_ald k n pc lv st h = some q) : ∃ v, lv.lookup k = some v ∧ ((∃ a, am_rv base ext v = .ref a) ∨ am_rv base ext v = .null) ∧ q = (pc + n, lv, v :: st, h) := sorry
theorem am_ist_s {k n pc : Nat} {lv : am_LV} {st : List Value} {h : am_H} {q : am_S} (hs : am_ist k n pc lv st h = some q) : ∃ x r, st = .int x :: r ∧ q = (pc + n, am_put1 lv k (.int x), r, h) := sorry
theorem am_lst_s {k n pc : Nat} {lv : am_LV} {st : List Value} {h : am_H} {q : am_S} (hs : am_lst k n pc lv st h = some q) : ∃ x r, st = .long x :: r ∧ q = (pc + n, am_put2 lv k (.long x), r, h) := sorry
theorem am_ast_s {k n pc : Nat} {lv : am_LV} {st : List Value} {h : am_H} {q : am_S} (hs : am_ast k n pc lv st h = some q) : ∃ v r, st = v :: r ∧ ((∃ a, am_rv base ext v = .ref a) ∨ am_rv base ext v = .null) ∧ q = (pc + n, am_put1 lv k v, r, h) := sorry
/-- arithmetic, locals, branches -/
theorem am_plain {i : Instr} {r pc : Nat} {lv : am_LV} {st : List Value} {h : am_H} {q : am_S} (Cx : am_Cx p s mm args meth c m D ca base ext X H0) (hd : am_dec (am_by m) pc i = true) (hk : am_lk m pc i r = true) (hs : am_s1 X i r pc lv st h = some q) (hp : am_pl i = true)
    (k : am_G1 p l e R s mm args below meth c Q m D ca base ext H0 n0 z0 q) : am_G p l e R s mm args below meth c Q m D ca base ext H0 n0 z0 pc lv st h := sorry
end
