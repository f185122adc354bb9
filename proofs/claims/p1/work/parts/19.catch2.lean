/-- what the tables must say of every entry that calls (a program proves it of the tables as they are) -/
def am_AL : Prop :=
  (∀ q ∈ am_vl, am_mw (am_m q.2.2) ∧ am_kd (am_m q.2.2) = 1 ∧ Cond.methodLink (am_on.getD q.1 "") q.2.1 (am_nm (am_m q.2.2)) ∈ am_tb) ∧
  (∀ q ∈ am_il, am_mw (am_m q.2.2) ∧ am_kd (am_m q.2.2) = 2 ∧ Cond.methodLink (am_on.getD q.1 "") q.2.1 (am_nm (am_m q.2.2)) ∈ am_tb) ∧
  (∀ q ∈ am_in, am_mw (am_m q.2.2) ∧ am_kd (am_m q.2.2) = 2 ∧ ∃ host, Cond.methodLinkNest (am_on.getD q.1 "") q.2.1 (am_nm (am_m q.2.2)) host ∈ am_tb) ∧
  (∀ q ∈ am_tl, am_mw (am_m q.2.2) ∧ am_kd (am_m q.2.2) = 0 ∧ am_hh (am_m q.2.2) = [] ∧ Cond.methodLink (am_on.getD q.1 "") q.2.1 (am_nm (am_m q.2.2)) ∈ am_tb) ∧
  (∀ q ∈ am_tn, am_mw (am_m q.2.2) ∧ am_kd (am_m q.2.2) = 0 ∧ am_hh (am_m q.2.2) = [] ∧ ∃ host, Cond.methodLinkNest (am_on.getD q.1 "") q.2.1 (am_nm (am_m q.2.2)) host ∈ am_tb) ∧
  (∀ q ∈ am_tw, am_mw (am_m q.2.2) ∧ am_kd (am_m q.2.2) = 0 ∧ am_hh (am_m q.2.2) ≠ [] ∧ Cond.methodLink (am_on.getD q.1 "") q.2.1 (am_nm (am_m q.2.2)) ∈ am_tb) ∧
  (∀ q ∈ am_bl, q.2.2 = 10003 → Cond.methodLink (am_on.getD q.1 "") q.2.1 Lib.objectInit ∈ am_tb) ∧ Cond.instanceMethod Lib.objectInit ∈ am_tb ∧ Cond.code Lib.objectInit ⟨#[0xb1]⟩ 1 none ∈ am_tb ∧
  (∀ q ∈ am_bl, q.2.2 = 10000 → Cond.methodLink (am_on.getD q.1 "") q.2.1 arraycopyName ∈ am_tb) ∧ Cond.native arraycopyName ∈ am_tb ∧ Cond.static arraycopyName ∈ am_tb ∧ Cond.initialized "java/lang/System" ∈ am_tb
theorem am_blr : (∀ q ∈ am_bl, 10000 ≤ q.2.2) ∧ (∀ q ∈ am_vl, q.2.2 < 10000) ∧ (∀ q ∈ am_tl, q.2.2 < 10000) ∧ (∀ q ∈ am_tn, q.2.2 < 10000) ∧ ∀ q ∈ am_tw, q.2.2 < 10000 := sorry
theorem am_cat0 : ∀ q ∈ am_cat, q.1.2 ≠ 0 ∧ q.2 < 3 := by decide
theorem am_lookup_mem2 {α β : Type} [BEq α] [LawfulBEq α] {l9 : List (α × β)} {k : α} {v : β} (h : l9.lookup k = some v) : (k, v) ∈ l9 := sorry
theorem am_hd_s {m : am_M} {pc x : Nat} : ∀ (hh : List (Nat × Nat × Nat × Nat)) (pc1 k : Nat), am_hd m pc x hh = some (pc1, k) →
    ∃ (pre : List (Nat × Nat × Nat × Nat)) (a b g t : Nat) (suf : List (Nat × Nat × Nat × Nat)), hh = pre ++ (a, b, g, t) :: suf ∧ a ≤ pc ∧ pc < b ∧ ((am_ow m, t), x) ∈ am_cat ∧ ((∃ (i : Fin 4) (r9 : Nat), am_at m g = some (.astore_n i, r9) ∧ pc1 = g + 1 ∧ k = i) ∨ (∃ (i r9 : Nat), am_at m g = some (.astore i, r9) ∧ pc1 = g + 2 ∧ k = i)) ∧
      ∀ z ∈ pre, ¬ (z.1 ≤ pc ∧ pc < z.2.1) ∨ ∃ y, y ≠ x ∧ ((am_ow m, z.2.2.2), y) ∈ am_cat := sorry
theorem am_covers_yes {a b g t pc : Nat} (h1 : a ≤ pc) (h2 : pc < b) : covers (⟨a, b, g, t⟩ : ExceptionTableEntry) pc = true := sorry
theorem am_covers_no {a b g t pc : Nat} (h : ¬ (a ≤ pc ∧ pc < b)) : covers (⟨a, b, g, t⟩ : ExceptionTableEntry) pc = false := sorry
set_option maxRecDepth 100000 in
theorem am_olr {a b L : Nat} (h : 2 * a + b ≤ 8) (hL : 300 ≤ L) : 2 * a + b + 12 ≤ L := by omega
section
variable {p : Program} {l : Launch} {e : Env} {R : Room} {s : State} {mm : MethodId} {args : Array Value} {below : List Frame} {meth : Method} {c : Code} {Q : State → Prop} {m : am_M} {D : va_G} {ca : Nat → ClassId} {base : Nat} {ext : Nat → Nat} {X : am_X} {H0 : Heap} {n0 z0 : Nat}
theorem am_catch_ok {pc x9 pc1 k : Nat} {lv : am_LV} {rest : List Value} {h1 : am_H} (Cx : am_Cx p s mm args meth c m D ca base ext X H0) (Ev : am_Ev l s ca base ext H0) (hm : m ∈ am_ms) (htab : c.exceptionTable.toList = tableOf (am_hh m)) (hhd : am_hd m pc x9 (am_hh m) = some (pc1, k)) (hx3 : x9 < 3)
    (kk : am_G p l e R s mm args below meth c Q m D ca base ext H0 n0 z0 pc1 ((am_put1 lv k .null).drop 1) [] h1) {ls : Array Slot} {H1 : Heap} {locs1 : List Loc} {q : Addr} {ce : Cell} (hl : lv_has ls (am_mx m) (am_rl base ext lv)) (hw : am_Wd base ext D ca h1 H1) (h0 : ∀ q9, q9 < base → H1[q9]? = H0[q9]?) (hlo : ∀ z ∈ locs1, base ≤ z.base) (hce : H1[q]? = some ce) (hcv : ce.vm = .none) (hcl : s.vm.findClass (am_xn x9) = some ce.cls) :
    vx_W p l e R s mm args below meth c H1 locs1 (h1.length - n0) (am_sz h1 - z0) Q (F0 mm pc ls rest) q := sorry
theorem am_obi_ok {x pc a : Nat} {lv : am_LV} {st : List Value} {h : am_H} (AL : am_AL) (Cx : am_Cx p s mm args meth c m D ca base ext X H0) (hd : am_dec (am_by m) pc (.invokespecial x) = true) (hk : am_lk m pc (.invokespecial x) 10003 = true) (hcat : Nat.ble (am_cats st) 8 = true) (hRf : 1 ≤ R.frames) (hRl : 300 ≤ R.locals)
    (k : am_G p l e R s mm args below meth c Q m D ca base ext H0 n0 z0 (pc + 3) lv st h) : am_G p l e R s mm args below meth c Q m D ca base ext H0 n0 z0 pc lv (.ref a :: st) h := sorry
end
