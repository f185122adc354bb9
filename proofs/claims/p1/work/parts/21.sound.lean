theorem am_nble {r : Nat} (h : ¬ Nat.ble 10000 r = true) : r < 10000 := sorry
theorem am_kind_new (x r : Nat) : (am_kind (.new x) r = 2 ∧ 100 ≤ r) ∨ (am_kind (.new x) r = 0 ∧ True) := sorry
theorem am_kind_ldc (x r : Nat) : (am_kind (.ldc x) r = 8 ∧ (r = 5 ∨ r = 6 ∨ r = 7)) ∨ (am_kind (.ldc x) r = 0 ∧ True) := sorry
theorem am_kind_invokevirtual (x r : Nat) : (am_kind (.invokevirtual x) r = 6 ∧ r = 10001) ∨ (am_kind (.invokevirtual x) r = 7 ∧ r = 10002) ∨ (am_kind (.invokevirtual x) r = 9 ∧ True) ∨ (am_kind (.invokevirtual x) r = 3 ∧ r < 10000) := sorry
theorem am_kind_invokespecial (x r : Nat) : (am_kind (.invokespecial x) r = 5 ∧ r = 10003) ∨ (am_kind (.invokespecial x) r = 9 ∧ True) ∨ (am_kind (.invokespecial x) r = 3 ∧ r < 10000) := sorry
theorem am_kind_invokestatic (x r : Nat) : (am_kind (.invokestatic x) r = 4 ∧ r = 10000) ∨ (am_kind (.invokestatic x) r = 9 ∧ True) ∨ (am_kind (.invokestatic x) r = 3 ∧ r < 10000) := sorry
theorem am_kind1 {i : Instr} {r : Nat} (h : am_kind i r = 1) : i = .ireturn ∨ i = .lreturn ∨ i = .areturn ∨ i = .return_ := sorry
theorem am_kind2 {i : Instr} {r : Nat} (h : am_kind i r = 2) : ∃ x, i = .new x ∧ 100 ≤ r := sorry
theorem am_kind3 {i : Instr} {r : Nat} (h : am_kind i r = 3) : r < 10000 ∧ ((∃ x, i = .invokevirtual x) ∨ (∃ x, i = .invokespecial x) ∨ ∃ x, i = .invokestatic x) := sorry
theorem am_kind4 {i : Instr} {r : Nat} (h : am_kind i r = 4) : r = 10000 ∧ ∃ x, i = .invokestatic x := sorry
theorem am_kind5 {i : Instr} {r : Nat} (h : am_kind i r = 5) : r = 10003 ∧ ∃ x, i = .invokespecial x := sorry
theorem am_kind6 {i : Instr} {r : Nat} (h : am_kind i r = 6) : r = 10001 ∧ ∃ x, i = .invokevirtual x := sorry
theorem am_kind7 {i : Instr} {r : Nat} (h : am_kind i r = 7) : r = 10002 ∧ ∃ x, i = .invokevirtual x := sorry
theorem am_kind8 {i : Instr} {r : Nat} (h : am_kind i r = 8) : (r = 5 ∨ r = 6 ∨ r = 7) ∧ ∃ x, i = .ldc x := sorry
set_option maxRecDepth 100000 in
theorem am_rooms {d f L : Nat} (h1 : d + 1 + 10 ≤ f) (h2 : 41 * (d + 1) + 300 ≤ L) : d + 11 ≤ f ∧ 41 * d + 341 ≤ L := by omega
set_option maxRecDepth 100000 in
theorem am_rooms0 {d f L : Nat} (h1 : d + 10 ≤ f) (h2 : 41 * d + 300 ≤ L) : 10 ≤ f ∧ 1 ≤ f ∧ 300 ≤ L := by omega
/-- what a run comes to in the real machine: the goal of the main theorem -/
def am_Snd (l : Launch) (D : va_G) (ca : Nat → ClassId) (base : Nat) (ext : Nat → Nat) (X : am_X) (H0 : Heap) (d : Nat) (m : am_M) (pc : Nat) (lv : am_LV) (st : List Value) (h : am_H) (o : am_O) : Prop :=
  ∀ (p : Program) (e : Env) (R : Room) (s : State) (mm : MethodId) (args : Array Value) (below : List Frame) (meth : Method) (c : Code) (n0 z0 : Nat), am_Cx p s mm args meth c m D ca base ext X H0 → am_Ev l s ca base ext H0 → c.exceptionTable.toList = tableOf (am_hh m) → s.heap.size = base + n0 → n0 ≤ h.length → z0 ≤ am_sz h →
    d + 10 ≤ R.frames → 41 * d + 300 ≤ R.locals → ((am_oh o).length - n0 ≤ R.cells ∧ am_sz (am_oh o) - z0 ≤ R.slots) →
    am_G p l e R s mm args below meth c (vx_MQ below (am_Qc D ca base ext H0 o) (am_XC D ca base ext H0 o) args s ((am_oh o).length - n0) (am_sz (am_oh o) - z0) (fun q => base ≤ q)) m D ca base ext H0 n0 z0 pc lv st h
/-! contracts of methods whose class has natives, too (begun from the text of part 01) -/
theorem am_ofW {l : Launch} {y : MethodName} {ws ws' : List Cond} {rm : Room} {Pc : Array Value → State → Prop} {Qc : Array Value → State → Outcome → State → Prop} {XC : String → State → State → Prop} {mc ms : Nat} {free : Addr → Prop} {cc : ByteArray} {maxL : Nat} {ret : Option FieldType}
    (hy : plainFor y = true) (hw : ws = Cond.code y cc maxL ret :: ws')
    (body : ∀ p e s m args below meth c s₁, BodyLoose p l y (headSpec ws rm) cc maxL ret e s m args below meth c s₁ → c.maxLocals = maxL → (∀ x ∈ c.exceptionTable.toList, False) → Pc args s →
      W p l e (headSpec ws rm).room s m args below meth c s.heap [] 0 0 (vx_MQ below Qc XC args s mc ms free) (entryFrame m args maxL)) : vx_Met l y ws rm Pc Qc XC mc ms free := sorry
theorem am_ofWH {l : Launch} {y : MethodName} {ws ws' : List Cond} {rm : Room} {Pc : Array Value → State → Prop} {Qc : Array Value → State → Outcome → State → Prop} {XC : String → State → State → Prop} {mc ms : Nat} {free : Addr → Prop} {cc : ByteArray} {maxL : Nat} {ret : Option FieldType} {hh : List (Nat × Nat × Nat × Nat)}
    (hy : plainFor y = true) (hw : ws = Cond.codeWith y cc maxL ret hh :: ws')
    (body : ∀ p e s m args below meth c s₁, BodyLoose p l y (headSpec ws rm) cc maxL ret e s m args below meth c s₁ → c.maxLocals = maxL → Pc args s →
      W p l e (headSpec ws rm).room s m args below meth c s.heap [] 0 0 (vx_MQ below Qc XC args s mc ms free) (entryFrame m args maxL)) : vx_Met l y ws rm Pc Qc XC mc ms free := sorry
/-- the contract of a method out of its body -/
theorem am_met_body {l : Launch} {D : va_G} {ca : Nat → ClassId} {base : Nat} {ext : Nat → Nat} {X : am_X} {H0 : Heap} {d : Nat} {m : am_M} {as : List Value} {h : am_H} {o : am_O} (hmw : am_mw m) (hcs : am_cats as ≤ am_mx m) (G : am_Snd l D ca base ext X H0 d m 0 (am_args 0 as) [] h o) : am_Met l D ca base ext X H0 d m as h o := sorry
theorem am_ok_cats {m1 : am_M} {as : List Value} {h : am_H} (hok : am_ok m1 as h = true) : am_cats as ≤ am_mx m1 := sorry
/-- which method an entry of a call names, and how -/
def am_Lk (m : am_M) (i : Instr) (r : Nat) : Prop := am_mw (am_m r) ∧
  ((∃ x, i = .invokevirtual x ∧ am_kd (am_m r) = 1 ∧ Cond.methodLink (am_on.getD (am_ow m) "") x (am_nm (am_m r)) ∈ am_tb) ∨
   (∃ x, i = .invokespecial x ∧ am_kd (am_m r) = 2 ∧ (Cond.methodLink (am_on.getD (am_ow m) "") x (am_nm (am_m r)) ∈ am_tb ∨ ∃ host, Cond.methodLinkNest (am_on.getD (am_ow m) "") x (am_nm (am_m r)) host ∈ am_tb)) ∨
   ∃ x, i = .invokestatic x ∧ am_kd (am_m r) = 0 ∧ ((am_hh (am_m r) = [] ∧ (Cond.methodLink (am_on.getD (am_ow m) "") x (am_nm (am_m r)) ∈ am_tb ∨ ∃ host, Cond.methodLinkNest (am_on.getD (am_ow m) "") x (am_nm (am_m r)) host ∈ am_tb)) ∨ (am_hh (am_m r) ≠ [] ∧ Cond.methodLink (am_on.getD (am_ow m) "") x (am_nm (am_m r)) ∈ am_tb)))
theorem am_link {m : am_M} {pc : Nat} {i : Instr} {r : Nat} (AL : am_AL) (hk : am_lk m pc i r = true) (h3 : am_kind i r = 3) : am_Lk m i r := sorry
/-- THE MAIN THEOREM: what the abstract machine comes to, the real one comes to -/
theorem am_sound {l : Launch} {D : va_G} {ca : Nat → ClassId} {base : Nat} {ext : Nat → Nat} {X : am_X} {H0 : Heap} (AL : am_AL) : ∀ (n d y pc : Nat) (lv : am_LV) (st : List Value) (h : am_H) (o : am_O), am_run X n d y pc lv st h = some o → am_m y ∈ am_ms → am_Snd l D ca base ext X H0 d (am_m y) pc lv st h o := sorry