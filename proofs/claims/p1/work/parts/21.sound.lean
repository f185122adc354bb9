theorem am_nble {r : Nat} (h : ¬ Nat.ble 10000 r = true) : r < 10000 := by
  rw [Nat.ble_eq] at h
  exact Nat.not_le.mp h
theorem am_kind_new (x r : Nat) : (am_kind (.new x) r = 2 ∧ 100 ≤ r) ∨ (am_kind (.new x) r = 0 ∧ True) := by
  show ((if Nat.ble 100 r then 2 else 0) = 2 ∧ 100 ≤ r) ∨ ((if Nat.ble 100 r then 2 else 0) = 0 ∧ True)
  split
  · rename_i h3; exact Or.inl ⟨rfl, Nat.le_of_ble_eq_true h3⟩
  · exact Or.inr ⟨rfl, trivial⟩
theorem am_kind_ldc (x r : Nat) : (am_kind (.ldc x) r = 8 ∧ (r = 5 ∨ r = 6 ∨ r = 7)) ∨ (am_kind (.ldc x) r = 0 ∧ True) := by
  show ((if r == 5 || (r == 6 || r == 7) then 8 else 0) = 8 ∧ (r = 5 ∨ r = 6 ∨ r = 7)) ∨ ((if r == 5 || (r == 6 || r == 7) then 8 else 0) = 0 ∧ True)
  split
  · rename_i h3
    simp only [Bool.or_eq_true, beq_iff_eq] at h3
    exact Or.inl ⟨rfl, h3⟩
  · exact Or.inr ⟨rfl, trivial⟩
theorem am_kind_invokevirtual (x r : Nat) : (am_kind (.invokevirtual x) r = 6 ∧ r = 10001) ∨ (am_kind (.invokevirtual x) r = 7 ∧ r = 10002) ∨ (am_kind (.invokevirtual x) r = 9 ∧ True) ∨ (am_kind (.invokevirtual x) r = 3 ∧ r < 10000) := by
  show ((if Nat.ble 10000 r then (if r == 10001 then 6 else if r == 10002 then 7 else 9) else 3) = 6 ∧ r = 10001) ∨ ((if Nat.ble 10000 r then (if r == 10001 then 6 else if r == 10002 then 7 else 9) else 3) = 7 ∧ r = 10002) ∨ ((if Nat.ble 10000 r then (if r == 10001 then 6 else if r == 10002 then 7 else 9) else 3) = 9 ∧ True) ∨ ((if Nat.ble 10000 r then (if r == 10001 then 6 else if r == 10002 then 7 else 9) else 3) = 3 ∧ r < 10000)
  by_cases h1 : Nat.ble 10000 r = true
  · rw [if_pos h1]
    by_cases h2 : (r == 10001) = true
    · rw [if_pos h2]
      exact Or.inl ⟨rfl, beq_iff_eq.mp h2⟩
    · rw [if_neg h2]
      by_cases h3 : (r == 10002) = true
      · rw [if_pos h3]
        exact Or.inr (Or.inl ⟨rfl, beq_iff_eq.mp h3⟩)
      · rw [if_neg h3]
        exact Or.inr (Or.inr (Or.inl ⟨rfl, trivial⟩))
  · rw [if_neg h1]
    exact Or.inr (Or.inr (Or.inr ⟨rfl, am_nble h1⟩))
theorem am_kind_invokespecial (x r : Nat) : (am_kind (.invokespecial x) r = 5 ∧ r = 10003) ∨ (am_kind (.invokespecial x) r = 9 ∧ True) ∨ (am_kind (.invokespecial x) r = 3 ∧ r < 10000) := by
  show ((if Nat.ble 10000 r then (if r == 10003 then 5 else 9) else 3) = 5 ∧ r = 10003) ∨ ((if Nat.ble 10000 r then (if r == 10003 then 5 else 9) else 3) = 9 ∧ True) ∨ ((if Nat.ble 10000 r then (if r == 10003 then 5 else 9) else 3) = 3 ∧ r < 10000)
  by_cases h1 : Nat.ble 10000 r = true
  · rw [if_pos h1]
    by_cases h2 : (r == 10003) = true
    · rw [if_pos h2]
      exact Or.inl ⟨rfl, beq_iff_eq.mp h2⟩
    · rw [if_neg h2]
      exact Or.inr (Or.inl ⟨rfl, trivial⟩)
  · rw [if_neg h1]
    exact Or.inr (Or.inr ⟨rfl, am_nble h1⟩)
theorem am_kind_invokestatic (x r : Nat) : (am_kind (.invokestatic x) r = 4 ∧ r = 10000) ∨ (am_kind (.invokestatic x) r = 9 ∧ True) ∨ (am_kind (.invokestatic x) r = 3 ∧ r < 10000) := by
  show ((if Nat.ble 10000 r then (if r == 10000 then 4 else 9) else 3) = 4 ∧ r = 10000) ∨ ((if Nat.ble 10000 r then (if r == 10000 then 4 else 9) else 3) = 9 ∧ True) ∨ ((if Nat.ble 10000 r then (if r == 10000 then 4 else 9) else 3) = 3 ∧ r < 10000)
  by_cases h1 : Nat.ble 10000 r = true
  · rw [if_pos h1]
    by_cases h2 : (r == 10000) = true
    · rw [if_pos h2]
      exact Or.inl ⟨rfl, beq_iff_eq.mp h2⟩
    · rw [if_neg h2]
      exact Or.inr (Or.inl ⟨rfl, trivial⟩)
  · rw [if_neg h1]
    exact Or.inr (Or.inr ⟨rfl, am_nble h1⟩)
theorem am_kind1 {i : Instr} {r : Nat} (h : am_kind i r = 1) : i = .ireturn ∨ i = .lreturn ∨ i = .areturn ∨ i = .return_ := by
  cases i <;> first
    | (exact Or.inl rfl)
    | (exact Or.inr (Or.inl rfl))
    | (exact Or.inr (Or.inr (Or.inl rfl)))
    | (exact Or.inr (Or.inr (Or.inr rfl)))
    | (exact absurd (show 0 = 1 from h) (by decide))
    | skip
  case new x =>
    rcases am_kind_new x r with ⟨h9, h8⟩ | ⟨h9, h8⟩
    · rw [h9] at h; cases h
    · rw [h9] at h; cases h
  case ldc x =>
    rcases am_kind_ldc x r with ⟨h9, h8⟩ | ⟨h9, h8⟩
    · rw [h9] at h; cases h
    · rw [h9] at h; cases h
  case invokevirtual x =>
    rcases am_kind_invokevirtual x r with ⟨h9, h8⟩ | ⟨h9, h8⟩ | ⟨h9, h8⟩ | ⟨h9, h8⟩
    · rw [h9] at h; cases h
    · rw [h9] at h; cases h
    · rw [h9] at h; cases h
    · rw [h9] at h; cases h
  case invokespecial x =>
    rcases am_kind_invokespecial x r with ⟨h9, h8⟩ | ⟨h9, h8⟩ | ⟨h9, h8⟩
    · rw [h9] at h; cases h
    · rw [h9] at h; cases h
    · rw [h9] at h; cases h
  case invokestatic x =>
    rcases am_kind_invokestatic x r with ⟨h9, h8⟩ | ⟨h9, h8⟩ | ⟨h9, h8⟩
    · rw [h9] at h; cases h
    · rw [h9] at h; cases h
    · rw [h9] at h; cases h
theorem am_kind2 {i : Instr} {r : Nat} (h : am_kind i r = 2) : ∃ x, i = .new x ∧ 100 ≤ r := by
  cases i <;> first
    | (exact absurd (show 0 = 2 from h) (by decide))
    | (exact absurd (show 1 = 2 from h) (by decide))
    | skip
  case new x =>
    rcases am_kind_new x r with ⟨h9, h8⟩ | ⟨h9, h8⟩
    · exact ⟨x, rfl, h8⟩
    · rw [h9] at h; cases h
  case ldc x =>
    rcases am_kind_ldc x r with ⟨h9, h8⟩ | ⟨h9, h8⟩
    · rw [h9] at h; cases h
    · rw [h9] at h; cases h
  case invokevirtual x =>
    rcases am_kind_invokevirtual x r with ⟨h9, h8⟩ | ⟨h9, h8⟩ | ⟨h9, h8⟩ | ⟨h9, h8⟩
    · rw [h9] at h; cases h
    · rw [h9] at h; cases h
    · rw [h9] at h; cases h
    · rw [h9] at h; cases h
  case invokespecial x =>
    rcases am_kind_invokespecial x r with ⟨h9, h8⟩ | ⟨h9, h8⟩ | ⟨h9, h8⟩
    · rw [h9] at h; cases h
    · rw [h9] at h; cases h
    · rw [h9] at h; cases h
  case invokestatic x =>
    rcases am_kind_invokestatic x r with ⟨h9, h8⟩ | ⟨h9, h8⟩ | ⟨h9, h8⟩
    · rw [h9] at h; cases h
    · rw [h9] at h; cases h
    · rw [h9] at h; cases h
theorem am_kind3 {i : Instr} {r : Nat} (h : am_kind i r = 3) : r < 10000 ∧ ((∃ x, i = .invokevirtual x) ∨ (∃ x, i = .invokespecial x) ∨ ∃ x, i = .invokestatic x) := by
  cases i <;> first
    | (exact absurd (show 0 = 3 from h) (by decide))
    | (exact absurd (show 1 = 3 from h) (by decide))
    | skip
  case new x =>
    rcases am_kind_new x r with ⟨h9, h8⟩ | ⟨h9, h8⟩
    · rw [h9] at h; cases h
    · rw [h9] at h; cases h
  case ldc x =>
    rcases am_kind_ldc x r with ⟨h9, h8⟩ | ⟨h9, h8⟩
    · rw [h9] at h; cases h
    · rw [h9] at h; cases h
  case invokevirtual x =>
    rcases am_kind_invokevirtual x r with ⟨h9, h8⟩ | ⟨h9, h8⟩ | ⟨h9, h8⟩ | ⟨h9, h8⟩
    · rw [h9] at h; cases h
    · rw [h9] at h; cases h
    · rw [h9] at h; cases h
    · exact ⟨h8, Or.inl ⟨x, rfl⟩⟩
  case invokespecial x =>
    rcases am_kind_invokespecial x r with ⟨h9, h8⟩ | ⟨h9, h8⟩ | ⟨h9, h8⟩
    · rw [h9] at h; cases h
    · rw [h9] at h; cases h
    · exact ⟨h8, Or.inr (Or.inl ⟨x, rfl⟩)⟩
  case invokestatic x =>
    rcases am_kind_invokestatic x r with ⟨h9, h8⟩ | ⟨h9, h8⟩ | ⟨h9, h8⟩
    · rw [h9] at h; cases h
    · rw [h9] at h; cases h
    · exact ⟨h8, Or.inr (Or.inr ⟨x, rfl⟩)⟩
theorem am_kind4 {i : Instr} {r : Nat} (h : am_kind i r = 4) : r = 10000 ∧ ∃ x, i = .invokestatic x := by
  cases i <;> first
    | (exact absurd (show 0 = 4 from h) (by decide))
    | (exact absurd (show 1 = 4 from h) (by decide))
    | skip
  case new x =>
    rcases am_kind_new x r with ⟨h9, h8⟩ | ⟨h9, h8⟩
    · rw [h9] at h; cases h
    · rw [h9] at h; cases h
  case ldc x =>
    rcases am_kind_ldc x r with ⟨h9, h8⟩ | ⟨h9, h8⟩
    · rw [h9] at h; cases h
    · rw [h9] at h; cases h
  case invokevirtual x =>
    rcases am_kind_invokevirtual x r with ⟨h9, h8⟩ | ⟨h9, h8⟩ | ⟨h9, h8⟩ | ⟨h9, h8⟩
    · rw [h9] at h; cases h
    · rw [h9] at h; cases h
    · rw [h9] at h; cases h
    · rw [h9] at h; cases h
  case invokespecial x =>
    rcases am_kind_invokespecial x r with ⟨h9, h8⟩ | ⟨h9, h8⟩ | ⟨h9, h8⟩
    · rw [h9] at h; cases h
    · rw [h9] at h; cases h
    · rw [h9] at h; cases h
  case invokestatic x =>
    rcases am_kind_invokestatic x r with ⟨h9, h8⟩ | ⟨h9, h8⟩ | ⟨h9, h8⟩
    · exact ⟨h8, x, rfl⟩
    · rw [h9] at h; cases h
    · rw [h9] at h; cases h
theorem am_kind5 {i : Instr} {r : Nat} (h : am_kind i r = 5) : r = 10003 ∧ ∃ x, i = .invokespecial x := by
  cases i <;> first
    | (exact absurd (show 0 = 5 from h) (by decide))
    | (exact absurd (show 1 = 5 from h) (by decide))
    | skip
  case new x =>
    rcases am_kind_new x r with ⟨h9, h8⟩ | ⟨h9, h8⟩
    · rw [h9] at h; cases h
    · rw [h9] at h; cases h
  case ldc x =>
    rcases am_kind_ldc x r with ⟨h9, h8⟩ | ⟨h9, h8⟩
    · rw [h9] at h; cases h
    · rw [h9] at h; cases h
  case invokevirtual x =>
    rcases am_kind_invokevirtual x r with ⟨h9, h8⟩ | ⟨h9, h8⟩ | ⟨h9, h8⟩ | ⟨h9, h8⟩
    · rw [h9] at h; cases h
    · rw [h9] at h; cases h
    · rw [h9] at h; cases h
    · rw [h9] at h; cases h
  case invokespecial x =>
    rcases am_kind_invokespecial x r with ⟨h9, h8⟩ | ⟨h9, h8⟩ | ⟨h9, h8⟩
    · exact ⟨h8, x, rfl⟩
    · rw [h9] at h; cases h
    · rw [h9] at h; cases h
  case invokestatic x =>
    rcases am_kind_invokestatic x r with ⟨h9, h8⟩ | ⟨h9, h8⟩ | ⟨h9, h8⟩
    · rw [h9] at h; cases h
    · rw [h9] at h; cases h
    · rw [h9] at h; cases h
theorem am_kind6 {i : Instr} {r : Nat} (h : am_kind i r = 6) : r = 10001 ∧ ∃ x, i = .invokevirtual x := by
  cases i <;> first
    | (exact absurd (show 0 = 6 from h) (by decide))
    | (exact absurd (show 1 = 6 from h) (by decide))
    | skip
  case new x =>
    rcases am_kind_new x r with ⟨h9, h8⟩ | ⟨h9, h8⟩
    · rw [h9] at h; cases h
    · rw [h9] at h; cases h
  case ldc x =>
    rcases am_kind_ldc x r with ⟨h9, h8⟩ | ⟨h9, h8⟩
    · rw [h9] at h; cases h
    · rw [h9] at h; cases h
  case invokevirtual x =>
    rcases am_kind_invokevirtual x r with ⟨h9, h8⟩ | ⟨h9, h8⟩ | ⟨h9, h8⟩ | ⟨h9, h8⟩
    · exact ⟨h8, x, rfl⟩
    · rw [h9] at h; cases h
    · rw [h9] at h; cases h
    · rw [h9] at h; cases h
  case invokespecial x =>
    rcases am_kind_invokespecial x r with ⟨h9, h8⟩ | ⟨h9, h8⟩ | ⟨h9, h8⟩
    · rw [h9] at h; cases h
    · rw [h9] at h; cases h
    · rw [h9] at h; cases h
  case invokestatic x =>
    rcases am_kind_invokestatic x r with ⟨h9, h8⟩ | ⟨h9, h8⟩ | ⟨h9, h8⟩
    · rw [h9] at h; cases h
    · rw [h9] at h; cases h
    · rw [h9] at h; cases h
theorem am_kind7 {i : Instr} {r : Nat} (h : am_kind i r = 7) : r = 10002 ∧ ∃ x, i = .invokevirtual x := by
  cases i <;> first
    | (exact absurd (show 0 = 7 from h) (by decide))
    | (exact absurd (show 1 = 7 from h) (by decide))
    | skip
  case new x =>
    rcases am_kind_new x r with ⟨h9, h8⟩ | ⟨h9, h8⟩
    · rw [h9] at h; cases h
    · rw [h9] at h; cases h
  case ldc x =>
    rcases am_kind_ldc x r with ⟨h9, h8⟩ | ⟨h9, h8⟩
    · rw [h9] at h; cases h
    · rw [h9] at h; cases h
  case invokevirtual x =>
    rcases am_kind_invokevirtual x r with ⟨h9, h8⟩ | ⟨h9, h8⟩ | ⟨h9, h8⟩ | ⟨h9, h8⟩
    · rw [h9] at h; cases h
    · exact ⟨h8, x, rfl⟩
    · rw [h9] at h; cases h
    · rw [h9] at h; cases h
  case invokespecial x =>
    rcases am_kind_invokespecial x r with ⟨h9, h8⟩ | ⟨h9, h8⟩ | ⟨h9, h8⟩
    · rw [h9] at h; cases h
    · rw [h9] at h; cases h
    · rw [h9] at h; cases h
  case invokestatic x =>
    rcases am_kind_invokestatic x r with ⟨h9, h8⟩ | ⟨h9, h8⟩ | ⟨h9, h8⟩
    · rw [h9] at h; cases h
    · rw [h9] at h; cases h
    · rw [h9] at h; cases h
theorem am_kind8 {i : Instr} {r : Nat} (h : am_kind i r = 8) : (r = 5 ∨ r = 6 ∨ r = 7) ∧ ∃ x, i = .ldc x := by
  cases i <;> first
    | (exact absurd (show 0 = 8 from h) (by decide))
    | (exact absurd (show 1 = 8 from h) (by decide))
    | skip
  case new x =>
    rcases am_kind_new x r with ⟨h9, h8⟩ | ⟨h9, h8⟩
    · rw [h9] at h; cases h
    · rw [h9] at h; cases h
  case ldc x =>
    rcases am_kind_ldc x r with ⟨h9, h8⟩ | ⟨h9, h8⟩
    · exact ⟨h8, x, rfl⟩
    · rw [h9] at h; cases h
  case invokevirtual x =>
    rcases am_kind_invokevirtual x r with ⟨h9, h8⟩ | ⟨h9, h8⟩ | ⟨h9, h8⟩ | ⟨h9, h8⟩
    · rw [h9] at h; cases h
    · rw [h9] at h; cases h
    · rw [h9] at h; cases h
    · rw [h9] at h; cases h
  case invokespecial x =>
    rcases am_kind_invokespecial x r with ⟨h9, h8⟩ | ⟨h9, h8⟩ | ⟨h9, h8⟩
    · rw [h9] at h; cases h
    · rw [h9] at h; cases h
    · rw [h9] at h; cases h
  case invokestatic x =>
    rcases am_kind_invokestatic x r with ⟨h9, h8⟩ | ⟨h9, h8⟩ | ⟨h9, h8⟩
    · rw [h9] at h; cases h
    · rw [h9] at h; cases h
    · rw [h9] at h; cases h
set_option maxRecDepth 100000 in
theorem am_rooms {d f L : Nat} (h1 : d + 1 + 10 ≤ f) (h2 : 41 * (d + 1) + 300 ≤ L) : d + 11 ≤ f ∧ 41 * d + 341 ≤ L := by omega
set_option maxRecDepth 100000 in
theorem am_rooms0 {d f L : Nat} (h1 : d + 10 ≤ f) (h2 : 41 * d + 300 ≤ L) : 10 ≤ f ∧ 1 ≤ f ∧ 300 ≤ L := by omega
/-- what a run comes to in the real machine: the goal of the main theorem -/
def am_Snd (l : Launch) (D : va_G) (ca : Nat → ClassId) (base : Nat) (ext : Nat → Nat) (X : am_X) (H0 : Heap) (d : Nat) (m : am_M) (pc : Nat) (lv : am_LV) (st : List Value) (h : am_H) (o : am_O) : Prop :=
  ∀ (p : Program) (e : Env) (R : Room) (s : State) (mm : MethodId) (args : Array Value) (below : List Frame) (meth : Method) (c : Code) (n0 z0 : Nat), am_Cx p s mm args meth c m D ca base ext X H0 → am_Ev l s ca base ext H0 → c.exceptionTable.toList = tableOf (am_hh m) → s.heap.size = base + n0 → n0 ≤ h.length → z0 ≤ am_sz h →
    d + 10 ≤ R.frames → 41 * d + 300 ≤ R.locals → ((am_oh o).length - n0 ≤ R.cells ∧ am_sz (am_oh o) - z0 ≤ R.slots) →
    am_G p l e R s mm args below meth c (vx_MQ below (am_Qc D ca base ext H0 o) (am_XC D ca base ext H0 o) args s ((am_oh o).length - n0) (am_sz (am_oh o) - z0) (fun q => base ≤ q)) m D ca base ext H0 n0 z0 pc lv st h
/-! contracts of methods whose class has natives, too (begun from the text of part 01) -/
theorem am_ofW {l : Launch} {y : MethodName} {ws ws' : List Cond} {rm : Room} {Pc : Array Value → State → Prop} {Qc : Array Value → State → Outcome → State → Prop} {XC : String → State → State → Prop} {mc ms : Nat} {free : Addr → Prop} {cc : ByteArray} {maxL : Nat} {ret : Option FieldType}
    (hy : plainFor y = true) (hw : ws = Cond.code y cc maxL ret :: ws')
    (body : ∀ p e s m args below meth c s₁, BodyLoose p l y (headSpec ws rm) cc maxL ret e s m args below meth c s₁ → c.maxLocals = maxL → (∀ x ∈ c.exceptionTable.toList, False) → Pc args s →
      W p l e (headSpec ws rm).room s m args below meth c s.heap [] 0 0 (vx_MQ below Qc XC args s mc ms free) (entryFrame m args maxL)) : vx_Met l y ws rm Pc Qc XC mc ms free := by
  refine MetFree.of_bodySF (code := cc) (maxLocals := maxL) (ret := ret) hy ?_ ?_
  · intro args s m h hn
    obtain ⟨meth, c, h1, h2, h3, h4, h5, h6, -, -⟩ := Cond.code_spec hn (atoms_spec (ws := ws) h _ (by rw [hw]; exact List.mem_cons_self))
    exact ⟨meth, c, h1, h2, h3, h4, h5, h6⟩
  · intro p e s m args below meth c s₁ B hml hP _
    have hh0 : s₁.heap = s.heap := by rw [B.state]; rfl
    have ht : ∀ x ∈ c.exceptionTable.toList, False := by
      obtain ⟨meth9, c9, h1, h2, -, -, -, -, h7, -⟩ := Cond.code_spec B.named (atoms_spec (ws := ws) B.pre _ (by rw [hw]; exact List.mem_cons_self))
      cases Option.some.inj (h1.symm.trans B.method)
      cases Option.some.inj (h2.symm.trans (Stand.of_body B).code)
      intro x hx
      rw [Array.isEmpty_iff.mp h7] at hx
      cases hx
    obtain ⟨t, a1, o, b1, b2, b3⟩ := body p e s m args below meth c s₁ B hml ht hP s₁ hh0 (Stand.of_body B)
    exact ⟨t, o, a1, b1, b2, b3⟩
theorem am_ofWH {l : Launch} {y : MethodName} {ws ws' : List Cond} {rm : Room} {Pc : Array Value → State → Prop} {Qc : Array Value → State → Outcome → State → Prop} {XC : String → State → State → Prop} {mc ms : Nat} {free : Addr → Prop} {cc : ByteArray} {maxL : Nat} {ret : Option FieldType} {hh : List (Nat × Nat × Nat × Nat)}
    (hy : plainFor y = true) (hw : ws = Cond.codeWith y cc maxL ret hh :: ws')
    (body : ∀ p e s m args below meth c s₁, BodyLoose p l y (headSpec ws rm) cc maxL ret e s m args below meth c s₁ → c.maxLocals = maxL → Pc args s →
      W p l e (headSpec ws rm).room s m args below meth c s.heap [] 0 0 (vx_MQ below Qc XC args s mc ms free) (entryFrame m args maxL)) : vx_Met l y ws rm Pc Qc XC mc ms free := by
  refine MetFree.of_bodySF (code := cc) (maxLocals := maxL) (ret := ret) hy ?_ ?_
  · intro args s m h hn
    obtain ⟨m9, meth, c, hn9, h1, h2, h3, h4, -, h5, h6, -⟩ := Cond.codeWith_spec (atoms_spec (ws := ws) h _ (by rw [hw]; exact List.mem_cons_self))
    cases hn.symm.trans hn9
    exact ⟨meth, c, h1, h2, h3, h4, h5, h6⟩
  · intro p e s m args below meth c s₁ B hml hP _
    have hh0 : s₁.heap = s.heap := by rw [B.state]; rfl
    obtain ⟨t, a1, o, b1, b2, b3⟩ := body p e s m args below meth c s₁ B hml hP s₁ hh0 (Stand.of_body B)
    exact ⟨t, o, a1, b1, b2, b3⟩
/-- the contract of a method out of its body -/
theorem am_met_body {l : Launch} {D : va_G} {ca : Nat → ClassId} {base : Nat} {ext : Nat → Nat} {X : am_X} {H0 : Heap} {d : Nat} {m : am_M} {as : List Value} {h : am_H} {o : am_O} (hmw : am_mw m) (hcs : am_cats as ≤ am_mx m) (G : am_Snd l D ca base ext X H0 d m 0 (am_args 0 as) [] h o) : am_Met l D ca base ext X H0 d m as h o := by
  obtain ⟨hms, hmx, hpn, hon, hmh, hpar, hcode, hinit, hstat, hinst, hsel, hctor⟩ := hmw
  have fin : ∀ (p : Program) (e : Env) (s : State) (mm : MethodId) (args : Array Value) (below : List Frame) (meth : Method) (c : Code) (s₁ : State), BodyLoose p l (am_nm m) (headSpec (am_code m :: am_tb) (am_rm d ((am_oh o).length - h.length) (am_sz (am_oh o) - am_sz h))) (am_by m) (am_mx m) (am_rt m) e s mm args below meth c s₁ → c.maxLocals = am_mx m → c.exceptionTable.toList = tableOf (am_hh m) → am_Pc l D ca base ext X H0 as h args s →
      W p l e (headSpec (am_code m :: am_tb) (am_rm d ((am_oh o).length - h.length) (am_sz (am_oh o) - am_sz h))).room s mm args below meth c s.heap [] 0 0 (vx_MQ below (am_Qc D ca base ext H0 o) (am_XC D ca base ext H0 o) args s ((am_oh o).length - h.length) (am_sz (am_oh o) - am_sz h) (fun q => base ≤ q)) (entryFrame mm args (am_mx m)) := by
    intro p e s mm args below meth c s₁ B hml htab hP
    obtain ⟨rfl, q2, q3, q4, q5, q6, q7, q8⟩ := hP
    have Cx : am_Cx p s mm (am_rs base ext as).toArray meth c m D ca base ext X H0 :=
      ⟨B.exec, B.bytes, hml, by rw [hon]; exact findClass_of_methodNamed B.named, fun w hw => atoms_spec (ws := am_code m :: am_tb) B.pre w (List.mem_cons_of_mem _ hw), q6, fun hk => ((name_of_methodNamed B.named B.method).1).trans (hctor hk).1, B.notSynchronized, B.returns, by rw [q2]; exact Nat.le_add_right _ _, q4, q7, q5⟩
    have hG := G p e (am_rm d ((am_oh o).length - h.length) (am_sz (am_oh o) - am_sz h)) s mm (am_rs base ext as).toArray below meth c h.length (am_sz h) Cx q8 htab q2 (Nat.le_refl _) (Nat.le_refl _) (Nat.le_refl _) (Nat.le_refl _) ⟨Nat.le_refl _, Nat.le_refl _⟩
    have hlen : (lg_sl (am_rs base ext as)).length ≤ am_mx m := by
      rw [am_sl_len, am_rs_cats]
      exact hcs
    have hle := lv_entry (am_rs base ext as) hlen
    rw [← am_args_rl] at hle
    have h5 := hG _ s.heap [] hle q3 q4 (fun z hz => by cases hz)
    rw [Nat.sub_self, Nat.sub_self] at h5
    rw [lg_entry_eq]
    exact h5
  by_cases hh : am_hh m = []
  · have hce : am_code m = .code (am_nm m) (am_by m) (am_mx m) (am_rt m) := by unfold am_code; rw [hh]; rfl
    refine am_ofW (cc := am_by m) (maxL := am_mx m) (ret := am_rt m) (ws' := am_tb) hpn (by rw [hce]) (fun p e s mm args below meth c s₁ B hml ht hP => fin p e s mm args below meth c s₁ B hml ?_ hP)
    rw [hh]
    exact List.eq_nil_iff_forall_not_mem.mpr (fun x hx => ht x hx)
  · have hce : am_code m = .codeWith (am_nm m) (am_by m) (am_mx m) (am_rt m) (am_hh m) := by
      unfold am_code
      rw [if_neg]
      intro h9
      exact hh (List.isEmpty_iff.mp h9)
    refine am_ofWH (cc := am_by m) (maxL := am_mx m) (ret := am_rt m) (hh := am_hh m) (ws' := am_tb) hpn (by rw [hce]) (fun p e s mm args below meth c s₁ B hml hP => fin p e s mm args below meth c s₁ B hml ?_ hP)
    exact vx_table B (x := am_nm m) (bytes := am_by m) (maxL' := am_mx m) (ret' := am_rt m) (by
      rw [← hce]
      exact atoms_spec (ws := am_code m :: am_tb) B.pre _ List.mem_cons_self)
theorem am_ok_cats {m1 : am_M} {as : List Value} {h : am_H} (hok : am_ok m1 as h = true) : am_cats as ≤ am_mx m1 := by
  unfold am_ok at hok
  rw [Bool.and_eq_true, Bool.and_eq_true] at hok
  exact Nat.le_of_ble_eq_true hok.1.2
/-- which method an entry of a call names, and how -/
def am_Lk (m : am_M) (i : Instr) (r : Nat) : Prop := am_mw (am_m r) ∧
  ((∃ x, i = .invokevirtual x ∧ am_kd (am_m r) = 1 ∧ Cond.methodLink (am_on.getD (am_ow m) "") x (am_nm (am_m r)) ∈ am_tb) ∨
   (∃ x, i = .invokespecial x ∧ am_kd (am_m r) = 2 ∧ (Cond.methodLink (am_on.getD (am_ow m) "") x (am_nm (am_m r)) ∈ am_tb ∨ ∃ host, Cond.methodLinkNest (am_on.getD (am_ow m) "") x (am_nm (am_m r)) host ∈ am_tb)) ∨
   ∃ x, i = .invokestatic x ∧ am_kd (am_m r) = 0 ∧ ((am_hh (am_m r) = [] ∧ (Cond.methodLink (am_on.getD (am_ow m) "") x (am_nm (am_m r)) ∈ am_tb ∨ ∃ host, Cond.methodLinkNest (am_on.getD (am_ow m) "") x (am_nm (am_m r)) host ∈ am_tb)) ∨ (am_hh (am_m r) ≠ [] ∧ Cond.methodLink (am_on.getD (am_ow m) "") x (am_nm (am_m r)) ∈ am_tb)))
theorem am_link {m : am_M} {pc : Nat} {i : Instr} {r : Nat} (AL : am_AL) (hk : am_lk m pc i r = true) (h3 : am_kind i r = 3) : am_Lk m i r := by
  obtain ⟨a1, a2, a3, a4, a5, a6, -⟩ := AL
  obtain ⟨hr, hi⟩ := am_kind3 h3
  have nb : ∀ x, am_has am_bl (am_ow m) x r = true → False := fun x h9 => absurd (am_blr.1 _ (am_has_mem h9)) (Nat.not_le.mpr hr)
  rcases hi with ⟨x, rfl⟩ | ⟨x, rfl⟩ | ⟨x, rfl⟩
  · have hk2 : (am_has am_vl (am_ow m) x r || am_has am_bl (am_ow m) x r) = true := hk
    rw [Bool.or_eq_true] at hk2
    rcases hk2 with hk2 | hk2
    · obtain ⟨b1, b2, b3⟩ := a1 _ (am_has_mem hk2)
      exact ⟨b1, Or.inl ⟨x, rfl, b2, b3⟩⟩
    · exact absurd (nb x hk2) id
  · have hk2 : (am_has am_il (am_ow m) x r || am_has am_in (am_ow m) x r || am_has am_bl (am_ow m) x r) = true := hk
    rw [Bool.or_eq_true, Bool.or_eq_true] at hk2
    rcases hk2 with (hk2 | hk2) | hk2
    · obtain ⟨b1, b2, b3⟩ := a2 _ (am_has_mem hk2)
      exact ⟨b1, Or.inr (Or.inl ⟨x, rfl, b2, Or.inl b3⟩)⟩
    · obtain ⟨b1, b2, b3⟩ := a3 _ (am_has_mem hk2)
      exact ⟨b1, Or.inr (Or.inl ⟨x, rfl, b2, Or.inr b3⟩)⟩
    · exact absurd (nb x hk2) id
  · have hk2 : (am_has am_tl (am_ow m) x r || am_has am_tn (am_ow m) x r || am_has am_tw (am_ow m) x r || am_has am_bl (am_ow m) x r) = true := hk
    rw [Bool.or_eq_true, Bool.or_eq_true, Bool.or_eq_true] at hk2
    rcases hk2 with ((hk2 | hk2) | hk2) | hk2
    · obtain ⟨b1, b2, b3, b4⟩ := a4 _ (am_has_mem hk2)
      exact ⟨b1, Or.inr (Or.inr ⟨x, rfl, b2, Or.inl ⟨b3, Or.inl b4⟩⟩)⟩
    · obtain ⟨b1, b2, b3, b4⟩ := a5 _ (am_has_mem hk2)
      exact ⟨b1, Or.inr (Or.inr ⟨x, rfl, b2, Or.inl ⟨b3, Or.inr b4⟩⟩)⟩
    · obtain ⟨b1, b2, b3, b4⟩ := a6 _ (am_has_mem hk2)
      exact ⟨b1, Or.inr (Or.inr ⟨x, rfl, b2, Or.inr ⟨b3, b4⟩⟩)⟩
    · exact absurd (nb x hk2) id
/-- THE MAIN THEOREM: what the abstract machine comes to, the real one comes to -/
theorem am_sound {l : Launch} {D : va_G} {ca : Nat → ClassId} {base : Nat} {ext : Nat → Nat} {X : am_X} {H0 : Heap} (AL : am_AL) : ∀ (n d y pc : Nat) (lv : am_LV) (st : List Value) (h : am_H) (o : am_O), am_run X n d y pc lv st h = some o → am_m y ∈ am_ms → am_Snd l D ca base ext X H0 d (am_m y) pc lv st h o := by
  intro n
  induction n with
  | zero => intro d y pc lv st h o hs; cases hs
  | succ n ih =>
    intro d y pc lv st h o hs hm p e R s mm args below meth c n0 z0 Cx Ev htab hsz hn hz hRf hRl hRc
    obtain ⟨hf10, hf1, hl300⟩ := am_rooms0 hRf hRl
    unfold am_run at hs
    split at hs
    · cases hs
    · rename_i i r hat
      obtain ⟨hd, hk⟩ := am_at_chk hm hat
      split at hs
      · split at hs
        · rename_i pc1 lv1 st1 h1 hs1
          have hle := am_run_h _ _ _ _ _ _ _ _ hs
          have hle1 := am_s1_h hs1
          have g1 : n0 ≤ h1.length := Nat.le_trans hn hle1.1
          have g2 : z0 ≤ am_sz h1 := Nat.le_trans hz hle1.2
          exact am_s1_ok Cx Ev hsz hn hz ⟨Nat.le_trans (Nat.sub_le_sub_right hle.1 n0) hRc.1, Nat.le_trans (Nat.sub_le_sub_right hle.2 z0) hRc.2⟩ hd hk hs1 (ih d y pc1 lv1 st1 h1 o hs hm p e R s mm args below meth c n0 z0 Cx Ev htab hsz g1 g2 hRf hRl hRc)
        · cases hs
      · have h9 := am_ret_ok (l := l) (e := e) (R := R) (below := below) (n0 := n0) (z0 := z0) (pc := pc) (lv := lv) Cx hd hs
        rw [am_ret_h hs]
        exact h9
      · rename_i hkd
        obtain ⟨x, rfl, h100⟩ := am_kind2 hkd
        split at hs
        · rename_i hth
          rw [Bool.and_eq_true] at hth
          cases hs
          exact am_thr_ok Cx Ev hm hsz hn hz htab hat h100 hth.1 hth.2 hf10 hl300 hRc
        · cases hs
      · rename_i hkd
        have hlk := am_link AL hk hkd
        split at hs
        · rename_i hok
          rw [Bool.and_eq_true] at hok
          split at hs
          · cases hs
          · rename_i d1
            obtain ⟨hF1, hL1⟩ := am_rooms hRf hRl
            obtain ⟨hmw, hlk⟩ := hlk
            have body : ∀ o1, am_run X n d1 r 0 (am_args 0 (st.take (am_na (am_m r))).reverse) [] h = some o1 → am_Met l D ca base ext X H0 d1 (am_m r) (st.take (am_na (am_m r))).reverse h o1 := fun o1 h9 => am_met_body hmw (am_ok_cats hok.1) (ih d1 r 0 _ [] h o1 h9 hmw.1)
            split at hs
            · rename_i v h1 hs1
              have hle := am_run_h _ _ _ _ _ _ _ _ hs1
              have hle2 := am_run_h _ _ _ _ _ _ _ _ hs
              have hM := body _ hs1
              have g1 : n0 ≤ h1.length := Nat.le_trans hn hle.1
              have g2 : z0 ≤ am_sz h1 := Nat.le_trans hz hle.2
              have hRc1 : h1.length - n0 ≤ R.cells ∧ am_sz h1 - z0 ≤ R.slots := ⟨Nat.le_trans (Nat.sub_le_sub_right hle2.1 n0) hRc.1, Nat.le_trans (Nat.sub_le_sub_right hle2.2 z0) hRc.2⟩
              have k := ih (d1 + 1) y (pc + 3) lv _ h1 o hs hm p e R s mm args below meth c n0 z0 Cx Ev htab hsz g1 g2 hRf hRl hRc
              rcases hlk with ⟨x, rfl, hk1, hl1⟩ | ⟨x, rfl, hk1, hl1⟩ | ⟨x, rfl, hk1, hl1⟩
              · exact am_callV_ok Cx Ev hn hz hle hd hmw hk1 hl1 hok.1 hok.2 hF1 hL1 hRc1 hM (fun v9 h9 e9 => by cases e9; exact k) (fun x9 h9 e9 => by cases e9)
              · exact am_callI_ok Cx Ev hn hz hle hd hmw hk1 hl1 hok.1 hok.2 hF1 hL1 hRc1 hM k
              · exact am_callS_ok Cx Ev hn hz hle hd hmw hk1 hl1 hok.1 hok.2 hF1 hL1 hRc1 hM k
            · rename_i x9 h1 hs1
              have hle := am_run_h _ _ _ _ _ _ _ _ hs1
              have hM := body _ hs1
              have g1 : n0 ≤ h1.length := Nat.le_trans hn hle.1
              have g2 : z0 ≤ am_sz h1 := Nat.le_trans hz hle.2
              split at hs
              · rename_i hkd1
                rw [beq_iff_eq] at hkd1
                rcases hlk with ⟨x, rfl, hk1, hl1⟩ | ⟨x, rfl, hk1, hl1⟩ | ⟨x, rfl, hk1, hl1⟩
                · split at hs
                  · rename_i hemp
                    cases hs
                    refine am_callV_ok Cx Ev hn hz hle hd hmw hk1 hl1 hok.1 hok.2 hF1 hL1 hRc hM (fun v9 h9 e9 => by cases e9) (fun x8 h8 e8 hx3 ls H1 locs1 q ce hl9 hw9 h09 hlo9 hce hcv hcl => ?_)
                    cases e8
                    have hh9 : am_hh (am_m y) = [] := List.isEmpty_iff.mp hemp
                    have ht9 : c.exceptionTable.toList = [] := by rw [htab, hh9]; rfl
                    exact vx_out (fun z hz => by rw [ht9] at hz; cases hz) Cx.2.2.2.2.2.2.2.1 hce hcv hcl (fun t ht _ => ⟨hx3, rfl, by rw [ht]; exact hw9, by rw [ht]; exact h09⟩) hlo9 (Nat.le_refl _) (Nat.le_refl _)
                  · split at hs
                    · rename_i pc1 k1 hhd
                      have hle2 := am_run_h _ _ _ _ _ _ _ _ hs
                      have hRc1 : h1.length - n0 ≤ R.cells ∧ am_sz h1 - z0 ≤ R.slots := ⟨Nat.le_trans (Nat.sub_le_sub_right hle2.1 n0) hRc.1, Nat.le_trans (Nat.sub_le_sub_right hle2.2 z0) hRc.2⟩
                      have k := ih (d1 + 1) y pc1 _ [] h1 o hs hm p e R s mm args below meth c n0 z0 Cx Ev htab hsz g1 g2 hRf hRl hRc
                      exact am_callV_ok Cx Ev hn hz hle hd hmw hk1 hl1 hok.1 hok.2 hF1 hL1 hRc1 hM (fun v9 h9 e9 => by cases e9) (fun x8 h8 e8 hx3 ls H1 locs1 q ce hl9 hw9 h09 hlo9 hce hcv hcl => by
                        cases e8
                        exact am_catch_ok Cx Ev hm htab hhd hx3 k hl9 hw9 h09 hlo9 hce hcv hcl)
                    · cases hs
                · rw [hk1] at hkd1; cases hkd1
                · rw [hk1] at hkd1; cases hkd1
              · cases hs
            · cases hs
        · cases hs
      · rename_i hkd
        obtain ⟨rfl, x, rfl⟩ := am_kind4 hkd
        split at hs
        · rename_i pc1 lv1 st1 h1 hs1
          split at hs
          · rename_i hcat
            have hle1 := am_acopy_h hs1
            have g1 : n0 ≤ h1.length := Nat.le_trans hn hle1.1
            have g2 : z0 ≤ am_sz h1 := Nat.le_trans hz hle1.2
            exact am_copy_ok AL Cx hd hk hs1 hcat hf1 hl300 (ih d y pc1 lv1 st1 h1 o hs hm p e R s mm args below meth c n0 z0 Cx Ev htab hsz g1 g2 hRf hRl hRc)
          · cases hs
        · cases hs
      · rename_i hkd
        obtain ⟨rfl, x, rfl⟩ := am_kind5 hkd
        split at hs
        · rename_i a s9
          split at hs
          · rename_i hcat
            exact am_obi_ok AL Cx hd hk hcat hf1 hl300 (ih d y (pc + 3) lv s9 h o hs hm p e R s mm args below meth c n0 z0 Cx Ev htab hsz hn hz hRf hRl hRc)
          · cases hs
        · cases hs
      · rename_i hkd
        obtain ⟨rfl, x, rfl⟩ := am_kind6 hkd
        split at hs
        · rename_i c9 e9 s9
          split at hs
          · rename_i hcat
            rw [Bool.and_eq_true] at hcat
            have hle := am_run_h _ _ _ _ _ _ _ _ hs
            exact am_idx_ok Cx Ev hd hk hcat.1 hcat.2 hf10 hl300 ⟨Nat.le_trans (Nat.sub_le_sub_right hle.1 n0) hRc.1, Nat.le_trans (Nat.sub_le_sub_right hle.2 z0) hRc.2⟩ (ih d y (pc + 3) lv _ h o hs hm p e R s mm args below meth c n0 z0 Cx Ev htab hsz hn hz hRf hRl hRc)
          · cases hs
        · cases hs
      · rename_i hkd
        obtain ⟨rfl, x, rfl⟩ := am_kind7 hkd
        split at hs
        · rename_i c9 e9 s9
          split at hs
          · rename_i hcat
            rw [Bool.and_eq_true, Bool.and_eq_true] at hcat
            have hle := am_run_h _ _ _ _ _ _ _ _ hs
            exact am_chr_ok Cx Ev hd hk hcat.1 hcat.2.1 hcat.2.2 hf10 hl300 ⟨Nat.le_trans (Nat.sub_le_sub_right hle.1 n0) hRc.1, Nat.le_trans (Nat.sub_le_sub_right hle.2 z0) hRc.2⟩ (ih d y (pc + 3) lv _ h o hs hm p e R s mm args below meth c n0 z0 Cx Ev htab hsz hn hz hRf hRl hRc)
          · cases hs
        · cases hs
      · rename_i hkd
        obtain ⟨hr9, x, rfl⟩ := am_kind8 hkd
        exact am_ldt_ok Cx Ev hd hk hr9 (ih d y (pc + 2) lv _ h o hs hm p e R s mm args below meth c n0 z0 Cx Ev htab hsz hn hz hRf hRl hRc)
      · cases hs
