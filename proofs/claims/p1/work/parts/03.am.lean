/-! AN ABSTRACT MACHINE. Its heap is a list of things; a reference is a place of that list (the real address: a base and the place). 'float j' stands for the j-th thing that was there before (the script, static arrays, texts). -/
abbrev am_C : Type := List (Nat × Instr × Nat)
/-- a method: name, bytes, locals, what it returns, its table, kind (0 static, 1 of an object, 2 a constructor), the number of its owner, how many values it takes, its instructions with what their operands come to -/
abbrev am_M : Type := MethodName × ByteArray × Nat × Option FieldType × List (Nat × Nat × Nat × Nat) × Nat × Nat × Nat × am_C
def am_nm (m : am_M) : MethodName := m.1
def am_by (m : am_M) : ByteArray := m.2.1
def am_mx (m : am_M) : Nat := m.2.2.1
def am_rt (m : am_M) : Option FieldType := m.2.2.2.1
def am_hh (m : am_M) : List (Nat × Nat × Nat × Nat) := m.2.2.2.2.1
def am_kd (m : am_M) : Nat := m.2.2.2.2.2.1
def am_ow (m : am_M) : Nat := m.2.2.2.2.2.2.1
def am_na (m : am_M) : Nat := m.2.2.2.2.2.2.2.1
def am_co (m : am_M) : am_C := m.2.2.2.2.2.2.2.2
abbrev am_LV : Type := List (Nat × Value)
abbrev am_E : Type := (Nat × vp_A) ⊕ (Nat × List Value)
abbrev am_H : Type := List am_E
abbrev am_S : Type := Nat × am_LV × List Value × am_H
/-- the numbers' arrays that were there before -/
abbrev am_X : Type := Nat → Nat × (Nat → Int32)
def am_len : Instr → Nat
  | .bipush _ => 2
  | .iload _ => 2
  | .lload _ => 2
  | .aload _ => 2
  | .istore _ => 2
  | .lstore _ => 2
  | .astore _ => 2
  | .ldc _ => 2
  | .newarray _ => 2
  | .sipush _ => 3
  | .ldc_w _ => 3
  | .ldc2_w _ => 3
  | .iinc _ _ => 3
  | .ifCond _ _ => 3
  | .if_icmp _ _ => 3
  | .goto _ => 3
  | .ifnull _ => 3
  | .ifnonnull _ => 3
  | .getstatic _ => 3
  | .getfield _ => 3
  | .putfield _ => 3
  | .invokevirtual _ => 3
  | .invokespecial _ => 3
  | .invokestatic _ => 3
  | .new _ => 3
  | .anewarray _ => 3
  | _ => 1
def am_sw : Instr → Bool
  | .tableswitch _ _ _ _ => true
  | .lookupswitch _ _ => true
  | _ => false
def am_dec (b : ByteArray) (pc : Nat) (i : Instr) : Bool := match decode b pc with
  | .ok (j, n) => decide (j = i) && (am_sw i || n == am_len i)
  | _ => false
theorem am_dec_sw {b : ByteArray} {pc : Nat} {i : Instr} (h : am_dec b pc i = true) : ∃ n, decode b pc = .ok (i, n) ∧ (am_sw i = true ∨ n = am_len i) := by
  unfold am_dec at h
  split at h
  · rename_i j n hd
    simp only [Bool.and_eq_true, decide_eq_true_eq, Bool.or_eq_true, beq_iff_eq] at h
    obtain ⟨rfl, h2⟩ := h
    exact ⟨n, hd, h2⟩
  · cases h
theorem am_dec_ok {b : ByteArray} {pc : Nat} {i : Instr} (h : am_dec b pc i = true) (hs : am_sw i = false) : decode b pc = .ok (i, am_len i) := by
  obtain ⟨n, h1, h2⟩ := am_dec_sw h
  rcases h2 with h2 | rfl
  · rw [hs] at h2; cases h2
  · exact h1
def am_put1 (lv : am_LV) (i : Nat) (v : Value) : am_LV := (i, v) :: lv.filter (fun q => !(q.1 == i) && !(q.1 + 1 == i && q.2.category == 2))
def am_put2 (lv : am_LV) (i : Nat) (v : Value) : am_LV := (i, v) :: lv.filter (fun q => !(q.1 == i) && (!(q.1 == i + 1) && !(q.1 + 1 == i && q.2.category == 2)))
def am_ild (k n pc : Nat) (lv : am_LV) (st : List Value) (h : am_H) : Option am_S := match lv.lookup k with
  | some (.int x) => some (pc + n, lv, .int x :: st, h)
  | _ => none
def am_lld (k n pc : Nat) (lv : am_LV) (st : List Value) (h : am_H) : Option am_S := match lv.lookup k with
  | some (.long x) => some (pc + n, lv, .long x :: st, h)
  | _ => none
def am_ald (k n pc : Nat) (lv : am_LV) (st : List Value) (h : am_H) : Option am_S := match lv.lookup k with
  | some (.ref x) => some (pc + n, lv, .ref x :: st, h)
  | some (.float x) => some (pc + n, lv, .float x :: st, h)
  | some .null => some (pc + n, lv, .null :: st, h)
  | _ => none
def am_ist (k n pc : Nat) (lv : am_LV) (st : List Value) (h : am_H) : Option am_S := match st with
  | .int x :: r => some (pc + n, am_put1 lv k (.int x), r, h)
  | _ => none
def am_lst (k n pc : Nat) (lv : am_LV) (st : List Value) (h : am_H) : Option am_S := match st with
  | .long x :: r => some (pc + n, am_put2 lv k (.long x), r, h)
  | _ => none
def am_ast (k n pc : Nat) (lv : am_LV) (st : List Value) (h : am_H) : Option am_S := match st with
  | .ref x :: r => some (pc + n, am_put1 lv k (.ref x), r, h)
  | .float x :: r => some (pc + n, am_put1 lv k (.float x), r, h)
  | .null :: r => some (pc + n, am_put1 lv k .null, r, h)
  | _ => none
def am_ii (f : Int32 → Int32 → Int32) (pc : Nat) (lv : am_LV) (st : List Value) (h : am_H) : Option am_S := match st with
  | .int y :: .int x :: r => some (pc + 1, lv, .int (f x y) :: r, h)
  | _ => none
def am_iid (f : Int32 → Int32 → Int32) (pc : Nat) (lv : am_LV) (st : List Value) (h : am_H) : Option am_S := match st with
  | .int y :: .int x :: r => if y = 0 then none else some (pc + 1, lv, .int (f x y) :: r, h)
  | _ => none
def am_ll (f : Int64 → Int64 → Int64) (pc : Nat) (lv : am_LV) (st : List Value) (h : am_H) : Option am_S := match st with
  | .long y :: .long x :: r => some (pc + 1, lv, .long (f x y) :: r, h)
  | _ => none
def am_lld0 (f : Int64 → Int64 → Int64) (pc : Nat) (lv : am_LV) (st : List Value) (h : am_H) : Option am_S := match st with
  | .long y :: .long x :: r => if y = 0 then none else some (pc + 1, lv, .long (f x y) :: r, h)
  | _ => none
def am_li (f : Int64 → Int32 → Int64) (pc : Nat) (lv : am_LV) (st : List Value) (h : am_H) : Option am_S := match st with
  | .int y :: .long x :: r => some (pc + 1, lv, .long (f x y) :: r, h)
  | _ => none
def am_i1 (f : Int32 → Value) (pc : Nat) (lv : am_LV) (st : List Value) (h : am_H) : Option am_S := match st with
  | .int x :: r => some (pc + 1, lv, f x :: r, h)
  | _ => none
def am_l1 (f : Int64 → Value) (pc : Nat) (lv : am_LV) (st : List Value) (h : am_H) : Option am_S := match st with
  | .long x :: r => some (pc + 1, lv, f x :: r, h)
  | _ => none
def am_br (c : Int32 → Bool) (t pc : Nat) (lv : am_LV) (st : List Value) (h : am_H) : Option am_S := match st with
  | .int x :: r => some (if c x then t else pc + 3, lv, r, h)
  | _ => none
def am_bc (c : Int32 → Int32 → Bool) (t pc : Nat) (lv : am_LV) (st : List Value) (h : am_H) : Option am_S := match st with
  | .int y :: .int x :: r => some (if c x y then t else pc + 3, lv, r, h)
  | _ => none
def am_isR : Value → Bool
  | .ref _ => true
  | .float _ => true
  | .null => true
  | _ => false
/-- whether a value is one that a field of a type takes -/
def am_fit (ty : FieldType) (v : Value) : Bool := match ty, v with
  | .int, .int _ => true
  | .long, .long _ => true
  | .boolean, .int x => x == 0 || x == 1
  | .object _, v => am_isR v
  | .array _, v => am_isR v
  | _, _ => false
/-- whether an int is one that a method of a type hands out -/
def am_rfit (ty : Option FieldType) (x : Int32) : Bool := match ty with
  | some .int => true
  | some .boolean => x == 0 || x == 1
  | some .char => decide (0 ≤ x) && decide (x ≤ 65535)
  | _ => false
def am_inb (i : Int32) (n : Nat) : Bool := decide (0 ≤ i) && decide (i.toNatClampNeg < n)
