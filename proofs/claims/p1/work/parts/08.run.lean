/-- what a run comes to: it returns a value or none, or it throws (0 IllegalArgument, 1 IllegalState, 2 IndexOutOfBounds); and the heap then -/
abbrev am_O : Type := (Option Value × am_H) ⊕ (Nat × am_H)
/-- the instruction at a place, with what its operand comes to -/
def am_at (m : am_M) (pc : Nat) : Option (Instr × Nat) := (am_co m).lookup pc
def am_args : Nat → List Value → am_LV
  | _, [] => []
  | k, v :: vs => (k, v) :: am_args (k + v.category) vs
/-- the thing that stands for an exception's object -/
def am_dummy : am_E := .inr (999, [])
/-- the first row of a table that takes an exception of a kind thrown at a place: where it goes on behind the store of the exception, and where that is stored. Rows: (start, end, handler, pool number) -/
def am_hd (m : am_M) (pc x : Nat) : List (Nat × Nat × Nat × Nat) → Option (Nat × Nat)
  | [] => none
  | (a, b, g, t) :: r => if Nat.ble a pc && Nat.blt pc b then (match am_cat.lookup (am_ow m, t) with
      | some k => if k == x then (match am_at m g with
        | some (.astore_n i, _) => some (g + 1, i)
        | some (.astore i, _) => some (g + 2, i)
        | _ => none) else am_hd m pc x r
      | none => none) else am_hd m pc x r
/-- the copy of a row of ints into another (or itself) -/
def am_acopy (pc : Nat) (lv : am_LV) (st : List Value) (h : am_H) : Option am_S := match st with
  | .int n :: .int dp :: .ref b :: .int sp :: .ref a :: r => (match h[a]?, h[b]? with
    | some (.inl (t0, n0, .inl f)), some (.inl (t1, n1, .inl g)) =>
      if t0 == 0 && t1 == 0 && decide (0 ≤ sp) && decide (0 ≤ dp) && decide (0 ≤ n) && Nat.ble (sp.toNatClampNeg + n.toNatClampNeg) n0 && Nat.ble (dp.toNatClampNeg + n.toNatClampNeg) n1 then
        some (pc + 3, lv, r, h.set b (.inl (t1, n1, .inl (va_cpy f g sp.toNatClampNeg dp.toNatClampNeg n.toNatClampNeg)))) else none
    | _, _ => none)
  | _ => none
def am_cats (st : List Value) : Nat := (st.map fun v => v.category).sum
/-- the texts of Texts, by the numbers of the things -/
def am_txt (j : Nat) : List Int32 := if j == 3 then [120, 121, 122, 110, 115, 101] else if j == 4 then [126, 35, 33, 43, 45, 42, 47, 37, 60, 61, 38, 124, 64, 63] else if j == 5 then [120, 121, 122, 110, 126, 35, 43, 45, 42, 47, 37, 60, 61, 100, 119, 111] else []
def am_xtx (j : Nat) : Bool := j == 3 || (j == 4 || j == 5)
/-- the first place of a char in a text, from place k on -/
def am_ixF (c : Int32) : List Int32 → Nat → Int32
  | [], _ => -1
  | b :: l, k => if b = c then Int32.ofNat k else am_ixF c l (k + 1)
/-- kinds of instruction: 0 plain, 1 a return, 2 'throw new', 3 a call, 4 the copy of a row, 5 Object's constructor, 6 indexOf, 7 charAt, 8 ldc of a text of Texts, 9 none of these -/
def am_kind (i : Instr) (r : Nat) : Nat := match i with
  | .ireturn => 1
  | .lreturn => 1
  | .areturn => 1
  | .return_ => 1
  | .new _ => if Nat.ble 100 r then 2 else 0
  | .ldc _ => if r == 5 || (r == 6 || r == 7) then 8 else 0
  | .invokevirtual _ => if Nat.ble 10000 r then (if r == 10001 then 6 else if r == 10002 then 7 else 9) else 3
  | .invokespecial _ => if Nat.ble 10000 r then (if r == 10003 then 5 else 9) else 3
  | .invokestatic _ => if Nat.ble 10000 r then (if r == 10000 then 4 else 9) else 3
  | _ => 0
def am_ret (m : am_M) (i : Instr) (st : List Value) (h : am_H) : Option am_O := match i, st with
  | .ireturn, [.int v] => if am_rfit (am_rt m) v then some (.inl (some (.int v), h)) else none
  | .lreturn, [.long v] => (match am_rt m with
    | some .long => some (.inl (some (.long v), h))
    | _ => none)
  | .areturn, [.ref v] => (match am_rt m with
    | some (.object _) => some (.inl (some (.ref v), h))
    | some (.array _) => some (.inl (some (.ref v), h))
    | _ => none)
  | .return_, [] => (match am_rt m with
    | none => some (.inl (none, h))
    | _ => none)
  | _, _ => none
/-- new E; dup; ldc; E's constructor; athrow: at a place of a method without a table -/
def am_thr (m : am_M) (pc r : Nat) : Bool := (am_hh m).isEmpty && (am_ow m == 11 && (match am_at m (pc + 3), am_at m (pc + 4) with
  | some (.dup, _), some (.ldc i, _) => am_strs.any (fun t => t.1 == i) && (match am_at m (pc + 6), am_at m (pc + 9) with
    | some (.invokespecial _, b), some (.athrow, _) => b == r + 9910
    | _, _ => false)
  | some (.dup, _), some (.ldc_w i, _) => am_strs.any (fun t => t.1 == i) && (match am_at m (pc + 7), am_at m (pc + 10) with
    | some (.invokespecial _, b), some (.athrow, _) => b == r + 9910
    | _, _ => false)
  | _, _ => false))
/-- whether the callee m takes these values: their number, and of an object's method what the first one is -/
def am_ok (m : am_M) (as : List Value) (h : am_H) : Bool := as.length == am_na m && Nat.ble (am_cats as) (am_mx m) && (am_kd m == 0 || (match as with
  | .ref a :: _ => (match h[a]? with
    | some (.inr (c, _)) => c == am_ow m
    | _ => false)
  | _ => false))
/-- the run of a method from a place on: n bounds the steps, d the calls that stand over one another -/
def am_run (X : am_X) : Nat → Nat → Nat → Nat → am_LV → List Value → am_H → Option am_O
  | 0, _, _, _, _, _, _ => none
  | n + 1, d, y, pc, lv, st, h => match am_at (am_m y) pc with
    | none => none
    | some (i, r) => (match am_kind i r with
      | 0 => (match am_s1 X i r pc lv st h with
        | some (pc1, lv1, st1, h1) => am_run X n d y pc1 lv1 st1 h1
        | none => none)
      | 1 => am_ret (am_m y) i st h
      | 2 => if am_thr (am_m y) pc r && Nat.ble (am_cats st) 8 then some (.inr (r - 100, h ++ [am_dummy])) else none
      | 3 => if am_ok (am_m r) (st.take (am_na (am_m r))).reverse h && Nat.ble (am_cats (st.drop (am_na (am_m r)))) 8 then (match d with
        | 0 => none
        | d1 + 1 => (match am_run X n d1 r 0 (am_args 0 (st.take (am_na (am_m r))).reverse) [] h with
          | some (.inl (v, h1)) => am_run X n d y (pc + 3) lv (v.toList ++ st.drop (am_na (am_m r))) h1
          | some (.inr (x, h1)) => (if am_kd (am_m r) == 1 then (if (am_hh (am_m y)).isEmpty then some (.inr (x, h1)) else (match am_hd (am_m y) pc x (am_hh (am_m y)) with
            | some (pc1, k) => am_run X n d y pc1 ((am_put1 lv k .null).drop 1) [] h1
            | none => none)) else none)
          | none => none)) else none
      | 4 => (match am_acopy pc lv st h with
        | some (pc1, lv1, st1, h1) => if Nat.ble (am_cats st1) 8 then am_run X n d y pc1 lv1 st1 h1 else none
        | none => none)
      | 5 => (match st with
        | .ref _ :: s => if Nat.ble (am_cats s) 8 then am_run X n d y (pc + 3) lv s h else none
        | _ => none)
      | 6 => (match st with
        | .int c :: .float e :: s => if am_xtx e.toNat && Nat.ble (am_cats s) 8 then am_run X n d y (pc + 3) lv (.int (am_ixF c (am_txt e.toNat) 0) :: s) h else none
        | _ => none)
      | 7 => (match st with
        | .int c :: .float e :: s => if am_xtx e.toNat && (am_inb c (am_txt e.toNat).length && Nat.ble (am_cats s) 8) then am_run X n d y (pc + 3) lv (.int ((am_txt e.toNat).getD c.toNatClampNeg 0) :: s) h else none
        | _ => none)
      | 8 => am_run X n d y (pc + 2) lv (.float (UInt32.ofNat (r - 2)) :: st) h
      | _ => none)
