def am_iald (t pc : Nat) (lv : am_LV) (st : List Value) (h : am_H) : Option am_S := match st with
  | .int i :: .ref a :: r => match h[a]? with
    | some (.inl (t1, n, .inl f)) => if t1 == t && am_inb i n then some (pc + 1, lv, .int (f i.toNatClampNeg) :: r, h) else none
    | _ => none
  | _ => none
def am_ialdX (X : am_X) (pc : Nat) (lv : am_LV) (st : List Value) (h : am_H) : Option am_S := match st with
  | .int i :: .float e :: r => if am_xint e.toNat && am_inb i (X e.toNat).1 then some (pc + 1, lv, .int ((X e.toNat).2 i.toNatClampNeg) :: r, h) else none
  | _ => am_iald 0 pc lv st h
def am_bald (pc : Nat) (lv : am_LV) (st : List Value) (h : am_H) : Option am_S := am_iald 2 pc lv st h
def am_lald (pc : Nat) (lv : am_LV) (st : List Value) (h : am_H) : Option am_S := match st with
  | .int i :: .ref a :: r => match h[a]? with
    | some (.inl (t1, n, .inr (.inl f))) => if t1 == 1 && am_inb i n then some (pc + 1, lv, .long (f i.toNatClampNeg) :: r, h) else none
    | _ => none
  | _ => none
def am_aald (pc : Nat) (lv : am_LV) (st : List Value) (h : am_H) : Option am_S := match st with
  | .int i :: .ref a :: r => match h[a]? with
    | some (.inl (t1, n, .inr (.inr (.inr (.inr f))))) => if Nat.ble 4 t1 && Nat.ble t1 6 && am_inb i n then some (pc + 1, lv, va_rf (f i.toNatClampNeg) :: r, h) else none
    | _ => none
  | _ => none
/-- what an array of a kind takes -/
def am_afit (t : Nat) (x : Int32) : Bool := match t with
  | 0 => true
  | 2 => x == 0 || x == 1
  | 3 => decide (0 ≤ x) && decide (x ≤ 65535)
  | _ => false
def am_iast (t pc : Nat) (lv : am_LV) (st : List Value) (h : am_H) : Option am_S := match st with
  | .int x :: .int i :: .ref a :: r => match h[a]? with
    | some (.inl (t1, n, .inl f)) => if t1 == t && am_inb i n && am_afit t x then some (pc + 1, lv, r, h.set a (.inl (t1, n, .inl (upd f i.toNatClampNeg x)))) else none
    | _ => none
  | _ => none
def am_last (pc : Nat) (lv : am_LV) (st : List Value) (h : am_H) : Option am_S := match st with
  | .long x :: .int i :: .ref a :: r => match h[a]? with
    | some (.inl (t1, n, .inr (.inl f))) => if t1 == 1 && am_inb i n then some (pc + 1, lv, r, h.set a (.inl (t1, n, .inr (.inl (vp_updL f i.toNatClampNeg x))))) else none
    | _ => none
  | _ => none
/-- whether the thing is one that an array of references of a kind takes: 4 Program, 5 Island, 6 rows of longs -/
def am_comp (t : Nat) (e : am_E) : Bool := match t, e with
  | 4, .inr (3, _) => true
  | 5, .inr (1, _) => true
  | 6, .inl (1, _) => true
  | _, _ => false
def am_aast (pc : Nat) (lv : am_LV) (st : List Value) (h : am_H) : Option am_S := match st with
  | .ref v :: .int i :: .ref a :: r => match h[a]?, h[v]? with
    | some (.inl (t1, n, .inr (.inr (.inr (.inr f))))), some ev => if am_comp t1 ev && am_inb i n then some (pc + 1, lv, r, h.set a (.inl (t1, n, .inr (.inr (.inr (.inr (va_up f i.toNatClampNeg (some v)))))))) else none
    | _, _ => none
  | _ => none
def am_alen (X : am_X) (pc : Nat) (lv : am_LV) (st : List Value) (h : am_H) : Option am_S := match st with
  | .ref a :: r => match h[a]? with
    | some (.inl (t, n, _)) => if Nat.blt t 7 then some (pc + 1, lv, .int (Int32.ofNat n) :: r, h) else none
    | _ => none
  | .float e :: r => if am_xint e.toNat then some (pc + 1, lv, .int (Int32.ofNat (X e.toNat).1) :: r, h) else none
  | _ => none
/-- a new array's contents, by its kind -/
def am_zero (t : Nat) : (Nat → Int32) ⊕ (Nat → Int64) ⊕ (Nat → UInt32) ⊕ (Nat → UInt64) ⊕ (Nat → Option Nat) := match t with
  | 1 => .inr (.inl (fun _ => 0))
  | 0 => .inl (fun _ => 0)
  | 2 => .inl (fun _ => 0)
  | 3 => .inl (fun _ => 0)
  | _ => .inr (.inr (.inr (.inr (fun _ => none))))
def am_newa (t n pc : Nat) (lv : am_LV) (st : List Value) (h : am_H) : Option am_S := match st with
  | .int k :: r => if decide (0 ≤ k) && decide (k ≤ 1000000) then some (pc + n, lv, .ref h.length :: r, h ++ [.inl (t, k.toNatClampNeg, am_zero t)]) else none
  | _ => none
def am_newo (c pc : Nat) (lv : am_LV) (st : List Value) (h : am_H) : Option am_S := match am_df[c]? with
  | some fs => some (pc + 3, lv, .ref h.length :: st, h ++ [.inr (c, fs)])
  | none => none
def am_getf (r pc : Nat) (lv : am_LV) (st : List Value) (h : am_H) : Option am_S := match st with
  | .ref a :: s => match h[a]? with
    | some (.inr (c, fs)) => if c == r / 256 then (match fs[r % 256]? with
      | some v => some (pc + 3, lv, v :: s, h)
      | none => none) else none
    | _ => none
  | _ => none
def am_putf (r pc : Nat) (lv : am_LV) (st : List Value) (h : am_H) : Option am_S := match st with
  | v :: .ref a :: s => match h[a]? with
    | some (.inr (c, fs)) => if c == r / 256 && Nat.blt (r % 256) fs.length && am_fit (am_ty (r / 256) (r % 256)) v then some (pc + 3, lv, s, h.set a (.inr (c, fs.set (r % 256) v))) else none
    | _ => none
  | _ => none
def am_tsw (d lo hi : Int) (os : Array Int) (pc : Nat) (lv : am_LV) (st : List Value) (h : am_H) : Option am_S := match st with
  | .int x :: r => if decide (x.toInt < lo) || decide (hi < x.toInt) then some (((pc : Int) + d).toNat, lv, r, h) else (match os[(x.toInt - lo).toNat]? with
    | some o => some (((pc : Int) + o).toNat, lv, r, h)
    | none => none)
  | _ => none
def am_lsw (d : Int) (ps : Array (Int × Int)) (pc : Nat) (lv : am_LV) (st : List Value) (h : am_H) : Option am_S := match st with
  | .int x :: r => some (((pc : Int) + Op.lookupswitch.offset ps.toList d x.toInt).toNat, lv, r, h)
  | _ => none
def am_dup (pc : Nat) (lv : am_LV) (st : List Value) (h : am_H) : Option am_S := match st with
  | v :: r => if v.category == 1 then some (pc + 1, lv, v :: v :: r, h) else none
  | _ => none
def am_pop (pc : Nat) (lv : am_LV) (st : List Value) (h : am_H) : Option am_S := match st with
  | v :: r => if v.category == 1 then some (pc + 1, lv, r, h) else none
  | _ => none
def am_dup2 (pc : Nat) (lv : am_LV) (st : List Value) (h : am_H) : Option am_S := match st with
  | .long x :: r => some (pc + 1, lv, .long x :: .long x :: r, h)
  | v :: w :: r => if v.category == 1 && w.category == 1 then some (pc + 1, lv, v :: w :: v :: w :: r, h) else none
  | _ => none
def am_nul (b : Bool) (t pc : Nat) (lv : am_LV) (st : List Value) (h : am_H) : Option am_S := match st with
  | .null :: r => some (if b then t else pc + 3, lv, r, h)
  | .ref _ :: r => some (if b then pc + 3 else t, lv, r, h)
  | _ => none
def am_lcm (pc : Nat) (lv : am_LV) (st : List Value) (h : am_H) : Option am_S := match st with
  | .long y :: .long x :: r => some (pc + 1, lv, .int (lg_cmp x y) :: r, h)
  | _ => none
def am_ksi (r pc : Nat) (lv : am_LV) (st : List Value) (h : am_H) : Option am_S := match am_ks[r]? with
  | some (.int v) => some (pc + 2, lv, .int v :: st, h)
  | _ => none
def am_ksw (r pc : Nat) (lv : am_LV) (st : List Value) (h : am_H) : Option am_S := match am_ks[r]? with
  | some (.int v) => some (pc + 3, lv, .int v :: st, h)
  | _ => none
def am_ksl (r pc : Nat) (lv : am_LV) (st : List Value) (h : am_H) : Option am_S := match am_ks[r]? with
  | some (.long v) => some (pc + 3, lv, .long v :: st, h)
  | _ => none
def am_gst (r pc : Nat) (lv : am_LV) (st : List Value) (h : am_H) : Option am_S := if am_xst r then some (pc + 3, lv, .float (UInt32.ofNat r) :: st, h) else none
/-- an instruction that neither calls nor ends -/
def am_s1 (X : am_X) (i : Instr) (r pc : Nat) (lv : am_LV) (st : List Value) (h : am_H) : Option am_S := match i with
  | .iconst n => some (pc + 1, lv, .int (Int32.ofInt n) :: st, h)
  | .bipush n => some (pc + 2, lv, .int (Int8.ofInt n).toInt32 :: st, h)
  | .sipush n => some (pc + 3, lv, .int (Int16.ofInt n).toInt32 :: st, h)
  | .lconst n => some (pc + 1, lv, .long (Int64.ofNat (n : Nat)) :: st, h)
  | .aconst_null => some (pc + 1, lv, .null :: st, h)
  | .iload_n k => am_ild k 1 pc lv st h
  | .iload k => am_ild k 2 pc lv st h
  | .lload_n k => am_lld k 1 pc lv st h
  | .lload k => am_lld k 2 pc lv st h
  | .aload_n k => am_ald k 1 pc lv st h
  | .aload k => am_ald k 2 pc lv st h
  | .istore_n k => am_ist k 1 pc lv st h
  | .istore k => am_ist k 2 pc lv st h
  | .lstore_n k => am_lst k 1 pc lv st h
  | .lstore k => am_lst k 2 pc lv st h
  | .astore_n k => am_ast k 1 pc lv st h
  | .astore k => am_ast k 2 pc lv st h
  | .iinc k n => (match lv.lookup k with
    | some (.int x) => some (pc + 3, am_put1 lv k (.int (x + Int32.ofInt n)), st, h)
    | _ => none)
  | .iadd => am_ii (fun x y => x + y) pc lv st h
  | .isub => am_ii (fun x y => x - y) pc lv st h
  | .imul => am_ii (fun x y => x * y) pc lv st h
  | .iand => am_ii (fun x y => x &&& y) pc lv st h
  | .ior => am_ii (fun x y => x ||| y) pc lv st h
  | .ixor => am_ii (fun x y => x ^^^ y) pc lv st h
  | .ishl => am_ii (fun x y => x <<< (y &&& 31)) pc lv st h
  | .ishr => am_ii (fun x y => x >>> (y &&& 31)) pc lv st h
  | .iushr => am_ii (fun x y => (x.toUInt32 >>> (y.toUInt32 &&& Int32.toUInt32 31)).toInt32) pc lv st h
  | .idiv => am_iid (fun x y => x / y) pc lv st h
  | .irem => am_iid (fun x y => x - x / y * y) pc lv st h
  | .ineg => am_i1 (fun x => .int (-x)) pc lv st h
  | .i2l => am_i1 (fun x => .long x.toInt64) pc lv st h
  | .i2c => am_i1 (fun x => .int (x.toUInt32 % 65536).toInt32) pc lv st h
  | .ladd => am_ll (fun x y => x + y) pc lv st h
  | .lsub => am_ll (fun x y => x - y) pc lv st h
  | .lmul => am_ll (fun x y => x * y) pc lv st h
  | .land => am_ll (fun x y => x &&& y) pc lv st h
  | .lor => am_ll (fun x y => x ||| y) pc lv st h
  | .lxor => am_ll (fun x y => x ^^^ y) pc lv st h
  | .ldiv => am_lld0 (fun x y => x / y) pc lv st h
  | .lrem => am_lld0 (fun x y => x - x / y * y) pc lv st h
  | .lneg => am_l1 (fun x => .long (-x)) pc lv st h
  | .l2i => am_l1 (fun x => .int x.toInt32) pc lv st h
  | .lshl => am_li (fun x y => x <<< (y.toInt64 &&& 63)) pc lv st h
  | .lshr => am_li (fun x y => x >>> (y.toInt64 &&& 63)) pc lv st h
  | .lushr => am_li (fun x y => (x.toUInt64 >>> (y.toInt64.toUInt64 &&& Int64.toUInt64 63)).toInt64) pc lv st h
  | .lcmp => am_lcm pc lv st h
  | .ifCond .eq _ => am_br (fun x => decide (x = 0)) r pc lv st h
  | .ifCond .ne _ => am_br (fun x => decide (¬ x = 0)) r pc lv st h
  | .ifCond .lt _ => am_br (fun x => decide (x < 0)) r pc lv st h
  | .ifCond .ge _ => am_br (fun x => decide (0 ≤ x)) r pc lv st h
  | .ifCond .gt _ => am_br (fun x => decide (0 < x)) r pc lv st h
  | .ifCond .le _ => am_br (fun x => decide (x ≤ 0)) r pc lv st h
  | .if_icmp .eq _ => am_bc (fun x y => decide (x = y)) r pc lv st h
  | .if_icmp .ne _ => am_bc (fun x y => decide (¬ x = y)) r pc lv st h
  | .if_icmp .lt _ => am_bc (fun x y => decide (x < y)) r pc lv st h
  | .if_icmp .ge _ => am_bc (fun x y => decide (y ≤ x)) r pc lv st h
  | .if_icmp .gt _ => am_bc (fun x y => decide (y < x)) r pc lv st h
  | .if_icmp .le _ => am_bc (fun x y => decide (x ≤ y)) r pc lv st h
  | .goto _ => some (r, lv, st, h)
  | .ifnull _ => am_nul true r pc lv st h
  | .ifnonnull _ => am_nul false r pc lv st h
  | .tableswitch d lo hi os => am_tsw d lo hi os pc lv st h
  | .lookupswitch d ps => am_lsw d ps pc lv st h
  | .dup => am_dup pc lv st h
  | .pop => am_pop pc lv st h
  | .dup2 => am_dup2 pc lv st h
  | .getfield _ => am_getf r pc lv st h
  | .putfield _ => am_putf r pc lv st h
  | .iaload => am_ialdX X pc lv st h
  | .baload => am_bald pc lv st h
  | .caload => am_iald 3 pc lv st h
  | .laload => am_lald pc lv st h
  | .aaload => am_aald pc lv st h
  | .iastore => am_iast 0 pc lv st h
  | .bastore => am_iast 2 pc lv st h
  | .castore => am_iast 3 pc lv st h
  | .lastore => am_last pc lv st h
  | .aastore => am_aast pc lv st h
  | .arraylength => am_alen X pc lv st h
  | .newarray _ => am_newa r 2 pc lv st h
  | .anewarray _ => if Nat.blt r 7 then am_newa r 3 pc lv st h else none
  | .new _ => if Nat.blt r 100 then am_newo r pc lv st h else none
  | .ldc _ => am_ksi r pc lv st h
  | .ldc_w _ => am_ksw r pc lv st h
  | .ldc2_w _ => am_ksl r pc lv st h
  | .getstatic _ => am_gst r pc lv st h
  | _ => none
