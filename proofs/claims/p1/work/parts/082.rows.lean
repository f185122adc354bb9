/-! ===== rows: an instruction each ===== -/
section
variable {X : am_X} {d y pc pc1 : Nat} {lv : am_LV} {st : List Value} {h : am_H} {Q : am_O → Prop}
theorem aw_iconst {r : Nat} {n : Int} {v : Int32} (hat : am_at (am_m y) pc = some (.iconst n, r)) (hv : Int32.ofInt n = v) (hp : pc + 1 = pc1) (k : am_W X d y pc1 lv (.int v :: st) h Q) : am_W X d y pc lv st h Q := by
  subst hp
  refine am_W.s1 hat rfl ?_ k
  subst hv; rfl
theorem aw_bipush {r : Nat} {n : Int} {v : Int32} (hat : am_at (am_m y) pc = some (.bipush n, r)) (hv : (Int8.ofInt n).toInt32 = v) (hp : pc + 2 = pc1) (k : am_W X d y pc1 lv (.int v :: st) h Q) : am_W X d y pc lv st h Q := by
  subst hp
  refine am_W.s1 hat rfl ?_ k
  subst hv; rfl
theorem aw_sipush {r : Nat} {n : Int} {v : Int32} (hat : am_at (am_m y) pc = some (.sipush n, r)) (hv : (Int16.ofInt n).toInt32 = v) (hp : pc + 3 = pc1) (k : am_W X d y pc1 lv (.int v :: st) h Q) : am_W X d y pc lv st h Q := by
  subst hp
  refine am_W.s1 hat rfl ?_ k
  subst hv; rfl
theorem aw_lconst {r : Nat} {n : Fin 2} {v : Int64} (hat : am_at (am_m y) pc = some (.lconst n, r)) (hv : Int64.ofNat (n : Nat) = v) (hp : pc + 1 = pc1) (k : am_W X d y pc1 lv (.long v :: st) h Q) : am_W X d y pc lv st h Q := by
  subst hp
  refine am_W.s1 hat rfl ?_ k
  subst hv; rfl
theorem aw_null {r : Nat} (hat : am_at (am_m y) pc = some (.aconst_null, r)) (hp : pc + 1 = pc1) (k : am_W X d y pc1 lv (.null :: st) h Q) : am_W X d y pc lv st h Q := by
  subst hp
  refine am_W.s1 hat rfl ?_ k
  rfl
theorem aw_ldc {r : Nat} {x : Nat} {v : Int32} (hat : am_at (am_m y) pc = some (.ldc x, r)) (hr : (r == 5 || (r == 6 || r == 7)) = false) (hv : am_ks[r]? = some (.int v)) (hp : pc + 2 = pc1) (k : am_W X d y pc1 lv (.int v :: st) h Q) : am_W X d y pc lv st h Q := by
  subst hp
  refine am_W.s1 hat (by show (if r == 5 || (r == 6 || r == 7) then 8 else 0) = 0; rw [hr]; rfl) ?_ k
  show am_ksi r pc lv st h = _; unfold am_ksi; rw [hv]
theorem aw_ldcw {r : Nat} {x : Nat} {v : Int32} (hat : am_at (am_m y) pc = some (.ldc_w x, r)) (hv : am_ks[r]? = some (.int v)) (hp : pc + 3 = pc1) (k : am_W X d y pc1 lv (.int v :: st) h Q) : am_W X d y pc lv st h Q := by
  subst hp
  refine am_W.s1 hat rfl ?_ k
  show am_ksw r pc lv st h = _; unfold am_ksw; rw [hv]
theorem aw_ldc2 {r : Nat} {x : Nat} {v : Int64} (hat : am_at (am_m y) pc = some (.ldc2_w x, r)) (hv : am_ks[r]? = some (.long v)) (hp : pc + 3 = pc1) (k : am_W X d y pc1 lv (.long v :: st) h Q) : am_W X d y pc lv st h Q := by
  subst hp
  refine am_W.s1 hat rfl ?_ k
  show am_ksl r pc lv st h = _; unfold am_ksl; rw [hv]
theorem aw_gst {r : Nat} {x : Nat} (hat : am_at (am_m y) pc = some (.getstatic x, r)) (hv : am_xst r = true) (hp : pc + 3 = pc1) (k : am_W X d y pc1 lv (.float (UInt32.ofNat r) :: st) h Q) : am_W X d y pc lv st h Q := by
  subst hp
  refine am_W.s1 hat rfl ?_ k
  show am_gst r pc lv st h = _; unfold am_gst; rw [if_pos hv]
theorem aw_iload_n {r : Nat} {i : Fin 4} {v : Int32} (hat : am_at (am_m y) pc = some (.iload_n i, r)) (hl : lv.lookup (i : Nat) = some (.int v)) (hp : pc + 1 = pc1) (k : am_W X d y pc1 lv (.int v :: st) h Q) : am_W X d y pc lv st h Q := by
  subst hp
  refine am_W.s1 hat rfl ?_ k
  show am_ild (i : Nat) 1 pc lv st h = _; unfold am_ild; rw [hl]
theorem aw_lload_n {r : Nat} {i : Fin 4} {v : Int64} (hat : am_at (am_m y) pc = some (.lload_n i, r)) (hl : lv.lookup (i : Nat) = some (.long v)) (hp : pc + 1 = pc1) (k : am_W X d y pc1 lv (.long v :: st) h Q) : am_W X d y pc lv st h Q := by
  subst hp
  refine am_W.s1 hat rfl ?_ k
  show am_lld (i : Nat) 1 pc lv st h = _; unfold am_lld; rw [hl]
theorem aw_aload_n {r : Nat} {i : Fin 4} {v : Nat} (hat : am_at (am_m y) pc = some (.aload_n i, r)) (hl : lv.lookup (i : Nat) = some (.ref v)) (hp : pc + 1 = pc1) (k : am_W X d y pc1 lv (.ref v :: st) h Q) : am_W X d y pc lv st h Q := by
  subst hp
  refine am_W.s1 hat rfl ?_ k
  show am_ald (i : Nat) 1 pc lv st h = _; unfold am_ald; rw [hl]
theorem aw_xload_n {r : Nat} {i : Fin 4} {v : UInt32} (hat : am_at (am_m y) pc = some (.aload_n i, r)) (hl : lv.lookup (i : Nat) = some (.float v)) (hp : pc + 1 = pc1) (k : am_W X d y pc1 lv (.float v :: st) h Q) : am_W X d y pc lv st h Q := by
  subst hp
  refine am_W.s1 hat rfl ?_ k
  show am_ald (i : Nat) 1 pc lv st h = _; unfold am_ald; rw [hl]
theorem aw_nload_n {r : Nat} {i : Fin 4} (hat : am_at (am_m y) pc = some (.aload_n i, r)) (hl : lv.lookup (i : Nat) = some .null) (hp : pc + 1 = pc1) (k : am_W X d y pc1 lv (.null :: st) h Q) : am_W X d y pc lv st h Q := by
  subst hp
  refine am_W.s1 hat rfl ?_ k
  show am_ald (i : Nat) 1 pc lv st h = _; unfold am_ald; rw [hl]
theorem aw_istore_n {r : Nat} {i : Fin 4} {v : Int32} {lv1 : am_LV} (hat : am_at (am_m y) pc = some (.istore_n i, r)) (hl : am_put1 lv (i : Nat) (.int v) = lv1) (hp : pc + 1 = pc1) (k : am_W X d y pc1 lv1 st h Q) : am_W X d y pc lv (.int v :: st) h Q := by
  subst hp
  refine am_W.s1 hat rfl ?_ k
  subst hl; rfl
theorem aw_lstore_n {r : Nat} {i : Fin 4} {v : Int64} {lv1 : am_LV} (hat : am_at (am_m y) pc = some (.lstore_n i, r)) (hl : am_put2 lv (i : Nat) (.long v) = lv1) (hp : pc + 1 = pc1) (k : am_W X d y pc1 lv1 st h Q) : am_W X d y pc lv (.long v :: st) h Q := by
  subst hp
  refine am_W.s1 hat rfl ?_ k
  subst hl; rfl
theorem aw_astore_n {r : Nat} {i : Fin 4} {v : Nat} {lv1 : am_LV} (hat : am_at (am_m y) pc = some (.astore_n i, r)) (hl : am_put1 lv (i : Nat) (.ref v) = lv1) (hp : pc + 1 = pc1) (k : am_W X d y pc1 lv1 st h Q) : am_W X d y pc lv (.ref v :: st) h Q := by
  subst hp
  refine am_W.s1 hat rfl ?_ k
  subst hl; rfl
theorem aw_nstore_n {r : Nat} {i : Fin 4} {lv1 : am_LV} (hat : am_at (am_m y) pc = some (.astore_n i, r)) (hl : am_put1 lv (i : Nat) .null = lv1) (hp : pc + 1 = pc1) (k : am_W X d y pc1 lv1 st h Q) : am_W X d y pc lv (.null :: st) h Q := by
  subst hp
  refine am_W.s1 hat rfl ?_ k
  subst hl; rfl
theorem aw_iload {r : Nat} {i : Nat} {v : Int32} (hat : am_at (am_m y) pc = some (.iload i, r)) (hl : lv.lookup i = some (.int v)) (hp : pc + 2 = pc1) (k : am_W X d y pc1 lv (.int v :: st) h Q) : am_W X d y pc lv st h Q := by
  subst hp
  refine am_W.s1 hat rfl ?_ k
  show am_ild i 2 pc lv st h = _; unfold am_ild; rw [hl]
theorem aw_lload {r : Nat} {i : Nat} {v : Int64} (hat : am_at (am_m y) pc = some (.lload i, r)) (hl : lv.lookup i = some (.long v)) (hp : pc + 2 = pc1) (k : am_W X d y pc1 lv (.long v :: st) h Q) : am_W X d y pc lv st h Q := by
  subst hp
  refine am_W.s1 hat rfl ?_ k
  show am_lld i 2 pc lv st h = _; unfold am_lld; rw [hl]
theorem aw_aload {r : Nat} {i : Nat} {v : Nat} (hat : am_at (am_m y) pc = some (.aload i, r)) (hl : lv.lookup i = some (.ref v)) (hp : pc + 2 = pc1) (k : am_W X d y pc1 lv (.ref v :: st) h Q) : am_W X d y pc lv st h Q := by
  subst hp
  refine am_W.s1 hat rfl ?_ k
  show am_ald i 2 pc lv st h = _; unfold am_ald; rw [hl]
theorem aw_xload {r : Nat} {i : Nat} {v : UInt32} (hat : am_at (am_m y) pc = some (.aload i, r)) (hl : lv.lookup i = some (.float v)) (hp : pc + 2 = pc1) (k : am_W X d y pc1 lv (.float v :: st) h Q) : am_W X d y pc lv st h Q := by
  subst hp
  refine am_W.s1 hat rfl ?_ k
  show am_ald i 2 pc lv st h = _; unfold am_ald; rw [hl]
theorem aw_nload {r : Nat} {i : Nat} (hat : am_at (am_m y) pc = some (.aload i, r)) (hl : lv.lookup i = some .null) (hp : pc + 2 = pc1) (k : am_W X d y pc1 lv (.null :: st) h Q) : am_W X d y pc lv st h Q := by
  subst hp
  refine am_W.s1 hat rfl ?_ k
  show am_ald i 2 pc lv st h = _; unfold am_ald; rw [hl]
theorem aw_istore {r : Nat} {i : Nat} {v : Int32} {lv1 : am_LV} (hat : am_at (am_m y) pc = some (.istore i, r)) (hl : am_put1 lv i (.int v) = lv1) (hp : pc + 2 = pc1) (k : am_W X d y pc1 lv1 st h Q) : am_W X d y pc lv (.int v :: st) h Q := by
  subst hp
  refine am_W.s1 hat rfl ?_ k
  subst hl; rfl
theorem aw_lstore {r : Nat} {i : Nat} {v : Int64} {lv1 : am_LV} (hat : am_at (am_m y) pc = some (.lstore i, r)) (hl : am_put2 lv i (.long v) = lv1) (hp : pc + 2 = pc1) (k : am_W X d y pc1 lv1 st h Q) : am_W X d y pc lv (.long v :: st) h Q := by
  subst hp
  refine am_W.s1 hat rfl ?_ k
  subst hl; rfl
theorem aw_astore {r : Nat} {i : Nat} {v : Nat} {lv1 : am_LV} (hat : am_at (am_m y) pc = some (.astore i, r)) (hl : am_put1 lv i (.ref v) = lv1) (hp : pc + 2 = pc1) (k : am_W X d y pc1 lv1 st h Q) : am_W X d y pc lv (.ref v :: st) h Q := by
  subst hp
  refine am_W.s1 hat rfl ?_ k
  subst hl; rfl
theorem aw_nstore {r : Nat} {i : Nat} {lv1 : am_LV} (hat : am_at (am_m y) pc = some (.astore i, r)) (hl : am_put1 lv i .null = lv1) (hp : pc + 2 = pc1) (k : am_W X d y pc1 lv1 st h Q) : am_W X d y pc lv (.null :: st) h Q := by
  subst hp
  refine am_W.s1 hat rfl ?_ k
  subst hl; rfl
theorem aw_iinc {r : Nat} {i : Nat} {n : Int} {x v c : Int32} {lv1 : am_LV} (hat : am_at (am_m y) pc = some (.iinc i n, r)) (hx : lv.lookup i = some (.int x)) (hc : Int32.ofInt n = c) (hv : x + c = v) (hl : am_put1 lv i (.int v) = lv1) (hp : pc + 3 = pc1) (k : am_W X d y pc1 lv1 st h Q) : am_W X d y pc lv st h Q := by
  subst hp
  refine am_W.s1 hat rfl ?_ k
  subst hl; subst hv; subst hc; show (match lv.lookup i with | some (.int x) => some (pc + 3, am_put1 lv i (.int (x + Int32.ofInt n)), st, h) | _ => none) = _; rw [hx]
theorem aw_iadd {r : Nat} {x z v : Int32} (hat : am_at (am_m y) pc = some (.iadd, r)) (hv : x + z = v) (hp : pc + 1 = pc1) (k : am_W X d y pc1 lv (.int v :: st) h Q) : am_W X d y pc lv (.int z :: .int x :: st) h Q := by
  subst hp
  refine am_W.s1 hat rfl ?_ k
  subst hv; rfl
theorem aw_isub {r : Nat} {x z v : Int32} (hat : am_at (am_m y) pc = some (.isub, r)) (hv : x - z = v) (hp : pc + 1 = pc1) (k : am_W X d y pc1 lv (.int v :: st) h Q) : am_W X d y pc lv (.int z :: .int x :: st) h Q := by
  subst hp
  refine am_W.s1 hat rfl ?_ k
  subst hv; rfl
theorem aw_imul {r : Nat} {x z v : Int32} (hat : am_at (am_m y) pc = some (.imul, r)) (hv : x * z = v) (hp : pc + 1 = pc1) (k : am_W X d y pc1 lv (.int v :: st) h Q) : am_W X d y pc lv (.int z :: .int x :: st) h Q := by
  subst hp
  refine am_W.s1 hat rfl ?_ k
  subst hv; rfl
theorem aw_iand {r : Nat} {x z v : Int32} (hat : am_at (am_m y) pc = some (.iand, r)) (hv : x &&& z = v) (hp : pc + 1 = pc1) (k : am_W X d y pc1 lv (.int v :: st) h Q) : am_W X d y pc lv (.int z :: .int x :: st) h Q := by
  subst hp
  refine am_W.s1 hat rfl ?_ k
  subst hv; rfl
theorem aw_ior {r : Nat} {x z v : Int32} (hat : am_at (am_m y) pc = some (.ior, r)) (hv : x ||| z = v) (hp : pc + 1 = pc1) (k : am_W X d y pc1 lv (.int v :: st) h Q) : am_W X d y pc lv (.int z :: .int x :: st) h Q := by
  subst hp
  refine am_W.s1 hat rfl ?_ k
  subst hv; rfl
theorem aw_ixor {r : Nat} {x z v : Int32} (hat : am_at (am_m y) pc = some (.ixor, r)) (hv : x ^^^ z = v) (hp : pc + 1 = pc1) (k : am_W X d y pc1 lv (.int v :: st) h Q) : am_W X d y pc lv (.int z :: .int x :: st) h Q := by
  subst hp
  refine am_W.s1 hat rfl ?_ k
  subst hv; rfl
theorem aw_ishl {r : Nat} {x z v : Int32} (hat : am_at (am_m y) pc = some (.ishl, r)) (hv : x <<< (z &&& 31) = v) (hp : pc + 1 = pc1) (k : am_W X d y pc1 lv (.int v :: st) h Q) : am_W X d y pc lv (.int z :: .int x :: st) h Q := by
  subst hp
  refine am_W.s1 hat rfl ?_ k
  subst hv; rfl
theorem aw_ishr {r : Nat} {x z v : Int32} (hat : am_at (am_m y) pc = some (.ishr, r)) (hv : x >>> (z &&& 31) = v) (hp : pc + 1 = pc1) (k : am_W X d y pc1 lv (.int v :: st) h Q) : am_W X d y pc lv (.int z :: .int x :: st) h Q := by
  subst hp
  refine am_W.s1 hat rfl ?_ k
  subst hv; rfl
theorem aw_iushr {r : Nat} {x z v : Int32} (hat : am_at (am_m y) pc = some (.iushr, r)) (hv : (x.toUInt32 >>> (z.toUInt32 &&& Int32.toUInt32 31)).toInt32 = v) (hp : pc + 1 = pc1) (k : am_W X d y pc1 lv (.int v :: st) h Q) : am_W X d y pc lv (.int z :: .int x :: st) h Q := by
  subst hp
  refine am_W.s1 hat rfl ?_ k
  subst hv; rfl
theorem aw_idiv {r : Nat} {x z v : Int32} (hat : am_at (am_m y) pc = some (.idiv, r)) (hz : z ≠ 0) (hv : x / z = v) (hp : pc + 1 = pc1) (k : am_W X d y pc1 lv (.int v :: st) h Q) : am_W X d y pc lv (.int z :: .int x :: st) h Q := by
  subst hp
  refine am_W.s1 hat rfl ?_ k
  subst hv; show (if z = 0 then none else _) = _; rw [if_neg hz]
theorem aw_irem {r : Nat} {x z v : Int32} (hat : am_at (am_m y) pc = some (.irem, r)) (hz : z ≠ 0) (hv : x - x / z * z = v) (hp : pc + 1 = pc1) (k : am_W X d y pc1 lv (.int v :: st) h Q) : am_W X d y pc lv (.int z :: .int x :: st) h Q := by
  subst hp
  refine am_W.s1 hat rfl ?_ k
  subst hv; show (if z = 0 then none else _) = _; rw [if_neg hz]
theorem aw_ladd {r : Nat} {x z v : Int64} (hat : am_at (am_m y) pc = some (.ladd, r)) (hv : x + z = v) (hp : pc + 1 = pc1) (k : am_W X d y pc1 lv (.long v :: st) h Q) : am_W X d y pc lv (.long z :: .long x :: st) h Q := by
  subst hp
  refine am_W.s1 hat rfl ?_ k
  subst hv; rfl
theorem aw_lsub {r : Nat} {x z v : Int64} (hat : am_at (am_m y) pc = some (.lsub, r)) (hv : x - z = v) (hp : pc + 1 = pc1) (k : am_W X d y pc1 lv (.long v :: st) h Q) : am_W X d y pc lv (.long z :: .long x :: st) h Q := by
  subst hp
  refine am_W.s1 hat rfl ?_ k
  subst hv; rfl
theorem aw_lmul {r : Nat} {x z v : Int64} (hat : am_at (am_m y) pc = some (.lmul, r)) (hv : x * z = v) (hp : pc + 1 = pc1) (k : am_W X d y pc1 lv (.long v :: st) h Q) : am_W X d y pc lv (.long z :: .long x :: st) h Q := by
  subst hp
  refine am_W.s1 hat rfl ?_ k
  subst hv; rfl
theorem aw_land {r : Nat} {x z v : Int64} (hat : am_at (am_m y) pc = some (.land, r)) (hv : x &&& z = v) (hp : pc + 1 = pc1) (k : am_W X d y pc1 lv (.long v :: st) h Q) : am_W X d y pc lv (.long z :: .long x :: st) h Q := by
  subst hp
  refine am_W.s1 hat rfl ?_ k
  subst hv; rfl
theorem aw_lor {r : Nat} {x z v : Int64} (hat : am_at (am_m y) pc = some (.lor, r)) (hv : x ||| z = v) (hp : pc + 1 = pc1) (k : am_W X d y pc1 lv (.long v :: st) h Q) : am_W X d y pc lv (.long z :: .long x :: st) h Q := by
  subst hp
  refine am_W.s1 hat rfl ?_ k
  subst hv; rfl
theorem aw_ldiv {r : Nat} {x z v : Int64} (hat : am_at (am_m y) pc = some (.ldiv, r)) (hz : z ≠ 0) (hv : x / z = v) (hp : pc + 1 = pc1) (k : am_W X d y pc1 lv (.long v :: st) h Q) : am_W X d y pc lv (.long z :: .long x :: st) h Q := by
  subst hp
  refine am_W.s1 hat rfl ?_ k
  subst hv; show (if z = 0 then none else _) = _; rw [if_neg hz]
theorem aw_lrem {r : Nat} {x z v : Int64} (hat : am_at (am_m y) pc = some (.lrem, r)) (hz : z ≠ 0) (hv : x - x / z * z = v) (hp : pc + 1 = pc1) (k : am_W X d y pc1 lv (.long v :: st) h Q) : am_W X d y pc lv (.long z :: .long x :: st) h Q := by
  subst hp
  refine am_W.s1 hat rfl ?_ k
  subst hv; show (if z = 0 then none else _) = _; rw [if_neg hz]
theorem aw_lshl {r : Nat} {x v : Int64} {z : Int32} (hat : am_at (am_m y) pc = some (.lshl, r)) (hv : x <<< (z.toInt64 &&& 63) = v) (hp : pc + 1 = pc1) (k : am_W X d y pc1 lv (.long v :: st) h Q) : am_W X d y pc lv (.int z :: .long x :: st) h Q := by
  subst hp
  refine am_W.s1 hat rfl ?_ k
  subst hv; rfl
theorem aw_lshr {r : Nat} {x v : Int64} {z : Int32} (hat : am_at (am_m y) pc = some (.lshr, r)) (hv : x >>> (z.toInt64 &&& 63) = v) (hp : pc + 1 = pc1) (k : am_W X d y pc1 lv (.long v :: st) h Q) : am_W X d y pc lv (.int z :: .long x :: st) h Q := by
  subst hp
  refine am_W.s1 hat rfl ?_ k
  subst hv; rfl
theorem aw_lushr {r : Nat} {x v : Int64} {z : Int32} (hat : am_at (am_m y) pc = some (.lushr, r)) (hv : (x.toUInt64 >>> (z.toInt64.toUInt64 &&& Int64.toUInt64 63)).toInt64 = v) (hp : pc + 1 = pc1) (k : am_W X d y pc1 lv (.long v :: st) h Q) : am_W X d y pc lv (.int z :: .long x :: st) h Q := by
  subst hp
  refine am_W.s1 hat rfl ?_ k
  subst hv; rfl
theorem aw_ineg {r : Nat} {x v : Int32} (hat : am_at (am_m y) pc = some (.ineg, r)) (hv : -x = v) (hp : pc + 1 = pc1) (k : am_W X d y pc1 lv (.int v :: st) h Q) : am_W X d y pc lv (.int x :: st) h Q := by
  subst hp
  refine am_W.s1 hat rfl ?_ k
  subst hv; rfl
theorem aw_lneg {r : Nat} {x v : Int64} (hat : am_at (am_m y) pc = some (.lneg, r)) (hv : -x = v) (hp : pc + 1 = pc1) (k : am_W X d y pc1 lv (.long v :: st) h Q) : am_W X d y pc lv (.long x :: st) h Q := by
  subst hp
  refine am_W.s1 hat rfl ?_ k
  subst hv; rfl
theorem aw_i2l {r : Nat} {x : Int32} {v : Int64} (hat : am_at (am_m y) pc = some (.i2l, r)) (hv : x.toInt64 = v) (hp : pc + 1 = pc1) (k : am_W X d y pc1 lv (.long v :: st) h Q) : am_W X d y pc lv (.int x :: st) h Q := by
  subst hp
  refine am_W.s1 hat rfl ?_ k
  subst hv; rfl
theorem aw_l2i {r : Nat} {x : Int64} {v : Int32} (hat : am_at (am_m y) pc = some (.l2i, r)) (hv : x.toInt32 = v) (hp : pc + 1 = pc1) (k : am_W X d y pc1 lv (.int v :: st) h Q) : am_W X d y pc lv (.long x :: st) h Q := by
  subst hp
  refine am_W.s1 hat rfl ?_ k
  subst hv; rfl
theorem aw_i2c {r : Nat} {x v : Int32} (hat : am_at (am_m y) pc = some (.i2c, r)) (hv : (x.toUInt32 % 65536).toInt32 = v) (hp : pc + 1 = pc1) (k : am_W X d y pc1 lv (.int v :: st) h Q) : am_W X d y pc lv (.int x :: st) h Q := by
  subst hp
  refine am_W.s1 hat rfl ?_ k
  subst hv; rfl
theorem aw_lcmp {r : Nat} {x z : Int64} {v : Int32} (hat : am_at (am_m y) pc = some (.lcmp, r)) (hv : lg_cmp x z = v) (hp : pc + 1 = pc1) (k : am_W X d y pc1 lv (.int v :: st) h Q) : am_W X d y pc lv (.long z :: .long x :: st) h Q := by
  subst hp
  refine am_W.s1 hat rfl ?_ k
  subst hv; rfl
theorem aw_ifeq_t {r : Nat} {x : Int32} {f : Int} (hat : am_at (am_m y) pc = some (.ifCond .eq f, r)) (hc : x = 0) (k : am_W X d y r lv st h Q) : am_W X d y pc lv (.int x :: st) h Q := by
  refine am_W.s1 hat rfl ?_ k
  show some (if decide (x = 0) then r else pc + 3, lv, st, h) = _; rw [if_pos (decide_eq_true hc)]
theorem aw_ifeq_f {r : Nat} {x : Int32} {f : Int} (hat : am_at (am_m y) pc = some (.ifCond .eq f, r)) (hc : ¬ (x = 0)) (hp : pc + 3 = pc1) (k : am_W X d y pc1 lv st h Q) : am_W X d y pc lv (.int x :: st) h Q := by
  subst hp
  refine am_W.s1 hat rfl ?_ k
  show some (if decide (x = 0) then r else pc + 3, lv, st, h) = _; rw [if_neg (fun h9 => hc (of_decide_eq_true h9))]
theorem aw_ifne_t {r : Nat} {x : Int32} {f : Int} (hat : am_at (am_m y) pc = some (.ifCond .ne f, r)) (hc : ¬ x = 0) (k : am_W X d y r lv st h Q) : am_W X d y pc lv (.int x :: st) h Q := by
  refine am_W.s1 hat rfl ?_ k
  show some (if decide (¬ x = 0) then r else pc + 3, lv, st, h) = _; rw [if_pos (decide_eq_true hc)]
theorem aw_ifne_f {r : Nat} {x : Int32} {f : Int} (hat : am_at (am_m y) pc = some (.ifCond .ne f, r)) (hc : ¬ (¬ x = 0)) (hp : pc + 3 = pc1) (k : am_W X d y pc1 lv st h Q) : am_W X d y pc lv (.int x :: st) h Q := by
  subst hp
  refine am_W.s1 hat rfl ?_ k
  show some (if decide (¬ x = 0) then r else pc + 3, lv, st, h) = _; rw [if_neg (fun h9 => hc (of_decide_eq_true h9))]
theorem aw_iflt_t {r : Nat} {x : Int32} {f : Int} (hat : am_at (am_m y) pc = some (.ifCond .lt f, r)) (hc : x < 0) (k : am_W X d y r lv st h Q) : am_W X d y pc lv (.int x :: st) h Q := by
  refine am_W.s1 hat rfl ?_ k
  show some (if decide (x < 0) then r else pc + 3, lv, st, h) = _; rw [if_pos (decide_eq_true hc)]
theorem aw_iflt_f {r : Nat} {x : Int32} {f : Int} (hat : am_at (am_m y) pc = some (.ifCond .lt f, r)) (hc : ¬ (x < 0)) (hp : pc + 3 = pc1) (k : am_W X d y pc1 lv st h Q) : am_W X d y pc lv (.int x :: st) h Q := by
  subst hp
  refine am_W.s1 hat rfl ?_ k
  show some (if decide (x < 0) then r else pc + 3, lv, st, h) = _; rw [if_neg (fun h9 => hc (of_decide_eq_true h9))]
theorem aw_ifge_t {r : Nat} {x : Int32} {f : Int} (hat : am_at (am_m y) pc = some (.ifCond .ge f, r)) (hc : 0 ≤ x) (k : am_W X d y r lv st h Q) : am_W X d y pc lv (.int x :: st) h Q := by
  refine am_W.s1 hat rfl ?_ k
  show some (if decide (0 ≤ x) then r else pc + 3, lv, st, h) = _; rw [if_pos (decide_eq_true hc)]
theorem aw_ifge_f {r : Nat} {x : Int32} {f : Int} (hat : am_at (am_m y) pc = some (.ifCond .ge f, r)) (hc : ¬ (0 ≤ x)) (hp : pc + 3 = pc1) (k : am_W X d y pc1 lv st h Q) : am_W X d y pc lv (.int x :: st) h Q := by
  subst hp
  refine am_W.s1 hat rfl ?_ k
  show some (if decide (0 ≤ x) then r else pc + 3, lv, st, h) = _; rw [if_neg (fun h9 => hc (of_decide_eq_true h9))]
theorem aw_ifgt_t {r : Nat} {x : Int32} {f : Int} (hat : am_at (am_m y) pc = some (.ifCond .gt f, r)) (hc : 0 < x) (k : am_W X d y r lv st h Q) : am_W X d y pc lv (.int x :: st) h Q := by
  refine am_W.s1 hat rfl ?_ k
  show some (if decide (0 < x) then r else pc + 3, lv, st, h) = _; rw [if_pos (decide_eq_true hc)]
theorem aw_ifgt_f {r : Nat} {x : Int32} {f : Int} (hat : am_at (am_m y) pc = some (.ifCond .gt f, r)) (hc : ¬ (0 < x)) (hp : pc + 3 = pc1) (k : am_W X d y pc1 lv st h Q) : am_W X d y pc lv (.int x :: st) h Q := by
  subst hp
  refine am_W.s1 hat rfl ?_ k
  show some (if decide (0 < x) then r else pc + 3, lv, st, h) = _; rw [if_neg (fun h9 => hc (of_decide_eq_true h9))]
theorem aw_ifle_t {r : Nat} {x : Int32} {f : Int} (hat : am_at (am_m y) pc = some (.ifCond .le f, r)) (hc : x ≤ 0) (k : am_W X d y r lv st h Q) : am_W X d y pc lv (.int x :: st) h Q := by
  refine am_W.s1 hat rfl ?_ k
  show some (if decide (x ≤ 0) then r else pc + 3, lv, st, h) = _; rw [if_pos (decide_eq_true hc)]
theorem aw_ifle_f {r : Nat} {x : Int32} {f : Int} (hat : am_at (am_m y) pc = some (.ifCond .le f, r)) (hc : ¬ (x ≤ 0)) (hp : pc + 3 = pc1) (k : am_W X d y pc1 lv st h Q) : am_W X d y pc lv (.int x :: st) h Q := by
  subst hp
  refine am_W.s1 hat rfl ?_ k
  show some (if decide (x ≤ 0) then r else pc + 3, lv, st, h) = _; rw [if_neg (fun h9 => hc (of_decide_eq_true h9))]
theorem aw_iceq_t {r : Nat} {x z : Int32} {f : Int} (hat : am_at (am_m y) pc = some (.if_icmp .eq f, r)) (hc : x = z) (k : am_W X d y r lv st h Q) : am_W X d y pc lv (.int z :: .int x :: st) h Q := by
  refine am_W.s1 hat rfl ?_ k
  show some (if decide (x = z) then r else pc + 3, lv, st, h) = _; rw [if_pos (decide_eq_true hc)]
theorem aw_iceq_f {r : Nat} {x z : Int32} {f : Int} (hat : am_at (am_m y) pc = some (.if_icmp .eq f, r)) (hc : ¬ (x = z)) (hp : pc + 3 = pc1) (k : am_W X d y pc1 lv st h Q) : am_W X d y pc lv (.int z :: .int x :: st) h Q := by
  subst hp
  refine am_W.s1 hat rfl ?_ k
  show some (if decide (x = z) then r else pc + 3, lv, st, h) = _; rw [if_neg (fun h9 => hc (of_decide_eq_true h9))]
theorem aw_icne_t {r : Nat} {x z : Int32} {f : Int} (hat : am_at (am_m y) pc = some (.if_icmp .ne f, r)) (hc : ¬ x = z) (k : am_W X d y r lv st h Q) : am_W X d y pc lv (.int z :: .int x :: st) h Q := by
  refine am_W.s1 hat rfl ?_ k
  show some (if decide (¬ x = z) then r else pc + 3, lv, st, h) = _; rw [if_pos (decide_eq_true hc)]
theorem aw_icne_f {r : Nat} {x z : Int32} {f : Int} (hat : am_at (am_m y) pc = some (.if_icmp .ne f, r)) (hc : ¬ (¬ x = z)) (hp : pc + 3 = pc1) (k : am_W X d y pc1 lv st h Q) : am_W X d y pc lv (.int z :: .int x :: st) h Q := by
  subst hp
  refine am_W.s1 hat rfl ?_ k
  show some (if decide (¬ x = z) then r else pc + 3, lv, st, h) = _; rw [if_neg (fun h9 => hc (of_decide_eq_true h9))]
theorem aw_iclt_t {r : Nat} {x z : Int32} {f : Int} (hat : am_at (am_m y) pc = some (.if_icmp .lt f, r)) (hc : x < z) (k : am_W X d y r lv st h Q) : am_W X d y pc lv (.int z :: .int x :: st) h Q := by
  refine am_W.s1 hat rfl ?_ k
  show some (if decide (x < z) then r else pc + 3, lv, st, h) = _; rw [if_pos (decide_eq_true hc)]
theorem aw_iclt_f {r : Nat} {x z : Int32} {f : Int} (hat : am_at (am_m y) pc = some (.if_icmp .lt f, r)) (hc : ¬ (x < z)) (hp : pc + 3 = pc1) (k : am_W X d y pc1 lv st h Q) : am_W X d y pc lv (.int z :: .int x :: st) h Q := by
  subst hp
  refine am_W.s1 hat rfl ?_ k
  show some (if decide (x < z) then r else pc + 3, lv, st, h) = _; rw [if_neg (fun h9 => hc (of_decide_eq_true h9))]
theorem aw_icge_t {r : Nat} {x z : Int32} {f : Int} (hat : am_at (am_m y) pc = some (.if_icmp .ge f, r)) (hc : z ≤ x) (k : am_W X d y r lv st h Q) : am_W X d y pc lv (.int z :: .int x :: st) h Q := by
  refine am_W.s1 hat rfl ?_ k
  show some (if decide (z ≤ x) then r else pc + 3, lv, st, h) = _; rw [if_pos (decide_eq_true hc)]
theorem aw_icge_f {r : Nat} {x z : Int32} {f : Int} (hat : am_at (am_m y) pc = some (.if_icmp .ge f, r)) (hc : ¬ (z ≤ x)) (hp : pc + 3 = pc1) (k : am_W X d y pc1 lv st h Q) : am_W X d y pc lv (.int z :: .int x :: st) h Q := by
  subst hp
  refine am_W.s1 hat rfl ?_ k
  show some (if decide (z ≤ x) then r else pc + 3, lv, st, h) = _; rw [if_neg (fun h9 => hc (of_decide_eq_true h9))]
theorem aw_icgt_t {r : Nat} {x z : Int32} {f : Int} (hat : am_at (am_m y) pc = some (.if_icmp .gt f, r)) (hc : z < x) (k : am_W X d y r lv st h Q) : am_W X d y pc lv (.int z :: .int x :: st) h Q := by
  refine am_W.s1 hat rfl ?_ k
  show some (if decide (z < x) then r else pc + 3, lv, st, h) = _; rw [if_pos (decide_eq_true hc)]
theorem aw_icgt_f {r : Nat} {x z : Int32} {f : Int} (hat : am_at (am_m y) pc = some (.if_icmp .gt f, r)) (hc : ¬ (z < x)) (hp : pc + 3 = pc1) (k : am_W X d y pc1 lv st h Q) : am_W X d y pc lv (.int z :: .int x :: st) h Q := by
  subst hp
  refine am_W.s1 hat rfl ?_ k
  show some (if decide (z < x) then r else pc + 3, lv, st, h) = _; rw [if_neg (fun h9 => hc (of_decide_eq_true h9))]
theorem aw_icle_t {r : Nat} {x z : Int32} {f : Int} (hat : am_at (am_m y) pc = some (.if_icmp .le f, r)) (hc : x ≤ z) (k : am_W X d y r lv st h Q) : am_W X d y pc lv (.int z :: .int x :: st) h Q := by
  refine am_W.s1 hat rfl ?_ k
  show some (if decide (x ≤ z) then r else pc + 3, lv, st, h) = _; rw [if_pos (decide_eq_true hc)]
theorem aw_icle_f {r : Nat} {x z : Int32} {f : Int} (hat : am_at (am_m y) pc = some (.if_icmp .le f, r)) (hc : ¬ (x ≤ z)) (hp : pc + 3 = pc1) (k : am_W X d y pc1 lv st h Q) : am_W X d y pc lv (.int z :: .int x :: st) h Q := by
  subst hp
  refine am_W.s1 hat rfl ?_ k
  show some (if decide (x ≤ z) then r else pc + 3, lv, st, h) = _; rw [if_neg (fun h9 => hc (of_decide_eq_true h9))]
theorem aw_goto {r : Nat} {f : Int} (hat : am_at (am_m y) pc = some (.goto f, r)) (k : am_W X d y r lv st h Q) : am_W X d y pc lv st h Q := by
  refine am_W.s1 hat rfl ?_ k
  rfl
theorem aw_ifnull_t {r : Nat} {f : Int} (hat : am_at (am_m y) pc = some (.ifnull f, r)) (k : am_W X d y r lv st h Q) : am_W X d y pc lv (.null :: st) h Q := by
  refine am_W.s1 hat rfl ?_ k
  rfl
theorem aw_ifnull_f {r : Nat} {f : Int} {a : Nat} (hat : am_at (am_m y) pc = some (.ifnull f, r)) (hp : pc + 3 = pc1) (k : am_W X d y pc1 lv st h Q) : am_W X d y pc lv (.ref a :: st) h Q := by
  subst hp
  refine am_W.s1 hat rfl ?_ k
  rfl
theorem aw_ifnn_t {r : Nat} {f : Int} {a : Nat} (hat : am_at (am_m y) pc = some (.ifnonnull f, r)) (k : am_W X d y r lv st h Q) : am_W X d y pc lv (.ref a :: st) h Q := by
  refine am_W.s1 hat rfl ?_ k
  rfl
theorem aw_ifnn_f {r : Nat} {f : Int} (hat : am_at (am_m y) pc = some (.ifnonnull f, r)) (hp : pc + 3 = pc1) (k : am_W X d y pc1 lv st h Q) : am_W X d y pc lv (.null :: st) h Q := by
  subst hp
  refine am_W.s1 hat rfl ?_ k
  rfl
theorem aw_tsw {r : Nat} {dd lo hi : Int} {os : Array Int} {x : Int32} {t : Nat} (hat : am_at (am_m y) pc = some (.tableswitch dd lo hi os, r)) (hs : am_tsw dd lo hi os pc lv (.int x :: st) h = some (t, lv, st, h)) (k : am_W X d y t lv st h Q) : am_W X d y pc lv (.int x :: st) h Q := am_W.s1 hat rfl hs k
theorem aw_lswD {r : Nat} {dd off : Int} {ps : Array (Int × Int)} {l : List (Int × Int)} {x : Int32} {t : Nat} (hat : am_at (am_m y) pc = some (.lookupswitch dd ps, r)) (hl : ps.toList = l) (ho : Op.lookupswitch.offset l dd x.toInt = off) (ht : ((pc : Int) + off).toNat = t) (k : am_W X d y t lv st h Q) : am_W X d y pc lv (.int x :: st) h Q :=
  am_W.s1 hat rfl (by subst hl; subst ho; subst ht; rfl) k
theorem aw_lsw {r : Nat} {dd : Int} {ps : Array (Int × Int)} {x : Int32} {t : Nat} (hat : am_at (am_m y) pc = some (.lookupswitch dd ps, r)) (hs : am_lsw dd ps pc lv (.int x :: st) h = some (t, lv, st, h)) (k : am_W X d y t lv st h Q) : am_W X d y pc lv (.int x :: st) h Q := am_W.s1 hat rfl hs k
theorem aw_dupr {r : Nat} {a : Nat} (hat : am_at (am_m y) pc = some (.dup, r)) (hp : pc + 1 = pc1) (k : am_W X d y pc1 lv (.ref a :: .ref a :: st) h Q) : am_W X d y pc lv (.ref a :: st) h Q := by
  subst hp
  refine am_W.s1 hat rfl ?_ k
  rfl
theorem aw_dupi {r : Nat} {a : Int32} (hat : am_at (am_m y) pc = some (.dup, r)) (hp : pc + 1 = pc1) (k : am_W X d y pc1 lv (.int a :: .int a :: st) h Q) : am_W X d y pc lv (.int a :: st) h Q := by
  subst hp
  refine am_W.s1 hat rfl ?_ k
  rfl
theorem aw_popi {r : Nat} {a : Int32} (hat : am_at (am_m y) pc = some (.pop, r)) (hp : pc + 1 = pc1) (k : am_W X d y pc1 lv st h Q) : am_W X d y pc lv (.int a :: st) h Q := by
  subst hp
  refine am_W.s1 hat rfl ?_ k
  rfl
theorem aw_popr {r : Nat} {a : Nat} (hat : am_at (am_m y) pc = some (.pop, r)) (hp : pc + 1 = pc1) (k : am_W X d y pc1 lv st h Q) : am_W X d y pc lv (.ref a :: st) h Q := by
  subst hp
  refine am_W.s1 hat rfl ?_ k
  rfl
theorem aw_dup2l {r : Nat} {a : Int64} (hat : am_at (am_m y) pc = some (.dup2, r)) (hp : pc + 1 = pc1) (k : am_W X d y pc1 lv (.long a :: .long a :: st) h Q) : am_W X d y pc lv (.long a :: st) h Q := by
  subst hp
  refine am_W.s1 hat rfl ?_ k
  rfl
theorem aw_dup2ri {r : Nat} {a : Int32} {b : Nat} (hat : am_at (am_m y) pc = some (.dup2, r)) (hp : pc + 1 = pc1) (k : am_W X d y pc1 lv (.int a :: .ref b :: .int a :: .ref b :: st) h Q) : am_W X d y pc lv (.int a :: .ref b :: st) h Q := by
  subst hp
  refine am_W.s1 hat rfl ?_ k
  rfl
theorem aw_getf {r : Nat} {x a c : Nat} {fs : List Value} {v : Value} (hat : am_at (am_m y) pc = some (.getfield x, r)) (hb : h[a]? = some (.inr (c, fs))) (hc : (c == r / 256) = true) (hv : fs[r % 256]? = some v) (hp : pc + 3 = pc1) (k : am_W X d y pc1 lv (v :: st) h Q) : am_W X d y pc lv (.ref a :: st) h Q := by
  subst hp
  refine am_W.s1 hat rfl ?_ k
  show am_getf r pc lv (.ref a :: st) h = _; unfold am_getf; simp only [hb, hc, hv, if_true]
theorem aw_putf {r : Nat} {x a c : Nat} {fs fs1 : List Value} {v : Value} {h1 : am_H} (hat : am_at (am_m y) pc = some (.putfield x, r)) (hb : h[a]? = some (.inr (c, fs))) (hc : (c == r / 256 && Nat.blt (r % 256) fs.length && am_fit (am_ty (r / 256) (r % 256)) v) = true) (hv : fs.set (r % 256) v = fs1) (hh : h.set a (.inr (c, fs1)) = h1) (hp : pc + 3 = pc1) (k : am_W X d y pc1 lv st h1 Q) : am_W X d y pc lv (v :: .ref a :: st) h Q := by
  subst hp
  refine am_W.s1 hat rfl ?_ k
  subst hh; subst hv; show am_putf r pc lv (v :: .ref a :: st) h = _; unfold am_putf; simp only [hb, hc, if_true]
theorem aw_iaload {r : Nat} {a n : Nat} {i : Int32} {f : Nat → Int32} (hat : am_at (am_m y) pc = some (.iaload, r)) (hb : h[a]? = some (.inl (0, n, .inl f))) (hi : am_inb i n = true) (hp : pc + 1 = pc1) (k : am_W X d y pc1 lv (.int (f i.toNatClampNeg) :: st) h Q) : am_W X d y pc lv (.int i :: .ref a :: st) h Q := by
  subst hp
  refine am_W.s1 hat rfl ?_ k
  show am_iald 0 pc lv (.int i :: .ref a :: st) h = _; unfold am_iald; simp only [hb, hi, beq_self_eq_true, Bool.and_self, if_true]
theorem aw_baload {r : Nat} {a n : Nat} {i : Int32} {f : Nat → Int32} (hat : am_at (am_m y) pc = some (.baload, r)) (hb : h[a]? = some (.inl (2, n, .inl f))) (hi : am_inb i n = true) (hp : pc + 1 = pc1) (k : am_W X d y pc1 lv (.int (f i.toNatClampNeg) :: st) h Q) : am_W X d y pc lv (.int i :: .ref a :: st) h Q := by
  subst hp
  refine am_W.s1 hat rfl ?_ k
  show am_iald 2 pc lv (.int i :: .ref a :: st) h = _; unfold am_iald; simp only [hb, hi, beq_self_eq_true, Bool.and_self, if_true]
theorem aw_caload {r : Nat} {a n : Nat} {i : Int32} {f : Nat → Int32} (hat : am_at (am_m y) pc = some (.caload, r)) (hb : h[a]? = some (.inl (3, n, .inl f))) (hi : am_inb i n = true) (hp : pc + 1 = pc1) (k : am_W X d y pc1 lv (.int (f i.toNatClampNeg) :: st) h Q) : am_W X d y pc lv (.int i :: .ref a :: st) h Q := by
  subst hp
  refine am_W.s1 hat rfl ?_ k
  show am_iald 3 pc lv (.int i :: .ref a :: st) h = _; unfold am_iald; simp only [hb, hi, beq_self_eq_true, Bool.and_self, if_true]
theorem aw_xaload {r : Nat} {e : UInt32} {i : Int32} (hat : am_at (am_m y) pc = some (.iaload, r)) (hx : am_xint e.toNat = true) (hi : am_inb i (X e.toNat).1 = true) (hp : pc + 1 = pc1) (k : am_W X d y pc1 lv (.int ((X e.toNat).2 i.toNatClampNeg) :: st) h Q) : am_W X d y pc lv (.int i :: .float e :: st) h Q := by
  subst hp
  refine am_W.s1 hat rfl ?_ k
  show am_ialdX X pc lv (.int i :: .float e :: st) h = _; unfold am_ialdX; simp only [hx, hi, Bool.and_self, if_true]
theorem aw_laload {r : Nat} {a n : Nat} {i : Int32} {f : Nat → Int64} (hat : am_at (am_m y) pc = some (.laload, r)) (hb : h[a]? = some (.inl (1, n, .inr (.inl f)))) (hi : am_inb i n = true) (hp : pc + 1 = pc1) (k : am_W X d y pc1 lv (.long (f i.toNatClampNeg) :: st) h Q) : am_W X d y pc lv (.int i :: .ref a :: st) h Q := by
  subst hp
  refine am_W.s1 hat rfl ?_ k
  show am_lald pc lv (.int i :: .ref a :: st) h = _; unfold am_lald; simp only [hb, hi, beq_self_eq_true, Bool.and_self, if_true]
theorem aw_aaload {r : Nat} {a n t : Nat} {i : Int32} {f : Nat → Option Nat} (hat : am_at (am_m y) pc = some (.aaload, r)) (hb : h[a]? = some (.inl (t, n, .inr (.inr (.inr (.inr f)))))) (ht : (Nat.ble 4 t && Nat.ble t 6) = true) (hi : am_inb i n = true) (hp : pc + 1 = pc1) (k : am_W X d y pc1 lv (va_rf (f i.toNatClampNeg) :: st) h Q) : am_W X d y pc lv (.int i :: .ref a :: st) h Q := by
  subst hp
  refine am_W.s1 hat rfl ?_ k
  show am_aald pc lv (.int i :: .ref a :: st) h = _; unfold am_aald; simp only [hb, ht, hi, Bool.and_self, if_true]
theorem aw_iastore {r : Nat} {a n : Nat} {i v : Int32} {f : Nat → Int32} {h1 : am_H} (hat : am_at (am_m y) pc = some (.iastore, r)) (hb : h[a]? = some (.inl (0, n, .inl f))) (hi : am_inb i n = true) (hh : h.set a (.inl (0, n, .inl (upd f i.toNatClampNeg v))) = h1) (hp : pc + 1 = pc1) (k : am_W X d y pc1 lv st h1 Q) : am_W X d y pc lv (.int v :: .int i :: .ref a :: st) h Q := by
  subst hp
  refine am_W.s1 hat rfl ?_ k
  subst hh; have hf : am_afit 0 v = true := rfl; show am_iast 0 pc lv (.int v :: .int i :: .ref a :: st) h = _; unfold am_iast; simp only [hb, hi, hf, beq_self_eq_true, Bool.and_self, if_true]
theorem aw_bastore {r : Nat} {a n : Nat} {i v : Int32} {f : Nat → Int32} {h1 : am_H} (hat : am_at (am_m y) pc = some (.bastore, r)) (hb : h[a]? = some (.inl (2, n, .inl f))) (hi : am_inb i n = true) (hf : am_afit 2 v = true) (hh : h.set a (.inl (2, n, .inl (upd f i.toNatClampNeg v))) = h1) (hp : pc + 1 = pc1) (k : am_W X d y pc1 lv st h1 Q) : am_W X d y pc lv (.int v :: .int i :: .ref a :: st) h Q := by
  subst hp
  refine am_W.s1 hat rfl ?_ k
  subst hh; show am_iast 2 pc lv (.int v :: .int i :: .ref a :: st) h = _; unfold am_iast; simp only [hb, hi, hf, beq_self_eq_true, Bool.and_self, if_true]
theorem aw_castore {r : Nat} {a n : Nat} {i v : Int32} {f : Nat → Int32} {h1 : am_H} (hat : am_at (am_m y) pc = some (.castore, r)) (hb : h[a]? = some (.inl (3, n, .inl f))) (hi : am_inb i n = true) (hf : am_afit 3 v = true) (hh : h.set a (.inl (3, n, .inl (upd f i.toNatClampNeg v))) = h1) (hp : pc + 1 = pc1) (k : am_W X d y pc1 lv st h1 Q) : am_W X d y pc lv (.int v :: .int i :: .ref a :: st) h Q := by
  subst hp
  refine am_W.s1 hat rfl ?_ k
  subst hh; show am_iast 3 pc lv (.int v :: .int i :: .ref a :: st) h = _; unfold am_iast; simp only [hb, hi, hf, beq_self_eq_true, Bool.and_self, if_true]
theorem aw_lastore {r : Nat} {a n : Nat} {i : Int32} {v : Int64} {f : Nat → Int64} {h1 : am_H} (hat : am_at (am_m y) pc = some (.lastore, r)) (hb : h[a]? = some (.inl (1, n, .inr (.inl f)))) (hi : am_inb i n = true) (hh : h.set a (.inl (1, n, .inr (.inl (vp_updL f i.toNatClampNeg v)))) = h1) (hp : pc + 1 = pc1) (k : am_W X d y pc1 lv st h1 Q) : am_W X d y pc lv (.long v :: .int i :: .ref a :: st) h Q := by
  subst hp
  refine am_W.s1 hat rfl ?_ k
  subst hh; show am_last pc lv (.long v :: .int i :: .ref a :: st) h = _; unfold am_last; simp only [hb, hi, beq_self_eq_true, Bool.and_self, if_true]
theorem aw_aastore {r : Nat} {a n t v : Nat} {i : Int32} {ev : am_E} {f : Nat → Option Nat} {h1 : am_H} (hat : am_at (am_m y) pc = some (.aastore, r)) (hb : h[a]? = some (.inl (t, n, .inr (.inr (.inr (.inr f)))))) (hv : h[v]? = some ev) (hc : am_comp t ev = true) (hi : am_inb i n = true) (hh : h.set a (.inl (t, n, .inr (.inr (.inr (.inr (va_up f i.toNatClampNeg (some v))))))) = h1) (hp : pc + 1 = pc1) (k : am_W X d y pc1 lv st h1 Q) : am_W X d y pc lv (.ref v :: .int i :: .ref a :: st) h Q := by
  subst hp
  refine am_W.s1 hat rfl ?_ k
  subst hh; show am_aast pc lv (.ref v :: .int i :: .ref a :: st) h = _; unfold am_aast; simp only [hb, hv, hc, hi, Bool.and_self, if_true]
theorem aw_alen {r : Nat} {a t n : Nat} {f : (Nat → Int32) ⊕ (Nat → Int64) ⊕ (Nat → UInt32) ⊕ (Nat → UInt64) ⊕ (Nat → Option Nat)} {v : Int32} (hat : am_at (am_m y) pc = some (.arraylength, r)) (hb : h[a]? = some (.inl (t, n, f))) (ht : Nat.blt t 7 = true) (hv : Int32.ofNat n = v) (hp : pc + 1 = pc1) (k : am_W X d y pc1 lv (.int v :: st) h Q) : am_W X d y pc lv (.ref a :: st) h Q := by
  subst hp
  refine am_W.s1 hat rfl ?_ k
  subst hv; show am_alen X pc lv (.ref a :: st) h = _; unfold am_alen; simp only [hb, ht, if_true]
theorem aw_xlen {r : Nat} {e : UInt32} {v : Int32} (hat : am_at (am_m y) pc = some (.arraylength, r)) (hx : am_xint e.toNat = true) (hv : Int32.ofNat (X e.toNat).1 = v) (hp : pc + 1 = pc1) (k : am_W X d y pc1 lv (.int v :: st) h Q) : am_W X d y pc lv (.float e :: st) h Q := by
  subst hp
  refine am_W.s1 hat rfl ?_ k
  subst hv; show am_alen X pc lv (.float e :: st) h = _; unfold am_alen; simp only [hx, if_true]
theorem aw_newa {r : Nat} {t : ArrayType} {kk : Int32} {h1 : am_H} {n : Nat} (hat : am_at (am_m y) pc = some (.newarray t, r)) (hk : (decide (0 ≤ kk) && decide (kk ≤ 1000000)) = true) (hn : h.length = n) (hh : h ++ [.inl (r, kk.toNatClampNeg, am_zero r)] = h1) (hp : pc + 2 = pc1) (k : am_W X d y pc1 lv (.ref n :: st) h1 Q) : am_W X d y pc lv (.int kk :: st) h Q := by
  subst hp
  refine am_W.s1 hat rfl ?_ k
  subst hh; subst hn; show am_newa r 2 pc lv (.int kk :: st) h = _; unfold am_newa; simp only [hk, if_true]
theorem aw_newr {r : Nat} {t : Nat} {kk : Int32} {h1 : am_H} {n : Nat} (hat : am_at (am_m y) pc = some (.anewarray t, r)) (hr : Nat.blt r 7 = true) (hk : (decide (0 ≤ kk) && decide (kk ≤ 1000000)) = true) (hn : h.length = n) (hh : h ++ [.inl (r, kk.toNatClampNeg, am_zero r)] = h1) (hp : pc + 3 = pc1) (k : am_W X d y pc1 lv (.ref n :: st) h1 Q) : am_W X d y pc lv (.int kk :: st) h Q := by
  subst hp
  refine am_W.s1 hat rfl ?_ k
  subst hh; subst hn; show (if Nat.blt r 7 then am_newa r 3 pc lv (.int kk :: st) h else none) = _; rw [if_pos hr]; unfold am_newa; simp only [hk, if_true]
theorem aw_newo {r : Nat} {t : Nat} {fs : List Value} {h1 : am_H} {n : Nat} (hat : am_at (am_m y) pc = some (.new t, r)) (hr : Nat.blt r 100 = true) (hr2 : Nat.ble 100 r = false) (hf : am_df[r]? = some fs) (hn : h.length = n) (hh : h ++ [.inr (r, fs)] = h1) (hp : pc + 3 = pc1) (k : am_W X d y pc1 lv (.ref n :: st) h1 Q) : am_W X d y pc lv st h Q := by
  subst hp
  refine am_W.s1 hat (by show (if Nat.ble 100 r = true then 2 else 0) = 0; rw [hr2]; rfl) ?_ k
  subst hh; subst hn; show (if Nat.blt r 100 then am_newo r pc lv st h else none) = _; rw [if_pos hr]; unfold am_newo; rw [hf]
theorem aw_iret {r : Nat} {v : Int32} (hat : am_at (am_m y) pc = some (.ireturn, r)) (hf : am_rfit (am_rt (am_m y)) v = true) (hq : Q (.inl (some (.int v), h))) : am_W X d y pc lv [.int v] h Q :=
  am_W.ret hat rfl (by show am_ret (am_m y) .ireturn [.int v] h = _; unfold am_ret; simp only [hf, if_true]) hq
theorem aw_lret {r : Nat} {v : Int64} (hat : am_at (am_m y) pc = some (.lreturn, r)) (hf : am_rt (am_m y) = some .long) (hq : Q (.inl (some (.long v), h))) : am_W X d y pc lv [.long v] h Q :=
  am_W.ret hat rfl (by show am_ret (am_m y) .lreturn [.long v] h = _; unfold am_ret; simp only [hf]) hq
theorem aw_aret {r v : Nat} {c : String} (hat : am_at (am_m y) pc = some (.areturn, r)) (hf : am_rt (am_m y) = some (.object c)) (hq : Q (.inl (some (.ref v), h))) : am_W X d y pc lv [.ref v] h Q :=
  am_W.ret hat rfl (by show am_ret (am_m y) .areturn [.ref v] h = _; unfold am_ret; simp only [hf]) hq
theorem aw_vret {r : Nat} (hat : am_at (am_m y) pc = some (.return_, r)) (hf : am_rt (am_m y) = none) (hq : Q (.inl (none, h))) : am_W X d y pc lv [] h Q :=
  am_W.ret hat rfl (by show am_ret (am_m y) .return_ [] h = _; unfold am_ret; simp only [hf]) hq
theorem aw_throw {x r : Nat} (hat : am_at (am_m y) pc = some (.new x, r)) (hr : Nat.ble 100 r = true) (hth : am_thr (am_m y) pc r = true) (hc : Nat.ble (am_cats st) 8 = true) (hq : Q (.inr (r - 100, h ++ [am_dummy]))) : am_W X d y pc lv st h Q :=
  am_W.thr hat (by show (if Nat.ble 100 r = true then 2 else 0) = 2; rw [hr]; rfl) hth hc hq
end
