/-! ===== type ===== -/
theorem bvk (y : BitVec 64) (s : Nat) (hs : s ≤ 56) : (y >>> s) &&& 255#64 = (y.sshiftRight s) &&& 255#64 := sorry
/-- a byte of a long, as the class and as the reference reads it -/
def byC (x : Int64) (k : Nat) : Int64 := (Int64.toUInt64 x >>> (Int64.toUInt64 (Int32.toInt64 (8 * nI k)) &&& Int64.toUInt64 63)).toInt64 &&& 255
def byR (x : Int64) (k : Nat) : Int64 := (x >>> (Int32.toInt64 (8 * nI k) &&& 63)) &&& 255
theorem by_s1 : ∀ k, k < 8 → (Int64.toUInt64 (Int32.toInt64 (8 * nI k)) &&& Int64.toUInt64 63) = UInt64.ofNat (8 * k) := sorry
theorem by_s2 : ∀ k, k < 8 → (Int32.toInt64 (8 * nI k) &&& 63) = Int64.ofNat (8 * k) := sorry
theorem by_s3 : ∀ k, k < 8 → ((UInt64.ofNat (8 * k)).toBitVec % 64#64).toNat = 8 * k := sorry
theorem by_s4 : ∀ k, k < 8 → ((Int64.ofNat (8 * k)).toBitVec.smod 64#64).toNat = 8 * k := sorry
theorem by_eq (x : Int64) (k : Nat) (hk : k < 8) : byC x k = byR x k := sorry
/-- how many bytes there are ahead of a zero -/
def tyN (B : Nat → Int64) : Nat → Nat → Nat
  | 0, k => k
  | m + 1, k => if B k = 0 then k else tyN B m (k + 1)
theorem tyN_le (B : Nat → Int64) : ∀ m k, tyN B m k ≤ k + m := sorry
theorem tyN_eq {B D : Nat → Int64} : ∀ m k, (∀ j, k ≤ j → j < k + m → B j = D j) → tyN B m k = tyN D m k := sorry
theorem e_22n {N : Nat} {v : Value} {x : Int64} {h : am_H} : ∀ (m k K : Nat), k + m = 8 → m < K → fg_22_2 N K v x (nI k) h = fg_22_29 N v x (nI (tyN (byC x) m k)) h := sorry
theorem e_325n {N : Nat} {v : Value} {x : Int64} {h : am_H} : ∀ (m k K : Nat), k + m = 8 → m < K → fg_325_7 N K v x (nI k) h = fg_325_34 N v x (nI (tyN (byR x) m k)) h := sorry
theorem ch_fit (y : Int32) : am_afit 3 ((Int32.toUInt32 y % 65536).toInt32) = true := sorry