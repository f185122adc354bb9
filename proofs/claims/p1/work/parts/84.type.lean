/-! ===== type ===== -/
theorem bvk (y : BitVec 64) (s : Nat) (hs : s ≤ 56) : (y >>> s) &&& 255#64 = (y.sshiftRight s) &&& 255#64 := by
  apply BitVec.eq_of_getLsbD_eq
  intro i hi
  rw [BitVec.getLsbD_and, BitVec.getLsbD_and, BitVec.getLsbD_ushiftRight, BitVec.getLsbD_sshiftRight]
  by_cases h8 : i < 8
  · rw [show decide (64 ≤ i) = false from decide_eq_false (by omega), if_pos (show s + i < 64 by omega)]
    rfl
  · have e : (255#64).getLsbD i = false := by
      rw [BitVec.getLsbD_ofNat, Nat.testBit_lt_two_pow (Nat.lt_of_lt_of_le (by decide : 255 < 2 ^ 8) (Nat.pow_le_pow_right (by decide) (by omega))), Bool.and_false]
    rw [e, Bool.and_false, Bool.and_false]
/-- a byte of a long, as the class and as the reference reads it -/
def byC (x : Int64) (k : Nat) : Int64 := (Int64.toUInt64 x >>> (Int64.toUInt64 (Int32.toInt64 (8 * nI k)) &&& Int64.toUInt64 63)).toInt64 &&& 255
def byR (x : Int64) (k : Nat) : Int64 := (x >>> (Int32.toInt64 (8 * nI k) &&& 63)) &&& 255
theorem by_s1 : ∀ k, k < 8 → (Int64.toUInt64 (Int32.toInt64 (8 * nI k)) &&& Int64.toUInt64 63) = UInt64.ofNat (8 * k) := by decide +kernel
theorem by_s2 : ∀ k, k < 8 → (Int32.toInt64 (8 * nI k) &&& 63) = Int64.ofNat (8 * k) := by decide +kernel
theorem by_s3 : ∀ k, k < 8 → ((UInt64.ofNat (8 * k)).toBitVec % 64#64).toNat = 8 * k := by decide +kernel
theorem by_s4 : ∀ k, k < 8 → ((Int64.ofNat (8 * k)).toBitVec.smod 64#64).toNat = 8 * k := by decide +kernel
theorem by_eq (x : Int64) (k : Nat) (hk : k < 8) : byC x k = byR x k := by
  apply Int64.toBitVec_inj.mp
  unfold byC byR
  rw [by_s1 k hk, by_s2 k hk, Int64.toBitVec_and, Int64.toBitVec_and]
  show (x.toBitVec >>> ((UInt64.ofNat (8 * k)).toBitVec % 64#64)) &&& 255#64 = (x.toBitVec.sshiftRight' ((Int64.ofNat (8 * k)).toBitVec.smod 64#64)) &&& 255#64
  show (x.toBitVec >>> ((UInt64.ofNat (8 * k)).toBitVec % 64#64).toNat) &&& 255#64 = (x.toBitVec.sshiftRight ((Int64.ofNat (8 * k)).toBitVec.smod 64#64).toNat) &&& 255#64
  rw [by_s3 k hk, by_s4 k hk]
  exact bvk _ _ (by omega)
/-- how many bytes there are ahead of a zero -/
def tyN (B : Nat → Int64) : Nat → Nat → Nat
  | 0, k => k
  | m + 1, k => if B k = 0 then k else tyN B m (k + 1)
theorem tyN_le (B : Nat → Int64) : ∀ m k, tyN B m k ≤ k + m := by
  intro m
  induction m with
  | zero => intro k; exact Nat.le_refl _
  | succ m ih =>
    intro k
    rw [tyN]
    split
    · omega
    · have := ih (k + 1); omega
theorem tyN_eq {B D : Nat → Int64} : ∀ m k, (∀ j, k ≤ j → j < k + m → B j = D j) → tyN B m k = tyN D m k := by
  intro m
  induction m with
  | zero => intro k _; rfl
  | succ m ih =>
    intro k h
    rw [tyN, tyN, h k (by omega) (by omega), ih (k + 1) (fun j h1 h2 => h j (by omega) (by omega))]
theorem e_22n {N : Nat} {v : Value} {x : Int64} {h : am_H} : ∀ (m k K : Nat), k + m = 8 → m < K → fg_22_2 N K v x (nI k) h = fg_22_29 N v x (nI (tyN (byC x) m k)) h := by
  intro m
  induction m with
  | zero =>
    intro k K hm hK
    obtain ⟨K, rfl⟩ : ∃ k, K = k + 1 := ⟨K - 1, by omega⟩
    rw [fg_22_2, show k = 8 by omega]
    exact ev_t (by decide) rfl
  | succ m ih =>
    intro k K hm hK
    obtain ⟨K, rfl⟩ : ∃ k, K = k + 1 := ⟨K - 1, by omega⟩
    rw [fg_22_2]
    refine ev_f (nI_ge (show k < 8 by omega) (by decide)) ?_
    rw [tyN]
    by_cases c : byC x k = 0
    · rw [if_pos c]
      exact ev_t ((lg_cmp_eq _ _).mpr c) rfl
    · rw [if_neg c]
      refine ev_f (fun e => c ((lg_cmp_eq _ _).mp e)) ?_
      rw [nI_1]
      exact ih (k + 1) K (by omega) (by omega)
theorem e_325n {N : Nat} {v : Value} {x : Int64} {h : am_H} : ∀ (m k K : Nat), k + m = 8 → m < K → fg_325_7 N K v x (nI k) h = fg_325_34 N v x (nI (tyN (byR x) m k)) h := by
  intro m
  induction m with
  | zero =>
    intro k K hm hK
    obtain ⟨K, rfl⟩ : ∃ k, K = k + 1 := ⟨K - 1, by omega⟩
    rw [fg_325_7, show k = 8 by omega]
    exact ev_t (by decide) rfl
  | succ m ih =>
    intro k K hm hK
    obtain ⟨K, rfl⟩ : ∃ k, K = k + 1 := ⟨K - 1, by omega⟩
    rw [fg_325_7]
    refine ev_f (nI_ge (show k < 8 by omega) (by decide)) ?_
    rw [tyN]
    by_cases c : byR x k = 0
    · rw [if_pos c]
      exact ev_t ((lg_cmp_eq _ _).mpr c) rfl
    · rw [if_neg c]
      refine ev_f (fun e => c ((lg_cmp_eq _ _).mp e)) ?_
      rw [nI_1]
      exact ih (k + 1) K (by omega) (by omega)
theorem ch_fit (y : Int32) : am_afit 3 ((Int32.toUInt32 y % 65536).toInt32) = true := by
  have hlt : (Int32.toUInt32 y % 65536).toNat < 65536 := by
    rw [UInt32.toNat_mod]
    exact Nat.mod_lt _ (by decide)
  have e : (Int32.toUInt32 y % 65536).toInt32 = nI (Int32.toUInt32 y % 65536).toNat := by
    apply Int32.toBitVec_inj.mp
    show (Int32.toUInt32 y % 65536).toBitVec = BitVec.ofNat 32 (Int32.toUInt32 y % 65536).toNat
    apply BitVec.eq_of_toNat_eq
    rw [BitVec.toNat_ofNat, Nat.mod_eq_of_lt (by omega)]
    rfl
  rw [e]
  show (decide (0 ≤ nI _) && decide (nI _ ≤ 65535)) = true
  rw [Bool.and_eq_true, decide_eq_true_eq, decide_eq_true_eq]
  exact ⟨nI_pos' (by omega), nI_le (b := 65535) (by omega) (by decide)⟩
