/-! ===== the class of a number ===== -/
theorem bm32 {a : Int} (h1 : -2 ^ 31 ≤ a) (h2 : a < 2 ^ 31) : a.bmod (2 ^ 32) = a := by
  rw [Int.bmod_def]
  by_cases c : 0 ≤ a
  · rw [Int.emod_eq_of_lt c (by omega), if_pos (by omega)]
  · have e : a % ((2 ^ 32 : Nat) : Int) = a + 2 ^ 32 := by omega
    rw [e, if_neg (by omega)]
    omega
theorem td4 (t : Int) : ∃ q r : Int, t.tdiv 4 = q ∧ t = q * 4 + r ∧ ((0 ≤ t ∧ 0 ≤ r ∧ r < 4) ∨ (t < 0 ∧ -4 < r ∧ r ≤ 0)) := by
  by_cases c : 0 ≤ t
  · exact ⟨t / 4, t % 4, Int.tdiv_eq_ediv_of_nonneg c, by omega, .inl ⟨c, by omega, by omega⟩⟩
  · refine ⟨-((-t) / 4), -((-t) % 4), ?_, by omega, .inr ⟨by omega, by omega, by omega⟩⟩
    have e : t.tdiv 4 = -((-t).tdiv 4) := by rw [Int.neg_tdiv, Int.neg_neg]
    rw [e, Int.tdiv_eq_ediv_of_nonneg (by omega)]
theorem rem4 (x : Int32) : ∃ r : Int, (x - x / 4 * 4).toInt = r ∧ ((0 ≤ x.toInt ∧ 0 ≤ r ∧ r < 4) ∨ (x.toInt < 0 ∧ -4 < r ∧ r ≤ 0)) ∧ (x.toInt - r) % 4 = 0 := by
  have b1 := Int32.le_toInt x
  have b2 := Int32.toInt_lt x
  obtain ⟨q, r, h1, h2, h3⟩ := td4 x.toInt
  have e1 : (x / 4).toInt = q := by
    rw [Int32.toInt_div, show (4 : Int32).toInt = 4 by decide, h1]
    exact bm32 (by omega) (by omega)
  have e2 : (x / 4 * 4).toInt = q * 4 := by
    rw [Int32.toInt_mul, e1, show (4 : Int32).toInt = 4 by decide]
    exact bm32 (by omega) (by omega)
  refine ⟨r, ?_, h3, by omega⟩
  rw [Int32.toInt_sub, e2, show x.toInt - q * 4 = r by omega]
  exact bm32 (by omega) (by omega)
theorem xor4 (x : Int32) : (0 ≤ x ^^^ 4) ↔ 0 ≤ x.toInt := by
  rw [Int32.le_iff_toInt_le]
  show (0 : Int32).toInt ≤ (x ^^^ 4).toBitVec.toInt ↔ 0 ≤ x.toBitVec.toInt
  have m1 : (x ^^^ 4).toBitVec.msb = x.toBitVec.msb := by
    rw [Int32.toBitVec_xor, BitVec.msb_xor, show (Int32.toBitVec 4).msb = false by decide, Bool.xor_false]
  rw [BitVec.msb_eq_toInt, BitVec.msb_eq_toInt] at m1
  have m2 : ((x ^^^ 4).toBitVec.toInt < 0) ↔ (x.toBitVec.toInt < 0) := by
    constructor
    · intro h
      have : decide (x.toBitVec.toInt < 0) = true := by rw [← m1]; exact decide_eq_true h
      exact of_decide_eq_true this
    · intro h
      have : decide ((x ^^^ 4).toBitVec.toInt < 0) = true := by rw [m1]; exact decide_eq_true h
      exact of_decide_eq_true this
  rw [show (0 : Int32).toInt = 0 by decide]
  omega
theorem nat4 (x : Int32) : ∃ c, c < 4 ∧ x &&& 3 = nI c ∧ (x.toInt - (c : Int)) % 4 = 0 := by
  refine ⟨x.toBitVec.toNat % 4, by omega, ?_, ?_⟩
  · apply Int32.toBitVec_inj.mp
    show (x &&& 3).toBitVec = BitVec.ofNat 32 (x.toBitVec.toNat % 4)
    apply BitVec.eq_of_toNat_eq
    rw [Int32.toBitVec_and, BitVec.toNat_and, show (Int32.toBitVec 3).toNat = 2 ^ 2 - 1 by decide, Nat.and_two_pow_sub_one_eq_mod, BitVec.toNat_ofNat]
    omega
  · show (x.toBitVec.toInt - _) % 4 = 0
    rw [BitVec.toInt_eq_toNat_cond]
    split <;> omega
theorem fmod4 (x : Int32) : ∃ c, c < 4 ∧ (∀ h, fm_125 x 4 h = some (.inl (some (.int (nI c)), h))) ∧ x &&& 3 = nI c := by
  obtain ⟨c, c1, c2, c3⟩ := nat4 x
  obtain ⟨r, r1, r2, r3⟩ := rem4 x
  refine ⟨c, c1, fun h => ?_, c2⟩
  have nc : (nI c).toInt = (c : Int) := nI_toInt (by omega)
  unfold fm_125 fg_125_0
  refine ev_t (by decide) ?_
  by_cases s : 0 ≤ x ^^^ 4
  · have s1 := (xor4 x).mp s
    refine ev_t s ?_
    unfold fg_125_18
    rw [show x - x / 4 * 4 = nI c from Int32.toInt_inj.mp (by rw [r1, nc]; omega)]
  · have s1 : ¬ 0 ≤ x.toInt := fun e => s ((xor4 x).mpr e)
    refine ev_f s ?_
    by_cases z : x - x / 4 * 4 = 0
    · refine ev_t z ?_
      unfold fg_125_18
      have r0 : r = 0 := by rw [← r1, z]; decide
      rw [show x - x / 4 * 4 = nI c from Int32.toInt_inj.mp (by rw [r1, nc]; omega)]
    · refine ev_f z ?_
      have r0 : r ≠ 0 := fun e => z (Int32.toInt_inj.mp (by rw [r1, e]; decide))
      rw [show x - x / 4 * 4 + 4 = nI c from Int32.toInt_inj.mp (by
        rw [Int32.toInt_add, r1, nc, show (4 : Int32).toInt = 4 by decide, bm32 (by omega) (by omega)]
        omega)]
