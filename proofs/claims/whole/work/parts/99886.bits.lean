/-! ===== bits of a long ===== -/
def tb (x : Int64) (d : Nat) : Bool := x.toBitVec.getLsbD d
theorem tb_sh : ∀ d, d < 40 → (Int32.toInt64 (nI d) &&& 63) = lN d ∧ (lN d).toBitVec.smod 64 = BitVec.ofNat 64 d := by decide +kernel
theorem tb_1 (i : Nat) : (1 : Int64).toBitVec.getLsbD i = decide (i = 0) := by
  show (1#64).getLsbD i = _
  rw [BitVec.getLsbD_one]
  simp
theorem tb_r {x : Int64} {d : Nat} (hd : d < 40) : (x >>> (Int32.toInt64 (nI d) &&& 63)).toBitVec.getLsbD 0 = tb x d := by
  have e : (x >>> (Int32.toInt64 (nI d) &&& 63)).toBitVec = x.toBitVec.sshiftRight d := by
    rw [(tb_sh d hd).1, Int64.toBitVec_shiftRight, (tb_sh d hd).2, BitVec.sshiftRight_eq', BitVec.toNat_ofNat, Nat.mod_eq_of_lt (by omega)]
  rw [e, BitVec.getLsbD_sshiftRight, Nat.add_zero, if_pos (by omega : d < 64)]
  unfold tb
  simp
theorem tb_t {x : Int64} {d : Nat} (hd : d < 40) : (lg_cmp ((x >>> (Int32.toInt64 (nI d) &&& 63)) &&& 1) 1 = 0) ↔ tb x d = true := by
  rw [lg_cmp_eq, ← tb_r hd]
  constructor
  · intro e
    have := congrArg (fun y : Int64 => y.toBitVec.getLsbD 0) e
    rw [Int64.toBitVec_and, BitVec.getLsbD_and, tb_1, decide_eq_true (rfl : 0 = 0), Bool.and_true] at this
    exact this
  · intro h
    refine Int64.toBitVec_inj.mp (BitVec.eq_of_getLsbD_eq (fun i hi => ?_))
    rw [Int64.toBitVec_and, BitVec.getLsbD_and, tb_1]
    by_cases c : i = 0
    · rw [c, h]; rfl
    · rw [decide_eq_false c, Bool.and_false]
theorem tb_o {x : Int64} {c d : Nat} (hc : c < 40) (hd : d < 40) : tb (x ||| (1 <<< (Int32.toInt64 (nI c) &&& 63))) d = (tb x d || decide (d = c)) := by
  have e : (1 <<< (Int32.toInt64 (nI c) &&& 63) : Int64).toBitVec = (1 : Int64).toBitVec <<< c := by
    rw [(tb_sh c hc).1, Int64.toBitVec_shiftLeft, (tb_sh c hc).2, BitVec.shiftLeft_eq', BitVec.toNat_ofNat, Nat.mod_eq_of_lt (by omega)]
  unfold tb
  rw [Int64.toBitVec_or, BitVec.getLsbD_or, e, BitVec.getLsbD_shiftLeft, tb_1]
  congr 1
  by_cases h : d = c
  · subst h
    simp [Nat.lt_irrefl]
    omega
  · by_cases h2 : d < c
    · simp [h2, h]
    · rw [decide_eq_false h, decide_eq_false (by omega : ¬ d - c = 0), Bool.and_false]
theorem tb_z (x : Int64) (d : Nat) : tb (x ||| 0) d = tb x d := by
  unfold tb
  rw [Int64.toBitVec_or, BitVec.getLsbD_or]
  show (_ || (0#64).getLsbD d) = _
  simp
theorem tb_0 (d : Nat) : tb 0 d = false := by
  unfold tb
  show (0#64).getLsbD d = false
  simp
