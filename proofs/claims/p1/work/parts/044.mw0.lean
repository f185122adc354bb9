def am_m (y : Nat) : am_M := am_ms.getD y am_m0
/-- a method's own word -/
def am_code (m : am_M) : Cond := if (am_hh m).isEmpty then .code (am_nm m) (am_by m) (am_mx m) (am_rt m) else .codeWith (am_nm m) (am_by m) (am_mx m) (am_rt m) (am_hh m)
/-- what the tables say of a method -/
def am_mw (m : am_M) : Prop := m ∈ am_ms ∧ am_mx m ≤ 22 ∧ plainFor (am_nm m) = true ∧ am_on.getD (am_ow m) "" = (am_nm m).cls ∧ ((am_nm m).cls ≠ "java/lang/invoke/MethodHandle" ∧ (am_nm m).cls ≠ "java/lang/invoke/VarHandle") ∧
  (∀ sig, parseMethodDescriptor (am_nm m).desc = some sig → am_na m = sig.parameters.length + (if am_kd m = 0 then 0 else 1)) ∧ am_code m ∈ am_tb ∧ Cond.initialized (am_nm m).cls ∈ am_tb ∧
  (am_kd m = 0 → Cond.static (am_nm m) ∈ am_tb) ∧ (am_kd m ≠ 0 → Cond.instanceMethod (am_nm m) ∈ am_tb ∧ am_ow m < 13 ∧ am_hh m = []) ∧ (am_kd m = 1 → Cond.selects (am_nm m).cls (am_nm m) (am_nm m) ∈ am_tb) ∧ (am_kd m = 2 → (am_nm m).name = "<init>" ∧ am_rt m = none)
