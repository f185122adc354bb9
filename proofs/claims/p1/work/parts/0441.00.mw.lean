def am_pix (i : Nat) (w : Cond) : Bool := decide (((lw_privs[i]?).map fun q => Cond.selects q.1.cls q.1 q.1) = some w) && am_gw w
theorem am_pix_mem {i : Nat} {w : Cond} (h : am_pix i w = true) : w ∈ am_tb := by
  unfold am_pix at h
  rw [Bool.and_eq_true, decide_eq_true_eq] at h
  refine List.mem_filter.mpr ⟨List.mem_append_left _ ?_, h.2⟩
  obtain ⟨q, h1, h2⟩ := Option.map_eq_some_iff.mp h.1
  exact List.mem_map.mpr ⟨q, List.mem_of_getElem? h1, h2⟩
def am_sx (i : Nat) (w : Cond) : Bool := if Nat.ble 10000 i then am_pix (i - 10000) w else am_tix i w
theorem am_sx_mem {i : Nat} {w : Cond} (h : am_sx i w = true) : w ∈ am_tb := by
  unfold am_sx at h
  split at h
  · exact am_pix_mem h
  · exact am_tix_mem h
def am_parOk (m : am_M) : Bool := match parseMethodDescriptor (am_nm m).desc with
  | some sig => am_na m == sig.parameters.length + (if am_kd m == 0 then 0 else 1)
  | none => true
/-- the words of a method, by their positions: code, its owner's 'initialized', 'static' or 'instanceMethod', 'selects' -/
def am_mwb (m : am_M) (q : Nat × Nat × Nat × Nat) : Bool := Nat.ble (am_mx m) 22 && (plainFor (am_nm m) && (decide (am_on.getD (am_ow m) "" = (am_nm m).cls) && ((decide ((am_nm m).cls ≠ "java/lang/invoke/MethodHandle") && decide ((am_nm m).cls ≠ "java/lang/invoke/VarHandle")) && (am_parOk m && (am_tix q.1 (am_code m) && (am_tix q.2.1 (.initialized (am_nm m).cls) &&
  ((if am_kd m == 0 then am_tix q.2.2.1 (.static (am_nm m)) else am_tix q.2.2.1 (.instanceMethod (am_nm m)) && (Nat.blt (am_ow m) 13 && (am_hh m).isEmpty)) && ((!(am_kd m == 1) || am_sx q.2.2.2 (.selects (am_nm m).cls (am_nm m) (am_nm m))) && (!(am_kd m == 2) || (decide ((am_nm m).name = "<init>") && (am_rt m).isNone))))))))))
theorem am_mwb_ok {m : am_M} {q : Nat × Nat × Nat × Nat} (hm : m ∈ am_ms) (h : am_mwb m q = true) : am_mw m := by
  unfold am_mwb at h
  simp only [Bool.and_eq_true, decide_eq_true_eq] at h
  obtain ⟨h1, h2, h3, ⟨h4, h5⟩, h6, h7, h8, h9, h10, h11⟩ := h
  refine ⟨hm, Nat.le_of_ble_eq_true h1, h2, h3, ⟨h4, h5⟩, fun sig hsig => ?_, am_tix_mem h7, am_tix_mem h8, fun hk => ?_, fun hk => ?_, fun hk => ?_, fun hk => ?_⟩
  · unfold am_parOk at h6
    rw [hsig] at h6
    have h12 := beq_iff_eq.mp h6
    simp only [beq_iff_eq] at h12
    exact h12
  · rw [hk] at h9
    exact am_tix_mem h9
  · rw [if_neg (by rw [beq_iff_eq]; exact hk)] at h9
    rw [Bool.and_eq_true, Bool.and_eq_true, Nat.blt_eq, List.isEmpty_iff] at h9
    exact ⟨am_tix_mem h9.1, h9.2.1, h9.2.2⟩
  · rw [hk] at h10
    exact am_sx_mem h10
  · rw [hk] at h11
    have h12 : (decide ((am_nm m).name = "<init>") && (am_rt m).isNone) = true := h11
    rw [Bool.and_eq_true, decide_eq_true_eq, Option.isNone_iff_eq_none] at h12
    exact h12
