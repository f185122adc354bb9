abbrev am_rm (d mc ms : Nat) : Room := { frames := d + 10, cells := mc, slots := ms, locals := 41 * d + 300 }
def am_Pc (l : Launch) (D : va_G) (ca : Nat → ClassId) (base : Nat) (ext : Nat → Nat) (X : am_X) (H0 : Heap) (as : List Value) (h : am_H) : Array Value → State → Prop := fun av U =>
  av = (am_rs base ext as).toArray ∧ U.heap.size = base + h.length ∧ am_Wd base ext D ca h U.heap ∧ (∀ q, q < base → U.heap[q]? = H0[q]?) ∧ base ≤ H0.size ∧ va_K D vwCl (am_tys ca) U ∧ (∀ j, am_xint j = true → am_Xv (ext j) (X j).1 (X j).2 U H0 ∧ ext j < base) ∧ am_Ev l U ca base ext H0
def am_Qc (D : va_G) (ca : Nat → ClassId) (base : Nat) (ext : Nat → Nat) (H0 : Heap) (o : am_O) : Array Value → State → Outcome → State → Prop := fun _ _ oc t => match o with
  | .inl (v, h1) => oc = .returned (v.map (am_rv base ext)) ∧ am_Wd base ext D ca h1 t.heap ∧ ∀ q, q < base → t.heap[q]? = H0[q]?
  | .inr _ => False
def am_XC (D : va_G) (ca : Nat → ClassId) (base : Nat) (ext : Nat → Nat) (H0 : Heap) (o : am_O) : String → State → State → Prop := fun E _ t => match o with
  | .inl _ => False
  | .inr (x, h1) => x < 3 ∧ E = am_xn x ∧ am_Wd base ext D ca h1 t.heap ∧ ∀ q, q < base → t.heap[q]? = H0[q]?
/-- the contract that a run of the abstract machine stands for -/
def am_Met (l : Launch) (D : va_G) (ca : Nat → ClassId) (base : Nat) (ext : Nat → Nat) (X : am_X) (H0 : Heap) (d : Nat) (m : am_M) (as : List Value) (h : am_H) (o : am_O) : Prop :=
  vx_Met l (am_nm m) (am_code m :: am_tb) (am_rm d ((am_oh o).length - h.length) (am_sz (am_oh o) - am_sz h)) (am_Pc l D ca base ext X H0 as h) (am_Qc D ca base ext H0 o) (am_XC D ca base ext H0 o) ((am_oh o).length - h.length) (am_sz (am_oh o) - am_sz h) (fun q => base ≤ q)
theorem am_Pc_blind {l : Launch} {D : va_G} {ca : Nat → ClassId} {base : Nat} {ext : Nat → Nat} {X : am_X} {H0 : Heap} {as : List Value} {h : am_H} : FrameBlind (am_Pc l D ca base ext X H0 as h) := sorry
theorem am_met_of {l : Launch} {y : MethodName} {ws : List Cond} {rm : Room} {Pc : Array Value → State → Prop} {Qc : Array Value → State → Outcome → State → Prop} {XC : String → State → State → Prop} {mc ms : Nat} {free : Addr → Prop} (h : vx_Met l y ws rm Pc Qc XC mc ms free) (hX : ∀ E st t, ¬ XC E st t) : Met l y ws rm Pc Qc mc ms free := sorry
theorem am_args_rl (base : Nat) (ext : Nat → Nat) (as : List Value) : ∀ k, am_rl base ext (am_args k as) = lv_args k (am_rs base ext as) := sorry
theorem am_sl_len (vs : List Value) : (lg_sl vs).length = (vs.map fun v => v.category).sum := sorry