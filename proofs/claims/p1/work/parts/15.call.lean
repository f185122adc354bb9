abbrev am_rm (d mc ms : Nat) : Room := { frames := d + 10, cells := mc, slots := ms, locals := 41 * d + 300 }
def am_Pc (l : Launch) (D : va_G) (ca : Nat → ClassId) (base : Nat) (ext : Nat → Nat) (X : am_X) (H0 : Heap) (as : List Value) (h : am_H) : Array Value → State → Prop := fun av U =>
  av = (am_rs base ext as).toArray ∧ U.heap.size = base + h.length ∧ am_Wd base ext D ca h U.heap ∧ (∀ q, q < base → U.heap[q]? = H0[q]?) ∧ base ≤ H0.size ∧ va_K D vwCl (am_tys ca) U ∧ (∀ j, am_xint j = true → am_Xv (ext j) (X j).1 (X j).2 U H0 ∧ ext j < base) ∧ am_Ev l U ca base ext H0
def am_Qc (D : va_G) (ca : Nat → ClassId) (base : Nat) (ext : Nat → Nat) (H0 : Heap) (o : am_O) : Array Value → State → Outcome → State → Prop := fun _ _ oc t => match o with
  | .inl (v, h1) => oc = .returned (v.map (am_rv base ext)) ∧ am_Wd base ext D ca h1 t.heap ∧ ∀ q, q < base → t.heap[q]? = H0[q]?
  | .inr _ => False
def am_XC (D : va_G) (ca : Nat → ClassId) (base : Nat) (ext : Nat → Nat) (H0 : Heap) (o : am_O) : String → State → State → Prop := fun E _ t => match o with
  | .inl _ => False
  | .inr (x, h1) => x < 3 ∧ E = am_xn x ∧ am_Wd base ext D ca h1 t.heap ∧ ∀ q, q < base → t.heap[q]? = H0[q]?
/-- the contract that a run of the abstract machine stands for -/
def am_Met (l : Launch) (D : va_G) (ca : Nat → ClassId) (base : Nat) (ext : Nat → Nat) (X : am_X) (H0 : Heap) (d : Nat) (m : am_M) (as : List Value) (h : am_H) (o : am_O) : Prop :=
  vx_Met l (am_nm m) (am_code m :: am_tb) (am_rm d ((am_oh o).length - h.length) (am_sz (am_oh o) - am_sz h)) (am_Pc l D ca base ext X H0 as h) (am_Qc D ca base ext H0 o) (am_XC D ca base ext H0 o) ((am_oh o).length - h.length) (am_sz (am_oh o) - am_sz h) (fun q => base ≤ q)
theorem am_Pc_blind {l : Launch} {D : va_G} {ca : Nat → ClassId} {base : Nat} {ext : Nat → Nat} {X : am_X} {H0 : Heap} {as : List Value} {h : am_H} : FrameBlind (am_Pc l D ca base ext X H0 as h) := by
  intro a U g mk hp
  obtain ⟨h1, h2, h3, h4, h5, h6, h7, h8⟩ := hp
  exact ⟨h1, h2, h3, h4, h5, va_K.moved (u := U) (U := U.calling g mk a) (Vm.Alike.refl U.vm) h6, fun j hj => ⟨am_Xv.moved (u := U) (U := U.calling g mk a) (Vm.Alike.refl U.vm) (h7 j hj).1, (h7 j hj).2⟩, am_Ev.moved (U := U.calling g mk a) (State.WarmedH.refl U) h8⟩
theorem am_met_of {l : Launch} {y : MethodName} {ws : List Cond} {rm : Room} {Pc : Array Value → State → Prop} {Qc : Array Value → State → Outcome → State → Prop} {XC : String → State → State → Prop} {mc ms : Nat} {free : Addr → Prop} (h : vx_Met l y ws rm Pc Qc XC mc ms free) (hX : ∀ E st t, ¬ XC E st t) : Met l y ws rm Pc Qc mc ms free := by
  intro p e ha hc hk s m args below hf happ hP hK
  obtain ⟨n, o, h1, h2, h3, h4⟩ := h p e ha hc hk s m args below hf happ hP hK
  refine ⟨n, o, h1, h2, h3, ?_⟩
  rcases h4 with h4 | ⟨q, -, E, ce, L, hx, -⟩
  · exact h4
  · exact absurd hx (hX _ _ _)
theorem am_args_rl (base : Nat) (ext : Nat → Nat) (as : List Value) : ∀ k, am_rl base ext (am_args k as) = lv_args k (am_rs base ext as) := by
  induction as with
  | nil => intro k; rfl
  | cons v r ih =>
    intro k
    have hc : (if (am_rv base ext v).category = 2 then k + 2 else k + 1) = k + v.category := by
      rw [am_rv_cat]
      rcases lv_cat v with h | h <;> rw [h] <;> simp
    show (k, am_rv base ext v) :: am_rl base ext (am_args (k + v.category) r) = (k, am_rv base ext v) :: lv_args _ (am_rs base ext r)
    rw [hc, ih]
theorem am_sl_len (vs : List Value) : (lg_sl vs).length = (vs.map fun v => v.category).sum := by
  induction vs with
  | nil => rfl
  | cons v r ih =>
    have h1 : lg_sl (v :: r) = (if v.category = 2 then [.val v, .second] else [.val v]) ++ lg_sl r := by simp [lg_sl]
    rw [h1, List.length_append, ih, List.map_cons, List.sum_cons]
    rcases lv_cat v with h | h <;> simp [h]
