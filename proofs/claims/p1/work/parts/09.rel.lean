/-! ===== the abstract heap and the real one ===== -/
def am_rv (base : Nat) (ext : Nat → Nat) : Value → Value
  | .ref k => .ref (base + k)
  | .float j => .ref (ext j.toNat)
  | v => v
theorem am_rv_cat (base : Nat) (ext : Nat → Nat) (v : Value) : (am_rv base ext v).category = v.category := by cases v <;> rfl
abbrev am_rs (base : Nat) (ext : Nat → Nat) (st : List Value) : List Value := st.map (am_rv base ext)
abbrev am_rl (base : Nat) (ext : Nat → Nat) (lv : am_LV) : am_LV := lv.map (fun q => (q.1, am_rv base ext q.2))
theorem am_rs_cats (base : Nat) (ext : Nat → Nat) (st : List Value) : ((am_rs base ext st).map fun v => v.category).sum = (st.map fun v => v.category).sum := by
  induction st with
  | nil => rfl
  | cons v r ih => simp only [am_rs, List.map_cons, List.sum_cons, am_rv_cat] at ih ⊢; rw [ih]
theorem am_rl_filter (base : Nat) (ext : Nat → Nat) (f : Nat → Nat → Bool) (lv : am_LV) : (am_rl base ext lv).filter (fun q => f q.1 q.2.category) = am_rl base ext (lv.filter (fun q => f q.1 q.2.category)) := by
  induction lv with
  | nil => rfl
  | cons q r ih =>
    simp only [am_rl, List.map_cons, List.filter_cons, am_rv_cat] at ih ⊢
    split
    · simp only [List.map_cons, ih]
    · exact ih
theorem am_rl_put1 (base : Nat) (ext : Nat → Nat) (lv : am_LV) (i : Nat) (v : Value) : (i, am_rv base ext v) :: (am_rl base ext lv).filter (fun q => !(q.1 == i) && !(q.1 + 1 == i && q.2.category == 2)) = am_rl base ext (am_put1 lv i v) := by
  rw [am_rl_filter base ext (fun a c => !(a == i) && !(a + 1 == i && c == 2)) lv]
  rfl
theorem am_rl_put2 (base : Nat) (ext : Nat → Nat) (lv : am_LV) (i : Nat) (v : Value) : (i, am_rv base ext v) :: (am_rl base ext lv).filter (fun q => !(q.1 == i) && (!(q.1 == i + 1) && !(q.1 + 1 == i && q.2.category == 2))) = am_rl base ext (am_put2 lv i v) := by
  rw [am_rl_filter base ext (fun a c => !(a == i) && (!(a == i + 1) && !(a + 1 == i && c == 2))) lv]
  rfl
theorem am_lookup_mem {lv : am_LV} {k : Nat} {v : Value} (h : lv.lookup k = some v) : (k, v) ∈ lv := by
  induction lv with
  | nil => cases h
  | cons q r ih =>
    obtain ⟨a, b⟩ := q
    rw [List.lookup_cons] at h
    split at h
    · rename_i hb
      cases h
      rw [beq_iff_eq] at hb
      subst hb
      exact List.mem_cons_self
    · exact List.mem_cons_of_mem _ (ih h)
theorem am_lv_get {base : Nat} {ext : Nat → Nat} {lv : am_LV} {ls : Array Slot} {nL k : Nat} {v : Value} (hl : lv_has ls nL (am_rl base ext lv)) (h : lv.lookup k = some v) : ls[k]? = some (.val (am_rv base ext v)) :=
  hl.2.2 (k, am_rv base ext v) (List.mem_map.mpr ⟨(k, v), am_lookup_mem h, rfl⟩)
def am_ra (base : Nat) (a : vp_A) : vp_A := match a with
  | (n, .inr (.inr (.inr (.inr f)))) => (n, .inr (.inr (.inr (.inr (fun j => (f j).map (fun k => base + k))))))
  | a => a
theorem am_cell_vm (cA : ClassId) (a : vp_A) : (vp_cell cA a).vm = .none := by
  obtain ⟨n, f⟩ := a
  rcases f with f | f | f | f | f <;> rfl
theorem am_cell_cls (cA : ClassId) (a : vp_A) : (vp_cell cA a).cls = cA := by
  obtain ⟨n, f⟩ := a
  rcases f with f | f | f | f | f <;> rfl
/-- the kinds of arrays -/
def am_aty : List FieldType := [.int, .long, .boolean, .char, .object RX3, .object RX1, .array .long]
abbrev am_tys (ca : Nat → ClassId) : List (ClassId × FieldType) := [(ca 0, .int), (ca 1, .long), (ca 2, .boolean), (ca 3, .char), (ca 4, .object RX3), (ca 5, .object RX1), (ca 6, .array .long)]
def am_is (base : Nat) (ext : Nat → Nat) (D : va_G) (ca : Nat → ClassId) (k : Nat) (e : am_E) (H : Heap) : Prop := match e with
  | .inl (t, a) => H[base + k]? = some (vp_cell (ca t) (am_ra base a))
  | .inr (c, fs) => ∀ r : vw_C, vwCl[c]? = some r → t_OB (base + k) (D.1 c) r.2.2 (D.2 c) H (vp_V (am_rs base ext fs))
def am_Wd (base : Nat) (ext : Nat → Nat) (D : va_G) (ca : Nat → ClassId) (h : am_H) (H : Heap) : Prop := H.size = base + h.length ∧ ∀ (k : Nat) (e : am_E), h[k]? = some e → am_is base ext D ca k e H
theorem am_is.kept {base : Nat} {ext : Nat → Nat} {D : va_G} {ca : Nat → ClassId} {k : Nat} {e : am_E} {H H1 : Heap} (h : am_is base ext D ca k e H) (hq : H1[base + k]? = H[base + k]?) : am_is base ext D ca k e H1 := by
  cases e with
  | inl a => exact hq.trans h
  | inr o => exact fun r hr => (h r hr).kept hq
theorem am_Wd.set {base : Nat} {ext : Nat → Nat} {D : va_G} {ca : Nat → ClassId} {h : am_H} {H H1 : Heap} {a : Nat} {e0 e : am_E} (hw : am_Wd base ext D ca h H) (ha : h[a]? = some e0) (he : am_is base ext D ca a e H1) (hz : H1.size = H.size) (oq : ∀ q, q ≠ base + a → H1[q]? = H[q]?) : am_Wd base ext D ca (h.set a e) H1 := by
  refine ⟨by rw [hz, hw.1, List.length_set], fun k x hk => ?_⟩
  by_cases hka : k = a
  · subst hka
    have hlt : k < h.length := (List.getElem?_eq_some_iff.mp ha).1
    rw [List.getElem?_set_self hlt] at hk
    cases hk
    exact he
  · rw [List.getElem?_set_ne (Ne.symm hka)] at hk
    exact (hw.2 k x hk).kept (oq _ (by omega))
theorem am_Wd.push {base : Nat} {ext : Nat → Nat} {D : va_G} {ca : Nat → ClassId} {h : am_H} {H H1 : Heap} {e : am_E} (hw : am_Wd base ext D ca h H) (he : am_is base ext D ca h.length e H1) (hz : H1.size = H.size + 1) (oq : ∀ q, q < H.size → H1[q]? = H[q]?) : am_Wd base ext D ca (h ++ [e]) H1 := by
  refine ⟨by rw [hz, hw.1, List.length_append, List.length_singleton]; omega, fun k x hk => ?_⟩
  by_cases hl : k < h.length
  · rw [List.getElem?_append_left hl] at hk
    exact (hw.2 k x hk).kept (oq _ (by rw [hw.1]; omega))
  · rw [List.getElem?_append_right (by omega)] at hk
    have h0 : k - h.length < 1 := (List.getElem?_eq_some_iff.mp hk).1
    have hke : k = h.length := by omega
    subst hke
    rw [Nat.sub_self] at hk
    cases hk
    exact he
def am_sz1 : am_E → Nat
  | .inl (_, n, _) => n
  | .inr (c, _) => if c == 999 then 6 else am_N c
def am_sz (h : am_H) : Nat := (h.map am_sz1).sum
theorem am_sz_push (h : am_H) (e : am_E) : am_sz (h ++ [e]) = am_sz h + am_sz1 e := by simp [am_sz]
theorem am_sz_set {h : am_H} {a : Nat} {e0 e : am_E} (ha : h[a]? = some e0) (he : am_sz1 e = am_sz1 e0) : am_sz (h.set a e) = am_sz h := by
  induction h generalizing a with
  | nil => rfl
  | cons x r ih =>
    cases a with
    | zero =>
      simp only [List.getElem?_cons_zero, Option.some.injEq] at ha
      subst ha
      simp [am_sz, he]
    | succ k =>
      simp only [List.getElem?_cons_succ] at ha
      have := ih ha
      simp only [am_sz, List.set_cons_succ, List.map_cons, List.sum_cons] at this ⊢
      rw [this]
/-- a text that was there before, as the library's contracts ask for it: its cell, the records of its fields, its bytes -/
def am_Tk (t : Nat) (bs : List Int32) (C : Cell) (fV fC : Field) (d : Nat) (SA : Cell) (z : Int32) (w : Value) (V : State) : Prop :=
  Jvm.Free.SBG.Sl (t, C, fV, fC, d, SA, bs.length) C.cls V ∧ (∃ kS : Class, V.vm.classes[C.cls]? = some kS ∧ (kS.kind = .ordinary → C.slots.size = kS.instanceTypes.size)) ∧
  Jvm.Lib.Cold.StaticIs V "java/lang/String" "COMPACT_STRINGS" "Z" (.int z) ∧ z ≠ 0 ∧ Jvm.Free.Fmt.Sio w V ∧ ∀ i : Nat, i < bs.length → SA.slots[i]? = some (.int (bs.getD i 0))
/-- the texts of Texts: pool number, number of the thing, text -/
def am_txs : List (Nat × Nat × String) := [(87, 3, "xyznse"), (108, 4, "~#!+-*/%<=&|@?"), (129, 5, "xyzn~#+-*/%<=dwo")]
def am_TX (base : Nat) (ext : Nat → Nat) (s : State) (H0 : Heap) : Prop :=
  (∀ q ∈ am_txs, vk_R RX9 q.1 q.2.2 (ext q.2.1) s) ∧
  ∀ q ∈ am_txs, ext q.2.1 < base ∧ ∃ (C : Cell) (fV fC : Field) (d : Nat) (SA : Cell) (z : Int32) (w : Value), ∀ V : State, s.vm.Alike V.vm → (∀ a : Nat, a < base → V.heap[a]? = H0[a]?) → am_Tk (ext q.2.1) (am_txt q.2.1) C fV fC d SA z w V
/-- what holds of the machine all through, under any heap that keeps what was there before -/
def am_Ev (l : Launch) (s : State) (ca : Nat → ClassId) (base : Nat) (ext : Nat → Nat) (H0 : Heap) : Prop :=
  l.stackTraces = false ∧ (∀ j, am_xst j = true → va_Z RX11 (am_sn j) "[I" (.ref (ext j)) (fun q => base ≤ q) s H0) ∧
  vx_Zq Bundle.tN "UNASSIGNED_STACK" Bundle.steD (fun q => base ≤ q) s H0 ∧ vx_Zq Bundle.tN "SUPPRESSED_SENTINEL" Bundle.listD (fun q => base ≤ q) s H0 ∧
  (∀ q ∈ am_strs, vk_R RX11 q.1 q.2.2 (ext q.2.1) s) ∧ (∀ x y, x < 3 → y < 3 → x ≠ y → va_Nc (am_xn x) (am_xn y) s) ∧ am_TX base ext s H0
/-- a row of ints that was there before -/
def am_Xv (b L : Nat) (xs : Nat → Int32) (U : State) (H : Heap) : Prop := ∃ scr : Cell, H[b]? = some scr ∧ U.isArrayOf scr .int ∧ scr.vm ≠ .unknown ∧ (L ≤ scr.slots.size ∧ scr.slots.size.toInt32 = Int32.ofNat L) ∧ ∀ j : Nat, j < L → scr.slots[j]? = some (.int (xs j))
theorem am_Xv.moved {b L : Nat} {xs : Nat → Int32} {u U : State} {H : Heap} (hvm : u.vm.Alike U.vm) (h : am_Xv b L xs u H) : am_Xv b L xs U H := by
  obtain ⟨scr, h1, h2, h3⟩ := h
  exact ⟨scr, h1, State.isArrayOf_alike hvm h2, h3⟩
/-- what holds all through a method's run -/
def am_Cx (p : Program) (s : State) (mm : MethodId) (args : Array Value) (meth : Method) (c : Code) (m : am_M) (D : va_G) (ca : Nat → ClassId) (base : Nat) (ext : Nat → Nat) (X : am_X) (H0 : Heap) : Prop :=
  p.tables.exec = Jvm.exec ∧ c.code = am_by m ∧ c.maxLocals = am_mx m ∧ s.vm.findClass (am_on.getD (am_ow m) "") = some mm.cls ∧ (∀ w ∈ am_tb, w.before args s = true) ∧ va_K D vwCl (am_tys ca) s ∧ (am_kd m = 2 → meth.name = "<init>") ∧ meth.locks = false ∧ meth.sig.returnType = am_rt m ∧
  base ≤ s.heap.size ∧ (∀ q, q < base → s.heap[q]? = H0[q]?) ∧ (∀ j, am_xint j = true → am_Xv (ext j) (X j).1 (X j).2 s H0 ∧ ext j < base) ∧ base ≤ H0.size
theorem am_Ev.moved {l : Launch} {s U : State} {ca : Nat → ClassId} {base : Nat} {ext : Nat → Nat} {H0 : Heap} (hW : s.WarmedH U.vm) (h : am_Ev l s ca base ext H0) : am_Ev l U ca base ext H0 := by
  obtain ⟨h1, h2, h3, h4, h5, h6, h7, h8⟩ := h
  refine ⟨h1, fun j hj => (h2 j hj).moved hW.alike, h3.moved hW.alike, h4.moved hW.alike, fun q hq => (h5 q hq).warm hW, fun x y hx hy hxy => (h6 x y hx hy hxy).moved hW.alike, fun q hq => (h7 q hq).warm hW, fun q hq => ⟨(h8 q hq).1, ?_⟩⟩
  obtain ⟨C, fV, fC, d, SA, z, w, hV⟩ := (h8 q hq).2
  exact ⟨C, fV, fC, d, SA, z, w, fun V hal hh => hV V (hW.alike.trans hal) hh⟩
