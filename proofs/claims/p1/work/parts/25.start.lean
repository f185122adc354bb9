/-! ===== the law's entry, and the things that were there before ===== -/
/-- the rows of ints that were there before: static ones, and the script -/
def am_X0 (L : Nat) (xs : Nat → Int32) : am_X := fun j => if j = 16 then (5, fun k => ([10, 0, 1, 0, 0] : List Int32).getD k 0) else if j = 17 then (5, fun k => ([2000, 4, 5, 100, 2] : List Int32).getD k 0) else if j = 30 then (6, fun k => ([0, 0, 14, 42, 1078, 7070] : List Int32).getD k 0) else (L, xs)
def am_nf : List Cond := flatC (Jvm.Cond.and given_1 narrow_1)
def am_nix (i : Nat) (w : Cond) : Bool := decide (am_nf[i]? = some w)
theorem am_nix_mem {i : Nat} {w : Cond} (h : am_nix i w = true) : w ∈ am_nf := List.mem_of_getElem? (of_decide_eq_true h)
/-- a static row of ints, by the places of its words -/
def am_stb (n : String) (vs : List Int32) (i0 ls : Nat) (ini : Nat) : Bool := am_nix i0 (.arrayOf (.static RX11 n "[I") .int) && (am_nix (i0 + 1) (.eq (.length (.static RX11 n "[I")) (.int (Int32.ofNat vs.length))) && ((List.range vs.length).all (fun j => am_nix (i0 + 2 + j) (.eq (.elem (.static RX11 n "[I") (.int (Int32.ofNat j))) (.int (vs.getD j 0)))) && (am_tiy ls (.laysStatic RX11 n "[I") && am_tix ini (.initialized RX11))))
theorem am_stb_ok {args : Array Value} {s : State} {n : String} {vs : List Int32} {i0 ls ini : Nat} (hL : vs.length < 2 ^ 31) (hn : ∀ w ∈ am_nf, w.before args s = true) (hta : ∀ w ∈ lw_tbl, w.before args s = true) (hts : ∀ w ∈ am_tb, w.before args s = true) (h : am_stb n vs i0 ls ini = true) :
    ∃ t, va_Z RX11 n "[I" (.ref t) (fun q => s.heap.size ≤ q) s s.heap ∧ am_Xv t vs.length (fun j => vs.getD j 0) s s.heap ∧ t < s.heap.size := by
  unfold am_stb at h
  rw [Bool.and_eq_true, Bool.and_eq_true, Bool.and_eq_true, Bool.and_eq_true, List.all_eq_true] at h
  obtain ⟨h1, h2, h3, h4, h5⟩ := h
  have hA : ∀ a : Nat, a < s.heap.size → ¬ s.heap.size ≤ a := fun a ha => Nat.not_le.mpr ha
  obtain ⟨t, ht, cell, q1, q2, q3, q4, q5, q6, q7⟩ := va_Tof (f := fun j => .int (vs.getD j 0)) (A := fun q => s.heap.size ≤ q) hL (hn _ (am_nix_mem h1)) (va_eqt (hn _ (am_nix_mem h2))) (fun j hj => va_eqt (hn _ (am_nix_mem (h3 j (List.mem_range.mpr hj))))) hA
  exact ⟨t, va_Zof (hta _ (am_tiy_mem h4)) (hts _ (am_tix_mem h5)) ht hA, ⟨cell, q1, q2, q3, ⟨q4, q5⟩, q6⟩, (Array.getElem?_eq_some_iff.mp q1).1⟩
set_option maxRecDepth 100000 in
theorem am_st_16 : am_stb "SET_LEAST" ([10, 0, 1, 0, 0] : List Int32) 12 1339 1 = true := by decide +kernel
set_option maxRecDepth 100000 in
theorem am_st_17 : am_stb "SET_MOST" ([2000, 4, 5, 100, 2] : List Int32) 20 1341 1 = true := by decide +kernel
set_option maxRecDepth 100000 in
theorem am_st_30 : am_stb "SEARCH_FROM" ([0, 0, 14, 42, 1078, 7070] : List Int32) 28 1827 1 = true := by decide +kernel
set_option maxRecDepth 100000 in
theorem am_strs_k : (am_strs.zip [(81, 673), (185, 1029), (201, 1044), (217, 1064), (233, 1073), (249, 1103), (281, 1134), (299, 1135), (353, 1342), (387, 1485), (372, 1358), (403, 1533), (434, 1546), (474, 1616), (507, 1617), (521, 1715), (544, 1786), (557, 1794), (575, 1835), (586, 1993), (609, 2001), (625, 2009), (168, 938), (639, 2033), (416, 1545), (456, 1608), (321, 1153), (337, 1280), (97, 713)]).all (fun q => am_nix q.2.1 (.exactly (.string RX11 q.1.1) "java/lang/String") && am_tiy q.2.2 (.stringRef RX11 q.1.1 q.1.2.2)) = true := by decide +kernel
theorem am_strs_1 : ∀ q ∈ am_strs, ∀ r ∈ am_strs, q.2.1 = r.2.1 → q = r := by decide
theorem am_strs_0 : ∀ q ∈ am_strs, am_xint q.2.1 = false ∧ am_xtx q.2.1 = false := by decide
/-- a text of Texts, by the places of its words -/
def am_txb (k : Nat) (tx : String) (bs : List Int32) (i0 ir : Nat) : Bool := am_nix i0 (.exactly (.string RX9 k) "java/lang/String") && (am_nix (i0 + 1) (.eq (.field (.string RX9 k) "java/lang/String" "coder" "B") (.int 0)) && (am_nix (i0 + 2) (.arrayOf (.field (.string RX9 k) "java/lang/String" "value" "[B") .byte) && (am_nix (i0 + 3) (.eq (.length (.field (.string RX9 k) "java/lang/String" "value" "[B")) (.int (Int32.ofNat bs.length))) && ((List.range bs.length).all (fun j => am_nix (i0 + 4 + j) (.eq (.elem (.field (.string RX9 k) "java/lang/String" "value" "[B") (.int (Int32.ofNat j))) (.int (bs.getD j 0)))) && am_tiy ir (.stringRef RX9 k tx)))))
set_option maxRecDepth 100000 in
theorem am_tx_3 : am_txb 87 "xyznse" (am_txt 3) 120 736 = true := by decide +kernel
set_option maxRecDepth 100000 in
theorem am_tx_4 : am_txb 108 "~#!+-*/%<=&|@?" (am_txt 4) 130 831 = true := by decide +kernel
set_option maxRecDepth 100000 in
theorem am_tx_5 : am_txb 129 "xyzn~#+-*/%<=dwo" (am_txt 5) 148 870 = true := by decide +kernel
set_option maxRecDepth 100000 in
theorem am_txz : am_nix 6 (.eq (.static "java/lang/String" "COMPACT_STRINGS" "Z") (.int 1)) = true ∧ am_nix 7 (.isRef (.static "jdk/internal/util/Preconditions" "SIOOBE_FORMATTER" "Ljava/util/function/BiFunction;")) = true := by decide +kernel
theorem am_ff {args : Array Value} {s : State} {t : Term} {a : Nat} {o n d : String} {v : Value} {C : Cell} (ht : t.eval args s none [] s = some (.ref a)) (hv : (Term.field t o n d).eval args s none [] s = some v) (hC : s.heap[a]? = some C) : ∃ f : Field, (∃ c k i, s.fieldFound? o n d = some (c, k, i, f) ∧ s.vm.assignable C.cls c = true) ∧ f.isStatic = false ∧ C.vm ≠ .unknown ∧ C.slots[f.slot]? = some v := by
  cases hfo : s.fieldFound? o n d with
  | none =>
    rw [va_fe ht] at hv
    simp [State.fieldOf?, State.fieldNamed?, hfo] at hv
  | some x9 =>
    obtain ⟨cf, k, fi, f⟩ := x9
    obtain ⟨g1, cell, g2, g3, g4, g5, g6⟩ := Term.field_spec hfo ht hv
    cases Option.some.inj (hC.symm.trans g2)
    exact ⟨f, ⟨cf, k, fi, (by first | rfl | exact hfo), g5⟩, g1, g3, g6⟩
theorem am_zs {C n d : String} {v : Value} {A : Nat → Prop} {s : State} (h : va_Z C n d v A s s.heap) : Jvm.Lib.Cold.StaticIs s C n d v := by
  obtain ⟨cf, kf, fi, f, a, cell, h1, h2, h3, h4, h5, h6, h7, -⟩ := h
  exact ⟨cf, fi, kf, f, a, cell, h1, h2, h3, h4, h5, fun h9 => (by rw [h9] at h6; cases h6), h7⟩
theorem am_txb_ok {args : Array Value} {s : State} {k : Nat} {tx : String} {bs : List Int32} {i0 ir : Nat} (hL : bs.length < 2 ^ 31) (hfit : ∀ i : Nat, i < bs.length → fits .byte (.int (bs.getD i 0)) = true) (hn : ∀ w ∈ am_nf, w.before args s = true) (hta : ∀ w ∈ lw_tbl, w.before args s = true) (hts : ∀ w ∈ am_tb, w.before args s = true) (h : am_txb k tx bs i0 ir = true) :
    ∃ t : Nat, vk_R RX9 k tx t s ∧ t < s.heap.size ∧ ∃ (C : Cell) (fV fC : Field) (d : Nat) (SA : Cell) (z : Int32) (w : Value), ∀ V : State, s.vm.Alike V.vm → (∀ a : Nat, a < s.heap.size → V.heap[a]? = s.heap[a]?) → am_Tk t bs C fV fC d SA z w V := by
  unfold am_txb at h
  rw [Bool.and_eq_true, Bool.and_eq_true, Bool.and_eq_true, Bool.and_eq_true, Bool.and_eq_true, List.all_eq_true] at h
  obtain ⟨h1, h2, h3, h4, h5, h6⟩ := h
  have hA : ∀ a : Nat, a < s.heap.size → ¬ s.heap.size ≤ a := fun a ha => Nat.not_le.mpr ha
  obtain ⟨t, cS, C, kS, q1, q2, q3, q4, q5, q6, q7⟩ := Cond.exactly_spec (args := args) (first := s) (o := none) (s := s) (idx := []) (hn _ (am_nix_mem h1))
  subst q6
  obtain ⟨d, e1, SA, g1, g2, g3, g4, g5, g6, -⟩ := va_Tof (f := fun j => .int (bs.getD j 0)) (A := fun q => s.heap.size ≤ q) hL (hn _ (am_nix_mem h3)) (va_eqt (hn _ (am_nix_mem h4))) (fun j hj => va_eqt (hn _ (am_nix_mem (h5 j (List.mem_range.mpr hj))))) hA
  obtain ⟨d2, SA2, f1, f2, f3, -⟩ := Jvm.Lib.length_spec (va_eqt (hn _ (am_nix_mem h4)))
  have ed : d2 = d := by
    have h9 := f1.symm.trans e1
    cases h9
    rfl
  subst ed
  have eA : SA2 = SA := Option.some.inj ((State.arrayAt?_spec f2).1.symm.trans g1)
  subst eA
  have hsz : SA2.slots.size = bs.length := by
    have h9 := congrArg Int32.toInt g5
    rw [show SA2.slots.size.toInt32 = Int32.ofNat SA2.slots.size from rfl, Int32.toInt_ofNat_small f3, Int32.toInt_ofNat_small hL] at h9
    omega
  obtain ⟨fV, hfV, stV, knV, slV⟩ := am_ff q1 e1 q3
  obtain ⟨fC, hfC, stC, knC, slC⟩ := am_ff q1 (va_eqt (hn _ (am_nix_mem h2))) q3
  have hne : t ≠ d2 := fun e9 => by
    rw [← e9] at g1
    have e2 : SA2 = C := Option.some.inj (g1.symm.trans q3)
    have lt9 : fV.slot < C.slots.size := (Array.getElem?_eq_some_iff.mp slV).1
    have h9 := g6 fV.slot (by rw [← hsz, e2]; exact lt9)
    rw [e2, slV] at h9
    cases h9
  have hft : ∀ i, i < SA2.slots.size → fits .byte (SA2.slots.getD i .null) = true := fun i hi => by
    rw [hsz] at hi
    rw [Array.getD_eq_getD_getElem?, g6 i hi]
    exact hfit i hi
  have hSl : Jvm.Free.SBG.Sl (t, C, fV, fC, d2, SA2, bs.length) C.cls s := ⟨⟨q3, knV, q5, hfV, hfC, stV, stC, slV, slC, g1, g2, g3, hsz, hL, hne, hft⟩, q2, rfl⟩
  have hst := am_zs (va_Zof (hta _ tw_y_z) (hts _ tw_n_S) (va_eqt (hn _ (am_nix_mem am_txz.1))) hA)
  obtain ⟨w, hsio⟩ : ∃ w : Value, Jvm.Free.Fmt.Sio w s := by
    rcases va_Zqof (hta _ tw_y_f) (hts _ tw_n_P) (hn _ (am_nix_mem am_txz.2)) hA with h9 | ⟨t9, h9⟩
    · exact ⟨.null, Or.inl rfl, am_zs h9⟩
    · exact ⟨.ref t9, Or.inr ⟨t9, rfl⟩, am_zs h9⟩
  refine ⟨t, vk_R.of (hta _ (am_tiy_mem h6)) q1, (Array.getElem?_eq_some_iff.mp q3).1, C, fV, fC, d2, SA2, 1, w, fun V hal hh => ?_⟩
  have keep : ∀ (y : Addr) (cy : Cell), s.heap[y]? = some cy → V.heap[y]? = some cy := fun y cy hy => (hh y (Array.getElem?_eq_some_iff.mp hy).1).trans hy
  obtain ⟨kS', hk', ek⟩ := hal.2.2 _ _ q4
  exact ⟨Jvm.Free.SBG.Sl.carry hal (keep _ _ q3) (keep _ _ g1) hSl, ⟨kS', hk', by rw [ek]; exact q7⟩, Jvm.Free.Fmt.StaticIs.keep hst hal keep, by decide, Jvm.Free.Fmt.Sio.keep hal keep hsio, fun i hi => g6 i hi⟩
theorem am_strs_ex {args : Array Value} {s : State} (hn : ∀ w ∈ am_nf, w.before args s = true) (hta : ∀ w ∈ lw_tbl, w.before args s = true) : ∀ j : Nat, ∃ a : Nat, ∀ q ∈ am_strs, q.2.1 = j → vk_R RX11 q.1 q.2.2 a s := by
  intro j
  by_cases h : ∃ q ∈ am_strs, q.2.1 = j
  · obtain ⟨q, hq, hj⟩ := h
    obtain ⟨b, hb⟩ := am_zip (α := Nat × Nat × String) (β := Nat × Nat) (f := fun q i => am_nix i.1 (.exactly (.string RX11 q.1) "java/lang/String") && am_tiy i.2 (.stringRef RX11 q.1 q.2.2)) (by decide) am_strs_k q hq
    rw [Bool.and_eq_true] at hb
    obtain ⟨a, c9, cell9, k9, h1, -⟩ := Cond.exactly_spec (hn _ (am_nix_mem hb.1))
    refine ⟨a, fun r hr hrj => ?_⟩
    cases am_strs_1 q hq r hr (hj.trans hrj.symm)
    exact vk_R.of (hta _ (am_tiy_mem hb.2)) h1
  · exact ⟨0, fun q hq hj => absurd ⟨q, hq, hj⟩ h⟩
set_option maxRecDepth 100000 in
theorem am_ncs_k : [(0, 1, 64), (0, 2, 79), (1, 0, 49), (1, 2, 80), (2, 0, 50), (2, 1, 65)].all (fun q => am_nix q.2.2 (.not (.castable (am_xn q.1) (am_xn q.2.1)))) = true := by decide +kernel
theorem am_ncs {args : Array Value} {s : State} (hn : ∀ w ∈ am_nf, w.before args s = true) : ∀ x y, x < 3 → y < 3 → x ≠ y → va_Nc (am_xn x) (am_xn y) s := by
  intro x y hx hy hxy
  have key : ∃ i, (x, y, i) ∈ [(0, 1, 64), (0, 2, 79), (1, 0, 49), (1, 2, 80), (2, 0, 50), (2, 1, 65)] := by
    match x, y, hx, hy, hxy with
    | 0, 1, _, _, _ => exact ⟨64, by decide⟩
    | 0, 2, _, _, _ => exact ⟨79, by decide⟩
    | 1, 0, _, _, _ => exact ⟨49, by decide⟩
    | 1, 2, _, _, _ => exact ⟨80, by decide⟩
    | 2, 0, _, _, _ => exact ⟨50, by decide⟩
    | 2, 1, _, _, _ => exact ⟨65, by decide⟩
    | 0, 0, _, _, h => exact absurd rfl h
    | 1, 1, _, _, h => exact absurd rfl h
    | 2, 2, _, _, h => exact absurd rfl h
  obtain ⟨i, hi⟩ := key
  exact va_Nc.of (hn _ (am_nix_mem (List.all_eq_true.mp am_ncs_k _ hi)))
set_option maxRecDepth 100000 in
theorem am_thw : am_nix 4 (.isRef (.static Bundle.tN "UNASSIGNED_STACK" Bundle.steD)) = true ∧ am_tiy 659 (.laysStatic Bundle.tN "UNASSIGNED_STACK" Bundle.steD) = true ∧ am_tix 14 (.initialized Bundle.tN) = true ∧ am_nix 5 (.isRef (.static Bundle.tN "SUPPRESSED_SENTINEL" Bundle.listD)) = true ∧ am_tiy 661 (.laysStatic Bundle.tN "SUPPRESSED_SENTINEL" Bundle.listD) = true := by decide +kernel
theorem am_vw_none : ∀ ci, ¬ ci < 13 → vwCl[ci]? = none := fun ci h => List.getElem?_eq_none (show vwCl.length ≤ ci from Nat.not_lt.mp h)
theorem am_D_ex {args : Array Value} {s : State} (hts : ∀ w ∈ am_tb, w.before args s = true) : ∃ D : va_G, ∀ (ci : Nat) (q : vw_C), vwCl[ci]? = some q → u_Kn s q.1 q.2.1 q.2.2 (D.1 ci) (D.2 ci) := by
  have h : ∀ ci : Nat, ∃ z : ClassId × (Nat → Nat), ∀ q : vw_C, vwCl[ci]? = some q → u_Kn s q.1 q.2.1 q.2.2 z.1 z.2 := by
    intro ci
    by_cases hc : ci < 13
    · have hcl := am_clT ci hc
      obtain ⟨cC, iS, h9⟩ := u_known hts (am_uws ci _ hcl) (hts _ (am_ini ci hc).2)
      refine ⟨(cC, iS), fun q hq => ?_⟩
      cases Option.some.inj (hcl.symm.trans hq)
      exact h9
    · exact ⟨(0, fun _ => 0), fun q hq => by rw [am_vw_none ci hc] at hq; cases hq⟩
  obtain ⟨f, hf⟩ := Classical.axiomOfChoice h
  exact ⟨(fun c => (f c).1, fun c => (f c).2), fun ci q hq => hf ci q hq⟩
theorem am_arr_p {args : Array Value} {s : State} {ty : FieldType} (h : (Cond.arrayClass ty).before args s = true) : ∃ cA, ArrOfT s cA ty ∧ s.vm.findClass ("[" ++ ty.toString) = some cA := by
  obtain ⟨cA, kA, comp, h1, h2, h3⟩ := Cond.arrayClass_spec h
  exact ⟨cA, fun n z => ⟨fun k h => (by cases h), kA, h2, comp, h3⟩, h1⟩
theorem am_arr_o {args : Array Value} {s : State} {C : String} (h : (Cond.arrayOver (.object C)).before args s = true) : ∃ cA, ArrOfT s cA (.object C) ∧ va_RA s cA (.object C) := by
  obtain ⟨comp, cA, kA, h1, -, h2, h3, h4⟩ := Cond.arrayOver_spec h
  exact ⟨cA, fun n z => ⟨fun k h => (by cases h), kA, h2, comp, h3⟩, kA, comp, h2, h3, h1, h4⟩
theorem am_arr_a {args : Array Value} {s : State} {t : FieldType} (h : (Cond.arrayOver (.array t)).before args s = true) : ∃ cA, ArrOfT s cA (.array t) ∧ va_RA s cA (.array t) := by
  obtain ⟨comp, cA, kA, h1, -, h2, h3, h4⟩ := arrayOverA_spec h
  exact ⟨cA, fun n z => ⟨fun k h => (by cases h), kA, h2, comp, h3⟩, h4⟩
theorem am_ca_ex {args : Array Value} {s : State} (hts : ∀ w ∈ am_tb, w.before args s = true) : ∃ ca : Nat → ClassId, ∀ (k : Nat) (q : ClassId × FieldType), (am_tys ca)[k]? = some q → ArrOfT s q.1 q.2 ∧ va_RA s q.1 q.2 := by
  obtain ⟨c0, a0, b0⟩ := am_arr_p (hts _ (am_tix_mem am_acl.1))
  obtain ⟨c1, a1, b1⟩ := am_arr_p (hts _ (am_tix_mem am_acl.2.1))
  obtain ⟨c2, a2, b2⟩ := am_arr_p (hts _ (am_tix_mem am_acl.2.2.1))
  obtain ⟨c3, a3, b3⟩ := am_arr_p (hts _ (am_tix_mem am_acl.2.2.2))
  obtain ⟨c4, a4, b4⟩ := am_arr_o (hts _ (am_tix_mem am_aov.1))
  obtain ⟨c5, a5, b5⟩ := am_arr_o (hts _ (am_tix_mem am_aov.2.1))
  obtain ⟨c6, a6, b6⟩ := am_arr_a (hts _ (am_tix_mem am_aov.2.2))
  refine ⟨fun k => [c0, c1, c2, c3, c4, c5, c6].getD k 0, fun k q hk => ?_⟩
  match k, hk with
  | 0, hk => cases hk; exact ⟨a0, b0⟩
  | 1, hk => cases hk; exact ⟨a1, b1⟩
  | 2, hk => cases hk; exact ⟨a2, b2⟩
  | 3, hk => cases hk; exact ⟨a3, b3⟩
  | 4, hk => cases hk; exact ⟨a4, b4⟩
  | 5, hk => cases hk; exact ⟨a5, b5⟩
  | 6, hk => cases hk; exact ⟨a6, b6⟩
  | n + 7, hk => cases hk
theorem am_xst_c {j : Nat} (h : am_xst j = true) : j = 16 ∨ j = 17 ∨ j = 30 := by
  unfold am_xst at h
  simp only [Bool.or_eq_true, beq_iff_eq] at h
  omega
theorem am_xint_c {j : Nat} (h : am_xint j = true) : j = 0 ∨ j = 16 ∨ j = 17 ∨ j = 30 := by
  unfold am_xint at h
  simp only [Bool.or_eq_true, beq_iff_eq] at h
  omega
/-- what holds at the law's entry, as the abstract machine has it -/
theorem am_start {p : Program} {l : Launch} {s : State} {m : MethodId} {meth : Method} {c : Code} {b L : Nat} {xs : Nat → Int32} (hst : l.stackTraces = false) (hx : p.tables.exec = Jvm.exec) (hb : c.code = code) (hr : meth.sig.returnType = ret) (hml : c.maxLocals = 8) (hown : s.vm.findClass "BreedingHouseLaw" = some m.cls) (hts : ∀ w ∈ lw_tbl, w.before #[Value.ref b] s = true) (hX : va_X b L xs s s.heap) (hbl : b < s.heap.size) (hlk : meth.locks = false) (hgv : (Jvm.Cond.and given_1 narrow_1).before #[Value.ref b] s = true) :
    ∃ (D : va_G) (ca : Nat → ClassId) (ext : Nat → Nat), ext 0 = b ∧ am_Cx p s m #[Value.ref b] meth c am_m0 D ca s.heap.size ext (am_X0 L xs) s.heap ∧ am_Ev l s ca s.heap.size ext s.heap := by
  have ht9 : ∀ w ∈ am_tb, w.before #[Value.ref b] s = true := fun w hw => hts w (List.mem_filter.mp hw).1
  have hn : ∀ w ∈ am_nf, w.before #[Value.ref b] s = true := flat_of_before _ hgv
  obtain ⟨D, hD⟩ := am_D_ex ht9
  obtain ⟨ca, hca⟩ := am_ca_ex ht9
  obtain ⟨t16, z16, x16, l16⟩ := am_stb_ok (by decide) hn hts ht9 am_st_16
  obtain ⟨t17, z17, x17, l17⟩ := am_stb_ok (by decide) hn hts ht9 am_st_17
  obtain ⟨t30, z30, x30, l30⟩ := am_stb_ok (by decide) hn hts ht9 am_st_30
  obtain ⟨t3, r3, y3, T3⟩ := am_txb_ok (by decide) (by decide) hn hts ht9 am_tx_3
  obtain ⟨t4, r4, y4, T4⟩ := am_txb_ok (by decide) (by decide) hn hts ht9 am_tx_4
  obtain ⟨t5, r5, y5, T5⟩ := am_txb_ok (by decide) (by decide) hn hts ht9 am_tx_5
  obtain ⟨g, hg⟩ := Classical.axiomOfChoice (am_strs_ex hn hts)
  have hA : ∀ a : Nat, a < s.heap.size → ¬ s.heap.size ≤ a := fun a ha => Nat.not_le.mpr ha
  refine ⟨D, ca, fun j => if j = 0 then b else if j = 16 then t16 else if j = 17 then t17 else if j = 30 then t30 else if j = 3 then t3 else if j = 4 then t4 else if j = 5 then t5 else g j, rfl, ⟨hx, hb, hml, hown, ht9, ⟨hD, hca⟩, fun h => absurd h (by decide), hlk, hr, Nat.le_refl _, fun _ _ => rfl, fun j hj => ?_, Nat.le_refl _⟩, hst, fun j hj => ?_, vx_Zqof (hts _ (am_tiy_mem am_thw.2.1)) (ht9 _ (am_tix_mem am_thw.2.2.1)) (hn _ (am_nix_mem am_thw.1)) hA, vx_Zqof (hts _ (am_tiy_mem am_thw.2.2.2.2)) (ht9 _ (am_tix_mem am_thw.2.2.1)) (hn _ (am_nix_mem am_thw.2.2.2.1)) hA, fun q hq => ?_, am_ncs hn, fun q hq => ?_, fun q hq => ?_⟩
  · rcases am_xint_c hj with rfl | rfl | rfl | rfl
    · obtain ⟨scr, y1, y2, y3, y4, y5⟩ := hX
      exact ⟨⟨scr, y1, y2, y3, ⟨Nat.le_of_eq y4.symm, by rw [y4]; rfl⟩, y5⟩, hbl⟩
    · exact ⟨x16, l16⟩
    · exact ⟨x17, l17⟩
    · exact ⟨x30, l30⟩
  · rcases am_xst_c hj with rfl | rfl | rfl
    · exact z16
    · exact z17
    · exact z30
  · obtain ⟨h0, h1⟩ := am_strs_0 q hq
    have e : (if q.2.1 = 0 then b else if q.2.1 = 16 then t16 else if q.2.1 = 17 then t17 else if q.2.1 = 30 then t30 else if q.2.1 = 3 then t3 else if q.2.1 = 4 then t4 else if q.2.1 = 5 then t5 else g q.2.1) = g q.2.1 := by
      unfold am_xint at h0
      unfold am_xtx at h1
      simp only [Bool.or_eq_false_iff, beq_eq_false_iff_ne] at h0 h1
      simp only [h0, h1, if_false]
    show vk_R RX11 q.1 q.2.2 (if q.2.1 = 0 then b else if q.2.1 = 16 then t16 else if q.2.1 = 17 then t17 else if q.2.1 = 30 then t30 else if q.2.1 = 3 then t3 else if q.2.1 = 4 then t4 else if q.2.1 = 5 then t5 else g q.2.1) s
    rw [e]
    exact hg q.2.1 q hq rfl
  · simp only [am_txs, List.mem_cons, List.not_mem_nil, or_false] at hq
    rcases hq with rfl | rfl | rfl
    · exact r3
    · exact r4
    · exact r5
  · simp only [am_txs, List.mem_cons, List.not_mem_nil, or_false] at hq
    rcases hq with rfl | rfl | rfl
    · exact ⟨y3, T3⟩
    · exact ⟨y4, T4⟩
    · exact ⟨y5, T5⟩
