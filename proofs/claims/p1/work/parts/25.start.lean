/-! ===== the law's entry, and the things that were there before ===== -/
/-- the rows of ints that were there before: static ones, and the script -/
def am_X0 (L : Nat) (xs : Nat → Int32) : am_X := fun j => if j = 16 then (5, fun k => ([10, 0, 1, 0, 0] : List Int32).getD k 0) else if j = 17 then (5, fun k => ([2000, 4, 5, 100, 2] : List Int32).getD k 0) else if j = 30 then (6, fun k => ([0, 0, 14, 42, 1078, 7070] : List Int32).getD k 0) else (L, xs)
def am_nf : List Cond := flatC (Jvm.Cond.and given_1 narrow_1)
def am_nix (i : Nat) (w : Cond) : Bool := decide (am_nf[i]? = some w)
theorem am_nix_mem {i : Nat} {w : Cond} (h : am_nix i w = true) : w ∈ am_nf := List.mem_of_getElem? (of_decide_eq_true h)
/-- a static row of ints, by the places of its words -/
def am_stb (n : String) (vs : List Int32) (i0 ls : Nat) (ini : Nat) : Bool := am_nix i0 (.arrayOf (.static RX11 n "[I") .int) && (am_nix (i0 + 1) (.eq (.length (.static RX11 n "[I")) (.int (Int32.ofNat vs.length))) && ((List.range vs.length).all (fun j => am_nix (i0 + 2 + j) (.eq (.elem (.static RX11 n "[I") (.int (Int32.ofNat j))) (.int (vs.getD j 0)))) && (am_tiy ls (.laysStatic RX11 n "[I") && am_tix ini (.initialized RX11))))
theorem am_stb_ok {args : Array Value} {s : State} {n : String} {vs : List Int32} {i0 ls ini : Nat} (hL : vs.length < 2 ^ 31) (hn : ∀ w ∈ am_nf, w.before args s = true) (hta : ∀ w ∈ lw_tbl, w.before args s = true) (hts : ∀ w ∈ am_tb, w.before args s = true) (h : am_stb n vs i0 ls ini = true) :
    ∃ t, va_Z RX11 n "[I" (.ref t) (fun q => s.heap.size ≤ q) s s.heap ∧ am_Xv t vs.length (fun j => vs.getD j 0) s s.heap ∧ t < s.heap.size := by
  unfold am_stb at h
  rw [Bool.and_eq_true, Bool.and_eq_true, Bool.and_eq_true, Bool.and_eq_true, List.all_eq_true] at h
  obtain ⟨h1, h2, h3, h4, h5⟩ := h
  have hA : ∀ a : Nat, a < s.heap.size → ¬ s.heap.size ≤ a := fun a ha => Nat.not_le.mpr ha
  obtain ⟨t, ht, cell, q1, q2, q3, q4, q5, q6, q7⟩ := va_Tof (f := fun j => .int (vs.getD j 0)) (A := fun q => s.heap.size ≤ q) hL (hn _ (am_nix_mem h1)) (va_eqt (hn _ (am_nix_mem h2))) (fun j hj => va_eqt (hn _ (am_nix_mem (h3 j (List.mem_range.mpr hj))))) hA
  exact ⟨t, va_Zof (hta _ (am_tiy_mem h4)) (hts _ (am_tix_mem h5)) ht hA, ⟨cell, q1, q2, q3, ⟨q4, q5⟩, q6⟩, (Array.getElem?_eq_some_iff.mp q1).1⟩
set_option maxRecDepth 100000 in
theorem am_st_16 : am_stb "SET_LEAST" ([10, 0, 1, 0, 0] : List Int32) 12 1339 1 = true := sorry
set_option maxRecDepth 100000 in
theorem am_st_17 : am_stb "SET_MOST" ([2000, 4, 5, 100, 2] : List Int32) 20 1341 1 = true := sorry
set_option maxRecDepth 100000 in
theorem am_st_30 : am_stb "SEARCH_FROM" ([0, 0, 14, 42, 1078, 7070] : List Int32) 28 1827 1 = true := sorry
set_option maxRecDepth 100000 in
theorem am_strs_k : (am_strs.zip [(81, 673), (185, 1029), (201, 1044), (217, 1064), (233, 1073), (249, 1103), (281, 1134), (299, 1135), (353, 1342), (387, 1485), (372, 1358), (403, 1533), (434, 1546), (474, 1616), (507, 1617), (521, 1715), (544, 1786), (557, 1794), (575, 1835), (586, 1993), (609, 2001), (625, 2009), (168, 938), (639, 2033), (416, 1545), (456, 1608), (321, 1153), (337, 1280), (97, 713)]).all (fun q => am_nix q.2.1 (.exactly (.string RX11 q.1.1) "java/lang/String") && am_tiy q.2.2 (.stringRef RX11 q.1.1 q.1.2.2)) = true := sorry
theorem am_strs_1 : ∀ q ∈ am_strs, ∀ r ∈ am_strs, q.2.1 = r.2.1 → q = r := by decide
theorem am_strs_0 : ∀ q ∈ am_strs, am_xint q.2.1 = false ∧ am_xtx q.2.1 = false := by decide
/-- a text of Texts, by the places of its words -/
def am_txb (k : Nat) (tx : String) (bs : List Int32) (i0 ir : Nat) : Bool := am_nix i0 (.exactly (.string RX9 k) "java/lang/String") && (am_nix (i0 + 1) (.eq (.field (.string RX9 k) "java/lang/String" "coder" "B") (.int 0)) && (am_nix (i0 + 2) (.arrayOf (.field (.string RX9 k) "java/lang/String" "value" "[B") .byte) && (am_nix (i0 + 3) (.eq (.length (.field (.string RX9 k) "java/lang/String" "value" "[B")) (.int (Int32.ofNat bs.length))) && ((List.range bs.length).all (fun j => am_nix (i0 + 4 + j) (.eq (.elem (.field (.string RX9 k) "java/lang/String" "value" "[B") (.int (Int32.ofNat j))) (.int (bs.getD j 0)))) && am_tiy ir (.stringRef RX9 k tx)))))
set_option maxRecDepth 100000 in
theorem am_tx_3 : am_txb 87 "xyznse" (am_txt 3) 120 736 = true := sorry
set_option maxRecDepth 100000 in
theorem am_tx_4 : am_txb 108 "~#!+-*/%<=&|@?" (am_txt 4) 130 831 = true := sorry
set_option maxRecDepth 100000 in
theorem am_tx_5 : am_txb 129 "xyzn~#+-*/%<=dwo" (am_txt 5) 148 870 = true := sorry
set_option maxRecDepth 100000 in
theorem am_txz : am_nix 6 (.eq (.static "java/lang/String" "COMPACT_STRINGS" "Z") (.int 1)) = true ∧ am_nix 7 (.isRef (.static "jdk/internal/util/Preconditions" "SIOOBE_FORMATTER" "Ljava/util/function/BiFunction;")) = true := sorry
theorem am_ff {args : Array Value} {s : State} {t : Term} {a : Nat} {o n d : String} {v : Value} {C : Cell} (ht : t.eval args s none [] s = some (.ref a)) (hv : (Term.field t o n d).eval args s none [] s = some v) (hC : s.heap[a]? = some C) : ∃ f : Field, (∃ c k i, s.fieldFound? o n d = some (c, k, i, f) ∧ s.vm.assignable C.cls c = true) ∧ f.isStatic = false ∧ C.vm ≠ .unknown ∧ C.slots[f.slot]? = some v := sorry
theorem am_zs {C n d : String} {v : Value} {A : Nat → Prop} {s : State} (h : va_Z C n d v A s s.heap) : Jvm.Lib.Cold.StaticIs s C n d v := sorry
theorem am_txb_ok {args : Array Value} {s : State} {k : Nat} {tx : String} {bs : List Int32} {i0 ir : Nat} (hL : bs.length < 2 ^ 31) (hfit : ∀ i : Nat, i < bs.length → fits .byte (.int (bs.getD i 0)) = true) (hn : ∀ w ∈ am_nf, w.before args s = true) (hta : ∀ w ∈ lw_tbl, w.before args s = true) (hts : ∀ w ∈ am_tb, w.before args s = true) (h : am_txb k tx bs i0 ir = true) :
    ∃ t : Nat, vk_R RX9 k tx t s ∧ t < s.heap.size ∧ ∃ (C : Cell) (fV fC : Field) (d : Nat) (SA : Cell) (z : Int32) (w : Value), ∀ V : State, s.vm.Alike V.vm → (∀ a : Nat, a < s.heap.size → V.heap[a]? = s.heap[a]?) → am_Tk t bs C fV fC d SA z w V := sorry
theorem am_strs_ex {args : Array Value} {s : State} (hn : ∀ w ∈ am_nf, w.before args s = true) (hta : ∀ w ∈ lw_tbl, w.before args s = true) : ∀ j : Nat, ∃ a : Nat, ∀ q ∈ am_strs, q.2.1 = j → vk_R RX11 q.1 q.2.2 a s := sorry
set_option maxRecDepth 100000 in
theorem am_ncs_k : [(0, 1, 64), (0, 2, 79), (1, 0, 49), (1, 2, 80), (2, 0, 50), (2, 1, 65)].all (fun q => am_nix q.2.2 (.not (.castable (am_xn q.1) (am_xn q.2.1)))) = true := sorry
theorem am_ncs {args : Array Value} {s : State} (hn : ∀ w ∈ am_nf, w.before args s = true) : ∀ x y, x < 3 → y < 3 → x ≠ y → va_Nc (am_xn x) (am_xn y) s := sorry
set_option maxRecDepth 100000 in
theorem am_thw : am_nix 4 (.isRef (.static Bundle.tN "UNASSIGNED_STACK" Bundle.steD)) = true ∧ am_tiy 659 (.laysStatic Bundle.tN "UNASSIGNED_STACK" Bundle.steD) = true ∧ am_tix 14 (.initialized Bundle.tN) = true ∧ am_nix 5 (.isRef (.static Bundle.tN "SUPPRESSED_SENTINEL" Bundle.listD)) = true ∧ am_tiy 661 (.laysStatic Bundle.tN "SUPPRESSED_SENTINEL" Bundle.listD) = true := sorry
theorem am_vw_none : ∀ ci, ¬ ci < 13 → vwCl[ci]? = none := fun ci h => List.getElem?_eq_none (show vwCl.length ≤ ci from Nat.not_lt.mp h)
theorem am_D_ex {args : Array Value} {s : State} (hts : ∀ w ∈ am_tb, w.before args s = true) : ∃ D : va_G, ∀ (ci : Nat) (q : vw_C), vwCl[ci]? = some q → u_Kn s q.1 q.2.1 q.2.2 (D.1 ci) (D.2 ci) := sorry
theorem am_arr_p {args : Array Value} {s : State} {ty : FieldType} (h : (Cond.arrayClass ty).before args s = true) : ∃ cA, ArrOfT s cA ty ∧ s.vm.findClass ("[" ++ ty.toString) = some cA := by
  obtain ⟨cA, kA, comp, h1, h2, h3⟩ := Cond.arrayClass_spec h
  exact ⟨cA, fun n z => ⟨fun k h => (by cases h), kA, h2, comp, h3⟩, h1⟩
theorem am_arr_o {args : Array Value} {s : State} {C : String} (h : (Cond.arrayOver (.object C)).before args s = true) : ∃ cA, ArrOfT s cA (.object C) ∧ va_RA s cA (.object C) := sorry
theorem am_arr_a {args : Array Value} {s : State} {t : FieldType} (h : (Cond.arrayOver (.array t)).before args s = true) : ∃ cA, ArrOfT s cA (.array t) ∧ va_RA s cA (.array t) := sorry
theorem am_ca_ex {args : Array Value} {s : State} (hts : ∀ w ∈ am_tb, w.before args s = true) : ∃ ca : Nat → ClassId, ∀ (k : Nat) (q : ClassId × FieldType), (am_tys ca)[k]? = some q → ArrOfT s q.1 q.2 ∧ va_RA s q.1 q.2 := sorry
theorem am_xst_c {j : Nat} (h : am_xst j = true) : j = 16 ∨ j = 17 ∨ j = 30 := sorry
theorem am_xint_c {j : Nat} (h : am_xint j = true) : j = 0 ∨ j = 16 ∨ j = 17 ∨ j = 30 := sorry
/-- what holds at the law's entry, as the abstract machine has it -/
theorem am_start {p : Program} {l : Launch} {s : State} {m : MethodId} {meth : Method} {c : Code} {b L : Nat} {xs : Nat → Int32} (hst : l.stackTraces = false) (hx : p.tables.exec = Jvm.exec) (hb : c.code = code) (hr : meth.sig.returnType = ret) (hml : c.maxLocals = 8) (hown : s.vm.findClass "BreedingHouseLaw" = some m.cls) (hts : ∀ w ∈ lw_tbl, w.before #[Value.ref b] s = true) (hX : va_X b L xs s s.heap) (hbl : b < s.heap.size) (hlk : meth.locks = false) (hgv : (Jvm.Cond.and given_1 narrow_1).before #[Value.ref b] s = true) :
    ∃ (D : va_G) (ca : Nat → ClassId) (ext : Nat → Nat), ext 0 = b ∧ am_Cx p s m #[Value.ref b] meth c am_m0 D ca s.heap.size ext (am_X0 L xs) s.heap ∧ am_Ev l s ca s.heap.size ext s.heap := sorry