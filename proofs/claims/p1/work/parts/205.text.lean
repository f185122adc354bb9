/-! ===== texts: ldc of a text of Texts, String.indexOf and String.charAt on it, by the library's contracts ===== -/
theorem am_txo : ∀ q ∈ am_kl, (q.2.2 = 5 → q.1 = 9 ∧ q.2.1 = 87) ∧ (q.2.2 = 6 → q.1 = 9 ∧ q.2.1 = 108) ∧ (q.2.2 = 7 → q.1 = 9 ∧ q.2.1 = 129) := by decide
theorem am_blt : ∀ q ∈ am_bl, (q.2.2 = 10001 → q.1 = 9 ∧ q.2.1 = 89) ∧ (q.2.2 = 10002 → q.1 = 9 ∧ q.2.1 = 166) := by decide
theorem am_xtx_c {j : Nat} (h : am_xtx j = true) : j = 3 ∨ j = 4 ∨ j = 5 := sorry
theorem am_decl {y : MethodName} {args : Array Value} {s : State} {bytes : ByteArray} {maxL : Nat} {ret : Option FieldType} (h1 : (Cond.instanceMethod y).before args s = true) (h2 : (Cond.code y bytes maxL ret).before args s = true) : (Cond.declares y).before args s = true := sorry
theorem am_intAt {SA : Cell} {i : Nat} {v : Int32} (h : SA.slots[i]? = some (.int v)) : Jvm.Lib.StringLatin1.equals.intAt SA i = v := sorry
section
variable {t d : Nat} {bs : List Int32} {V : State} {C SA : Cell} {fV fC : Field} {z : Int32} {w : Value}
theorem am_Tk_ex (h : am_Tk t bs C fV fC d SA z w V) {av : Array Value} (hav : av[0]? = some (.ref t)) : (Cond.exactly (.arg 0) "java/lang/String").before av V = true := sorry
theorem am_Tk_v (h : am_Tk t bs C fV fC d SA z w V) {av : Array Value} (hav : av[0]? = some (.ref t)) : (Term.field (.arg 0) "java/lang/String" "value" "[B").eval av V none [] V = some (.ref d) := by
  obtain ⟨⟨⟨h1, h2, h3, ⟨cv, kv, iv, hfv, hav2⟩, -, g6, -, g8, -⟩, -⟩, -⟩ := h
  exact Term.field_eval (t := .arg 0) hfv (show (Term.arg 0).eval av V none [] V = some (.ref t) from hav) g6 h1 h2 h3 hav2 g8
theorem am_Tk_c (h : am_Tk t bs C fV fC d SA z w V) {av : Array Value} (hav : av[0]? = some (.ref t)) : (Term.field (.arg 0) "java/lang/String" "coder" "B").eval av V none [] V = some (.int 0) := sorry
/-- what indexOf(I)'s contract asks of the tables -/
theorem am_S1pre {ch : Int32} (hU : ∀ w ∈ am_tb, ∀ (a9 : Array Value), w.before a9 V = true) (h : am_Tk t bs C fV fC d SA z w V) : Jvm.Free.StrIndexOf.S1.spec.pre.before #[.ref t, .int ch] V = true := sorry
theorem am_S1P {ch : Int32} (hU : ∀ w ∈ am_tb, ∀ (a9 : Array Value), w.before a9 V = true) (h : am_Tk t bs C fV fC d SA z w V) : Jvm.Free.StrIndexOf.S1.P t d ch z SA #[.ref t, .int ch] V := sorry
theorem am_f1 {α : Type} {p : α → Prop} {a : α} {l9 : List α} (h : p a) (h2 : ∀ x ∈ l9, p x) : ∀ x ∈ a :: l9, p x := List.forall_mem_cons.mpr ⟨h, h2⟩
/-- what charAt's contract asks of the tables -/
theorem am_Chw {av : Array Value} (hU : ∀ w ∈ am_tb, ∀ (a9 : Array Value), w.before a9 V = true) : ∀ w ∈ Jvm.Free.Fmt.SCh.words, w.before av V = true := sorry
end
/-- how the library says the place of a char, and how the abstract machine does -/
theorem am_tx_eq : ∀ n, n < 256 → ∀ b ∈ am_txt 3 ++ (am_txt 4 ++ am_txt 5), (b = (Int32.ofNat n).toInt8.toInt32 ↔ b = Int32.ofNat n) := sorry
theorem am_tx_rg : ∀ b ∈ am_txt 3 ++ (am_txt 4 ++ am_txt 5), (0 : Int32) ≤ b ∧ b ≤ 255 ∧ b = Int32.ofNat b.toNatClampNeg ∧ b.toNatClampNeg < 128 := sorry
theorem am_tx_sub {j : Nat} (h : am_xtx j = true) : ∀ b ∈ am_txt j, b ∈ am_txt 3 ++ (am_txt 4 ++ am_txt 5) := sorry
theorem am_tx_len {j : Nat} (h : am_xtx j = true) : 0 < (am_txt j).length ∧ (am_txt j).length < 256 := sorry
theorem am_ixF_none {c : Int32} : ∀ (l : List Int32) (k : Nat), (∀ b ∈ l, b ≠ c) → am_ixF c l k = -1 := sorry
theorem am_ixF_first {c t : Int32} {f : Nat → Int32} : ∀ (l : List Int32) (k : Nat), (∀ i, i < l.length → f (k + i) = l.getD i 0) → (∀ b ∈ l, (b = t ↔ b = c)) → Jvm.Free.SL1IndexOf.Chr.firstIdx f t k l.length = am_ixF c l k := sorry
theorem am_nn {x : Int32} (h : 0 ≤ x) : x = Int32.ofNat x.toNatClampNeg := sorry
theorem am_answer {j : Nat} (hj : am_xtx j = true) {SA : Cell} {ch : Int32} (hsz : SA.slots.size = (am_txt j).length) (hb : ∀ i : Nat, i < (am_txt j).length → SA.slots[i]? = some (.int ((am_txt j).getD i 0))) :
    Jvm.Free.SL1IndexOf.Idx.answer SA ch 0 SA.slots.size.toInt32 = am_ixF ch (am_txt j) 0 := sorry
section
variable {p : Program} {l : Launch} {e : Env} {R : Room} {s : State} {mm : MethodId} {args : Array Value} {below : List Frame} {meth : Method} {c : Code} {Q : State → Prop} {m : am_M} {D : va_G} {ca : Nat → ClassId} {base : Nat} {ext : Nat → Nat} {X : am_X} {H0 : Heap} {n0 z0 : Nat}
/-- an instance call of a method of the library that changes and makes nothing -/
theorem am_pureV {y : MethodName} {S : Spec} {P : Array Value → State → Prop} {Qy : Array Value → State → Outcome → State → Prop} {r : Int32} {bytes cc : ByteArray} {maxL index : Nat} {ret : Option FieldType} {own C : String} {b : Addr} {As rest : List Value} {pc : Nat} {ls : Array Slot} {H : Heap} {locs : List Loc} {cells slots : Nat}
    (hx : p.tables.exec = Jvm.exec) (hb : c.code = cc) (hml : ls.size = c.maxLocals) (hown : s.vm.findClass own = some mm.cls)
    (hlink : (Cond.methodLink own index y).before args s = true) (hinst : (Cond.instanceMethod y).before args s = true) (hsel : (Cond.selects C y y).before args s = true) (hcode : ∀ (a9 : Array Value) (U : State), s.WarmedH U.vm → (Cond.code y bytes maxL ret).before a9 U = true) (hini : ∀ (a9 : Array Value) (U : State), s.WarmedH U.vm → (Cond.initialized y.cls).before a9 U = true) (hy : y.cls ≠ "java/lang/invoke/MethodHandle" ∧ y.cls ≠ "java/lang/invoke/VarHandle")
    (hM : MetFree l y S P (fun _ _ _ _ _ => True) Qy) (hQ : ∀ a9 f9 o9 t9, Qy a9 f9 o9 t9 → o9 = .returned (some (.int r)) ∧ t9.heap = f9.heap ∧ FrameEnd f9 o9 t9 [] 0 0)
    (hc0 : S.room.cells = 0) (hs0 : S.room.slots = 0) (hf : S.room.frames + 1 ≤ R.frames) (hl : 8 + (maxL + 11) + S.room.locals ≤ R.locals)
    (hP : ∀ U : State, U.heap = H → s.WarmedH U.vm → S.pre.before (Value.ref b :: As).toArray U = true ∧ ∀ (g : JFrame) (mk : MethodId), P (Value.ref b :: As).toArray (U.calling g mk (Value.ref b :: As).toArray))
    (hobj : ∃ cellB : Cell, H[b]? = some cellB ∧ cellB.vm.isStatics = false ∧ s.vm.findClass C = some cellB.cls)
    (hlen : ∀ sig, parseMethodDescriptor y.desc = some sig → As.length = sig.parameters.length)
    (hW : 2 * (F0 mm pc ls (As.reverse ++ .ref b :: rest)).monitorRoom + (rest.map fun v => v.category).sum ≤ 8) (hdg : decode cc pc = .ok (.invokevirtual index, 3)) (hfit : cells ≤ R.cells ∧ slots ≤ R.slots)
    (k : W p l e R s mm args below meth c H locs cells slots Q (F0 mm (pc + 3) ls (.int r :: rest))) : W p l e R s mm args below meth c H locs cells slots Q (F0 mm pc ls (As.reverse ++ .ref b :: rest)) := sorry
theorem am_ldt_ok {x r pc : Nat} {lv : am_LV} {st : List Value} {h : am_H} (Cx : am_Cx p s mm args meth c m D ca base ext X H0) (Ev : am_Ev l s ca base ext H0) (hd : am_dec (am_by m) pc (.ldc x) = true) (hk : am_lk m pc (.ldc x) r = true) (hr : r = 5 ∨ r = 6 ∨ r = 7)
    (k : am_G p l e R s mm args below meth c Q m D ca base ext H0 n0 z0 (pc + 2) lv (.float (UInt32.ofNat (r - 2)) :: st) h) : am_G p l e R s mm args below meth c Q m D ca base ext H0 n0 z0 pc lv st h := sorry
/-- the text at a state that the run comes to -/
theorem am_tj_at {j : Nat} (hj : am_xtx j = true) (Ev : am_Ev l s ca base ext H0) : ext j < base ∧ ∃ (C : Cell) (fV fC : Field) (d : Nat) (SA : Cell) (z : Int32) (w : Value), ∀ V : State, s.vm.Alike V.vm → (∀ a : Nat, a < base → V.heap[a]? = H0[a]?) → am_Tk (ext j) (am_txt j) C fV fC d SA z w V := sorry
theorem am_tj_obj {j : Nat} {H : Heap} (hj : am_xtx j = true) (Ev : am_Ev l s ca base ext H0) (h0 : ∀ q9, q9 < base → H[q9]? = H0[q9]?) (hbh : ∀ q9, q9 < base → s.heap[q9]? = H0[q9]?) : ∃ cellB : Cell, H[ext j]? = some cellB ∧ cellB.vm.isStatics = false ∧ s.vm.findClass "java/lang/String" = some cellB.cls := sorry
theorem am_idx_ok {x pc : Nat} {cc : Int32} {e9 : UInt32} {lv : am_LV} {st : List Value} {h : am_H} (Cx : am_Cx p s mm args meth c m D ca base ext X H0) (Ev : am_Ev l s ca base ext H0) (hd : am_dec (am_by m) pc (.invokevirtual x) = true) (hk : am_lk m pc (.invokevirtual x) 10001 = true) (he : am_xtx e9.toNat = true) (hcat : Nat.ble (am_cats st) 8 = true) (hRf : 10 ≤ R.frames) (hRl : 300 ≤ R.locals) (hRc : h.length - n0 ≤ R.cells ∧ am_sz h - z0 ≤ R.slots)
    (k : am_G p l e R s mm args below meth c Q m D ca base ext H0 n0 z0 (pc + 3) lv (.int (am_ixF cc (am_txt e9.toNat) 0) :: st) h) : am_G p l e R s mm args below meth c Q m D ca base ext H0 n0 z0 pc lv (.int cc :: .float e9 :: st) h := sorry
theorem am_chr_ok {x pc : Nat} {cc : Int32} {e9 : UInt32} {lv : am_LV} {st : List Value} {h : am_H} (Cx : am_Cx p s mm args meth c m D ca base ext X H0) (Ev : am_Ev l s ca base ext H0) (hd : am_dec (am_by m) pc (.invokevirtual x) = true) (hk : am_lk m pc (.invokevirtual x) 10002 = true) (he : am_xtx e9.toNat = true) (hi : am_inb cc (am_txt e9.toNat).length = true) (hcat : Nat.ble (am_cats st) 8 = true) (hRf : 10 ≤ R.frames) (hRl : 300 ≤ R.locals) (hRc : h.length - n0 ≤ R.cells ∧ am_sz h - z0 ≤ R.slots)
    (k : am_G p l e R s mm args below meth c Q m D ca base ext H0 n0 z0 (pc + 3) lv (.int ((am_txt e9.toNat).getD cc.toNatClampNeg 0) :: st) h) : am_G p l e R s mm args below meth c Q m D ca base ext H0 n0 z0 pc lv (.int cc :: .float e9 :: st) h := sorry
end
