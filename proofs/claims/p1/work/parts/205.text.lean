/-! ===== texts: ldc of a text of Texts, String.indexOf and String.charAt on it, by the library's contracts ===== -/
theorem am_txo : ∀ q ∈ am_kl, (q.2.2 = 5 → q.1 = 9 ∧ q.2.1 = 87) ∧ (q.2.2 = 6 → q.1 = 9 ∧ q.2.1 = 108) ∧ (q.2.2 = 7 → q.1 = 9 ∧ q.2.1 = 129) := by decide
theorem am_blt : ∀ q ∈ am_bl, (q.2.2 = 10001 → q.1 = 9 ∧ q.2.1 = 89) ∧ (q.2.2 = 10002 → q.1 = 9 ∧ q.2.1 = 166) := by decide
theorem am_xtx_c {j : Nat} (h : am_xtx j = true) : j = 3 ∨ j = 4 ∨ j = 5 := by
  unfold am_xtx at h
  simpa only [Bool.or_eq_true, beq_iff_eq] using h
theorem am_decl {y : MethodName} {args : Array Value} {s : State} {bytes : ByteArray} {maxL : Nat} {ret : Option FieldType} (h1 : (Cond.instanceMethod y).before args s = true) (h2 : (Cond.code y bytes maxL ret).before args s = true) : (Cond.declares y).before args s = true := by
  obtain ⟨mk, meth, hn, hm, hst, -⟩ := Cond.instanceMethod_spec h1
  obtain ⟨meth', c, hm', -, -, -, -, -, -, hsig⟩ := Cond.code_spec hn h2
  cases Option.some.inj (hm.symm.trans hm')
  simp [Cond.before, Cond.holds, Cond.value, hn, hm, hst, hsig]
theorem am_intAt {SA : Cell} {i : Nat} {v : Int32} (h : SA.slots[i]? = some (.int v)) : Jvm.Lib.StringLatin1.equals.intAt SA i = v := by
  unfold Jvm.Lib.StringLatin1.equals.intAt
  rw [h]
section
variable {t d : Nat} {bs : List Int32} {V : State} {C SA : Cell} {fV fC : Field} {z : Int32} {w : Value}
theorem am_Tk_ex (h : am_Tk t bs C fV fC d SA z w V) {av : Array Value} (hav : av[0]? = some (.ref t)) : (Cond.exactly (.arg 0) "java/lang/String").before av V = true := by
  obtain ⟨hS, ⟨kS, hk, hsz⟩, -⟩ := h
  obtain ⟨⟨h1, h2, h3, -⟩, h4, -⟩ := hS
  have h4' : V.vm.findClass "java/lang/String" = some C.cls := h4
  have h1' : V.heap[t]? = some C := h1
  have h3' : C.vm.isStatics = false := h3
  cases hkd : kS.kind <;> first
    | simp [Cond.before, Cond.holds, Cond.value, Term.eval, hav, h4', h1', hk, h3', hkd, hsz hkd]
    | simp [Cond.before, Cond.holds, Cond.value, Term.eval, hav, h4', h1', hk, h3', hkd]
theorem am_Tk_v (h : am_Tk t bs C fV fC d SA z w V) {av : Array Value} (hav : av[0]? = some (.ref t)) : (Term.field (.arg 0) "java/lang/String" "value" "[B").eval av V none [] V = some (.ref d) := by
  obtain ⟨⟨⟨h1, h2, h3, ⟨cv, kv, iv, hfv, hav2⟩, -, g6, -, g8, -⟩, -⟩, -⟩ := h
  exact Term.field_eval (t := .arg 0) hfv (show (Term.arg 0).eval av V none [] V = some (.ref t) from hav) g6 h1 h2 h3 hav2 g8
theorem am_Tk_c (h : am_Tk t bs C fV fC d SA z w V) {av : Array Value} (hav : av[0]? = some (.ref t)) : (Term.field (.arg 0) "java/lang/String" "coder" "B").eval av V none [] V = some (.int 0) := by
  obtain ⟨⟨⟨h1, h2, h3, -, ⟨cq, kq, iq, hfq, haq⟩, -, g7, -, g9, -⟩, -⟩, -⟩ := h
  exact Term.field_eval (t := .arg 0) hfq (show (Term.arg 0).eval av V none [] V = some (.ref t) from hav) g7 h1 h2 h3 haq g9
/-- what indexOf(I)'s contract asks of the tables -/
theorem am_S1pre {ch : Int32} (hU : ∀ w ∈ am_tb, ∀ (a9 : Array Value), w.before a9 V = true) (h : am_Tk t bs C fV fC d SA z w V) : Jvm.Free.StrIndexOf.S1.spec.pre.before #[.ref t, .int ch] V = true := by
  simp only [Jvm.Free.StrIndexOf.S1.spec, Cond.before_and, Bool.and_eq_true]
  exact ⟨hU _ tw_c_i1 _, rfl, am_Tk_ex h rfl, hU _ tw_l_i2 _, am_decl (hU _ tw_i_i2 _) (hU _ tw_c_i2 _), hU _ tw_s_i2 _, hU _ tw_i_i2 _, hU _ tw_n_S _⟩
theorem am_S1P {ch : Int32} (hU : ∀ w ∈ am_tb, ∀ (a9 : Array Value), w.before a9 V = true) (h : am_Tk t bs C fV fC d SA z w V) : Jvm.Free.StrIndexOf.S1.P t d ch z SA #[.ref t, .int ch] V := by
  have h9 := h
  obtain ⟨⟨⟨-, -, -, -, -, -, -, -, -, g10, g11, g12, g13, g14, -, -⟩, -⟩, -, hst, hz, -, hby⟩ := h9
  have g13 : SA.slots.size = bs.length := g13
  have g14 : bs.length < 2 ^ 31 := g14
  have hI : Jvm.Lib.Cold.isLatin1.spec.pre.before #[.ref t] V = true := by
    simp only [Jvm.Lib.Cold.isLatin1.spec, Cond.before_and, Bool.and_eq_true]
    exact ⟨hU _ tw_c_il _, rfl, hU _ tw_f_z _, hU _ tw_f_c _⟩
  have hC : Jvm.Lib.Cold.coder.spec.pre.before #[.ref t] V = true := by
    simp only [Jvm.Lib.Cold.coder.spec, Cond.before_and, Bool.and_eq_true]
    exact ⟨hU _ tw_c_co _, rfl, hU _ tw_f_z _, hU _ tw_f_c _⟩
  have hL : Jvm.Lib.Cold.length.spec.pre.before #[.ref t] V = true := by
    simp only [Jvm.Lib.Cold.length.spec, Cond.before_and, Bool.and_eq_true]
    exact ⟨hU _ tw_c_ln _, rfl, am_Tk_ex h rfl, hU _ tw_f_v _, hU _ tw_l_co _, am_decl (hU _ tw_i_co _) (hU _ tw_c_co _), hU _ tw_s_co _, hU _ tw_i_co _, hU _ tw_n_S _⟩
  have hT : Jvm.Free.SL1IndexOf.Idx.tab.before #[.ref t, .int ch, .int 0] V = true := by
    simp only [Jvm.Free.SL1IndexOf.Idx.tab, Jvm.Free.SL1IndexOf.Can.tab, Jvm.Free.SL1IndexOf.Chr.tab, Cond.before_and, Bool.and_eq_true]
    exact ⟨hU _ tw_c_ix _, hU _ tw_l_ce _, hU _ tw_t_ce _, hU _ tw_c_ce _, hU _ tw_l_mx _, hU _ tw_t_mx _, hU _ tw_c_mx _, hU _ tw_l_mn _, hU _ tw_t_mn _, hU _ tw_c_mn _, hU _ tw_n_M _, hU _ tw_l_ic _, hU _ tw_t_ic _, hU _ tw_c_ic _⟩
  have h2 : Jvm.Free.StrIndexOf.S2.spec.pre.before #[.ref t, .int ch, .int 0] V = true := by
    simp only [Jvm.Free.StrIndexOf.S2.spec, Cond.before_and, Bool.and_eq_true]
    exact ⟨hU _ tw_c_i2 _, rfl, am_Tk_ex h rfl, hU _ tw_l_il _, am_decl (hU _ tw_i_il _) (hU _ tw_c_il _), hU _ tw_s_il _, hU _ tw_i_il _, hU _ tw_f_v _, hU _ tw_l_ln _, am_decl (hU _ tw_i_ln _) (hU _ tw_c_ln _), hU _ tw_s_ln _, hU _ tw_i_ln _, hU _ tw_l_ix _, hU _ tw_t_ix _, hT, hU _ tw_n_L _, hU _ tw_n_S _⟩
  refine ⟨rfl, h2, rfl, am_Tk_v h rfl, hI, ⟨rfl, hst, hz, am_Tk_c h rfl⟩, hL, ⟨rfl, am_Tk_v h rfl, g10, g11, hC, ⟨rfl, hst, hz, am_Tk_c h rfl⟩⟩, g12, ?_, fun i hi => ?_⟩
  · rw [g13]
    exact g14
  · have h8 := hby i (by rw [← g13]; exact hi)
    rw [am_intAt h8]
    exact h8
theorem am_f1 {α : Type} {p : α → Prop} {a : α} {l9 : List α} (h : p a) (h2 : ∀ x ∈ l9, p x) : ∀ x ∈ a :: l9, p x := List.forall_mem_cons.mpr ⟨h, h2⟩
/-- what charAt's contract asks of the tables -/
theorem am_Chw {av : Array Value} (hU : ∀ w ∈ am_tb, ∀ (a9 : Array Value), w.before a9 V = true) : ∀ w ∈ Jvm.Free.Fmt.SCh.words, w.before av V = true := by
  have hT : Jvm.Free.Str.IL.tab.before av V = true := by
    simp only [Jvm.Free.Str.IL.tab, Cond.before_and, Bool.and_eq_true]
    exact ⟨hU _ tw_c_il _, hU _ tw_f_z _, hU _ tw_f_c _⟩
  exact am_f1 (hU _ tw_c_ch _) (am_f1 (hU _ tw_n_S _) (am_f1 (hU _ tw_l_il _) (am_f1 (am_decl (hU _ tw_i_il _) (hU _ tw_c_il _)) (am_f1 (hU _ tw_s_il _) (am_f1 (hU _ tw_i_il _) (am_f1 hT (am_f1 (hU _ tw_f_v _) (am_f1 (hU _ tw_l_lc _) (am_f1 (hU _ tw_t_lc _)
    (am_f1 (hU _ tw_c_lc _) (am_f1 (hU _ tw_n_L _) (am_f1 (hU _ tw_l_ck _) (am_f1 (hU _ tw_t_ck _)
    (am_f1 (hU _ tw_c_ck _) (am_f1 (hU _ tw_n_S _) (am_f1 (hU _ tw_f_f _) (am_f1 (hU _ tw_l_pc _) (am_f1 (hU _ tw_t_pc _)
    (am_f1 (hU _ tw_c_pc _) (am_f1 (hU _ tw_n_P _) (fun x hx => by cases hx)))))))))))))))))))))
end
/-- how the library says the place of a char, and how the abstract machine does -/
theorem am_tx_eq : ∀ n, n < 256 → ∀ b ∈ am_txt 3 ++ (am_txt 4 ++ am_txt 5), (b = (Int32.ofNat n).toInt8.toInt32 ↔ b = Int32.ofNat n) := by decide +kernel
theorem am_tx_rg : ∀ b ∈ am_txt 3 ++ (am_txt 4 ++ am_txt 5), (0 : Int32) ≤ b ∧ b ≤ 255 ∧ b = Int32.ofNat b.toNatClampNeg ∧ b.toNatClampNeg < 128 := by decide +kernel
theorem am_tx_sub {j : Nat} (h : am_xtx j = true) : ∀ b ∈ am_txt j, b ∈ am_txt 3 ++ (am_txt 4 ++ am_txt 5) := by
  rcases am_xtx_c h with rfl | rfl | rfl
  · exact fun b hb => List.mem_append_left _ hb
  · exact fun b hb => List.mem_append_right _ (List.mem_append_left _ hb)
  · exact fun b hb => List.mem_append_right _ (List.mem_append_right _ hb)
theorem am_tx_len {j : Nat} (h : am_xtx j = true) : 0 < (am_txt j).length ∧ (am_txt j).length < 256 := by
  rcases am_xtx_c h with rfl | rfl | rfl <;> decide
theorem am_ixF_none {c : Int32} : ∀ (l : List Int32) (k : Nat), (∀ b ∈ l, b ≠ c) → am_ixF c l k = -1 := by
  intro l
  induction l with
  | nil => intro k _; rfl
  | cons b l ih =>
    intro k h
    rw [am_ixF, if_neg (h b List.mem_cons_self)]
    exact ih _ (fun b9 h9 => h b9 (List.mem_cons_of_mem _ h9))
theorem am_ixF_first {c t : Int32} {f : Nat → Int32} : ∀ (l : List Int32) (k : Nat), (∀ i, i < l.length → f (k + i) = l.getD i 0) → (∀ b ∈ l, (b = t ↔ b = c)) → Jvm.Free.SL1IndexOf.Chr.firstIdx f t k l.length = am_ixF c l k := by
  intro l
  induction l with
  | nil => intro k _ _; rfl
  | cons b l ih =>
    intro k hf hb
    have h0 : f k = b := hf 0 (Nat.zero_lt_succ _)
    show (if f k = t then Int32.ofNat k else Jvm.Free.SL1IndexOf.Chr.firstIdx f t (k + 1) l.length) = am_ixF c (b :: l) k
    rw [am_ixF, h0]
    by_cases h9 : b = c
    · rw [if_pos h9, if_pos ((hb b List.mem_cons_self).mpr h9)]
    · rw [if_neg h9, if_neg (fun h8 => h9 ((hb b List.mem_cons_self).mp h8))]
      refine ih (k + 1) (fun i hi => ?_) (fun b9 h9 => hb b9 (List.mem_cons_of_mem _ h9))
      have h8 := hf (i + 1) (Nat.succ_lt_succ hi)
      rw [show k + 1 + i = k + (i + 1) by omega]
      exact h8
theorem am_nn {x : Int32} (h : 0 ≤ x) : x = Int32.ofNat x.toNatClampNeg := by
  have h1 : (0 : Int) ≤ x.toInt := by simpa using Int32.le_iff_toInt_le.mp h
  have h2 : x.toInt < 2 ^ 31 := Int32.toInt_lt x
  apply Int32.toInt_inj.mp
  rw [Int32.toInt_ofNat_small (show x.toNatClampNeg < 2 ^ 31 by show x.toInt.toNat < 2 ^ 31; omega)]
  show x.toInt = ((x.toInt.toNat : Nat) : Int)
  omega
theorem am_answer {j : Nat} (hj : am_xtx j = true) {SA : Cell} {ch : Int32} (hsz : SA.slots.size = (am_txt j).length) (hb : ∀ i : Nat, i < (am_txt j).length → SA.slots[i]? = some (.int ((am_txt j).getD i 0))) :
    Jvm.Free.SL1IndexOf.Idx.answer SA ch 0 SA.slots.size.toInt32 = am_ixF ch (am_txt j) 0 := by
  obtain ⟨hl0, hl⟩ := am_tx_len hj
  unfold Jvm.Free.SL1IndexOf.Idx.answer
  by_cases hc : 0 ≤ ch ∧ ch ≤ 255
  · have e1 : Jvm.Free.SL1IndexOf.Can.can ch = 1 := by unfold Jvm.Free.SL1IndexOf.Can.can; rw [if_pos hc]
    have e2 : Jvm.Free.SL1IndexOf.Idx.lo 0 = 0 := by decide
    have e3 : Jvm.Free.SL1IndexOf.Idx.hi SA SA.slots.size.toInt32 = Int32.ofNat (am_txt j).length := by
      unfold Jvm.Free.SL1IndexOf.Idx.hi
      rw [ite_self, hsz]
    have e4 : (0 : Int32) < Int32.ofNat (am_txt j).length := by
      rw [Int32.lt_iff_toInt_lt, Int32.toInt_ofNat_small (by omega)]
      simpa using hl0
    have e5 : (Int32.ofNat (am_txt j).length).toNatClampNeg = (am_txt j).length := Int32.toNatClampNeg_ofNat_of_lt (by omega)
    rw [e1, e2, e3, e5, if_neg (by decide), if_pos e4]
    show Jvm.Free.SL1IndexOf.Chr.firstIdx (Jvm.Lib.StringLatin1.equals.intAt SA) ch.toInt8.toInt32 0 ((am_txt j).length - 0) = _
    rw [Nat.sub_zero]
    refine am_ixF_first (am_txt j) 0 (fun i hi => ?_) (fun b hbm => ?_)
    · rw [Nat.zero_add]
      exact am_intAt (hb i hi)
    · have hn : ch = Int32.ofNat ch.toNatClampNeg := am_nn hc.1
      have hlt : ch.toNatClampNeg < 256 := by
        have h9 := Int32.le_iff_toInt_le.mp hc.2
        have h8 : (255 : Int32).toInt = 255 := by decide
        rw [h8] at h9
        show ch.toInt.toNat < 256
        omega
      have h7 := am_tx_eq _ hlt b (am_tx_sub hj b hbm)
      rw [← hn] at h7
      exact h7
  · have e1 : Jvm.Free.SL1IndexOf.Can.can ch = 0 := by unfold Jvm.Free.SL1IndexOf.Can.can; rw [if_neg hc]
    rw [if_pos e1]
    exact (am_ixF_none _ _ (fun b hbm e => hc (by
      have h9 := am_tx_rg b (am_tx_sub hj b hbm)
      rw [← e]
      exact ⟨h9.1, h9.2.1⟩))).symm
section
variable {p : Program} {l : Launch} {e : Env} {R : Room} {s : State} {mm : MethodId} {args : Array Value} {below : List Frame} {meth : Method} {c : Code} {Q : State → Prop} {m : am_M} {D : va_G} {ca : Nat → ClassId} {base : Nat} {ext : Nat → Nat} {X : am_X} {H0 : Heap} {n0 z0 : Nat}
/-- an instance call of a method of the library that changes and makes nothing -/
theorem am_pureV {y : MethodName} {S : Spec} {P : Array Value → State → Prop} {Qy : Array Value → State → Outcome → State → Prop} {r : Int32} {bytes cc : ByteArray} {maxL index : Nat} {ret : Option FieldType} {own C : String} {b : Addr} {As rest : List Value} {pc : Nat} {ls : Array Slot} {H : Heap} {locs : List Loc} {cells slots : Nat}
    (hx : p.tables.exec = Jvm.exec) (hb : c.code = cc) (hml : ls.size = c.maxLocals) (hown : s.vm.findClass own = some mm.cls)
    (hlink : (Cond.methodLink own index y).before args s = true) (hinst : (Cond.instanceMethod y).before args s = true) (hsel : (Cond.selects C y y).before args s = true) (hcode : ∀ (a9 : Array Value) (U : State), s.WarmedH U.vm → (Cond.code y bytes maxL ret).before a9 U = true) (hini : ∀ (a9 : Array Value) (U : State), s.WarmedH U.vm → (Cond.initialized y.cls).before a9 U = true) (hy : y.cls ≠ "java/lang/invoke/MethodHandle" ∧ y.cls ≠ "java/lang/invoke/VarHandle")
    (hM : MetFree l y S P (fun _ _ _ _ _ => True) Qy) (hQ : ∀ a9 f9 o9 t9, Qy a9 f9 o9 t9 → o9 = .returned (some (.int r)) ∧ t9.heap = f9.heap ∧ FrameEnd f9 o9 t9 [] 0 0)
    (hc0 : S.room.cells = 0) (hs0 : S.room.slots = 0) (hf : S.room.frames + 1 ≤ R.frames) (hl : 8 + (maxL + 11) + S.room.locals ≤ R.locals)
    (hP : ∀ U : State, U.heap = H → s.WarmedH U.vm → S.pre.before (Value.ref b :: As).toArray U = true ∧ ∀ (g : JFrame) (mk : MethodId), P (Value.ref b :: As).toArray (U.calling g mk (Value.ref b :: As).toArray))
    (hobj : ∃ cellB : Cell, H[b]? = some cellB ∧ cellB.vm.isStatics = false ∧ s.vm.findClass C = some cellB.cls)
    (hlen : ∀ sig, parseMethodDescriptor y.desc = some sig → As.length = sig.parameters.length)
    (hW : 2 * (F0 mm pc ls (As.reverse ++ .ref b :: rest)).monitorRoom + (rest.map fun v => v.category).sum ≤ 8) (hdg : decode cc pc = .ok (.invokevirtual index, 3)) (hfit : cells ≤ R.cells ∧ slots ≤ R.slots)
    (k : W p l e R s mm args below meth c H locs cells slots Q (F0 mm (pc + 3) ls (.int r :: rest))) : W p l e R s mm args below meth c H locs cells slots Q (F0 mm pc ls (As.reverse ++ .ref b :: rest)) := by
  obtain ⟨cellB, o1, o2, o3⟩ := hobj
  intro T hT Y
  have hK : Back l R p e below s args y 3 8 (fun A a => A.cells ≤ R.cells ∧ A.slots ≤ R.slots ∧ a = (Value.ref b :: As).toArray ∧ A.U.heap = H) (fun A _ v B => v = some (.int r) ∧ B.U.heap = A.U.heap ∧ B.locs = A.locs ∧ B.cells = A.cells ∧ B.slots = A.slots) := by
    refine Back.of_free (S := S) (P := P) (K := fun _ _ _ _ _ => True) (Q := Qy) (bytes := bytes) (maxL := maxL) (ret := ret) (E := fun _ f9 o9 t9 L k9 n9 => L = [] ∧ k9 = 0 ∧ n9 = 0 ∧ o9 = .returned (some (.int r)) ∧ t9.heap = f9.heap) hM hf hl ?_ ?_ (fun _ _ _ _ _ _ _ _ _ => trivial) ?_ ?_
    · intro m9 meth9 c9 A a X9 hp
      obtain ⟨p1, p2, rfl, p4⟩ := hp
      exact ⟨(hP A.U p4 X9.warmed).1, hcode _ _ X9.warmed, hini _ _ X9.warmed, by rw [hc0]; exact p1, by rw [hs0]; exact p2⟩
    · intro m9 meth9 c9 A a g mk X9 hp
      obtain ⟨p1, p2, rfl, p4⟩ := hp
      exact (hP A.U p4 X9.warmed).2 g mk
    · intro a f9 o9 t9 hq
      obtain ⟨q1, q2, q3⟩ := hQ a f9 o9 t9 hq
      exact ⟨[], 0, 0, q3, rfl, rfl, rfl, q1, q2⟩
    · intro m9 meth9 c9 A a g mk v t9 L k9 n9 X9 hp hq hF hE
      obtain ⟨rfl, rfl, rfl, e1, e2⟩ := hE
      cases e1
      exact ⟨rfl, e2, List.append_nil _, rfl, rfl⟩
  obtain ⟨v, vm₁, ⟨U', l2, c2, s2⟩, hW₁, X', ⟨e1, e2, e3, e4, e5⟩, st⟩ := callV Y hx (C := C) (bytes := bytes) (maxL := maxL) (ret := ret) hown hlink hinst hsel (hcode args s (State.WarmedH.refl s)) hy hK (by rw [hT]; exact o1) o2 o3 (g := F0 mm pc ls (As.reverse ++ .ref b :: rest)) rfl hml (argsL := As) (rest := rest) hlen rfl hW (by rw [hb]; exact hdg) (fun vm₁ hW₁ => ⟨hfit.1, hfit.2, rfl, hT⟩)
  dsimp only [Pt.U, Pt.locs, Pt.cells, Pt.slots] at X' e2 e3 e4 e5 st
  subst e1
  subst e3
  subst e4
  subst e5
  obtain ⟨t, a1, b1⟩ := k U' (e2.trans hT) X'
  exact ⟨t, st t a1, b1⟩
theorem am_ldt_ok {x r pc : Nat} {lv : am_LV} {st : List Value} {h : am_H} (Cx : am_Cx p s mm args meth c m D ca base ext X H0) (Ev : am_Ev l s ca base ext H0) (hd : am_dec (am_by m) pc (.ldc x) = true) (hk : am_lk m pc (.ldc x) r = true) (hr : r = 5 ∨ r = 6 ∨ r = 7)
    (k : am_G p l e R s mm args below meth c Q m D ca base ext H0 n0 z0 (pc + 2) lv (.float (UInt32.ofNat (r - 2)) :: st) h) : am_G p l e R s mm args below meth c Q m D ca base ext H0 n0 z0 pc lv st h := by
  obtain ⟨hx, hb, hml, hown, hts, hK, hini, hlk, hrt, hbs, hbh, hex, hH0⟩ := Cx
  obtain ⟨-, -, -, -, -, -, htx, -⟩ := Ev
  have hk2 : am_has am_kl (am_ow m) x r = true := hk
  have h9 := am_txo _ (am_has_mem hk2)
  intro ls H locs hl hw h0 hlo
  have k9 := k ls H locs hl hw h0 hlo
  rcases hr with rfl | rfl | rfl
  · obtain ⟨e1, e2⟩ := h9.1 rfl
    have e3 : am_ow m = 9 := e1
    have e4 : x = 87 := e2
    subst e4
    rw [e3] at hown
    exact va_ldcS (own := RX9) hx hb hown (htx (87, 3, "xyznse") (by simp [am_txs])) (am_dec_ok hd rfl) k9
  · obtain ⟨e1, e2⟩ := h9.2.1 rfl
    have e3 : am_ow m = 9 := e1
    have e4 : x = 108 := e2
    subst e4
    rw [e3] at hown
    exact va_ldcS (own := RX9) hx hb hown (htx (108, 4, "~#!+-*/%<=&|@?") (by simp [am_txs])) (am_dec_ok hd rfl) k9
  · obtain ⟨e1, e2⟩ := h9.2.2 rfl
    have e3 : am_ow m = 9 := e1
    have e4 : x = 129 := e2
    subst e4
    rw [e3] at hown
    exact va_ldcS (own := RX9) hx hb hown (htx (129, 5, "xyzn~#+-*/%<=dwo") (by simp [am_txs])) (am_dec_ok hd rfl) k9
/-- the text at a state that the run comes to -/
theorem am_tj_at {j : Nat} (hj : am_xtx j = true) (Ev : am_Ev l s ca base ext H0) : ext j < base ∧ ∃ (C : Cell) (fV fC : Field) (d : Nat) (SA : Cell) (z : Int32) (w : Value), ∀ V : State, s.vm.Alike V.vm → (∀ a : Nat, a < base → V.heap[a]? = H0[a]?) → am_Tk (ext j) (am_txt j) C fV fC d SA z w V := by
  obtain ⟨-, -, -, -, -, -, -, htj⟩ := Ev
  rcases am_xtx_c hj with rfl | rfl | rfl
  · exact htj (87, 3, "xyznse") (by simp [am_txs])
  · exact htj (108, 4, "~#!+-*/%<=&|@?") (by simp [am_txs])
  · exact htj (129, 5, "xyzn~#+-*/%<=dwo") (by simp [am_txs])
theorem am_tj_obj {j : Nat} {H : Heap} (hj : am_xtx j = true) (Ev : am_Ev l s ca base ext H0) (h0 : ∀ q9, q9 < base → H[q9]? = H0[q9]?) (hbh : ∀ q9, q9 < base → s.heap[q9]? = H0[q9]?) : ∃ cellB : Cell, H[ext j]? = some cellB ∧ cellB.vm.isStatics = false ∧ s.vm.findClass "java/lang/String" = some cellB.cls := by
  obtain ⟨hlt, C, fV, fC, d, SA, z, w, h9⟩ := am_tj_at hj Ev
  obtain ⟨⟨⟨h1, h2, h3, -⟩, h4, -⟩, -⟩ := h9 s (Vm.Alike.refl _) hbh
  have h1' : s.heap[ext j]? = some C := h1
  exact ⟨C, by rw [h0 _ hlt, ← hbh _ hlt]; exact h1', h3, h4⟩
theorem am_idx_ok {x pc : Nat} {cc : Int32} {e9 : UInt32} {lv : am_LV} {st : List Value} {h : am_H} (Cx : am_Cx p s mm args meth c m D ca base ext X H0) (Ev : am_Ev l s ca base ext H0) (hd : am_dec (am_by m) pc (.invokevirtual x) = true) (hk : am_lk m pc (.invokevirtual x) 10001 = true) (he : am_xtx e9.toNat = true) (hcat : Nat.ble (am_cats st) 8 = true) (hRf : 10 ≤ R.frames) (hRl : 300 ≤ R.locals) (hRc : h.length - n0 ≤ R.cells ∧ am_sz h - z0 ≤ R.slots)
    (k : am_G p l e R s mm args below meth c Q m D ca base ext H0 n0 z0 (pc + 3) lv (.int (am_ixF cc (am_txt e9.toNat) 0) :: st) h) : am_G p l e R s mm args below meth c Q m D ca base ext H0 n0 z0 pc lv (.int cc :: .float e9 :: st) h := by
  obtain ⟨hx, hb, hml, hown, hts, hK, hini, hlk, hrt, hbs, hbh, hex, hH0⟩ := Cx
  have hU : ∀ w ∈ am_tb, ∀ (a9 : Array Value) (U : State), s.WarmedH U.vm → w.before a9 U = true := fun w hw a9 U hW => am_gw_at hW (List.mem_filter.mp hw).2 (hts w hw)
  have hk2 : (am_has am_vl (am_ow m) x 10001 || am_has am_bl (am_ow m) x 10001) = true := hk
  rw [Bool.or_eq_true] at hk2
  rcases hk2 with hk2 | hk2
  · exact absurd (show 10001 < 10000 from am_blr.2.1 _ (am_has_mem hk2)) (by decide)
  obtain ⟨e1, e2⟩ := (am_blt _ (am_has_mem hk2)).1 rfl
  have e3 : am_ow m = 9 := e1
  have e4 : x = 89 := e2
  subst e4
  rw [e3] at hown
  intro ls H locs hl hw h0 hlo
  obtain ⟨hlt, C, fV, fC, d, SA, z, w9, htj⟩ := am_tj_at he Ev
  have T0 := htj s (Vm.Alike.refl _) hbh
  have hM := MetFree.toPureRet (v := some (.int (Jvm.Free.SL1IndexOf.Idx.answer SA cc 0 SA.slots.size.toInt32))) (Jvm.Free.StrIndexOf.S1.met l (ext e9.toNat) d cc z SA)
  have hans := am_answer he (ch := cc) (SA := SA) T0.1.1.sz T0.2.2.2.2.2
  exact am_pureV (own := RX9) (C := "java/lang/String") (y := ⟨"java/lang/String", "indexOf", "(I)I"⟩) (bytes := Jvm.Free.StrIndexOf.indexOf1B) (maxL := 2) (ret := some .int) (r := am_ixF cc (am_txt e9.toNat) 0) (b := ext e9.toNat) (As := [.int cc]) (rest := am_rs base ext st) hx hb (hl.1.trans hml.symm) hown (hts _ tw_l_i1) (hts _ tw_i_i1) (hts _ tw_s_i1) (hU _ tw_c_i1) (hU _ tw_n_S) (by decide) hM (fun a9 f9 o9 t9 hq => ⟨by rw [← hans]; exact hq.1, hq.2.1, hq.2.2⟩) rfl rfl (show 4 + 1 ≤ R.frames by omega) (show 8 + (2 + 11) + 160 ≤ R.locals by omega)
    (fun U hUH hW => ⟨am_S1pre (fun w hw a9 => hU w hw a9 U hW) (htj U hW.alike (fun a ha => by rw [hUH]; exact h0 a ha)), fun g mk => am_S1P (fun w hw a9 => hU w hw a9 (U.calling g mk (Value.ref (ext e9.toNat) :: [.int cc]).toArray) hW) (htj (U.calling g mk (Value.ref (ext e9.toNat) :: [.int cc]).toArray) hW.alike (fun a ha => (congrArg (fun H9 : Heap => H9[a]?) hUH).trans (h0 a ha)))⟩)
    (am_tj_obj he Ev h0 hbh) (fun sig hs9 => by
      rw [show parseMethodDescriptor (⟨"java/lang/String", "indexOf", "(I)I"⟩ : MethodName).desc = some ⟨[.int], some .int⟩ from by decide +kernel] at hs9
      cases hs9
      rfl) (am_cats8 hcat) (am_dec_ok hd rfl) hRc (k ls H locs hl hw h0 hlo)
theorem am_chr_ok {x pc : Nat} {cc : Int32} {e9 : UInt32} {lv : am_LV} {st : List Value} {h : am_H} (Cx : am_Cx p s mm args meth c m D ca base ext X H0) (Ev : am_Ev l s ca base ext H0) (hd : am_dec (am_by m) pc (.invokevirtual x) = true) (hk : am_lk m pc (.invokevirtual x) 10002 = true) (he : am_xtx e9.toNat = true) (hi : am_inb cc (am_txt e9.toNat).length = true) (hcat : Nat.ble (am_cats st) 8 = true) (hRf : 10 ≤ R.frames) (hRl : 300 ≤ R.locals) (hRc : h.length - n0 ≤ R.cells ∧ am_sz h - z0 ≤ R.slots)
    (k : am_G p l e R s mm args below meth c Q m D ca base ext H0 n0 z0 (pc + 3) lv (.int ((am_txt e9.toNat).getD cc.toNatClampNeg 0) :: st) h) : am_G p l e R s mm args below meth c Q m D ca base ext H0 n0 z0 pc lv (.int cc :: .float e9 :: st) h := by
  obtain ⟨hx, hb, hml, hown, hts, hK, hini, hlk, hrt, hbs, hbh, hex, hH0⟩ := Cx
  have hU : ∀ w ∈ am_tb, ∀ (a9 : Array Value) (U : State), s.WarmedH U.vm → w.before a9 U = true := fun w hw a9 U hW => am_gw_at hW (List.mem_filter.mp hw).2 (hts w hw)
  have hk2 : (am_has am_vl (am_ow m) x 10002 || am_has am_bl (am_ow m) x 10002) = true := hk
  rw [Bool.or_eq_true] at hk2
  rcases hk2 with hk2 | hk2
  · exact absurd (show 10002 < 10000 from am_blr.2.1 _ (am_has_mem hk2)) (by decide)
  obtain ⟨e1, e2⟩ := (am_blt _ (am_has_mem hk2)).2 rfl
  have e3 : am_ow m = 9 := e1
  have e4 : x = 166 := e2
  subst e4
  rw [e3] at hown
  unfold am_inb at hi
  rw [Bool.and_eq_true] at hi
  have hc0 : 0 ≤ cc := of_decide_eq_true hi.1
  have hc1 : cc.toNatClampNeg < (am_txt e9.toNat).length := of_decide_eq_true hi.2
  have hcc := am_nn hc0
  obtain ⟨i, hi9⟩ : ∃ i, i = cc.toNatClampNeg := ⟨_, rfl⟩
  rw [← hi9] at hcc hc1 k
  subst hcc
  have hbm : (am_txt e9.toNat).getD i 0 ∈ am_txt e9.toNat := by
    rw [List.getD_eq_getElem?_getD, List.getElem?_eq_getElem hc1]
    exact List.getElem_mem hc1
  obtain ⟨-, -, hbk, hb128⟩ := am_tx_rg _ (am_tx_sub he _ hbm)
  intro ls H locs hl hw h0 hlo
  obtain ⟨hlt, C, fV, fC, d, SA, z, w9, htj⟩ := am_tj_at he Ev
  have hM := Jvm.Free.Fmt.SCh.gets l (ext e9.toNat, C, fV, fC, d, SA, (am_txt e9.toNat).length) C.cls z i ((am_txt e9.toNat).getD i 0).toNatClampNeg w9
  exact am_pureV (own := RX9) (C := "java/lang/String") (y := ⟨"java/lang/String", "charAt", "(I)C"⟩) (bytes := Jvm.Free.Fmt.SCh.yB) (maxL := 2) (ret := some .char) (r := (am_txt e9.toNat).getD i 0) (b := ext e9.toNat) (As := [.int (Int32.ofNat i)]) (rest := am_rs base ext st) hx hb (hl.1.trans hml.symm) hown (hts _ tw_l_ch) (hts _ tw_i_ch) (hts _ tw_s_ch) (hU _ tw_c_ch) (hU _ tw_n_S) (by decide) hM (fun a9 f9 o9 t9 hq => by
      obtain ⟨v9, q1, ⟨q2, q3⟩, L9, k9, n9, q4, q5, q6, q7⟩ := hq
      obtain rfl : L9 = [] := List.eq_nil_iff_forall_not_mem.mpr fun w hw => q7 w hw
      obtain rfl : k9 = 0 := Nat.le_zero.mp q5
      obtain rfl : n9 = 0 := Nat.le_zero.mp q6
      exact ⟨by rw [q1, q2, ← hbk], q3, q4⟩) rfl rfl (show 3 + 1 ≤ R.frames by omega) (show 8 + (2 + 11) + 70 ≤ R.locals by omega)
    (fun U hUH hW => ⟨by
        show ((Cond.count 2).and (Jvm.Free.Fmt.SCh.words.foldr .and .tt)).before _ U = true
        rw [Cond.before_and, Bool.and_eq_true]
        exact ⟨rfl, atoms_intro (am_Chw (fun w hw a9 => hU w hw a9 U hW))⟩, fun g mk => by
        have T9 := htj (U.calling g mk (Value.ref (ext e9.toNat) :: [.int (Int32.ofNat i)]).toArray) hW.alike (fun a ha => (congrArg (fun H9 : Heap => H9[a]?) hUH).trans (h0 a ha))
        obtain ⟨t1, t2, t3, t4, t5, t6⟩ := T9
        exact ⟨rfl, t1, t3, t4, by rw [t6 i hc1, ← hbk], hb128, t5⟩⟩)
    (am_tj_obj he Ev h0 hbh) (fun sig hs9 => by
      rw [show parseMethodDescriptor (⟨"java/lang/String", "charAt", "(I)C"⟩ : MethodName).desc = some ⟨[.int], some .char⟩ from by decide +kernel] at hs9
      cases hs9
      rfl) (am_cats8 hcat) (am_dec_ok hd rfl) hRc (k ls H locs hl hw h0 hlo)
end
