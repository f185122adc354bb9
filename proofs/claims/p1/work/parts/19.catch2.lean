/-- what the tables must say of every entry that calls (a program proves it of the tables as they are) -/
def am_AL : Prop :=
  (∀ q ∈ am_vl, am_mw (am_m q.2.2) ∧ am_kd (am_m q.2.2) = 1 ∧ Cond.methodLink (am_on.getD q.1 "") q.2.1 (am_nm (am_m q.2.2)) ∈ am_tb) ∧
  (∀ q ∈ am_il, am_mw (am_m q.2.2) ∧ am_kd (am_m q.2.2) = 2 ∧ Cond.methodLink (am_on.getD q.1 "") q.2.1 (am_nm (am_m q.2.2)) ∈ am_tb) ∧
  (∀ q ∈ am_in, am_mw (am_m q.2.2) ∧ am_kd (am_m q.2.2) = 2 ∧ ∃ host, Cond.methodLinkNest (am_on.getD q.1 "") q.2.1 (am_nm (am_m q.2.2)) host ∈ am_tb) ∧
  (∀ q ∈ am_tl, am_mw (am_m q.2.2) ∧ am_kd (am_m q.2.2) = 0 ∧ am_hh (am_m q.2.2) = [] ∧ Cond.methodLink (am_on.getD q.1 "") q.2.1 (am_nm (am_m q.2.2)) ∈ am_tb) ∧
  (∀ q ∈ am_tn, am_mw (am_m q.2.2) ∧ am_kd (am_m q.2.2) = 0 ∧ am_hh (am_m q.2.2) = [] ∧ ∃ host, Cond.methodLinkNest (am_on.getD q.1 "") q.2.1 (am_nm (am_m q.2.2)) host ∈ am_tb) ∧
  (∀ q ∈ am_tw, am_mw (am_m q.2.2) ∧ am_kd (am_m q.2.2) = 0 ∧ am_hh (am_m q.2.2) ≠ [] ∧ Cond.methodLink (am_on.getD q.1 "") q.2.1 (am_nm (am_m q.2.2)) ∈ am_tb) ∧
  (∀ q ∈ am_bl, q.2.2 = 10003 → Cond.methodLink (am_on.getD q.1 "") q.2.1 Lib.objectInit ∈ am_tb) ∧ Cond.instanceMethod Lib.objectInit ∈ am_tb ∧ Cond.code Lib.objectInit ⟨#[0xb1]⟩ 1 none ∈ am_tb ∧
  (∀ q ∈ am_bl, q.2.2 = 10000 → Cond.methodLink (am_on.getD q.1 "") q.2.1 arraycopyName ∈ am_tb) ∧ Cond.native arraycopyName ∈ am_tb ∧ Cond.static arraycopyName ∈ am_tb ∧ Cond.initialized "java/lang/System" ∈ am_tb
theorem am_blr : (∀ q ∈ am_bl, 10000 ≤ q.2.2) ∧ (∀ q ∈ am_vl, q.2.2 < 10000) ∧ (∀ q ∈ am_tl, q.2.2 < 10000) ∧ (∀ q ∈ am_tn, q.2.2 < 10000) ∧ ∀ q ∈ am_tw, q.2.2 < 10000 := by decide +kernel
theorem am_cat0 : ∀ q ∈ am_cat, q.1.2 ≠ 0 ∧ q.2 < 3 := by decide
theorem am_lookup_mem2 {α β : Type} [BEq α] [LawfulBEq α] {l9 : List (α × β)} {k : α} {v : β} (h : l9.lookup k = some v) : (k, v) ∈ l9 := by
  induction l9 with
  | nil => cases h
  | cons q r ih =>
    obtain ⟨a, b⟩ := q
    rw [List.lookup_cons] at h
    split at h
    · rename_i hb
      cases h
      rw [beq_iff_eq] at hb
      subst hb
      exact List.mem_cons_self
    · exact List.mem_cons_of_mem _ (ih h)
theorem am_hd_s {m : am_M} {pc x : Nat} : ∀ (hh : List (Nat × Nat × Nat × Nat)) (pc1 k : Nat), am_hd m pc x hh = some (pc1, k) →
    ∃ (pre : List (Nat × Nat × Nat × Nat)) (a b g t : Nat) (suf : List (Nat × Nat × Nat × Nat)), hh = pre ++ (a, b, g, t) :: suf ∧ a ≤ pc ∧ pc < b ∧ ((am_ow m, t), x) ∈ am_cat ∧ ((∃ (i : Fin 4) (r9 : Nat), am_at m g = some (.astore_n i, r9) ∧ pc1 = g + 1 ∧ k = i) ∨ (∃ (i r9 : Nat), am_at m g = some (.astore i, r9) ∧ pc1 = g + 2 ∧ k = i)) ∧
      ∀ z ∈ pre, ¬ (z.1 ≤ pc ∧ pc < z.2.1) ∨ ∃ y, y ≠ x ∧ ((am_ow m, z.2.2.2), y) ∈ am_cat := by
  intro hh
  induction hh with
  | nil => intro pc1 k h; cases h
  | cons z r ih =>
    obtain ⟨a, b, g, t⟩ := z
    intro pc1 k h
    unfold am_hd at h
    split at h
    · rename_i hc
      rw [Bool.and_eq_true, Nat.ble_eq, Nat.blt_eq] at hc
      split at h
      · rename_i y hy
        split at h
        · rename_i hyx
          rw [beq_iff_eq] at hyx
          subst hyx
          split at h
          · rename_i i r9 hi
            cases h
            exact ⟨[], a, b, g, t, r, rfl, hc.1, hc.2, am_lookup_mem2 hy, Or.inl ⟨i, r9, hi, rfl, rfl⟩, fun z hz => by cases hz⟩
          · rename_i i r9 hi
            cases h
            exact ⟨[], a, b, g, t, r, rfl, hc.1, hc.2, am_lookup_mem2 hy, Or.inr ⟨_, _, hi, rfl, rfl⟩, fun z hz => by cases hz⟩
          · cases h
        · rename_i hyx
          obtain ⟨pre, a1, b1, g1, t1, suf, e1, e2, e3, e4, e5, e8⟩ := ih _ _ h
          refine ⟨(a, b, g, t) :: pre, a1, b1, g1, t1, suf, by rw [e1]; rfl, e2, e3, e4, e5, fun z hz => ?_⟩
          rcases List.mem_cons.mp hz with rfl | hz
          · exact Or.inr ⟨y, fun h9 => hyx (by rw [h9]; exact beq_self_eq_true _), am_lookup_mem2 hy⟩
          · exact e8 z hz
      · cases h
    · rename_i hc
      rw [Bool.and_eq_true, Nat.ble_eq, Nat.blt_eq] at hc
      obtain ⟨pre, a1, b1, g1, t1, suf, e1, e2, e3, e4, e5, e8⟩ := ih _ _ h
      refine ⟨(a, b, g, t) :: pre, a1, b1, g1, t1, suf, by rw [e1]; rfl, e2, e3, e4, e5, fun z hz => ?_⟩
      rcases List.mem_cons.mp hz with rfl | hz
      · exact Or.inl hc
      · exact e8 z hz
theorem am_covers_yes {a b g t pc : Nat} (h1 : a ≤ pc) (h2 : pc < b) : covers (⟨a, b, g, t⟩ : ExceptionTableEntry) pc = true := by
  simp [covers, h1, h2]
theorem am_covers_no {a b g t pc : Nat} (h : ¬ (a ≤ pc ∧ pc < b)) : covers (⟨a, b, g, t⟩ : ExceptionTableEntry) pc = false := by
  simp only [covers, Bool.and_eq_false_iff, decide_eq_false_iff_not]
  by_cases h1 : a ≤ pc
  · exact Or.inr (fun h2 => h ⟨h1, h2⟩)
  · exact Or.inl h1
set_option maxRecDepth 100000 in
theorem am_olr {a b L : Nat} (h : 2 * a + b ≤ 8) (hL : 300 ≤ L) : 2 * a + b + 12 ≤ L := by omega
section
variable {p : Program} {l : Launch} {e : Env} {R : Room} {s : State} {mm : MethodId} {args : Array Value} {below : List Frame} {meth : Method} {c : Code} {Q : State → Prop} {m : am_M} {D : va_G} {ca : Nat → ClassId} {base : Nat} {ext : Nat → Nat} {X : am_X} {H0 : Heap} {n0 z0 : Nat}
theorem am_catch_ok {pc x9 pc1 k : Nat} {lv : am_LV} {rest : List Value} {h1 : am_H} (Cx : am_Cx p s mm args meth c m D ca base ext X H0) (Ev : am_Ev l s ca base ext H0) (hm : m ∈ am_ms) (htab : c.exceptionTable.toList = tableOf (am_hh m)) (hhd : am_hd m pc x9 (am_hh m) = some (pc1, k)) (hx3 : x9 < 3)
    (kk : am_G p l e R s mm args below meth c Q m D ca base ext H0 n0 z0 pc1 ((am_put1 lv k .null).drop 1) [] h1) {ls : Array Slot} {H1 : Heap} {locs1 : List Loc} {q : Addr} {ce : Cell} (hl : lv_has ls (am_mx m) (am_rl base ext lv)) (hw : am_Wd base ext D ca h1 H1) (h0 : ∀ q9, q9 < base → H1[q9]? = H0[q9]?) (hlo : ∀ z ∈ locs1, base ≤ z.base) (hce : H1[q]? = some ce) (hcv : ce.vm = .none) (hcl : s.vm.findClass (am_xn x9) = some ce.cls) :
    vx_W p l e R s mm args below meth c H1 locs1 (h1.length - n0) (am_sz h1 - z0) Q (F0 mm pc ls rest) q := by
  obtain ⟨hx, hb, hml, hown, hts, hK, hini, hlk, hrt, hbs, hbh, hex, hH0⟩ := Cx
  obtain ⟨-, -, -, -, -, hnc, -⟩ := Ev
  obtain ⟨pre, a, b, g, t, suf, e1, e2, e3, e4, e5, e8⟩ := am_hd_s _ _ _ hhd
  have hlkc : ∀ t9 y9, ((am_ow m, t9), y9) ∈ am_cat → Cond.classLink (am_on.getD (am_ow m) "") t9 (am_xn y9) ∈ am_tb := by
    intro t9 y9 h9
    have h8 := List.all_eq_true.mp am_cat_k _ h9
    rw [Bool.and_eq_true, Bool.and_eq_true, decide_eq_true_eq] at h8
    exact List.mem_filter.mpr ⟨h8.1.1, h8.1.2⟩
  have hsp : c.exceptionTable.toList = tableOf pre ++ (⟨a, b, g, t⟩ : ExceptionTableEntry) :: tableOf suf := by
    rw [htab, e1]
    simp [tableOf]
  refine am_catch (own := am_on.getD (am_ow m) "") (name := am_xn x9) (E := am_xn x9) hown (tableOf pre) ⟨a, b, g, t⟩ (tableOf suf) hsp (fun z hz => ?_) ?_ (am_cat0 _ e4).1 (hts _ (hlkc _ _ e4)) (hts _ ((am_xw x9 hx3) _ (List.mem_cons_of_mem _ (List.mem_cons_of_mem _ List.mem_cons_self))).1) hce hcv hcl ?_
  · obtain ⟨w, hw9, rfl⟩ := List.mem_map.mp hz
    rcases e8 w hw9 with h9 | ⟨y, hyx, hy⟩
    · exact Or.inl (am_covers_no h9)
    · exact Or.inr ⟨(am_cat0 _ hy).1, am_xn y, hts _ (hlkc _ _ hy), hnc x9 y hx3 (am_cat0 _ hy).2 (fun h9 => hyx h9.symm)⟩
  · exact am_covers_yes e2 e3
  · rcases e5 with ⟨i, r9, e5, rfl, rfl⟩ | ⟨i, r9, e5, rfl, rfl⟩
    · obtain ⟨d5, l5⟩ := am_at_chk hm e5
      refine lv_astore_n hx hb (am_dec_ok d5 rfl) rfl hl (Nat.blt_eq.mp l5) rfl (fun ls1 hl1 => ?_)
      rw [am_rl_filter base ext (fun a c => !(a == (i : Nat)) && !(a + 1 == (i : Nat) && c == 2)) lv] at hl1
      exact kk ls1 H1 locs1 ⟨hl1.1, hl1.2.1, fun q9 hq9 => hl1.2.2 q9 (List.mem_cons_of_mem _ hq9)⟩ hw h0 hlo
    · obtain ⟨d5, l5⟩ := am_at_chk hm e5
      refine lv_astore hx hb (am_dec_ok d5 rfl) hl (Nat.blt_eq.mp l5) rfl (fun ls1 hl1 => ?_)
      rw [am_rl_filter base ext (fun a c => !(a == k) && !(a + 1 == k && c == 2)) lv] at hl1
      exact kk ls1 H1 locs1 ⟨hl1.1, hl1.2.1, fun q9 hq9 => hl1.2.2 q9 (List.mem_cons_of_mem _ hq9)⟩ hw h0 hlo
theorem am_obi_ok {x pc a : Nat} {lv : am_LV} {st : List Value} {h : am_H} (AL : am_AL) (Cx : am_Cx p s mm args meth c m D ca base ext X H0) (hd : am_dec (am_by m) pc (.invokespecial x) = true) (hk : am_lk m pc (.invokespecial x) 10003 = true) (hcat : Nat.ble (am_cats st) 8 = true) (hRf : 1 ≤ R.frames) (hRl : 300 ≤ R.locals)
    (k : am_G p l e R s mm args below meth c Q m D ca base ext H0 n0 z0 (pc + 3) lv st h) : am_G p l e R s mm args below meth c Q m D ca base ext H0 n0 z0 pc lv (.ref a :: st) h := by
  obtain ⟨hx, hb, hml, hown, hts, hK, hini, hlk, hrt, hbs, hbh, hex, hH0⟩ := Cx
  obtain ⟨-, -, -, -, -, -, a7, a8, a9, -⟩ := AL
  intro ls H locs hl hw h0 hlo
  have hk2 : (am_has am_il (am_ow m) x 10003 || am_has am_in (am_ow m) x 10003 || am_has am_bl (am_ow m) x 10003) = true := hk
  rw [Bool.or_eq_true, Bool.or_eq_true] at hk2
  rcases hk2 with (hk2 | hk2) | hk2
  · have h9 := am_ilx.1 _ (am_has_mem hk2)
    exact absurd (show 10003 < 10000 from h9) (by decide)
  · have h9 := am_ilx.2 _ (am_has_mem hk2)
    exact absurd (show 10003 < 10000 from h9) (by decide)
  · have hc8 := am_cats8 (mm := mm) (pc := pc) (ls := ls) (st0 := am_rs base ext (.ref a :: st)) (base := base) (ext := ext) hcat
    exact W.objInit hx hb hown (hts _ (a7 _ (am_has_mem hk2) rfl)) (hts _ a8) (hts _ a9) rfl (hl.1.trans hml.symm) rfl (am_dec_ok hd rfl) hRf (am_olr hc8 hRl) (k ls H locs hl hw h0 hlo)
end
