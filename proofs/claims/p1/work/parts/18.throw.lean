theorem am_at_chk {m : am_M} (hm : m ∈ am_ms) {pc : Nat} {i : Instr} {r : Nat} (h : am_at m pc = some (i, r)) : am_dec (am_by m) pc i = true ∧ am_lk m pc i r = true := by
  have h1 := am_ms_k m hm
  unfold am_chk at h1
  rw [List.all_eq_true] at h1
  have key : ∀ (l9 : am_C), l9.lookup pc = some (i, r) → (pc, i, r) ∈ l9 := by
    intro l9
    induction l9 with
    | nil => intro h9; cases h9
    | cons q t ih =>
      intro h9
      obtain ⟨a, b⟩ := q
      rw [List.lookup_cons] at h9
      split at h9
      · rename_i hb
        cases h9
        rw [beq_iff_eq] at hb
        subst hb
        exact List.mem_cons_self
      · exact List.mem_cons_of_mem _ (ih h9)
  have h2 := h1 _ (key _ h)
  rw [Bool.and_eq_true] at h2
  exact h2
theorem am_nlx : ∀ q ∈ am_nl, 100 ≤ q.2.2 → q.1 = 11 ∧ q.2.2 < 103 ∧ q.2.1 = am_xik (q.2.2 - 100) := by decide
theorem am_blx : ∀ q ∈ am_bl, 10010 ≤ q.2.2 → q.2.1 = am_xic (q.2.2 - 10010) := by decide
theorem am_ilx : (∀ q ∈ am_il, q.2.2 < 10000) ∧ ∀ q ∈ am_in, q.2.2 < 10000 := by decide
theorem am_xfit : ∀ x, x < 3 → Bundle.fit (am_xn x) = true := by decide +kernel
theorem am_xufit : ∀ n ∈ am_xup, Bundle.fit n = true := by decide +kernel
set_option maxRecDepth 100000 in
theorem am_e9910 (r : Nat) : r + 9910 - 10010 = r - 100 := by omega
section
variable {p : Program} {l : Launch} {e : Env} {R : Room} {s : State} {mm : MethodId} {args : Array Value} {below : List Frame} {meth : Method} {c : Code} {Q : State → Prop} {m : am_M} {D : va_G} {ca : Nat → ClassId} {base : Nat} {ext : Nat → Nat} {X : am_X} {H0 : Heap} {n0 z0 : Nat}
theorem am_Wd.dummy {h : am_H} {H H1 : Heap} (hw : am_Wd base ext D ca h H) (hz : H1.size = H.size + 1) (oq : ∀ q, q < H.size → H1[q]? = H[q]?) : am_Wd base ext D ca (h ++ [am_dummy]) H1 :=
  hw.push (fun r hr => by cases hr) hz oq
theorem am_thr_ok {x r pc : Nat} {lv : am_LV} {st : List Value} {h : am_H} (Cx : am_Cx p s mm args meth c m D ca base ext X H0) (Ev : am_Ev l s ca base ext H0) (hm : m ∈ am_ms) (hsz : s.heap.size = base + n0) (hn : n0 ≤ h.length) (hz : z0 ≤ am_sz h)
    (htab : c.exceptionTable.toList = tableOf (am_hh m)) (hat : am_at m pc = some (.new x, r)) (h100 : 100 ≤ r) (hth : am_thr m pc r = true) (hcat : Nat.ble (am_cats st) 8 = true) (hRf : 10 ≤ R.frames) (hRl : 300 ≤ R.locals) (hRc : (h ++ [am_dummy]).length - n0 ≤ R.cells ∧ am_sz (h ++ [am_dummy]) - z0 ≤ R.slots) :
    am_G p l e R s mm args below meth c (vx_MQ below (am_Qc D ca base ext H0 (.inr (r - 100, h ++ [am_dummy]))) (am_XC D ca base ext H0 (.inr (r - 100, h ++ [am_dummy]))) args s ((h ++ [am_dummy]).length - n0) (am_sz (h ++ [am_dummy]) - z0) (fun q => base ≤ q)) m D ca base ext H0 n0 z0 pc lv st h := by
  have Cx9 := Cx
  obtain ⟨hx, hb, hml, hown, hts, hK, hini, hlk, hrt, hbs, hbh, hex, hH0⟩ := Cx
  obtain ⟨hst0, -, hU0, hN0, hstr, -⟩ := Ev
  have hU : vx_Zq Bundle.tN "UNASSIGNED_STACK" Bundle.steD (fun q => base ≤ q) s s.heap := hU0.kept (fun a _ ha => hbh a (Nat.not_le.mp ha))
  have hN : vx_Zq Bundle.tN "SUPPRESSED_SENTINEL" Bundle.listD (fun q => base ≤ q) s s.heap := hN0.kept (fun a _ ha => hbh a (Nat.not_le.mp ha))
  obtain ⟨d0, l0⟩ := am_at_chk hm hat
  obtain ⟨h11, h103, hik⟩ := am_nlx _ (am_has_mem (show am_has am_nl (am_ow m) x r = true from l0)) h100
  dsimp only at h11 h103 hik
  have hx3 : r - 100 < 3 := by omega
  have hw9 := am_xw (r - 100) hx3
  obtain ⟨hp1, hp2⟩ := am_push_n (e9 := am_dummy) hn hz
  have hs6 : am_sz1 am_dummy = 6 := rfl
  rw [hs6] at hp2
  rw [hp1, hp2] at hRc ⊢
  have hown11 : s.vm.findClass RX11 = some mm.cls := by rw [h11] at hown; exact hown
  intro ls H locs hl hw h0 hlo
  have hS := am_vaS Cx9 hsz hn hw h0 hlo
  have hlsz : ls.size = c.maxLocals := hl.1.trans hml.symm
  unfold am_thr at hth
  rw [Bool.and_eq_true, Bool.and_eq_true] at hth
  obtain ⟨hhh, -, hth⟩ := hth
  have hnil : c.exceptionTable.toList = [] := by rw [htab, List.isEmpty_iff.mp hhh]; rfl
  have hout : ∀ pc9, ∀ x9 ∈ c.exceptionTable.toList, covers x9 pc9 = false := fun pc9 x9 hx9 => by rw [hnil] at hx9; cases hx9
  have hloc : ((am_rs base ext st).map fun v => v.category).sum + (13 * (am_xup.length + 1) + 43) ≤ R.locals := by
    rw [am_rs_cats]
    have h9 : am_cats st ≤ 8 := Nat.le_of_ble_eq_true hcat
    have h8 : am_xup.length = 2 := rfl
    show am_cats st + _ ≤ _
    rw [h8]
    omega
  have hXC : ∀ t : State, s.vm.Alike t.vm → t.heap.size = H.size + 1 → (∀ q : Nat, q < H.size → t.heap[q]? = H[q]?) → am_XC D ca base ext H0 (.inr (r - 100, h ++ [am_dummy])) (am_xn (r - 100)) s t := fun t _ t2 t3 =>
    ⟨hx3, rfl, hw.dummy t2 t3, fun q hq => (t3 q (by rw [hw.1]; omega)).trans (h0 q hq)⟩
  have hk : (Cond.classLink RX11 x (am_xn (r - 100))).before args s = true := by rw [hik]; exact hts _ (hw9 _ List.mem_cons_self).1
  have hgood : ∀ ic, ic = am_xic (r - 100) → ∀ w ∈ Cond.classLink RX11 x (am_xn (r - 100)) :: Cond.initialized (am_xn (r - 100)) :: vx_atS RX11 ic (am_xn (r - 100)) am_xup, vx_ot w = true := by
    intro ic hic w hw8
    rw [hik, hic] at hw8
    rcases List.mem_cons.mp hw8 with rfl | hw8
    · exact (hw9 _ List.mem_cons_self).2
    · rcases List.mem_cons.mp hw8 with rfl | hw8
      · exact (hw9 _ (List.mem_cons_of_mem _ List.mem_cons_self)).2
      · exact (hw9 _ (List.mem_cons_of_mem _ (List.mem_cons_of_mem _ (List.mem_cons_of_mem _ hw8)))).2
  have hat9 : ∀ ic, ic = am_xic (r - 100) → ∀ w ∈ vx_atS RX11 ic (am_xn (r - 100)) am_xup, w.before args s = true := by
    intro ic hic w hw8
    rw [hic] at hw8
    exact hts _ (hw9 _ (List.mem_cons_of_mem _ (List.mem_cons_of_mem _ (List.mem_cons_of_mem _ hw8)))).1
  have hict : ∀ (y9 b9 pc9 : Nat), am_lk m pc9 (.invokespecial y9) b9 = true → b9 = r + 9910 → y9 = am_xic (r - 100) := by
    intro y9 b9 pc9 hl9 hb9
    have hl8 : (am_has am_il (am_ow m) y9 b9 || am_has am_in (am_ow m) y9 b9 || am_has am_bl (am_ow m) y9 b9) = true := hl9
    rw [Bool.or_eq_true, Bool.or_eq_true] at hl8
    rcases hl8 with (hl8 | hl8) | hl8
    · have := am_ilx.1 _ (am_has_mem hl8); dsimp only at this; omega
    · have := am_ilx.2 _ (am_has_mem hl8); dsimp only at this; omega
    · have h7 := am_blx _ (am_has_mem hl8) (by dsimp only; omega)
      dsimp only at h7
      have e9 : r + 9910 - 10010 = r - 100 := am_e9910 r
      rw [h7, hb9, e9]
  split at hth
  · rename_i r3 is r4 a3 a4
    rw [Bool.and_eq_true, List.any_eq_true] at hth
    obtain ⟨⟨tx, htx, hti⟩, hth⟩ := hth
    rw [beq_iff_eq] at hti
    subst hti
    split at hth
    · rename_i y6 b6 r9 a6 a9
      rw [beq_iff_eq] at hth
      obtain ⟨d3, -⟩ := am_at_chk hm a3
      obtain ⟨d4, -⟩ := am_at_chk hm a4
      obtain ⟨d6, l6⟩ := am_at_chk hm a6
      obtain ⟨d9, -⟩ := am_at_chk hm a9
      have hic := hict _ _ _ l6 hth
      exact am_throwS (names := am_xup) (A := fun q => base ≤ q) hx hb hst0 hown11 (am_xfit _ hx3) am_xufit hk (hts _ (hw9 _ (List.mem_cons_of_mem _ List.mem_cons_self)).1) (hstr tx htx) (hat9 _ hic) (hgood _ hic) hU hN hS hlsz (am_dec_ok d0 rfl) (am_dec_ok d3 rfl) (am_dec_ok d4 rfl) (am_dec_ok d6 rfl) (am_dec_ok d9 rfl) (hout _) (by show 2 + 3 < R.frames; omega) hloc hRc.1 hRc.2 hlk hXC hlo (Nat.le_refl _) (Nat.le_refl _)
    · cases hth
  · rename_i r3 is r4 a3 a4
    rw [Bool.and_eq_true, List.any_eq_true] at hth
    obtain ⟨⟨tx, htx, hti⟩, hth⟩ := hth
    rw [beq_iff_eq] at hti
    subst hti
    split at hth
    · rename_i y6 b6 r9 a6 a9
      rw [beq_iff_eq] at hth
      obtain ⟨d3, -⟩ := am_at_chk hm a3
      obtain ⟨d4, -⟩ := am_at_chk hm a4
      obtain ⟨d6, l6⟩ := am_at_chk hm a6
      obtain ⟨d9, -⟩ := am_at_chk hm a9
      have hic := hict _ _ _ l6 hth
      exact am_throwSW (names := am_xup) (A := fun q => base ≤ q) hx hb hst0 hown11 (am_xfit _ hx3) am_xufit hk (hts _ (hw9 _ (List.mem_cons_of_mem _ List.mem_cons_self)).1) (hstr tx htx) (hat9 _ hic) (hgood _ hic) hU hN hS hlsz (am_dec_ok d0 rfl) (am_dec_ok d3 rfl) (am_dec_ok d4 rfl) (am_dec_ok d6 rfl) (am_dec_ok d9 rfl) (hout _) (by show 2 + 3 < R.frames; omega) hloc hRc.1 hRc.2 hlk hXC hlo (Nat.le_refl _) (Nat.le_refl _)
    · cases hth
  · cases hth
end
