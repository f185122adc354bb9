section
variable {p : Program} {l : Launch} {e : Env} {R : Room} {s : State} {mm : MethodId} {args : Array Value} {below : List Frame} {meth : Method} {c : Code} {Q : State → Prop} {m : am_M} {D : va_G} {ca : Nat → ClassId} {base : Nat} {ext : Nat → Nat} {X : am_X} {H0 : Heap} {n0 z0 : Nat}
theorem am_ok_obj {m1 : am_M} {as : List Value} {h : am_H} (hok : am_ok m1 as h = true) (hk : am_kd m1 ≠ 0) : as.length = am_na m1 ∧ am_cats as ≤ am_mx m1 ∧ ∃ a as1 fs, as = .ref a :: as1 ∧ h[a]? = some (.inr (am_ow m1, fs)) := by
  unfold am_ok at hok
  rw [Bool.and_eq_true, Bool.and_eq_true, beq_iff_eq, Bool.or_eq_true, beq_iff_eq] at hok
  obtain ⟨⟨h1, h2⟩, h3⟩ := hok
  refine ⟨h1, Nat.le_of_ble_eq_true h2, ?_⟩
  rcases h3 with h3 | h3
  · exact absurd h3 hk
  · split at h3
    · rename_i a as1
      split at h3
      · rename_i c9 fs ha
        rw [beq_iff_eq] at h3
        subst h3
        exact ⟨a, as1, fs, rfl, ha⟩
      · cases h3
    · cases h3
/-- a constructor -/
theorem am_callI_ok {x r pc d1 : Nat} {lv : am_LV} {st : List Value} {h h1 : am_H} {v : Option Value} (Cx : am_Cx p s mm args meth c m D ca base ext X H0) (Ev : am_Ev l s ca base ext H0) (hn : n0 ≤ h.length) (hz : z0 ≤ am_sz h) (hle : am_le h h1) (hd : am_dec (am_by m) pc (.invokespecial x) = true)
    (hmw : am_mw (am_m r)) (hk2 : am_kd (am_m r) = 2) (hlink : Cond.methodLink (am_on.getD (am_ow m) "") x (am_nm (am_m r)) ∈ am_tb ∨ ∃ host, Cond.methodLinkNest (am_on.getD (am_ow m) "") x (am_nm (am_m r)) host ∈ am_tb)
    (hok : am_ok (am_m r) (st.take (am_na (am_m r))).reverse h = true) (hcat : Nat.ble (am_cats (st.drop (am_na (am_m r)))) 8 = true)
    (hRf : d1 + 11 ≤ R.frames) (hRl : 41 * d1 + 341 ≤ R.locals) (hRc : h1.length - n0 ≤ R.cells ∧ am_sz h1 - z0 ≤ R.slots)
    (hM : am_Met l D ca base ext X H0 d1 (am_m r) (st.take (am_na (am_m r))).reverse h (.inl (v, h1))) (k : am_G p l e R s mm args below meth c Q m D ca base ext H0 n0 z0 (pc + 3) lv (v.toList ++ st.drop (am_na (am_m r))) h1) : am_G p l e R s mm args below meth c Q m D ca base ext H0 n0 z0 pc lv st h := by
  have Cx9 := Cx
  obtain ⟨hx, hb, hml, hown, hts, hK, hini, hlk, hrt, hbs, hbh, hex, hH0⟩ := Cx
  obtain ⟨hms, hmx, hpn, hon, hmh, hpar, hcode, hinit, hstat, hinst, hsel, hctor⟩ := hmw
  have hkn : am_kd (am_m r) ≠ 0 := by rw [hk2]; decide
  obtain ⟨hin1, hin2, hhh⟩ := hinst hkn
  obtain ⟨hname, hnone⟩ := hctor hk2
  intro ls H locs hl hw h0 hlo
  obtain ⟨as, has⟩ : ∃ as, as = (st.take (am_na (am_m r))).reverse := ⟨_, rfl⟩
  rw [← has] at hok hM
  obtain ⟨hlen, -, a, as1, fs, rfl, ha⟩ := am_ok_obj hok hkn
  have hM2 := am_met_of hM (fun E st9 t h9 => h9)
  have e1 := am_take has.symm
  have est : am_rs base ext st = (am_rs base ext as1).reverse ++ .ref (base + a) :: am_rs base ext (st.drop (am_na (am_m r))) := by
    have e2 : am_rs base ext st = (am_rs base ext (.ref a :: as1)).reverse ++ am_rs base ext (st.drop (am_na (am_m r))) := by
      rw [← am_rs_rev, am_rs, am_rs, am_rs, ← List.map_append, ← e1]
    rw [e2]
    simp [am_rs, am_rv]
  have hfit : h.length - n0 + (h1.length - h.length) ≤ R.cells ∧ am_sz h - z0 + (am_sz h1 - am_sz h) ≤ R.slots := by
    have := hle.1
    have := hle.2
    omega
  have hpars : ∀ sig, parseMethodDescriptor (am_nm (am_m r)).desc = some sig → (am_rs base ext as1).length = sig.parameters.length := fun sig hsig => by
    have h9 := hpar sig hsig
    rw [if_neg hkn] at h9
    rw [List.length_cons] at hlen
    rw [List.length_map]
    omega
  have S9 : CallFix p mm c (am_by m) (am_mx m) s args am_tb (am_on.getD (am_ow m) "") := ⟨hx, hb, hml, hown, hts⟩
  have hP9 : PreS s H (am_Pc l D ca base ext X H0 (.ref a :: as1) h) (.ref (base + a) :: am_rs base ext as1) := ⟨am_Pc_blind, am_pc_at Cx9 Ev hw h0⟩
  have hce : am_code (am_m r) = .code (am_nm (am_m r)) (am_by (am_m r)) (am_mx (am_m r)) none := by unfold am_code; rw [hhh, hnone]; rfl
  have hcm : Cond.code (am_nm (am_m r)) (am_by (am_m r)) (am_mx (am_m r)) none ∈ am_code (am_m r) :: am_tb := by rw [hce]; exact List.mem_cons_self
  have hcb : (Cond.code (am_nm (am_m r)) (am_by (am_m r)) (am_mx (am_m r)) none).before args s = true := by rw [← hce]; exact hts _ hcode
  rcases hlink with hlk2 | ⟨host, hlk2⟩
  · have hrun := va_runI (locs := locs) (cells := h.length - n0) (slots := am_sz h - z0) (below := below) (e := e) (meth := meth) (R := R) (g := F0 mm pc ls (am_rs base ext st)) (rest := am_rs base ext (st.drop (am_na (am_m r)))) (n := (am_rs base ext as1).length) S9 hM2 ⟨⟨rfl, rfl, hRf, am_lroom hmx hRl, am_ws_at hts hcode, hcm, hcb, hts _ hinit, hmh, hpars, hts _ hlk2⟩, hname, hts _ hin1⟩ hP9 rfl rfl hl.1 est (am_cats8 hcat) (am_dec_ok hd rfl) hfit
    exact am_cont (m := m) hn hz hle hrun hl hlo k
  · have hrun := va_runIN (locs := locs) (cells := h.length - n0) (slots := am_sz h - z0) (below := below) (e := e) (meth := meth) (R := R) (g := F0 mm pc ls (am_rs base ext st)) (rest := am_rs base ext (st.drop (am_na (am_m r)))) (n := (am_rs base ext as1).length) S9 hM2 ⟨⟨⟨rfl, rfl, hRf, am_lroom hmx hRl, am_ws_at hts hcode, hcm⟩, hcb, hts _ hinit, hmh, hpars, hts _ hlk2⟩, hname, hts _ hin1⟩ hP9 rfl rfl hl.1 est (am_cats8 hcat) (am_dec_ok hd rfl) hfit
    exact am_cont (m := m) hn hz hle hrun hl hlo k
/-- a method of an object: it returns or throws -/
theorem am_callV_ok {x r pc d1 : Nat} {lv : am_LV} {st : List Value} {h : am_H} {o1 : am_O} (Cx : am_Cx p s mm args meth c m D ca base ext X H0) (Ev : am_Ev l s ca base ext H0) (hn : n0 ≤ h.length) (hz : z0 ≤ am_sz h) (hle : am_le h (am_oh o1)) (hd : am_dec (am_by m) pc (.invokevirtual x) = true)
    (hmw : am_mw (am_m r)) (hk1 : am_kd (am_m r) = 1) (hlink : Cond.methodLink (am_on.getD (am_ow m) "") x (am_nm (am_m r)) ∈ am_tb)
    (hok : am_ok (am_m r) (st.take (am_na (am_m r))).reverse h = true) (hcat : Nat.ble (am_cats (st.drop (am_na (am_m r)))) 8 = true)
    (hRf : d1 + 11 ≤ R.frames) (hRl : 41 * d1 + 341 ≤ R.locals) (hRc : (am_oh o1).length - n0 ≤ R.cells ∧ am_sz (am_oh o1) - z0 ≤ R.slots)
    (hM : am_Met l D ca base ext X H0 d1 (am_m r) (st.take (am_na (am_m r))).reverse h o1)
    (kret : ∀ v h1, o1 = .inl (v, h1) → am_G p l e R s mm args below meth c Q m D ca base ext H0 n0 z0 (pc + 3) lv (v.toList ++ st.drop (am_na (am_m r))) h1)
    (kthr : ∀ x9 h1, o1 = .inr (x9, h1) → x9 < 3 → ∀ (ls : Array Slot) (H1 : Heap) (locs1 : List Loc) (q : Addr) (ce : Cell), lv_has ls (am_mx m) (am_rl base ext lv) → am_Wd base ext D ca h1 H1 → (∀ q9, q9 < base → H1[q9]? = H0[q9]?) → (∀ z ∈ locs1, base ≤ z.base) → H1[q]? = some ce → ce.vm = .none → s.vm.findClass (am_xn x9) = some ce.cls →
      vx_W p l e R s mm args below meth c H1 locs1 (h1.length - n0) (am_sz h1 - z0) Q (F0 mm pc ls (am_rs base ext (st.drop (am_na (am_m r))))) q) : am_G p l e R s mm args below meth c Q m D ca base ext H0 n0 z0 pc lv st h := by
  have Cx9 := Cx
  obtain ⟨hx, hb, hml, hown, hts, hK, hini, hlk, hrt, hbs, hbh, hex, hH0⟩ := Cx
  obtain ⟨hms, hmx, hpn, hon, hmh, hpar, hcode, hinit, hstat, hinst, hsel, hctor⟩ := hmw
  have hkn : am_kd (am_m r) ≠ 0 := by rw [hk1]; decide
  obtain ⟨hin1, hin2, hhh⟩ := hinst hkn
  intro ls H locs hl hw h0 hlo
  obtain ⟨as, has⟩ : ∃ as, as = (st.take (am_na (am_m r))).reverse := ⟨_, rfl⟩
  rw [← has] at hok hM
  obtain ⟨hlen, -, a, as1, fs, rfl, ha⟩ := am_ok_obj hok hkn
  have e1 := am_take has.symm
  have est : am_rs base ext st = (am_rs base ext as1).reverse ++ .ref (base + a) :: am_rs base ext (st.drop (am_na (am_m r))) := by
    have e2 : am_rs base ext st = (am_rs base ext (.ref a :: as1)).reverse ++ am_rs base ext (st.drop (am_na (am_m r))) := by
      rw [← am_rs_rev, am_rs, am_rs, am_rs, ← List.map_append, ← e1]
    rw [e2]
    simp [am_rs, am_rv]
  have hfit : h.length - n0 + ((am_oh o1).length - h.length) ≤ R.cells ∧ am_sz h - z0 + (am_sz (am_oh o1) - am_sz h) ≤ R.slots := by
    have := hle.1
    have := hle.2
    omega
  have hpars : ∀ sig, parseMethodDescriptor (am_nm (am_m r)).desc = some sig → (am_rs base ext as1).length = sig.parameters.length := fun sig hsig => by
    have h9 := hpar sig hsig
    rw [if_neg hkn] at h9
    rw [List.length_cons] at hlen
    rw [List.length_map]
    omega
  have S9 : CallFix p mm c (am_by m) (am_mx m) s args am_tb (am_on.getD (am_ow m) "") := ⟨hx, hb, hml, hown, hts⟩
  have hcl := am_clT _ hin2
  have hobj : ∃ cellB : Cell, H[base + a]? = some cellB ∧ cellB.vm.isStatics = false ∧ s.vm.findClass (am_nm (am_m r)).cls = some cellB.cls := by
    obtain ⟨cell, q1, q2, q3, -⟩ := hw.2 a _ ha _ hcl
    refine ⟨cell, q1, by rw [q3]; rfl, ?_⟩
    have h9 := (hK.1 _ _ hcl).2.1
    rw [q2, ← hon]
    exact h9
  have hP9 : PreV s H (am_nm (am_m r)).cls (base + a) (am_Pc l D ca base ext X H0 (.ref a :: as1) h) (am_rs base ext as1) := ⟨am_Pc_blind, hobj, am_pc_at Cx9 Ev hw h0⟩
  have hce : am_code (am_m r) = .code (am_nm (am_m r)) (am_by (am_m r)) (am_mx (am_m r)) (am_rt (am_m r)) := by unfold am_code; rw [hhh]; rfl
  have hcm : Cond.code (am_nm (am_m r)) (am_by (am_m r)) (am_mx (am_m r)) (am_rt (am_m r)) ∈ am_code (am_m r) :: am_tb := by rw [hce]; exact List.mem_cons_self
  have hcb : (Cond.code (am_nm (am_m r)) (am_by (am_m r)) (am_mx (am_m r)) (am_rt (am_m r))).before args s = true := by rw [← hce]; exact hts _ hcode
  have hrun := vx_runV (locs := locs) (cells := h.length - n0) (slots := am_sz h - z0) (below := below) (e := e) (meth := meth) (R := R) (g := F0 mm pc ls (am_rs base ext st)) (rest := am_rs base ext (st.drop (am_na (am_m r)))) (n := (am_rs base ext as1).length) S9 hM ⟨⟨rfl, rfl, hRf, am_lroom hmx hRl, am_ws_at hts hcode, hcm, hcb, hts _ hinit, hmh, hpars, hts _ hlink⟩, hts _ hin1, hts _ (hsel hk1)⟩ hP9 rfl rfl hl.1 est (am_cats8 hcat) (am_dec_ok hd rfl) hfit
  have ea : h.length - n0 + ((am_oh o1).length - h.length) = (am_oh o1).length - n0 := by have := hle.1; omega
  have eb : am_sz h - z0 + (am_sz (am_oh o1) - am_sz h) = am_sz (am_oh o1) - z0 := by have := hle.2; omega
  intro T hT Y
  rcases hrun T hT Y with ⟨v9, st9, t, T1, L, g0, Y1, hL, e3, e2, hq, st2⟩ | ⟨q, st9, t, T1, L, E, ce, g0, Y1, hL, e3, e2, hxc, hce2, hcv, hcl2, st2⟩
  · rw [ea, eb] at Y1
    have hlo1 : ∀ z ∈ locs ++ L, base ≤ z.base := fun z hz9 => by
      rcases List.mem_append.mp hz9 with hz9 | hz9
      · exact hlo z hz9
      · exact hL z hz9
    rcases o1 with ⟨v, h1⟩ | ⟨x9, h1⟩
    · obtain ⟨hv, hw1, h01⟩ := hq
      cases hv
      rw [← e3] at hw1 h01
      have h5 := kret v h1 rfl ls T1.heap (locs ++ L) hl hw1 h01 hlo1
      have ec : am_rs base ext (v.toList ++ st.drop (am_na (am_m r))) = (v.map (am_rv base ext)).toList ++ am_rs base ext (st.drop (am_na (am_m r))) := by cases v <;> rfl
      rw [ec] at h5
      obtain ⟨t2, a1, b1⟩ := h5 T1 rfl Y1
      exact ⟨t2, st2 t2 a1, b1⟩
    · exact absurd hq id
  · rw [ea, eb] at Y1
    have hlo1 : ∀ z ∈ locs ++ L, base ≤ z.base := fun z hz9 => by
      rcases List.mem_append.mp hz9 with hz9 | hz9
      · exact hlo z hz9
      · exact hL z hz9
    rcases o1 with ⟨v, h1⟩ | ⟨x9, h1⟩
    · exact absurd hxc id
    · obtain ⟨hx3, rfl, hw1, h01⟩ := hxc
      rw [← e3] at hw1 h01 hce2
      obtain ⟨t2, a1, b1⟩ := kthr x9 h1 rfl hx3 ls T1.heap (locs ++ L) q ce hl hw1 h01 hlo1 hce2 hcv hcl2 T1 rfl Y1
      exact ⟨t2, st2.trans a1, b1⟩
end
