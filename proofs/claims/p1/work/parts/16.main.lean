section
variable {p : Program} {l : Launch} {e : Env} {R : Room} {s : State} {mm : MethodId} {args : Array Value} {below : List Frame} {meth : Method} {c : Code} {Q : State → Prop} {m : am_M} {D : va_G} {ca : Nat → ClassId} {base : Nat} {ext : Nat → Nat} {X : am_X} {H0 : Heap} {n0 z0 : Nat}
theorem am_ret_ok {i : Instr} {pc : Nat} {lv : am_LV} {st : List Value} {h : am_H} {o : am_O} (Cx : am_Cx p s mm args meth c m D ca base ext X H0) (hd : am_dec (am_by m) pc i = true) (hs : am_ret m i st h = some o) :
    am_G p l e R s mm args below meth c (vx_MQ below (am_Qc D ca base ext H0 o) (am_XC D ca base ext H0 o) args s (h.length - n0) (am_sz h - z0) (fun q => base ≤ q)) m D ca base ext H0 n0 z0 pc lv st h := by
  obtain ⟨hx, hb, hml, hown, hts, hK, hini, hlk, hrt, -⟩ := Cx
  intro ls H locs hl hw h0 hlo
  unfold am_ret at hs
  split at hs
  · rename_i v
    split at hs
    · rename_i hfit
      cases hs
      refine vx_ret ?_
      unfold am_rfit at hfit
      split at hfit
      · rename_i ht
        exact W.iret hx hb (hrt.trans ht) (fun t ht _ => ⟨rfl, by rw [ht]; exact hw, by rw [ht]; exact h0⟩) hlo (am_dec_ok hd rfl)
      · rename_i ht
        refine W.zret hx hb (hrt.trans ht) ?_ (fun t ht _ => ⟨rfl, by rw [ht]; exact hw, by rw [ht]; exact h0⟩) hlo (am_dec_ok hd rfl)
        rw [Bool.or_eq_true, beq_iff_eq, beq_iff_eq] at hfit
        rcases hfit with rfl | rfl
        · exact (by decide : narrow .boolean (.int 0) = .int 0)
        · exact (by decide : narrow .boolean (.int 1) = .int 1)
      · rename_i ht
        exact W.zret hx hb (hrt.trans ht) (am_nchar hfit) (fun t ht _ => ⟨rfl, by rw [ht]; exact hw, by rw [ht]; exact h0⟩) hlo (am_dec_ok hd rfl)
      · cases hfit
    · cases hs
  · split at hs
    · rename_i ht
      cases hs
      exact vx_ret (W.lret hx hb (hrt.trans ht) (fun t ht _ => ⟨rfl, by rw [ht]; exact hw, by rw [ht]; exact h0⟩) hlo (am_dec_ok hd rfl))
    · cases hs
  · split at hs
    · rename_i ht
      cases hs
      exact vx_ret (W.aret hx hb (hrt.trans ht) (Or.inl ⟨_, rfl⟩) (Or.inr ⟨_, rfl⟩) (fun t ht _ => ⟨rfl, by rw [ht]; exact hw, by rw [ht]; exact h0⟩) hlo (am_dec_ok hd rfl))
    · rename_i ht
      cases hs
      exact vx_ret (W.aret hx hb (hrt.trans ht) (Or.inr ⟨_, rfl⟩) (Or.inr ⟨_, rfl⟩) (fun t ht _ => ⟨rfl, by rw [ht]; exact hw, by rw [ht]; exact h0⟩) hlo (am_dec_ok hd rfl))
    · cases hs
  · split at hs
    · rename_i ht
      cases hs
      exact vx_ret (W.vret hx hb (hrt.trans ht) (fun t ht _ => ⟨rfl, by rw [ht]; exact hw, by rw [ht]; exact h0⟩) hlo (am_dec_ok hd rfl))
    · cases hs
  · cases hs
/-- a call that came back with a value -/
theorem am_cont {pc : Nat} {lv : am_LV} {rest : List Value} {st0 : List Value} {h h1 : am_H} {v : Option Value} {a9 : Array Value} {H : Heap} {locs : List Loc} {ls : Array Slot} (hn : n0 ≤ h.length) (hz : z0 ≤ am_sz h) (hle : am_le h h1)
    (hr : va_Run p l e R s mm args below meth c H locs (h.length - n0) (am_sz h - z0) (h1.length - h.length) (am_sz h1 - am_sz h) (F0 mm pc ls st0) (am_rs base ext rest) (am_Qc D ca base ext H0 (.inl (v, h1)) a9) (fun q => base ≤ q))
    (hl : lv_has ls (am_mx m) (am_rl base ext lv)) (hlo : ∀ z ∈ locs, base ≤ z.base) (k : am_G p l e R s mm args below meth c Q m D ca base ext H0 n0 z0 (pc + 3) lv (v.toList ++ rest) h1) :
    W p l e R s mm args below meth c H locs (h.length - n0) (am_sz h - z0) Q (F0 mm pc ls st0) := by
  intro T hT Y
  obtain ⟨v9, st9, t, T1, L, g0, Y1, hL, e1, e2, ⟨hv, hw1, h01⟩, st⟩ := hr T hT Y
  cases hv
  rw [← e1] at hw1 h01
  have h5 := k ls T1.heap (locs ++ L) hl hw1 h01 (fun z hz9 => by
    rcases List.mem_append.mp hz9 with hz9 | hz9
    · exact hlo z hz9
    · exact hL z hz9)
  have ea : h.length - n0 + (h1.length - h.length) = h1.length - n0 := by have := hle.1; omega
  have eb : am_sz h - z0 + (am_sz h1 - am_sz h) = am_sz h1 - z0 := by have := hle.2; omega
  rw [ea, eb] at Y1
  have ec : am_rs base ext (v.toList ++ rest) = (v.map (am_rv base ext)).toList ++ am_rs base ext rest := by cases v <;> rfl
  rw [ec] at h5
  obtain ⟨t2, a1, b1⟩ := h5 T1 rfl Y1
  exact ⟨t2, st t2 a1, b1⟩
theorem am_pc_at {as : List Value} {h : am_H} {H : Heap} (Cx : am_Cx p s mm args meth c m D ca base ext X H0) (Ev : am_Ev l s ca base ext H0) (hw : am_Wd base ext D ca h H) (h0 : ∀ q, q < base → H[q]? = H0[q]?) :
    ∀ U : State, U.heap = H → s.WarmedH U.vm → am_Pc l D ca base ext X H0 as h (am_rs base ext as).toArray U := by
  obtain ⟨hx, hb, hml, hown, hts, hK, hini, hlk, hrt, hbs, hbh, hex, hH0⟩ := Cx
  intro U hU hW
  exact ⟨rfl, by rw [hU]; exact hw.1, by rw [hU]; exact hw, by rw [hU]; exact h0, hH0, va_K.moved hW.alike hK, fun j hj => ⟨(hex j hj).1.moved hW.alike, (hex j hj).2⟩, am_Ev.moved hW Ev⟩
theorem am_ws_at {m1 : am_M} (hts : ∀ w ∈ am_tb, w.before args s = true) (hc : am_code m1 ∈ am_tb) : ∀ w ∈ am_code m1 :: am_tb, ∀ (a9 : Array Value) (U : State), s.WarmedH U.vm → w.before a9 U = true := by
  intro w hw a9 U hW
  have hmem : w ∈ am_tb := by
    rcases List.mem_cons.mp hw with rfl | h
    · exact hc
    · exact h
  exact am_gw_at hW (List.mem_filter.mp hmem).2 (hts w hmem)
theorem am_take {st as : List Value} {n : Nat} (h : (st.take n).reverse = as) : st = as.reverse ++ st.drop n := by
  rw [← h, List.reverse_reverse, List.take_append_drop]
theorem am_rs_rev (b : Nat) (x : Nat → Nat) (l9 : List Value) : am_rs b x l9.reverse = (am_rs b x l9).reverse := by simp [am_rs]
theorem am_cats8 {rest : List Value} {pc : Nat} {ls : Array Slot} {st0 : List Value} (h : Nat.ble (am_cats rest) 8 = true) : 2 * (F0 mm pc ls st0).monitorRoom + ((am_rs base ext rest).map fun v => v.category).sum ≤ 8 := by
  rw [am_rs_cats]
  have h1 : am_cats rest ≤ 8 := Nat.le_of_ble_eq_true h
  show 2 * 0 + am_cats rest ≤ 8
  omega
set_option maxRecDepth 100000 in
theorem am_lroom {w d1 L : Nat} (hw : w ≤ 22) (h : 41 * d1 + 341 ≤ L) : 8 + (w + 11) + (41 * d1 + 300) ≤ L := by omega
/-- a static method, of the same owner or another one -/
theorem am_callS_ok {x r pc d1 : Nat} {lv : am_LV} {st : List Value} {h h1 : am_H} {v : Option Value} (Cx : am_Cx p s mm args meth c m D ca base ext X H0) (Ev : am_Ev l s ca base ext H0) (hn : n0 ≤ h.length) (hz : z0 ≤ am_sz h) (hle : am_le h h1) (hd : am_dec (am_by m) pc (.invokestatic x) = true)
    (hmw : am_mw (am_m r)) (hk0 : am_kd (am_m r) = 0) (hlink : (am_hh (am_m r) = [] ∧ (Cond.methodLink (am_on.getD (am_ow m) "") x (am_nm (am_m r)) ∈ am_tb ∨ ∃ host, Cond.methodLinkNest (am_on.getD (am_ow m) "") x (am_nm (am_m r)) host ∈ am_tb)) ∨ (am_hh (am_m r) ≠ [] ∧ Cond.methodLink (am_on.getD (am_ow m) "") x (am_nm (am_m r)) ∈ am_tb))
    (hok : am_ok (am_m r) (st.take (am_na (am_m r))).reverse h = true) (hcat : Nat.ble (am_cats (st.drop (am_na (am_m r)))) 8 = true)
    (hRf : d1 + 11 ≤ R.frames) (hRl : 41 * d1 + 341 ≤ R.locals) (hRc : h1.length - n0 ≤ R.cells ∧ am_sz h1 - z0 ≤ R.slots)
    (hM : am_Met l D ca base ext X H0 d1 (am_m r) (st.take (am_na (am_m r))).reverse h (.inl (v, h1))) (k : am_G p l e R s mm args below meth c Q m D ca base ext H0 n0 z0 (pc + 3) lv (v.toList ++ st.drop (am_na (am_m r))) h1) : am_G p l e R s mm args below meth c Q m D ca base ext H0 n0 z0 pc lv st h := by
  have Cx9 := Cx
  obtain ⟨hx, hb, hml, hown, hts, hK, hini, hlk, hrt, hbs, hbh, hex, hH0⟩ := Cx
  obtain ⟨hms, hmx, hpn, hon, hmh, hpar, hcode, hinit, hstat, -⟩ := hmw
  intro ls H locs hl hw h0 hlo
  obtain ⟨as, has⟩ : ∃ as, as = (st.take (am_na (am_m r))).reverse := ⟨_, rfl⟩
  rw [← has] at hok hM
  unfold am_ok at hok
  rw [Bool.and_eq_true, Bool.and_eq_true, beq_iff_eq] at hok
  have hlen := hok.1.1
  have hM2 := am_met_of hM (fun E st9 t h9 => h9)
  have e1 := am_take has.symm
  have est : am_rs base ext st = (am_rs base ext as).reverse ++ am_rs base ext (st.drop (am_na (am_m r))) := by
    rw [← am_rs_rev, am_rs, am_rs, am_rs, ← List.map_append, ← e1]
  have hfit : h.length - n0 + (h1.length - h.length) ≤ R.cells ∧ am_sz h - z0 + (am_sz h1 - am_sz h) ≤ R.slots := by
    have := hle.1
    have := hle.2
    omega
  have hpars : ∀ sig, parseMethodDescriptor (am_nm (am_m r)).desc = some sig → (am_rs base ext as).length = sig.parameters.length := fun sig hsig => by
    have := hpar sig hsig
    rw [hk0] at this
    rw [List.length_map, hlen, this]
    simp
  have S9 : CallFix p mm c (am_by m) (am_mx m) s args am_tb (am_on.getD (am_ow m) "") := ⟨hx, hb, hml, hown, hts⟩
  have hP9 : PreS s H (am_Pc l D ca base ext X H0 as h) (am_rs base ext as) := ⟨am_Pc_blind, am_pc_at Cx9 Ev hw h0⟩
  rcases hlink with ⟨hh, hlk2⟩ | ⟨hh, hlk2⟩
  · have hce : am_code (am_m r) = .code (am_nm (am_m r)) (am_by (am_m r)) (am_mx (am_m r)) (am_rt (am_m r)) := by unfold am_code; rw [hh]; rfl
    have hb9 : (am_rm d1 (h1.length - h.length) (am_sz h1 - am_sz h)).cells = h1.length - h.length ∧ (am_rm d1 (h1.length - h.length) (am_sz h1 - am_sz h)).slots = am_sz h1 - am_sz h ∧ (am_rm d1 (h1.length - h.length) (am_sz h1 - am_sz h)).frames + 1 ≤ R.frames ∧ 8 + (am_mx (am_m r) + 11) + (am_rm d1 (h1.length - h.length) (am_sz h1 - am_sz h)).locals ≤ R.locals :=
      ⟨rfl, rfl, hRf, am_lroom hmx hRl⟩
    have hcm : Cond.code (am_nm (am_m r)) (am_by (am_m r)) (am_mx (am_m r)) (am_rt (am_m r)) ∈ am_code (am_m r) :: am_tb := by rw [hce]; exact List.mem_cons_self
    have hcb : (Cond.code (am_nm (am_m r)) (am_by (am_m r)) (am_mx (am_m r)) (am_rt (am_m r))).before args s = true := by rw [← hce]; exact hts _ hcode
    rcases hlk2 with hlk2 | ⟨host, hlk2⟩
    · have hrun := va_runS (locs := locs) (cells := h.length - n0) (slots := am_sz h - z0) (below := below) (e := e) (meth := meth) (R := R) (g := F0 mm pc ls (am_rs base ext st)) (rest := am_rs base ext (st.drop (am_na (am_m r)))) (n := (am_rs base ext as).length) S9 hM2 ⟨⟨hb9.1, hb9.2.1, hb9.2.2.1, hb9.2.2.2, am_ws_at hts hcode, hcm, hcb, hts _ hinit, hmh, hpars, hts _ hlk2⟩, hts _ (hstat hk0)⟩ hP9 rfl rfl hl.1 est (am_cats8 hcat) (am_dec_ok hd rfl) hfit
      exact am_cont (m := m) hn hz hle hrun hl hlo k
    · have hrun := va_runSN (locs := locs) (cells := h.length - n0) (slots := am_sz h - z0) (below := below) (e := e) (meth := meth) (R := R) (g := F0 mm pc ls (am_rs base ext st)) (rest := am_rs base ext (st.drop (am_na (am_m r)))) (n := (am_rs base ext as).length) S9 hM2 ⟨⟨⟨hb9.1, hb9.2.1, hb9.2.2.1, hb9.2.2.2, am_ws_at hts hcode, hcm⟩, hcb, hts _ hinit, hmh, hpars, hts _ hlk2⟩, hts _ (hstat hk0), trivial⟩ hP9 rfl rfl hl.1 est (am_cats8 hcat) (am_dec_ok hd rfl) hfit
      exact am_cont (m := m) hn hz hle hrun hl hlo k
  · have hce : am_code (am_m r) = .codeWith (am_nm (am_m r)) (am_by (am_m r)) (am_mx (am_m r)) (am_rt (am_m r)) (am_hh (am_m r)) := by
      unfold am_code
      rw [if_neg]
      intro h9
      exact hh (List.isEmpty_iff.mp h9)
    have hrun := vx_runSW (locs := locs) (cells := h.length - n0) (slots := am_sz h - z0) (below := below) (e := e) (meth := meth) (R := R) (g := F0 mm pc ls (am_rs base ext st)) (rest := am_rs base ext (st.drop (am_na (am_m r)))) (n := (am_rs base ext as).length) (bytes := am_by (am_m r)) (maxL := am_mx (am_m r)) (ret := am_rt (am_m r)) (hh := am_hh (am_m r)) S9 hM2
      ⟨⟨rfl, rfl, hRf, am_lroom hmx hRl, am_ws_at hts hcode, by rw [← hce]; exact List.mem_cons_self⟩, by rw [← hce]; exact hts _ hcode, hts _ hinit, hmh, hpars, hts _ hlk2, hts _ (hstat hk0)⟩ hP9 rfl rfl hl.1 est (am_cats8 hcat) (am_dec_ok hd rfl) hfit
    exact am_cont (m := m) hn hz hle hrun hl hlo k
end
