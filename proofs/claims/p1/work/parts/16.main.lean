section
variable {p : Program} {l : Launch} {e : Env} {R : Room} {s : State} {mm : MethodId} {args : Array Value} {below : List Frame} {meth : Method} {c : Code} {Q : State → Prop} {m : am_M} {D : va_G} {ca : Nat → ClassId} {base : Nat} {ext : Nat → Nat} {X : am_X} {H0 : Heap} {n0 z0 : Nat}
theorem am_ret_ok {i : Instr} {pc : Nat} {lv : am_LV} {st : List Value} {h : am_H} {o : am_O} (Cx : am_Cx p s mm args meth c m D ca base ext X H0) (hd : am_dec (am_by m) pc i = true) (hs : am_ret m i st h = some o) :
    am_G p l e R s mm args below meth c (vx_MQ below (am_Qc D ca base ext H0 o) (am_XC D ca base ext H0 o) args s (h.length - n0) (am_sz h - z0) (fun q => base ≤ q)) m D ca base ext H0 n0 z0 pc lv st h := sorry
/-- a call that came back with a value -/
theorem am_cont {pc : Nat} {lv : am_LV} {rest : List Value} {st0 : List Value} {h h1 : am_H} {v : Option Value} {a9 : Array Value} {H : Heap} {locs : List Loc} {ls : Array Slot} (hn : n0 ≤ h.length) (hz : z0 ≤ am_sz h) (hle : am_le h h1)
    (hr : va_Run p l e R s mm args below meth c H locs (h.length - n0) (am_sz h - z0) (h1.length - h.length) (am_sz h1 - am_sz h) (F0 mm pc ls st0) (am_rs base ext rest) (am_Qc D ca base ext H0 (.inl (v, h1)) a9) (fun q => base ≤ q))
    (hl : lv_has ls (am_mx m) (am_rl base ext lv)) (hlo : ∀ z ∈ locs, base ≤ z.base) (k : am_G p l e R s mm args below meth c Q m D ca base ext H0 n0 z0 (pc + 3) lv (v.toList ++ rest) h1) :
    W p l e R s mm args below meth c H locs (h.length - n0) (am_sz h - z0) Q (F0 mm pc ls st0) := sorry
theorem am_pc_at {as : List Value} {h : am_H} {H : Heap} (Cx : am_Cx p s mm args meth c m D ca base ext X H0) (Ev : am_Ev l s ca base ext H0) (hw : am_Wd base ext D ca h H) (h0 : ∀ q, q < base → H[q]? = H0[q]?) :
    ∀ U : State, U.heap = H → s.WarmedH U.vm → am_Pc l D ca base ext X H0 as h (am_rs base ext as).toArray U := sorry
theorem am_ws_at {m1 : am_M} (hts : ∀ w ∈ am_tb, w.before args s = true) (hc : am_code m1 ∈ am_tb) : ∀ w ∈ am_code m1 :: am_tb, ∀ (a9 : Array Value) (U : State), s.WarmedH U.vm → w.before a9 U = true := sorry
theorem am_take {st as : List Value} {n : Nat} (h : (st.take n).reverse = as) : st = as.reverse ++ st.drop n := sorry
theorem am_rs_rev (b : Nat) (x : Nat → Nat) (l9 : List Value) : am_rs b x l9.reverse = (am_rs b x l9).reverse := by simp [am_rs]
theorem am_cats8 {rest : List Value} {pc : Nat} {ls : Array Slot} {st0 : List Value} (h : Nat.ble (am_cats rest) 8 = true) : 2 * (F0 mm pc ls st0).monitorRoom + ((am_rs base ext rest).map fun v => v.category).sum ≤ 8 := sorry
set_option maxRecDepth 100000 in
theorem am_lroom {w d1 L : Nat} (hw : w ≤ 22) (h : 41 * d1 + 341 ≤ L) : 8 + (w + 11) + (41 * d1 + 300) ≤ L := by omega
/-- a static method, of the same owner or another one -/
theorem am_callS_ok {x r pc d1 : Nat} {lv : am_LV} {st : List Value} {h h1 : am_H} {v : Option Value} (Cx : am_Cx p s mm args meth c m D ca base ext X H0) (Ev : am_Ev l s ca base ext H0) (hn : n0 ≤ h.length) (hz : z0 ≤ am_sz h) (hle : am_le h h1) (hd : am_dec (am_by m) pc (.invokestatic x) = true)
    (hmw : am_mw (am_m r)) (hk0 : am_kd (am_m r) = 0) (hlink : (am_hh (am_m r) = [] ∧ (Cond.methodLink (am_on.getD (am_ow m) "") x (am_nm (am_m r)) ∈ am_tb ∨ ∃ host, Cond.methodLinkNest (am_on.getD (am_ow m) "") x (am_nm (am_m r)) host ∈ am_tb)) ∨ (am_hh (am_m r) ≠ [] ∧ Cond.methodLink (am_on.getD (am_ow m) "") x (am_nm (am_m r)) ∈ am_tb))
    (hok : am_ok (am_m r) (st.take (am_na (am_m r))).reverse h = true) (hcat : Nat.ble (am_cats (st.drop (am_na (am_m r)))) 8 = true)
    (hRf : d1 + 11 ≤ R.frames) (hRl : 41 * d1 + 341 ≤ R.locals) (hRc : h1.length - n0 ≤ R.cells ∧ am_sz h1 - z0 ≤ R.slots)
    (hM : am_Met l D ca base ext X H0 d1 (am_m r) (st.take (am_na (am_m r))).reverse h (.inl (v, h1))) (k : am_G p l e R s mm args below meth c Q m D ca base ext H0 n0 z0 (pc + 3) lv (v.toList ++ st.drop (am_na (am_m r))) h1) : am_G p l e R s mm args below meth c Q m D ca base ext H0 n0 z0 pc lv st h := sorry
end
