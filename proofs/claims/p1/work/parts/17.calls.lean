section
variable {p : Program} {l : Launch} {e : Env} {R : Room} {s : State} {mm : MethodId} {args : Array Value} {below : List Frame} {meth : Method} {c : Code} {Q : State → Prop} {m : am_M} {D : va_G} {ca : Nat → ClassId} {base : Nat} {ext : Nat → Nat} {X : am_X} {H0 : Heap} {n0 z0 : Nat}
theorem am_ok_obj {m1 : am_M} {as : List Value} {h : am_H} (hok : am_ok m1 as h = true) (hk : am_kd m1 ≠ 0) : as.length = am_na m1 ∧ am_cats as ≤ am_mx m1 ∧ ∃ a as1 fs, as = .ref a :: as1 ∧ h[a]? = some (.inr (am_ow m1, fs)) := sorry
/-- a constructor -/
theorem am_callI_ok {x r pc d1 : Nat} {lv : am_LV} {st : List Value} {h h1 : am_H} {v : Option Value} (Cx : am_Cx p s mm args meth c m D ca base ext X H0) (Ev : am_Ev l s ca base ext H0) (hn : n0 ≤ h.length) (hz : z0 ≤ am_sz h) (hle : am_le h h1) (hd : am_dec (am_by m) pc (.invokespecial x) = true)
    (hmw : am_mw (am_m r)) (hk2 : am_kd (am_m r) = 2) (hlink : Cond.methodLink (am_on.getD (am_ow m) "") x (am_nm (am_m r)) ∈ am_tb ∨ ∃ host, Cond.methodLinkNest (am_on.getD (am_ow m) "") x (am_nm (am_m r)) host ∈ am_tb)
    (hok : am_ok (am_m r) (st.take (am_na (am_m r))).reverse h = true) (hcat : Nat.ble (am_cats (st.drop (am_na (am_m r)))) 8 = true)
    (hRf : d1 + 11 ≤ R.frames) (hRl : 41 * d1 + 341 ≤ R.locals) (hRc : h1.length - n0 ≤ R.cells ∧ am_sz h1 - z0 ≤ R.slots)
    (hM : am_Met l D ca base ext X H0 d1 (am_m r) (st.take (am_na (am_m r))).reverse h (.inl (v, h1))) (k : am_G p l e R s mm args below meth c Q m D ca base ext H0 n0 z0 (pc + 3) lv (v.toList ++ st.drop (am_na (am_m r))) h1) : am_G p l e R s mm args below meth c Q m D ca base ext H0 n0 z0 pc lv st h := sorry
/-- a method of an object: it returns or throws -/
theorem am_callV_ok {x r pc d1 : Nat} {lv : am_LV} {st : List Value} {h : am_H} {o1 : am_O} (Cx : am_Cx p s mm args meth c m D ca base ext X H0) (Ev : am_Ev l s ca base ext H0) (hn : n0 ≤ h.length) (hz : z0 ≤ am_sz h) (hle : am_le h (am_oh o1)) (hd : am_dec (am_by m) pc (.invokevirtual x) = true)
    (hmw : am_mw (am_m r)) (hk1 : am_kd (am_m r) = 1) (hlink : Cond.methodLink (am_on.getD (am_ow m) "") x (am_nm (am_m r)) ∈ am_tb)
    (hok : am_ok (am_m r) (st.take (am_na (am_m r))).reverse h = true) (hcat : Nat.ble (am_cats (st.drop (am_na (am_m r)))) 8 = true)
    (hRf : d1 + 11 ≤ R.frames) (hRl : 41 * d1 + 341 ≤ R.locals) (hRc : (am_oh o1).length - n0 ≤ R.cells ∧ am_sz (am_oh o1) - z0 ≤ R.slots)
    (hM : am_Met l D ca base ext X H0 d1 (am_m r) (st.take (am_na (am_m r))).reverse h o1)
    (kret : ∀ v h1, o1 = .inl (v, h1) → am_G p l e R s mm args below meth c Q m D ca base ext H0 n0 z0 (pc + 3) lv (v.toList ++ st.drop (am_na (am_m r))) h1)
    (kthr : ∀ x9 h1, o1 = .inr (x9, h1) → x9 < 3 → ∀ (ls : Array Slot) (H1 : Heap) (locs1 : List Loc) (q : Addr) (ce : Cell), lv_has ls (am_mx m) (am_rl base ext lv) → am_Wd base ext D ca h1 H1 → (∀ q9, q9 < base → H1[q9]? = H0[q9]?) → (∀ z ∈ locs1, base ≤ z.base) → H1[q]? = some ce → ce.vm = .none → s.vm.findClass (am_xn x9) = some ce.cls →
      vx_W p l e R s mm args below meth c H1 locs1 (h1.length - n0) (am_sz h1 - z0) Q (F0 mm pc ls (am_rs base ext (st.drop (am_na (am_m r))))) q) : am_G p l e R s mm args below meth c Q m D ca base ext H0 n0 z0 pc lv st h := sorry
end
