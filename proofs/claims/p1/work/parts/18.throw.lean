theorem am_at_chk {m : am_M} (hm : m ∈ am_ms) {pc : Nat} {i : Instr} {r : Nat} (h : am_at m pc = some (i, r)) : am_dec (am_by m) pc i = true ∧ am_lk m pc i r = true := sorry
theorem am_nlx : ∀ q ∈ am_nl, 100 ≤ q.2.2 → q.1 = 11 ∧ q.2.2 < 103 ∧ q.2.1 = am_xik (q.2.2 - 100) := by decide
theorem am_blx : ∀ q ∈ am_bl, 10010 ≤ q.2.2 → q.2.1 = am_xic (q.2.2 - 10010) := by decide
theorem am_ilx : (∀ q ∈ am_il, q.2.2 < 10000) ∧ ∀ q ∈ am_in, q.2.2 < 10000 := by decide
theorem am_xfit : ∀ x, x < 3 → Bundle.fit (am_xn x) = true := sorry
theorem am_xufit : ∀ n ∈ am_xup, Bundle.fit n = true := sorry
set_option maxRecDepth 100000 in
theorem am_e9910 (r : Nat) : r + 9910 - 10010 = r - 100 := by omega
section
variable {p : Program} {l : Launch} {e : Env} {R : Room} {s : State} {mm : MethodId} {args : Array Value} {below : List Frame} {meth : Method} {c : Code} {Q : State → Prop} {m : am_M} {D : va_G} {ca : Nat → ClassId} {base : Nat} {ext : Nat → Nat} {X : am_X} {H0 : Heap} {n0 z0 : Nat}
theorem am_Wd.dummy {h : am_H} {H H1 : Heap} (hw : am_Wd base ext D ca h H) (hz : H1.size = H.size + 1) (oq : ∀ q, q < H.size → H1[q]? = H[q]?) : am_Wd base ext D ca (h ++ [am_dummy]) H1 :=
  hw.push (fun r hr => by cases hr) hz oq
theorem am_thr_ok {x r pc : Nat} {lv : am_LV} {st : List Value} {h : am_H} (Cx : am_Cx p s mm args meth c m D ca base ext X H0) (Ev : am_Ev l s ca base ext H0) (hm : m ∈ am_ms) (hsz : s.heap.size = base + n0) (hn : n0 ≤ h.length) (hz : z0 ≤ am_sz h)
    (htab : c.exceptionTable.toList = tableOf (am_hh m)) (hat : am_at m pc = some (.new x, r)) (h100 : 100 ≤ r) (hth : am_thr m pc r = true) (hcat : Nat.ble (am_cats st) 8 = true) (hRf : 10 ≤ R.frames) (hRl : 300 ≤ R.locals) (hRc : (h ++ [am_dummy]).length - n0 ≤ R.cells ∧ am_sz (h ++ [am_dummy]) - z0 ≤ R.slots) :
    am_G p l e R s mm args below meth c (vx_MQ below (am_Qc D ca base ext H0 (.inr (r - 100, h ++ [am_dummy]))) (am_XC D ca base ext H0 (.inr (r - 100, h ++ [am_dummy]))) args s ((h ++ [am_dummy]).length - n0) (am_sz (h ++ [am_dummy]) - z0) (fun q => base ≤ q)) m D ca base ext H0 n0 z0 pc lv st h := sorry
end
