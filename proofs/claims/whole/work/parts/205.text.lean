/-! texts: what is still to be shown of the real machine (open: three statements) -/
section
variable {p : Program} {l : Launch} {e : Env} {R : Room} {s : State} {mm : MethodId} {args : Array Value} {below : List Frame} {meth : Method} {c : Code} {Q : State → Prop} {m : am_M} {D : va_G} {ca : Nat → ClassId} {base : Nat} {ext : Nat → Nat} {X : am_X} {H0 : Heap} {n0 z0 : Nat}
theorem am_idx_ok {x pc : Nat} {cc : Int32} {e9 : UInt32} {lv : am_LV} {st : List Value} {h : am_H} (AL : am_AL) (Cx : am_Cx p s mm args meth c m D ca base ext X H0) (Ev : am_Ev l s ca base ext H0) (hd : am_dec (am_by m) pc (.invokevirtual x) = true) (hk : am_lk m pc (.invokevirtual x) 10001 = true) (he : am_xtx e9.toNat = true) (hcat : Nat.ble (am_cats st) 8 = true) (hRf : 10 ≤ R.frames) (hRl : 300 ≤ R.locals)
    (k : am_G p l e R s mm args below meth c Q m D ca base ext H0 n0 z0 (pc + 3) lv (.int (am_ixF cc (am_txt e9.toNat) 0) :: st) h) : am_G p l e R s mm args below meth c Q m D ca base ext H0 n0 z0 pc lv (.int cc :: .float e9 :: st) h := by
  sorry
theorem am_chr_ok {x pc : Nat} {cc : Int32} {e9 : UInt32} {lv : am_LV} {st : List Value} {h : am_H} (AL : am_AL) (Cx : am_Cx p s mm args meth c m D ca base ext X H0) (Ev : am_Ev l s ca base ext H0) (hd : am_dec (am_by m) pc (.invokevirtual x) = true) (hk : am_lk m pc (.invokevirtual x) 10002 = true) (he : am_xtx e9.toNat = true) (hi : am_inb cc (am_txt e9.toNat).length = true) (hcat : Nat.ble (am_cats st) 8 = true) (hRf : 10 ≤ R.frames) (hRl : 300 ≤ R.locals)
    (k : am_G p l e R s mm args below meth c Q m D ca base ext H0 n0 z0 (pc + 3) lv (.int ((am_txt e9.toNat).getD cc.toNatClampNeg 0) :: st) h) : am_G p l e R s mm args below meth c Q m D ca base ext H0 n0 z0 pc lv (.int cc :: .float e9 :: st) h := by
  sorry
theorem am_ldt_ok {x r pc : Nat} {lv : am_LV} {st : List Value} {h : am_H} (Cx : am_Cx p s mm args meth c m D ca base ext X H0) (Ev : am_Ev l s ca base ext H0) (hd : am_dec (am_by m) pc (.ldc x) = true) (hk : am_lk m pc (.ldc x) r = true) (hr : r = 5 ∨ r = 6 ∨ r = 7)
    (k : am_G p l e R s mm args below meth c Q m D ca base ext H0 n0 z0 (pc + 2) lv (.float (UInt32.ofNat (r - 2)) :: st) h) : am_G p l e R s mm args below meth c Q m D ca base ext H0 n0 z0 pc lv st h := by
  sorry
end
