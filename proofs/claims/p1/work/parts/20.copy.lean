theorem am_nneg {x : Int32} (h : decide (0 ≤ x) = true) : ¬ x < 0 := Int32.not_lt.mpr (of_decide_eq_true h)
theorem am_nnat {z : Int32} (hz : ¬ z < 0) : z.toInt = (z.toNatClampNeg : Int) := sorry
theorem am_cpw : nativeFrameWords "java/lang/System" "arraycopy" 5 + 11 ≤ 200 := by decide
set_option maxRecDepth 100000 in
theorem am_cpl {a w L : Nat} (ha : 2 * 0 + a ≤ 8) (hw : w + 11 ≤ 200) (h : 300 ≤ L) : 2 * 0 + a + (w + 11) ≤ L := by omega
theorem am_acopy_h {pc : Nat} {lv : am_LV} {st : List Value} {h : am_H} {q : am_S} (hs : am_acopy pc lv st h = some q) : am_le h q.2.2.2 := sorry
section
variable {p : Program} {l : Launch} {e : Env} {R : Room} {s : State} {mm : MethodId} {args : Array Value} {below : List Frame} {meth : Method} {c : Code} {Q : State → Prop} {m : am_M} {D : va_G} {ca : Nat → ClassId} {base : Nat} {ext : Nat → Nat} {X : am_X} {H0 : Heap} {n0 z0 : Nat}
/-- the copy of a row of ints -/
theorem am_copy_ok {x pc : Nat} {lv : am_LV} {st : List Value} {h : am_H} {q : am_S} (AL : am_AL) (Cx : am_Cx p s mm args meth c m D ca base ext X H0) (hd : am_dec (am_by m) pc (.invokestatic x) = true) (hk : am_lk m pc (.invokestatic x) 10000 = true) (hs : am_acopy pc lv st h = some q) (hcat : Nat.ble (am_cats q.2.2.1) 8 = true) (hRf : 1 ≤ R.frames) (hRl : 300 ≤ R.locals)
    (k : am_G1 p l e R s mm args below meth c Q m D ca base ext H0 n0 z0 q) : am_G p l e R s mm args below meth c Q m D ca base ext H0 n0 z0 pc lv st h := sorry
end
