theorem am_inb_vp {i : Int32} {n : Nat} (h : am_inb i n = true) : vp_in i n := sorry
theorem am_df_k : ∀ ci, ci < 13 → ∃ fs, am_df[ci]? = some fs ∧ (∀ (b : Nat) (x : Nat → Nat), am_rs b x fs = fs) ∧ ∀ j, j < am_N ci → defaultValue (am_ty ci j) = vp_V fs j := sorry
theorem am_dcl : ∀ ci, ci < 13 → ∀ k, k < am_N ci → (am_T ci k).1 = am_on.getD ci "" := sorry
section
variable {p : Program} {l : Launch} {e : Env} {R : Room} {s : State} {mm : MethodId} {args : Array Value} {below : List Frame} {meth : Method} {c : Code} {Q : State → Prop} {m : am_M} {D : va_G} {ca : Nat → ClassId} {base : Nat} {ext : Nat → Nat} {X : am_X} {H0 : Heap} {n0 z0 : Nat}
/-- one object of the abstract heap, as the kit's world has it -/
theorem am_obj {h : am_H} {H : Heap} {a ci : Nat} {fs : List Value} (hw : am_Wd base ext D ca h H) (ha : h[a]? = some (.inr (ci, fs))) (hc : ci < 13) : va_P D vwCl [(base + a, .inr (ci, am_rs base ext fs))] H := sorry
theorem am_arr {h : am_H} {H : Heap} {a t : Nat} {x : vp_A} (hw : am_Wd base ext D ca h H) (ha : h[a]? = some (.inl (t, x))) : va_P D vwCl [(base + a, .inl (ca t, am_ra base x))] H := sorry
theorem am_getf_ok {x r pc : Nat} {lv : am_LV} {st : List Value} {h : am_H} {q : am_S} (Cx : am_Cx p s mm args meth c m D ca base ext X H0) (hd : am_dec (am_by m) pc (.getfield x) = true) (hk : am_lk m pc (.getfield x) r = true) (hs : am_getf r pc lv st h = some q)
    (k : am_G1 p l e R s mm args below meth c Q m D ca base ext H0 n0 z0 q) : am_G p l e R s mm args below meth c Q m D ca base ext H0 n0 z0 pc lv st h := sorry
theorem am_fit_n {ty : FieldType} {v : Value} (b : Nat) (x : Nat → Nat) (h : am_fit ty v = true) : narrow ty (am_rv b x v) = am_rv b x v ∧ fits ty (am_rv b x v) = true := sorry
theorem am_putf_ok {x r pc : Nat} {lv : am_LV} {st : List Value} {h : am_H} {q : am_S} (Cx : am_Cx p s mm args meth c m D ca base ext X H0) (hd : am_dec (am_by m) pc (.putfield x) = true) (hk : am_lk m pc (.putfield x) r = true) (hs : am_putf r pc lv st h = some q)
    (k : am_G1 p l e R s mm args below meth c Q m D ca base ext H0 n0 z0 q) : am_G p l e R s mm args below meth c Q m D ca base ext H0 n0 z0 pc lv st h := sorry
end
