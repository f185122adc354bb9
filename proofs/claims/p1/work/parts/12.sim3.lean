section
variable {p : Program} {l : Launch} {e : Env} {R : Room} {s : State} {mm : MethodId} {args : Array Value} {below : List Frame} {meth : Method} {c : Code} {Q : State → Prop} {m : am_M} {D : va_G} {ca : Nat → ClassId} {base : Nat} {ext : Nat → Nat} {X : am_X} {H0 : Heap} {n0 z0 : Nat}
theorem am_lo1 {locs : List Loc} {a i : Nat} (hlo : ∀ z ∈ locs, base ≤ z.base) : ∀ z ∈ locs ++ [(⟨base + a, i⟩ : Loc)], base ≤ z.base := fun z hz => by
  rcases List.mem_append.mp hz with hz | hz
  · exact hlo z hz
  · rw [List.mem_singleton] at hz; subst hz; exact Nat.le_add_right _ _
/-- reading a row of ints, booleans, characters -/
theorem am_iald_ok {t pc : Nat} {lv : am_LV} {st : List Value} {h : am_H} {q : am_S} (hs : am_iald t pc lv st h = some q)
    (row : ∀ {H : Heap} {locs : List Loc} {cells slots : Nat} {ls : Array Slot} {rest : List Value} {a n : Nat} {f : Nat → Int32} {i : Int32}, va_P D vwCl [(base + a, .inl (ca t, n, .inl f))] H → vp_in i n → W p l e R s mm args below meth c H locs cells slots Q (F0 mm (pc + 1) ls (.int (f i.toNatClampNeg) :: rest)) → W p l e R s mm args below meth c H locs cells slots Q (F0 mm pc ls (.int i :: .ref (base + a) :: rest)))
    (k : am_G1 p l e R s mm args below meth c Q m D ca base ext H0 n0 z0 q) : am_G p l e R s mm args below meth c Q m D ca base ext H0 n0 z0 pc lv st h := sorry
theorem am_ialdX_ok {pc : Nat} {lv : am_LV} {st : List Value} {h : am_H} {q : am_S} (Cx : am_Cx p s mm args meth c m D ca base ext X H0) (hd : am_dec (am_by m) pc .iaload = true) (hs : am_ialdX X pc lv st h = some q)
    (k : am_G1 p l e R s mm args below meth c Q m D ca base ext H0 n0 z0 q) : am_G p l e R s mm args below meth c Q m D ca base ext H0 n0 z0 pc lv st h := sorry
theorem am_lald_ok {pc : Nat} {lv : am_LV} {st : List Value} {h : am_H} {q : am_S} (Cx : am_Cx p s mm args meth c m D ca base ext X H0) (hd : am_dec (am_by m) pc .laload = true) (hs : am_lald pc lv st h = some q)
    (k : am_G1 p l e R s mm args below meth c Q m D ca base ext H0 n0 z0 q) : am_G p l e R s mm args below meth c Q m D ca base ext H0 n0 z0 pc lv st h := sorry
theorem am_rf_map (b : Nat) (x : Nat → Nat) (o : Option Nat) : va_rf (o.map (fun k => b + k)) = am_rv b x (va_rf o) := by cases o <;> rfl
theorem am_aald_ok {pc : Nat} {lv : am_LV} {st : List Value} {h : am_H} {q : am_S} (Cx : am_Cx p s mm args meth c m D ca base ext X H0) (hd : am_dec (am_by m) pc .aaload = true) (hs : am_aald pc lv st h = some q)
    (k : am_G1 p l e R s mm args below meth c Q m D ca base ext H0 n0 z0 q) : am_G p l e R s mm args below meth c Q m D ca base ext H0 n0 z0 pc lv st h := sorry
/-- writing into a row of ints, booleans, characters -/
theorem am_iast_ok {t pc : Nat} {lv : am_LV} {st : List Value} {h : am_H} {q : am_S} (hs : am_iast t pc lv st h = some q)
    (row : ∀ {H : Heap} {locs : List Loc} {cells slots : Nat} {ls : Array Slot} {rest : List Value} {a n : Nat} {f : Nat → Int32} {i x : Int32}, H[base + a]? = some (arrV (ca t) n (fun j => .int (f j))) → vp_in i n → am_afit t x = true →
      (∀ H1 : Heap, H1[base + a]? = some ((arrV (ca t) n (fun j => .int (f j))).setSlot i.toNatClampNeg (.int x)) → H1.size = H.size → (∀ q, q ≠ base + a → H1[q]? = H[q]?) → W p l e R s mm args below meth c H1 (locs ++ [⟨base + a, i.toNatClampNeg⟩]) cells slots Q (F0 mm (pc + 1) ls rest)) →
      W p l e R s mm args below meth c H locs cells slots Q (F0 mm pc ls (.int x :: .int i :: .ref (base + a) :: rest)))
    (k : am_G1 p l e R s mm args below meth c Q m D ca base ext H0 n0 z0 q) : am_G p l e R s mm args below meth c Q m D ca base ext H0 n0 z0 pc lv st h := sorry
theorem am_last_ok {pc : Nat} {lv : am_LV} {st : List Value} {h : am_H} {q : am_S} (Cx : am_Cx p s mm args meth c m D ca base ext X H0) (hd : am_dec (am_by m) pc .lastore = true) (hs : am_last pc lv st h = some q)
    (k : am_G1 p l e R s mm args below meth c Q m D ca base ext H0 n0 z0 q) : am_G p l e R s mm args below meth c Q m D ca base ext H0 n0 z0 pc lv st h := sorry
theorem am_aast_ok {pc : Nat} {lv : am_LV} {st : List Value} {h : am_H} {q : am_S} (Cx : am_Cx p s mm args meth c m D ca base ext X H0) (hd : am_dec (am_by m) pc .aastore = true) (hs : am_aast pc lv st h = some q)
    (k : am_G1 p l e R s mm args below meth c Q m D ca base ext H0 n0 z0 q) : am_G p l e R s mm args below meth c Q m D ca base ext H0 n0 z0 pc lv st h := sorry
end
