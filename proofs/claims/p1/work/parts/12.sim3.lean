section
variable {p : Program} {l : Launch} {e : Env} {R : Room} {s : State} {mm : MethodId} {args : Array Value} {below : List Frame} {meth : Method} {c : Code} {Q : State → Prop} {m : am_M} {D : va_G} {ca : Nat → ClassId} {base : Nat} {ext : Nat → Nat} {X : am_X} {H0 : Heap} {n0 z0 : Nat}
theorem am_lo1 {locs : List Loc} {a i : Nat} (hlo : ∀ z ∈ locs, base ≤ z.base) : ∀ z ∈ locs ++ [(⟨base + a, i⟩ : Loc)], base ≤ z.base := fun z hz => by
  rcases List.mem_append.mp hz with hz | hz
  · exact hlo z hz
  · rw [List.mem_singleton] at hz; subst hz; exact Nat.le_add_right _ _
/-- reading a row of ints, booleans, characters -/
theorem am_iald_ok {t pc : Nat} {lv : am_LV} {st : List Value} {h : am_H} {q : am_S} (hs : am_iald t pc lv st h = some q)
    (row : ∀ {H : Heap} {locs : List Loc} {cells slots : Nat} {ls : Array Slot} {rest : List Value} {a n : Nat} {f : Nat → Int32} {i : Int32}, va_P D vwCl [(base + a, .inl (ca t, n, .inl f))] H → vp_in i n → W p l e R s mm args below meth c H locs cells slots Q (F0 mm (pc + 1) ls (.int (f i.toNatClampNeg) :: rest)) → W p l e R s mm args below meth c H locs cells slots Q (F0 mm pc ls (.int i :: .ref (base + a) :: rest)))
    (k : am_G1 p l e R s mm args below meth c Q m D ca base ext H0 n0 z0 q) : am_G p l e R s mm args below meth c Q m D ca base ext H0 n0 z0 pc lv st h := by
  intro ls H locs hl hw h0 hlo
  unfold am_iald at hs
  split at hs
  · split at hs
    · split at hs
      · rename_i t1 n f ha hc
        rw [Bool.and_eq_true, beq_iff_eq] at hc
        obtain ⟨hc1, hc2⟩ := hc
        subst hc1
        cases hs
        exact row (am_arr hw ha) (am_inb_vp hc2) (k ls H locs hl hw h0 hlo)
      · cases hs
    · cases hs
  · cases hs
theorem am_ialdX_ok {pc : Nat} {lv : am_LV} {st : List Value} {h : am_H} {q : am_S} (Cx : am_Cx p s mm args meth c m D ca base ext X H0) (hd : am_dec (am_by m) pc .iaload = true) (hs : am_ialdX X pc lv st h = some q)
    (k : am_G1 p l e R s mm args below meth c Q m D ca base ext H0 n0 z0 q) : am_G p l e R s mm args below meth c Q m D ca base ext H0 n0 z0 pc lv st h := by
  obtain ⟨hx, hb, hml, hown, hts, hK, hini, hlk, hrt, hbs, hbh, hex, -⟩ := Cx
  unfold am_ialdX at hs
  split at hs
  · rename_i i e9 r9
    split at hs
    · rename_i hc
      rw [Bool.and_eq_true] at hc
      cases hs
      intro ls H locs hl hw h0 hlo
      obtain ⟨⟨scr, h1, h2, h3, h4, h5⟩, hlt⟩ := hex e9.toNat hc.1
      have hin := am_inb_vp hc.2
      have hlt2 : i.toNatClampNeg < (X e9.toNat).1 := Nat.not_le.mp fun q => hin (Or.inr q)
      exact W.iald (v := .int ((X e9.toNat).2 i.toNatClampNeg)) hx hb (by rw [h0 _ hlt]; exact h1) h2 h3 (fun q9 => hin (q9.imp_right (Nat.le_trans h4.1))) (h5 _ hlt2) rfl rfl (am_dec_ok hd rfl) (k ls H locs hl hw h0 hlo)
    · cases hs
  · exact am_iald_ok (t := 0) hs (fun hP hin kk => va_iald (tys := am_tys ca) hx hb hK hP 0 0 rfl rfl hin (am_dec_ok hd rfl) kk) k
theorem am_lald_ok {pc : Nat} {lv : am_LV} {st : List Value} {h : am_H} {q : am_S} (Cx : am_Cx p s mm args meth c m D ca base ext X H0) (hd : am_dec (am_by m) pc .laload = true) (hs : am_lald pc lv st h = some q)
    (k : am_G1 p l e R s mm args below meth c Q m D ca base ext H0 n0 z0 q) : am_G p l e R s mm args below meth c Q m D ca base ext H0 n0 z0 pc lv st h := by
  obtain ⟨hx, hb, hml, hown, hts, hK, -⟩ := Cx
  intro ls H locs hl hw h0 hlo
  unfold am_lald at hs
  split at hs
  · split at hs
    · split at hs
      · rename_i t1 n f ha hc
        rw [Bool.and_eq_true, beq_iff_eq] at hc
        obtain ⟨hc1, hc2⟩ := hc
        subst hc1
        cases hs
        exact va_lald (tys := am_tys ca) hx hb hK (am_arr hw ha) 0 1 rfl rfl (am_inb_vp hc2) (am_dec_ok hd rfl) (k ls H locs hl hw h0 hlo)
      · cases hs
    · cases hs
  · cases hs
theorem am_rf_map (b : Nat) (x : Nat → Nat) (o : Option Nat) : va_rf (o.map (fun k => b + k)) = am_rv b x (va_rf o) := by cases o <;> rfl
theorem am_aald_ok {pc : Nat} {lv : am_LV} {st : List Value} {h : am_H} {q : am_S} (Cx : am_Cx p s mm args meth c m D ca base ext X H0) (hd : am_dec (am_by m) pc .aaload = true) (hs : am_aald pc lv st h = some q)
    (k : am_G1 p l e R s mm args below meth c Q m D ca base ext H0 n0 z0 q) : am_G p l e R s mm args below meth c Q m D ca base ext H0 n0 z0 pc lv st h := by
  obtain ⟨hx, hb, hml, hown, hts, hK, -⟩ := Cx
  intro ls H locs hl hw h0 hlo
  unfold am_aald at hs
  split at hs
  · rename_i i a r9
    split at hs
    · rename_i t1 n f ha
      split at hs
      · rename_i hc
        rw [Bool.and_eq_true, Bool.and_eq_true, Nat.ble_eq, Nat.ble_eq] at hc
        obtain ⟨⟨hc1, hc3⟩, hc2⟩ := hc
        cases hs
        have hin := am_inb_vp hc2
        have hlt : i.toNatClampNeg < n := Nat.not_le.mp fun q => hin (Or.inr q)
        have hcell : H[base + a]? = some (arrV (ca t1) n (fun j => va_rf ((f j).map (fun k => base + k)))) := hw.2 a _ ha
        have hty : ∃ C : FieldType, C.isReference = true ∧ s.isArrayOf (arrV (ca t1) n (fun j => va_rf ((f j).map (fun k => base + k)))) C := by
          have : t1 = 4 ∨ t1 = 5 ∨ t1 = 6 := by omega
          rcases this with rfl | rfl | rfl
          · exact ⟨_, rfl, (hK.2 4 _ rfl).1 _ _⟩
          · exact ⟨_, rfl, (hK.2 5 _ rfl).1 _ _⟩
          · exact ⟨_, rfl, (hK.2 6 _ rfl).1 _ _⟩
        obtain ⟨C, hrf, hty⟩ := hty
        refine W.aald (v := am_rv base ext (va_rf (f i.toNatClampNeg))) hx hb hcell hty hrf (fun q => by cases q) (by rw [arrV_size]; exact hin) (by rw [arrV_read _ _ hlt, am_rf_map base ext]) rfl rfl (am_dec_ok hd rfl) (k ls H locs hl hw h0 hlo)
      · cases hs
    · cases hs
  · cases hs
/-- writing into a row of ints, booleans, characters -/
theorem am_iast_ok {t pc : Nat} {lv : am_LV} {st : List Value} {h : am_H} {q : am_S} (hs : am_iast t pc lv st h = some q)
    (row : ∀ {H : Heap} {locs : List Loc} {cells slots : Nat} {ls : Array Slot} {rest : List Value} {a n : Nat} {f : Nat → Int32} {i x : Int32}, H[base + a]? = some (arrV (ca t) n (fun j => .int (f j))) → vp_in i n → am_afit t x = true →
      (∀ H1 : Heap, H1[base + a]? = some ((arrV (ca t) n (fun j => .int (f j))).setSlot i.toNatClampNeg (.int x)) → H1.size = H.size → (∀ q, q ≠ base + a → H1[q]? = H[q]?) → W p l e R s mm args below meth c H1 (locs ++ [⟨base + a, i.toNatClampNeg⟩]) cells slots Q (F0 mm (pc + 1) ls rest)) →
      W p l e R s mm args below meth c H locs cells slots Q (F0 mm pc ls (.int x :: .int i :: .ref (base + a) :: rest)))
    (k : am_G1 p l e R s mm args below meth c Q m D ca base ext H0 n0 z0 q) : am_G p l e R s mm args below meth c Q m D ca base ext H0 n0 z0 pc lv st h := by
  intro ls H locs hl hw h0 hlo
  unfold am_iast at hs
  split at hs
  · rename_i x i a r9
    split at hs
    · rename_i t1 n f ha
      split at hs
      · rename_i hc
        rw [Bool.and_eq_true, Bool.and_eq_true, beq_iff_eq] at hc
        obtain ⟨⟨hc1, hc2⟩, hc3⟩ := hc
        subst hc1
        cases hs
        refine row (hw.2 a _ ha) (am_inb_vp hc2) hc3 (fun H1 e1 e2 e3 => ?_)
        have hw1 := hw.set (e := .inl (t1, n, .inl (upd f i.toNatClampNeg x))) ha (by
          show H1[base + a]? = some (arrV (ca t1) n (fun j => .int (upd f i.toNatClampNeg x j)))
          rw [e1, arrV_store]
          congr 2
          funext j
          by_cases hj : j = i.toNatClampNeg
          · subst hj; simp [updV, upd]
          · simp [updV, upd, hj]) e2 e3
        have h5 := k ls H1 _ hl hw1 (fun q9 hq9 => (e3 q9 (Nat.ne_of_lt (Nat.lt_of_lt_of_le hq9 (Nat.le_add_right base a)))).trans (h0 q9 hq9)) (am_lo1 (a := a) (i := i.toNatClampNeg) hlo)
        have hsz : am_sz (h.set a (.inl (t1, n, .inl (upd f i.toNatClampNeg x)))) = am_sz h := am_sz_set ha rfl
        simp only [List.length_set, hsz] at h5
        exact h5
      · cases hs
    · cases hs
  · cases hs
theorem am_last_ok {pc : Nat} {lv : am_LV} {st : List Value} {h : am_H} {q : am_S} (Cx : am_Cx p s mm args meth c m D ca base ext X H0) (hd : am_dec (am_by m) pc .lastore = true) (hs : am_last pc lv st h = some q)
    (k : am_G1 p l e R s mm args below meth c Q m D ca base ext H0 n0 z0 q) : am_G p l e R s mm args below meth c Q m D ca base ext H0 n0 z0 pc lv st h := by
  obtain ⟨hx, hb, hml, hown, hts, hK, -⟩ := Cx
  intro ls H locs hl hw h0 hlo
  unfold am_last at hs
  split at hs
  · rename_i x i a r9
    split at hs
    · rename_i t1 n f ha
      split at hs
      · rename_i hc
        rw [Bool.and_eq_true, beq_iff_eq] at hc
        obtain ⟨hc1, hc2⟩ := hc
        subst hc1
        cases hs
        have hcell : H[base + a]? = some (arrV (ca 1) n (fun j => .long (f j))) := hw.2 a _ ha
        refine W.last hx hb hcell ((hK.2 1 _ rfl).1 _ _) (fun q => by cases q) (by rw [arrV_size]; exact am_inb_vp hc2) rfl rfl (am_dec_ok hd rfl) fun H1 e1 e2 e3 => ?_
        have hw1 := hw.set (e := .inl (1, n, .inr (.inl (vp_updL f i.toNatClampNeg x)))) ha (by
          show H1[base + a]? = some (arrV (ca 1) n (fun j => .long (vp_updL f i.toNatClampNeg x j)))
          rw [e1, arrV_store]
          congr 2
          funext j
          by_cases hj : j = i.toNatClampNeg
          · subst hj; simp [updV, vp_updL]
          · simp [updV, vp_updL, hj]) e2 e3
        have h5 := k ls H1 _ hl hw1 (fun q9 hq9 => (e3 q9 (Nat.ne_of_lt (Nat.lt_of_lt_of_le hq9 (Nat.le_add_right base a)))).trans (h0 q9 hq9)) (am_lo1 (a := a) (i := i.toNatClampNeg) hlo)
        have hsz : am_sz (h.set a (.inl (1, n, .inr (.inl (vp_updL f i.toNatClampNeg x))))) = am_sz h := am_sz_set ha rfl
        simp only [List.length_set, hsz] at h5
        exact h5
      · cases hs
    · cases hs
  · cases hs
theorem am_aast_ok {pc : Nat} {lv : am_LV} {st : List Value} {h : am_H} {q : am_S} (Cx : am_Cx p s mm args meth c m D ca base ext X H0) (hd : am_dec (am_by m) pc .aastore = true) (hs : am_aast pc lv st h = some q)
    (k : am_G1 p l e R s mm args below meth c Q m D ca base ext H0 n0 z0 q) : am_G p l e R s mm args below meth c Q m D ca base ext H0 n0 z0 pc lv st h := by
  obtain ⟨hx, hb, hml, hown, hts, hK, -⟩ := Cx
  intro ls H locs hl hw h0 hlo
  unfold am_aast at hs
  split at hs
  · rename_i v i a r9
    split at hs
    · rename_i t1 n f ev ha hv
      split at hs
      · rename_i hc
        rw [Bool.and_eq_true] at hc
        obtain ⟨hc1, hc2⟩ := hc
        cases hs
        have hin := am_inb_vp hc2
        have hlt : i.toNatClampNeg < n := Nat.not_le.mp fun q => hin (Or.inr q)
        have hcell : H[base + a]? = some (arrV (ca t1) n (fun j => va_rf ((f j).map (fun k => base + k)))) := hw.2 a _ ha
        have key : ∃ (cellV : Cell) (kA kC : Class) (comp : ClassId) (ty : FieldType), s.vm.classes[ca t1]? = some kA ∧ kA.kind = .array comp ty ∧ ty.isReference = true ∧ s.vm.classes[comp]? = some kC ∧ H[base + v]? = some cellV ∧ (∀ q, cellV.vm ≠ .statics q) ∧ cellV.cls = comp := by
          have obj : ∀ (ci : Nat) (r : vw_C) (vs : List Value), ev = .inr (ci, vs) → vwCl[ci]? = some r → va_RA s (ca t1) (.object r.1) → ∃ (cellV : Cell) (kA kC : Class) (comp : ClassId) (ty : FieldType), s.vm.classes[ca t1]? = some kA ∧ kA.kind = .array comp ty ∧ ty.isReference = true ∧ s.vm.classes[comp]? = some kC ∧ H[base + v]? = some cellV ∧ (∀ q, cellV.vm ≠ .statics q) ∧ cellV.cls = comp := by
            intro ci r vs hev hr hRA
            subst hev
            obtain ⟨cellV, g1, g2, g3, -⟩ := hw.2 v _ hv r hr
            have hcls := (hK.1 ci r hr).2
            obtain ⟨kA, comp, k1, k2, k3, -⟩ := hRA
            have hcomp : comp = D.1 ci := Option.some.inj (k3.symm.trans hcls.1)
            subst hcomp
            obtain ⟨kC, hkC, -⟩ := hcls.2
            exact ⟨cellV, kA, kC, _, _, k1, k2, rfl, hkC, g1, fun q h => (by rw [g3] at h; cases h), g2⟩
          unfold am_comp at hc1
          split at hc1
          · exact obj 3 _ _ rfl rfl (hK.2 4 _ rfl).2
          · exact obj 1 _ _ rfl rfl (hK.2 5 _ rfl).2
          · have hov : (Cond.arrayOver (.array .long)).before args s = true := hts _ (am_tix_mem am_aov.2.2)
            obtain ⟨comp, cA, kA, b1, b2, b3, b4, b5⟩ := arrayOverA_spec hov
            have e6 : s.vm.findClass ("[" ++ (FieldType.array .long).toString) = some (ca 6) := (hK.2 6 _ rfl).2
            have e1 : s.vm.findClass ("[" ++ (FieldType.long).toString) = some (ca 1) := (hK.2 1 _ rfl).2
            have hcA : cA = ca 6 := Option.some.inj (b5.symm.trans e6)
            have hcomp : comp = ca 1 := Option.some.inj (b1.symm.trans e1)
            subst hcA
            subst hcomp
            obtain ⟨kC, hkC, -⟩ := Vm.findClass_spec b1
            exact ⟨_, kA, kC, _, _, b3, b4, rfl, hkC, hw.2 v _ hv, fun q h => (by rw [am_cell_vm] at h; cases h), am_cell_cls _ _⟩
          · cases hc1
        obtain ⟨cellV, kA, kC, comp, ty, k1, k2, k3, hkC, g1, g3, g2⟩ := key
        refine W.aast hx hb hcell (fun q h => by cases h) (fun h => by cases h) k1 k2 k3 hkC ⟨fun q => hin (Or.inl q), by rw [arrV_size]; exact hlt⟩ g1 g3 (by rw [g2]; exact hkC) (by rw [g2]; exact va_asg _ _) rfl rfl (am_dec_ok hd rfl) fun H1 e1 e2 e3 => ?_
        have hw1 := hw.set (e := .inl (t1, n, .inr (.inr (.inr (.inr (va_up f i.toNatClampNeg (some v))))))) ha (by
          show H1[base + a]? = some (arrV (ca t1) n (fun j => va_rf ((va_up f i.toNatClampNeg (some v) j).map (fun k => base + k))))
          rw [e1, arrV_store]
          congr 2
          funext j
          by_cases hj : j = i.toNatClampNeg
          · subst hj; simp [updV, va_up, va_rf]
          · simp [updV, va_up, hj]) e2 e3
        have h5 := k ls H1 _ hl hw1 (fun q9 hq9 => (e3 q9 (Nat.ne_of_lt (Nat.lt_of_lt_of_le hq9 (Nat.le_add_right base a)))).trans (h0 q9 hq9)) (am_lo1 (a := a) (i := i.toNatClampNeg) hlo)
        have hsz : am_sz (h.set a (.inl (t1, n, .inr (.inr (.inr (.inr (va_up f i.toNatClampNeg (some v)))))))) = am_sz h := am_sz_set ha rfl
        simp only [List.length_set, hsz] at h5
        exact h5
      · cases hs
    · cases hs
  · cases hs
end
