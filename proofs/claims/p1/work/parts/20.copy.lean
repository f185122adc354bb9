theorem am_nneg {x : Int32} (h : decide (0 ≤ x) = true) : ¬ x < 0 := Int32.not_lt.mpr (of_decide_eq_true h)
theorem am_nnat {z : Int32} (hz : ¬ z < 0) : z.toInt = (z.toNatClampNeg : Int) := by
  have hz0 : (0 : Int) ≤ z.toInt := by
    have := Int32.not_lt.mp hz
    simpa using Int32.le_iff_toInt_le.mp this
  show z.toInt = ((z.toInt.toNat : Nat) : Int)
  omega
theorem am_cpw : nativeFrameWords "java/lang/System" "arraycopy" 5 + 11 ≤ 200 := by decide
set_option maxRecDepth 100000 in
theorem am_cpl {a w L : Nat} (ha : 2 * 0 + a ≤ 8) (hw : w + 11 ≤ 200) (h : 300 ≤ L) : 2 * 0 + a + (w + 11) ≤ L := by omega
theorem am_acopy_h {pc : Nat} {lv : am_LV} {st : List Value} {h : am_H} {q : am_S} (hs : am_acopy pc lv st h = some q) : am_le h q.2.2.2 := by
  unfold am_acopy at hs
  split at hs
  · split at hs
    · rename_i ha hb
      split at hs
      · cases hs; exact am_le.set hb rfl
      · cases hs
    · cases hs
  · cases hs
section
variable {p : Program} {l : Launch} {e : Env} {R : Room} {s : State} {mm : MethodId} {args : Array Value} {below : List Frame} {meth : Method} {c : Code} {Q : State → Prop} {m : am_M} {D : va_G} {ca : Nat → ClassId} {base : Nat} {ext : Nat → Nat} {X : am_X} {H0 : Heap} {n0 z0 : Nat}
/-- the copy of a row of ints -/
theorem am_copy_ok {x pc : Nat} {lv : am_LV} {st : List Value} {h : am_H} {q : am_S} (AL : am_AL) (Cx : am_Cx p s mm args meth c m D ca base ext X H0) (hd : am_dec (am_by m) pc (.invokestatic x) = true) (hk : am_lk m pc (.invokestatic x) 10000 = true) (hs : am_acopy pc lv st h = some q) (hcat : Nat.ble (am_cats q.2.2.1) 8 = true) (hRf : 1 ≤ R.frames) (hRl : 300 ≤ R.locals)
    (k : am_G1 p l e R s mm args below meth c Q m D ca base ext H0 n0 z0 q) : am_G p l e R s mm args below meth c Q m D ca base ext H0 n0 z0 pc lv st h := by
  obtain ⟨hx, hb, hml, hown, hts, hK, hini, hlk, hrt, hbs, hbh, hex, hH0⟩ := Cx
  obtain ⟨-, -, -, -, -, -, -, -, -, a10, a11, a12, a13⟩ := AL
  have hk2 : (am_has am_tl (am_ow m) x 10000 || am_has am_tn (am_ow m) x 10000 || am_has am_tw (am_ow m) x 10000 || am_has am_bl (am_ow m) x 10000) = true := hk
  rw [Bool.or_eq_true, Bool.or_eq_true, Bool.or_eq_true] at hk2
  have hlink : Cond.methodLink (am_on.getD (am_ow m) "") x arraycopyName ∈ am_tb := by
    rcases hk2 with ((hk2 | hk2) | hk2) | hk2
    · exact absurd (show 10000 < 10000 from am_blr.2.2.1 _ (am_has_mem hk2)) (by decide)
    · exact absurd (show 10000 < 10000 from am_blr.2.2.2.1 _ (am_has_mem hk2)) (by decide)
    · exact absurd (show 10000 < 10000 from am_blr.2.2.2.2 _ (am_has_mem hk2)) (by decide)
    · exact a10 _ (am_has_mem hk2) rfl
  intro ls H locs hl hw h0 hlo
  unfold am_acopy at hs
  split at hs
  · rename_i n dp b sp a r9
    split at hs
    · rename_i t0 n1 f t1 n2 g ha hb9
      split at hs
      · rename_i hc
        simp only [Bool.and_eq_true, beq_iff_eq] at hc
        obtain ⟨⟨⟨⟨⟨⟨hc1, hc2⟩, hc3⟩, hc4⟩, hc5⟩, hc6⟩, hc7⟩ := hc
        subst hc1
        subst hc2
        cases hs
        have h1 := am_nneg hc3
        have h2 := am_nneg hc4
        have h3 := am_nneg hc5
        have h4 : sp.toNatClampNeg + n.toNatClampNeg ≤ n1 := Nat.le_of_ble_eq_true hc6
        have h5 : dp.toNatClampNeg + n.toNatClampNeg ≤ n2 := Nat.le_of_ble_eq_true hc7
        have hq0 : H[base + a]? = some (vp_cell (ca 0) (n1, .inl f)) := hw.2 a _ ha
        have hq1 : H[base + b]? = some (vp_cell (ca 0) (n2, .inl g)) := hw.2 b _ hb9
        have hcs := am_cats8 (mm := mm) (pc := pc) (ls := ls) (st0 := []) (base := base) (ext := ext) hcat
        intro T hT Y
        obtain ⟨-, k0, hk0, cm0, hkk0⟩ := (hK.2 0 _ rfl).1 n1 (fun j => .int (f j))
        obtain ⟨-, k1, hk1, cm1, hkk1⟩ := (hK.2 0 _ rfl).1 n2 (fun j => .int (g j))
        obtain ⟨vm', X', step⟩ := Y.arraycopy hx hown (hts _ hlink) (hts _ a11) (hts _ a12) (hts _ a13) (src := base + a) (dst := base + b) (cs := vp_cell (ca 0) (n1, .inl f)) (cd := vp_cell (ca 0) (n2, .inl g)) (srcPos := sp) (destPos := dp) (n := n) (by rw [hT]; exact hq0) (by rw [hT]; exact hq1)
          (fun _ h => by cases h) (fun _ h => by cases h) (fun h => by cases h) (fun h => by cases h) hk0 hk1 hkk0 hkk1 (by simp [refKind]) h1 h2 h3
          (by rw [am_nnat h1, am_nnat h3]; show ¬ _ > ((arrV (ca 0) n1 (fun j => .int (f j))).slots.size : Int); rw [arrV_size]; omega)
          (by rw [am_nnat h2, am_nnat h3]; show ¬ _ > ((arrV (ca 0) n2 (fun j => .int (g j))).slots.size : Int); rw [arrV_size]; omega)
          (fun vm₁ _ i hi => by
            have e : (vp_cell (ca 0) (n1, .inl f)).slots.getD (sp.toNatClampNeg + i) .null = .int (f (sp.toNatClampNeg + i)) := by
              show (arrV (ca 0) n1 (fun j => .int (f j))).slots.getD _ _ = _
              rw [Array.getD_eq_getD_getElem?, arrV_read _ _ (by omega)]
              rfl
            refine ⟨?_, ?_⟩
            · rw [e]
              rfl
            · rw [e]
              exact trivial)
          (g := F0 mm pc ls (.int n :: .int dp :: .ref (base + b) :: .int sp :: .ref (base + a) :: am_rs base ext r9)) rfl (hl.1.trans hml.symm) (rest := am_rs base ext r9) rfl (by rw [hb]; exact am_dec_ok hd rfl) hRf (am_cpl hcs am_cpw hRl)
        have e1 : copied (vp_cell (ca 0) (n1, .inl f)) (vp_cell (ca 0) (n2, .inl g)) sp dp n = vp_cell (ca 0) (n2, .inl (va_cpy f g sp.toNatClampNeg dp.toNatClampNeg n.toNatClampNeg)) := va_copied (fun z => .int z) (ca 0) (ca 0) f g h4
        rw [e1] at X' step
        have hlt : base + b < H.size := (Array.getElem?_eq_some_iff.mp hq1).1
        have hheap : ((T.setVm vm').setCell (base + b) (vp_cell (ca 0) (n2, .inl (va_cpy f g sp.toNatClampNeg dp.toNatClampNeg n.toNatClampNeg)))).heap = H.setIfInBounds (base + b) (vp_cell (ca 0) (n2, .inl (va_cpy f g sp.toNatClampNeg dp.toNatClampNeg n.toNatClampNeg))) := by rw [← hT]; rfl
        have oq : ∀ q9 : Nat, q9 ≠ base + b → (H.setIfInBounds (base + b) (vp_cell (ca 0) (n2, .inl (va_cpy f g sp.toNatClampNeg dp.toNatClampNeg n.toNatClampNeg))))[q9]? = H[q9]? := fun q9 hq9 => by simp [Array.getElem?_setIfInBounds, Ne.symm hq9]
        have hw1 := hw.set (e := .inl (0, n2, .inl (va_cpy f g sp.toNatClampNeg dp.toNatClampNeg n.toNatClampNeg))) hb9 (show (H.setIfInBounds (base + b) (vp_cell (ca 0) (n2, .inl (va_cpy f g sp.toNatClampNeg dp.toNatClampNeg n.toNatClampNeg))))[base + b]? = some (vp_cell (ca 0) (n2, .inl (va_cpy f g sp.toNatClampNeg dp.toNatClampNeg n.toNatClampNeg))) by simp [Array.getElem?_setIfInBounds, hlt]) (by simp) oq
        have h6 := fun L9 => k ls (H.setIfInBounds (base + b) (vp_cell (ca 0) (n2, .inl (va_cpy f g sp.toNatClampNeg dp.toNatClampNeg n.toNatClampNeg)))) L9 hl hw1 (fun q9 hq9 => (oq q9 (Nat.ne_of_lt (Nat.lt_of_lt_of_le hq9 (Nat.le_add_right base b)))).trans (h0 q9 hq9))
        have hsz : am_sz (h.set b (.inl (0, n2, .inl (va_cpy f g sp.toNatClampNeg dp.toNatClampNeg n.toNatClampNeg)))) = am_sz h := am_sz_set hb9 rfl
        simp only [List.length_set, hsz] at h6
        obtain ⟨t, a1, b1⟩ := h6 _ (fun z hz => by
          rcases List.mem_append.mp hz with hz | hz
          · exact hlo z hz
          · obtain ⟨z9, -, hz9⟩ := List.mem_map.mp hz
            rw [← hz9]
            exact Nat.le_add_right _ _) _ hheap X'
        exact ⟨t, step t a1, b1⟩
      · cases hs
    · cases hs
  · cases hs
end
