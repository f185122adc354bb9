section
variable {p : Program} {l : Launch} {e : Env} {R : Room} {s : State} {mm : MethodId} {args : Array Value} {below : List Frame} {meth : Method} {c : Code} {Q : State → Prop} {m : am_M} {D : va_G} {ca : Nat → ClassId} {base : Nat} {ext : Nat → Nat} {X : am_X} {H0 : Heap} {n0 z0 : Nat}
theorem am_alen_ok {pc : Nat} {lv : am_LV} {st : List Value} {h : am_H} {q : am_S} (Cx : am_Cx p s mm args meth c m D ca base ext X H0) (hd : am_dec (am_by m) pc .arraylength = true) (hs : am_alen X pc lv st h = some q)
    (k : am_G1 p l e R s mm args below meth c Q m D ca base ext H0 n0 z0 q) : am_G p l e R s mm args below meth c Q m D ca base ext H0 n0 z0 pc lv st h := by
  obtain ⟨hx, hb, hml, hown, hts, hK, hini, hlk, hrt, hbs, hbh, hex, -⟩ := Cx
  intro ls H locs hl hw h0 hlo
  unfold am_alen at hs
  split at hs
  · rename_i a r9
    split at hs
    · rename_i t n f ha
      split at hs
      · rename_i ht
        rw [Nat.blt_eq] at ht
        cases hs
        have hty : ∃ ty, (am_tys ca)[t]? = some (ca t, ty) := by
          match t, ht with
          | 0, _ => exact ⟨_, rfl⟩
          | 1, _ => exact ⟨_, rfl⟩
          | 2, _ => exact ⟨_, rfl⟩
          | 3, _ => exact ⟨_, rfl⟩
          | 4, _ => exact ⟨_, rfl⟩
          | 5, _ => exact ⟨_, rfl⟩
          | 6, _ => exact ⟨_, rfl⟩
          | j + 7, h9 => exact absurd h9 (by omega)
        obtain ⟨ty, hty⟩ := hty
        have hn : (am_ra base (n, f)).1 = n := by
          rcases f with f | f | f | f | f <;> rfl
        exact va_alen (tys := am_tys ca) hx hb hK (am_arr hw ha) 0 t rfl hty (by rw [hn]) (am_dec_ok hd rfl) (k ls H locs hl hw h0 hlo)
      · cases hs
    · cases hs
  · rename_i e9 r9
    split at hs
    · rename_i hc
      cases hs
      obtain ⟨⟨scr, h1, h2, h3, h4, h5⟩, hlt⟩ := hex e9.toNat hc
      exact W.alen (n := Int32.ofNat (X e9.toNat).1) hx hb (by rw [h0 _ hlt]; exact h1) h2 (by rw [h4] <;> rfl) rfl rfl (am_dec_ok hd rfl) (k ls H locs hl hw h0 hlo)
    · cases hs
  · cases hs
theorem am_push_n {h : am_H} {e9 : am_E} (hn : n0 ≤ h.length) (hz : z0 ≤ am_sz h) : (h ++ [e9]).length - n0 = h.length - n0 + 1 ∧ am_sz (h ++ [e9]) - z0 = am_sz h - z0 + am_sz1 e9 := by
  rw [am_sz_push, List.length_append, List.length_singleton]
  omega
theorem am_newo_ok {x r pc : Nat} {lv : am_LV} {st : List Value} {h : am_H} {q : am_S} (Cx : am_Cx p s mm args meth c m D ca base ext X H0) (hd : am_dec (am_by m) pc (.new x) = true) (hk : am_lk m pc (.new x) r = true) (h100 : r < 100) (hs : am_newo r pc lv st h = some q)
    (hn : n0 ≤ h.length) (hz : z0 ≤ am_sz h) (hr : q.2.2.2.length - n0 ≤ R.cells ∧ am_sz q.2.2.2 - z0 ≤ R.slots) (k : am_G1 p l e R s mm args below meth c Q m D ca base ext H0 n0 z0 q) : am_G p l e R s mm args below meth c Q m D ca base ext H0 n0 z0 pc lv st h := by
  obtain ⟨hx, hb, hml, hown, hts, hK, -⟩ := Cx
  obtain ⟨hnw, hci⟩ := am_nl_w _ (am_has_mem hk) h100
  obtain ⟨hi1, hi2⟩ := am_ini _ hci
  obtain ⟨fs, hfs, hrs, hdf⟩ := am_df_k _ hci
  intro ls H locs hl hw h0 hlo
  unfold am_newo at hs
  rw [hfs] at hs
  cases hs
  have hcl := am_clT _ hci
  have hin := am_uws _ _ hcl
  have hKn := hK.1 _ _ hcl
  obtain ⟨hp1, hp2⟩ := am_push_n (e9 := .inr (r, fs)) hn hz
  have hs1 : am_sz1 (.inr (r, fs)) = am_N r := by
    have hr9 : (r == 999) = false := by rw [beq_eq_false_iff_ne]; intro h9; omega
    simp [am_sz1, hr9]
  dsimp only at hr
  rw [hp1, hp2, hs1] at hr
  refine W.newcK hx hb hown (hts _ hnw) (hts _ hi2) (hts _ hi1) rfl (am_dec_ok hd rfl) hr.1 hr.2 hKn.2.1 hw.1 fun H1 kC hkC e1 z1 o1 => ?_
  have hw1 : am_Wd base ext D ca (h ++ [.inr (r, fs)]) H1 := hw.push (fun r9 hr9 => by
    cases Option.some.inj (hcl.symm.trans hr9)
    rw [hrs]
    exact (u_born (am_ty r) hts hin hKn hkC e1 (am_tyT _ hci).1).to hdf) (by rw [z1, hw.1]) (fun q9 hq9 => o1 q9 (by rw [← hw.1]; exact hq9))
  have h5 := k ls H1 locs hl hw1 (fun q9 hq9 => (o1 q9 (by omega)).trans (h0 q9 hq9)) hlo
  dsimp only at h5
  rw [hp1, hp2, hs1] at h5
  exact h5
theorem am_k_le {k : Int32} (h0 : 0 ≤ k) (h1 : k ≤ 1000000) : ¬ k < 0 ∧ k.toNatClampNeg ≤ 1000000 := by
  refine ⟨Int32.not_lt.mpr h0, ?_⟩
  rw [Int32.le_iff_toInt_le] at h0 h1
  have e1 : (1000000 : Int32).toInt = 1000000 := by decide
  have e0 : (0 : Int32).toInt = 0 := by decide
  rw [e1] at h1
  rw [e0] at h0
  show k.toInt.toNat ≤ 1000000
  omega
theorem am_newa_ok {at9 : ArrayType} {r pc : Nat} {lv : am_LV} {st : List Value} {h : am_H} {q : am_S} (Cx : am_Cx p s mm args meth c m D ca base ext X H0) (hd : am_dec (am_by m) pc (.newarray at9) = true) (hk : am_lk m pc (.newarray at9) r = true) (hs : am_newa r 2 pc lv st h = some q)
    (hn : n0 ≤ h.length) (hz : z0 ≤ am_sz h) (hr : q.2.2.2.length - n0 ≤ R.cells ∧ am_sz q.2.2.2 - z0 ≤ R.slots) (k : am_G1 p l e R s mm args below meth c Q m D ca base ext H0 n0 z0 q) : am_G p l e R s mm args below meth c Q m D ca base ext H0 n0 z0 pc lv st h := by
  obtain ⟨hx, hb, hml, hown, hts, hK, -⟩ := Cx
  intro ls H locs hl hw h0 hlo
  unfold am_newa at hs
  split at hs
  · rename_i k9 r9
    split at hs
    · rename_i hc
      rw [Bool.and_eq_true, decide_eq_true_eq, decide_eq_true_eq] at hc
      obtain ⟨hk1, hk2⟩ := am_k_le hc.1 hc.2
      cases hs
      obtain ⟨hp1, hp2⟩ := am_push_n (e9 := .inl (r, k9.toNatClampNeg, am_zero r)) hn hz
      dsimp only at hr
      rw [hp1, hp2] at hr
      have key : ∀ (ty : FieldType), newarray.typeOf at9 = ty → (am_tys ca)[r]? = some (ca r, ty) → (Cond.arrayClass ty) ∈ am_tb → componentBytes ty ≤ 8 → (∀ cA : ClassId, vp_cell cA (am_ra base (k9.toNatClampNeg, am_zero r)) = arrV cA k9.toNatClampNeg (fun _ => defaultValue ty)) → (va_RA s (ca r) ty → s.vm.findClass ("[" ++ ty.toString) = some (ca r)) →
          W p l e R s mm args below meth c H locs (h.length - n0) (am_sz h - z0) Q (F0 mm pc ls (am_rs base ext (.int k9 :: r9))) := by
        intro ty hty htt hacl hcb hcell hra
        subst hty
        have hRA := hra (hK.2 r _ htt).2
        refine va_newaK hx hb (hts _ hacl) rfl (am_dec_ok hd rfl) rfl hk1 rfl (by
          have := Nat.mul_le_mul hk2 hcb
          omega) hr.1 hr.2 hw.1 fun H1 cA e1 z1 o1 hAr hNm => ?_
        have hcA : cA = ca r := Option.some.inj (hNm.symm.trans hRA)
        subst hcA
        have hw1 : am_Wd base ext D ca (h ++ [.inl (r, k9.toNatClampNeg, am_zero r)]) H1 := hw.push (by
          show H1[base + h.length]? = some (vp_cell (ca r) (am_ra base (k9.toNatClampNeg, am_zero r)))
          rw [hcell]; exact e1) (by rw [z1, hw.1]) (fun q9 hq9 => o1 q9 (by rw [← hw.1]; exact hq9))
        have h5 := k ls H1 locs hl hw1 (fun q9 hq9 => (o1 q9 (by omega)).trans (h0 q9 hq9)) hlo
        dsimp only at h5
        rw [hp1, hp2] at h5
        exact h5
      cases at9 <;> first | (exact absurd (show false = true from hk) Bool.false_ne_true) | skip
      · have hr0 : r = 2 := beq_iff_eq.mp hk
        subst hr0
        exact key .boolean rfl rfl (am_tix_mem am_acl.2.2.1) (by decide) (fun cA => rfl) (fun h9 => h9)
      · have hr0 : r = 3 := beq_iff_eq.mp hk
        subst hr0
        exact key .char rfl rfl (am_tix_mem am_acl.2.2.2) (by decide) (fun cA => rfl) (fun h9 => h9)
      · have hr0 : r = 0 := beq_iff_eq.mp hk
        subst hr0
        exact key .int rfl rfl (am_tix_mem am_acl.1) (by decide) (fun cA => rfl) (fun h9 => h9)
      · have hr0 : r = 1 := beq_iff_eq.mp hk
        subst hr0
        exact key .long rfl rfl (am_tix_mem am_acl.2.1) (by decide) (fun cA => rfl) (fun h9 => h9)
    · cases hs
  · cases hs
theorem am_tsw_ok {d9 lo hi : Int} {os : Array Int} {r pc : Nat} {lv : am_LV} {st : List Value} {h : am_H} {q : am_S} (Cx : am_Cx p s mm args meth c m D ca base ext X H0) (hd : am_dec (am_by m) pc (.tableswitch d9 lo hi os) = true) (hk : am_lk m pc (.tableswitch d9 lo hi os) r = true) (hs : am_tsw d9 lo hi os pc lv st h = some q)
    (k : am_G1 p l e R s mm args below meth c Q m D ca base ext H0 n0 z0 q) : am_G p l e R s mm args below meth c Q m D ca base ext H0 n0 z0 pc lv st h := by
  obtain ⟨hx, hb, -⟩ := Cx
  obtain ⟨len, hdd, -⟩ := am_dec_sw hd
  have hk2 : (decide (0 ≤ (pc : Int) + d9) && os.toList.all (fun o => decide (0 ≤ (pc : Int) + o))) = true := hk
  rw [Bool.and_eq_true, decide_eq_true_eq, List.all_eq_true] at hk2
  intro ls H locs hl hw h0 hlo
  unfold am_tsw at hs
  split at hs
  · split at hs
    · rename_i x r9 hc
      rw [Bool.or_eq_true, decide_eq_true_eq, decide_eq_true_eq] at hc
      cases hs
      exact lv_tableOut hx hb hdd hc (Int.toNat_of_nonneg hk2.1).symm (k ls H locs hl hw h0 hlo)
    · rename_i x r9 hc
      rw [Bool.or_eq_true, decide_eq_true_eq, decide_eq_true_eq, not_or] at hc
      split at hs
      · rename_i o ho
        cases hs
        have hmem : o ∈ os.toList := by
          rw [← Array.getElem?_toList] at ho
          exact List.mem_of_getElem? ho
        exact lv_tableIn hx hb hdd hc.1 hc.2 ho (Int.toNat_of_nonneg (of_decide_eq_true (hk2.2 o hmem))).symm (k ls H locs hl hw h0 hlo)
      · cases hs
  · cases hs
theorem am_kst_ok {i : Instr} {x r n pc : Nat} {lv : am_LV} {st : List Value} {h : am_H} {q : am_S} (Cx : am_Cx p s mm args meth c m D ca base ext X H0) (hi : i = .ldc x ∧ n = 2 ∨ i = .ldc_w x ∧ n = 3 ∨ i = .ldc2_w x ∧ n = 3) (hd : am_dec (am_by m) pc i = true) (hk : am_has am_kl (am_ow m) x r = true) (hs : am_kst r n pc lv st h = some q)
    (hv : (∃ v, am_ks[r]? = some (.int v) ∧ i = .ldc x) ∨ ∃ v, am_ks[r]? = some (.long v) ∧ i = .ldc2_w x)
    (k : am_G1 p l e R s mm args below meth c Q m D ca base ext H0 n0 z0 q) : am_G p l e R s mm args below meth c Q m D ca base ext H0 n0 z0 pc lv st h := by
  obtain ⟨hx, hb, hml, hown, hts, hK, -⟩ := Cx
  have hw9 := am_kl_w _ (am_has_mem hk)
  intro ls H locs hl hw h0 hlo
  unfold am_kst at hs
  rcases hv with ⟨v, hv, rfl⟩ | ⟨v, hv, rfl⟩
  · rw [hv] at hs
    cases hs
    rcases hi with ⟨-, rfl⟩ | ⟨hi, -⟩ | ⟨hi, -⟩
    · exact lv_ldc hx hb hown (hts _ (hw9 _ (by simp only [am_kw, hv]))) (am_dec_ok hd rfl) (k ls H locs hl hw h0 hlo)
    · cases hi
    · cases hi
  · rw [hv] at hs
    cases hs
    rcases hi with ⟨hi, -⟩ | ⟨hi, -⟩ | ⟨-, rfl⟩
    · cases hi
    · cases hi
    · exact lv_ldc2 hx hb hown (hts _ (hw9 _ (by simp only [am_kw, hv]))) (am_dec_ok hd rfl) (k ls H locs hl hw h0 hlo)
end
