theorem am_nchar {x : Int32} (hf : am_afit 3 x = true) : narrow .char (.int x) = .int x := by
  have hf2 : (decide (0 ≤ x) && decide (x ≤ 65535)) = true := hf
  rw [Bool.and_eq_true, decide_eq_true_eq, decide_eq_true_eq] at hf2
  obtain ⟨j, hj, rfl⟩ := nI_of2 (M := 65535) (n := 65535) (by decide) (Int32.not_lt.mpr hf2.1) hf2.2
  exact (pk_charN (by omega)).1
section
variable {p : Program} {l : Launch} {e : Env} {R : Room} {s : State} {mm : MethodId} {args : Array Value} {below : List Frame} {meth : Method} {c : Code} {Q : State → Prop} {m : am_M} {D : va_G} {ca : Nat → ClassId} {base : Nat} {ext : Nat → Nat} {X : am_X} {H0 : Heap} {n0 z0 : Nat}
theorem am_alen_ok {pc : Nat} {lv : am_LV} {st : List Value} {h : am_H} {q : am_S} (Cx : am_Cx p s mm args meth c m D ca base ext X H0) (hd : am_dec (am_by m) pc .arraylength = true) (hs : am_alen X pc lv st h = some q)
    (k : am_G1 p l e R s mm args below meth c Q m D ca base ext H0 n0 z0 q) : am_G p l e R s mm args below meth c Q m D ca base ext H0 n0 z0 pc lv st h := by
  obtain ⟨hx, hb, hml, hown, hts, hK, hini, hlk, hrt, hbs, hbh, hex, -⟩ := Cx
  intro ls H locs hl hw h0 hlo
  unfold am_alen at hs
  split at hs
  · rename_i a r9
    split at hs
    · rename_i t n f ha
      split at hs
      · rename_i ht
        rw [Nat.blt_eq] at ht
        cases hs
        have hty : ∃ ty, (am_tys ca)[t]? = some (ca t, ty) := by
          match t, ht with
          | 0, _ => exact ⟨_, rfl⟩
          | 1, _ => exact ⟨_, rfl⟩
          | 2, _ => exact ⟨_, rfl⟩
          | 3, _ => exact ⟨_, rfl⟩
          | 4, _ => exact ⟨_, rfl⟩
          | 5, _ => exact ⟨_, rfl⟩
          | 6, _ => exact ⟨_, rfl⟩
          | j + 7, h9 => exact absurd h9 (by omega)
        obtain ⟨ty, hty⟩ := hty
        have hn : (am_ra base (n, f)).1 = n := by
          rcases f with f | f | f | f | f <;> rfl
        exact va_alen (tys := am_tys ca) hx hb hK (am_arr hw ha) 0 t rfl hty (by rw [hn]) (am_dec_ok hd rfl) (k ls H locs hl hw h0 hlo)
      · cases hs
    · cases hs
  · rename_i e9 r9
    split at hs
    · rename_i hc
      cases hs
      obtain ⟨⟨scr, h1, h2, h3, h4, h5⟩, hlt⟩ := hex e9.toNat hc
      exact W.alen (n := Int32.ofNat (X e9.toNat).1) hx hb (by rw [h0 _ hlt]; exact h1) h2 h4.2 rfl rfl (am_dec_ok hd rfl) (k ls H locs hl hw h0 hlo)
    · cases hs
  · cases hs
theorem am_push_n {h : am_H} {e9 : am_E} (hn : n0 ≤ h.length) (hz : z0 ≤ am_sz h) : (h ++ [e9]).length - n0 = h.length - n0 + 1 ∧ am_sz (h ++ [e9]) - z0 = am_sz h - z0 + am_sz1 e9 := by
  rw [am_sz_push, List.length_append, List.length_singleton]
  omega
theorem am_newo_ok {x r pc : Nat} {lv : am_LV} {st : List Value} {h : am_H} {q : am_S} (Cx : am_Cx p s mm args meth c m D ca base ext X H0) (hd : am_dec (am_by m) pc (.new x) = true) (hk : am_lk m pc (.new x) r = true) (h100 : r < 100) (hs : am_newo r pc lv st h = some q)
    (hn : n0 ≤ h.length) (hz : z0 ≤ am_sz h) (hr : q.2.2.2.length - n0 ≤ R.cells ∧ am_sz q.2.2.2 - z0 ≤ R.slots) (k : am_G1 p l e R s mm args below meth c Q m D ca base ext H0 n0 z0 q) : am_G p l e R s mm args below meth c Q m D ca base ext H0 n0 z0 pc lv st h := by
  obtain ⟨hx, hb, hml, hown, hts, hK, -⟩ := Cx
  obtain ⟨hnw, hci⟩ := am_nl_w _ (am_has_mem hk) h100
  obtain ⟨hi1, hi2⟩ := am_ini _ hci
  obtain ⟨fs, hfs, hrs, hdf⟩ := am_df_k _ hci
  intro ls H locs hl hw h0 hlo
  unfold am_newo at hs
  rw [hfs] at hs
  cases hs
  have hcl := am_clT _ hci
  have hin := am_uws _ _ hcl
  have hKn := hK.1 _ _ hcl
  obtain ⟨hp1, hp2⟩ := am_push_n (e9 := .inr (r, fs)) hn hz
  have hs1 : am_sz1 (.inr (r, fs)) = am_N r := by
    have hr9 : (r == 999) = false := by rw [beq_eq_false_iff_ne]; intro h9; omega
    simp [am_sz1, hr9]
  dsimp only at hr
  rw [hp1, hp2, hs1] at hr
  refine W.newcK hx hb hown (hts _ hnw) (hts _ hi2) (hts _ hi1) rfl (am_dec_ok hd rfl) hr.1 hr.2 hKn.2.1 hw.1 fun H1 kC hkC e1 z1 o1 => ?_
  have hw1 : am_Wd base ext D ca (h ++ [.inr (r, fs)]) H1 := hw.push (fun r9 hr9 => by
    cases Option.some.inj (hcl.symm.trans hr9)
    rw [hrs]
    exact (u_born (am_ty r) hts hin hKn hkC e1 (am_tyT _ hci).1).to hdf) (by rw [z1, hw.1]) (fun q9 hq9 => o1 q9 (by rw [← hw.1]; exact hq9))
  have h5 := k ls H1 locs hl hw1 (fun q9 hq9 => (o1 q9 (by omega)).trans (h0 q9 hq9)) hlo
  dsimp only at h5
  rw [hp1, hp2, hs1] at h5
  exact h5
theorem am_k_le {k : Int32} (h0 : 0 ≤ k) (h1 : k ≤ 1000000) : ¬ k < 0 ∧ k.toNatClampNeg ≤ 1000000 := by
  refine ⟨Int32.not_lt.mpr h0, ?_⟩
  rw [Int32.le_iff_toInt_le] at h0 h1
  have e1 : (1000000 : Int32).toInt = 1000000 := by decide
  have e0 : (0 : Int32).toInt = 0 := by decide
  rw [e1] at h1
  rw [e0] at h0
  show k.toInt.toNat ≤ 1000000
  omega
theorem am_newa_ok {at9 : ArrayType} {r pc : Nat} {lv : am_LV} {st : List Value} {h : am_H} {q : am_S} (Cx : am_Cx p s mm args meth c m D ca base ext X H0) (hd : am_dec (am_by m) pc (.newarray at9) = true) (hk : am_lk m pc (.newarray at9) r = true) (hs : am_newa r 2 pc lv st h = some q)
    (hn : n0 ≤ h.length) (hz : z0 ≤ am_sz h) (hr : q.2.2.2.length - n0 ≤ R.cells ∧ am_sz q.2.2.2 - z0 ≤ R.slots) (k : am_G1 p l e R s mm args below meth c Q m D ca base ext H0 n0 z0 q) : am_G p l e R s mm args below meth c Q m D ca base ext H0 n0 z0 pc lv st h := by
  obtain ⟨hx, hb, hml, hown, hts, hK, -⟩ := Cx
  intro ls H locs hl hw h0 hlo
  unfold am_newa at hs
  split at hs
  · rename_i k9 r9
    split at hs
    · rename_i hc
      rw [Bool.and_eq_true, decide_eq_true_eq, decide_eq_true_eq] at hc
      obtain ⟨hk1, hk2⟩ := am_k_le hc.1 hc.2
      cases hs
      obtain ⟨hp1, hp2⟩ := am_push_n (e9 := .inl (r, k9.toNatClampNeg, am_zero r)) hn hz
      dsimp only at hr
      rw [hp1, hp2] at hr
      have key : ∀ (ty : FieldType), newarray.typeOf at9 = ty → (am_tys ca)[r]? = some (ca r, ty) → (Cond.arrayClass ty) ∈ am_tb → componentBytes ty ≤ 8 → (∀ cA : ClassId, vp_cell cA (am_ra base (k9.toNatClampNeg, am_zero r)) = arrV cA k9.toNatClampNeg (fun _ => defaultValue ty)) → (va_RA s (ca r) ty → s.vm.findClass ("[" ++ ty.toString) = some (ca r)) →
          W p l e R s mm args below meth c H locs (h.length - n0) (am_sz h - z0) Q (F0 mm pc ls (am_rs base ext (.int k9 :: r9))) := by
        intro ty hty htt hacl hcb hcell hra
        subst hty
        have hRA := hra (hK.2 r _ htt).2
        refine va_newaK hx hb (hts _ hacl) rfl (am_dec_ok hd rfl) rfl hk1 rfl (by
          have := Nat.mul_le_mul hk2 hcb
          omega) hr.1 hr.2 hw.1 fun H1 cA e1 z1 o1 hAr hNm => ?_
        have hcA : cA = ca r := Option.some.inj (hNm.symm.trans hRA)
        subst hcA
        have hw1 : am_Wd base ext D ca (h ++ [.inl (r, k9.toNatClampNeg, am_zero r)]) H1 := hw.push (by
          show H1[base + h.length]? = some (vp_cell (ca r) (am_ra base (k9.toNatClampNeg, am_zero r)))
          rw [hcell]; exact e1) (by rw [z1, hw.1]) (fun q9 hq9 => o1 q9 (by rw [← hw.1]; exact hq9))
        have h5 := k ls H1 locs hl hw1 (fun q9 hq9 => (o1 q9 (by omega)).trans (h0 q9 hq9)) hlo
        dsimp only at h5
        rw [hp1, hp2] at h5
        exact h5
      cases at9 <;> first | (exact absurd (show false = true from hk) Bool.false_ne_true) | skip
      · have hr0 : r = 2 := beq_iff_eq.mp hk
        subst hr0
        exact key .boolean rfl rfl (am_tix_mem am_acl.2.2.1) (by decide) (fun cA => rfl) (fun h9 => h9)
      · have hr0 : r = 3 := beq_iff_eq.mp hk
        subst hr0
        exact key .char rfl rfl (am_tix_mem am_acl.2.2.2) (by decide) (fun cA => rfl) (fun h9 => h9)
      · have hr0 : r = 0 := beq_iff_eq.mp hk
        subst hr0
        exact key .int rfl rfl (am_tix_mem am_acl.1) (by decide) (fun cA => rfl) (fun h9 => h9)
      · have hr0 : r = 1 := beq_iff_eq.mp hk
        subst hr0
        exact key .long rfl rfl (am_tix_mem am_acl.2.1) (by decide) (fun cA => rfl) (fun h9 => h9)
    · cases hs
  · cases hs
theorem am_tsw_ok {d9 lo hi : Int} {os : Array Int} {r pc : Nat} {lv : am_LV} {st : List Value} {h : am_H} {q : am_S} (Cx : am_Cx p s mm args meth c m D ca base ext X H0) (hd : am_dec (am_by m) pc (.tableswitch d9 lo hi os) = true) (hk : am_lk m pc (.tableswitch d9 lo hi os) r = true) (hs : am_tsw d9 lo hi os pc lv st h = some q)
    (k : am_G1 p l e R s mm args below meth c Q m D ca base ext H0 n0 z0 q) : am_G p l e R s mm args below meth c Q m D ca base ext H0 n0 z0 pc lv st h := by
  obtain ⟨hx, hb, -⟩ := Cx
  obtain ⟨len, hdd, -⟩ := am_dec_sw hd
  have hk2 : (decide (0 ≤ (pc : Int) + d9) && os.toList.all (fun o => decide (0 ≤ (pc : Int) + o))) = true := hk
  rw [Bool.and_eq_true, decide_eq_true_eq, List.all_eq_true] at hk2
  intro ls H locs hl hw h0 hlo
  unfold am_tsw at hs
  split at hs
  · split at hs
    · rename_i x r9 hc
      rw [Bool.or_eq_true, decide_eq_true_eq, decide_eq_true_eq] at hc
      cases hs
      exact lv_tableOut hx hb hdd hc (Int.toNat_of_nonneg hk2.1).symm (k ls H locs hl hw h0 hlo)
    · rename_i x r9 hc
      rw [Bool.or_eq_true, decide_eq_true_eq, decide_eq_true_eq, not_or] at hc
      split at hs
      · rename_i o ho
        cases hs
        have hmem : o ∈ os.toList := by
          rw [← Array.getElem?_toList] at ho
          exact List.mem_of_getElem? ho
        exact lv_tableIn hx hb hdd hc.1 hc.2 ho (Int.toNat_of_nonneg (of_decide_eq_true (hk2.2 o hmem))).symm (k ls H locs hl hw h0 hlo)
      · cases hs
  · cases hs
theorem am_ksi_ok {x r pc : Nat} {lv : am_LV} {st : List Value} {h : am_H} {q : am_S} (Cx : am_Cx p s mm args meth c m D ca base ext X H0) (hd : am_dec (am_by m) pc (.ldc x) = true) (hk : am_has am_kl (am_ow m) x r = true) (hs : am_ksi r pc lv st h = some q)
    (k : am_G1 p l e R s mm args below meth c Q m D ca base ext H0 n0 z0 q) : am_G p l e R s mm args below meth c Q m D ca base ext H0 n0 z0 pc lv st h := by
  obtain ⟨hx, hb, hml, hown, hts, hK, -⟩ := Cx
  have hw9 := am_kl_w _ (am_has_mem hk)
  intro ls H locs hl hw h0 hlo
  unfold am_ksi at hs
  split at hs
  · rename_i v hv
    cases hs
    exact lv_ldc hx hb hown (hts _ (hw9 _ (by simp only [am_kw, hv]))) (am_dec_ok hd rfl) (k ls H locs hl hw h0 hlo)
  · cases hs
theorem am_ksw_ok {x r pc : Nat} {lv : am_LV} {st : List Value} {h : am_H} {q : am_S} (Cx : am_Cx p s mm args meth c m D ca base ext X H0) (hd : am_dec (am_by m) pc (.ldc_w x) = true) (hk : am_has am_kl (am_ow m) x r = true) (hs : am_ksw r pc lv st h = some q)
    (k : am_G1 p l e R s mm args below meth c Q m D ca base ext H0 n0 z0 q) : am_G p l e R s mm args below meth c Q m D ca base ext H0 n0 z0 pc lv st h := by
  obtain ⟨hx, hb, hml, hown, hts, hK, -⟩ := Cx
  have hw9 := am_kl_w _ (am_has_mem hk)
  intro ls H locs hl hw h0 hlo
  unfold am_ksw at hs
  split at hs
  · rename_i v hv
    cases hs
    exact lv_ldcw hx hb hown (hts _ (hw9 _ (by simp only [am_kw, hv]))) (am_dec_ok hd rfl) (k ls H locs hl hw h0 hlo)
  · cases hs
theorem am_ksl_ok {x r pc : Nat} {lv : am_LV} {st : List Value} {h : am_H} {q : am_S} (Cx : am_Cx p s mm args meth c m D ca base ext X H0) (hd : am_dec (am_by m) pc (.ldc2_w x) = true) (hk : am_has am_kl (am_ow m) x r = true) (hs : am_ksl r pc lv st h = some q)
    (k : am_G1 p l e R s mm args below meth c Q m D ca base ext H0 n0 z0 q) : am_G p l e R s mm args below meth c Q m D ca base ext H0 n0 z0 pc lv st h := by
  obtain ⟨hx, hb, hml, hown, hts, hK, -⟩ := Cx
  have hw9 := am_kl_w _ (am_has_mem hk)
  intro ls H locs hl hw h0 hlo
  unfold am_ksl at hs
  split at hs
  · rename_i v hv
    cases hs
    exact lv_ldc2 hx hb hown (hts _ (hw9 _ (by simp only [am_kw, hv]))) (am_dec_ok hd rfl) (k ls H locs hl hw h0 hlo)
  · cases hs
theorem am_vaS {H : Heap} {locs : List Loc} {h : am_H} (Cx : am_Cx p s mm args meth c m D ca base ext X H0) (hsz : s.heap.size = base + n0) (hn : n0 ≤ h.length) (hw : am_Wd base ext D ca h H) (h0 : ∀ q, q < base → H[q]? = H0[q]?) (hlo : ∀ z ∈ locs, base ≤ z.base) : va_S (fun q => base ≤ q) s.heap H locs := by
  obtain ⟨hx, hb, hml, hown, hts, hK, hini, hlk, hrt, hbs, hbh, hex, -⟩ := Cx
  exact ⟨by rw [hsz, hw.1]; omega, fun q _ hq => (h0 q (Nat.not_le.mp hq)).trans (hbh q (Nat.not_le.mp hq)).symm, hlo⟩
theorem am_gst_ok {x r pc : Nat} {lv : am_LV} {st : List Value} {h : am_H} {q : am_S} (Cx : am_Cx p s mm args meth c m D ca base ext X H0) (Ev : am_Ev l s ca base ext H0) (hsz : s.heap.size = base + n0) (hn : n0 ≤ h.length) (hd : am_dec (am_by m) pc (.getstatic x) = true) (hk : am_lk m pc (.getstatic x) r = true) (hs : am_gst r pc lv st h = some q)
    (k : am_G1 p l e R s mm args below meth c Q m D ca base ext H0 n0 z0 q) : am_G p l e R s mm args below meth c Q m D ca base ext H0 n0 z0 pc lv st h := by
  have Cx9 := Cx
  obtain ⟨hx, hb, hml, hown, hts, hK, hini, hlk, hrt, hbs, hbh, hex, -⟩ := Cx
  obtain ⟨-, hst, -⟩ := Ev
  intro ls H locs hl hw h0 hlo
  unfold am_gst at hs
  split at hs
  · rename_i hxs
    cases hs
    have hmem := am_has_mem (show am_has am_sl (am_ow m) x r = true from hk)
    have hZ := (hst r hxs).kept (H1 := s.heap) (fun a _ ha => hbh a (Nat.not_le.mp ha))
    have h5 := k ls H locs hl hw h0 hlo
    have hr9 : (UInt32.ofNat r).toNat = r := by
      have : r < 100 := by
        unfold am_xst at hxs
        simp only [Bool.or_eq_true, beq_iff_eq] at hxs
        omega
      first | (show r % 4294967296 = r; omega) | (simp; omega)
    have h6 : am_rs base ext (Value.float (UInt32.ofNat r) :: st) = .ref (ext r) :: am_rs base ext st := by
      show Value.ref (ext (UInt32.ofNat r).toNat) :: _ = _
      rw [hr9]
    dsimp only at h5
    rw [h6] at h5
    by_cases h11 : am_ow m = 11
    · obtain ⟨hfl, -⟩ := am_sl_w _ hmem h11
      rw [h11] at hown
      exact va_gets hx hb hZ (am_vaS Cx9 hsz hn hw h0 hlo) hown (hts _ hfl) (fun _ h9 => h9) (am_dec_ok hd rfl) h5
    · obtain ⟨host, hfl⟩ := am_sl_n _ hmem h11
      exact va_getsN hx hb hZ (am_vaS Cx9 hsz hn hw h0 hlo) hown (hts _ hfl) (fun _ h9 => h9) (am_dec_ok hd rfl) h5
  · cases hs
theorem am_newq_ok {x r pc : Nat} {lv : am_LV} {st : List Value} {h : am_H} {q : am_S} (Cx : am_Cx p s mm args meth c m D ca base ext X H0) (hd : am_dec (am_by m) pc (.anewarray x) = true) (hk : am_lk m pc (.anewarray x) r = true) (h6 : r < 6) (hs : am_newa r 3 pc lv st h = some q)
    (hn : n0 ≤ h.length) (hz : z0 ≤ am_sz h) (hr : q.2.2.2.length - n0 ≤ R.cells ∧ am_sz q.2.2.2 - z0 ≤ R.slots) (k : am_G1 p l e R s mm args below meth c Q m D ca base ext H0 n0 z0 q) : am_G p l e R s mm args below meth c Q m D ca base ext H0 n0 z0 pc lv st h := by
  obtain ⟨hx, hb, hml, hown, hts, hK, -⟩ := Cx
  obtain ⟨hcl, h4⟩ := am_al_w _ (am_has_mem (show am_has am_al (am_ow m) x r = true from hk)) h6
  intro ls H locs hl hw h0 hlo
  unfold am_newa at hs
  split at hs
  · rename_i k9 r9
    split at hs
    · rename_i hc
      rw [Bool.and_eq_true, decide_eq_true_eq, decide_eq_true_eq] at hc
      obtain ⟨hk1, hk2⟩ := am_k_le hc.1 hc.2
      cases hs
      obtain ⟨hp1, hp2⟩ := am_push_n (e9 := .inl (r, k9.toNatClampNeg, am_zero r)) hn hz
      dsimp only at hr
      rw [hp1, hp2] at hr
      have key : (am_tys ca)[r]? = some (ca r, .object (am_oc r)) ∧ Cond.arrayOver (.object (am_oc r)) ∈ am_tb ∧ am_zero r = .inr (.inr (.inr (.inr (fun _ => none)))) := by
        have : r = 4 ∨ r = 5 := by dsimp only at h4; omega
        rcases this with rfl | rfl
        · exact ⟨rfl, am_tix_mem am_aov.1, rfl⟩
        · exact ⟨rfl, am_tix_mem am_aov.2.1, rfl⟩
      obtain ⟨htt, hov, hze⟩ := key
      obtain ⟨kA, comp, k1, k2, k3, k4⟩ := (hK.2 r _ htt).2
      refine W.anew hx hb hown (hts _ hcl) (hts _ hov) rfl (am_dec_ok hd rfl) rfl hk1 (by omega) hr.1 hr.2 (fun cA kA9 comp9 e1 e2 e3 e4 => ?_)
      have hcA : cA = ca r := Option.some.inj (e1.symm.trans k4)
      subst hcA
      have hw1 : am_Wd base ext D ca (h ++ [.inl (r, k9.toNatClampNeg, am_zero r)]) (H.push { cls := ca r, slots := Array.replicate k9.toNatClampNeg .null, vm := .none }) := hw.push (by
        show (H.push _)[base + h.length]? = some (vp_cell (ca r) (am_ra base (k9.toNatClampNeg, am_zero r)))
        rw [hze, ← hw.1, Array.getElem?_push_size, arrV_new]
        rfl) (by rw [Array.size_push]) (fun q9 hq9 => by rw [Array.getElem?_push, if_neg (Nat.ne_of_lt hq9)])
      have h5 := k ls _ locs hl hw1 (fun q9 hq9 => by rw [Array.getElem?_push, if_neg (by rw [hw.1]; omega)]; exact h0 q9 hq9) hlo
      dsimp only at h5
      rw [hp1, hp2] at h5
      show W p l e R s mm args below meth c _ locs _ _ Q (F0 mm (pc + 3) ls (.ref H.size :: am_rs base ext r9))
      rw [hw.1]
      exact h5
    · cases hs
  · cases hs
theorem am_newr_ok {x r pc : Nat} {lv : am_LV} {st : List Value} {h : am_H} {q : am_S} (Cx : am_Cx p s mm args meth c m D ca base ext X H0) (hd : am_dec (am_by m) pc (.anewarray x) = true) (hk : am_lk m pc (.anewarray x) r = true) (h6 : r = 6) (hs : am_newa r 3 pc lv st h = some q)
    (hn : n0 ≤ h.length) (hz : z0 ≤ am_sz h) (hr : q.2.2.2.length - n0 ≤ R.cells ∧ am_sz q.2.2.2 - z0 ≤ R.slots) (k : am_G1 p l e R s mm args below meth c Q m D ca base ext H0 n0 z0 q) : am_G p l e R s mm args below meth c Q m D ca base ext H0 n0 z0 pc lv st h := by
  obtain ⟨hx, hb, hml, hown, hts, hK, -⟩ := Cx
  have hcl := am_al6_w _ (am_has_mem (show am_has am_al (am_ow m) x r = true from hk)) h6
  intro ls H locs hl hw h0 hlo
  unfold am_newa at hs
  split at hs
  · rename_i k9 r9
    split at hs
    · rename_i hc
      rw [Bool.and_eq_true, decide_eq_true_eq, decide_eq_true_eq] at hc
      obtain ⟨hk1, hk2⟩ := am_k_le hc.1 hc.2
      cases hs
      obtain ⟨hp1, hp2⟩ := am_push_n (e9 := .inl (r, k9.toNatClampNeg, am_zero r)) hn hz
      dsimp only at hr
      rw [hp1, hp2] at hr
      subst h6
      have hov := am_tix_mem am_aov.2.2
      have k4 : s.vm.findClass ("[" ++ (FieldType.array .long).toString) = some (ca 6) := (hK.2 6 _ rfl).2
      refine W.anewA hx hb hown (hts _ hcl) (hts _ hov) rfl (am_dec_ok hd rfl) rfl hk1 (by omega) hr.1 hr.2 (fun cA kA9 comp9 e1 e2 e3 e4 => ?_)
      have hcA : cA = ca 6 := Option.some.inj (e1.symm.trans k4)
      subst hcA
      have hw1 : am_Wd base ext D ca (h ++ [.inl (6, k9.toNatClampNeg, am_zero 6)]) (H.push { cls := ca 6, slots := Array.replicate k9.toNatClampNeg .null, vm := .none }) := hw.push (by
        show (H.push _)[base + h.length]? = some (vp_cell (ca 6) (am_ra base (k9.toNatClampNeg, am_zero 6)))
        rw [← hw.1, Array.getElem?_push_size, arrV_new]
        rfl) (by rw [Array.size_push]) (fun q9 hq9 => by rw [Array.getElem?_push, if_neg (Nat.ne_of_lt hq9)])
      have h5 := k ls _ locs hl hw1 (fun q9 hq9 => by rw [Array.getElem?_push, if_neg (by rw [hw.1]; omega)]; exact h0 q9 hq9) hlo
      dsimp only at h5
      rw [hp1, hp2] at h5
      show W p l e R s mm args below meth c _ locs _ _ Q (F0 mm (pc + 3) ls (.ref H.size :: am_rs base ext r9))
      rw [hw.1]
      exact h5
    · cases hs
  · cases hs
theorem am_off {l9 : List (Int × Int)} {d9 x : Int} : Op.lookupswitch.offset l9 d9 x = d9 ∨ ∃ q ∈ l9, Op.lookupswitch.offset l9 d9 x = q.2 := by
  induction l9 with
  | nil => exact Or.inl rfl
  | cons q r ih =>
    obtain ⟨a, o⟩ := q
    rw [Op.lookupswitch.offset_cons]
    split
    · exact Or.inr ⟨_, List.mem_cons_self, rfl⟩
    · rcases ih with h | ⟨q, hq, h⟩
      · exact Or.inl h
      · exact Or.inr ⟨q, List.mem_cons_of_mem _ hq, h⟩
theorem am_lsw_ok {d9 : Int} {ps : Array (Int × Int)} {r pc : Nat} {lv : am_LV} {st : List Value} {h : am_H} {q : am_S} (Cx : am_Cx p s mm args meth c m D ca base ext X H0) (hd : am_dec (am_by m) pc (.lookupswitch d9 ps) = true) (hk : am_lk m pc (.lookupswitch d9 ps) r = true) (hs : am_lsw d9 ps pc lv st h = some q)
    (k : am_G1 p l e R s mm args below meth c Q m D ca base ext H0 n0 z0 q) : am_G p l e R s mm args below meth c Q m D ca base ext H0 n0 z0 pc lv st h := by
  obtain ⟨hx, hb, -⟩ := Cx
  obtain ⟨len, hdd, -⟩ := am_dec_sw hd
  have hk2 : (decide (0 ≤ (pc : Int) + d9) && ps.toList.all (fun q => decide (0 ≤ (pc : Int) + q.2)) && (ps.toList.zip (ps.toList.drop 1)).all (fun (a, next) => a.1 < next.1)) = true := hk
  rw [Bool.and_eq_true, Bool.and_eq_true, decide_eq_true_eq, List.all_eq_true] at hk2
  intro ls H locs hl hw h0 hlo
  unfold am_lsw at hs
  split at hs
  · rename_i x r9
    cases hs
    have hnn : 0 ≤ (pc : Int) + Op.lookupswitch.offset ps.toList d9 x.toInt := by
      rcases am_off (l9 := ps.toList) (d9 := d9) (x := x.toInt) with h9 | ⟨q9, hq9, h9⟩
      · rw [h9]; exact hk2.1.1
      · rw [h9]; exact of_decide_eq_true (hk2.1.2 q9 hq9)
    exact lv_lookup hx hb hdd hk2.2 rfl (Int.toNat_of_nonneg hnn).symm (k ls H locs hl hw h0 hlo)
  · cases hs
/-- every instruction that neither calls nor ends -/
theorem am_s1_ok {i : Instr} {r pc : Nat} {lv : am_LV} {st : List Value} {h : am_H} {q : am_S} (Cx : am_Cx p s mm args meth c m D ca base ext X H0) (Ev : am_Ev l s ca base ext H0) (hsz : s.heap.size = base + n0) (hn : n0 ≤ h.length) (hz : z0 ≤ am_sz h) (hr : q.2.2.2.length - n0 ≤ R.cells ∧ am_sz q.2.2.2 - z0 ≤ R.slots)
    (hd : am_dec (am_by m) pc i = true) (hk : am_lk m pc i r = true) (hs : am_s1 X i r pc lv st h = some q) (k : am_G1 p l e R s mm args below meth c Q m D ca base ext H0 n0 z0 q) : am_G p l e R s mm args below meth c Q m D ca base ext H0 n0 z0 pc lv st h := by
  have hK := Cx.2.2.2.2.2.1
  have hx := Cx.1
  have hb := Cx.2.1
  by_cases hp : am_pl i = true
  · exact am_plain Cx hd hk hs hp k
  · cases i <;> first
      | (exact absurd rfl hp)
      | (exact absurd (show none = some q from hs) (fun h9 => nomatch h9))
      | skip
    case getfield x => exact am_getf_ok Cx hd hk hs k
    case putfield x => exact am_putf_ok Cx hd hk hs k
    case iaload => exact am_ialdX_ok Cx hd hs k
    case baload => exact am_iald_ok (t := 2) hs (fun hP hin kk => va_zald (tys := am_tys ca) hx hb hK hP 0 2 rfl rfl hin (am_dec_ok hd rfl) kk) k
    case caload => exact am_iald_ok (t := 3) hs (fun hP hin kk => va_cald (tys := am_tys ca) hx hb hK hP 0 3 rfl rfl hin (am_dec_ok hd rfl) kk) k
    case laload => exact am_lald_ok Cx hd hs k
    case aaload => exact am_aald_ok Cx hd hs k
    case iastore => exact am_iast_ok (t := 0) hs (fun hc hin _ kk => W.iast hx hb hc ((hK.2 0 _ rfl).1 _ _) (fun q9 => by cases q9) (by rw [arrV_size]; exact hin) rfl rfl (am_dec_ok hd rfl) kk) k
    case bastore => exact am_iast_ok (t := 2) hs (fun {H locs cells slots ls rest a n f i x} hc hin hf kk => W.zast hx hb hc ((hK.2 2 _ rfl).1 _ _) (fun q9 => by cases q9) (by rw [arrV_size]; exact hin) rfl rfl (am_dec_ok hd rfl) (by
      have hf2 : (x == 0 || x == 1) = true := hf
      rw [Bool.or_eq_true, beq_iff_eq, beq_iff_eq] at hf2
      have hnx : narrow .boolean (.int x) = .int x := by
        rcases hf2 with rfl | rfl
        · exact (by decide : narrow .boolean (.int 0) = .int 0)
        · exact (by decide : narrow .boolean (.int 1) = .int 1)
      rw [hnx]; exact kk)) k
    case castore => exact am_iast_ok (t := 3) hs (fun {H locs cells slots ls rest a n f i x} hc hin hf kk => W.cast hx hb hc ((hK.2 3 _ rfl).1 _ _) (fun q9 => by cases q9) (by rw [arrV_size]; exact hin) rfl rfl (am_dec_ok hd rfl) (by
      have hnx : narrow .char (.int x) = .int x := am_nchar hf
      rw [hnx]; exact kk)) k
    case lastore => exact am_last_ok Cx hd hs k
    case aastore => exact am_aast_ok Cx hd hs k
    case arraylength => exact am_alen_ok Cx hd hs k
    case newarray t => exact am_newa_ok Cx hd hk hs hn hz hr k
    case anewarray x =>
      have hs2 : (if Nat.blt r 7 then am_newa r 3 pc lv st h else none) = some q := hs
      split at hs2
      · rename_i h6
        rw [Nat.blt_eq] at h6
        by_cases h7 : r = 6
        · exact am_newr_ok Cx hd hk h7 hs2 hn hz hr k
        · exact am_newq_ok Cx hd hk (by omega) hs2 hn hz hr k
      · cases hs2
    case new x =>
      have hs2 : (if Nat.blt r 100 then am_newo r pc lv st h else none) = some q := hs
      split at hs2
      · rename_i h6; exact am_newo_ok Cx hd hk (Nat.blt_eq.mp h6) hs2 hn hz hr k
      · cases hs2
    case ldc x => exact am_ksi_ok Cx hd hk hs k
    case ldc_w x => exact am_ksw_ok Cx hd hk hs k
    case ldc2_w x => exact am_ksl_ok Cx hd hk hs k
    case getstatic x => exact am_gst_ok Cx Ev hsz hn hd hk hs k
    case tableswitch d9 lo hi os => exact am_tsw_ok Cx hd hk hs k
    case lookupswitch d9 ps => exact am_lsw_ok Cx hd hk hs k
end
