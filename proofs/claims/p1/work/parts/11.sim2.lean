theorem am_inb_vp {i : Int32} {n : Nat} (h : am_inb i n = true) : vp_in i n := by
  unfold am_inb at h
  rw [Bool.and_eq_true, decide_eq_true_eq, decide_eq_true_eq] at h
  intro q
  rcases q with q | q
  · exact absurd h.1 (Int32.not_le.mpr q)
  · omega
theorem am_df_k : ∀ ci, ci < 13 → ∃ fs, am_df[ci]? = some fs ∧ (∀ (b : Nat) (x : Nat → Nat), am_rs b x fs = fs) ∧ ∀ j, j < am_N ci → defaultValue (am_ty ci j) = vp_V fs j := by
  intro ci h
  match ci, h with
  | 0, _ => exact ⟨_, rfl, fun _ _ => rfl, by decide⟩
  | 1, _ => exact ⟨_, rfl, fun _ _ => rfl, by decide⟩
  | 2, _ => exact ⟨_, rfl, fun _ _ => rfl, by decide⟩
  | 3, _ => exact ⟨_, rfl, fun _ _ => rfl, by decide⟩
  | 4, _ => exact ⟨_, rfl, fun _ _ => rfl, by decide⟩
  | 5, _ => exact ⟨_, rfl, fun _ _ => rfl, by decide⟩
  | 6, _ => exact ⟨_, rfl, fun _ _ => rfl, by decide⟩
  | 7, _ => exact ⟨_, rfl, fun _ _ => rfl, by decide⟩
  | 8, _ => exact ⟨_, rfl, fun _ _ => rfl, by decide⟩
  | 9, _ => exact ⟨_, rfl, fun _ _ => rfl, by decide⟩
  | 10, _ => exact ⟨_, rfl, fun _ _ => rfl, by decide⟩
  | 11, _ => exact ⟨_, rfl, fun _ _ => rfl, by decide⟩
  | 12, _ => exact ⟨_, rfl, fun _ _ => rfl, by decide⟩
  | n + 13, h => exact absurd h (by omega)
theorem am_dcl : ∀ ci, ci < 13 → ∀ k, k < am_N ci → (am_T ci k).1 = am_on.getD ci "" := by
  intro ci h
  match ci, h with
  | 0, _ => exact (by decide +kernel)
  | 1, _ => exact (by decide +kernel)
  | 2, _ => exact (by decide +kernel)
  | 3, _ => exact (by decide +kernel)
  | 4, _ => exact (by decide +kernel)
  | 5, _ => exact (by decide +kernel)
  | 6, _ => exact (by decide +kernel)
  | 7, _ => exact (by decide +kernel)
  | 8, _ => exact (by decide +kernel)
  | 9, _ => exact (by decide +kernel)
  | 10, _ => exact (by decide +kernel)
  | 11, _ => exact (by decide +kernel)
  | 12, _ => exact (by decide +kernel)
  | n + 13, h => exact absurd h (by omega)
section
variable {p : Program} {l : Launch} {e : Env} {R : Room} {s : State} {mm : MethodId} {args : Array Value} {below : List Frame} {meth : Method} {c : Code} {Q : State → Prop} {m : am_M} {D : va_G} {ca : Nat → ClassId} {base : Nat} {ext : Nat → Nat} {X : am_X} {H0 : Heap} {n0 z0 : Nat}
/-- one object of the abstract heap, as the kit's world has it -/
theorem am_obj {h : am_H} {H : Heap} {a ci : Nat} {fs : List Value} (hw : am_Wd base ext D ca h H) (ha : h[a]? = some (.inr (ci, fs))) (hc : ci < 13) : va_P D vwCl [(base + a, .inr (ci, am_rs base ext fs))] H := by
  intro k q hk
  cases k with
  | zero => cases hk; exact ⟨_, am_clT ci hc, hw.2 a _ ha _ (am_clT ci hc)⟩
  | succ n => cases hk
theorem am_arr {h : am_H} {H : Heap} {a t : Nat} {x : vp_A} (hw : am_Wd base ext D ca h H) (ha : h[a]? = some (.inl (t, x))) : va_P D vwCl [(base + a, .inl (ca t, am_ra base x))] H := by
  intro k q hk
  cases k with
  | zero => cases hk; exact hw.2 a _ ha
  | succ n => cases hk
theorem am_getf_ok {x r pc : Nat} {lv : am_LV} {st : List Value} {h : am_H} {q : am_S} (Cx : am_Cx p s mm args meth c m D ca base ext X H0) (hd : am_dec (am_by m) pc (.getfield x) = true) (hk : am_lk m pc (.getfield x) r = true) (hs : am_getf r pc lv st h = some q)
    (k : am_G1 p l e R s mm args below meth c Q m D ca base ext H0 n0 z0 q) : am_G p l e R s mm args below meth c Q m D ca base ext H0 n0 z0 pc lv st h := by
  obtain ⟨hx, hb, hml, hown, hts, hK, -⟩ := Cx
  obtain ⟨hfw, hkN, hci⟩ := am_fl_k _ (am_has_mem hk)
  intro ls H locs hl hw h0 hlo
  unfold am_getf at hs
  split at hs
  · rename_i a s9
    split at hs
    · rename_i c1 fs ha
      split at hs
      · rename_i hc
        rw [beq_iff_eq] at hc
        subst hc
        split at hs
        · rename_i v hv
          cases hs
          exact va_get (D := D) hx hb hts (am_uws _ _ (am_clT _ hci)) hown hK (am_obj hw ha hci) 0 rfl (am_clT _ hci) (r % 256) hkN (hts _ hfw) (fun _ h9 => h9) (v := am_rv base ext v) (by rw [List.getElem?_map, hv]; rfl) (am_dec_ok hd rfl) (k ls H locs hl hw h0 hlo)
        · cases hs
      · cases hs
    · cases hs
  · cases hs
theorem am_fit_n {ty : FieldType} {v : Value} (b : Nat) (x : Nat → Nat) (h : am_fit ty v = true) : narrow ty (am_rv b x v) = am_rv b x v ∧ fits ty (am_rv b x v) = true := by
  unfold am_fit at h
  split at h
  · exact ⟨rfl, rfl⟩
  · exact ⟨rfl, rfl⟩
  · rw [Bool.or_eq_true, beq_iff_eq, beq_iff_eq] at h
    rcases h with h | h
    · subst h; exact ⟨(by decide : narrow .boolean (.int 0) = .int 0), (by decide : fits .boolean (.int 0) = true)⟩
    · subst h; exact ⟨(by decide : narrow .boolean (.int 1) = .int 1), (by decide : fits .boolean (.int 1) = true)⟩
  · unfold am_isR at h
    split at h <;> first | exact ⟨rfl, rfl⟩ | cases h
  · unfold am_isR at h
    split at h <;> first | exact ⟨rfl, rfl⟩ | cases h
  · cases h
theorem am_putf_ok {x r pc : Nat} {lv : am_LV} {st : List Value} {h : am_H} {q : am_S} (Cx : am_Cx p s mm args meth c m D ca base ext X H0) (hd : am_dec (am_by m) pc (.putfield x) = true) (hk : am_lk m pc (.putfield x) r = true) (hs : am_putf r pc lv st h = some q)
    (k : am_G1 p l e R s mm args below meth c Q m D ca base ext H0 n0 z0 q) : am_G p l e R s mm args below meth c Q m D ca base ext H0 n0 z0 pc lv st h := by
  obtain ⟨hx, hb, hml, hown, hts, hK, hini, -⟩ := Cx
  have hk2 : (am_has am_fl (am_ow m) x r && am_fok m r) = true := hk
  rw [Bool.and_eq_true] at hk2
  obtain ⟨hfw, hkN, hci⟩ := am_fl_k _ (am_has_mem hk2.1)
  have hfok := hk2.2
  intro ls H locs hl hw h0 hlo
  unfold am_putf at hs
  split at hs
  · rename_i v a s9
    split at hs
    · rename_i c1 fs ha
      split at hs
      · rename_i hc
        rw [Bool.and_eq_true, Bool.and_eq_true, beq_iff_eq, Nat.blt_eq] at hc
        obtain ⟨⟨hc1, hlen⟩, hfit⟩ := hc
        subst hc1
        cases hs
        obtain ⟨hn, hf⟩ := am_fit_n base ext hfit
        have hcl := am_clT _ hci
        have hin := am_uws _ _ hcl
        have hty := (am_tyT _ hci).1
        have hap := va_apart (own := am_on.getD (am_ow m) "") hts hin (am_ty (r / 256)) hty (am_tyT _ hci).2 hK hcl
        obtain ⟨cell, q1, q2, q3, q4⟩ := hw.2 a _ ha _ hcl
        obtain ⟨hS, hfc, kC, hkC, hkind⟩ := hK.1 _ _ hcl
        obtain ⟨cf, kf, fi, f, hi, hsl⟩ := hS (r % 256) hkN
        have hst := (u_facts hfc hkC (u_lays hts hin hkN) hi).1
        have hlay := hts _ (hin _ (u_in_lay hkN))
        have fin : ∀ (H1 : Heap) (locs1 : List Loc), H1[base + a]? = some (cell.setSlot (D.2 (r / 256) (r % 256)) (am_rv base ext v)) → H1.size = H.size → (∀ q, q ≠ base + a → H1[q]? = H[q]?) → (∀ z ∈ locs1, base ≤ z.base) →
            W p l e R s mm args below meth c H1 locs1 (h.length - n0) (am_sz h - z0) Q (F0 mm (pc + 3) ls (am_rs base ext s9)) := by
          intro H1 locs1 e1 e2 e3 hlo1
          have hw1 : am_Wd base ext D ca (h.set a (.inr (r / 256, fs.set (r % 256) v))) H1 := hw.set ha (fun r9 hr9 => by
            cases Option.some.inj (hcl.symm.trans hr9)
            refine t_OB.to (V := updV (vp_V (am_rs base ext fs)) (r % 256) (am_rv base ext v)) ⟨_, e1, q2, q3, t_set q4 hap hkN _⟩ (fun j _ => ?_)
            rw [vp_updV_set (by rw [List.length_map]; exact hlen), ← List.map_set]) e2 e3
          have h5 := k ls H1 locs1 hl hw1 (fun q9 hq9 => (e3 q9 (by omega)).trans (h0 q9 hq9)) hlo1
          have hsz : am_sz (h.set a (.inr (r / 256, fs.set (r % 256) v))) = am_sz h := am_sz_set ha rfl
          simp only [List.length_set, hsz] at h5
          exact h5
        by_cases hfin : (am_T (r / 256) (r % 256)).2.2.2 = true
        · unfold am_fok at hfok
          rw [hfin] at hfok
          have hfok2 : (am_kd m == 2 && am_ow m == r / 256) = true := hfok
          rw [Bool.and_eq_true, beq_iff_eq, beq_iff_eq] at hfok2
          unfold u_lay at hlay
          rw [if_pos hfin] at hlay
          have hdecl : (am_T (r / 256) (r % 256)).1 = am_on.getD (r / 256) "" := am_dcl _ hci _ hkN
          have hcf : mm.cls = cf := by
            obtain ⟨_, _, c', _, _, _, -, -, hf', -, -, -, hown2, -⟩ := Cond.laysFinal_spec hlay
            have e1 : c' = cf := by have := hi.symm.trans hf'; simp at this; exact this.1.symm
            rw [hdecl, ← hfok2.2] at hown2
            rw [← e1]; exact Option.some.inj (hown.symm.trans hown2)
          have h6 := u_fits hfc hkC hkind (Or.inr hlay) hi (hty _ hkN) hn hf
          refine W.putFinK hx hb hown (hts _ hfw) hi hst hcf (hini hfok2.1) (by rw [q2]; exact h6) q1 q3 (by rw [hsl]; exact k2_hasslot (q4 _ hkN)) rfl rfl (am_dec_ok hd rfl) fun H1 e1 e2 e3 => ?_
          rw [hsl] at e1
          exact fin H1 _ e1 e2 e3 (fun z hz => by
            rcases List.mem_append.mp hz with hz | hz
            · exact hlo z hz
            · rw [List.mem_singleton] at hz; subst hz; exact Nat.le_add_right _ _)
        · unfold u_lay at hlay
          rw [if_neg hfin] at hlay
          have h6 := u_store hfc hkC hkind hlay hi (hty _ hkN) hn hf
          refine W.putK hx hb (f := f) ⟨hown, hts _ hfw, ⟨_, _, _, hi⟩, hst⟩ (by rw [q2]; exact h6) q1 q3 (by rw [hsl]; exact k2_hasslot (q4 _ hkN)) rfl rfl (am_dec_ok hd rfl) fun H1 e1 e2 e3 => ?_
          rw [hsl] at e1
          exact fin H1 _ e1 e2 e3 (fun z hz => by
            rcases List.mem_append.mp hz with hz | hz
            · exact hlo z hz
            · rw [List.mem_singleton] at hz; subst hz; exact Nat.le_add_right _ _)
      · cases hs
    · cases hs
  · cases hs
end
