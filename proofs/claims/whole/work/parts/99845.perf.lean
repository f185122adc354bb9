/-! ===== the class runs a program on a row of facts ===== -/
set_option maxRecDepth 100000 in
set_option maxHeartbeats 1600000 in
theorem k_perf_15 {V : Nat → Nat → Value} {I : Nat → Nat → Int32} {L : Nat → Nat → Int64} {R : Nat → Nat → Option Nat} {tl : am_H} {N a it kd ln sz m0 lm len fr : Nat} {fi s v row : Nat → Int32} {x y z : Int32} {o : Int32 × Nat × Int32} (hN : 100 < N) (hw : wt V) (hl : ldC V I tl a it kd ln sz m0 fi s v lm) (ho : rP kd ln sz s v lm x y z len row o) (hfr : fr + 15 ≤ 360) (hx : I 15 fr = x) (hy : I 15 (fr + 1) = y) (hz : I 15 (fr + 2) = z) (hln : I 15 (fr + 6) = nI len) (hlen : len ≤ 8) (hrow : ∀ i, i < len → I 15 (fr + 7 + i) = row i) : ∃ W J, fm_116 N (.ref 16) (.ref 15) (nI fr) (fx V I L R ++ tl) = some (.inl (none, fx W J L R ++ tl)) ∧ W 16 1 = .int o.1 ∧ W 16 2 = .int (nI o.2.1) ∧ W 16 3 = .int o.2.2 ∧ frP V W I J := by
  obtain ⟨hp, ⟨a16, a17, i18, i25, i26⟩, hi, hs, hm0, hm1, h4, h0, hlo, hhi, hT⟩ := hl
  obtain ⟨o0, o1, o2, o3⟩ := ho
  have hk := hs.1
  have hsz := hs.2.1
  obtain ⟨cs, h11⟩ := hw.1 16 11 (by decide)
  obtain ⟨ce, h12⟩ := hw.1 16 12 (by decide)
  have p1 : prA (pfV V x y z len) (pfI I 15 fr) tl a it kd ln sz m0 fi := prA_c (fun j => pfV_o a16) (iup_na i25) hp
  have r1 : ∀ i, i < len → pfI I 15 fr 25 i = row i := fun i h => by
    rw [← hrow i h]
    show (if 0 ≤ i ∧ i < 0 + 8 then I 15 (fr + 7 + (i - 0)) else I 25 i) = _
    rw [if_pos ⟨Nat.zero_le _, by omega⟩, Nat.sub_zero]
  have eV : rsC (pfV V x y z len) 0 0 = pfV V x y z len := by
    unfold rsC
    rw [show vup (pfV V x y z len) 16 1 (.int 0) = pfV V x y z len from vup_self rfl, show vup (pfV V x y z len) 16 2 (.int (nI 0)) = pfV V x y z len from vup_self rfl]
  -- up to the choice of the kind
  have pre : ∀ {q : Option am_O}, ((am_vR (am_pG 1540 (.ref 16) (fx (pfV V x y z len) (pfI I 15 fr) L R ++ tl))).bind fun v38 => ((am_vI (am_pG 769 v38 (fx (pfV V x y z len) (pfI I 15 fr) L R ++ tl))).bind fun v40 => (if ¬ v40 = 0 then ((am_vR (am_pG 1540 (.ref 16) (fx (pfV V x y z len) (pfI I 15 fr) L R ++ tl))).bind fun v43 => ((am_vI (am_pG 769 v43 (fx (pfV V x y z len) (pfI I 15 fr) L R ++ tl))).bind fun v45 => (if ¬ v45 = 1 then ((am_vR (am_pG 1540 (.ref 16) (fx (pfV V x y z len) (pfI I 15 fr) L R ++ tl))).bind fun v48 => ((am_vI (am_pG 769 v48 (fx (pfV V x y z len) (pfI I 15 fr) L R ++ tl))).bind fun v50 => (if ¬ v50 = 2 then (if am_pOk 6 (.ref 16) (fx (pfV V x y z len) (pfI I 15 fr) L R ++ tl) then am_cI true (fm_126 N (.ref 16) (fx (pfV V x y z len) (pfI I 15 fr) L R ++ tl)) (fun v54 h55 => (fg_116_150 N (.ref 16) v54 h55)) else none) else (if am_pOk 6 (.ref 16) (fx (pfV V x y z len) (pfI I 15 fr) L R ++ tl) then am_cI true (fm_124 N (.ref 16) (fx (pfV V x y z len) (pfI I 15 fr) L R ++ tl)) (fun v58 h59 => (fg_116_150 N (.ref 16) v58 h59)) else none)))) else (if am_pOk 6 (.ref 16) (fx (pfV V x y z len) (pfI I 15 fr) L R ++ tl) then am_cI true (fm_123 N (.ref 16) (fx (pfV V x y z len) (pfI I 15 fr) L R ++ tl)) (fun v62 h63 => (fg_116_150 N (.ref 16) v62 h63)) else none)))) else (if am_pOk 6 (.ref 16) (fx (pfV V x y z len) (pfI I 15 fr) L R ++ tl) then am_cI true (fm_117 N (.ref 16) 0 1 (fx (pfV V x y z len) (pfI I 15 fr) L R ++ tl)) (fun v66 h67 => (fg_116_150 N (.ref 16) v66 h67)) else none)))) = q → fm_116 N (.ref 16) (.ref 15) (nI fr) (fx V I L R ++ tl) = q := fun hq => by
    unfold fm_116 fg_116_0
    refine ev_b qp_16_1 (ev_b qp_16_2 (ev_b qp_16_3 (ev_b (a := Value.ref a) (by show am_vR (some (V 16 4)) = _; rw [h4]; rfl) (ev_b (a := false) rfl (ev_f (by decide) (ev_f (nI_pos (by omega)) (ev_b (a := nI 360) rfl (ev_t (by rw [show nI fr + 15 = nI (fr + 15) from nI_add fr 15]; exact nI_le (by omega) (by omega)) ?_))))))))
    refine ev_b (a := x) ((qa_15 (by omega)).trans (by rw [hx])) (ev_b qp_16_6 (ev_b (a := y) (by rw [show nI fr + 1 = nI (fr + 1) from nI_add fr 1]; exact (qa_15 (by omega)).trans (by rw [hy])) (ev_b qp_16_7 (ev_b (a := z) (by rw [show nI fr + 2 = nI (fr + 2) from nI_add fr 2]; exact (qa_15 (by omega)).trans (by rw [hz])) (ev_b qp_16_8 (ev_b (a := nI len) (by rw [show nI fr + 6 = nI (fr + 6) from nI_add fr 6]; exact (qa_15 (by omega)).trans (by rw [hln])) ?_))))))
    refine ev_cI (v := nI len) ((pe_38 _ _ _).trans (by rw [min8 len (by omega)])) (ev_b qp_16_10 (ev_b (a := Value.ref 25) rfl (ev_b (a := fx (pfV V x y z len) (pfI I 15 fr) L R ++ tl) (by rw [show nI fr + 7 = nI (fr + 7) from nI_add fr 7]; exact ev_cpy (f := I 15) (g := I 25) (n0 := 360) (n1 := 8) (sp := fr + 7) (dp := 0) (n := 8) rfl rfl (by omega) (by omega) (by omega) (by omega) rfl) hq)))
  have rd4 : am_vR (am_pG 1540 (.ref 16) (fx (pfV V x y z len) (pfI I 15 fr) L R ++ tl)) = some (.ref a) := by
    show am_vR (some (V 16 4)) = _
    rw [h4]
    rfl
  have rdk : am_vI (am_pG 769 (.ref a) (fx (pfV V x y z len) (pfI I 15 fr) L R ++ tl)) = some (nI kd) := by
    obtain ⟨x1, x2, x3, x4, x5, x6, q1, q2⟩ := p1 (pfV V x y z len) (pfI I 15 fr) L R (fun _ => rfl) rfl
    exact ev_gI q1 rfl rfl
  rcases (by omega : kd = 0 ∨ kd = 1 ∨ kd = 2 ∨ kd = 3) with rfl | rfl | rfl | rfl
  · have hi' : ∀ k, k < sz → fi (k * 2) = s k ∧ fi (k * 2 + 1) = v k := hi
    obtain ⟨t1, t2⟩ := lsT_ok (hs.2.2.2.1 rfl)
    obtain ⟨t3, t4⟩ := hT rfl
    obtain ⟨W, e, w1, w2, w3⟩ := k_tree (V := pfV V x y z len) (I := pfI I 15 fr) (L := L) (R := R) (tl := tl) (N := N) (l := lsT sz s) (v := v) (row := row) (x := x) (y := y) (z := z) (len := len) (lm := lm) (fi := fi) (m0 := m0) (ln := ln) (a := a) (it := it) (cs := cs) (ce := ce) hN (by rw [lsT_len]; exact p1) a16 h4 h0 hhi (by rw [lsT_len]; exact hm0) hm1 (by rw [lsT_len]; exact hsz) t1 (fun k w r hd => by
      have hkk : k < sz := by
        have hq : k < (lsT sz s).length := by
          rcases Nat.lt_or_ge k (lsT sz s).length with h | h
          · exact h
          · rw [List.drop_eq_nil_of_le h] at hd; cases hd
        rw [lsT_len] at hq
        exact hq
      exact ⟨(hi' k hkk).1.trans (t2 k w r hd).1, (hi' k hkk).2⟩) rfl rfl rfl rfl hlen h11 h12 r1 (by rw [lsT_len]; exact t3) (fun k hk => t4 k (by rw [lsT_len] at hk; exact hk))
    rw [eV] at e
    obtain ⟨W', J', e', rest⟩ := k_fin (V := V) (I := I) (L := L) (R := R) (tl := tl) (N := N) (len := len) (arr := 15) (fr := fr) (x := x) (y := y) (z := z) (o := o) ⟨W, _, _, e, by rw [o0 rfl]; exact w1, by rw [o0 rfl]; exact w2, by rw [o0 rfl]; rfl, w3⟩
    exact ⟨W', J', pre (ev_b rd4 (ev_b rdk (ev_f (fun e => e rfl) (ev_i rfl e')))), rest⟩
  · have hi' : ∀ k, k < sz → fi (k * 2) = s k ∧ fi (k * 2 + 1) = v k := hi
    obtain ⟨ht, hO, eo⟩ := o1 rfl
    obtain ⟨-, hc⟩ := so_1 hs
    obtain ⟨W, J, w, e, w1, w2, w3, w4⟩ := k_code (V := pfV V x y z len) (I := pfI I 15 fr) (L := L) (R := R) (tl := tl) (N := N) (row := row) (a := clN v) (ht := ht) (cs := cs) (ce := ce) hN (show cdH (pfV V x y z len) (pfI I 15 fr) tl a it ln sz m0 fi (clN s) v x y z len lm from ⟨p1, a16, i26, h4, h0, hhi, hm0, hm1, rfl, rfl, rfl, rfl, hlen, fun k hk => ⟨(hi' k hk).1.trans (hc k hk).1, (hi' k hk).2⟩⟩) hO h11 h12 r1
    rw [eV] at e
    obtain ⟨W', J', e', rest⟩ := k_fin (V := V) (I := I) (L := L) (R := R) (tl := tl) (N := N) (len := len) (arr := 15) (fr := fr) (x := x) (y := y) (z := z) (o := o) ⟨W, J, w, e, by rw [eo]; exact w1, by rw [eo]; exact w2, by
      rw [eo]
      show (if (eC x y z len row lm sz (clN s) (clN v) v ht).2.1 = 0 then w else 0) = (if (eC x y z len row lm sz (clN s) (clN v) v ht).2.1 = 0 then (eC x y z len row lm sz (clN s) (clN v) v ht).1 0 else 0)
      by_cases c : (eC x y z len row lm sz (clN s) (clN v) v ht).2.1 = 0
      · rw [if_pos c, if_pos c, w3 c]
      · rw [if_neg c, if_neg c], w4⟩
    exact ⟨W', J', pre (ev_b rd4 (ev_b rdk (ev_t (by decide) (ev_b rd4 (ev_b rdk (ev_f (fun e => e rfl) (ev_i rfl e'))))))), rest⟩
  · obtain ⟨W, e, w1, w2, w3⟩ := k_mach (V := pfV V x y z len) (I := pfI I 15 fr) (L := L) (R := R) (tl := tl) (N := N) (row := row) (len := len) hN p1 a16 h4 h0 hlo hhi hs hi hm0 hm1 rfl hlen r1
    rw [eV] at e
    obtain ⟨W', J', e', rest⟩ := k_fin (V := V) (I := I) (L := L) (R := R) (tl := tl) (N := N) (len := len) (arr := 15) (fr := fr) (x := x) (y := y) (z := z) (o := o) ⟨W, _, _, e, by rw [o2 rfl]; exact w1, by rw [o2 rfl]; exact w2, by rw [o2 rfl]; rfl, w3⟩
    exact ⟨W', J', pre (ev_b rd4 (ev_b rdk (ev_t (by decide) (ev_b rd4 (ev_b rdk (ev_t (by decide) (ev_b rd4 (ev_b rdk (ev_f (fun e => e rfl) (ev_i rfl e')))))))))), rest⟩
  · obtain ⟨W, J, w, e, w1, w2, w3, w4⟩ := k_net (V := pfV V x y z len) (I := pfI I 15 fr) (L := L) (R := R) (tl := tl) (N := N) (row := row) (len := len) hN p1 a16 i26 h4 h0 hlo hhi hs hi hm0 hm1 rfl hlen r1
    rw [eV] at e
    obtain ⟨W', J', e', rest⟩ := k_fin (V := V) (I := I) (L := L) (R := R) (tl := tl) (N := N) (len := len) (arr := 15) (fr := fr) (x := x) (y := y) (z := z) (o := o) ⟨W, J, w, e, by rw [o3 rfl]; exact w1, by rw [o3 rfl]; exact w2, by rw [o3 rfl, w3]; rfl, w4⟩
    exact ⟨W', J', pre (ev_b rd4 (ev_b rdk (ev_t (by decide) (ev_b rd4 (ev_b rdk (ev_t (by decide) (ev_b rd4 (ev_b rdk (ev_t (by decide) (ev_i rfl e')))))))))), rest⟩
set_option maxRecDepth 100000 in
set_option maxHeartbeats 1600000 in
theorem k_perf_164 {V : Nat → Nat → Value} {I : Nat → Nat → Int32} {L : Nat → Nat → Int64} {R : Nat → Nat → Option Nat} {tl : am_H} {N a it kd ln sz m0 lm len fr : Nat} {fi s v row : Nat → Int32} {x y z : Int32} {o : Int32 × Nat × Int32} (hN : 100 < N) (hw : wt V) (hl : ldC V I tl a it kd ln sz m0 fi s v lm) (ho : rP kd ln sz s v lm x y z len row o) (hfr : fr + 15 ≤ 15) (hx : I 164 fr = x) (hy : I 164 (fr + 1) = y) (hz : I 164 (fr + 2) = z) (hln : I 164 (fr + 6) = nI len) (hlen : len ≤ 8) (hrow : ∀ i, i < len → I 164 (fr + 7 + i) = row i) : ∃ W J, fm_116 N (.ref 16) (.ref 164) (nI fr) (fx V I L R ++ tl) = some (.inl (none, fx W J L R ++ tl)) ∧ W 16 1 = .int o.1 ∧ W 16 2 = .int (nI o.2.1) ∧ W 16 3 = .int o.2.2 ∧ frP V W I J := by
  obtain ⟨hp, ⟨a16, a17, i18, i25, i26⟩, hi, hs, hm0, hm1, h4, h0, hlo, hhi, hT⟩ := hl
  obtain ⟨o0, o1, o2, o3⟩ := ho
  have hk := hs.1
  have hsz := hs.2.1
  obtain ⟨cs, h11⟩ := hw.1 16 11 (by decide)
  obtain ⟨ce, h12⟩ := hw.1 16 12 (by decide)
  have p1 : prA (pfV V x y z len) (pfI I 164 fr) tl a it kd ln sz m0 fi := prA_c (fun j => pfV_o a16) (iup_na i25) hp
  have r1 : ∀ i, i < len → pfI I 164 fr 25 i = row i := fun i h => by
    rw [← hrow i h]
    show (if 0 ≤ i ∧ i < 0 + 8 then I 164 (fr + 7 + (i - 0)) else I 25 i) = _
    rw [if_pos ⟨Nat.zero_le _, by omega⟩, Nat.sub_zero]
  have eV : rsC (pfV V x y z len) 0 0 = pfV V x y z len := by
    unfold rsC
    rw [show vup (pfV V x y z len) 16 1 (.int 0) = pfV V x y z len from vup_self rfl, show vup (pfV V x y z len) 16 2 (.int (nI 0)) = pfV V x y z len from vup_self rfl]
  -- up to the choice of the kind
  have pre : ∀ {q : Option am_O}, ((am_vR (am_pG 1540 (.ref 16) (fx (pfV V x y z len) (pfI I 164 fr) L R ++ tl))).bind fun v38 => ((am_vI (am_pG 769 v38 (fx (pfV V x y z len) (pfI I 164 fr) L R ++ tl))).bind fun v40 => (if ¬ v40 = 0 then ((am_vR (am_pG 1540 (.ref 16) (fx (pfV V x y z len) (pfI I 164 fr) L R ++ tl))).bind fun v43 => ((am_vI (am_pG 769 v43 (fx (pfV V x y z len) (pfI I 164 fr) L R ++ tl))).bind fun v45 => (if ¬ v45 = 1 then ((am_vR (am_pG 1540 (.ref 16) (fx (pfV V x y z len) (pfI I 164 fr) L R ++ tl))).bind fun v48 => ((am_vI (am_pG 769 v48 (fx (pfV V x y z len) (pfI I 164 fr) L R ++ tl))).bind fun v50 => (if ¬ v50 = 2 then (if am_pOk 6 (.ref 16) (fx (pfV V x y z len) (pfI I 164 fr) L R ++ tl) then am_cI true (fm_126 N (.ref 16) (fx (pfV V x y z len) (pfI I 164 fr) L R ++ tl)) (fun v54 h55 => (fg_116_150 N (.ref 16) v54 h55)) else none) else (if am_pOk 6 (.ref 16) (fx (pfV V x y z len) (pfI I 164 fr) L R ++ tl) then am_cI true (fm_124 N (.ref 16) (fx (pfV V x y z len) (pfI I 164 fr) L R ++ tl)) (fun v58 h59 => (fg_116_150 N (.ref 16) v58 h59)) else none)))) else (if am_pOk 6 (.ref 16) (fx (pfV V x y z len) (pfI I 164 fr) L R ++ tl) then am_cI true (fm_123 N (.ref 16) (fx (pfV V x y z len) (pfI I 164 fr) L R ++ tl)) (fun v62 h63 => (fg_116_150 N (.ref 16) v62 h63)) else none)))) else (if am_pOk 6 (.ref 16) (fx (pfV V x y z len) (pfI I 164 fr) L R ++ tl) then am_cI true (fm_117 N (.ref 16) 0 1 (fx (pfV V x y z len) (pfI I 164 fr) L R ++ tl)) (fun v66 h67 => (fg_116_150 N (.ref 16) v66 h67)) else none)))) = q → fm_116 N (.ref 16) (.ref 164) (nI fr) (fx V I L R ++ tl) = q := fun hq => by
    unfold fm_116 fg_116_0
    refine ev_b qp_16_1 (ev_b qp_16_2 (ev_b qp_16_3 (ev_b (a := Value.ref a) (by show am_vR (some (V 16 4)) = _; rw [h4]; rfl) (ev_b (a := false) rfl (ev_f (by decide) (ev_f (nI_pos (by omega)) (ev_b (a := nI 15) rfl (ev_t (by rw [show nI fr + 15 = nI (fr + 15) from nI_add fr 15]; exact nI_le (by omega) (by omega)) ?_))))))))
    refine ev_b (a := x) ((qa_164 (by omega)).trans (by rw [hx])) (ev_b qp_16_6 (ev_b (a := y) (by rw [show nI fr + 1 = nI (fr + 1) from nI_add fr 1]; exact (qa_164 (by omega)).trans (by rw [hy])) (ev_b qp_16_7 (ev_b (a := z) (by rw [show nI fr + 2 = nI (fr + 2) from nI_add fr 2]; exact (qa_164 (by omega)).trans (by rw [hz])) (ev_b qp_16_8 (ev_b (a := nI len) (by rw [show nI fr + 6 = nI (fr + 6) from nI_add fr 6]; exact (qa_164 (by omega)).trans (by rw [hln])) ?_))))))
    refine ev_cI (v := nI len) ((pe_38 _ _ _).trans (by rw [min8 len (by omega)])) (ev_b qp_16_10 (ev_b (a := Value.ref 25) rfl (ev_b (a := fx (pfV V x y z len) (pfI I 164 fr) L R ++ tl) (by rw [show nI fr + 7 = nI (fr + 7) from nI_add fr 7]; exact ev_cpy (f := I 164) (g := I 25) (n0 := 15) (n1 := 8) (sp := fr + 7) (dp := 0) (n := 8) rfl rfl (by omega) (by omega) (by omega) (by omega) rfl) hq)))
  have rd4 : am_vR (am_pG 1540 (.ref 16) (fx (pfV V x y z len) (pfI I 164 fr) L R ++ tl)) = some (.ref a) := by
    show am_vR (some (V 16 4)) = _
    rw [h4]
    rfl
  have rdk : am_vI (am_pG 769 (.ref a) (fx (pfV V x y z len) (pfI I 164 fr) L R ++ tl)) = some (nI kd) := by
    obtain ⟨x1, x2, x3, x4, x5, x6, q1, q2⟩ := p1 (pfV V x y z len) (pfI I 164 fr) L R (fun _ => rfl) rfl
    exact ev_gI q1 rfl rfl
  rcases (by omega : kd = 0 ∨ kd = 1 ∨ kd = 2 ∨ kd = 3) with rfl | rfl | rfl | rfl
  · have hi' : ∀ k, k < sz → fi (k * 2) = s k ∧ fi (k * 2 + 1) = v k := hi
    obtain ⟨t1, t2⟩ := lsT_ok (hs.2.2.2.1 rfl)
    obtain ⟨t3, t4⟩ := hT rfl
    obtain ⟨W, e, w1, w2, w3⟩ := k_tree (V := pfV V x y z len) (I := pfI I 164 fr) (L := L) (R := R) (tl := tl) (N := N) (l := lsT sz s) (v := v) (row := row) (x := x) (y := y) (z := z) (len := len) (lm := lm) (fi := fi) (m0 := m0) (ln := ln) (a := a) (it := it) (cs := cs) (ce := ce) hN (by rw [lsT_len]; exact p1) a16 h4 h0 hhi (by rw [lsT_len]; exact hm0) hm1 (by rw [lsT_len]; exact hsz) t1 (fun k w r hd => by
      have hkk : k < sz := by
        have hq : k < (lsT sz s).length := by
          rcases Nat.lt_or_ge k (lsT sz s).length with h | h
          · exact h
          · rw [List.drop_eq_nil_of_le h] at hd; cases hd
        rw [lsT_len] at hq
        exact hq
      exact ⟨(hi' k hkk).1.trans (t2 k w r hd).1, (hi' k hkk).2⟩) rfl rfl rfl rfl hlen h11 h12 r1 (by rw [lsT_len]; exact t3) (fun k hk => t4 k (by rw [lsT_len] at hk; exact hk))
    rw [eV] at e
    obtain ⟨W', J', e', rest⟩ := k_fin (V := V) (I := I) (L := L) (R := R) (tl := tl) (N := N) (len := len) (arr := 164) (fr := fr) (x := x) (y := y) (z := z) (o := o) ⟨W, _, _, e, by rw [o0 rfl]; exact w1, by rw [o0 rfl]; exact w2, by rw [o0 rfl]; rfl, w3⟩
    exact ⟨W', J', pre (ev_b rd4 (ev_b rdk (ev_f (fun e => e rfl) (ev_i rfl e')))), rest⟩
  · have hi' : ∀ k, k < sz → fi (k * 2) = s k ∧ fi (k * 2 + 1) = v k := hi
    obtain ⟨ht, hO, eo⟩ := o1 rfl
    obtain ⟨-, hc⟩ := so_1 hs
    obtain ⟨W, J, w, e, w1, w2, w3, w4⟩ := k_code (V := pfV V x y z len) (I := pfI I 164 fr) (L := L) (R := R) (tl := tl) (N := N) (row := row) (a := clN v) (ht := ht) (cs := cs) (ce := ce) hN (show cdH (pfV V x y z len) (pfI I 164 fr) tl a it ln sz m0 fi (clN s) v x y z len lm from ⟨p1, a16, i26, h4, h0, hhi, hm0, hm1, rfl, rfl, rfl, rfl, hlen, fun k hk => ⟨(hi' k hk).1.trans (hc k hk).1, (hi' k hk).2⟩⟩) hO h11 h12 r1
    rw [eV] at e
    obtain ⟨W', J', e', rest⟩ := k_fin (V := V) (I := I) (L := L) (R := R) (tl := tl) (N := N) (len := len) (arr := 164) (fr := fr) (x := x) (y := y) (z := z) (o := o) ⟨W, J, w, e, by rw [eo]; exact w1, by rw [eo]; exact w2, by
      rw [eo]
      show (if (eC x y z len row lm sz (clN s) (clN v) v ht).2.1 = 0 then w else 0) = (if (eC x y z len row lm sz (clN s) (clN v) v ht).2.1 = 0 then (eC x y z len row lm sz (clN s) (clN v) v ht).1 0 else 0)
      by_cases c : (eC x y z len row lm sz (clN s) (clN v) v ht).2.1 = 0
      · rw [if_pos c, if_pos c, w3 c]
      · rw [if_neg c, if_neg c], w4⟩
    exact ⟨W', J', pre (ev_b rd4 (ev_b rdk (ev_t (by decide) (ev_b rd4 (ev_b rdk (ev_f (fun e => e rfl) (ev_i rfl e'))))))), rest⟩
  · obtain ⟨W, e, w1, w2, w3⟩ := k_mach (V := pfV V x y z len) (I := pfI I 164 fr) (L := L) (R := R) (tl := tl) (N := N) (row := row) (len := len) hN p1 a16 h4 h0 hlo hhi hs hi hm0 hm1 rfl hlen r1
    rw [eV] at e
    obtain ⟨W', J', e', rest⟩ := k_fin (V := V) (I := I) (L := L) (R := R) (tl := tl) (N := N) (len := len) (arr := 164) (fr := fr) (x := x) (y := y) (z := z) (o := o) ⟨W, _, _, e, by rw [o2 rfl]; exact w1, by rw [o2 rfl]; exact w2, by rw [o2 rfl]; rfl, w3⟩
    exact ⟨W', J', pre (ev_b rd4 (ev_b rdk (ev_t (by decide) (ev_b rd4 (ev_b rdk (ev_t (by decide) (ev_b rd4 (ev_b rdk (ev_f (fun e => e rfl) (ev_i rfl e')))))))))), rest⟩
  · obtain ⟨W, J, w, e, w1, w2, w3, w4⟩ := k_net (V := pfV V x y z len) (I := pfI I 164 fr) (L := L) (R := R) (tl := tl) (N := N) (row := row) (len := len) hN p1 a16 i26 h4 h0 hlo hhi hs hi hm0 hm1 rfl hlen r1
    rw [eV] at e
    obtain ⟨W', J', e', rest⟩ := k_fin (V := V) (I := I) (L := L) (R := R) (tl := tl) (N := N) (len := len) (arr := 164) (fr := fr) (x := x) (y := y) (z := z) (o := o) ⟨W, J, w, e, by rw [o3 rfl]; exact w1, by rw [o3 rfl]; exact w2, by rw [o3 rfl, w3]; rfl, w4⟩
    exact ⟨W', J', pre (ev_b rd4 (ev_b rdk (ev_t (by decide) (ev_b rd4 (ev_b rdk (ev_t (by decide) (ev_b rd4 (ev_b rdk (ev_t (by decide) (ev_i rfl e')))))))))), rest⟩
set_option maxRecDepth 100000 in
set_option maxHeartbeats 1600000 in
theorem k_perf_165 {V : Nat → Nat → Value} {I : Nat → Nat → Int32} {L : Nat → Nat → Int64} {R : Nat → Nat → Option Nat} {tl : am_H} {N a it kd ln sz m0 lm len fr : Nat} {fi s v row : Nat → Int32} {x y z : Int32} {o : Int32 × Nat × Int32} (hN : 100 < N) (hw : wt V) (hl : ldC V I tl a it kd ln sz m0 fi s v lm) (ho : rP kd ln sz s v lm x y z len row o) (hfr : fr + 15 ≤ 15) (hx : I 165 fr = x) (hy : I 165 (fr + 1) = y) (hz : I 165 (fr + 2) = z) (hln : I 165 (fr + 6) = nI len) (hlen : len ≤ 8) (hrow : ∀ i, i < len → I 165 (fr + 7 + i) = row i) : ∃ W J, fm_116 N (.ref 16) (.ref 165) (nI fr) (fx V I L R ++ tl) = some (.inl (none, fx W J L R ++ tl)) ∧ W 16 1 = .int o.1 ∧ W 16 2 = .int (nI o.2.1) ∧ W 16 3 = .int o.2.2 ∧ frP V W I J := by
  obtain ⟨hp, ⟨a16, a17, i18, i25, i26⟩, hi, hs, hm0, hm1, h4, h0, hlo, hhi, hT⟩ := hl
  obtain ⟨o0, o1, o2, o3⟩ := ho
  have hk := hs.1
  have hsz := hs.2.1
  obtain ⟨cs, h11⟩ := hw.1 16 11 (by decide)
  obtain ⟨ce, h12⟩ := hw.1 16 12 (by decide)
  have p1 : prA (pfV V x y z len) (pfI I 165 fr) tl a it kd ln sz m0 fi := prA_c (fun j => pfV_o a16) (iup_na i25) hp
  have r1 : ∀ i, i < len → pfI I 165 fr 25 i = row i := fun i h => by
    rw [← hrow i h]
    show (if 0 ≤ i ∧ i < 0 + 8 then I 165 (fr + 7 + (i - 0)) else I 25 i) = _
    rw [if_pos ⟨Nat.zero_le _, by omega⟩, Nat.sub_zero]
  have eV : rsC (pfV V x y z len) 0 0 = pfV V x y z len := by
    unfold rsC
    rw [show vup (pfV V x y z len) 16 1 (.int 0) = pfV V x y z len from vup_self rfl, show vup (pfV V x y z len) 16 2 (.int (nI 0)) = pfV V x y z len from vup_self rfl]
  -- up to the choice of the kind
  have pre : ∀ {q : Option am_O}, ((am_vR (am_pG 1540 (.ref 16) (fx (pfV V x y z len) (pfI I 165 fr) L R ++ tl))).bind fun v38 => ((am_vI (am_pG 769 v38 (fx (pfV V x y z len) (pfI I 165 fr) L R ++ tl))).bind fun v40 => (if ¬ v40 = 0 then ((am_vR (am_pG 1540 (.ref 16) (fx (pfV V x y z len) (pfI I 165 fr) L R ++ tl))).bind fun v43 => ((am_vI (am_pG 769 v43 (fx (pfV V x y z len) (pfI I 165 fr) L R ++ tl))).bind fun v45 => (if ¬ v45 = 1 then ((am_vR (am_pG 1540 (.ref 16) (fx (pfV V x y z len) (pfI I 165 fr) L R ++ tl))).bind fun v48 => ((am_vI (am_pG 769 v48 (fx (pfV V x y z len) (pfI I 165 fr) L R ++ tl))).bind fun v50 => (if ¬ v50 = 2 then (if am_pOk 6 (.ref 16) (fx (pfV V x y z len) (pfI I 165 fr) L R ++ tl) then am_cI true (fm_126 N (.ref 16) (fx (pfV V x y z len) (pfI I 165 fr) L R ++ tl)) (fun v54 h55 => (fg_116_150 N (.ref 16) v54 h55)) else none) else (if am_pOk 6 (.ref 16) (fx (pfV V x y z len) (pfI I 165 fr) L R ++ tl) then am_cI true (fm_124 N (.ref 16) (fx (pfV V x y z len) (pfI I 165 fr) L R ++ tl)) (fun v58 h59 => (fg_116_150 N (.ref 16) v58 h59)) else none)))) else (if am_pOk 6 (.ref 16) (fx (pfV V x y z len) (pfI I 165 fr) L R ++ tl) then am_cI true (fm_123 N (.ref 16) (fx (pfV V x y z len) (pfI I 165 fr) L R ++ tl)) (fun v62 h63 => (fg_116_150 N (.ref 16) v62 h63)) else none)))) else (if am_pOk 6 (.ref 16) (fx (pfV V x y z len) (pfI I 165 fr) L R ++ tl) then am_cI true (fm_117 N (.ref 16) 0 1 (fx (pfV V x y z len) (pfI I 165 fr) L R ++ tl)) (fun v66 h67 => (fg_116_150 N (.ref 16) v66 h67)) else none)))) = q → fm_116 N (.ref 16) (.ref 165) (nI fr) (fx V I L R ++ tl) = q := fun hq => by
    unfold fm_116 fg_116_0
    refine ev_b qp_16_1 (ev_b qp_16_2 (ev_b qp_16_3 (ev_b (a := Value.ref a) (by show am_vR (some (V 16 4)) = _; rw [h4]; rfl) (ev_b (a := false) rfl (ev_f (by decide) (ev_f (nI_pos (by omega)) (ev_b (a := nI 15) rfl (ev_t (by rw [show nI fr + 15 = nI (fr + 15) from nI_add fr 15]; exact nI_le (by omega) (by omega)) ?_))))))))
    refine ev_b (a := x) ((qa_165 (by omega)).trans (by rw [hx])) (ev_b qp_16_6 (ev_b (a := y) (by rw [show nI fr + 1 = nI (fr + 1) from nI_add fr 1]; exact (qa_165 (by omega)).trans (by rw [hy])) (ev_b qp_16_7 (ev_b (a := z) (by rw [show nI fr + 2 = nI (fr + 2) from nI_add fr 2]; exact (qa_165 (by omega)).trans (by rw [hz])) (ev_b qp_16_8 (ev_b (a := nI len) (by rw [show nI fr + 6 = nI (fr + 6) from nI_add fr 6]; exact (qa_165 (by omega)).trans (by rw [hln])) ?_))))))
    refine ev_cI (v := nI len) ((pe_38 _ _ _).trans (by rw [min8 len (by omega)])) (ev_b qp_16_10 (ev_b (a := Value.ref 25) rfl (ev_b (a := fx (pfV V x y z len) (pfI I 165 fr) L R ++ tl) (by rw [show nI fr + 7 = nI (fr + 7) from nI_add fr 7]; exact ev_cpy (f := I 165) (g := I 25) (n0 := 15) (n1 := 8) (sp := fr + 7) (dp := 0) (n := 8) rfl rfl (by omega) (by omega) (by omega) (by omega) rfl) hq)))
  have rd4 : am_vR (am_pG 1540 (.ref 16) (fx (pfV V x y z len) (pfI I 165 fr) L R ++ tl)) = some (.ref a) := by
    show am_vR (some (V 16 4)) = _
    rw [h4]
    rfl
  have rdk : am_vI (am_pG 769 (.ref a) (fx (pfV V x y z len) (pfI I 165 fr) L R ++ tl)) = some (nI kd) := by
    obtain ⟨x1, x2, x3, x4, x5, x6, q1, q2⟩ := p1 (pfV V x y z len) (pfI I 165 fr) L R (fun _ => rfl) rfl
    exact ev_gI q1 rfl rfl
  rcases (by omega : kd = 0 ∨ kd = 1 ∨ kd = 2 ∨ kd = 3) with rfl | rfl | rfl | rfl
  · have hi' : ∀ k, k < sz → fi (k * 2) = s k ∧ fi (k * 2 + 1) = v k := hi
    obtain ⟨t1, t2⟩ := lsT_ok (hs.2.2.2.1 rfl)
    obtain ⟨t3, t4⟩ := hT rfl
    obtain ⟨W, e, w1, w2, w3⟩ := k_tree (V := pfV V x y z len) (I := pfI I 165 fr) (L := L) (R := R) (tl := tl) (N := N) (l := lsT sz s) (v := v) (row := row) (x := x) (y := y) (z := z) (len := len) (lm := lm) (fi := fi) (m0 := m0) (ln := ln) (a := a) (it := it) (cs := cs) (ce := ce) hN (by rw [lsT_len]; exact p1) a16 h4 h0 hhi (by rw [lsT_len]; exact hm0) hm1 (by rw [lsT_len]; exact hsz) t1 (fun k w r hd => by
      have hkk : k < sz := by
        have hq : k < (lsT sz s).length := by
          rcases Nat.lt_or_ge k (lsT sz s).length with h | h
          · exact h
          · rw [List.drop_eq_nil_of_le h] at hd; cases hd
        rw [lsT_len] at hq
        exact hq
      exact ⟨(hi' k hkk).1.trans (t2 k w r hd).1, (hi' k hkk).2⟩) rfl rfl rfl rfl hlen h11 h12 r1 (by rw [lsT_len]; exact t3) (fun k hk => t4 k (by rw [lsT_len] at hk; exact hk))
    rw [eV] at e
    obtain ⟨W', J', e', rest⟩ := k_fin (V := V) (I := I) (L := L) (R := R) (tl := tl) (N := N) (len := len) (arr := 165) (fr := fr) (x := x) (y := y) (z := z) (o := o) ⟨W, _, _, e, by rw [o0 rfl]; exact w1, by rw [o0 rfl]; exact w2, by rw [o0 rfl]; rfl, w3⟩
    exact ⟨W', J', pre (ev_b rd4 (ev_b rdk (ev_f (fun e => e rfl) (ev_i rfl e')))), rest⟩
  · have hi' : ∀ k, k < sz → fi (k * 2) = s k ∧ fi (k * 2 + 1) = v k := hi
    obtain ⟨ht, hO, eo⟩ := o1 rfl
    obtain ⟨-, hc⟩ := so_1 hs
    obtain ⟨W, J, w, e, w1, w2, w3, w4⟩ := k_code (V := pfV V x y z len) (I := pfI I 165 fr) (L := L) (R := R) (tl := tl) (N := N) (row := row) (a := clN v) (ht := ht) (cs := cs) (ce := ce) hN (show cdH (pfV V x y z len) (pfI I 165 fr) tl a it ln sz m0 fi (clN s) v x y z len lm from ⟨p1, a16, i26, h4, h0, hhi, hm0, hm1, rfl, rfl, rfl, rfl, hlen, fun k hk => ⟨(hi' k hk).1.trans (hc k hk).1, (hi' k hk).2⟩⟩) hO h11 h12 r1
    rw [eV] at e
    obtain ⟨W', J', e', rest⟩ := k_fin (V := V) (I := I) (L := L) (R := R) (tl := tl) (N := N) (len := len) (arr := 165) (fr := fr) (x := x) (y := y) (z := z) (o := o) ⟨W, J, w, e, by rw [eo]; exact w1, by rw [eo]; exact w2, by
      rw [eo]
      show (if (eC x y z len row lm sz (clN s) (clN v) v ht).2.1 = 0 then w else 0) = (if (eC x y z len row lm sz (clN s) (clN v) v ht).2.1 = 0 then (eC x y z len row lm sz (clN s) (clN v) v ht).1 0 else 0)
      by_cases c : (eC x y z len row lm sz (clN s) (clN v) v ht).2.1 = 0
      · rw [if_pos c, if_pos c, w3 c]
      · rw [if_neg c, if_neg c], w4⟩
    exact ⟨W', J', pre (ev_b rd4 (ev_b rdk (ev_t (by decide) (ev_b rd4 (ev_b rdk (ev_f (fun e => e rfl) (ev_i rfl e'))))))), rest⟩
  · obtain ⟨W, e, w1, w2, w3⟩ := k_mach (V := pfV V x y z len) (I := pfI I 165 fr) (L := L) (R := R) (tl := tl) (N := N) (row := row) (len := len) hN p1 a16 h4 h0 hlo hhi hs hi hm0 hm1 rfl hlen r1
    rw [eV] at e
    obtain ⟨W', J', e', rest⟩ := k_fin (V := V) (I := I) (L := L) (R := R) (tl := tl) (N := N) (len := len) (arr := 165) (fr := fr) (x := x) (y := y) (z := z) (o := o) ⟨W, _, _, e, by rw [o2 rfl]; exact w1, by rw [o2 rfl]; exact w2, by rw [o2 rfl]; rfl, w3⟩
    exact ⟨W', J', pre (ev_b rd4 (ev_b rdk (ev_t (by decide) (ev_b rd4 (ev_b rdk (ev_t (by decide) (ev_b rd4 (ev_b rdk (ev_f (fun e => e rfl) (ev_i rfl e')))))))))), rest⟩
  · obtain ⟨W, J, w, e, w1, w2, w3, w4⟩ := k_net (V := pfV V x y z len) (I := pfI I 165 fr) (L := L) (R := R) (tl := tl) (N := N) (row := row) (len := len) hN p1 a16 i26 h4 h0 hlo hhi hs hi hm0 hm1 rfl hlen r1
    rw [eV] at e
    obtain ⟨W', J', e', rest⟩ := k_fin (V := V) (I := I) (L := L) (R := R) (tl := tl) (N := N) (len := len) (arr := 165) (fr := fr) (x := x) (y := y) (z := z) (o := o) ⟨W, J, w, e, by rw [o3 rfl]; exact w1, by rw [o3 rfl]; exact w2, by rw [o3 rfl, w3]; rfl, w4⟩
    exact ⟨W', J', pre (ev_b rd4 (ev_b rdk (ev_t (by decide) (ev_b rd4 (ev_b rdk (ev_t (by decide) (ev_b rd4 (ev_b rdk (ev_t (by decide) (ev_i rfl e')))))))))), rest⟩
