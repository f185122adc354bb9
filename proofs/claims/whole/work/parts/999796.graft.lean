/-! ===== edits: candidates in the class: trees, grafts ===== -/
theorem hd_167_64 {N : Nat} {x0 : Value} {x3 : Int32} {x4 : Int32} {h : am_H} {r_ : Option am_O} (k_ : ((am_vR (am_pG 1 x0 h)).bind fun v1 => (if am_pOk 3 v1 h then am_cV true (fm_34 v1 0 0 h) (fun h5 => ((am_vR (am_pG 1 x0 h5)).bind fun v7 => (if am_pOk 3 v7 h5 then am_cI true (fm_41 N v7 x3 x4 h5) (fun v10 h11 => ((am_vR (am_pG 1 x0 h11)).bind fun v13 => (if am_pOk 0 x0 h11 then am_cI true (fm_168 x0 v13 0 1 h11) (fun v16 h17 => (if am_rfit (some FieldType.boolean) v16 then some (.inl (some (.int v16), h17)) else none)) else none))) else none))) else none)) = r_) : fg_167_64 N x0 x3 x4 h = r_ := k_
theorem hd_167_62 {N : Nat} {h : am_H} {r_ : Option am_O} (k_ : some (.inl (some (.int 0), h)) = r_) : fg_167_62 N h = r_ := k_
theorem hd_167_21 {N : Nat} {x0 : Value} {x1 : Int32} {x3 : Int32} {s0 : Int32} {h : am_H} {r_ : Option am_O} (k_ : ((am_vR (am_pG 5 x0 h)).bind fun v1 => (if am_pOk 3 v1 h then am_cI true (fm_54 v1 x1 0 h) (fun v4 h5 => am_cI false (fm_11 v4 h5) (fun v7 h8 => (if ¬ v7 = 0 then (fg_167_62 N h8) else (if ¬ v4 = x3 then (fg_167_64 N x0 x3 s0 h8) else ((am_vR (am_pG 5 x0 h8)).bind fun v12 => (if am_pOk 3 v12 h8 then am_cI true (fm_54 v12 x1 1 h8) (fun v15 h16 => (if ¬ v15 = s0 then (fg_167_64 N x0 x3 s0 h16) else (fg_167_62 N h16))) else none)))))) else none)) = r_) : fg_167_21 N x0 x1 x3 s0 h = r_ := k_
theorem hd_167_10 {N : Nat} {x0 : Value} {x1 : Int32} {x2 : Int32} {s0 : Int32} {h : am_H} {r_ : Option am_O} (k_ : (if ¬ x2 = 2 then (fg_167_21 N x0 x1 s0 0 h) else (fg_167_21 N x0 x1 s0 1 h)) = r_) : fg_167_10 N x0 x1 x2 s0 h = r_ := k_
theorem hd_167_0 {N : Nat} {x0 : Value} {x1 : Int32} {x2 : Int32} {h : am_H} {r_ : Option am_O} (k_ : (if ¬ x2 = 1 then (fg_167_10 N x0 x1 x2 0 h) else (fg_167_10 N x0 x1 x2 1 h)) = r_) : fg_167_0 N x0 x1 x2 h = r_ := k_
theorem hm_167 {N : Nat} {y0 : Value} {y1 : Int32} {y2 : Int32} {h : am_H} {r_ : Option am_O} (k_ : fg_167_0 N y0 y1 y2 h = r_) : fm_167 N y0 y1 y2 h = r_ := k_
theorem hd_168_0 {x0 : Value} {x1 : Value} {x2 : Int32} {x3 : Int32} {h : am_H} {r_ : Option am_O} (k_ : ((am_pP 10 x0 x1 h).bind fun h1 => ((am_pP 11 x0 (.int x2) h1).bind fun h3 => ((am_pP 12 x0 (.int x3) h3).bind fun h5 => some (.inl (some (.int 1), h5))))) = r_) : fg_168_0 x0 x1 x2 x3 h = r_ := k_
theorem hm_168 {y0 : Value} {y1 : Value} {y2 : Int32} {y3 : Int32} {h : am_H} {r_ : Option am_O} (k_ : fg_168_0 y0 y1 y2 y3 h = r_) : fm_168 y0 y1 y2 y3 h = r_ := k_
theorem hd_169_88 {s0 : Int32} {h : am_H} {r_ : Option am_O} (k_ : (if am_rfit (some FieldType.boolean) s0 then some (.inl (some (.int s0), h)) else none) = r_) : fg_169_88 s0 h = r_ := k_
theorem hd_169_87 {h : am_H} {r_ : Option am_O} (k_ : (fg_169_88 0 h) = r_) : fg_169_87 h = r_ := k_
theorem hd_169_0 {x0 : Value} {x1 : Int32} {h : am_H} {r_ : Option am_O} (k_ : ((am_vR (am_pG 0 x0 h)).bind fun v1 => (if am_pOk 3 v1 h then am_cV true (fm_34 v1 0 0 h) (fun h5 => ((am_vR (am_pG 10 x0 h5)).bind fun v7 => ((am_pZ v7).bind fun b9 => if b9 = true then (fg_169_87 h5) else ((am_vR (am_pG 0 x0 h5)).bind fun v11 => ((am_vR (am_pG 5 x0 h5)).bind fun v13 => (if am_pOk 3 v11 h5 then am_cI true (fm_170 v11 v13 0 x1 h5) (fun v16 h17 => (if v16 = 0 then (fg_169_87 h17) else ((am_vR (am_pG 0 x0 h17)).bind fun v20 => ((am_vR (am_pG 10 x0 h17)).bind fun v22 => ((am_vI (am_pG 11 x0 h17)).bind fun v24 => ((am_vI (am_pG 12 x0 h17)).bind fun v26 => (if am_pOk 3 v20 h17 then am_cI true (fm_170 v20 v22 v24 v26 h17) (fun v29 h30 => (if v29 = 0 then (fg_169_87 h30) else ((am_vR (am_pG 0 x0 h30)).bind fun v33 => ((am_vR (am_pG 5 x0 h30)).bind fun v35 => ((am_vR (am_pG 2 x0 h30)).bind fun v37 => (if am_pOk 7 v37 h30 then am_cI true (fm_100 v37 x1 h30) (fun v40 h41 => ((am_vR (am_pG 5 x0 h41)).bind fun v43 => ((am_vI (am_pG 771 v43 h41)).bind fun v45 => (if am_pOk 3 v33 h41 then am_cI true (fm_170 v33 v35 v40 v45 h41) (fun v48 h49 => (if v48 = 0 then (fg_169_87 h49) else (fg_169_88 1 h49))) else none)))) else none)))))) else none))))))) else none)))))) else none)) = r_) : fg_169_0 x0 x1 h = r_ := k_
theorem hm_169 {y0 : Value} {y1 : Int32} {h : am_H} {r_ : Option am_O} (k_ : fg_169_0 y0 y1 h = r_) : fm_169 y0 y1 h = r_ := k_
theorem hd_171_79 {N : Nat} {x0 : Value} {x4 : Int32} {h : am_H} {r_ : Option am_O} (k_ : ((am_vR (am_pG 5 x0 h)).bind fun v1 => ((am_vR (am_pG 2 x0 h)).bind fun v3 => (if am_pOk 7 v3 h then am_cI true (fm_100 v3 x4 h) (fun v6 h7 => (if am_pOk 0 x0 h7 then am_cI true (fm_168 x0 v1 x4 v6 h7) (fun v10 h11 => (if am_rfit (some FieldType.boolean) v10 then some (.inl (some (.int v10), h11)) else none)) else none)) else none))) = r_) : fg_171_79 N x0 x4 h = r_ := k_
theorem hd_171_77 {N : Nat} {h : am_H} {r_ : Option am_O} (k_ : some (.inl (some (.int 0), h)) = r_) : fg_171_77 N h = r_ := k_
theorem hd_171_0 {N : Nat} {x0 : Value} {x1 : Int32} {x2 : Int32} {h : am_H} {r_ : Option am_O} (k_ : ((am_vR (am_pG 5 x0 h)).bind fun v1 => (if am_pOk 3 v1 h then am_cI true (fm_54 v1 x1 0 h) (fun v4 h5 => ((am_vR (am_pG 2 x0 h5)).bind fun v7 => (if am_pOk 7 v7 h5 then am_cI true (fm_166 N v7 x1 x2 h5) (fun v10 h11 => am_cI false (fm_14 v4 h11) (fun v13 h14 => (if v13 ≤ x2 then (fg_171_77 N h14) else ((am_vR (am_pG 5 x0 h14)).bind fun v17 => ((am_vI (am_pG 771 v17 h14)).bind fun v19 => (if v19 ≤ v10 then (fg_171_77 N h14) else am_cI false (fm_13 v4 x2 h14) (fun v22 h23 => am_cI false (fm_11 v4 h23) (fun v25 h26 => (if ¬ v22 = v25 then (fg_171_77 N h26) else (if ¬ v4 = 19 then (fg_171_79 N x0 v10 h26) else (if ¬ x2 = 1 then (fg_171_79 N x0 v10 h26) else ((am_vR (am_pG 2 x0 h26)).bind fun v31 => ((am_vR (am_pG 1797 v31 h26)).bind fun v33 => ((am_pA 2 v33 v10 h26).bind fun v35 => (if v35 = 0 then (fg_171_79 N x0 v10 h26) else (fg_171_77 N h26)))))))))))))))) else none))) else none)) = r_) : fg_171_0 N x0 x1 x2 h = r_ := k_
theorem hm_171 {N : Nat} {y0 : Value} {y1 : Int32} {y2 : Int32} {h : am_H} {r_ : Option am_O} (k_ : fg_171_0 N y0 y1 y2 h = r_) : fm_171 N y0 y1 y2 h = r_ := k_
set_option maxRecDepth 100000 in
set_option maxHeartbeats 4000000 in
theorem s169 {V : Nat → Nat → Value} {I : Nat → Nat → Int32} {L : Nat → Nat → Int64} {R : Nat → Nat → Option Nat} {tl : am_H} {A it g ig k i j rc ac : Nat} {P G : xT} (hx : cxC V I tl A it 0 0 rc ac P) (hsh : shT V I 94 P) (h10 : V 89 10 = .ref g) (h11 : V 89 11 = .int (nI i)) (h12 : V 89 12 = .int (nI j)) (hg : srcP V I tl g ig 0 0 G) (hg1 : g ≠ 90) (hg2 : ig ≠ 91) (hk : k < P.length) (hij : i ≤ j) (hj : j ≤ G.length) : ∃ W J b, fm_169 (.ref 89) (nI k) (fx V I L R ++ tl) = some (.inl (some (.int (bI b)), fx W J L R ++ tl)) ∧ (b = true ↔ k + (j - i) + (P.length - xE P k) ≤ 60) ∧ (b = true → hold W J 90 0 0 (P.take k ++ (seg G i j ++ P.drop (xE P k)))) ∧ fr1 90 V W I J := by
  obtain ⟨h5, h7, h8, h1, h2, hs, hA, hi⟩ := hx
  obtain ⟨o1, o2, -, -, l60⟩ := src_ok (L := L) (R := R) hs
  have rb : ∀ (W : Nat → Nat → Value) (J : Nat → Nat → Int32), fr1 90 V W I J → am_vR (am_pG 5 (.ref 89) (fx W J L R ++ tl)) = some (.ref A) := fun W J f => rVR qv_89_5 ((f.1 89 5 (by decide)).trans h5)
  have r10 : ∀ (W : Nat → Nat → Value) (J : Nat → Nat → Int32), fr1 90 V W I J → am_vR (am_pG 10 (.ref 89) (fx W J L R ++ tl)) = some (.ref g) := fun W J f => rVR qv_89_10 ((f.1 89 10 (by decide)).trans h10)
  have g60 := (src_ok (L := L) (R := R) hg).2.2.2.2
  have xel : xE P k ≤ P.length := xE_le (by omega)
  obtain ⟨W1, J1, e1, d1, f1⟩ := s34_90 (V := V) (I := I) (L := L) (R := R) (tl := tl) (kd := 0) (ln := 0) 0 0 rfl rfl (by omega) (by omega)
  have s1 := srcP_f f1 (by omega) (by omega) hs
  obtain ⟨W2, J2, e2, d2, f2⟩ := s170_90 (L := L) (R := R) (tl := tl) (i := 0) (j := k) s1 d1 (by omega) (by omega) (by show 0 + _ ≤ 60; omega) 0 (nI k) rfl rfl
  have l2 : ([] ++ seg P 0 k).length = k := by rw [List.nil_append, seg_0, List.length_take]; omega
  have f12 := fr1_t f1 f2
  have s2 := srcP_f f12 hg1 hg2 hg
  have no : ∀ (W : Nat → Nat → Value) (J : Nat → Nat → Int32), fg_169_87 (fx W J L R ++ tl) = some (.inl (some (.int (bI false)), fx W J L R ++ tl)) := fun W J => hd_169_87 (hd_169_88 (ev_i rfl rfl))
  have st0 : ∀ o, am_cI true (fm_170 (.ref 90) (.ref g) (nI i) (nI j) (fx W2 J2 L R ++ tl)) (fun v29 h30 => (if v29 = 0 then (fg_169_87 h30) else ((am_vR (am_pG 0 (.ref 89) h30)).bind fun v33 => ((am_vR (am_pG 5 (.ref 89) h30)).bind fun v35 => ((am_vR (am_pG 2 (.ref 89) h30)).bind fun v37 => (if am_pOk 7 v37 h30 then am_cI true (fm_100 v37 (nI k) h30) (fun v40 h41 => ((am_vR (am_pG 5 (.ref 89) h41)).bind fun v43 => ((am_vI (am_pG 771 v43 h41)).bind fun v45 => (if am_pOk 3 v33 h41 then am_cI true (fm_170 v33 v35 v40 v45 h41) (fun v48 h49 => (if v48 = 0 then (fg_169_87 h49) else (fg_169_88 1 h49))) else none)))) else none)))))) = o → fm_169 (.ref 89) (nI k) (fx V I L R ++ tl) = o := fun o k_ => by
    apply hm_169
    apply hd_169_0
    exact ev_b (rdR rfl) (ev_i rfl (ev_cV e1 (ev_b (r10 W1 J1 f1) (ev_b (a := false) rfl (ev_f (fun e => Bool.noConfusion e) (ev_b (rdR rfl) (ev_b (rb W1 J1 f1) (ev_i rfl (ev_cI e2 (ev_f (by decide) (ev_b (rdR rfl) (ev_b (r10 W2 J2 f12) (ev_b (rdI ((f12.1 89 11 (by decide)).trans h11)) (ev_b (rdI ((f12.1 89 12 (by decide)).trans h12)) (ev_i rfl k_)))))))))))))))
  by_cases q1 : k + (j - i) ≤ 60
  case neg => exact ⟨W2, J2, false, st0 _ (ev_cI (s170f_90 (L := L) (R := R) (i := i) (j := j) s2 d2 hij hj (by rw [l2]; omega) (by rw [l2]; omega) _ _ rfl rfl) (ev_t rfl (no W2 J2))), ⟨fun e => Bool.noConfusion e, fun e => by omega⟩, fun e => Bool.noConfusion e, f12⟩
  obtain ⟨W3, J3, e3, d3, f3⟩ := s170_90 (L := L) (R := R) (tl := tl) (i := i) (j := j) s2 d2 hij hj (by rw [l2]; omega) _ _ rfl rfl
  have f13 := fr1_t f12 f3
  have s3 := srcP_f f13 (by omega) (by omega) hs
  have o2' := (src_ok (L := L) (R := R) s3).2.1
  have l3 : (([] ++ seg P 0 k) ++ seg G i j).length = k + (j - i) := by rw [List.length_append, l2, seg_len hj]
  have e100 := e100_94 (V := W3) (I := J3) (L := L) (R := R) (tl := tl) (P := P) (k := k) ((f13.1 94 7 (by decide)).trans hsh.1) l60 (fun j hj => by rw [f13.2.1 95 (by decide)]; exact (hsh.2 j (by rw [sl_len]; exact hj)).1) (by omega) (nI k) rfl
  by_cases q2 : k + (j - i) + (P.length - xE P k) ≤ 60
  case neg => exact ⟨W3, J3, false, st0 _ (ev_cI e3 (ev_f (by decide) (ev_b (rdR rfl) (ev_b (rb W3 J3 f13) (ev_b (rdR rfl) (ev_i rfl (ev_cI e100 (ev_b (rb W3 J3 f13) (ev_b o2' (ev_i rfl (ev_cI (s170f_90 (L := L) (R := R) (i := xE P k) (j := P.length) s3 d3 xel (Nat.le_refl _) (by rw [l3]; omega) (by rw [l3]; omega) _ _ rfl rfl) (ev_t rfl (no W3 J3))))))))))))), ⟨fun e => Bool.noConfusion e, fun e => absurd e q2⟩, fun e => Bool.noConfusion e, f13⟩
  obtain ⟨W4, J4, e4, d4, f4⟩ := s170_90 (L := L) (R := R) (tl := tl) (i := xE P k) (j := P.length) s3 d3 xel (Nat.le_refl _) (by rw [l3]; omega) _ _ rfl rfl
  rw [List.nil_append, seg_0, seg_nn, List.append_assoc] at d4
  exact ⟨W4, J4, true, st0 _ (ev_cI e3 (ev_f (by decide) (ev_b (rdR rfl) (ev_b (rb W3 J3 f13) (ev_b (rdR rfl) (ev_i rfl (ev_cI e100 (ev_b (rb W3 J3 f13) (ev_b o2' (ev_i rfl (ev_cI e4 (ev_f (by decide) (hd_169_88 (ev_i rfl rfl)))))))))))))), ⟨fun _ => q2, fun _ => rfl⟩, fun _ => d4, fr1_t f13 f4⟩
/-- what is to be grafted -/
def vG (V : Nat → Nat → Value) (g i j : Nat) : Nat → Nat → Value := vup (vup (vup V 89 10 (.ref g)) 89 11 (.int (nI i))) 89 12 (.int (nI j))
theorem c168 {V : Nat → Nat → Value} {I : Nat → Nat → Int32} {L : Nat → Nat → Int64} {R : Nat → Nat → Option Nat} {tl : am_H} {g i j : Nat} : fm_168 (.ref 89) (.ref g) (nI i) (nI j) (fx V I L R ++ tl) = some (.inl (some (.int 1), fx (vG V g i j) I L R ++ tl)) := by
  apply hm_168
  apply hd_168_0
  exact ev_b qp_89_10 (ev_b qp_89_11 (ev_b qp_89_12 rfl))
theorem frM_G {V : Nat → Nat → Value} {I : Nat → Nat → Int32} {g i j : Nat} : frM V (vG V g i j) I I := by
  refine ⟨fun a x h _ _ _ => ?_, fun _ _ _ _ => rfl, fun w => wt_i (wt_i (wt_o (by decide) (by decide) w) (by decide)) (by decide)⟩
  unfold vG
  rw [vup_o (fun e => h ⟨e.1, by omega⟩), vup_o (fun e => h ⟨e.1, by omega⟩), vup_o (fun e => h ⟨e.1, by omega⟩)]
theorem shT_f {V W : Nat → Nat → Value} {I J : Nat → Nat → Int32} {P : xT} (h : shT V I 94 P) (f : frM V W I J) : shT W J 94 P := by
  refine ⟨(f.1 94 7 (by decide) (by decide) (by decide) (by decide)).trans h.1, fun j hj => ?_⟩
  rw [f.2.1 _ (by decide) (by decide) (by decide), f.2.1 _ (by decide) (by decide) (by decide), f.2.1 _ (by decide) (by decide) (by decide), f.2.1 _ (by decide) (by decide) (by decide), f.2.1 _ (by decide) (by decide) (by decide), f.2.1 _ (by decide) (by decide) (by decide)]
  exact h.2 j hj
theorem shT_f2 {V W : Nat → Nat → Value} {I J : Nat → Nat → Int32} {P : xT} (h : shT V I 102 P) (f : frM V W I J) : shT W J 102 P := by
  refine ⟨(f.1 102 7 (by decide) (by decide) (by decide) (by decide)).trans h.1, fun j hj => ?_⟩
  rw [f.2.1 _ (by decide) (by decide) (by decide), f.2.1 _ (by decide) (by decide) (by decide), f.2.1 _ (by decide) (by decide) (by decide), f.2.1 _ (by decide) (by decide) (by decide), f.2.1 _ (by decide) (by decide) (by decide), f.2.1 _ (by decide) (by decide) (by decide)]
  exact h.2 j hj
def lfN (w : Nat) : Nat × Int32 := if w = 0 then (0, 0) else if w = 1 then (1, 0) else (0, 1)
theorem lfN_t : ∀ w, w < 3 → lfO w = (nI (lfN w).1, (lfN w).2) := by decide
theorem lfN_1 : ∀ w, w < 3 → (lfN w).1 ≤ 1 := by decide
theorem sl_rp {P m : xT} {k : Nat} : sl (P.take k ++ (m ++ P.drop (xE P k))) = (sl P).take k ++ (sl m ++ (sl P).drop (k + tk 1 ((sl P).drop k))) := by
  rw [sl_app, sl_app, sl_take, sl_drop]
  rfl
theorem mem_rp2 {P m : xT} {k e : Nat} (h : ∀ x, x ∈ P → x.1 ≤ 20) (hm : ∀ x, x ∈ m → x.1 ≤ 20) : ∀ x, x ∈ P.take k ++ (m ++ P.drop e) → x.1 ≤ 20 := fun x hx => by
  rcases List.mem_append.mp hx with h1 | h1
  · exact h x (List.mem_of_mem_take h1)
  · rcases List.mem_append.mp h1 with h2 | h2
    · exact hm x h2
    · exact h x (List.mem_of_mem_drop h2)
theorem rp_l2 {P m : xT} {k : Nat} (hk : k < P.length) : (P.take k ++ (m ++ P.drop (xE P k))).length = k + m.length + (P.length - xE P k) := by
  rw [List.length_append, List.length_append, List.length_take, List.length_drop]
  omega
/-- sound with a tree in a place -/
theorem snd_rp {P m : xT} {k : Nat} (ho : okP P) (hk : k < P.length) (hm : ∀ x, x ∈ m → x.1 ≤ 20) (hf : isF 1 (sl m)) : sndB 0 (tI (P.take k ++ (m ++ P.drop (xE P k)))) = true ↔ k + m.length + (P.length - xE P k) ≤ 60 ∧ okF [cxK (sl P) k] (sl m) := by
  rw [snd_0 (mem_rp2 (okP_20b ho) hm), rp_l2 hk, sl_rp, hole_iff ho.1 (by rw [sl_len]; exact hk) hf]
set_option maxRecDepth 100000 in
set_option maxHeartbeats 4000000 in
theorem m_2 {V : Nat → Nat → Value} {I : Nat → Nat → Int32} {L : Nat → Nat → Int64} {R : Nat → Nat → Option Nat} {tl : am_H} {N A it ac c : Nat} {P : xT} (hN : 10 < N) (hw : wt V) (hx : cxC V I tl A it 0 0 2 ac P) (ho : okP P) (hsh : shT V I 94 P) (hc : c < 3 * P.length) : ∃ W J b, fm_163 N (.ref 89) (nI c) (fx V I L R ++ tl) = some (.inl (some (.int (bI b)), fx W J L R ++ tl)) ∧ outM W J 0 0 (cd02 (tI P) c) b ∧ frM V W I J := by
  have hx0 := hx
  obtain ⟨h5, h7, h8, h1, h2, hs, hA, hi⟩ := hx
  obtain ⟨o1, o2, -, -, l60⟩ := src_ok (L := L) (R := R) hs
  have hk : c / 3 < P.length := by omega
  have d5 : nI c / 3 = nI (c / 3) := nI_dv (b := 3) (by omega) (by omega)
  have m5 : nI c - nI c / 3 * 3 = nI (c % 3) := nI_md (b := 3) (by omega) (by omega)
  have rb : am_vR (am_pG 5 (.ref 89) (fx V I L R ++ tl)) = some (.ref A) := rVR qv_89_5 h5
  obtain ⟨k, ek⟩ : ∃ k, k = c / 3 := ⟨_, rfl⟩
  obtain ⟨w, ew⟩ : ∃ s, s = c % 3 := ⟨_, rfl⟩
  have w3 : w < 3 := by omega
  rw [← ek] at d5 hk
  rw [← ew] at m5
  obtain ⟨gs, gv⟩ := src_get (L := L) (R := R) hs hk
  have x20 := (nd_at ho hk).1
  have tn := tN_1 (xS P k)
  have lw1 := lfN_1 w w3
  have ecd : cd02 (tI P) c = if truN (xS P k) = 1 ∨ (nI (xS P k), xV P k) = (nI (lfN w).1, (lfN w).2) then none else gS2 0 (tI (P.take k ++ ([lfN w] ++ P.drop (xE P k)))) := by
    unfold cd02
    rw [← ek, ← ew, (srt_tI hk).1, (srt_tI hk).2, sN_n (by omega), eT2_x (okP_20b ho), lfN_t w w3, tI_app, tI_app, tI_take, tI_drop]
    rfl
  have no62 : fg_167_62 N (fx V I L R ++ tl) = some (.inl (some (.int (bI false)), fx V I L R ++ tl)) := hd_167_62 rfl
  -- to the choice of the leaf
  have st1 : ∀ o, fg_167_21 N (.ref 89) (nI k) (nI (lfN w).1) (lfN w).2 (fx V I L R ++ tl) = o → fm_167 N (.ref 89) (nI c / 3) (nI c - nI c / 3 * 3) (fx V I L R ++ tl) = o := fun o e => by
    rw [m5, d5]
    apply hm_167
    apply hd_167_0
    rcases (by omega : w = 0 ∨ w = 1 ∨ w = 2) with rfl | rfl | rfl
    · exact ev_t (by decide) (hd_167_10 (ev_t (by decide) e))
    · exact ev_f (fun e => e rfl) (hd_167_10 (ev_t (by decide) e))
    · exact ev_t (by decide) (hd_167_10 (ev_f (fun e => e rfl) e))
  have no : ∀ (W : Nat → Nat → Value) (J : Nat → Nat → Int32), fg_163_178 N (fx W J L R ++ tl) = some (.inl (some (.int (bI false)), fx W J L R ++ tl)) := fun W J => hd_163_178 (hd_163_179 (ev_i rfl rfl))
  by_cases q : truN (xS P k) = 1 ∨ (nI (xS P k), xV P k) = (nI (lfN w).1, (lfN w).2)
  · refine ⟨V, I, false, ?_, out_n (by rw [ecd, if_pos q]), frM_r⟩
    have e : fm_167 N (.ref 89) (nI c / 3) (nI c - nI c / 3 * 3) (fx V I L R ++ tl) = some (.inl (some (.int (bI false)), fx V I L R ++ tl)) := by
      apply st1
      apply hd_167_21
      refine ev_b rb (ev_i o1 (ev_cI gs (ev_cI (p11 (by omega) _) ?_)))
      by_cases q1 : truN (xS P k) = 1
      · exact ev_t (by rw [q1]; decide) no62
      · have q2 := q.resolve_left q1
        exact ev_f (fun e => e (by rw [show truN (xS P k) = 0 by omega]; rfl)) (ev_f (fun e => e (Prod.mk.inj q2).1) (ev_b rb (ev_i o1 (ev_cI gv (ev_f (fun e => e (Prod.mk.inj q2).2) no62)))))
    apply hm_163
    apply hd_163_0
    exact ev_b (rdI h8) (ev_t (nI_le (a := 1) h1 (by omega)) (ev_b (rdI h7) (ev_f (by decide) (ev_f (by decide) (ev_t rfl (ev_i rfl (ev_cI e (ev_t rfl (no V I)))))))))
  rw [if_neg q] at ecd
  have t0 : truN (xS P k) = 0 := by
    by_cases z : truN (xS P k) = 1
    · exact absurd (.inl z) q
    · omega
  obtain ⟨W1, J1, x1, y1, f1⟩ := s34_92 (V := V) (I := I) (L := L) (R := R) (tl := tl) (kd := 0) (ln := 0) 0 0 rfl rfl (by omega) (by omega)
  obtain ⟨W2, J2, x2, y2, f2⟩ := s41_92 (L := L) (R := R) (tl := tl) (N := N) (a := (lfN w).1) (b := (lfN w).2) (by omega) y1 (by decide) (nI (lfN w).1) rfl
  have y2 : hold W2 J2 92 0 0 [lfN w] := y2
  have f12 := fr1_t f1 f2
  have F1 : frM V W2 I J2 := frM_92 f12
  have F2 : frM V (vG W2 92 0 1) I J2 := frM_t F1 frM_G
  have hd92 : hold (vG W2 92 0 1) J2 92 0 0 [lfN w] := hold_c (fun j => by unfold vG; rw [vup_o (fun e => absurd e.1 (by decide)), vup_o (fun e => absurd e.1 (by decide)), vup_o (fun e => absurd e.1 (by decide))]) rfl y2
  obtain ⟨W, J, b, e, g1, g2, f⟩ := s169 (L := L) (R := R) (g := 92) (ig := 93) (k := k) (i := 0) (j := 1) (G := [lfN w]) (cx_f hx0 F2) (shT_f hsh F2) rfl rfl rfl (srcP_92 (L := L) (R := R) (tl := tl) (F2.2.2 hw) hd92 (by omega) (by omega) (by show 1 ≤ 60; omega)) (by decide) (by decide) hk (by omega) (by show 1 ≤ 1; omega)
  have xg := xE_gt hk
  have xl : xE P k ≤ P.length := xE_le (by omega)
  have bt : b = true := g1.mpr (by omega)
  subst bt
  have e64 : fm_167 N (.ref 89) (nI c / 3) (nI c - nI c / 3 * 3) (fx V I L R ++ tl) = some (.inl (some (.int 1), fx (vG W2 92 0 1) J2 L R ++ tl)) := by
    apply st1
    have t64 : fg_167_64 N (.ref 89) (nI (lfN w).1) (lfN w).2 (fx V I L R ++ tl) = some (.inl (some (.int 1), fx (vG W2 92 0 1) J2 L R ++ tl)) := by
      apply hd_167_64
      exact ev_b (rdR rfl) (ev_i rfl (ev_cV x1 (ev_b (rdR rfl) (ev_i rfl (ev_cI x2 (ev_b (rdR rfl) (ev_i rfl (ev_cI (c168 (i := 0) (j := 1)) (ev_i rfl rfl)))))))))
    apply hd_167_21
    refine ev_b rb (ev_i o1 (ev_cI gs (ev_cI (p11 (by omega) _) (ev_f (fun e => e (by rw [t0]; rfl)) ?_))))
    by_cases z : nI (xS P k) = nI (lfN w).1
    · exact ev_f (fun e => e z) (ev_b rb (ev_i o1 (ev_cI gv (ev_t (fun e => q (.inr (by rw [z, e]))) t64))))
    · exact ev_t z t64
  have sg1 : seg [lfN w] 0 1 = [lfN w] := rfl
  rw [sg1] at g2
  have ys : sndB 0 (tI (P.take k ++ ([lfN w] ++ P.drop (xE P k)))) = true := by
    refine (snd_rp ho hk (fun x hx => by rw [List.mem_singleton.mp hx]; omega) ?_).mpr ⟨by show k + 1 + _ ≤ 60; omega, ?_⟩
    · show isF (0 + arN (lfN w).1) []
      rw [show arN (lfN w).1 = 0 by unfold arN; rw [if_pos (by omega)]]
      trivial
    · have nk := nd_at ho hk
      have kn : kid (lfN w).1 (cxK (sl P) k) = [] := by unfold kid; rw [show arN (lfN w).1 = 0 by unfold arN; rw [if_pos (by omega)]]; rfl
      show okF [cxK (sl P) k] [((lfN w).1, 0)]
      rw [okF, kn]
      refine ⟨by omega, ?_, nk.2.2.1, fun _ => ⟨by omega, by omega⟩, fun _ => by omega, by rw [List.append_nil, okF]; trivial⟩
      have : truN (xS P k) = (cxK (sl P) k).1 := nk.2.1
      rw [← this, t0]
      unfold truN
      rw [if_neg (by omega)]
  refine ⟨W, J, true, ?_, out_y (by rw [ecd]; unfold gS2; rw [ys]; rfl) (g2 rfl) (by rw [rp_l2 hk]; show k + 1 + _ ≤ 60; omega), frM_t F2 (frM_9 f)⟩
  have e : fm_169 (.ref 89) (nI c / 3) (fx (vG W2 92 0 1) J2 L R ++ tl) = some (.inl (some (.int (bI true)), fx W J L R ++ tl)) := by rw [d5]; exact e
  apply hm_163
  apply hd_163_0
  exact ev_b (rdI h8) (ev_t (nI_le (a := 1) h1 (by omega)) (ev_b (rdI h7) (ev_f (by decide) (ev_f (by decide) (ev_t rfl (ev_i rfl (ev_cI e64 (ev_f (by decide) (ev_i rfl (ev_cI e (ev_f (by decide) (hd_163_179 (ev_i rfl rfl)))))))))))))
theorem pA_tk {P : xT} {k q : Nat} (hk : k < P.length) (hq : q < 3) : pA P k q = k + 1 + tk q ((sl P).drop (k + 1)) := by
  have hd := sl_at (P := P) hk
  unfold pA
  rcases (by omega : q = 0 ∨ q = 1 ∨ q = 2) with rfl | rfl | rfl
  · rw [if_pos rfl, tk_0]
  · rw [if_neg (by decide), if_pos rfl]; exact en_1 hd
  · rw [if_neg (by decide), if_neg (by decide)]; exact en_2 hd
/-- a part of a node -/
theorem part_at {P : xT} (ho : okP P) {k q : Nat} (hk : k < P.length) (hq : q < 3) (ha : q < arN (xS P k)) : pA P k q < P.length ∧ k < pA P k q ∧ xE P (pA P k q) ≤ xE P k ∧ cxK (sl P) (pA P k q) = (twN (xS P k) q, (cxK (sl P) k).2.1 + 1, if xS P k = 19 ∧ q = 1 then 1 else (cxK (sl P) k).2.2) := by
  have hd := sl_at (P := P) hk
  have fa := form_at ho.1 hd
  obtain ⟨y, r2, p1, p2⟩ := fa.2.2.2.2.2 q ha
  rw [← pA_tk hk hq] at p1 p2
  refine ⟨?_, ?_, ?_, p2⟩
  · by_cases z : pA P k q < P.length
    · exact z
    · rw [List.drop_of_length_le (by rw [sl_len]; omega)] at p1; exact absurd p1 (by simp)
  · rw [pA_tk hk hq]; omega
  · show enL (sl P) (pA P k q) ≤ enL (sl P) k
    unfold enL
    rw [hd, tk_c, Nat.zero_add, pA_tk hk hq]
    have t1 := tk_add ((sl P).drop (k + 1)) q 1
    have t2 := tk_add ((sl P).drop (k + 1)) (q + 1) (arN (xS P k) - (q + 1))
    rw [show q + 1 + (arN (xS P k) - (q + 1)) = arN (xS P k) by omega] at t2
    rw [List.drop_drop] at t1
    show _ ≤ k + (1 + tk (arN (xS P k)) ((sl P).drop (k + 1)))
    omega
