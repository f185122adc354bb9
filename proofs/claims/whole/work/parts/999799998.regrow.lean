/-! ===== regrowth in the class ===== -/
theorem hd_191_193 {N : Nat} {h : am_H} {r_ : Option am_O} (k_ : some (.inl (none, h)) = r_) : fg_191_193 N h = r_ := k_
theorem hd_191_185 {N : Nat} {x0 : Value} {x1 : Value} {h : am_H} {r_ : Option am_O} (k_ : ((am_vR (am_pG 0 x0 h)).bind fun v1 => (if am_pOk 3 v1 h then am_cV true (fm_60 v1 x1 h) (fun h5 => (fg_191_193 N h5)) else none)) = r_) : fg_191_185 N x0 x1 h = r_ := k_
theorem hd_191_97 {N : Nat} {x0 : Value} {x1 : Value} {x2 : Value} {x3 : Value} {x4 : Int32} {x5 : Int32} {x6 : Int32} {h : am_H} {r_ : Option am_O} (k_ : (if am_pOk 4 x3 h then am_cL true (fm_15 x3 x5 x6 h) (fun v2 h3 => (if am_pOk 8 x2 h3 then am_cL true (fm_194 x2 v2 h3) (fun v6 h7 => ((am_vR (am_pG 1 x0 h7)).bind fun v9 => (if am_pOk 4 x3 h7 then am_cV true (fm_91 N x3 x5 x6 v6 v9 h7) (fun h13 => ((am_vR (am_pG 3 x0 h13)).bind fun v15 => ((am_vR (am_pG 1 x0 h13)).bind fun v17 => (if am_pOk 7 v15 h13 then am_cV true (fm_76 N v15 v17 h13) (fun h21 => ((am_vR (am_pG 1 x0 h21)).bind fun v23 => ((am_vR (am_pG 1 x0 h21)).bind fun v25 => ((am_vI (am_pG 771 v25 h21)).bind fun v27 => (if am_pOk 0 x0 h21 then am_cI true (fm_168 x0 v23 0 v27 h21) (fun v30 h31 => ((am_vR (am_pG 2 x0 h31)).bind fun v33 => ((am_vR (am_pG 1793 v33 h31)).bind fun v35 => ((am_pA 0 v35 x4 h31).bind fun v37 => ((am_vR (am_pG 3 x0 h31)).bind fun v39 => ((am_vR (am_pG 1794 v39 h31)).bind fun v41 => ((am_pA 0 v41 0 h31).bind fun v43 => (if 12 < ((v37 - 1) + v43) then (fg_191_185 N x0 x1 h31) else (if am_pOk 0 x0 h31 then am_cI true (fm_169 x0 x4 h31) (fun v47 h48 => (if ¬ v47 = 0 then (fg_191_193 N h48) else (fg_191_185 N x0 x1 h48))) else none))))))))) else none))))) else none)))) else none))) else none)) else none) = r_) : fg_191_97 N x0 x1 x2 x3 x4 x5 x6 h = r_ := k_
theorem hd_191_71 {N : Nat} {K : Nat} {x0 : Value} {x1 : Value} {x2 : Value} {x3 : Value} {x4 : Int32} {x5 : Int32} {x6 : Int32} {h : am_H} {r_ : Option am_O} (k_ : (if 12 ≤ x6 then (fg_191_97 N x0 x1 x2 x3 x4 x5 x6 h) else (if am_pOk 4 x3 h then am_cL true (fm_15 x3 x5 x6 h) (fun v3 h4 => (if ¬ (lg_cmp v3 0) = 0 then (fg_191_97 N x0 x1 x2 x3 x4 x5 x6 h4) else (fg_191_71 N K x0 x1 x2 x3 x4 x5 ((x6 + 1)) h4))) else none)) = r_) : fg_191_71 N (K + 1) x0 x1 x2 x3 x4 x5 x6 h = r_ := by rw [fg_191_71]; exact k_
theorem hd_191_59 {N : Nat} {x0 : Value} {x1 : Value} {x2 : Value} {x3 : Value} {x4 : Int32} {s0 : Int32} {s1 : Int32} {h : am_H} {r_ : Option am_O} (k_ : (if am_pOk 8 x2 h then am_cI true (fm_192 x2 4 h) (fun v2 h3 => (fg_191_71 N N x0 x1 x2 x3 x4 ((s0 + s1)) ((1 + v2)) h3)) else none) = r_) : fg_191_59 N x0 x1 x2 x3 x4 s0 s1 h = r_ := k_
theorem hd_191_41 {N : Nat} {x0 : Value} {x1 : Value} {x2 : Value} {x3 : Value} {x4 : Int32} {s0 : Int32} {h : am_H} {r_ : Option am_O} (k_ : (if am_pOk 3 x1 h then am_cI true (fm_54 x1 x4 0 h) (fun v2 h3 => am_cI false (fm_11 v2 h3) (fun v5 h6 => (if v5 = 0 then (fg_191_59 N x0 x1 x2 x3 x4 s0 0 h6) else (fg_191_59 N x0 x1 x2 x3 x4 s0 1 h6)))) else none) = r_) : fg_191_41 N x0 x1 x2 x3 x4 s0 h = r_ := k_
theorem hd_191_0 {N : Nat} {x0 : Value} {x1 : Value} {x2 : Value} {x3 : Value} {h : am_H} {r_ : Option am_O} (k_ : ((am_pP 5 x0 x1 h).bind fun h1 => ((am_vR (am_pG 2 x0 h1)).bind fun v3 => (if am_pOk 7 v3 h1 then am_cV true (fm_76 N v3 x1 h1) (fun h7 => ((am_vI (am_pG 771 x1 h7)).bind fun v9 => (if am_pOk 8 x2 h7 then am_cI true (fm_192 x2 v9 h7) (fun v12 h13 => ((am_vR (am_pG 2 x0 h13)).bind fun v15 => ((am_vR (am_pG 1795 v15 h13)).bind fun v17 => ((am_pA 2 v17 v12 h13).bind fun v19 => (if v19 = 0 then (fg_191_41 N x0 x1 x2 x3 v12 0 h13) else (fg_191_41 N x0 x1 x2 x3 v12 2 h13)))))) else none))) else none))) = r_) : fg_191_0 N x0 x1 x2 x3 h = r_ := k_
theorem hm_191 {N : Nat} {y0 : Value} {y1 : Value} {y2 : Value} {y3 : Value} {h : am_H} {r_ : Option am_O} (k_ : fg_191_0 N y0 y1 y2 y3 h = r_) : fm_191 N y0 y1 y2 y3 h = r_ := k_
set_option maxRecDepth 100000 in
set_option maxHeartbeats 4000000 in
theorem s169W {V : Nat → Nat → Value} {I : Nat → Nat → Int32} {L : Nat → Nat → Int64} {R : Nat → Nat → Option Nat} {tl : am_H} {A it g ig k i j : Nat} {P G : xT} (h5 : V 89 5 = .ref A) (hs : srcP V I tl A it 0 0 P) (hA : 130 < A) (hi : 130 < it) (hsh : shT V I 94 P) (h10 : V 89 10 = .ref g) (h11 : V 89 11 = .int (nI i)) (h12 : V 89 12 = .int (nI j)) (hg : srcP V I tl g ig 0 0 G) (hg1 : g ≠ 90) (hg2 : ig ≠ 91) (hk : k < P.length) (hij : i ≤ j) (hj : j ≤ G.length) : ∃ W J b, fm_169 (.ref 89) (nI k) (fx V I L R ++ tl) = some (.inl (some (.int (bI b)), fx W J L R ++ tl)) ∧ (b = true ↔ k + (j - i) + (P.length - xE P k) ≤ 60) ∧ (b = true → hold W J 90 0 0 (P.take k ++ (seg G i j ++ P.drop (xE P k)))) ∧ fr1 90 V W I J := by
  obtain ⟨o1, o2, -, -, l60⟩ := src_ok (L := L) (R := R) hs
  have rb : ∀ (W : Nat → Nat → Value) (J : Nat → Nat → Int32), fr1 90 V W I J → am_vR (am_pG 5 (.ref 89) (fx W J L R ++ tl)) = some (.ref A) := fun W J f => rVR qv_89_5 ((f.1 89 5 (by decide)).trans h5)
  have r10 : ∀ (W : Nat → Nat → Value) (J : Nat → Nat → Int32), fr1 90 V W I J → am_vR (am_pG 10 (.ref 89) (fx W J L R ++ tl)) = some (.ref g) := fun W J f => rVR qv_89_10 ((f.1 89 10 (by decide)).trans h10)
  have g60 := (src_ok (L := L) (R := R) hg).2.2.2.2
  have xel : xE P k ≤ P.length := xE_le (by omega)
  obtain ⟨W1, J1, e1, d1, f1⟩ := s34_90 (V := V) (I := I) (L := L) (R := R) (tl := tl) (kd := 0) (ln := 0) 0 0 rfl rfl (by omega) (by omega)
  have s1 := srcP_f f1 (by omega) (by omega) hs
  obtain ⟨W2, J2, e2, d2, f2⟩ := s170_90 (L := L) (R := R) (tl := tl) (i := 0) (j := k) s1 d1 (by omega) (by omega) (by show 0 + _ ≤ 60; omega) 0 (nI k) rfl rfl
  have l2 : ([] ++ seg P 0 k).length = k := by rw [List.nil_append, seg_0, List.length_take]; omega
  have f12 := fr1_t f1 f2
  have s2 := srcP_f f12 hg1 hg2 hg
  have no : ∀ (W : Nat → Nat → Value) (J : Nat → Nat → Int32), fg_169_87 (fx W J L R ++ tl) = some (.inl (some (.int (bI false)), fx W J L R ++ tl)) := fun W J => hd_169_87 (hd_169_88 (ev_i rfl rfl))
  have st0 : ∀ o, am_cI true (fm_170 (.ref 90) (.ref g) (nI i) (nI j) (fx W2 J2 L R ++ tl)) (fun v29 h30 => (if v29 = 0 then (fg_169_87 h30) else ((am_vR (am_pG 0 (.ref 89) h30)).bind fun v33 => ((am_vR (am_pG 5 (.ref 89) h30)).bind fun v35 => ((am_vR (am_pG 2 (.ref 89) h30)).bind fun v37 => (if am_pOk 7 v37 h30 then am_cI true (fm_100 v37 (nI k) h30) (fun v40 h41 => ((am_vR (am_pG 5 (.ref 89) h41)).bind fun v43 => ((am_vI (am_pG 771 v43 h41)).bind fun v45 => (if am_pOk 3 v33 h41 then am_cI true (fm_170 v33 v35 v40 v45 h41) (fun v48 h49 => (if v48 = 0 then (fg_169_87 h49) else (fg_169_88 1 h49))) else none)))) else none)))))) = o → fm_169 (.ref 89) (nI k) (fx V I L R ++ tl) = o := fun o k_ => by
    apply hm_169
    apply hd_169_0
    exact ev_b (rdR rfl) (ev_i rfl (ev_cV e1 (ev_b (r10 W1 J1 f1) (ev_b (a := false) rfl (ev_f (fun e => Bool.noConfusion e) (ev_b (rdR rfl) (ev_b (rb W1 J1 f1) (ev_i rfl (ev_cI e2 (ev_f (by decide) (ev_b (rdR rfl) (ev_b (r10 W2 J2 f12) (ev_b (rdI ((f12.1 89 11 (by decide)).trans h11)) (ev_b (rdI ((f12.1 89 12 (by decide)).trans h12)) (ev_i rfl k_)))))))))))))))
  by_cases q1 : k + (j - i) ≤ 60
  case neg => exact ⟨W2, J2, false, st0 _ (ev_cI (s170f_90 (L := L) (R := R) (i := i) (j := j) s2 d2 hij hj (by rw [l2]; omega) (by rw [l2]; omega) _ _ rfl rfl) (ev_t rfl (no W2 J2))), ⟨fun e => Bool.noConfusion e, fun e => by omega⟩, fun e => Bool.noConfusion e, f12⟩
  obtain ⟨W3, J3, e3, d3, f3⟩ := s170_90 (L := L) (R := R) (tl := tl) (i := i) (j := j) s2 d2 hij hj (by rw [l2]; omega) _ _ rfl rfl
  have f13 := fr1_t f12 f3
  have s3 := srcP_f f13 (by omega) (by omega) hs
  have o2' := (src_ok (L := L) (R := R) s3).2.1
  have l3 : (([] ++ seg P 0 k) ++ seg G i j).length = k + (j - i) := by rw [List.length_append, l2, seg_len hj]
  have e100 := e100_94 (V := W3) (I := J3) (L := L) (R := R) (tl := tl) (P := P) (k := k) ((f13.1 94 7 (by decide)).trans hsh.1) l60 (fun j hj => by rw [f13.2.1 95 (by decide)]; exact (hsh.2 j (by rw [sl_len]; exact hj)).1) (by omega) (nI k) rfl
  by_cases q2 : k + (j - i) + (P.length - xE P k) ≤ 60
  case neg => exact ⟨W3, J3, false, st0 _ (ev_cI e3 (ev_f (by decide) (ev_b (rdR rfl) (ev_b (rb W3 J3 f13) (ev_b (rdR rfl) (ev_i rfl (ev_cI e100 (ev_b (rb W3 J3 f13) (ev_b o2' (ev_i rfl (ev_cI (s170f_90 (L := L) (R := R) (i := xE P k) (j := P.length) s3 d3 xel (Nat.le_refl _) (by rw [l3]; omega) (by rw [l3]; omega) _ _ rfl rfl) (ev_t rfl (no W3 J3))))))))))))), ⟨fun e => Bool.noConfusion e, fun e => absurd e q2⟩, fun e => Bool.noConfusion e, f13⟩
  obtain ⟨W4, J4, e4, d4, f4⟩ := s170_90 (L := L) (R := R) (tl := tl) (i := xE P k) (j := P.length) s3 d3 xel (Nat.le_refl _) (by rw [l3]; omega) _ _ rfl rfl
  rw [List.nil_append, seg_0, seg_nn, List.append_assoc] at d4
  exact ⟨W4, J4, true, st0 _ (ev_cI e3 (ev_f (by decide) (ev_b (rdR rfl) (ev_b (rb W3 J3 f13) (ev_b (rdR rfl) (ev_i rfl (ev_cI e100 (ev_b (rb W3 J3 f13) (ev_b o2' (ev_i rfl (ev_cI e4 (ev_f (by decide) (hd_169_88 (ev_i rfl rfl)))))))))))))), ⟨fun _ => q2, fun _ => rfl⟩, fun _ => d4, fr1_t f13 f4⟩

theorem y_15 {V : Nat → Nat → Value} {I : Nat → Nat → Int32} {L : Nat → Nat → Int64} {R : Nat → Nat → Option Nat} {tl : am_H} {c n : Nat} (hT : L 78 = tT) (hc : c < 6) (h1 : 1 ≤ n) (hn : n ≤ 12) : fm_15 (.ref 76) (nI c) (nI n) (fx V I L R ++ tl) = some (.inl (some (.long (lN (uT c n))), fx V I L R ++ tl)) := by
  refine (e_15 (a := 76) (ta := 78) (T := L 78) rfl rfl rfl (nI c) (nI n)).trans ?_
  rw [hT, rkTot_u hc h1 (by omega)]
/-- the first size from n0 on that has trees -/
def nzP (c n0 n : Nat) : Prop := n0 ≤ n ∧ n ≤ 12 ∧ uT c n ≠ 0 ∧ ∀ m, m < n → n0 ≤ m → uT c m = 0
def nzF (c n0 : Nat) : Nat := ((List.range 9).find? (fun n => decide (n0 ≤ n) && (uT c n != 0))).getD 0
def nzB (c n0 : Nat) : Bool := decide (n0 ≤ nzF c n0) && decide (nzF c n0 ≤ 12) && (uT c (nzF c n0) != 0) && (List.range (nzF c n0)).all (fun m => decide (m < n0) || (uT c m == 0))
theorem nz_f : (List.range 4).all (fun c => (List.range 5).all (fun n0 => (n0 == 0) || nzB c n0)) = true := by decide +kernel
theorem nz_ex {c n0 : Nat} (hc : c < 4) (h0 : n0 < 5) (h1 : 1 ≤ n0) : nzP c n0 (nzF c n0) := by
  have h := List.all_eq_true.mp (List.all_eq_true.mp nz_f c (List.mem_range.mpr hc)) n0 (List.mem_range.mpr h0)
  have hb : nzB c n0 = true := by
    rcases Bool.or_eq_true _ _ |>.mp h with q | q
    · have : n0 = 0 := eq_of_beq q
      omega
    · exact q
  unfold nzB at hb
  rw [Bool.and_eq_true, Bool.and_eq_true, Bool.and_eq_true] at hb
  obtain ⟨⟨⟨b1, b2⟩, b3⟩, b4⟩ := hb
  refine ⟨of_decide_eq_true b1, of_decide_eq_true b2, fun e => ?_, fun m hm h2 => ?_⟩
  · rw [e] at b3
    exact absurd b3 (by decide)
  · have := List.all_eq_true.mp b4 m (List.mem_range.mpr hm)
    rcases Bool.or_eq_true _ _ |>.mp this with q | q
    · have := of_decide_eq_true q
      omega
    · exact eq_of_beq q
/-- a tree by its place, with its values -/
def unX (c n r : Nat) : xT := (un c n r).map (fun x => (x.1, nI x.2))
theorem unX_ok {c n r tr fl : Nat} (h1 : 1 ≤ n) (hn : n ≤ 12) (hc : c < 4) (hr : r < uT c n) (et : tr = c % 2) (ef : fl = c / 2) : (unX c n r).length = n ∧ isF 1 (sl (unX c n r)) ∧ okF [(tr, 1, fl)] (sl (unX c n r)) ∧ (∀ x, x ∈ unX c n r → x.1 ≤ 20 ∧ (x.1 = 0 → two x.2) ∧ (x.1 ≠ 0 → x.2 = 0)) := by
  obtain ⟨u1, u2, u3⟩ := un_form n hn h1 c r (by omega) hr
  obtain ⟨q1, q2⟩ := cx_un n [(c, n, r)] [(tr, 1, fl)] (by show n + 0 ≤ n; omega) ⟨by show c < 6; omega, h1, hn, hr, trivial⟩ ⟨et, ef, by show 1 + n ≤ 13; omega, trivial⟩
  have etu : tun [(c, n, r)] = un c n r := by
    show un _ _ _ ++ [] = _
    rw [List.append_nil]
  rw [etu] at q1 q2
  have esl : sl (unX c n r) = (un c n r).map (fun x => (x.1, 0)) := by
    unfold sl unX
    rw [List.map_map]
    rfl
  have o := okF_map _ _ q1
  rw [← esl] at o
  refine ⟨by unfold unX; rw [List.length_map]; exact u2, okF_F _ _ o, o, fun x hx => ?_⟩
  obtain ⟨y, y1, rfl⟩ := List.mem_map.mp hx
  obtain ⟨z1, z2⟩ := u3 y y1
  refine ⟨z1, fun _ => .inl ⟨y.2, by omega, rfl⟩, fun e => ?_⟩
  show nI y.2 = 0
  rw [q2 y y1 e]
  rfl
theorem unX_tO {c n r : Nat} {f : Nat → Int32} : tO (wrt f 0 (un c n r)) (unX c n r) := by
  intro k x hx
  unfold unX at hx
  rw [List.getElem?_map] at hx
  cases e : (un c n r)[k]? with
  | none => rw [e] at hx; cases hx
  | some y =>
    rw [e] at hx
    obtain ⟨hl, e2⟩ := List.getElem?_eq_some_iff.mp e
    have hd : (un c n r).drop k = y :: (un c n r).drop (k + 1) := by rw [List.drop_eq_getElem_cons hl, e2]
    have w := wrt_at (un c n r) f 0 k y _ hd
    rw [Nat.zero_add, Nat.mul_comm] at w
    have ex : (y.1, nI y.2) = x := Option.some.inj hx
    rw [← ex]
    exact w
theorem kpO {V : Nat → Nat → Value} {I : Nat → Nat → Int32} {a j : Nat} {x : Value} (h : ¬ j ∈ vRel a) (hI : ¬ j ∈ fI a) (hL : ¬ j ∈ fL a) : keep V (vup V a j x) I I := ⟨fun b k hk => vup_o (fun e => h (by rw [← e.1, ← e.2]; exact hk)), fun _ _ => rfl, fun w => wt_o hI hL w⟩
/-- what a birth's making leaves: the islands and the reference -/
def frIs (V W : Nat → Nat → Value) (I J : Nat → Nat → Int32) : Prop := (∀ a j, (a < 76 ∨ 117 < a) → a ≠ 173 → W a j = V a j) ∧ (∀ y, (y < 76 ∨ 117 < y) → J y = I y) ∧ (wt V → wt W)
theorem frIs_r {V : Nat → Nat → Value} {I : Nat → Nat → Int32} : frIs V V I I := ⟨fun _ _ _ _ => rfl, fun _ _ => rfl, id⟩
theorem frIs_t {U V W : Nat → Nat → Value} {H I J : Nat → Nat → Int32} (f : frIs U V H I) (g : frIs V W I J) : frIs U W H J := ⟨fun a j h k => (g.1 a j h k).trans (f.1 a j h k), fun y h => (g.2.1 y h).trans (f.2.1 y h), fun h => g.2.2 (f.2.2 h)⟩
theorem frIs_Cg {V W : Nat → Nat → Value} {I J : Nat → Nat → Int32} (f : frCg V W I J) : frIs V W I J := ⟨fun a j h _ => f.1 a j (by omega), fun y h => f.2.1 y (by omega), f.2.2⟩
theorem vRel_I : ∀ a j, j ∈ vRel a → (a < 76 ∨ 117 < a) ∧ a ≠ 173 := fun a j h => by
  unfold vRel at h
  split at h <;> first | (exact ⟨by omega, by omega⟩) | (exact absurd h List.not_mem_nil)
theorem keep_I {V W : Nat → Nat → Value} {I J : Nat → Nat → Int32} (f : frIs V W I J) : keep V W I J := ⟨fun a j h => f.1 a j (vRel_I a j h).1 (vRel_I a j h).2, fun y hy => f.2.1 y (by
  have key : ∀ y, y ∈ iRel → y < 76 ∨ 117 < y := by decide
  exact key y hy), f.2.2⟩
theorem kpI {V W : Nat → Nat → Value} {I J : Nat → Nat → Int32} (hk : keep V W I I) (h : ∀ y, y < 89 ∨ 117 < y → J y = I y) : keep V W I J := ⟨hk.1, fun y hy => h y (by
  have key : ∀ y, y ∈ iRel → y < 89 ∨ 117 < y := by decide
  exact key y hy), hk.2.2⟩
set_option maxRecDepth 100000 in
set_option maxHeartbeats 4000000 in
theorem s191l {V : Nat → Nat → Value} {I : Nat → Nat → Int32} {L : Nat → Nat → Int64} {R : Nat → Nat → Option Nat} {tl : am_H} {N A k c n n0 : Nat} (hT : L 78 = tT) (hc : c < 4) (h0 : 1 ≤ n0) (hz : nzP c n0 n) : ∀ (t m K : Nat), m + t = n → t < K → n0 ≤ m → fg_191_71 N K (.ref 89) (.ref A) (.ref 173) (.ref 76) (nI k) (nI c) (nI m) (fx V I L R ++ tl) = fg_191_97 N (.ref 89) (.ref A) (.ref 173) (.ref 76) (nI k) (nI c) (nI n) (fx V I L R ++ tl) := by
  obtain ⟨z1, z2, z3, z4⟩ := hz
  intro t
  induction t with
  | zero =>
    intro m K hm hK h
    obtain ⟨K, rfl⟩ : ∃ k, K = k + 1 := ⟨K - 1, by omega⟩
    obtain rfl : m = n := by omega
    have hu := (u_c (n := m) (c := c) (by omega) z2 (by omega)).2
    rw [fg_191_71]
    by_cases q : 12 ≤ m
    · exact ev_t (nI_le (a := 12) q (by omega)) rfl
    · exact ev_f (nI_ge (b := 12) (by omega) (by omega)) (ev_i rfl (ev_cL (y_15 hT (by omega) (by omega) z2) (ev_t (fun e => z3 ((lN_cz (by omega)).mp e)) rfl)))
  | succ t ih =>
    intro m K hm hK h
    obtain ⟨K, rfl⟩ : ∃ k, K = k + 1 := ⟨K - 1, by omega⟩
    rw [fg_191_71]
    refine ev_f (nI_ge (b := 12) (by omega) (by omega)) (ev_i rfl (ev_cL (y_15 hT (by omega) (by omega) (by omega)) (ev_f (fun e => e ((lN_cz (by rw [z4 m (by omega) h]; decide)).mpr (z4 m (by omega) h))) ?_)))
    rw [nI_1]
    exact ih (m + 1) K (by omega) (by omega) (by omega)
theorem sL_sl {P : xT} {k : Nat} (hk : k < P.length) : sL (sl P) k = xS P k := by
  unfold sL sl
  rw [List.getD_eq_getElem?_getD, List.getElem?_map, xS_at hk]
  rfl
set_option maxRecDepth 100000 in
set_option maxHeartbeats 4000000 in
theorem s191f {V : Nat → Nat → Value} {I : Nat → Nat → Int32} {L : Nat → Nat → Int64} {R : Nat → Nat → Option Nat} {tl : am_H} {N A it k c n n0 r tr fl : Nat} {P : xT} {sd : Int64} (hN : 100 < N) (hw : wt V) (hs : srcP V I tl A it 0 0 P) (hA : 200 < A) (hi : 200 < it) (ho : okP P) (hgd : gdP 0 0 (tI P)) (h7 : L 77 = tW) (hT : L 78 = tT) (hsd : V 173 0 = .long sd) (p1 : 1 ≤ P.length) (ek : k = hlf (nxt sd) % P.length) (etr : tr = truN (xS P k)) (efl : fl = inL (sl P) k) (ec : c = 2 * fl + tr) (en : n0 = 1 + hlf (nxt (nxt sd)) % 4) (hz : nzP c n0 n) (er : r = (2147483648 * hlf (nxt (nxt (nxt sd))) + hlf (nxt (nxt (nxt (nxt sd))))) % uT c n) : ∃ W J, fm_191 N (.ref 89) (.ref A) (.ref 173) (.ref 76) (fx V I L R ++ tl) = some (.inl (none, fx W J L R ++ tl)) ∧ holdE W J 90 0 0 (if sndB 0 (tI (P.take k ++ (unX c n r ++ P.drop (xE P k)))) = true then tI (P.take k ++ (unX c n r ++ P.drop (xE P k))) else tI P) ∧ frIs V W I J := by
  obtain ⟨-, -, -, -, l60⟩ := src_ok (L := L) (R := R) hs
  have hk : k < P.length := by rw [ek]; exact Nat.mod_lt _ (by omega)
  have x20 := okP_20 ho hk
  have tr1 : tr ≤ 1 := by rw [etr]; unfold truN; split <;> omega
  have fl1 : fl ≤ 1 := by rw [efl]; exact in_le1 _ _
  have c4 : c < 4 := by omega
  have n0b : 1 ≤ n0 ∧ n0 ≤ 4 := by
    have := Nat.mod_lt (hlf (nxt (nxt sd))) (show 0 < 4 by decide)
    omega
  have n1 : 1 ≤ n := by have := hz.1; omega
  have n12 := hz.2.1
  have hu := (u_c (n := n) (c := c) n1 n12 (by omega)).2
  have u1 : 1 ≤ uT c n := Nat.pos_of_ne_zero hz.2.2.1
  have hr : r < uT c n := by rw [er]; exact Nat.mod_lt _ (by omega)
  obtain ⟨g1, g2, g3, g4⟩ := unX_ok (tr := tr) (fl := fl) n1 n12 c4 hr (by omega) (by omega)
  obtain ⟨G, eG⟩ : ∃ G, G = unX c n r := ⟨_, rfl⟩
  rw [← eG] at g1 g2 g3 g4
  rw [← eG]
  -- the shape of the parent
  obtain ⟨V1, eV1⟩ : ∃ X, X = vup V 89 5 (.ref A) := ⟨_, rfl⟩
  have hs1 : srcP V1 I tl A it 0 0 P := srcP_c (fun j => by rw [eV1]; exact vup_na (by omega)) rfl hs
  obtain ⟨J2, e2, sh2, f2, jy2⟩ := sh_94 (V := V1) (I := I) (L := L) (R := R) (tl := tl) (N := N) hN (by omega) (by omega) hs1 ho
  obtain ⟨V2, eV2⟩ : ∃ X, X = vup V1 94 7 (.int (nI P.length)) := ⟨_, rfl⟩
  rw [← eV2] at e2 sh2 f2
  have hsd2 : V2 173 0 = .long sd := by rw [eV2, eV1]; exact hsd
  have shk := sh2.2 k (by rw [sl_len]; exact hk)
  -- the draws
  have d1 := y_192 (V := V2) (I := J2) (L := L) (R := R) (tl := tl) (k := P.length) hsd2 p1 (by omega)
  rw [← ek] at d1
  obtain ⟨V3, eV3⟩ : ∃ X, X = vup V2 173 0 (.long (nxt sd)) := ⟨_, rfl⟩
  rw [← eV3] at d1
  have hs3 : srcP V3 J2 tl A it 0 0 P := srcP_c (fun j => by rw [eV3, eV2]; exact (vup_na (by omega)).trans (vup_na (by omega))) (jy2 it (by omega)) hs1
  have hs2 : srcP V2 J2 tl A it 0 0 P := srcP_c (fun j => by rw [eV2]; exact vup_na (by omega)) (jy2 it (by omega)) hs1
  obtain ⟨o21, o22, -, -, -⟩ := src_ok (L := L) (R := R) hs2
  obtain ⟨o31, -, -, -, -⟩ := src_ok (L := L) (R := R) hs3
  obtain ⟨gs, -⟩ := src_get (L := L) (R := R) hs3 hk
  have d2 := y_192 (V := V3) (I := J2) (L := L) (R := R) (tl := tl) (k := 4) (st := nxt sd) (by rw [eV3]; exact vup_eq) (by omega) (by omega)
  obtain ⟨V4, eV4⟩ : ∃ X, X = vup V2 173 0 (.long (nxt (nxt sd))) := ⟨_, rfl⟩
  rw [show vup V3 173 0 (.long (nxt (nxt sd))) = V4 by rw [eV3, eV4, vup_2]] at d2
  have d3 := y_194 (V := V4) (I := J2) (L := L) (R := R) (tl := tl) (T := uT c n) (st := nxt (nxt sd)) (by rw [eV4]; exact vup_eq) u1 hu
  rw [← er] at d3
  obtain ⟨V5, eV5⟩ : ∃ X, X = vup V2 173 0 (.long (nxt (nxt (nxt (nxt sd))))) := ⟨_, rfl⟩
  rw [show vup V4 173 0 (.long (nxt (nxt (nxt (nxt sd))))) = V5 by rw [eV4, eV5, vup_2]] at d3
  -- the part
  have e91 := x_91p (V := V5) (I := J2) (L := L) (R := R) (tl := tl) (N := N) (c := c) (n := n) (P := r) (by omega) h7 hT (by omega) n1 n12 hr
  obtain ⟨V6, eV6⟩ : ∃ X, X = vup (vup (vup (vup (vup (vup V5 76 3 (.ref 92)) 92 1 (.int 0)) 92 2 (.int 0)) 92 3 (.int 0)) 92 4 (.int 2)) 92 3 (.int (nI n)) := ⟨_, rfl⟩
  obtain ⟨J3, eJ3⟩ : ∃ X, X = iup J2 93 (wrt (J2 93) 0 (un c n r)) := ⟨_, rfl⟩
  rw [← eV6, ← eJ3] at e91
  have w2 : wt V2 := f2.2.2 (by rw [eV1]; exact wt_o (by decide) (by decide) hw)
  have w5 : wt V5 := by rw [eV5]; exact wt_lg w2 (by decide)
  have w6 : wt V6 := by
    rw [eV6]
    exact wt_i (wt_i (wt_i (wt_i (wt_i (wt_o (by decide) (by decide) w5) (by decide)) (by decide)) (by decide)) (by decide)) (by decide)
  have hd92 : hold V6 J3 92 0 0 G := ⟨by rw [eV6]; rfl, by rw [eV6]; rfl, by rw [eV6, g1]; rfl, by rw [eV6]; rfl, by rw [eJ3, eG]; show tO (iup J2 93 _ 93) _; rw [iup_eq]; exact unX_tO⟩
  obtain ⟨m0, f, q1, q2, q3, q4, -, -, -⟩ := srcP_92 (L := L) (R := R) (tl := tl) w6 hd92 (by omega) (by omega) (by rw [g1]; omega)
  have lG : (sl G).length = G.length := sl_len
  obtain ⟨J4, t4, jy4, e4⟩ := c_76W (V := V6) (I := J3) (L := L) (R := R) (tl := tl) (N := N) (a := 92) (it := 93) (c0 := (tr, 1, fl)) (l := sl G) (ln := 0) (m0 := m0) (f := f) hN (by rw [lG]; exact q1) (by decide) (by decide) (by rw [lG]; exact q3) q4 g3 (by rw [lG, g1]; omega) (fun j x rr hd => by
    have jl : j < G.length := by have := drop_lt hd; rw [lG] at this; exact this
    have ha := xS_at jl
    have hx : x = (xS G j, 0) := by
      have e : (sl G)[j]? = some x := by
        have e0 : ((sl G).drop j)[0]? = some x := by rw [hd]; rfl
        rw [List.getElem?_drop, Nat.add_zero] at e0
        exact e0
      unfold sl at e
      rw [List.getElem?_map, ha] at e
      exact (Option.some.inj e).symm
    rw [hx]
    exact ⟨(q2 j _ ha).1, (g4 _ (List.mem_of_getElem? ha)).1⟩)
  rw [lG, g1] at e4
  obtain ⟨V7, eV7⟩ : ∃ X, X = vup V6 102 7 (.int (nI n)) := ⟨_, rfl⟩
  rw [← eV7] at e4
  obtain ⟨tall, etl⟩ : ∃ t, t = tlG (tr, 1, fl) (sl G) 0 := ⟨_, rfl⟩
  rw [← etl] at t4
  obtain ⟨V8, eV8⟩ : ∃ X, X = vG V7 92 0 n := ⟨_, rfl⟩
  have c8 := c168 (V := V7) (I := J4) (L := L) (R := R) (tl := tl) (g := 92) (i := 0) (j := n)
  rw [← eV8] at c8
  have jk4 : ∀ y, 94 ≤ y → y ≤ 101 → J4 y = J2 y := fun y h1 h2 => by rw [jy4 y (by omega), eJ3, iup_na (by omega)]
  have sh8 : shT V8 J4 94 P := by
    refine ⟨?_, fun j hj => ?_⟩
    · have h := sh2.1
      rw [eV8, eV7, eV6, eV5]
      exact h
    · obtain ⟨a1, a2, a3, a4, a5, a6⟩ := sh2.2 j hj
      refine ⟨?_, ?_, ?_, ?_, ?_, ?_⟩
      · rw [jk4 _ (by omega) (by omega)]; exact a1
      · rw [jk4 _ (by omega) (by omega)]; exact a2
      · rw [jk4 _ (by omega) (by omega)]; exact a3
      · rw [jk4 _ (by omega) (by omega)]; exact a4
      · rw [jk4 _ (by omega) (by omega)]; exact a5
      · rw [jk4 _ (by omega) (by omega)]; exact a6
  have vA : ∀ a j, 200 < a → V8 a j = V a j := fun a j ha => by
    rw [eV8]
    unfold vG
    rw [vup_na (by omega), vup_na (by omega), vup_na (by omega), eV7, vup_na (by omega), eV6, vup_na (by omega), vup_na (by omega), vup_na (by omega), vup_na (by omega), vup_na (by omega), vup_na (by omega), eV5, vup_na (by omega), eV2, vup_na (by omega), eV1, vup_na (by omega)]
  have jA : ∀ y, y < 89 ∨ 117 < y → J4 y = I y := fun y hy => by rw [jy4 y (by omega), eJ3, iup_na (by omega), jy2 y (by omega)]
  have hs8 : srcP V8 J4 tl A it 0 0 P := srcP_c (fun j => vA A j hA) (jA it (by omega)) hs
  have hg8 : srcP V8 J4 tl 92 93 0 0 G := by
    refine srcP_92 (L := L) (R := R) (tl := tl) ?_ (hold_c (V := V6) (I := J3) (fun j => ?_) (jy4 93 (by omega)) hd92) (by omega) (by omega) (by rw [g1]; omega)
    · rw [eV8]
      unfold vG
      exact wt_i (wt_i (wt_o (by decide) (by decide) (by rw [eV7]; exact wt_i w6 (by decide))) (by decide)) (by decide)
    · rw [eV8]
      unfold vG
      rw [vup_na (by decide), vup_na (by decide), vup_na (by decide), eV7, vup_na (by decide)]
  have k8 : keep V V8 I J4 := by
    refine kpI ?_ jA
    have kA : keep V V2 I I := by
      rw [eV2, eV1]
      exact keep_t (kpO (by decide) (by decide) (by decide)) (keep_v (by decide) (by decide))
    have kB : keep V2 V5 I I := by rw [eV5]; exact keep_lg (by decide) (by decide)
    have kC : keep V5 V6 I I := by
      rw [eV6]
      exact keep_t (kpO (by decide) (by decide) (by decide)) (keep_t (keep_v (by decide) (by decide)) (keep_t (keep_v (by decide) (by decide)) (keep_t (keep_v (by decide) (by decide)) (keep_t (keep_v (by decide) (by decide)) (keep_v (by decide) (by decide))))))
    have kD : keep V6 V8 I I := by
      rw [eV8, eV7]
      unfold vG
      exact keep_t (keep_v (by decide) (by decide)) (keep_t (kpO (by decide) (by decide) (by decide)) (keep_t (keep_v (by decide) (by decide)) (keep_v (by decide) (by decide))))
    exact keep_t kA (keep_t kB (keep_t kC kD))
  have i8 : frIs V V8 I J4 := ⟨fun a j ha h3 => by
    rw [eV8]
    unfold vG
    rw [vup_na (by omega), vup_na (by omega), vup_na (by omega), eV7, vup_na (by omega), eV6, vup_na (by omega), vup_na (by omega), vup_na (by omega), vup_na (by omega), vup_na (by omega), vup_na (by omega), eV5, vup_na (by omega), eV2, vup_na (by omega), eV1, vup_na (by omega)], fun y hy => jA y (by omega), k8.2.2⟩
  obtain ⟨W9, J9, b, e9, b1, b2, f9⟩ := s169W (V := V8) (I := J4) (L := L) (R := R) (tl := tl) (A := A) (it := it) (g := 92) (ig := 93) (k := k) (i := 0) (j := n) (P := P) (G := G) (by rw [eV8, eV7, eV6, eV5, eV2, eV1]; rfl) hs8 (by omega) (by omega) sh8 (by rw [eV8]; rfl) (by rw [eV8]; rfl) (by rw [eV8]; rfl) hg8 (by decide) (by decide) hk (by omega) (by rw [g1]; exact Nat.le_refl _)
  have seg0 : seg G 0 n = G := by rw [seg_0, ← g1, List.take_length]
  rw [seg0] at b2
  have k9 : frIs V W9 I J9 := frIs_t i8 (frIs_Cg ⟨fun a j h => f9.1 a j (by omega), fun y h => f9.2.1 y (by omega), f9.2.2⟩)
  -- when it is sound
  have cx : cxK (sl P) k = (tr, dpL (sl P) k, fl) := by
    have t := (nd_at ho hk).2.1
    rw [etr, t, efl]
    rfl
  have dp1 : 1 ≤ dpL (sl P) k := (cxK_f1 ho.1 (by rw [sl_len]; exact hk)).2
  have dp12 : dpL (sl P) k ≤ 12 := (nd_at ho hk).2.2.1
  have tl13 : tall ≤ 13 := by
    rw [etl]
    unfold tlG
    have := mx_bG g3 (by rw [lG, g1]; omega) (k := 0) (m := tk 1 ((sl G).drop 0)) (tk_1le (by omega))
    omega
  have snd := snd_rp (P := P) (m := G) ho hk (fun x hx => (g4 x hx).1) g2
  rw [cx, fitG g3 dp1, ← etl, g1] at snd
  obtain ⟨X, eX⟩ : ∃ X, X = P.take k ++ (G ++ P.drop (xE P k)) := ⟨_, rfl⟩
  rw [← eX] at b2 snd
  rw [← eX]
  -- up to the test
  have pre : ∀ o, (if 12 < nI (dpL (sl P) k - 1 + tall) then (fg_191_185 N (.ref 89) (.ref A) (fx V8 J4 L R ++ tl)) else (if am_pOk 0 (.ref 89) (fx V8 J4 L R ++ tl) then am_cI true (fm_169 (.ref 89) (nI k) (fx V8 J4 L R ++ tl)) (fun v47 h48 => (if ¬ v47 = 0 then (fg_191_193 N h48) else (fg_191_185 N (.ref 89) (.ref A) h48))) else none)) = o → fm_191 N (.ref 89) (.ref A) (.ref 173) (.ref 76) (fx V I L R ++ tl) = o := fun o k_ => by
    have t97 : fg_191_97 N (.ref 89) (.ref A) (.ref 173) (.ref 76) (nI k) (nI c) (nI n) (fx V4 J2 L R ++ tl) = o := by
      apply hd_191_97
      refine ev_i rfl (ev_cL (y_15 hT (by omega) n1 n12) (ev_i rfl (ev_cL d3 (ev_b (rdR rfl) (ev_i rfl (ev_cV e91 (ev_b (rdR rfl) (ev_b (rdR rfl) (ev_i rfl (ev_cV e4 (ev_b (rdR rfl) (ev_b (rdR rfl) (ev_b (a := nI n) (by rw [eV7, eV6]; rfl) (ev_i rfl (ev_cI c8 (ev_b (rdR rfl) (ev_b (rdR rfl) (ev_b (a := nI (dpL (sl P) k)) ((qa_96 (by omega)).trans (by rw [jk4 96 (by omega) (by omega)]; exact congrArg some shk.2.1)) (ev_b (rdR rfl) (ev_b (rdR rfl) (ev_b (a := nI tall) ((qa_105 (k := 0) (by omega)).trans (by rw [t4])) ?_)))))))))))))))))))))
      rw [show nI (dpL (sl P) k) - 1 = nI (dpL (sl P) k - 1) from nI_sub (b := 1) dp1, nI_add]
      exact k_
    have t71 : fg_191_59 N (.ref 89) (.ref A) (.ref 173) (.ref 76) (nI k) (nI (2 * fl)) (nI tr) (fx V3 J2 L R ++ tl) = o := by
      apply hd_191_59
      refine ev_i rfl (ev_cI d2 ?_)
      rw [nI_add, show (1 : Int32) + nI (hlf (nxt (nxt sd)) % 4) = nI n0 by rw [show (1 : Int32) = nI 1 from rfl, nI_add, en], ← ec]
      exact (s191l (V := V4) (I := J2) (L := L) (R := R) (tl := tl) hT c4 n0b.1 hz (n - n0) n0 N (by have := hz.1; omega) (by omega) (Nat.le_refl _)).trans t97
    have t41 : fg_191_41 N (.ref 89) (.ref A) (.ref 173) (.ref 76) (nI k) (nI (2 * fl)) (fx V3 J2 L R ++ tl) = o := by
      apply hd_191_41
      refine ev_i o31 (ev_cI gs (ev_cI (p11 (by omega) _) ?_))
      rw [← etr]
      rcases (by omega : tr = 0 ∨ tr = 1) with h | h
      · rw [h] at t71 ⊢
        exact ev_t rfl t71
      · rw [h] at t71 ⊢
        exact ev_f (by decide) t71
    apply hm_191
    apply hd_191_0
    refine ev_b (a := fx V1 I L R ++ tl) (by rw [eV1]; exact qp_89_5) (ev_b (rdR rfl) (ev_i rfl (ev_cV e2 (ev_b o22 (ev_i rfl (ev_cI d1 (ev_b (rdR rfl) (ev_b (rdR rfl) (ev_b (a := nI fl) ((qa_98 (by omega)).trans (by rw [efl]; exact congrArg some shk.2.2.2.1)) ?_)))))))))
    rcases (by omega : fl = 0 ∨ fl = 1) with h | h
    · rw [h] at t41 ⊢
      exact ev_t rfl t41
    · rw [h] at t41 ⊢
      exact ev_f (by decide) t41
  have copy : ∀ (W : Nat → Nat → Value) (J : Nat → Nat → Int32), srcP W J tl A it 0 0 P → ∃ W2 J2, fg_191_185 N (.ref 89) (.ref A) (fx W J L R ++ tl) = some (.inl (none, fx W2 J2 L R ++ tl)) ∧ holdE W2 J2 90 0 0 (tI P) ∧ fr1 90 W W2 J J2 := fun W J h => by
    obtain ⟨W2, J2, x1, x2, x3⟩ := p60E_90 (V := W) (I := J) (L := L) (R := R) (tl := tl) (by omega) hgd (srcP_E h)
    exact ⟨W2, J2, hd_191_185 (ev_b (rdR rfl) (ev_i rfl (ev_cV x1 rfl))), x2, x3⟩
  have f1k : ∀ (W W2 : Nat → Nat → Value) (J J2 : Nat → Nat → Int32), fr1 90 W W2 J J2 → frIs W W2 J J2 := fun W W2 J J2 f => frIs_Cg ⟨fun a j h => f.1 a j (by omega), fun y h => f.2.1 y (by omega), f.2.2⟩
  by_cases t12 : dpL (sl P) k - 1 + tall ≤ 12
  case neg =>
    obtain ⟨W2, J2', x1, x2, x3⟩ := copy V8 J4 hs8
    rw [if_neg (fun q => t12 (snd.mp q).2)]
    exact ⟨W2, J2', pre _ (ev_t (nI_lt (a := 12) (by omega) (by omega)) x1), x2, frIs_t i8 (f1k _ _ _ _ x3)⟩
  cases b with
  | true =>
    rw [if_pos (snd.mpr ⟨b1.mp rfl, t12⟩)]
    exact ⟨W9, J9, pre _ (ev_f (nI_nlt (a := 12) t12 (by omega)) (ev_i rfl (ev_cI e9 (ev_t (by decide) rfl)))), (hold_E (by decide)).mp (b2 rfl), k9⟩
  | false =>
    obtain ⟨W2, J2', x1, x2, x3⟩ := copy W9 J9 (srcP_f f9 (by omega) (by omega) hs8)
    rw [if_neg (fun q => Bool.noConfusion (b1.mpr (snd.mp q).1))]
    exact ⟨W2, J2', pre _ (ev_f (nI_nlt (a := 12) t12 (by omega)) (ev_i rfl (ev_cI e9 (ev_f (fun q => q rfl) x1)))), x2, frIs_t k9 (f1k _ _ _ _ x3)⟩
theorem s191 {V : Nat → Nat → Value} {I : Nat → Nat → Int32} {L : Nat → Nat → Int64} {R : Nat → Nat → Option Nat} {tl : am_H} {N A it k c n n0 r tr fl : Nat} {P : xT} {sd : Int64} (hN : 100 < N) (hw : wt V) (hs : srcP V I tl A it 0 0 P) (hA : 200 < A) (hi : 200 < it) (ho : okP P) (hgd : gdP 0 0 (tI P)) (h7 : L 77 = tW) (hT : L 78 = tT) (hsd : V 173 0 = .long sd) (p1 : 1 ≤ P.length) (ek : k = hlf (nxt sd) % P.length) (etr : tr = truN (xS P k)) (efl : fl = inL (sl P) k) (ec : c = 2 * fl + tr) (en : n0 = 1 + hlf (nxt (nxt sd)) % 4) (hz : nzP c n0 n) (er : r = (2147483648 * hlf (nxt (nxt (nxt sd))) + hlf (nxt (nxt (nxt (nxt sd))))) % uT c n) : ∃ W J, fm_191 N (.ref 89) (.ref A) (.ref 173) (.ref 76) (fx V I L R ++ tl) = some (.inl (none, fx W J L R ++ tl)) ∧ holdE W J 90 0 0 (if sndB 0 (tI (P.take k ++ (unX c n r ++ P.drop (xE P k)))) = true then tI (P.take k ++ (unX c n r ++ P.drop (xE P k))) else tI P) ∧ keep V W I J := by
  obtain ⟨W, J, e, h, f⟩ := s191f (R := R) hN hw hs hA hi ho hgd h7 hT hsd p1 ek etr efl ec en hz er
  exact ⟨W, J, e, h, keep_I f⟩
