/-! ===== read: nets, both sides ===== -/
theorem hd_46_105 {N : Nat} {h : am_H} {r_ : Option am_O} (k_ : some (.inl (none, h)) = r_) : fg_46_105 N h = r_ := k_
theorem hd_46_71 {N : Nat} {rec_26 : Value → Int32 → Int32 → am_H → Option am_O} {x0 : Value} {x1 : Int32} {x2 : Int32} {h : am_H} {r_ : Option am_O} (k_ : (if am_pOk 9 x0 h then am_cI true (fm_47 x0 0 ((x1 - 1)) h) (fun v2 h3 => ((am_vR (am_pG 2308 x0 h3)).bind fun v5 => (if am_pOk 9 x0 h3 then am_cI true (fm_47 x0 ((v2 + 1)) ((x1 - 1)) h3) (fun v8 h9 => (if am_pOk 3 v5 h9 then am_cI true (fm_41 N v5 v2 v8 h9) (fun v12 h13 => (rec_26 x0 x1 ((x2 + 1)) h13)) else none)) else none))) else none) = r_) : fg_46_71 N rec_26 x0 x1 x2 h = r_ := k_
theorem hd_46_61 {N : Nat} {rec_26 : Value → Int32 → Int32 → am_H → Option am_O} {x0 : Value} {x1 : Int32} {x2 : Int32} {h : am_H} {r_ : Option am_O} (k_ : (if ¬ x2 = 40 then (fg_46_71 N rec_26 x0 x1 x2 h) else (if am_pOk 9 x0 h then am_cV true (fm_39 x0 h) (fun h4 => (fg_46_71 N rec_26 x0 x1 x2 h4)) else none)) = r_) : fg_46_61 N rec_26 x0 x1 x2 h = r_ := k_
theorem hd_46_26 {N : Nat} {K : Nat} {x0 : Value} {x1 : Int32} {x2 : Int32} {h : am_H} {r_ : Option am_O} (k_ : (if 40 < x2 then (fg_46_105 N h) else ((am_vI (am_pG 2307 x0 h)).bind fun v2 => (if 0 ≤ v2 then (fg_46_105 N h) else ((am_vI (am_pG 2306 x0 h)).bind fun v5 => ((am_vI (am_pG 2305 x0 h)).bind fun v7 => (if v7 ≤ v5 then (fg_46_105 N h) else (if x2 ≤ 0 then (fg_46_61 N (fg_46_26 N K) x0 x1 x2 h) else (if am_pOk 9 x0 h then am_cI true (fm_42 x0 44 h) (fun v12 h13 => (fg_46_61 N (fg_46_26 N K) x0 x1 x2 h13)) else none)))))))) = r_) : fg_46_26 N (K + 1) x0 x1 x2 h = r_ := by rw [fg_46_26]; exact k_
theorem hd_46_0 {N : Nat} {x0 : Value} {h : am_H} {r_ : Option am_O} (k_ : (if am_pOk 9 x0 h then am_cI true (fm_47 x0 2 8 h) (fun v2 h3 => ((am_vR (am_pG 2308 x0 h3)).bind fun v5 => (if am_pOk 3 v5 h3 then am_cV true (fm_34 v5 3 v2 h3) (fun h9 => (if am_pOk 9 x0 h9 then am_cI true (fm_42 x0 58 h9) (fun v12 h13 => (fg_46_26 N N x0 v2 0 h13)) else none)) else none))) else none) = r_) : fg_46_0 N x0 h = r_ := k_
theorem hm_46 {N : Nat} {y0 : Value} {h : am_H} {r_ : Option am_O} (k_ : fg_46_0 N y0 h = r_) : fm_46 N y0 h = r_ := k_
theorem hd_354_157 {N : Nat} {h : am_H} {r_ : Option am_O} (k_ : some (.inl (none, h)) = r_) : fg_354_157 N h = r_ := k_
theorem hd_354_153 {N : Nat} {rec_98 : Value → Int32 → am_H → Option am_O} {x0 : Value} {s0 : Int32} {h : am_H} {r_ : Option am_O} (k_ : (rec_98 x0 s0 h) = r_) : fg_354_153 N rec_98 x0 s0 h = r_ := k_
theorem hd_354_152 {N : Nat} {rec_98 : Value → Int32 → am_H → Option am_O} {x0 : Value} {h : am_H} {r_ : Option am_O} (k_ : (fg_354_153 N rec_98 x0 0 h) = r_) : fg_354_152 N rec_98 x0 h = r_ := k_
theorem hd_354_137 {N : Nat} {rec_98 : Value → Int32 → am_H → Option am_O} {x0 : Value} {x1 : Int32} {h : am_H} {r_ : Option am_O} (k_ : (if x1 = 0 then (fg_354_152 N rec_98 x0 h) else ((am_vI (am_pG 3142 x0 h)).bind fun v2 => (if 0 ≤ v2 then (fg_354_152 N rec_98 x0 h) else (fg_354_153 N rec_98 x0 1 h)))) = r_) : fg_354_137 N rec_98 x0 x1 h = r_ := k_
theorem hd_354_125 {N : Nat} {rec_98 : Value → Int32 → am_H → Option am_O} {x0 : Value} {s0 : Int32} {h : am_H} {r_ : Option am_O} (k_ : (if s0 = 0 then (fg_354_137 N rec_98 x0 s0 h) else (if am_pOk 12 x0 h then am_cI true (fm_336 x0 44 h) (fun v3 h4 => (fg_354_137 N rec_98 x0 s0 h4)) else none)) = r_) : fg_354_125 N rec_98 x0 s0 h = r_ := k_
theorem hd_354_98 {N : Nat} {K : Nat} {x0 : Value} {x1 : Int32} {h : am_H} {r_ : Option am_O} (k_ : (if x1 = 0 then (fg_354_157 N h) else (if am_pOk 12 x0 h then am_cI true (fm_355 x0 h) (fun v3 h4 => (if v3 = 0 then (fg_354_157 N h4) else ((am_vI (am_pG 3141 x0 h4)).bind fun v7 => ((am_vI (am_pG 3140 x0 h4)).bind fun v9 => (if v9 ≤ v7 then (fg_354_125 N (fg_354_98 N K) x0 0 h4) else (fg_354_125 N (fg_354_98 N K) x0 1 h4)))))) else none)) = r_) : fg_354_98 N (K + 1) x0 x1 h = r_ := by rw [fg_354_98]; exact k_
theorem hd_354_97 {N : Nat} {x0 : Value} {s0 : Int32} {h : am_H} {r_ : Option am_O} (k_ : (fg_354_98 N N x0 s0 h) = r_) : fg_354_97 N x0 s0 h = r_ := k_
theorem hd_354_96 {N : Nat} {x0 : Value} {h : am_H} {r_ : Option am_O} (k_ : (fg_354_97 N x0 0 h) = r_) : fg_354_96 N x0 h = r_ := k_
theorem hd_354_36 {N : Nat} {x0 : Value} {h : am_H} {r_ : Option am_O} (k_ : ((am_vI (am_pG 3141 x0 h)).bind fun v1 => (if am_pOk 12 x0 h then am_cI true (fm_331 x0 v1 h) (fun v4 h5 => some (.inl (none, h5))) else none)) = r_) : fg_354_36 N x0 h = r_ := k_
theorem hd_354_0 {N : Nat} {x0 : Value} {h : am_H} {r_ : Option am_O} (k_ : ((am_vI (am_pG 3141 x0 h)).bind fun v1 => (if am_pOk 12 x0 h then am_cI true (fm_339 x0 v1 h) (fun v4 h5 => (if v4 = 0 then (fg_354_36 N x0 h5) else ((am_vR (am_pG 3139 x0 h5)).bind fun v8 => ((am_vI (am_pG 3141 x0 h5)).bind fun v10 => ((am_pA 0 v8 v10 h5).bind fun v12 => am_cI false (fm_327 ((Int32.toInt64 (v12 - 48))) 2 8 h5) (fun v14 h15 => (if ¬ v14 = 0 then ((am_vR (am_pG 3139 x0 h15)).bind fun v18 => ((am_vI (am_pG 3141 x0 h15)).bind fun v20 => ((am_pA 0 v18 v20 h15).bind fun v22 => ((am_pP 3087 x0 (.int (v22 - 48)) h15).bind fun h24 => ((am_vI (am_pG 3141 x0 h24)).bind fun v26 => ((am_pP 3141 x0 (.int (v26 + 1)) h24).bind fun h28 => (if am_pOk 12 x0 h28 then am_cI true (fm_336 x0 58 h28) (fun v31 h32 => (if v31 = 0 then (fg_354_96 N x0 h32) else ((am_vI (am_pG 3141 x0 h32)).bind fun v35 => ((am_vI (am_pG 3140 x0 h32)).bind fun v37 => (if v37 ≤ v35 then (fg_354_96 N x0 h32) else (fg_354_97 N x0 1 h32)))))) else none))))))) else (fg_354_36 N x0 h15)))))))) else none)) = r_) : fg_354_0 N x0 h = r_ := k_
theorem hm_354 {N : Nat} {y0 : Value} {h : am_H} {r_ : Option am_O} (k_ : fg_354_0 N y0 h = r_) : fm_354 N y0 h = r_ := k_
theorem hd_355_126 {x0 : Value} {h : am_H} {r_ : Option am_O} (k_ : ((am_vI (am_pG 3141 x0 h)).bind fun v1 => (if am_pOk 12 x0 h then am_cI true (fm_331 x0 v1 h) (fun v4 h5 => (if am_rfit (some FieldType.boolean) v4 then some (.inl (some (.int v4), h5)) else none)) else none)) = r_) : fg_355_126 x0 h = r_ := k_
theorem hd_355_48 {x0 : Value} {h : am_H} {r_ : Option am_O} (k_ : ((am_vI (am_pG 3141 x0 h)).bind fun v1 => (if am_pOk 12 x0 h then am_cI true (fm_331 x0 v1 h) (fun v4 h5 => (if am_rfit (some FieldType.boolean) v4 then some (.inl (some (.int v4), h5)) else none)) else none)) = r_) : fg_355_48 x0 h = r_ := k_
theorem hd_355_0 {x0 : Value} {h : am_H} {r_ : Option am_O} (k_ : ((am_vI (am_pG 3086 x0 h)).bind fun v1 => (if ¬ v1 = 40 then ((am_vI (am_pG 3141 x0 h)).bind fun v4 => (if am_pOk 12 x0 h then am_cI true (fm_339 x0 v4 h) (fun v7 h8 => (if v7 = 0 then (fg_355_48 x0 h8) else ((am_vR (am_pG 3139 x0 h8)).bind fun v11 => ((am_vI (am_pG 3141 x0 h8)).bind fun v13 => ((am_pA 0 v11 v13 h8).bind fun v15 => ((am_vI (am_pG 3087 x0 h8)).bind fun v17 => (if (v15 - 48) < v17 then ((am_vR (am_pG 3139 x0 h8)).bind fun v20 => ((am_vI (am_pG 3141 x0 h8)).bind fun v22 => ((am_pA 0 v20 v22 h8).bind fun v24 => ((am_vI (am_pG 3141 x0 h8)).bind fun v26 => ((am_pP 3141 x0 (.int (v26 + 1)) h8).bind fun h28 => ((am_vI (am_pG 3141 x0 h28)).bind fun v30 => (if am_pOk 12 x0 h28 then am_cI true (fm_339 x0 v30 h28) (fun v33 h34 => (if v33 = 0 then (fg_355_126 x0 h34) else ((am_vR (am_pG 3139 x0 h34)).bind fun v37 => ((am_vI (am_pG 3141 x0 h34)).bind fun v39 => ((am_pA 0 v37 v39 h34).bind fun v41 => ((am_vI (am_pG 3087 x0 h34)).bind fun v43 => (if v43 ≤ (v41 - 48) then (fg_355_126 x0 h34) else ((am_vR (am_pG 3139 x0 h34)).bind fun v46 => ((am_vI (am_pG 3141 x0 h34)).bind fun v48 => ((am_pA 0 v46 v48 h34).bind fun v50 => (if (v24 - 48) < (v50 - 48) then ((am_vR (am_pG 3139 x0 h34)).bind fun v53 => ((am_vI (am_pG 3141 x0 h34)).bind fun v55 => ((am_pA 0 v53 v55 h34).bind fun v57 => (if am_pOk 12 x0 h34 then am_cV true (fm_335 x0 ((v24 - 48)) ((v57 - 48)) h34) (fun h61 => ((am_vI (am_pG 3141 x0 h61)).bind fun v63 => ((am_pP 3141 x0 (.int (v63 + 1)) h61).bind fun h65 => some (.inl (some (.int 1), h65))))) else none)))) else (fg_355_126 x0 h34)))))))))))) else none))))))) else (fg_355_48 x0 h8)))))))) else none)) else ((am_vI (am_pG 3141 x0 h)).bind fun v67 => (if am_pOk 12 x0 h then am_cI true (fm_331 x0 v67 h) (fun v70 h71 => (if am_rfit (some FieldType.boolean) v70 then some (.inl (some (.int v70), h71)) else none)) else none)))) = r_) : fg_355_0 x0 h = r_ := k_
theorem hm_355 {y0 : Value} {h : am_H} {r_ : Option am_O} (k_ : fg_355_0 y0 h = r_) : fm_355 y0 h = r_ := k_

def prT (T : Nat → Nat) (ln p : Nat) : Nat ⊕ (Nat × (Nat × Int32)) := if 48 ≤ T p ∧ T p < 48 + ln then (if T p < T (p + 1) ∧ T (p + 1) < 48 + ln then .inr (p + 2, (T p - 48, nI (T (p + 1) - 48))) else .inl (p + 1)) else .inl p
def ntS (T : Nat → Nat) (m ln : Nat) : Nat → Nat → xT → Nat ⊕ xT
  | 0, p, _ => .inl p
  | f + 1, p, Q => sMt (prT T ln p) (fun q x => if q < m then (if T q = 44 then ntS T m ln f (q + 1) (Q ++ [x]) else .inl q) else .inr (Q ++ [x]))
def netP (T : Nat → Nat) (m : Nat) : Nat ⊕ xT := if 50 ≤ T 0 ∧ T 0 ≤ 56 then (if T 1 = 58 then (if 2 < m then ntS T m (T 0 - 48) 40 2 [] else .inr []) else .inl 1) else .inl 0
def resN (r : Nat ⊕ xT) (W : Nat → Nat → Value) (J : Nat → Nat → Int32) (T : Nat → Nat) (m : Nat) : Prop := match r with
  | .inl e => e ≤ m ∧ ∃ p', p' ≤ m ∧ stC W J T m p' (nI e)
  | .inr P => stC W J T m m (-1) ∧ prC W J (tI P) ∧ P.length ≤ 40
theorem c_46z {V : Nat → Nat → Value} {I : Nat → Nat → Int32} {L : Nat → Nat → Int64} {R : Nat → Nat → Option Nat} {tl : am_H} {T : Nat → Nat} {m p N K k w : Nat} {x1 : Int32} (h : stC V I T m p (nI w)) (hw : w ≤ m) : fg_46_26 N (K + 1) (.ref 2) x1 (nI k) (fx V I L R ++ tl) = some (.inl (none, fx V I L R ++ tl)) := by
  have m240 := h.2.2.2.2.1
  apply hd_46_26
  by_cases c : (40 : Int32) < nI k
  · exact ev_t c (hd_46_105 rfl)
  · exact ev_f c (ev_b (rdI h.2.2.1) (ev_t (nI_pos' (by omega)) (hd_46_105 rfl)))
theorem c_46b {V : Nat → Nat → Value} {I : Nat → Nat → Int32} {L : Nat → Nat → Int64} {R : Nat → Nat → Option Nat} {tl : am_H} {T : Nat → Nat} {m p N K k w : Nat} {x1 : Int32} {Q : xT} (hN : 1 ≤ N) (h : stC V I T m p (nI w)) (hw : w ≤ m) (hp : p ≤ m) (hP : prC V I (tI Q)) (hl : Q.length < 60) : ∃ W J, fg_46_71 N (fg_46_26 N (K + 1)) (.ref 2) x1 (nI k) (fx V I L R ++ tl) = some (.inl (none, fx W J L R ++ tl)) ∧ frCp V W I J ∧ stC W J T m p (nI w) := by
  obtain ⟨W, J, e, f, s, P, -⟩ := c_41p (V := V) (I := I) (L := L) (R := R) (tl := tl) (N := N) hN hP (by rw [tI_len]; exact hl) h 0 0
  refine ⟨W, J, ?_, f, s⟩
  apply hd_46_71
  refine ev_i rfl (ev_cI (c_47b h hw hp) (ev_b (a := Value.ref 167) (rVR qv_2_4 h.2.2.2.1) (ev_i rfl (ev_cI (c_47b h hw hp) (ev_i rfl (ev_cI e ?_))))))
  rw [nI_1]
  exact c_46z s hw
theorem c_46x {V : Nat → Nat → Value} {I : Nat → Nat → Int32} {L : Nat → Nat → Int64} {R : Nat → Nat → Option Nat} {tl : am_H} {T : Nat → Nat} {m p N K k w : Nat} {x1 : Int32} {Q : xT} (hN : 1 ≤ N) (h : stC V I T m p (nI w)) (hw : w ≤ m) (hp : p ≤ m) (hP : prC V I (tI Q)) (hl : Q.length < 60) : ∃ W J, fg_46_61 N (fg_46_26 N (K + 1)) (.ref 2) x1 (nI k) (fx V I L R ++ tl) = some (.inl (none, fx W J L R ++ tl)) ∧ frCp V W I J ∧ stC W J T m p (nI w) := by
  obtain ⟨W, J, e, f, s⟩ := c_46b (K := K) (k := k) (x1 := x1) (L := L) (R := R) (tl := tl) hN h hw hp hP hl
  refine ⟨W, J, ?_, f, s⟩
  apply hd_46_61
  by_cases c : nI k = 40
  · exact ev_f (fun q => q c) (ev_i rfl (ev_cV (c_39b h hw) e))
  · exact ev_t c e
set_option maxRecDepth 100000 in
set_option maxHeartbeats 4000000 in
theorem c_46l {L : Nat → Nat → Int64} {R : Nat → Nat → Option Nat} {tl : am_H} {T : Nat → Nat} {m N : Nat} {ln : Nat} (hN : 3 < N) (l1 : 1 ≤ ln) (l8 : ln ≤ 8) : ∀ (f k K : Nat) (V : Nat → Nat → Value) (I : Nat → Nat → Int32) (p : Nat) (Q : xT), f + k = 40 → Q.length = k → f + 1 < K → p ≤ m → stC V I T m p (-1) → prC V I (tI Q) → ∃ W J, fg_46_61 N (fg_46_26 N K) (.ref 2) (nI ln) (nI k) (fx V I L R ++ tl) = some (.inl (none, fx W J L R ++ tl)) ∧ frCp V W I J ∧ resN (ntS T m ln f p Q) W J T m := by
  intro f
  induction f with
  | zero =>
    intro k K V I p Q hf hQ hK hp h hP
    obtain ⟨K, rfl⟩ : ∃ k, K = k + 1 := ⟨K - 1, by omega⟩
    obtain rfl : k = 40 := by omega
    obtain ⟨W, J, e, f, s⟩ := c_46b (V := vup V 2 3 (.int (nI p))) (I := I) (K := K) (k := 40) (x1 := nI ln) (L := L) (R := R) (tl := tl) (N := N) (Q := Q) (by omega) (stC_w (x := nI p) h) hp hp (prC_f (fun j => vup_na (by decide)) hP) (by omega)
    refine ⟨W, J, ?_, frCp_t (frCp_2 (.inr rfl)) f, hp, p, hp, s⟩
    apply hd_46_61
    exact ev_f (fun q => q rfl) (ev_i rfl (ev_cV (c_39 h) e))
  | succ f ih =>
    intro k K V I p Q hf hQ hK hp h hP
    obtain ⟨K, rfl⟩ : ∃ k, K = k + 1 + 1 := ⟨K - 2, by omega⟩
    have m240 := h.2.2.2.2.1
    have t0 := tq_256 h.2.2.2.2 p
    have t1 := tq_256 h.2.2.2.2 (p + 1)
    have lQ := tI_len (P := Q)
    have el : nI ln - 1 = nI (ln - 1) := nI_sub (b := 1) l1
    have e1 := c_47 (V := V) (I := I) (L := L) (R := R) (tl := tl) (lo := 0) (hi := ln - 1) (by omega) (by omega) h hp
    have go : ∀ o, fg_46_71 N (fg_46_26 N (K + 1 + 1)) (.ref 2) (nI ln) (nI k) (fx V I L R ++ tl) = o → fg_46_61 N (fg_46_26 N (K + 1 + 1)) (.ref 2) (nI ln) (nI k) (fx V I L R ++ tl) = o := fun o k_ => hd_46_61 (ev_t (fun q => by have := (nI_eq (b := 40) (by omega) (by omega)).mp q; omega) k_)
    rw [ntS]
    unfold prT
    by_cases c : 48 ≤ T p ∧ T p < 48 + ln
    · rw [if_pos (show 48 + 0 ≤ T p ∧ T p ≤ 48 + (ln - 1) by omega)] at e1
      rw [if_pos c]
      have pm := tq_m h.2.2.2.2 (p := p) (by omega)
      obtain ⟨V1, eV1⟩ : ∃ X, X = vup V 2 2 (.int (nI (p + 1))) := ⟨_, rfl⟩
      rw [← eV1] at e1
      have s1 : stC V1 I T m (p + 1) (-1) := by rw [eV1]; exact stC_a h
      have f1 : frCp V V1 I I := by rw [eV1]; exact frCp_2 (.inl rfl)
      have P1 : prC V1 I (tI Q) := prC_f (fun j => by rw [eV1]; exact vup_na (by decide)) hP
      have e2 := c_47 (V := V1) (I := I) (L := L) (R := R) (tl := tl) (lo := T p - 48 + 1) (hi := ln - 1) (by omega) (by omega) s1 (by omega)
      have go2 : ∀ (x : Int32) (W W2 : Nat → Nat → Value) (J2 : Nat → Nat → Int32), fm_47 (.ref 2) (nI (T p - 48 + 1)) (nI (ln - 1)) (fx V1 I L R ++ tl) = some (.inl (some (.int x), fx W I L R ++ tl)) → fm_41 N (.ref 167) (nI (T p - 48)) x (fx W I L R ++ tl) = some (.inl (some (.int 1), fx W2 J2 L R ++ tl)) → ∀ o, fg_46_26 N (K + 1 + 1) (.ref 2) (nI ln) (nI (k + 1)) (fx W2 J2 L R ++ tl) = o → fg_46_61 N (fg_46_26 N (K + 1 + 1)) (.ref 2) (nI ln) (nI k) (fx V I L R ++ tl) = o := fun x W W2 J2 ea eb o k_ => by
        refine go _ ?_
        apply hd_46_71
        rw [el]
        refine ev_i rfl (ev_cI e1 (ev_b (a := Value.ref 167) (rVR qv_2_4 s1.2.2.2.1) (ev_i rfl ?_)))
        rw [nI_1]
        refine ev_cI ea (ev_i rfl (ev_cI eb ?_))
        rw [nI_1]
        exact k_
      by_cases d : T p < T (p + 1) ∧ T (p + 1) < 48 + ln
      · rw [if_pos (show 48 + (T p - 48 + 1) ≤ T (p + 1) ∧ T (p + 1) ≤ 48 + (ln - 1) by omega)] at e2
        rw [if_pos d]
        have pm2 := tq_m h.2.2.2.2 (p := p + 1) (by omega)
        obtain ⟨V2, eV2⟩ : ∃ X, X = vup V1 2 2 (.int (nI (p + 1 + 1))) := ⟨_, rfl⟩
        rw [← eV2] at e2
        have s2 : stC V2 I T m (p + 2) (-1) := by rw [eV2]; exact stC_a s1
        have f2 : frCp V1 V2 I I := by rw [eV2]; exact frCp_2 (.inl rfl)
        have P2 : prC V2 I (tI Q) := prC_f (fun j => by rw [eV2]; exact vup_na (by decide)) P1
        obtain ⟨W, J, e3, f3, s3, P3, -⟩ := c_41p (V := V2) (I := I) (L := L) (R := R) (tl := tl) (N := N) (by omega) P2 (by omega) s2 (nI (T p - 48)) (nI (T (p + 1) - 48))
        rw [← tI_ap2 (a := (T p - 48, nI (T (p + 1) - 48)))] at P3
        have l2 : (Q ++ [(T p - 48, nI (T (p + 1) - 48))]).length = k + 1 := by rw [List.length_append, hQ]; rfl
        have nk : ¬ (40 : Int32) < nI (k + 1) := nI_nlt (a := 40) (by omega) (by omega)
        show ∃ W' J', _ ∧ _ ∧ resN (if p + 2 < m then (if T (p + 2) = 44 then ntS T m ln f (p + 2 + 1) (Q ++ [(T p - 48, nI (T (p + 1) - 48))]) else .inl (p + 2)) else .inr (Q ++ [(T p - 48, nI (T (p + 1) - 48))])) W' J' T m
        by_cases c3 : p + 2 < m
        · rw [if_pos c3]
          have e := c_42 (V := W) (I := J) (L := L) (R := R) (tl := tl) (c := 44) (by omega) (x := 44) rfl s3 (by omega)
          have go3 : ∀ (x : Int32) (W2 : Nat → Nat → Value), fm_42 (.ref 2) 44 (fx W J L R ++ tl) = some (.inl (some (.int x), fx W2 J L R ++ tl)) → ∀ o, fg_46_61 N (fg_46_26 N (K + 1)) (.ref 2) (nI ln) (nI (k + 1)) (fx W2 J L R ++ tl) = o → fg_46_26 N (K + 1 + 1) (.ref 2) (nI ln) (nI (k + 1)) (fx W J L R ++ tl) = o := fun x W2 ea o k_ => hd_46_26 (ev_f nk (ev_b (rdI s3.2.2.1) (ev_f (by decide) (ev_b (rdI s3.2.1) (ev_b (rdI s3.1) (ev_f (nI_ge c3 (by omega)) (ev_f (nI_ge (a := 0) (by omega) (by omega)) (ev_i rfl (ev_cI ea k_)))))))))
          by_cases c4 : T (p + 2) = 44
          · rw [if_pos c4] at e ⊢
            obtain ⟨W', J', e4, f4, r4⟩ := ih (k + 1) (K + 1) (vup W 2 2 (.int (nI (p + 2 + 1)))) J (p + 2 + 1) (Q ++ [(T p - 48, nI (T (p + 1) - 48))]) (by omega) l2 (by omega) (by omega) (stC_a s3) (prC_f (fun j => vup_na (by decide)) P3)
            exact ⟨W', J', go2 _ _ _ _ e2 e3 _ (go3 _ _ e _ e4), frCp_t f1 (frCp_t f2 (frCp_t f3 (frCp_t (frCp_2 (.inl rfl)) f4))), r4⟩
          · rw [if_neg c4] at e ⊢
            obtain ⟨W', J', e4, f4, s4⟩ := c_46x (V := vup W 2 3 (.int (nI (p + 2)))) (I := J) (K := K) (k := k + 1) (x1 := nI ln) (L := L) (R := R) (tl := tl) (N := N) (by omega) (stC_w (x := nI (p + 2)) s3) (by omega) (by omega) (prC_f (fun j => vup_na (by decide)) P3) (by omega)
            exact ⟨W', J', go2 _ _ _ _ e2 e3 _ (go3 _ _ e _ e4), frCp_t f1 (frCp_t f2 (frCp_t f3 (frCp_t (frCp_2 (.inr rfl)) f4))), by omega, p + 2, by omega, s4⟩
        · rw [if_neg c3]
          have em : p + 2 = m := by omega
          refine ⟨W, J, go2 _ _ _ _ e2 e3 _ (hd_46_26 (ev_f nk (ev_b (rdI s3.2.2.1) (ev_f (by decide) (ev_b (rdI s3.2.1) (ev_b (rdI s3.1) (ev_t (nI_le (by omega) (by omega)) (hd_46_105 rfl)))))))), frCp_t f1 (frCp_t f2 f3), by rw [em] at s3; exact s3, P3, by omega⟩
      · rw [if_neg (show ¬ (48 + (T p - 48 + 1) ≤ T (p + 1) ∧ T (p + 1) ≤ 48 + (ln - 1)) by omega)] at e2
        rw [if_neg d]
        have s2 := stC_w (x := nI (p + 1)) s1
        obtain ⟨W, J, e3, f3, s3, P3, -⟩ := c_41p (V := vup V1 2 3 (.int (nI (p + 1)))) (I := I) (L := L) (R := R) (tl := tl) (N := N) (by omega) (prC_f (fun j => vup_na (by decide)) P1) (by omega) s2 (nI (T p - 48)) 0
        exact ⟨W, J, go2 _ _ _ _ e2 e3 _ (c_46z s3 (by omega)), frCp_t f1 (frCp_t (frCp_2 (.inr rfl)) f3), by omega, p + 1, by omega, s3⟩
    · rw [if_neg (show ¬ (48 + 0 ≤ T p ∧ T p ≤ 48 + (ln - 1)) by omega)] at e1
      rw [if_neg c]
      have s1 := stC_w (x := nI p) h
      obtain ⟨W, J, e3, f3, s3, P3, -⟩ := c_41p (V := vup V 2 3 (.int (nI p))) (I := I) (L := L) (R := R) (tl := tl) (N := N) (by omega) (prC_f (fun j => vup_na (by decide)) hP) (by omega) s1 0 0
      refine ⟨W, J, go _ ?_, frCp_t (frCp_2 (.inr rfl)) f3, hp, p, hp, s3⟩
      apply hd_46_71
      rw [el]
      refine ev_i rfl (ev_cI e1 (ev_b (a := Value.ref 167) (rVR qv_2_4 s1.2.2.2.1) (ev_i rfl (ev_cI (c_47b s1 hp hp) (ev_i rfl (ev_cI e3 ?_))))))
      rw [nI_1]
      exact c_46z s3 hp
def frCz (V W : Nat → Nat → Value) (I J : Nat → Nat → Int32) : Prop := (∀ a j, ¬ (a = 2 ∧ (j = 2 ∨ j = 3)) → a ≠ 167 → W a j = V a j) ∧ (∀ y, y ≠ 168 → y ≠ 4 → J y = I y) ∧ (wt V → wt W)
theorem frCz_p {V W : Nat → Nat → Value} {I J : Nat → Nat → Int32} (f : frCp V W I J) : frCz V W I J := ⟨fun a j h1 h2 => f.1 a j (fun q => q.elim h1 (fun z => h2 z.1)), f.2.1, f.2.2⟩
theorem frCz_t {U V W : Nat → Nat → Value} {G I J : Nat → Nat → Int32} (f : frCz U V G I) (g : frCz V W I J) : frCz U W G J := ⟨fun a j h k => (g.1 a j h k).trans (f.1 a j h k), fun y h k => (g.2.1 y h k).trans (f.2.1 y h k), fun h => g.2.2 (f.2.2 h)⟩
theorem frCz_34 {V : Nat → Nat → Value} {I : Nat → Nat → Int32} {k l z : Int32} : frCz V (vup (vup (vup (vup V 167 1 (.int k)) 167 2 (.int l)) 167 3 (.int 0)) 167 4 (.int z)) I I := ⟨fun a j h1 h2 => by rw [vup_na h2, vup_na h2, vup_na h2, vup_na h2], fun _ _ _ => rfl, fun w => wt_i (wt_i (wt_i (wt_i w (by decide)) (by decide)) (by decide)) (by decide)⟩
theorem stC_34 {V : Nat → Nat → Value} {I : Nat → Nat → Int32} {T : Nat → Nat} {m p : Nat} {w : Int32} {k l z : Int32} (h : stC V I T m p w) : stC (vup (vup (vup (vup V 167 1 (.int k)) 167 2 (.int l)) 167 3 (.int 0)) 167 4 (.int z)) I T m p w := by
  have e : ∀ j, vup (vup (vup (vup V 167 1 (.int k)) 167 2 (.int l)) 167 3 (.int 0)) 167 4 (.int z) 2 j = V 2 j := fun j => by rw [vup_na (by decide), vup_na (by decide), vup_na (by decide), vup_na (by decide)]
  exact ⟨(e 1).trans h.1, (e 2).trans h.2.1, (e 3).trans h.2.2.1, (e 4).trans h.2.2.2.1, h.2.2.2.2⟩
theorem c_46 {V : Nat → Nat → Value} {I : Nat → Nat → Int32} {L : Nat → Nat → Int64} {R : Nat → Nat → Option Nat} {tl : am_H} {T : Nat → Nat} {m N : Nat} (hN : 100 < N) (h : stC V I T m 0 (-1)) : ∃ W J, fm_46 N (.ref 2) (fx V I L R ++ tl) = some (.inl (none, fx W J L R ++ tl)) ∧ frCz V W I J ∧ resN (netP T m) W J T m ∧ (∀ P, netP T m = .inr P → W 167 1 = .int 3 ∧ W 167 2 = .int (nI (T 0 - 48)) ∧ 2 ≤ T 0 - 48 ∧ T 0 - 48 ≤ 8) := by
  have m240 := h.2.2.2.2.1
  have t0 := tq_256 h.2.2.2.2 0
  obtain ⟨M, rfl⟩ : ∃ M, N = M + 1 := ⟨N - 1, by omega⟩
  have e1 := c_47 (V := V) (I := I) (L := L) (R := R) (tl := tl) (lo := 2) (hi := 8) (by omega) (by omega) h (Nat.zero_le m)
  have go : ∀ (x y : Int32) (W W2 : Nat → Nat → Value), fm_47 (.ref 2) 2 8 (fx V I L R ++ tl) = some (.inl (some (.int x), fx W I L R ++ tl)) → W 2 4 = .ref 167 → fm_42 (.ref 2) 58 (fx (vup (vup (vup (vup W 167 1 (.int 3)) 167 2 (.int x)) 167 3 (.int 0)) 167 4 (.int 2)) I L R ++ tl) = some (.inl (some (.int y), fx W2 I L R ++ tl)) → ∀ o, fg_46_26 (M + 1) (M + 1) (.ref 2) x 0 (fx W2 I L R ++ tl) = o → fm_46 (M + 1) (.ref 2) (fx V I L R ++ tl) = o := fun x y W W2 ea e24 eb o k_ => by
    apply hm_46
    apply hd_46_0
    exact ev_i rfl (ev_cI ea (ev_b (a := Value.ref 167) (rVR qv_2_4 e24) (ev_i rfl (ev_cV (d_34 3 x) (ev_i rfl (ev_cI eb k_))))))
  unfold netP
  by_cases c : 50 ≤ T 0 ∧ T 0 ≤ 56
  · rw [if_pos (show 48 + 2 ≤ T 0 ∧ T 0 ≤ 48 + 8 by omega)] at e1
    rw [if_pos c]
    have pm := tq_m h.2.2.2.2 (p := 0) (by omega)
    have s1 : stC (vup V 2 2 (.int (nI (0 + 1)))) I T m 1 (-1) := stC_a h
    obtain ⟨V2, eV2⟩ : ∃ X, X = vup (vup (vup (vup (vup V 2 2 (.int (nI (0 + 1)))) 167 1 (.int 3)) 167 2 (.int (nI (T 0 - 48)))) 167 3 (.int 0)) 167 4 (.int 2) := ⟨_, rfl⟩
    have s2 : stC V2 I T m 1 (-1) := by rw [eV2]; exact stC_34 s1
    have f2 : frCz V V2 I I := by rw [eV2]; exact frCz_t (frCz_p (frCp_2 (.inl rfl))) frCz_34
    have P2 : prC V2 I (tI []) := ⟨by rw [eV2, vup_o (by decide)]; exact vup_eq, by rw [eV2]; exact vup_eq, fun k x hk => absurd hk (by simp [tI])⟩
    have k1 : V2 167 1 = .int 3 := by rw [eV2, vup_o (by decide), vup_o (by decide), vup_o (by decide)]; exact vup_eq
    have k2 : V2 167 2 = .int (nI (T 0 - 48)) := by rw [eV2, vup_o (by decide), vup_o (by decide)]; exact vup_eq
    have e2 := c_42 (V := V2) (I := I) (L := L) (R := R) (tl := tl) (c := 58) (by omega) (x := 58) rfl s2 (by omega)
    by_cases d : T 1 = 58
    · rw [if_pos d] at e2 ⊢
      have pm2 := tq_m h.2.2.2.2 (p := 1) (by omega)
      have s3 : stC (vup V2 2 2 (.int (nI (1 + 1)))) I T m 2 (-1) := stC_a s2
      have f3 : frCp V2 (vup V2 2 2 (.int (nI (1 + 1)))) I I := frCp_2 (.inl rfl)
      have go2 : ∀ o, fg_46_26 (M + 1) (M + 1) (.ref 2) (nI (T 0 - 48)) 0 (fx (vup V2 2 2 (.int (nI (1 + 1)))) I L R ++ tl) = o → fm_46 (M + 1) (.ref 2) (fx V I L R ++ tl) = o := fun o k_ => go _ _ _ _ e1 s1.2.2.2.1 (by rw [← eV2]; exact e2) o k_
      by_cases c3 : 2 < m
      · rw [if_pos c3]
        obtain ⟨W, J, e4, f4, r4⟩ := c_46l (L := L) (R := R) (tl := tl) (T := T) (m := m) (N := M + 1) (ln := T 0 - 48) (by omega) (by omega) (by omega) 40 0 M (vup V2 2 2 (.int (nI (1 + 1)))) I 2 [] (by omega) rfl (by omega) (by omega) s3 (prC_f (fun j => vup_na (by decide)) P2)
        have ff := frCp_t f3 f4
        refine ⟨W, J, go2 _ (hd_46_26 (ev_f (by decide) (ev_b (rdI s3.2.2.1) (ev_f (by decide) (ev_b (rdI s3.2.1) (ev_b (rdI s3.1) (ev_f (nI_ge c3 (by omega)) (ev_t (by decide) e4)))))))), frCz_t f2 (frCz_p ff), r4, fun P _ => ⟨(ff.1 167 1 (by omega)).trans k1, (ff.1 167 2 (by omega)).trans k2, by omega, by omega⟩⟩
      · rw [if_neg c3]
        have em : m = 2 := by omega
        refine ⟨_, I, go2 _ (hd_46_26 (ev_f (by decide) (ev_b (rdI s3.2.2.1) (ev_f (by decide) (ev_b (rdI s3.2.1) (ev_b (rdI s3.1) (ev_t (nI_le (by omega) (by omega)) (hd_46_105 rfl)))))))), frCz_t f2 (frCz_p f3), ⟨by rw [em]; rw [em] at s3; exact s3, prC_f (fun j => vup_na (by decide)) P2, Nat.zero_le _⟩, fun P _ => ⟨(vup_na (by decide)).trans k1, (vup_na (by decide)).trans k2, by omega, by omega⟩⟩
    · rw [if_neg d] at e2 ⊢
      refine ⟨_, I, go _ _ _ _ e1 s1.2.2.2.1 (by rw [← eV2]; exact e2) _ (c_46z (k := 0) (stC_w (x := nI 1) s2) (by omega)), frCz_t f2 (frCz_p (frCp_2 (.inr rfl))), ⟨by omega, 1, by omega, stC_w s2⟩, fun P q => by cases q⟩
  · rw [if_neg (show ¬ (48 + 2 ≤ T 0 ∧ T 0 ≤ 48 + 8) by omega)] at e1
    rw [if_neg c]
    have s1 := stC_w (x := nI 0) h
    have s2 : stC (vup (vup (vup (vup (vup V 2 3 (.int (nI 0))) 167 1 (.int 3)) 167 2 (.int 0)) 167 3 (.int 0)) 167 4 (.int 2)) I T m 0 (nI 0) := stC_34 s1
    refine ⟨_, I, go _ _ _ _ e1 s1.2.2.2.1 (c_42b s2 (Nat.zero_le m)) _ (c_46z (k := 0) s2 (Nat.zero_le m)), frCz_t (frCz_p (frCp_2 (.inr rfl))) frCz_34, ⟨Nat.zero_le m, 0, Nat.zero_le m, s2⟩, fun P q => by cases q⟩
