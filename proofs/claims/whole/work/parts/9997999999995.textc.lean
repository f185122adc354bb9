/-! ===== read: letters, digits, constants, class ===== -/
theorem hd_36_24 {s0 : Int32} {h : am_H} {r_ : Option am_O} (k_ : (if am_rfit (some FieldType.char) s0 then some (.inl (some (.int s0), h)) else none) = r_) : fg_36_24 s0 h = r_ := k_
theorem hd_36_0 {x0 : Value} {h : am_H} {r_ : Option am_O} (k_ : ((am_vI (am_pG 2306 x0 h)).bind fun v1 => ((am_vI (am_pG 2305 x0 h)).bind fun v3 => (if v3 ≤ v1 then (fg_36_24 0 h) else ((am_vR (am_pG 2304 x0 h)).bind fun v6 => ((am_vI (am_pG 2306 x0 h)).bind fun v8 => ((am_pA 3 v6 v8 h).bind fun v10 => (fg_36_24 v10 h))))))) = r_) : fg_36_0 x0 h = r_ := k_
theorem hm_36 {y0 : Value} {h : am_H} {r_ : Option am_O} (k_ : fg_36_0 y0 h = r_) : fm_36 y0 h = r_ := k_
theorem hd_39_15 {h : am_H} {r_ : Option am_O} (k_ : some (.inl (none, h)) = r_) : fg_39_15 h = r_ := k_
theorem hd_39_0 {x0 : Value} {h : am_H} {r_ : Option am_O} (k_ : ((am_vI (am_pG 2307 x0 h)).bind fun v1 => (if 0 ≤ v1 then (fg_39_15 h) else ((am_vI (am_pG 2306 x0 h)).bind fun v4 => ((am_pP 2307 x0 (.int v4) h).bind fun h6 => (fg_39_15 h6))))) = r_) : fg_39_0 x0 h = r_ := k_
theorem hm_39 {y0 : Value} {h : am_H} {r_ : Option am_O} (k_ : fg_39_0 y0 h = r_) : fm_39 y0 h = r_ := k_
theorem hd_42_27 {x0 : Value} {h : am_H} {r_ : Option am_O} (k_ : (if am_pOk 9 x0 h then am_cV true (fm_39 x0 h) (fun h3 => some (.inl (some (.int 0), h3))) else none) = r_) : fg_42_27 x0 h = r_ := k_
theorem hd_42_0 {x0 : Value} {x1 : Int32} {h : am_H} {r_ : Option am_O} (k_ : ((am_vI (am_pG 2307 x0 h)).bind fun v1 => (if 0 ≤ v1 then (fg_42_27 x0 h) else (if am_pOk 9 x0 h then am_cI true (fm_36 x0 h) (fun v5 h6 => (if ¬ v5 = x1 then (fg_42_27 x0 h6) else ((am_vI (am_pG 2306 x0 h6)).bind fun v9 => ((am_pP 2306 x0 (.int (v9 + 1)) h6).bind fun h11 => some (.inl (some (.int 1), h11)))))) else none))) = r_) : fg_42_0 x0 x1 h = r_ := k_
theorem hm_42 {y0 : Value} {y1 : Int32} {h : am_H} {r_ : Option am_O} (k_ : fg_42_0 y0 y1 h = r_) : fm_42 y0 y1 h = r_ := k_
theorem hd_43_44 {N : Nat} {s0 : Int32} {h : am_H} {r_ : Option am_O} (k_ : some (.inl (some (.int s0), h)) = r_) : fg_43_44 N s0 h = r_ := k_
theorem hd_43_29 {N : Nat} {x0 : Value} {x1 : Int32} {h : am_H} {r_ : Option am_O} (k_ : (if am_pOk 9 x0 h then am_cI true (fm_44 N x0 h) (fun v2 h3 => (if x1 = 0 then (fg_43_44 N v2 h3) else (fg_43_44 N ((-v2)) h3))) else none) = r_) : fg_43_29 N x0 x1 h = r_ := k_
theorem hd_43_14 {N : Nat} {x0 : Value} {s0 : Int32} {h : am_H} {r_ : Option am_O} (k_ : (if s0 = 0 then (fg_43_29 N x0 s0 h) else ((am_vI (am_pG 2306 x0 h)).bind fun v2 => ((am_pP 2306 x0 (.int (v2 + 1)) h).bind fun h4 => (fg_43_29 N x0 s0 h4)))) = r_) : fg_43_14 N x0 s0 h = r_ := k_
theorem hd_43_0 {N : Nat} {x0 : Value} {h : am_H} {r_ : Option am_O} (k_ : (if am_pOk 9 x0 h then am_cI true (fm_36 x0 h) (fun v2 h3 => (if ¬ v2 = 45 then (fg_43_14 N x0 0 h3) else (fg_43_14 N x0 1 h3))) else none) = r_) : fg_43_0 N x0 h = r_ := k_
theorem hm_43 {N : Nat} {y0 : Value} {h : am_H} {r_ : Option am_O} (k_ : fg_43_0 N y0 h = r_) : fm_43 N y0 h = r_ := k_
theorem hd_44_76 {N : Nat} {x1 : Int32} {h : am_H} {r_ : Option am_O} (k_ : some (.inl (some (.int x1), h)) = r_) : fg_44_76 N x1 h = r_ := k_
theorem hd_44_25 {N : Nat} {K : Nat} {x0 : Value} {x1 : Int32} {x2 : Int32} {h : am_H} {r_ : Option am_O} (k_ : (if 2 ≤ x2 then (fg_44_76 N x1 h) else ((am_vI (am_pG 2307 x0 h)).bind fun v2 => (if 0 ≤ v2 then (fg_44_76 N x1 h) else (if am_pOk 9 x0 h then am_cI true (fm_36 x0 h) (fun v6 h7 => am_cI false (fm_45 v6 h7) (fun v9 h10 => (if v9 = 0 then (fg_44_76 N x1 h10) else (if am_pOk 9 x0 h10 then am_cI true (fm_36 x0 h10) (fun v14 h15 => ((am_vI (am_pG 2306 x0 h15)).bind fun v17 => ((am_pP 2306 x0 (.int (v17 + 1)) h15).bind fun h19 => (fg_44_25 N K x0 ((((10 * x1) + v14) - 48)) ((x2 + 1)) h19)))) else none)))) else none)))) = r_) : fg_44_25 N (K + 1) x0 x1 x2 h = r_ := by rw [fg_44_25]; exact k_
theorem hd_44_23 {N : Nat} {x0 : Value} {x1 : Int32} {h : am_H} {r_ : Option am_O} (k_ : (fg_44_25 N N x0 x1 0 h) = r_) : fg_44_23 N x0 x1 h = r_ := k_
theorem hd_44_19 {N : Nat} {x0 : Value} {x1 : Int32} {h : am_H} {r_ : Option am_O} (k_ : (if am_pOk 9 x0 h then am_cV true (fm_39 x0 h) (fun h3 => (fg_44_23 N x0 x1 h3)) else none) = r_) : fg_44_19 N x0 x1 h = r_ := k_
theorem hd_44_0 {N : Nat} {x0 : Value} {h : am_H} {r_ : Option am_O} (k_ : ((am_vI (am_pG 2307 x0 h)).bind fun v1 => (if 0 ≤ v1 then (fg_44_19 N x0 0 h) else (if am_pOk 9 x0 h then am_cI true (fm_36 x0 h) (fun v5 h6 => am_cI false (fm_45 v5 h6) (fun v8 h9 => (if ¬ v8 = 0 then (fg_44_23 N x0 0 h9) else (fg_44_19 N x0 0 h9)))) else none))) = r_) : fg_44_0 N x0 h = r_ := k_
theorem hm_44 {N : Nat} {y0 : Value} {h : am_H} {r_ : Option am_O} (k_ : fg_44_0 N y0 h = r_) : fm_44 N y0 h = r_ := k_
theorem hd_45_17 {s0 : Int32} {h : am_H} {r_ : Option am_O} (k_ : (if am_rfit (some FieldType.boolean) s0 then some (.inl (some (.int s0), h)) else none) = r_) : fg_45_17 s0 h = r_ := k_
theorem hd_45_16 {h : am_H} {r_ : Option am_O} (k_ : (fg_45_17 0 h) = r_) : fg_45_16 h = r_ := k_
theorem hd_45_0 {x0 : Int32} {h : am_H} {r_ : Option am_O} (k_ : (if x0 < 48 then (fg_45_16 h) else (if 57 < x0 then (fg_45_16 h) else (fg_45_17 1 h))) = r_) : fg_45_0 x0 h = r_ := k_
theorem hm_45 {y0 : Int32} {h : am_H} {r_ : Option am_O} (k_ : fg_45_0 y0 h = r_) : fm_45 y0 h = r_ := k_
theorem hd_47_25 {x0 : Value} {h : am_H} {r_ : Option am_O} (k_ : (if am_pOk 9 x0 h then am_cV true (fm_39 x0 h) (fun h3 => some (.inl (some (.int 0), h3))) else none) = r_) : fg_47_25 x0 h = r_ := k_
theorem hd_47_0 {x0 : Value} {x1 : Int32} {x2 : Int32} {h : am_H} {r_ : Option am_O} (k_ : (if am_pOk 9 x0 h then am_cI true (fm_36 x0 h) (fun v2 h3 => ((am_vI (am_pG 2307 x0 h3)).bind fun v5 => (if 0 ≤ v5 then (fg_47_25 x0 h3) else (if (v2 - 48) < x1 then (fg_47_25 x0 h3) else (if (v2 - 48) ≤ x2 then ((am_vI (am_pG 2306 x0 h3)).bind fun v10 => ((am_pP 2306 x0 (.int (v10 + 1)) h3).bind fun h12 => some (.inl (some (.int (v2 - 48)), h12)))) else (fg_47_25 x0 h3)))))) else none) = r_) : fg_47_0 x0 x1 x2 h = r_ := k_
theorem hm_47 {y0 : Value} {y1 : Int32} {y2 : Int32} {h : am_H} {r_ : Option am_O} (k_ : fg_47_0 y0 y1 y2 h = r_) : fm_47 y0 y1 y2 h = r_ := k_

def dgB (c : Nat) : Bool := decide (48 ≤ c) && decide (c ≤ 57)
theorem dgB_t {c : Nat} : dgB c = true ↔ 48 ≤ c ∧ c ≤ 57 := by
  unfold dgB
  rw [Bool.and_eq_true, decide_eq_true_iff, decide_eq_true_iff]
theorem dgB_f {c : Nat} : dgB c = false ↔ ¬ (48 ≤ c ∧ c ≤ 57) := by
  rw [← dgB_t, Bool.not_eq_true]
def dgS (T : Nat → Nat) (p : Nat) : Nat ⊕ (Nat × Nat) := if dgB (T p) = true then (if dgB (T (p + 1)) = true then .inr (p + 2, 10 * (T p - 48) + (T (p + 1) - 48)) else .inr (p + 1, T p - 48)) else .inl p
def sgn (b : Bool) (x : Int32) : Int32 := if b = true then -x else x
def csT (T : Nat → Nat) (p : Nat) : Nat ⊕ (Nat × Int32) := match dgS T (if T p = 45 then p + 1 else p) with
  | .inl e => .inl e
  | .inr (q, d) => .inr (q, sgn (decide (T p = 45)) (nI d))
/-- the text: bytes, none behind its end -/
def tqT (T : Nat → Nat) (m : Nat) (f : Nat → Int32) : Prop := m ≤ 240 ∧ (∀ p, p < m → f p = nI (T p) ∧ T p < 256) ∧ ∀ p, m ≤ p → T p = 0
theorem tq_256 {T : Nat → Nat} {m : Nat} {f : Nat → Int32} (h : tqT T m f) (p : Nat) : T p < 256 := by
  by_cases c : p < m
  · exact (h.2.1 p c).2
  · rw [h.2.2 p (by omega)]; omega
theorem tq_m {T : Nat → Nat} {m p : Nat} {f : Nat → Int32} (h : tqT T m f) (hz : T p ≠ 0) : p < m := by
  by_cases c : p < m
  · exact c
  · exact absurd (h.2.2 p (by omega)) hz
/-- the class while it reads -/
def stC (V : Nat → Nat → Value) (I : Nat → Nat → Int32) (T : Nat → Nat) (m p : Nat) (w : Int32) : Prop := V 2 1 = .int (nI m) ∧ V 2 2 = .int (nI p) ∧ V 2 3 = .int w ∧ V 2 4 = .ref 167 ∧ tqT T m (I 3)
def frCp (V W : Nat → Nat → Value) (I J : Nat → Nat → Int32) : Prop := (∀ a j, ¬ ((a = 2 ∧ (j = 2 ∨ j = 3)) ∨ (a = 167 ∧ j = 3)) → W a j = V a j) ∧ (∀ y, y ≠ 168 → y ≠ 4 → J y = I y) ∧ (wt V → wt W)
theorem frCp_r {V : Nat → Nat → Value} {I : Nat → Nat → Int32} : frCp V V I I := ⟨fun _ _ _ => rfl, fun _ _ _ => rfl, id⟩
theorem frCp_t {U V W : Nat → Nat → Value} {G I J : Nat → Nat → Int32} (f : frCp U V G I) (g : frCp V W I J) : frCp U W G J := ⟨fun a j h => (g.1 a j h).trans (f.1 a j h), fun y h k => (g.2.1 y h k).trans (f.2.1 y h k), fun h => g.2.2 (f.2.2 h)⟩
theorem frCp_2 {V : Nat → Nat → Value} {I : Nat → Nat → Int32} {j : Nat} {x : Int32} (h : j = 2 ∨ j = 3) : frCp V (vup V 2 j (.int x)) I I := ⟨fun a k q => vup_o (fun e => q (.inl ⟨e.1, by omega⟩)), fun _ _ _ => rfl, fun w => wt_i w (by rcases h with rfl | rfl <;> decide)⟩
theorem stC_a {V : Nat → Nat → Value} {I : Nat → Nat → Int32} {T : Nat → Nat} {m p : Nat} {w : Int32} {q : Nat} (h : stC V I T m p w) : stC (vup V 2 2 (.int (nI q))) I T m q w := ⟨(vup_o (by decide)).trans h.1, vup_eq, (vup_o (by decide)).trans h.2.2.1, (vup_o (by decide)).trans h.2.2.2.1, h.2.2.2.2⟩
theorem stC_w {V : Nat → Nat → Value} {I : Nat → Nat → Int32} {T : Nat → Nat} {m p : Nat} {w x : Int32} (h : stC V I T m p w) : stC (vup V 2 3 (.int x)) I T m p x := ⟨(vup_o (by decide)).trans h.1, (vup_o (by decide)).trans h.2.1, vup_eq, (vup_o (by decide)).trans h.2.2.2.1, h.2.2.2.2⟩
def resC {α : Type} (r : Nat ⊕ (Nat × α)) (W : Nat → Nat → Value) (J : Nat → Nat → Int32) (T : Nat → Nat) (m : Nat) (ok : α → Prop) : Prop := match r with
  | .inl e => e ≤ m ∧ ∃ p', p' ≤ m ∧ stC W J T m p' (nI e)
  | .inr (q, a) => q ≤ m ∧ stC W J T m q (-1) ∧ ok a
theorem rfc : ∀ c, c < 256 → am_rfit (some FieldType.char) (nI c) = true := by decide +kernel
theorem c_36 {V : Nat → Nat → Value} {I : Nat → Nat → Int32} {L : Nat → Nat → Int64} {R : Nat → Nat → Option Nat} {tl : am_H} {T : Nat → Nat} {m p : Nat} {w : Int32} (h : stC V I T m p w) (hp : p ≤ m) : fm_36 (.ref 2) (fx V I L R ++ tl) = some (.inl (some (.int (nI (T p))), fx V I L R ++ tl)) := by
  obtain ⟨h1, h2, h3, h4, m240, hT, hZ⟩ := h
  apply hm_36
  apply hd_36_0
  refine ev_b (rdI h2) (ev_b (rdI h1) ?_)
  by_cases c : m ≤ p
  · rw [hZ p c]
    exact ev_t (nI_le c (by omega)) (hd_36_24 (ev_i rfl rfl))
  · obtain ⟨t1, t2⟩ := hT p (by omega)
    exact ev_f (nI_ge (by omega) (by omega)) (ev_b (rdR rfl) (ev_b (rdI h2) (ev_b ((qa_3 (by omega)).trans (congrArg some t1)) (hd_36_24 (ev_i (rfc _ t2) rfl)))))
theorem c_39 {V : Nat → Nat → Value} {I : Nat → Nat → Int32} {L : Nat → Nat → Int64} {R : Nat → Nat → Option Nat} {tl : am_H} {T : Nat → Nat} {m p : Nat} (h : stC V I T m p (-1)) : fm_39 (.ref 2) (fx V I L R ++ tl) = some (.inl (none, fx (vup V 2 3 (.int (nI p))) I L R ++ tl)) := by
  apply hm_39
  apply hd_39_0
  exact ev_b (rdI h.2.2.1) (ev_f (by decide) (ev_b (rdI h.2.1) (ev_b qp_2_3 (hd_39_15 rfl))))
theorem c_39b {V : Nat → Nat → Value} {I : Nat → Nat → Int32} {L : Nat → Nat → Int64} {R : Nat → Nat → Option Nat} {tl : am_H} {T : Nat → Nat} {m p : Nat} {w : Nat} (h : stC V I T m p (nI w)) (hw : w ≤ m) : fm_39 (.ref 2) (fx V I L R ++ tl) = some (.inl (none, fx V I L R ++ tl)) := by
  have := h.2.2.2.2.1
  apply hm_39
  apply hd_39_0
  exact ev_b (rdI h.2.2.1) (ev_t (nI_pos' (by omega)) (hd_39_15 rfl))
theorem c_42 {V : Nat → Nat → Value} {I : Nat → Nat → Int32} {L : Nat → Nat → Int64} {R : Nat → Nat → Option Nat} {tl : am_H} {T : Nat → Nat} {m p : Nat} {c : Nat} (hc : c < 256) {x : Int32} (hx : x = nI c) (h : stC V I T m p (-1)) (hp : p ≤ m) : fm_42 (.ref 2) x (fx V I L R ++ tl) = if T p = c then some (.inl (some (.int 1), fx (vup V 2 2 (.int (nI (p + 1)))) I L R ++ tl)) else some (.inl (some (.int 0), fx (vup V 2 3 (.int (nI p))) I L R ++ tl)) := by
  have t := tq_256 h.2.2.2.2 p
  apply hm_42
  apply hd_42_0
  refine ev_b (rdI h.2.2.1) (ev_f (by decide) (ev_i rfl (ev_cI (c_36 h hp) ?_)))
  rw [hx]
  by_cases z : T p = c
  · rw [if_pos z, if_neg (fun q => q (by rw [z]))]
    refine ev_b (rdI h.2.1) ?_
    rw [nI_1]
    exact ev_b qp_2_2 rfl
  · rw [if_neg z, if_pos (fun q => z ((nI_eq (by omega) (by omega)).mp q))]
    exact hd_42_27 (ev_i rfl (ev_cV (c_39 h) rfl))
theorem c_42b {V : Nat → Nat → Value} {I : Nat → Nat → Int32} {L : Nat → Nat → Int64} {R : Nat → Nat → Option Nat} {tl : am_H} {T : Nat → Nat} {m p : Nat} {x : Int32} {w : Nat} (h : stC V I T m p (nI w)) (hw : w ≤ m) : fm_42 (.ref 2) x (fx V I L R ++ tl) = some (.inl (some (.int 0), fx V I L R ++ tl)) := by
  have := h.2.2.2.2.1
  apply hm_42
  apply hd_42_0
  exact ev_b (rdI h.2.2.1) (ev_t (nI_pos' (by omega)) (hd_42_27 (ev_i rfl (ev_cV (c_39b h hw) rfl))))
theorem c_45 {c : Nat} (hc : c < 256) (h : am_H) : fm_45 (nI c) h = some (.inl (some (.int (bI (dgB c))), h)) := by
  apply hm_45
  apply hd_45_0
  by_cases a : 48 ≤ c
  · refine ev_f (nI_nlt (b := 48) a (by omega)) ?_
    by_cases b : c ≤ 57
    · rw [dgB_t.mpr ⟨a, b⟩]
      exact ev_f (nI_nlt (a := 57) b (by omega)) (hd_45_17 (ev_i rfl rfl))
    · rw [dgB_f.mpr (by omega)]
      exact ev_t (nI_lt (a := 57) (by omega) (by omega)) (hd_45_16 (hd_45_17 (ev_i rfl rfl)))
  · rw [dgB_f.mpr (by omega)]
    exact ev_t (nI_lt (b := 48) (by omega) (by omega)) (hd_45_16 (hd_45_17 (ev_i rfl rfl)))
theorem dI_nz {b : Bool} (h : b = true) : ¬ bI b = 0 := by rw [h]; decide
theorem dI_z {b : Bool} (h : b = false) : bI b = 0 := by rw [h]; rfl
theorem nI_48 {c : Nat} (h : 48 ≤ c) (h2 : c < 256) : nI c - 48 = nI (c - 48) := nI_sub (b := 48) h
set_option maxRecDepth 100000 in
theorem c_44 {V : Nat → Nat → Value} {I : Nat → Nat → Int32} {L : Nat → Nat → Int64} {R : Nat → Nat → Option Nat} {tl : am_H} {T : Nat → Nat} {m p : Nat} {N : Nat} (hN : 3 < N) (h : stC V I T m p (-1)) (hp : p ≤ m) : ∃ x W, fm_44 N (.ref 2) (fx V I L R ++ tl) = some (.inl (some (.int x), fx W I L R ++ tl)) ∧ frCp V W I I ∧ (∀ j, W 167 j = V 167 j) ∧ resC (dgS T p) W I T m (fun d => x = nI d ∧ d < 100) := by
  have m240 := h.2.2.2.2.1
  have t0 := tq_256 h.2.2.2.2 p
  have t1 := tq_256 h.2.2.2.2 (p + 1)
  obtain ⟨M, rfl⟩ : ∃ M, N = M + 1 + 1 + 1 := ⟨N - 3, by omega⟩
  unfold dgS
  by_cases c : dgB (T p) = true
  · rw [if_pos c]
    obtain ⟨c1, c2⟩ := dgB_t.mp c
    have pm : p < m := tq_m h.2.2.2.2 (by omega)
    have s1 := stC_a (q := p + 1) h
    have f1 : frCp V (vup V 2 2 (.int (nI (p + 1)))) I I := frCp_2 (.inl rfl)
    have e0 : ∀ o, fg_44_25 (M + 1 + 1 + 1) (M + 1 + 1) (.ref 2) (nI (T p - 48)) (nI 1) (fx (vup V 2 2 (.int (nI (p + 1)))) I L R ++ tl) = o → fm_44 (M + 1 + 1 + 1) (.ref 2) (fx V I L R ++ tl) = o := fun o k_ => by
      apply hm_44
      apply hd_44_0
      refine ev_b (rdI h.2.2.1) (ev_f (by decide) (ev_i rfl (ev_cI (c_36 h hp) (ev_cI (c_45 t0 _) (ev_t (dI_nz c) (hd_44_23 (hd_44_25 (ev_f (by decide) (ev_b (rdI h.2.2.1) (ev_f (by decide) (ev_i rfl (ev_cI (c_36 h hp) (ev_cI (c_45 t0 _) (ev_f (dI_nz c) (ev_i rfl (ev_cI (c_36 h hp) (ev_b (rdI h.2.1) (ev_b (a := fx (vup V 2 2 (.int (nI (p + 1)))) I L R ++ tl) (by rw [nI_1]; exact qp_2_2) ?_))))))))))))))))))
      rw [show (10 : Int32) * 0 + nI (T p) - 48 = nI (T p - 48) by rw [show (10 : Int32) * 0 + nI (T p) = nI (T p) from Int32.zero_add _, nI_48 c1 t0]]
      exact k_
    by_cases d : dgB (T (p + 1)) = true
    · rw [if_pos d]
      obtain ⟨d1, d2⟩ := dgB_t.mp d
      have pm2 : p + 1 < m := tq_m h.2.2.2.2 (by omega)
      refine ⟨nI (10 * (T p - 48) + (T (p + 1) - 48)), vup (vup V 2 2 (.int (nI (p + 1)))) 2 2 (.int (nI (p + 2))), e0 _ ?_, frCp_t f1 (frCp_2 (.inl rfl)), fun j => (vup_na (by decide)).trans (vup_na (by decide)), by omega, stC_a s1, rfl, by omega⟩
      refine hd_44_25 (ev_f (by decide) (ev_b (rdI s1.2.2.1) (ev_f (by decide) (ev_i rfl (ev_cI (c_36 s1 (by omega)) (ev_cI (c_45 t1 _) (ev_f (dI_nz d) (ev_i rfl (ev_cI (c_36 s1 (by omega)) (ev_b (rdI s1.2.1) (ev_b (a := fx (vup (vup V 2 2 (.int (nI (p + 1)))) 2 2 (.int (nI (p + 2)))) I L R ++ tl) (by rw [nI_1]; exact qp_2_2) (hd_44_25 (ev_t (by decide) (hd_44_76 ?_))))))))))))))
      rw [show (10 : Int32) * nI (T p - 48) + nI (T (p + 1)) - 48 = nI (10 * (T p - 48) + (T (p + 1) - 48)) by rw [show (10 : Int32) * nI (T p - 48) = nI (10 * (T p - 48)) from (nI_mul 10 _).symm, nI_add, show nI (10 * (T p - 48) + T (p + 1)) - 48 = nI (10 * (T p - 48) + T (p + 1) - 48) from nI_sub (b := 48) (by omega), show 10 * (T p - 48) + T (p + 1) - 48 = 10 * (T p - 48) + (T (p + 1) - 48) by omega]]
    · rw [if_neg d]
      have d' : dgB (T (p + 1)) = false := by rw [← Bool.not_eq_true]; exact d
      refine ⟨nI (T p - 48), vup V 2 2 (.int (nI (p + 1))), e0 _ ?_, f1, fun j => vup_na (by decide), by omega, s1, rfl, by omega⟩
      exact hd_44_25 (ev_f (by decide) (ev_b (rdI s1.2.2.1) (ev_f (by decide) (ev_i rfl (ev_cI (c_36 s1 (by omega)) (ev_cI (c_45 t1 _) (ev_t (dI_z d') (hd_44_76 rfl))))))))
  · rw [if_neg c]
    have c' : dgB (T p) = false := by rw [← Bool.not_eq_true]; exact c
    have s1 := stC_w (x := nI p) h
    refine ⟨0, vup V 2 3 (.int (nI p)), ?_, frCp_2 (.inr rfl), fun j => vup_na (by decide), hp, p, hp, s1⟩
    apply hm_44
    apply hd_44_0
    exact ev_b (rdI h.2.2.1) (ev_f (by decide) (ev_i rfl (ev_cI (c_36 h hp) (ev_cI (c_45 t0 _) (ev_f (fun q => q (dI_z c')) (hd_44_19 (ev_i rfl (ev_cV (c_39 h) (hd_44_23 (hd_44_25 (ev_f (by decide) (ev_b (rdI s1.2.2.1) (ev_t (nI_pos' (by omega)) (hd_44_76 rfl))))))))))))))
theorem c_43 {V : Nat → Nat → Value} {I : Nat → Nat → Int32} {L : Nat → Nat → Int64} {R : Nat → Nat → Option Nat} {tl : am_H} {T : Nat → Nat} {m p : Nat} {N : Nat} (hN : 3 < N) (h : stC V I T m p (-1)) (hp : p ≤ m) : ∃ x W, fm_43 N (.ref 2) (fx V I L R ++ tl) = some (.inl (some (.int x), fx W I L R ++ tl)) ∧ frCp V W I I ∧ (∀ j, W 167 j = V 167 j) ∧ resC (csT T p) W I T m (fun y => x = y ∧ two y) := by
  have t0 := tq_256 h.2.2.2.2 p
  unfold csT
  by_cases c : T p = 45
  · have pm : p < m := tq_m h.2.2.2.2 (by omega)
    rw [if_pos c, decide_eq_true c]
    have s1 := stC_a (q := p + 1) h
    obtain ⟨x, W, e, f, g, r⟩ := c_44 (V := vup V 2 2 (.int (nI (p + 1)))) (I := I) (L := L) (R := R) (tl := tl) hN s1 (by omega)
    refine ⟨-x, W, ?_, frCp_t (frCp_2 (.inl rfl)) f, fun j => (g j).trans (vup_na (by decide)), ?_⟩
    · apply hm_43
      apply hd_43_0
      refine ev_i rfl (ev_cI (c_36 h hp) (ev_f (fun q => q (by rw [c]; rfl)) (hd_43_14 (ev_f (by decide) (ev_b (rdI h.2.1) (ev_b (a := fx (vup V 2 2 (.int (nI (p + 1)))) I L R ++ tl) (by rw [nI_1]; exact qp_2_2) (hd_43_29 (ev_i rfl (ev_cI e (ev_f (by decide) (hd_43_44 rfl)))))))))))
    · cases q : dgS T (p + 1) with
      | inl e => rw [q] at r; exact r
      | inr a =>
        rw [q] at r
        obtain ⟨r1, r2, r3, r4⟩ := r
        exact ⟨r1, r2, by rw [r3]; rfl, .inr ⟨a.2, by omega, rfl⟩⟩
  · rw [if_neg c, decide_eq_false c]
    obtain ⟨x, W, e, f, g, r⟩ := c_44 (V := V) (I := I) (L := L) (R := R) (tl := tl) hN h hp
    refine ⟨x, W, ?_, f, g, ?_⟩
    · apply hm_43
      apply hd_43_0
      exact ev_i rfl (ev_cI (c_36 h hp) (ev_t (fun q => c ((nI_eq (b := 45) (by omega) (by omega)).mp q)) (hd_43_14 (ev_t rfl (hd_43_29 (ev_i rfl (ev_cI e (ev_t rfl (hd_43_44 rfl)))))))))
    · cases q : dgS T p with
      | inl e => rw [q] at r; exact r
      | inr a =>
        rw [q] at r
        obtain ⟨r1, r2, r3, r4⟩ := r
        exact ⟨r1, r2, by rw [r3]; rfl, .inl ⟨a.2, by omega, rfl⟩⟩
theorem n48 : ∀ c, c < 48 → nI c - 48 < 0 := by decide +kernel
theorem c_47 {V : Nat → Nat → Value} {I : Nat → Nat → Int32} {L : Nat → Nat → Int64} {R : Nat → Nat → Option Nat} {tl : am_H} {T : Nat → Nat} {m p : Nat} {lo hi : Nat} (hlo : lo ≤ 300) (hhi : hi ≤ 300) (h : stC V I T m p (-1)) (hp : p ≤ m) : fm_47 (.ref 2) (nI lo) (nI hi) (fx V I L R ++ tl) = if 48 + lo ≤ T p ∧ T p ≤ 48 + hi then some (.inl (some (.int (nI (T p - 48))), fx (vup V 2 2 (.int (nI (p + 1)))) I L R ++ tl)) else some (.inl (some (.int 0), fx (vup V 2 3 (.int (nI p))) I L R ++ tl)) := by
  have t0 := tq_256 h.2.2.2.2 p
  apply hm_47
  apply hd_47_0
  refine ev_i rfl (ev_cI (c_36 h hp) (ev_b (rdI h.2.2.1) (ev_f (by decide) ?_)))
  by_cases a : 48 ≤ T p
  · rw [nI_48 a t0]
    by_cases b : T p - 48 < lo
    · rw [if_neg (show ¬ (48 + lo ≤ T p ∧ T p ≤ 48 + hi) by omega)]
      exact ev_t (nI_lt b (by omega)) (hd_47_25 (ev_i rfl (ev_cV (c_39 h) rfl)))
    · refine ev_f (nI_nlt (by omega) (by omega)) ?_
      by_cases d : T p - 48 ≤ hi
      · rw [if_pos (show 48 + lo ≤ T p ∧ T p ≤ 48 + hi by omega)]
        exact ev_t (nI_le d (by omega)) (ev_b (rdI h.2.1) (ev_b (a := fx (vup V 2 2 (.int (nI (p + 1)))) I L R ++ tl) (by rw [nI_1]; exact qp_2_2) rfl))
      · rw [if_neg (show ¬ (48 + lo ≤ T p ∧ T p ≤ 48 + hi) by omega)]
        exact ev_f (nI_ge (by omega) (by omega)) (hd_47_25 (ev_i rfl (ev_cV (c_39 h) rfl)))
  · rw [if_neg (show ¬ (48 + lo ≤ T p ∧ T p ≤ 48 + hi) by omega)]
    exact ev_t (Int32.lt_of_lt_of_le (n48 _ (by omega)) (nI_pos' (by omega))) (hd_47_25 (ev_i rfl (ev_cV (c_39 h) rfl)))
theorem c_47b {V : Nat → Nat → Value} {I : Nat → Nat → Int32} {L : Nat → Nat → Int64} {R : Nat → Nat → Option Nat} {tl : am_H} {T : Nat → Nat} {m p : Nat} {x y : Int32} {w : Nat} (h : stC V I T m p (nI w)) (hw : w ≤ m) (hp : p ≤ m) : fm_47 (.ref 2) x y (fx V I L R ++ tl) = some (.inl (some (.int 0), fx V I L R ++ tl)) := by
  have := h.2.2.2.2.1
  apply hm_47
  apply hd_47_0
  exact ev_i rfl (ev_cI (c_36 h hp) (ev_b (rdI h.2.2.1) (ev_t (nI_pos' (by omega)) (hd_47_25 (ev_i rfl (ev_cV (c_39b h hw) rfl))))))
/-! the program that is made -/
def prC (V : Nat → Nat → Value) (I : Nat → Nat → Int32) (P : xI) : Prop := V 167 3 = .int (nI P.length) ∧ V 167 4 = .int 2 ∧ ∀ k x, P[k]? = some x → I 168 (2 * k) = x.1 ∧ I 168 (2 * k + 1) = x.2
theorem prC_f {V W : Nat → Nat → Value} {I : Nat → Nat → Int32} {P : xI} (f : ∀ j, W 167 j = V 167 j) (h : prC V I P) : prC W I P := ⟨(f 3).trans h.1, (f 4).trans h.2.1, h.2.2⟩
theorem c_41p {V : Nat → Nat → Value} {I : Nat → Nat → Int32} {L : Nat → Nat → Int64} {R : Nat → Nat → Option Nat} {tl : am_H} {T : Nat → Nat} {m p : Nat} {N : Nat} {w : Int32} {P : xI} (hN : 1 ≤ N) (hP : prC V I P) (hl : P.length < 60) (h : stC V I T m p w) (a b : Int32) : ∃ W J, fm_41 N (.ref 167) a b (fx V I L R ++ tl) = some (.inl (some (.int 1), fx W J L R ++ tl)) ∧ frCp V W I J ∧ stC W J T m p w ∧ prC W J (P ++ [(a, b)]) ∧ J 4 = I 4 := by
  refine ⟨_, _, d_41 hN hP.1 hP.2.1 (by omega) a b, ⟨fun x j q => vup_o (fun e => q (.inr e)), fun y h1 h2 => iup_na h1, fun w => wt_i w (by decide)⟩, ⟨(vup_o (by decide)).trans h.1, (vup_o (by decide)).trans h.2.1, (vup_o (by decide)).trans h.2.2.1, (vup_o (by decide)).trans h.2.2.2.1, by rw [iup_na (by decide)]; exact h.2.2.2.2⟩, ⟨by rw [vup_eq, List.length_append]; rfl, (vup_o (by decide)).trans hP.2.1, fun k x hk => ?_⟩, iup_na (by decide)⟩
  rw [iup_eq]
  by_cases c : k < P.length
  · rw [List.getElem?_append_left c] at hk
    obtain ⟨q1, q2⟩ := hP.2.2 k x hk
    exact ⟨by rw [upd_ne (by omega), upd_ne (by omega)]; exact q1, by rw [upd_ne (by omega), upd_ne (by omega)]; exact q2⟩
  · rw [List.getElem?_append_right (by omega)] at hk
    obtain ⟨d, ed⟩ : ∃ d, d = k - P.length := ⟨_, rfl⟩
    rw [← ed] at hk
    cases d with
    | succ d => exact absurd hk (by simp)
    | zero =>
      obtain rfl : k = P.length := by omega
      rw [← Option.some.inj hk]
      exact ⟨by rw [upd_ne (by omega)]; exact upd_eq, upd_eq⟩
