/-! ===== read: letters, digits, constants, reference ===== -/
theorem hd_331_16 {s0 : Value} {s1 : Int32} {h : am_H} {r_ : Option am_O} (k_ : ((am_pP 3142 s0 (.int s1) h).bind fun h1 => some (.inl (some (.int 0), h1))) = r_) : fg_331_16 s0 s1 h = r_ := k_
theorem hd_331_0 {x0 : Value} {x1 : Int32} {h : am_H} {r_ : Option am_O} (k_ : ((am_vI (am_pG 3142 x0 h)).bind fun v1 => (if 0 ≤ v1 then ((am_vI (am_pG 3142 x0 h)).bind fun v4 => (fg_331_16 x0 v4 h)) else (fg_331_16 x0 x1 h))) = r_) : fg_331_0 x0 x1 h = r_ := k_
theorem hm_331 {y0 : Value} {y1 : Int32} {h : am_H} {r_ : Option am_O} (k_ : fg_331_0 y0 y1 h = r_) : fm_331 y0 y1 h = r_ := k_
theorem hd_332_18 {s0 : Int32} {h : am_H} {r_ : Option am_O} (k_ : some (.inl (some (.int s0), h)) = r_) : fg_332_18 s0 h = r_ := k_
theorem hd_332_0 {x0 : Value} {x1 : Int32} {h : am_H} {r_ : Option am_O} (k_ : ((am_vI (am_pG 3140 x0 h)).bind fun v1 => (if v1 ≤ x1 then (fg_332_18 ((-1)) h) else ((am_vR (am_pG 3139 x0 h)).bind fun v4 => ((am_pA 0 v4 x1 h).bind fun v6 => (fg_332_18 v6 h))))) = r_) : fg_332_0 x0 x1 h = r_ := k_
theorem hm_332 {y0 : Value} {y1 : Int32} {h : am_H} {r_ : Option am_O} (k_ : fg_332_0 y0 y1 h = r_) : fm_332 y0 y1 h = r_ := k_
theorem hd_336_0 {x0 : Value} {x1 : Int32} {h : am_H} {r_ : Option am_O} (k_ : ((am_vI (am_pG 3141 x0 h)).bind fun v1 => (if am_pOk 12 x0 h then am_cI true (fm_332 x0 v1 h) (fun v4 h5 => (if v4 = x1 then ((am_vI (am_pG 3141 x0 h5)).bind fun v8 => ((am_pP 3141 x0 (.int (v8 + 1)) h5).bind fun h10 => some (.inl (some (.int 1), h10)))) else ((am_vI (am_pG 3141 x0 h5)).bind fun v12 => (if am_pOk 12 x0 h5 then am_cI true (fm_331 x0 v12 h5) (fun v15 h16 => (if am_rfit (some FieldType.boolean) v15 then some (.inl (some (.int v15), h16)) else none)) else none)))) else none)) = r_) : fg_336_0 x0 x1 h = r_ := k_
theorem hm_336 {y0 : Value} {y1 : Int32} {h : am_H} {r_ : Option am_O} (k_ : fg_336_0 y0 y1 h = r_) : fm_336 y0 y1 h = r_ := k_
theorem hd_339_0 {x0 : Value} {x1 : Int32} {h : am_H} {r_ : Option am_O} (k_ : (if am_pOk 12 x0 h then am_cI true (fm_332 x0 x1 h) (fun v2 h3 => am_cI false (fm_327 ((Int32.toInt64 v2)) 48 57 h3) (fun v5 h6 => (if am_rfit (some FieldType.boolean) v5 then some (.inl (some (.int v5), h6)) else none))) else none) = r_) : fg_339_0 x0 x1 h = r_ := k_
theorem hm_339 {y0 : Value} {y1 : Int32} {h : am_H} {r_ : Option am_O} (k_ : fg_339_0 y0 y1 h = r_) : fm_339 y0 y1 h = r_ := k_
theorem hd_340_66 {s0 : Value} {s1 : Int32} {h : am_H} {r_ : Option am_O} (k_ : ((am_pP 3144 s0 (.int s1) h).bind fun h1 => some (.inl (some (.int 1), h1))) = r_) : fg_340_66 s0 s1 h = r_ := k_
theorem hd_340_37 {x0 : Value} {x1 : Int32} {s0 : Value} {s1 : Int32} {h : am_H} {r_ : Option am_O} (k_ : ((am_pP 3141 s0 (.int s1) h).bind fun h1 => (if am_pOk 12 x0 h1 then am_cI true (fm_341 x0 h1) (fun v4 h5 => (if ¬ v4 = 0 then (if x1 = 0 then ((am_vI (am_pG 3144 x0 h5)).bind fun v9 => (fg_340_66 x0 v9 h5)) else ((am_vI (am_pG 3144 x0 h5)).bind fun v11 => (fg_340_66 x0 ((-v11)) h5))) else some (.inl (some (.int 0), h5)))) else none)) = r_) : fg_340_37 x0 x1 s0 s1 h = r_ := k_
theorem hd_340_18 {x0 : Value} {s0 : Int32} {h : am_H} {r_ : Option am_O} (k_ : (if s0 = 0 then ((am_vI (am_pG 3141 x0 h)).bind fun v2 => (fg_340_37 x0 s0 x0 v2 h)) else ((am_vI (am_pG 3141 x0 h)).bind fun v4 => (fg_340_37 x0 s0 x0 ((v4 + 1)) h))) = r_) : fg_340_18 x0 s0 h = r_ := k_
theorem hd_340_0 {x0 : Value} {h : am_H} {r_ : Option am_O} (k_ : ((am_vI (am_pG 3141 x0 h)).bind fun v1 => (if am_pOk 12 x0 h then am_cI true (fm_332 x0 v1 h) (fun v4 h5 => (if ¬ v4 = 45 then (fg_340_18 x0 0 h5) else (fg_340_18 x0 1 h5))) else none)) = r_) : fg_340_0 x0 h = r_ := k_
theorem hm_340 {y0 : Value} {h : am_H} {r_ : Option am_O} (k_ : fg_340_0 y0 h = r_) : fm_340 y0 h = r_ := k_
theorem hd_341_91 {h : am_H} {r_ : Option am_O} (k_ : some (.inl (some (.int 1), h)) = r_) : fg_341_91 h = r_ := k_
theorem hd_341_0 {x0 : Value} {h : am_H} {r_ : Option am_O} (k_ : ((am_vI (am_pG 3141 x0 h)).bind fun v1 => (if am_pOk 12 x0 h then am_cI true (fm_339 x0 v1 h) (fun v4 h5 => (if ¬ v4 = 0 then ((am_vR (am_pG 3139 x0 h5)).bind fun v8 => ((am_vI (am_pG 3141 x0 h5)).bind fun v10 => ((am_pA 0 v8 v10 h5).bind fun v12 => ((am_pP 3144 x0 (.int (v12 - 48)) h5).bind fun h14 => ((am_vI (am_pG 3141 x0 h14)).bind fun v16 => ((am_pP 3141 x0 (.int (v16 + 1)) h14).bind fun h18 => ((am_vI (am_pG 3141 x0 h18)).bind fun v20 => (if am_pOk 12 x0 h18 then am_cI true (fm_339 x0 v20 h18) (fun v23 h24 => (if v23 = 0 then (fg_341_91 h24) else ((am_vI (am_pG 3144 x0 h24)).bind fun v27 => ((am_vR (am_pG 3139 x0 h24)).bind fun v29 => ((am_vI (am_pG 3141 x0 h24)).bind fun v31 => ((am_pA 0 v29 v31 h24).bind fun v33 => ((am_pP 3144 x0 (.int (((10 * v27) + v33) - 48)) h24).bind fun h35 => ((am_vI (am_pG 3141 x0 h35)).bind fun v37 => ((am_pP 3141 x0 (.int (v37 + 1)) h35).bind fun h39 => (fg_341_91 h39)))))))))) else none)))))))) else ((am_vI (am_pG 3141 x0 h5)).bind fun v41 => (if am_pOk 12 x0 h5 then am_cI true (fm_331 x0 v41 h5) (fun v44 h45 => (if am_rfit (some FieldType.boolean) v44 then some (.inl (some (.int v44), h45)) else none)) else none)))) else none)) = r_) : fg_341_0 x0 h = r_ := k_
theorem hm_341 {y0 : Value} {h : am_H} {r_ : Option am_O} (k_ : fg_341_0 y0 h = r_) : fm_341 y0 h = r_ := k_

def stR (V : Nat → Nat → Value) (I : Nat → Nat → Int32) (T : Nat → Nat) (m p : Nat) (w : Int32) : Prop := V 174 68 = .int (nI m) ∧ V 174 69 = .int (nI p) ∧ V 174 70 = .int w ∧ tqT T m (I 218)
def frRd (V W : Nat → Nat → Value) (I J : Nat → Nat → Int32) : Prop := (∀ a j, ¬ (a = 174 ∧ (j = 14 ∨ (69 ≤ j ∧ j ≤ 77))) → W a j = V a j) ∧ (∀ y, ¬ (y = 186 ∨ y = 187 ∨ y = 194 ∨ y = 211 ∨ (219 ≤ y ∧ y ≤ 222)) → J y = I y) ∧ (wt V → wt W)
theorem frRd_r {V : Nat → Nat → Value} {I : Nat → Nat → Int32} : frRd V V I I := ⟨fun _ _ _ => rfl, fun _ _ => rfl, id⟩
theorem frRd_t {U V W : Nat → Nat → Value} {G I J : Nat → Nat → Int32} (f : frRd U V G I) (g : frRd V W I J) : frRd U W G J := ⟨fun a j h => (g.1 a j h).trans (f.1 a j h), fun y h => (g.2.1 y h).trans (f.2.1 y h), fun h => g.2.2 (f.2.2 h)⟩
theorem frRd_v {V : Nat → Nat → Value} {I : Nat → Nat → Int32} {j : Nat} {x : Int32} (h : j = 69 ∨ j = 70 ∨ j = 72 ∨ j = 73 ∨ j = 77) : frRd V (vup V 174 j (.int x)) I I := ⟨fun a k q => vup_o (fun e => q ⟨e.1, by omega⟩), fun _ _ => rfl, fun w => wt_i w (by rcases h with rfl | rfl | rfl | rfl | rfl <;> decide)⟩
theorem stR_a {V : Nat → Nat → Value} {I : Nat → Nat → Int32} {T : Nat → Nat} {m p : Nat} {w : Int32} {q : Nat} (h : stR V I T m p w) : stR (vup V 174 69 (.int (nI q))) I T m q w := ⟨(vup_o (by decide)).trans h.1, vup_eq, (vup_o (by decide)).trans h.2.2.1, h.2.2.2⟩
theorem stR_w {V : Nat → Nat → Value} {I : Nat → Nat → Int32} {T : Nat → Nat} {m p : Nat} {w x : Int32} (h : stR V I T m p w) : stR (vup V 174 70 (.int x)) I T m p x := ⟨(vup_o (by decide)).trans h.1, (vup_o (by decide)).trans h.2.1, vup_eq, h.2.2.2⟩
theorem stR_o {V : Nat → Nat → Value} {I : Nat → Nat → Int32} {T : Nat → Nat} {m p : Nat} {w : Int32} {j : Nat} {x : Value} (hj : j ≠ 68 ∧ j ≠ 69 ∧ j ≠ 70) (h : stR V I T m p w) : stR (vup V 174 j x) I T m p w := ⟨(vup_o (fun q => hj.1 q.2.symm)).trans h.1, (vup_o (fun q => hj.2.1 q.2.symm)).trans h.2.1, (vup_o (fun q => hj.2.2 q.2.symm)).trans h.2.2.1, h.2.2.2⟩
def resR {α : Type} (r : Nat ⊕ (Nat × α)) (W : Nat → Nat → Value) (J : Nat → Nat → Int32) (T : Nat → Nat) (m : Nat) (x : Int32) (ok : α → Prop) : Prop := match r with
  | .inl e => e ≤ m ∧ x = 0 ∧ ∃ p', p' ≤ m ∧ stR W J T m p' (nI e)
  | .inr (q, a) => q ≤ m ∧ x = 1 ∧ stR W J T m q (-1) ∧ ok a
def rByt (T : Nat → Nat) (m q : Nat) : Int32 := if q < m then nI (T q) else -1
theorem nI_ng1 {c : Nat} (hc : c < 256) : ¬ (-1 : Int32) = nI c := fun e => by
  have h : (0 : Int32) ≤ -1 := by rw [e]; exact nI_pos' (by omega)
  exact absurd h (by decide)
theorem rByt_eq {T : Nat → Nat} {m q c : Nat} {f : Nat → Int32} (ht : tqT T m f) (h1 : 1 ≤ c) (h2 : c < 256) : rByt T m q = nI c ↔ T q = c := by
  have t := tq_256 ht q
  unfold rByt
  by_cases a : q < m
  · rw [if_pos a, nI_eq (by omega) (by omega)]
  · rw [if_neg a, ht.2.2 q (by omega)]
    exact ⟨fun e => absurd e (nI_ng1 h2), fun e => by omega⟩
theorem r_332 {V : Nat → Nat → Value} {I : Nat → Nat → Int32} {L : Nat → Nat → Int64} {R : Nat → Nat → Option Nat} {tl : am_H} {T : Nat → Nat} {m p : Nat} {w : Int32} {q : Nat} (h : stR V I T m p w) (hq : q ≤ 300) : fm_332 (.ref 174) (nI q) (fx V I L R ++ tl) = some (.inl (some (.int (rByt T m q)), fx V I L R ++ tl)) := by
  obtain ⟨h1, h2, h3, m240, hT, hZ⟩ := h
  apply hm_332
  apply hd_332_0
  refine ev_b (rdI h1) ?_
  unfold rByt
  by_cases c : q < m
  · rw [if_pos c]
    exact ev_f (nI_ge c (by omega)) (ev_b (rdR rfl) (ev_b ((qa_218 (by omega)).trans (congrArg some (hT q c).1)) (hd_332_18 rfl)))
  · rw [if_neg c]
    exact ev_t (nI_le (by omega) (by omega)) (hd_332_18 rfl)
theorem pv_dg {T : Nat → Nat} {m q : Nat} {f : Nat → Int32} (ht : tqT T m f) : pv_327 (rByt T m q).toInt64 48 57 = bI (dgB (T q)) := by
  have t := tq_256 ht q
  unfold rByt
  by_cases a : q < m
  · rw [if_pos a]
    by_cases b : 48 ≤ T q
    · by_cases c : T q ≤ 57
      · rw [dgB_t.mpr ⟨b, c⟩]
        exact in_ok (w64le (a := 48) (nI_le (a := 48) b (by omega))) (w64le (b := 57) (nI_le (b := 57) c (by omega)))
      · rw [dgB_f.mpr (by omega)]
        exact in_hi (w64lt (a := 57) (nI_lt (a := 57) (by omega) (by omega)))
    · rw [dgB_f.mpr (by omega)]
      exact in_lo (w64lt (b := 48) (nI_lt (b := 48) (by omega) (by omega)))
  · rw [if_neg a, ht.2.2 q (by omega)]
    exact in_lo (w64lt (b := 48) (by decide))
theorem r_339 {V : Nat → Nat → Value} {I : Nat → Nat → Int32} {L : Nat → Nat → Int64} {R : Nat → Nat → Option Nat} {tl : am_H} {T : Nat → Nat} {m p : Nat} {w : Int32} {q : Nat} (h : stR V I T m p w) (hq : q ≤ 300) : fm_339 (.ref 174) (nI q) (fx V I L R ++ tl) = some (.inl (some (.int (bI (dgB (T q)))), fx V I L R ++ tl)) := by
  apply hm_339
  apply hd_339_0
  refine ev_i rfl (ev_cI (r_332 h hq) (ev_cI (pe_327 _ _ _ _) ?_))
  rw [pv_dg h.2.2.2]
  exact ev_i (bI_fit _) rfl
theorem r_331 {V : Nat → Nat → Value} {I : Nat → Nat → Int32} {L : Nat → Nat → Int64} {R : Nat → Nat → Option Nat} {tl : am_H} {T : Nat → Nat} {m p : Nat} {x : Int32} (h : stR V I T m p (-1)) : fm_331 (.ref 174) x (fx V I L R ++ tl) = some (.inl (some (.int 0), fx (vup V 174 70 (.int x)) I L R ++ tl)) := by
  apply hm_331
  apply hd_331_0
  exact ev_b (rdI h.2.2.1) (ev_f (by decide) (hd_331_16 (ev_b qp_174_70 rfl)))
theorem r_336 {V : Nat → Nat → Value} {I : Nat → Nat → Int32} {L : Nat → Nat → Int64} {R : Nat → Nat → Option Nat} {tl : am_H} {T : Nat → Nat} {m p : Nat} {c : Nat} (h1 : 1 ≤ c) (h2 : c < 256) {x : Int32} (hx : x = nI c) (h : stR V I T m p (-1)) (hp : p ≤ m) : fm_336 (.ref 174) x (fx V I L R ++ tl) = if T p = c then some (.inl (some (.int 1), fx (vup V 174 69 (.int (nI (p + 1)))) I L R ++ tl)) else some (.inl (some (.int 0), fx (vup V 174 70 (.int (nI p))) I L R ++ tl)) := by
  have m240 := h.2.2.2.1
  apply hm_336
  apply hd_336_0
  refine ev_b (rdI h.2.1) (ev_i rfl (ev_cI (r_332 h (by omega)) ?_))
  rw [hx]
  by_cases z : T p = c
  · rw [if_pos z, if_pos ((rByt_eq h.2.2.2 h1 h2).mpr z)]
    refine ev_b (rdI h.2.1) ?_
    rw [nI_1]
    exact ev_b qp_174_69 rfl
  · rw [if_neg z, if_neg (fun q => z ((rByt_eq h.2.2.2 h1 h2).mp q))]
    exact ev_b (rdI h.2.1) (ev_i rfl (ev_cI (r_331 h) (ev_i rfl rfl)))
set_option maxRecDepth 100000 in
theorem r_341 {V : Nat → Nat → Value} {I : Nat → Nat → Int32} {L : Nat → Nat → Int64} {R : Nat → Nat → Option Nat} {tl : am_H} {T : Nat → Nat} {m p : Nat} (h : stR V I T m p (-1)) (hp : p ≤ m) : ∃ x W, fm_341 (.ref 174) (fx V I L R ++ tl) = some (.inl (some (.int x), fx W I L R ++ tl)) ∧ frRd V W I I ∧ (∀ j, ¬ (69 ≤ j ∧ j ≤ 72) → W 174 j = V 174 j) ∧ resR (dgS T p) W I T m x (fun d => W 174 72 = .int (nI d) ∧ d < 100) := by
  have m240 := h.2.2.2.1
  have t0 := tq_256 h.2.2.2 p
  have t1 := tq_256 h.2.2.2 (p + 1)
  unfold dgS
  by_cases c : dgB (T p) = true
  · rw [if_pos c]
    obtain ⟨c1, c2⟩ := dgB_t.mp c
    have pm : p < m := tq_m h.2.2.2 (by omega)
    have g : ∀ (W : Nat → Nat → Value), am_pA 0 (.ref 218) (nI p) (fx W I L R ++ tl) = some (nI (T p)) := fun W => (qa_218 (by omega)).trans (congrArg some (h.2.2.2.2.1 p pm).1)
    obtain ⟨V1, eV1⟩ : ∃ X, X = vup V 174 72 (.int (nI (T p - 48))) := ⟨_, rfl⟩
    have s1 : stR V1 I T m p (-1) := by rw [eV1]; exact stR_o (by decide) h
    have f1 : frRd V V1 I I := by rw [eV1]; exact frRd_v (by decide)
    obtain ⟨V2, eV2⟩ : ∃ X, X = vup V1 174 69 (.int (nI (p + 1))) := ⟨_, rfl⟩
    have s2 : stR V2 I T m (p + 1) (-1) := by rw [eV2]; exact stR_a s1
    have f2 : frRd V1 V2 I I := by rw [eV2]; exact frRd_v (by decide)
    have d72 : V2 174 72 = .int (nI (T p - 48)) := by rw [eV2, vup_o (by decide), eV1]; exact vup_eq
    have o2 : ∀ j, ¬ (69 ≤ j ∧ j ≤ 72) → V2 174 j = V 174 j := fun j hj => by rw [eV2, vup_o (by omega), eV1, vup_o (by omega)]
    have pre : ∀ o, (if bI (dgB (T (p + 1))) = 0 then fg_341_91 (fx V2 I L R ++ tl) else ((am_vI (am_pG 3144 (.ref 174) (fx V2 I L R ++ tl))).bind fun v27 => ((am_vR (am_pG 3139 (.ref 174) (fx V2 I L R ++ tl))).bind fun v29 => ((am_vI (am_pG 3141 (.ref 174) (fx V2 I L R ++ tl))).bind fun v31 => ((am_pA 0 v29 v31 (fx V2 I L R ++ tl)).bind fun v33 => ((am_pP 3144 (.ref 174) (.int (((10 * v27) + v33) - 48)) (fx V2 I L R ++ tl)).bind fun h35 => ((am_vI (am_pG 3141 (.ref 174) h35)).bind fun v37 => ((am_pP 3141 (.ref 174) (.int (v37 + 1)) h35).bind fun h39 => (fg_341_91 h39))))))))) = o → fm_341 (.ref 174) (fx V I L R ++ tl) = o := fun o k_ => by
      apply hm_341
      apply hd_341_0
      refine ev_b (rdI h.2.1) (ev_i rfl (ev_cI (r_339 h (by omega)) (ev_t (dI_nz c) (ev_b (rdR rfl) (ev_b (rdI h.2.1) (ev_b (g V) (ev_b (a := fx V1 I L R ++ tl) (by rw [nI_48 c1 t0, eV1]; exact qp_174_72) (ev_b (rdI s1.2.1) (ev_b (a := fx V2 I L R ++ tl) (by rw [nI_1, eV2]; exact qp_174_69) (ev_b (rdI s2.2.1) (ev_i rfl (ev_cI (r_339 s2 (by omega)) k_))))))))))))
    by_cases d : dgB (T (p + 1)) = true
    · rw [if_pos d]
      obtain ⟨d1, d2⟩ := dgB_t.mp d
      have pm2 : p + 1 < m := tq_m h.2.2.2 (by omega)
      have g2 : am_pA 0 (.ref 218) (nI (p + 1)) (fx V2 I L R ++ tl) = some (nI (T (p + 1))) := (qa_218 (by omega)).trans (congrArg some (h.2.2.2.2.1 (p + 1) pm2).1)
      obtain ⟨V3, eV3⟩ : ∃ X, X = vup V2 174 72 (.int (nI (10 * (T p - 48) + (T (p + 1) - 48)))) := ⟨_, rfl⟩
      have s3 : stR V3 I T m (p + 1) (-1) := by rw [eV3]; exact stR_o (by decide) s2
      have f3 : frRd V2 V3 I I := by rw [eV3]; exact frRd_v (by decide)
      refine ⟨1, vup V3 174 69 (.int (nI (p + 2))), pre _ (ev_f (dI_nz d) (ev_b (rdI d72) (ev_b (rdR rfl) (ev_b (rdI s2.2.1) (ev_b g2 (ev_b (a := fx V3 I L R ++ tl) ?_ (ev_b (rdI s3.2.1) (ev_b (a := fx (vup V3 174 69 (.int (nI (p + 2)))) I L R ++ tl) (by rw [nI_1]; exact qp_174_69) (hd_341_91 rfl))))))))), frRd_t f1 (frRd_t f2 (frRd_t f3 (frRd_v (by decide)))), fun j hj => by rw [vup_o (by omega), eV3, vup_o (by omega)]; exact o2 j hj, by omega, rfl, stR_a s3, by rw [vup_o (by decide), eV3]; exact vup_eq, by omega⟩
      rw [show (10 : Int32) * nI (T p - 48) + nI (T (p + 1)) - 48 = nI (10 * (T p - 48) + (T (p + 1) - 48)) by rw [show (10 : Int32) * nI (T p - 48) = nI (10 * (T p - 48)) from (nI_mul 10 _).symm, nI_add, show nI (10 * (T p - 48) + T (p + 1)) - 48 = nI (10 * (T p - 48) + T (p + 1) - 48) from nI_sub (b := 48) (by omega), show 10 * (T p - 48) + T (p + 1) - 48 = 10 * (T p - 48) + (T (p + 1) - 48) by omega], eV3]
      exact qp_174_72
    · rw [if_neg d]
      have d' : dgB (T (p + 1)) = false := by rw [← Bool.not_eq_true]; exact d
      exact ⟨1, V2, pre _ (ev_t (dI_z d') (hd_341_91 rfl)), frRd_t f1 f2, o2, by omega, rfl, s2, d72, by omega⟩
  · rw [if_neg c]
    have c' : dgB (T p) = false := by rw [← Bool.not_eq_true]; exact c
    refine ⟨0, vup V 174 70 (.int (nI p)), ?_, frRd_v (by decide), fun j hj => vup_o (by omega), hp, rfl, p, hp, stR_w h⟩
    apply hm_341
    apply hd_341_0
    exact ev_b (rdI h.2.1) (ev_i rfl (ev_cI (r_339 h (by omega)) (ev_f (fun q => q (dI_z c')) (ev_b (rdI h.2.1) (ev_i rfl (ev_cI (r_331 h) (ev_i rfl rfl)))))))
theorem r_340 {V : Nat → Nat → Value} {I : Nat → Nat → Int32} {L : Nat → Nat → Int64} {R : Nat → Nat → Option Nat} {tl : am_H} {T : Nat → Nat} {m p : Nat} (h : stR V I T m p (-1)) (hp : p ≤ m) : ∃ x W, fm_340 (.ref 174) (fx V I L R ++ tl) = some (.inl (some (.int x), fx W I L R ++ tl)) ∧ frRd V W I I ∧ (∀ j, ¬ (69 ≤ j ∧ j ≤ 72) → W 174 j = V 174 j) ∧ resR (csT T p) W I T m x (fun y => W 174 72 = .int y ∧ two y) := by
  have m240 := h.2.2.2.1
  unfold csT
  obtain ⟨b, eb⟩ : ∃ b : Bool, b = decide (T p = 45) := ⟨_, rfl⟩
  obtain ⟨p1, ep⟩ : ∃ p1, p1 = if T p = 45 then p + 1 else p := ⟨_, rfl⟩
  have hp1 : p1 ≤ m := by
    rw [ep]
    by_cases c : T p = 45
    · have := tq_m h.2.2.2 (p := p) (by omega)
      rw [if_pos c]; omega
    · rw [if_neg c]; exact hp
  rw [← eb, ← ep]
  obtain ⟨V1, eV1⟩ : ∃ X, X = vup V 174 69 (.int (nI p1)) := ⟨_, rfl⟩
  have s1 : stR V1 I T m p1 (-1) := by rw [eV1]; exact stR_a h
  have f1 : frRd V V1 I I := by rw [eV1]; exact frRd_v (by decide)
  obtain ⟨x, W, e, f, g, r⟩ := r_341 (V := V1) (I := I) (L := L) (R := R) (tl := tl) s1 hp1
  have pre : ∀ o, (if ¬ x = 0 then (if bI b = 0 then ((am_vI (am_pG 3144 (.ref 174) (fx W I L R ++ tl))).bind fun v9 => (fg_340_66 (.ref 174) v9 (fx W I L R ++ tl))) else ((am_vI (am_pG 3144 (.ref 174) (fx W I L R ++ tl))).bind fun v11 => (fg_340_66 (.ref 174) ((-v11)) (fx W I L R ++ tl)))) else some (.inl (some (.int 0), fx W I L R ++ tl))) = o → fm_340 (.ref 174) (fx V I L R ++ tl) = o := fun o k_ => by
    apply hm_340
    apply hd_340_0
    refine ev_b (rdI h.2.1) (ev_i rfl (ev_cI (r_332 h (by omega)) ?_))
    by_cases c : T p = 45
    · rw [show b = true by rw [eb]; exact decide_eq_true c] at k_
      rw [if_pos c] at ep
      refine ev_f (fun q => q ((rByt_eq h.2.2.2 (c := 45) (by omega) (by omega)).mpr c)) (hd_340_18 (ev_f (by decide) (ev_b (rdI h.2.1) (hd_340_37 (ev_b (a := fx V1 I L R ++ tl) (by rw [nI_1, ← ep, eV1]; exact qp_174_69) (ev_i rfl (ev_cI e k_)))))))
    · rw [show b = false by rw [eb]; exact decide_eq_false c] at k_
      rw [if_neg c] at ep
      refine ev_t (fun q => c ((rByt_eq h.2.2.2 (c := 45) (by omega) (by omega)).mp q)) (hd_340_18 (ev_t rfl (ev_b (rdI h.2.1) (hd_340_37 (ev_b (a := fx V1 I L R ++ tl) (by rw [← ep, eV1]; exact qp_174_69) (ev_i rfl (ev_cI e k_)))))))
  have gj : ∀ j, ¬ (69 ≤ j ∧ j ≤ 72) → W 174 j = V 174 j := fun j hj => (g j hj).trans (by rw [eV1]; exact vup_o (by omega))
  cases q : dgS T p1 with
  | inl w =>
    rw [q] at r
    obtain ⟨r1, rfl, r3⟩ := r
    exact ⟨0, W, pre _ (ev_f (fun u => u rfl) rfl), frRd_t f1 f, gj, r1, rfl, r3⟩
  | inr a =>
    rw [q] at r
    obtain ⟨r1, rfl, s2, r4, r5⟩ := r
    refine ⟨1, vup W 174 72 (.int (sgn b (nI a.2))), pre _ (ev_t (by decide) ?_), frRd_t f1 (frRd_t f (frRd_v (by decide))), fun j hj => (vup_o (by omega)).trans (gj j hj), r1, rfl, stR_o (by decide) s2, vup_eq, ?_⟩
    · cases b with
      | true => exact ev_f (by decide) (ev_b (rdI r4) (hd_340_66 (ev_b qp_174_72 rfl)))
      | false => exact ev_t rfl (ev_b (rdI r4) (hd_340_66 (ev_b qp_174_72 rfl)))
    · cases b with
      | true => exact .inr ⟨a.2, by omega, rfl⟩
      | false => exact .inl ⟨a.2, by omega, rfl⟩
theorem dkL_ap {V : Nat → Nat → Value} {I : Nat → Nat → Int32} {L : Nat → Nat → Int64} {R : Nat → Nat → Option Nat} {tl : am_H} {T : Nat → Nat} {m p : Nat} {w : Int32} {P : xI} (hd : dkL V I P) (hl : P.length < 60) (h : stR V I T m p w) (a b : Int32) : ∃ W J, fm_335 (.ref 174) a b (fx V I L R ++ tl) = some (.inl (none, fx W J L R ++ tl)) ∧ frRd V W I J ∧ (∀ j, j ≠ 14 → W 174 j = V 174 j) ∧ (∀ y, y ≠ 186 → y ≠ 187 → J y = I y) ∧ stR W J T m p w ∧ dkL W J (P ++ [(a, b)]) := by
  refine ⟨_, _, x_335 hd.1 (by omega) a b, ⟨fun x j q => vup_o (fun e => q ⟨e.1, .inl e.2⟩), fun y q => by rw [iup_na (by omega), iup_na (by omega)], fun w => wt_i w (by decide)⟩, fun j hj => vup_o (by omega), fun y h1 h2 => by rw [iup_na h2, iup_na h1], ⟨(vup_o (by decide)).trans h.1, (vup_o (by decide)).trans h.2.1, (vup_o (by decide)).trans h.2.2.1, by rw [iup_na (by decide), iup_na (by decide)]; exact h.2.2.2⟩, by rw [List.length_append]; exact vup_eq, ?_⟩
  rw [iup_eq, iup_na (by decide), iup_eq]
  exact lay2_app hd.2
