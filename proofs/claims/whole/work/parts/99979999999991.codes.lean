/-! ===== read: code, both sides ===== -/
theorem hd_48_111 {N : Nat} {h : am_H} {r_ : Option am_O} (k_ : some (.inl (none, h)) = r_) : fg_48_111 N h = r_ := k_
theorem hd_48_105 {N : Nat} {rec_15 : Value → Int32 → Int32 → Int32 → am_H → Option am_O} {x0 : Value} {x1 : Int32} {x2 : Int32} {x3 : Int32} {h : am_H} {r_ : Option am_O} (k_ : (rec_15 x0 x1 x2 ((x3 + 1)) h) = r_) : fg_48_105 N rec_15 x0 x1 x2 x3 h = r_ := k_
theorem hd_48_66 {N : Nat} {rec_15 : Value → Int32 → Int32 → Int32 → am_H → Option am_O} {x0 : Value} {x1 : Int32} {x2 : Int32} {x3 : Int32} {h : am_H} {r_ : Option am_O} (k_ : (if ¬ x3 = x2 then (if ¬ x1 = 1 then (if am_pOk 9 x0 h then am_cV true (fm_50 N x0 x3 h) (fun h5 => (fg_48_105 N rec_15 x0 x1 x2 x3 h5)) else none) else ((am_vR (am_pG 2309 x0 h)).bind fun v7 => ((am_vI (am_pG 2306 x0 h)).bind fun v9 => ((am_pS 0 v7 x3 v9 h).bind fun h11 => (if am_pOk 9 x0 h11 then am_cV true (fm_49 N x0 h11) (fun h15 => (fg_48_105 N rec_15 x0 x1 x2 x3 h15)) else none))))) else (if am_pOk 9 x0 h then am_cV true (fm_39 x0 h) (fun h19 => (fg_48_105 N rec_15 x0 x1 x2 x3 h19)) else none)) = r_) : fg_48_66 N rec_15 x0 x1 x2 x3 h = r_ := k_
theorem hd_48_59 {N : Nat} {rec_15 : Value → Int32 → Int32 → Int32 → am_H → Option am_O} {x0 : Value} {x1 : Int32} {x2 : Int32} {x3 : Int32} {s0 : Value} {s1 : Int32} {h : am_H} {r_ : Option am_O} (k_ : (if am_pOk 9 s0 h then am_cI true (fm_42 s0 s1 h) (fun v2 h3 => (if ¬ v2 = 0 then (fg_48_66 N rec_15 x0 x1 x2 x3 h3) else some (.inl (none, h3)))) else none) = r_) : fg_48_59 N rec_15 x0 x1 x2 x3 s0 s1 h = r_ := k_
theorem hd_48_42 {N : Nat} {rec_15 : Value → Int32 → Int32 → Int32 → am_H → Option am_O} {x0 : Value} {x1 : Int32} {x2 : Int32} {x3 : Int32} {h : am_H} {r_ : Option am_O} (k_ : (if x3 ≤ 0 then (fg_48_66 N rec_15 x0 x1 x2 x3 h) else (if ¬ x1 = 1 then (fg_48_59 N rec_15 x0 x1 x2 x3 x0 59 h) else (fg_48_59 N rec_15 x0 x1 x2 x3 x0 32 h))) = r_) : fg_48_42 N rec_15 x0 x1 x2 x3 h = r_ := k_
theorem hd_48_15 {N : Nat} {K : Nat} {x0 : Value} {x1 : Int32} {x2 : Int32} {x3 : Int32} {h : am_H} {r_ : Option am_O} (k_ : (if x2 < x3 then (fg_48_111 N h) else ((am_vI (am_pG 2307 x0 h)).bind fun v2 => (if 0 ≤ v2 then (fg_48_111 N h) else (if x3 = 0 then (fg_48_42 N (fg_48_15 N K) x0 x1 x2 x3 h) else ((am_vI (am_pG 2306 x0 h)).bind fun v6 => ((am_vI (am_pG 2305 x0 h)).bind fun v8 => (if v8 ≤ v6 then (fg_48_111 N h) else (fg_48_42 N (fg_48_15 N K) x0 x1 x2 x3 h)))))))) = r_) : fg_48_15 N (K + 1) x0 x1 x2 x3 h = r_ := by rw [fg_48_15]; exact k_
theorem hd_48_12 {N : Nat} {x0 : Value} {x1 : Int32} {s0 : Int32} {h : am_H} {r_ : Option am_O} (k_ : (fg_48_15 N N x0 x1 s0 0 h) = r_) : fg_48_12 N x0 x1 s0 h = r_ := k_
theorem hd_48_0 {N : Nat} {x0 : Value} {x1 : Int32} {h : am_H} {r_ : Option am_O} (k_ : (if ¬ x1 = 1 then (fg_48_12 N x0 x1 6 h) else (fg_48_12 N x0 x1 60 h)) = r_) : fg_48_0 N x0 x1 h = r_ := k_
theorem hm_48 {N : Nat} {y0 : Value} {y1 : Int32} {h : am_H} {r_ : Option am_O} (k_ : fg_48_0 N y0 y1 h = r_) : fm_48 N y0 y1 h = r_ := k_
theorem hd_49_164 {N : Nat} {h : am_H} {r_ : Option am_O} (k_ : some (.inl (none, h)) = r_) : fg_49_164 N h = r_ := k_
theorem hd_49_149 {N : Nat} {x0 : Value} {s0 : Value} {s1 : Int32} {h : am_H} {r_ : Option am_O} (k_ : (if am_pOk 9 x0 h then am_cI true (fm_44 N x0 h) (fun v2 h3 => (if am_pOk 3 s0 h3 then am_cI true (fm_41 N s0 s1 v2 h3) (fun v6 h7 => (fg_49_164 N h7)) else none)) else none) = r_) : fg_49_149 N x0 s0 s1 h = r_ := k_
theorem hd_49_122 {N : Nat} {x0 : Value} {x1 : Int32} {h : am_H} {r_ : Option am_O} (k_ : ((am_vI (am_pG 2306 x0 h)).bind fun v1 => ((am_pP 2306 x0 (.int (v1 + 1)) h).bind fun h3 => ((am_vR (am_pG 2308 x0 h3)).bind fun v5 => (if ¬ x1 = 106 then (fg_49_149 N x0 v5 18 h3) else (fg_49_149 N x0 v5 17 h3))))) = r_) : fg_49_122 N x0 x1 h = r_ := k_
theorem hd_49_65 {N : Nat} {x0 : Value} {h : am_H} {r_ : Option am_O} (k_ : ((am_vR (am_pG 2308 x0 h)).bind fun v1 => (if am_pOk 9 x0 h then am_cI true (fm_43 N x0 h) (fun v4 h5 => (if am_pOk 3 v1 h5 then am_cI true (fm_41 N v1 0 v4 h5) (fun v8 h9 => (fg_49_164 N h9)) else none)) else none)) = r_) : fg_49_65 N x0 h = r_ := k_
theorem hd_49_46 {N : Nat} {x0 : Value} {x1 : Int32} {s0 : Int32} {h : am_H} {r_ : Option am_O} (k_ : (if ¬ s0 = 0 then (fg_49_65 N x0 h) else am_cI false (fm_45 x1 h) (fun v2 h3 => (if v2 = 0 then (if (am_ixF x1 (am_txt 5) 0) < 0 then (if x1 = 106 then (fg_49_122 N x0 x1 h3) else (if ¬ x1 = 98 then (if am_pOk 9 x0 h3 then am_cV true (fm_39 x0 h3) (fun h11 => (fg_49_164 N h11)) else none) else (fg_49_122 N x0 x1 h3))) else ((am_vI (am_pG 2306 x0 h3)).bind fun v13 => ((am_pP 2306 x0 (.int (v13 + 1)) h3).bind fun h15 => ((am_vR (am_pG 2308 x0 h15)).bind fun v17 => (if am_pOk 3 v17 h15 then am_cI true (fm_41 N v17 (((am_ixF x1 (am_txt 5) 0) + 1)) 0 h15) (fun v20 h21 => (fg_49_164 N h21)) else none))))) else (fg_49_65 N x0 h3)))) = r_) : fg_49_46 N x0 x1 s0 h = r_ := k_
theorem hd_49_45 {N : Nat} {x0 : Value} {x1 : Int32} {h : am_H} {r_ : Option am_O} (k_ : (fg_49_46 N x0 x1 0 h) = r_) : fg_49_45 N x0 x1 h = r_ := k_
theorem hd_49_0 {N : Nat} {x0 : Value} {h : am_H} {r_ : Option am_O} (k_ : (if am_pOk 9 x0 h then am_cI true (fm_36 x0 h) (fun v2 h3 => (if ¬ v2 = 45 then (fg_49_45 N x0 v2 h3) else ((am_vI (am_pG 2306 x0 h3)).bind fun v6 => ((am_vI (am_pG 2305 x0 h3)).bind fun v8 => (if v8 ≤ (v6 + 1) then (fg_49_45 N x0 v2 h3) else ((am_vR (am_pG 2304 x0 h3)).bind fun v11 => ((am_vI (am_pG 2306 x0 h3)).bind fun v13 => ((am_pA 3 v11 (v13 + 1) h3).bind fun v15 => am_cI false (fm_45 v15 h3) (fun v17 h18 => (if v17 = 0 then (fg_49_45 N x0 v2 h18) else (fg_49_46 N x0 v2 1 h18))))))))))) else none) = r_) : fg_49_0 N x0 h = r_ := k_
theorem hm_49 {N : Nat} {y0 : Value} {h : am_H} {r_ : Option am_O} (k_ : fg_49_0 N y0 h = r_) : fm_49 N y0 h = r_ := k_
theorem hd_344_92 {N : Nat} {h : am_H} {r_ : Option am_O} (k_ : some (.inl (none, h)) = r_) : fg_344_92 N h = r_ := k_
theorem hd_344_76 {N : Nat} {x0 : Value} {s0 : Int32} {h : am_H} {r_ : Option am_O} (k_ : (if s0 < 0 then (fg_344_92 N h) else ((am_vR (am_pG 3143 x0 h)).bind fun v2 => ((am_pA 0 v2 s0 h).bind fun v4 => (if am_pOk 12 x0 h then am_cI true (fm_331 x0 v4 h) (fun v7 h8 => (fg_344_92 N h8)) else none)))) = r_) : fg_344_76 N x0 s0 h = r_ := k_
theorem hd_344_61 {N : Nat} {x0 : Value} {h : am_H} {r_ : Option am_O} (k_ : ((am_vI (am_pG 3142 x0 h)).bind fun v1 => (if 0 ≤ v1 then (fg_344_76 N x0 ((-1)) h) else (if am_pOk 12 x0 h then am_cI true (fm_347 N x0 h) (fun v5 h6 => (fg_344_76 N x0 v5 h6)) else none))) = r_) : fg_344_61 N x0 h = r_ := k_
theorem hd_344_57 {N : Nat} {rec_2 : Value → Int32 → am_H → Option am_O} {x0 : Value} {s0 : Int32} {h : am_H} {r_ : Option am_O} (k_ : (rec_2 x0 s0 h) = r_) : fg_344_57 N rec_2 x0 s0 h = r_ := k_
theorem hd_344_56 {N : Nat} {rec_2 : Value → Int32 → am_H → Option am_O} {x0 : Value} {h : am_H} {r_ : Option am_O} (k_ : (fg_344_57 N rec_2 x0 0 h) = r_) : fg_344_56 N rec_2 x0 h = r_ := k_
theorem hd_344_41 {N : Nat} {rec_2 : Value → Int32 → am_H → Option am_O} {x0 : Value} {x1 : Int32} {h : am_H} {r_ : Option am_O} (k_ : (if x1 = 0 then (fg_344_56 N rec_2 x0 h) else ((am_vI (am_pG 3142 x0 h)).bind fun v2 => (if 0 ≤ v2 then (fg_344_56 N rec_2 x0 h) else (fg_344_57 N rec_2 x0 1 h)))) = r_) : fg_344_41 N rec_2 x0 x1 h = r_ := k_
theorem hd_344_29 {N : Nat} {rec_2 : Value → Int32 → am_H → Option am_O} {x0 : Value} {s0 : Int32} {h : am_H} {r_ : Option am_O} (k_ : (if s0 = 0 then (fg_344_41 N rec_2 x0 s0 h) else (if am_pOk 12 x0 h then am_cI true (fm_336 x0 32 h) (fun v3 h4 => (fg_344_41 N rec_2 x0 s0 h4)) else none)) = r_) : fg_344_29 N rec_2 x0 s0 h = r_ := k_
theorem hd_344_2 {N : Nat} {K : Nat} {x0 : Value} {x1 : Int32} {h : am_H} {r_ : Option am_O} (k_ : (if x1 = 0 then (fg_344_61 N x0 h) else (if am_pOk 12 x0 h then am_cI true (fm_345 x0 h) (fun v3 h4 => (if v3 = 0 then (fg_344_61 N x0 h4) else ((am_vI (am_pG 3141 x0 h4)).bind fun v7 => ((am_vI (am_pG 3140 x0 h4)).bind fun v9 => (if v9 ≤ v7 then (fg_344_29 N (fg_344_2 N K) x0 0 h4) else (fg_344_29 N (fg_344_2 N K) x0 1 h4)))))) else none)) = r_) : fg_344_2 N (K + 1) x0 x1 h = r_ := by rw [fg_344_2]; exact k_
theorem hd_344_0 {N : Nat} {x0 : Value} {h : am_H} {r_ : Option am_O} (k_ : (fg_344_2 N N x0 1 h) = r_) : fg_344_0 N x0 h = r_ := k_
theorem hm_344 {N : Nat} {y0 : Value} {h : am_H} {r_ : Option am_O} (k_ : fg_344_0 N y0 h = r_) : fm_344 N y0 h = r_ := k_
theorem hd_345_154 {s0 : Value} {s1 : Int32} {s2 : Int32} {h : am_H} {r_ : Option am_O} (k_ : (if am_pOk 12 s0 h then am_cV true (fm_335 s0 s1 s2 h) (fun h3 => some (.inl (some (.int 1), h3))) else none) = r_) : fg_345_154 s0 s1 s2 h = r_ := k_
theorem hd_345_138 {x0 : Value} {x2 : Int32} {h : am_H} {r_ : Option am_O} (k_ : (if x2 ≤ 16 then (fg_345_154 x0 x2 0 h) else ((am_vI (am_pG 3144 x0 h)).bind fun v2 => (fg_345_154 x0 x2 v2 h))) = r_) : fg_345_138 x0 x2 h = r_ := k_
theorem hd_345_90 {x0 : Value} {x1 : Int32} {h : am_H} {r_ : Option am_O} (k_ : am_cI false (fm_346 x1 h) (fun v1 h2 => (if 0 ≤ v1 then ((am_vI (am_pG 3141 x0 h2)).bind fun v5 => ((am_pP 3141 x0 (.int (v5 + 1)) h2).bind fun h7 => ((am_pP 3144 x0 (.int 0) h7).bind fun h9 => (if v1 ≤ 16 then (fg_345_138 x0 v1 h9) else (if am_pOk 12 x0 h9 then am_cI true (fm_341 x0 h9) (fun v13 h14 => (if ¬ v13 = 0 then (fg_345_138 x0 v1 h14) else some (.inl (some (.int 0), h14)))) else none))))) else ((am_vI (am_pG 3141 x0 h2)).bind fun v17 => (if am_pOk 12 x0 h2 then am_cI true (fm_331 x0 v17 h2) (fun v20 h21 => (if am_rfit (some FieldType.boolean) v20 then some (.inl (some (.int v20), h21)) else none)) else none)))) = r_) : fg_345_90 x0 x1 h = r_ := k_
theorem hd_345_70 {x0 : Value} {h : am_H} {r_ : Option am_O} (k_ : (if am_pOk 12 x0 h then am_cI true (fm_340 x0 h) (fun v2 h3 => (if ¬ v2 = 0 then ((am_vI (am_pG 3144 x0 h3)).bind fun v6 => (if am_pOk 12 x0 h3 then am_cV true (fm_335 x0 0 v6 h3) (fun h10 => some (.inl (some (.int 1), h10))) else none)) else some (.inl (some (.int 0), h3)))) else none) = r_) : fg_345_70 x0 h = r_ := k_
theorem hd_345_0 {x0 : Value} {h : am_H} {r_ : Option am_O} (k_ : ((am_vI (am_pG 3086 x0 h)).bind fun v1 => (if ¬ v1 = 60 then ((am_vR (am_pG 3143 x0 h)).bind fun v4 => ((am_vI (am_pG 3086 x0 h)).bind fun v6 => ((am_vI (am_pG 3141 x0 h)).bind fun v8 => ((am_pS 0 v4 v6 v8 h).bind fun h10 => ((am_vI (am_pG 3141 x0 h10)).bind fun v12 => (if am_pOk 12 x0 h10 then am_cI true (fm_332 x0 v12 h10) (fun v15 h16 => ((am_vI (am_pG 3141 x0 h16)).bind fun v18 => (if am_pOk 12 x0 h16 then am_cI true (fm_339 x0 v18 h16) (fun v21 h22 => (if ¬ v21 = 0 then (fg_345_70 x0 h22) else (if ¬ v15 = 45 then (fg_345_90 x0 v15 h22) else ((am_vI (am_pG 3141 x0 h22)).bind fun v26 => (if am_pOk 12 x0 h22 then am_cI true (fm_339 x0 ((v26 + 1)) h22) (fun v29 h30 => (if v29 = 0 then (fg_345_90 x0 v15 h30) else (fg_345_70 x0 h30))) else none))))) else none))) else none)))))) else ((am_vI (am_pG 3141 x0 h)).bind fun v33 => (if am_pOk 12 x0 h then am_cI true (fm_331 x0 v33 h) (fun v36 h37 => (if am_rfit (some FieldType.boolean) v36 then some (.inl (some (.int v36), h37)) else none)) else none)))) = r_) : fg_345_0 x0 h = r_ := k_
theorem hm_345 {y0 : Value} {h : am_H} {r_ : Option am_O} (k_ : fg_345_0 y0 h = r_) : fm_345 y0 h = r_ := k_

def sMt {α β : Type} (r : Nat ⊕ (Nat × α)) (g : Nat → α → Nat ⊕ β) : Nat ⊕ β := match r with
  | .inl e => .inl e
  | .inr a => g a.1 a.2
def cdL : List Nat := [120, 121, 122, 110, 126, 35, 43, 45, 42, 47, 37, 60, 61, 100, 119, 111]
def csg (c : Nat) : Nat := cdL.idxOf c + 1
theorem ix5 : ∀ c, c < 256 → am_ixF (nI c) (am_txt 5) 0 = if csg c ≤ 16 then nI (csg c - 1) else -1 := by decide +kernel
theorem cs346 : ∀ c, c < 256 → pv_346 (nI c) = if csg c ≤ 16 then nI (csg c) else if c = 106 then 17 else if c = 98 then 18 else -1 := by decide +kernel
theorem csg_b : ∀ c, c < 256 → 1 ≤ csg c ∧ csg c ≤ 17 := by decide +kernel
theorem csg_0 : csg 0 = 17 := by decide +kernel
def isB (T : Nat → Nat) (p : Nat) : Bool := dgB (T p) || (decide (T p = 45) && dgB (T (p + 1)))
theorem isB_t {T : Nat → Nat} {p : Nat} : isB T p = true ↔ (dgB (T p) = true ∨ (T p = 45 ∧ dgB (T (p + 1)) = true)) := by
  unfold isB
  rw [Bool.or_eq_true, Bool.and_eq_true, decide_eq_true_iff]
def inT (T : Nat → Nat) (p : Nat) : Nat ⊕ (Nat × (Nat × Int32)) := if isB T p = true then sMt (csT T p) (fun q x => .inr (q, (0, x))) else if csg (T p) ≤ 16 then .inr (p + 1, (csg (T p), 0)) else if T p = 106 ∨ T p = 98 then sMt (dgS T (p + 1)) (fun q d => .inr (q, (if T p = 106 then 17 else 18, nI d))) else .inl p
def cdSq (T : Nat → Nat) (m : Nat) : Nat → Nat → xT → List Nat → Nat ⊕ (xT × List Nat)
  | 0, p, _, _ => .inl p
  | f + 1, p, Q, B => sMt (inT T p) (fun q x => if q < m then (if T q = 32 then cdSq T m f (q + 1) (Q ++ [x]) (B ++ [p]) else .inl q) else .inr (Q ++ [x], B ++ [p]))
def stB (f : Nat → Int32) (B : List Nat) : Prop := ∀ j b, B[j]? = some b → f j = nI b
theorem stB_ap {f : Nat → Int32} {B : List Nat} {p : Nat} (h : stB f B) : stB (upd f B.length (nI p)) (B ++ [p]) := by
  intro j b hj
  by_cases c : j < B.length
  · rw [List.getElem?_append_left c] at hj
    rw [upd_ne (by omega)]
    exact h j b hj
  · rw [List.getElem?_append_right (by omega)] at hj
    obtain ⟨d, ed⟩ : ∃ d, d = j - B.length := ⟨_, rfl⟩
    rw [← ed] at hj
    cases d with
    | succ d => exact absurd hj (by simp)
    | zero =>
      obtain rfl : j = B.length := by omega
      rw [← Option.some.inj hj]
      exact upd_eq
set_option maxRecDepth 100000 in
set_option maxHeartbeats 4000000 in
theorem c_49 {V : Nat → Nat → Value} {I : Nat → Nat → Int32} {L : Nat → Nat → Int64} {R : Nat → Nat → Option Nat} {tl : am_H} {T : Nat → Nat} {m p : Nat} {N : Nat} {Q : xT} (hN : 3 < N) (h : stC V I T m p (-1)) (hp : p ≤ m) (hP : prC V I (tI Q)) (hl : Q.length < 60) : ∃ W J, fm_49 N (.ref 2) (fx V I L R ++ tl) = some (.inl (none, fx W J L R ++ tl)) ∧ frCp V W I J ∧ J 4 = I 4 ∧ resC (inT T p) W J T m (fun x => prC W J (tI (Q ++ [x]))) := by
  have m240 := h.2.2.2.2.1
  have t0 := tq_256 h.2.2.2.2 p
  have t1 := tq_256 h.2.2.2.2 (p + 1)
  have lQ := tI_len (P := Q)
  obtain ⟨b, eb⟩ : ∃ b : Bool, b = (decide (T p = 45) && dgB (T (p + 1))) := ⟨_, rfl⟩
  have pre : ∀ o, fg_49_46 N (.ref 2) (nI (T p)) (bI b) (fx V I L R ++ tl) = o → fm_49 N (.ref 2) (fx V I L R ++ tl) = o := fun o k_ => by
    apply hm_49
    apply hd_49_0
    refine ev_i rfl (ev_cI (c_36 h hp) ?_)
    by_cases c : T p = 45
    · rw [decide_eq_true c, Bool.true_and] at eb
      refine ev_f (fun q => q (by rw [c]; rfl)) (ev_b (rdI h.2.1) (ev_b (rdI h.1) ?_))
      rw [nI_1]
      by_cases d : m ≤ p + 1
      · rw [h.2.2.2.2.2.2 (p + 1) d, show dgB 0 = false from rfl] at eb
        rw [eb] at k_
        exact ev_t (nI_le d (by omega)) (hd_49_45 k_)
      · refine ev_f (nI_ge (by omega) (by omega)) (ev_b (rdR rfl) (ev_b (rdI h.2.1) ?_))
        rw [nI_1]
        refine ev_b ((qa_3 (by omega)).trans (congrArg some (h.2.2.2.2.2.1 (p + 1) (by omega)).1)) (ev_cI (c_45 t1 _) ?_)
        rw [← eb]
        cases b with
        | true => exact ev_f (by decide) k_
        | false => exact ev_t rfl (hd_49_45 k_)
    · rw [decide_eq_false c, Bool.false_and] at eb
      rw [eb] at k_
      exact ev_t (fun q => c ((nI_eq (b := 45) (by omega) (by omega)).mp q)) (hd_49_45 k_)
  unfold inT
  by_cases cn : isB T p = true
  · rw [if_pos cn]
    obtain ⟨x, W, e3, f3, g3, r3⟩ := c_43 (V := V) (I := I) (L := L) (R := R) (tl := tl) (N := N) hN h hp
    have P3 : prC W I (tI Q) := prC_f g3 hP
    have to65 : ∀ o, fg_49_65 N (.ref 2) (fx V I L R ++ tl) = o → fm_49 N (.ref 2) (fx V I L R ++ tl) = o := fun o k_ => by
      refine pre _ ?_
      apply hd_49_46
      by_cases d : dgB (T p) = true
      · cases b with
        | true => exact ev_t (by decide) k_
        | false => exact ev_f (fun q => q rfl) (ev_cI (c_45 t0 _) (ev_f (dI_nz d) k_))
      · obtain ⟨a1, a2⟩ := (isB_t.mp cn).resolve_left d
        rw [decide_eq_true a1, a2] at eb
        rw [eb]
        exact ev_t (by decide) k_
    have fin : ∀ W4 J4, fm_41 N (.ref 167) 0 x (fx W I L R ++ tl) = some (.inl (some (.int 1), fx W4 J4 L R ++ tl)) → fm_49 N (.ref 2) (fx V I L R ++ tl) = some (.inl (none, fx W4 J4 L R ++ tl)) := fun W4 J4 e => to65 _ (hd_49_65 (ev_b (a := Value.ref 167) (rVR qv_2_4 h.2.2.2.1) (ev_i rfl (ev_cI e3 (ev_i rfl (ev_cI e (hd_49_164 rfl)))))))
    cases q : csT T p with
    | inl e =>
      rw [q] at r3
      obtain ⟨r1, p', r2, s3⟩ := r3
      obtain ⟨V4, J4, e4, f4, s4, P4, j4⟩ := c_41p (V := W) (I := I) (L := L) (R := R) (tl := tl) (N := N) (by omega) P3 (by omega) s3 0 x
      exact ⟨V4, J4, fin _ _ e4, frCp_t f3 f4, j4, r1, p', r2, s4⟩
    | inr a =>
      rw [q] at r3
      obtain ⟨r1, s3, r4, r5⟩ := r3
      obtain ⟨V4, J4, e4, f4, s4, P4, j4⟩ := c_41p (V := W) (I := I) (L := L) (R := R) (tl := tl) (N := N) (by omega) P3 (by omega) s3 0 x
      rw [r4] at P4
      exact ⟨V4, J4, fin _ _ e4, frCp_t f3 f4, j4, r1, s4, by show prC _ _ (tI (Q ++ [_])); rw [tI_ap2]; exact P4⟩
  · rw [if_neg cn]
    have nd : dgB (T p) = false := by rw [← Bool.not_eq_true]; exact fun q => cn (isB_t.mpr (.inl q))
    have nb : b = false := by
      rw [eb]
      by_cases c : T p = 45
      · rw [decide_eq_true c, Bool.true_and, ← Bool.not_eq_true]
        exact fun q => cn (isB_t.mpr (.inr ⟨c, q⟩))
      · rw [decide_eq_false c]; rfl
    subst nb
    obtain ⟨b1, b17⟩ := csg_b (T p) t0
    have pr2 : ∀ o, (if (if csg (T p) ≤ 16 then nI (csg (T p) - 1) else (-1 : Int32)) < 0 then (if nI (T p) = 106 then (fg_49_122 N (.ref 2) (nI (T p)) (fx V I L R ++ tl)) else (if ¬ nI (T p) = 98 then (if am_pOk 9 (.ref 2) (fx V I L R ++ tl) then am_cV true (fm_39 (.ref 2) (fx V I L R ++ tl)) (fun h11 => (fg_49_164 N h11)) else none) else (fg_49_122 N (.ref 2) (nI (T p)) (fx V I L R ++ tl)))) else ((am_vI (am_pG 2306 (.ref 2) (fx V I L R ++ tl))).bind fun v13 => ((am_pP 2306 (.ref 2) (.int (v13 + 1)) (fx V I L R ++ tl)).bind fun h15 => ((am_vR (am_pG 2308 (.ref 2) h15)).bind fun v17 => (if am_pOk 3 v17 h15 then am_cI true (fm_41 N v17 (((if csg (T p) ≤ 16 then nI (csg (T p) - 1) else (-1 : Int32)) + 1)) 0 h15) (fun v20 h21 => (fg_49_164 N h21)) else none))))) = o → fm_49 N (.ref 2) (fx V I L R ++ tl) = o := fun o k_ => by
      refine pre _ ?_
      apply hd_49_46
      refine ev_f (fun q => q rfl) (ev_cI (c_45 t0 _) (ev_t (dI_z nd) ?_))
      rw [ix5 _ t0]
      exact k_
    by_cases c16 : csg (T p) ≤ 16
    · rw [if_pos c16] at pr2 ⊢
      have pm : p < m := by
        refine tq_m h.2.2.2.2 (fun z => ?_)
        rw [z, csg_0] at c16
        omega
      obtain ⟨V2, eV2⟩ : ∃ X, X = vup V 2 2 (.int (nI (p + 1))) := ⟨_, rfl⟩
      have s2 : stC V2 I T m (p + 1) (-1) := by rw [eV2]; exact stC_a h
      have f2 : frCp V V2 I I := by rw [eV2]; exact frCp_2 (.inl rfl)
      have P2 : prC V2 I (tI Q) := prC_f (fun j => by rw [eV2]; exact vup_na (by decide)) hP
      obtain ⟨V3, J3, e3, f3, s3, P3, j3⟩ := c_41p (V := V2) (I := I) (L := L) (R := R) (tl := tl) (N := N) (by omega) P2 (by omega) s2 (nI (csg (T p))) 0
      refine ⟨V3, J3, pr2 _ (ev_f (Int32.not_lt.mpr (nI_pos' (by omega))) (ev_b (rdI h.2.1) (ev_b (a := fx V2 I L R ++ tl) (by rw [nI_1, eV2]; exact qp_2_2) (ev_b (a := Value.ref 167) (rVR qv_2_4 s2.2.2.2.1) (ev_i rfl ?_))))), frCp_t f2 f3, j3, by omega, s3, by show prC _ _ (tI (Q ++ [_])); rw [tI_ap2]; exact P3⟩
      rw [nI_1, show csg (T p) - 1 + 1 = csg (T p) by omega]
      exact ev_cI e3 (hd_49_164 rfl)
    · rw [if_neg c16] at pr2 ⊢
      by_cases cj : T p = 106 ∨ T p = 98
      · rw [if_pos cj]
        have pm := tq_m h.2.2.2.2 (p := p) (by omega)
        obtain ⟨V2, eV2⟩ : ∃ X, X = vup V 2 2 (.int (nI (p + 1))) := ⟨_, rfl⟩
        have s2 : stC V2 I T m (p + 1) (-1) := by rw [eV2]; exact stC_a h
        have f2 : frCp V V2 I I := by rw [eV2]; exact frCp_2 (.inl rfl)
        have P2 : prC V2 I (tI Q) := prC_f (fun j => by rw [eV2]; exact vup_na (by decide)) hP
        obtain ⟨x, W, e3, f3, g3, r3⟩ := c_44 (V := V2) (I := I) (L := L) (R := R) (tl := tl) (N := N) hN s2 (by omega)
        have P3 : prC W I (tI Q) := prC_f g3 P2
        obtain ⟨sj, esj⟩ : ∃ s : Nat, s = if T p = 106 then 17 else 18 := ⟨_, rfl⟩
        have fin : ∀ W4 J4, fm_41 N (.ref 167) (nI sj) x (fx W I L R ++ tl) = some (.inl (some (.int 1), fx W4 J4 L R ++ tl)) → fm_49 N (.ref 2) (fx V I L R ++ tl) = some (.inl (none, fx W4 J4 L R ++ tl)) := fun W4 J4 e => by
          have e122 : fg_49_122 N (.ref 2) (nI (T p)) (fx V I L R ++ tl) = some (.inl (none, fx W4 J4 L R ++ tl)) := by
            apply hd_49_122
            refine ev_b (rdI h.2.1) (ev_b (a := fx V2 I L R ++ tl) (by rw [nI_1, eV2]; exact qp_2_2) (ev_b (a := Value.ref 167) (rVR qv_2_4 s2.2.2.2.1) ?_))
            by_cases z : T p = 106
            · rw [if_pos z] at esj
              rw [esj] at e
              exact ev_f (fun q => q (by rw [z]; rfl)) (hd_49_149 (ev_i rfl (ev_cI e3 (ev_i rfl (ev_cI e (hd_49_164 rfl))))))
            · rw [if_neg z] at esj
              rw [esj] at e
              exact ev_t (fun q => z ((nI_eq (b := 106) (by omega) (by omega)).mp q)) (hd_49_149 (ev_i rfl (ev_cI e3 (ev_i rfl (ev_cI e (hd_49_164 rfl))))))
          refine pr2 _ (ev_t (by decide) ?_)
          by_cases z : T p = 106
          · exact ev_t (by rw [z]; rfl) e122
          · exact ev_f (fun q => z ((nI_eq (b := 106) (by omega) (by omega)).mp q)) (ev_f (fun q => q (by rw [cj.resolve_left z]; rfl)) e122)
        cases q : dgS T (p + 1) with
        | inl e =>
          rw [q] at r3
          obtain ⟨r1, p', r2, s3⟩ := r3
          obtain ⟨V4, J4, e4, f4, s4, P4, j4⟩ := c_41p (V := W) (I := I) (L := L) (R := R) (tl := tl) (N := N) (by omega) P3 (by omega) s3 (nI sj) x
          exact ⟨V4, J4, fin _ _ e4, frCp_t f2 (frCp_t f3 f4), j4, r1, p', r2, s4⟩
        | inr a =>
          rw [q] at r3
          obtain ⟨r1, s3, r4, r5⟩ := r3
          obtain ⟨V4, J4, e4, f4, s4, P4, j4⟩ := c_41p (V := W) (I := I) (L := L) (R := R) (tl := tl) (N := N) (by omega) P3 (by omega) s3 (nI sj) x
          rw [r4] at P4
          refine ⟨V4, J4, fin _ _ e4, frCp_t f2 (frCp_t f3 f4), j4, r1, s4, ?_⟩
          rw [← esj]
          show prC _ _ (tI (Q ++ [_]))
          rw [tI_ap2]
          exact P4
      · rw [if_neg cj]
        exact ⟨_, I, pr2 _ (ev_t (by decide) (ev_f (fun q => cj (.inl ((nI_eq (b := 106) (by omega) (by omega)).mp q))) (ev_t (fun q => cj (.inr ((nI_eq (b := 98) (by omega) (by omega)).mp q))) (ev_i rfl (ev_cV (c_39 h) (hd_49_164 rfl)))))), frCp_2 (.inr rfl), rfl, hp, p, hp, stC_w h⟩
def resL (r : Nat ⊕ (xT × List Nat)) (W : Nat → Nat → Value) (J : Nat → Nat → Int32) (T : Nat → Nat) (m : Nat) : Prop := match r with
  | .inl e => e ≤ m ∧ ∃ p', p' ≤ m ∧ stC W J T m p' (nI e)
  | .inr a => stC W J T m m (-1) ∧ prC W J (tI a.1) ∧ a.1.length ≤ 60 ∧ stB (J 4) a.2
set_option maxRecDepth 100000 in
set_option maxHeartbeats 4000000 in
theorem c_48l {L : Nat → Nat → Int64} {R : Nat → Nat → Option Nat} {tl : am_H} {T : Nat → Nat} {m N : Nat} (hN : 3 < N) : ∀ (f k K : Nat) (V : Nat → Nat → Value) (I : Nat → Nat → Int32) (p : Nat) (Q : xT) (B : List Nat), f + k = 60 → Q.length = k → B.length = k → f < K → p ≤ m → stC V I T m p (-1) → prC V I (tI Q) → stB (I 4) B → ∃ W J, fg_48_66 N (fg_48_15 N K) (.ref 2) 1 60 (nI k) (fx V I L R ++ tl) = some (.inl (none, fx W J L R ++ tl)) ∧ frCp V W I J ∧ resL (cdSq T m f p Q B) W J T m := by
  intro f
  induction f with
  | zero =>
    intro k K V I p Q B hf hQ hB hK hp h hP hS
    obtain ⟨K, rfl⟩ : ∃ k, K = k + 1 := ⟨K - 1, by omega⟩
    obtain rfl : k = 60 := by omega
    refine ⟨vup V 2 3 (.int (nI p)), I, ?_, frCp_2 (.inr rfl), hp, p, hp, stC_w h⟩
    apply hd_48_66
    exact ev_f (fun q => q rfl) (ev_i rfl (ev_cV (c_39 h) (hd_48_105 (hd_48_15 (ev_t (by decide) (hd_48_111 rfl))))))
  | succ f ih =>
    intro k K V I p Q B hf hQ hB hK hp h hP hS
    obtain ⟨K, rfl⟩ : ∃ k, K = k + 1 := ⟨K - 1, by omega⟩
    have m240 := h.2.2.2.2.1
    obtain ⟨I1, eI1⟩ : ∃ X, X = iup I 4 (upd (I 4) k (nI p)) := ⟨_, rfl⟩
    have h1 : stC V I1 T m p (-1) := ⟨h.1, h.2.1, h.2.2.1, h.2.2.2.1, by rw [eI1, iup_na (by decide)]; exact h.2.2.2.2⟩
    have P1 : prC V I1 (tI Q) := ⟨hP.1, hP.2.1, by rw [eI1, iup_na (by decide)]; exact hP.2.2⟩
    have f1 : frCp V V I I1 := ⟨fun _ _ _ => rfl, fun y u v => by rw [eI1]; exact iup_na v, id⟩
    have S1 : stB (I1 4) (B ++ [p]) := by rw [eI1, iup_eq, ← hB]; exact stB_ap hS
    obtain ⟨W, J, e2, f2, j2, r2⟩ := c_49 (V := V) (I := I1) (L := L) (R := R) (tl := tl) (N := N) (Q := Q) hN h1 hp P1 (by omega)
    have go : ∀ o, fg_48_15 N (K + 1) (.ref 2) 1 60 (nI (k + 1)) (fx W J L R ++ tl) = o → fg_48_66 N (fg_48_15 N (K + 1)) (.ref 2) 1 60 (nI k) (fx V I L R ++ tl) = o := fun o k_ => by
      apply hd_48_66
      refine ev_t (fun q => by have := (nI_eq (b := 60) (by omega) (by omega)).mp q; omega) (ev_f (fun q => q rfl) (ev_b (rdR rfl) (ev_b (rdI h.2.1) (ev_b (a := fx V I1 L R ++ tl) (by rw [eI1]; exact qs_4 (by omega)) (ev_i rfl (ev_cV e2 (hd_48_105 ?_)))))))
      rw [nI_1]
      exact k_
    have nk : ¬ (60 : Int32) < nI (k + 1) := nI_nlt (a := 60) (by omega) (by omega)
    have nz : ¬ nI (k + 1) = 0 := fun q => by have := (nI_eq (b := 0) (by omega) (by omega)).mp q; omega
    rw [cdSq]
    cases q : inT T p with
    | inl e =>
      rw [q] at r2
      obtain ⟨r1, p', rp, s2⟩ := r2
      refine ⟨W, J, go _ (hd_48_15 (ev_f nk (ev_b (rdI s2.2.2.1) (ev_t (nI_pos' (by omega)) (hd_48_111 rfl))))), frCp_t f1 f2, r1, p', rp, s2⟩
    | inr a =>
      rw [q] at r2
      obtain ⟨r1, s2, P2⟩ := r2
      have l2 : (Q ++ [a.2]).length = k + 1 := by rw [List.length_append, hQ]; rfl
      have S2 : stB (J 4) (B ++ [p]) := by rw [j2]; exact S1
      show ∃ W' J', _ ∧ _ ∧ resL (if a.1 < m then (if T a.1 = 32 then cdSq T m f (a.1 + 1) (Q ++ [a.2]) (B ++ [p]) else .inl a.1) else .inr (Q ++ [a.2], B ++ [p])) W' J' T m
      by_cases c : a.1 < m
      · rw [if_pos c]
        have e := c_42 (V := W) (I := J) (L := L) (R := R) (tl := tl) (c := 32) (by omega) (x := 32) rfl s2 r1
        have go2 : ∀ o, fg_48_59 N (fg_48_15 N K) (.ref 2) 1 60 (nI (k + 1)) (.ref 2) 32 (fx W J L R ++ tl) = o → fg_48_15 N (K + 1) (.ref 2) 1 60 (nI (k + 1)) (fx W J L R ++ tl) = o := fun o k_ => hd_48_15 (ev_f nk (ev_b (rdI s2.2.2.1) (ev_f (by decide) (ev_f nz (ev_b (rdI s2.2.1) (ev_b (rdI s2.1) (ev_f (nI_ge c (by omega)) (hd_48_42 (ev_f (nI_ge (a := 0) (by omega) (by omega)) (ev_f (fun q => q rfl) k_))))))))))
        by_cases d : T a.1 = 32
        · rw [if_pos d] at e ⊢
          obtain ⟨W', J', e3, f3, r3⟩ := ih (k + 1) K (vup W 2 2 (.int (nI (a.1 + 1)))) J (a.1 + 1) (Q ++ [a.2]) (B ++ [p]) (by omega) l2 (by rw [List.length_append, hB]; rfl) (by omega) (by omega) (stC_a s2) (prC_f (fun j => vup_na (by decide)) P2) S2
          exact ⟨W', J', go _ (go2 _ (hd_48_59 (ev_i rfl (ev_cI e (ev_t (by decide) e3))))), frCp_t f1 (frCp_t f2 (frCp_t (frCp_2 (.inl rfl)) f3)), r3⟩
        · rw [if_neg d] at e ⊢
          exact ⟨_, J, go _ (go2 _ (hd_48_59 (ev_i rfl (ev_cI e (ev_f (fun q => q rfl) rfl))))), frCp_t f1 (frCp_t f2 (frCp_2 (.inr rfl))), r1, a.1, r1, stC_w s2⟩
      · rw [if_neg c]
        have ea : a.1 = m := by omega
        refine ⟨W, J, go _ (hd_48_15 (ev_f nk (ev_b (rdI s2.2.2.1) (ev_f (by decide) (ev_f nz (ev_b (rdI s2.2.1) (ev_b (rdI s2.1) (ev_t (nI_le (by omega) (by omega)) (hd_48_111 rfl))))))))), frCp_t f1 f2, by rw [← ea]; rw [← ea] at s2; exact s2, P2, by show (Q ++ [a.2]).length ≤ 60; omega, S2⟩
