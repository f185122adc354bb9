/-! ===== whether code is sound ===== -/
theorem hd_347_147 {N : Nat} {rec_32 : Value → Int32 → am_H → Option am_O} {x0 : Value} {x1 : Int32} {h : am_H} {r_ : Option am_O} (k_ : (rec_32 x0 ((x1 + 1)) h) = r_) : fg_347_147 N rec_32 x0 x1 h = r_ := k_
theorem hd_347_116 {N : Nat} {rec_32 : Value → Int32 → am_H → Option am_O} {x0 : Value} {x1 : Int32} {x2 : Int32} {h : am_H} {r_ : Option am_O} (k_ : ((am_vR (am_pG 3088 x0 h)).bind fun v1 => ((am_pA 0 v1 x1 h).bind fun v3 => (if v3 ≤ 16 then (fg_347_147 N rec_32 x0 x1 h) else ((am_vR (am_pG 3089 x0 h)).bind fun v6 => ((am_pA 0 v6 x1 h).bind fun v8 => (if am_pOk 12 x0 h then am_cI true (fm_350 x0 (((x1 + 1) + v8)) x2 h) (fun v11 h12 => (if ¬ v11 = 0 then (fg_347_147 N rec_32 x0 x1 h12) else some (.inl (some (.int x1), h12)))) else none)))))) = r_) : fg_347_116 N rec_32 x0 x1 x2 h = r_ := k_
theorem hd_347_32 {N : Nat} {K : Nat} {x0 : Value} {x1 : Int32} {h : am_H} {r_ : Option am_O} (k_ : ((am_vI (am_pG 3086 x0 h)).bind fun v1 => (if v1 ≤ x1 then some (.inl (some (.int (-1)), h)) else ((am_vR (am_pG 3119 x0 h)).bind fun v4 => ((am_pA 0 v4 x1 h).bind fun v6 => ((am_vR (am_pG 3088 x0 h)).bind fun v8 => ((am_pA 0 v8 x1 h).bind fun v10 => am_cI false (fm_348 v10 h) (fun v12 h13 => (if v12 ≤ v6 then ((am_vR (am_pG 3088 x0 h13)).bind fun v16 => ((am_pA 0 v16 x1 h13).bind fun v18 => am_cI false (fm_348 v18 h13) (fun v20 h21 => ((am_vR (am_pG 3088 x0 h21)).bind fun v23 => ((am_pA 0 v23 x1 h21).bind fun v25 => am_cI false (fm_349 v25 h21) (fun v27 h28 => (if ((v6 - v20) + v27) ≤ 8 then ((am_vR (am_pG 3088 x0 h28)).bind fun v31 => ((am_pA 0 v31 x1 h28).bind fun v33 => (if v33 = 17 then (fg_347_116 N (fg_347_32 N K) x0 x1 (((v6 - v20) + v27)) h28) else (if am_pOk 12 x0 h28 then am_cI true (fm_350 x0 ((x1 + 1)) (((v6 - v20) + v27)) h28) (fun v37 h38 => (if ¬ v37 = 0 then (fg_347_116 N (fg_347_32 N K) x0 x1 (((v6 - v20) + v27)) h38) else some (.inl (some (.int x1), h38)))) else none)))) else some (.inl (some (.int x1), h28))))))))) else some (.inl (some (.int x1), h13)))))))))) = r_) : fg_347_32 N (K + 1) x0 x1 h = r_ := by rw [fg_347_32]; exact k_
theorem hd_347_2 {N : Nat} {K : Nat} {x0 : Value} {x1 : Int32} {h : am_H} {r_ : Option am_O} (k_ : ((am_vI (am_pG 3086 x0 h)).bind fun v1 => (if v1 < x1 then ((am_vR (am_pG 3119 x0 h)).bind fun v4 => ((am_pS 0 v4 0 0 h).bind fun h6 => (fg_347_32 N N x0 0 h6))) else ((am_vR (am_pG 3119 x0 h)).bind fun v8 => ((am_pS 0 v8 x1 (-1) h).bind fun h10 => (fg_347_2 N K x0 ((x1 + 1)) h10))))) = r_) : fg_347_2 N (K + 1) x0 x1 h = r_ := by rw [fg_347_2]; exact k_
theorem hd_347_0 {N : Nat} {x0 : Value} {h : am_H} {r_ : Option am_O} (k_ : (fg_347_2 N N x0 0 h) = r_) : fg_347_0 N x0 h = r_ := k_
theorem hm_347 {N : Nat} {y0 : Value} {h : am_H} {r_ : Option am_O} (k_ : fg_347_0 N y0 h = r_) : fm_347 N y0 h = r_ := k_
theorem hd_350_55 {s0 : Int32} {h : am_H} {r_ : Option am_O} (k_ : (if am_rfit (some FieldType.boolean) s0 then some (.inl (some (.int s0), h)) else none) = r_) : fg_350_55 s0 h = r_ := k_
theorem hd_350_40 {x0 : Value} {x1 : Int32} {x2 : Int32} {h : am_H} {r_ : Option am_O} (k_ : ((am_vR (am_pG 3119 x0 h)).bind fun v1 => ((am_pA 0 v1 x1 h).bind fun v3 => (if ¬ v3 = x2 then (fg_350_55 0 h) else (fg_350_55 1 h)))) = r_) : fg_350_40 x0 x1 x2 h = r_ := k_
theorem hd_350_23 {x0 : Value} {x1 : Int32} {x2 : Int32} {h : am_H} {r_ : Option am_O} (k_ : ((am_vR (am_pG 3119 x0 h)).bind fun v1 => ((am_pA 0 v1 x1 h).bind fun v3 => (if ¬ v3 = (-1) then (fg_350_40 x0 x1 x2 h) else ((am_vR (am_pG 3119 x0 h)).bind fun v6 => ((am_pS 0 v6 x1 x2 h).bind fun h8 => (fg_350_40 x0 x1 x2 h8)))))) = r_) : fg_350_23 x0 x1 x2 h = r_ := k_
theorem hd_350_21 {h : am_H} {r_ : Option am_O} (k_ : some (.inl (some (.int 0), h)) = r_) : fg_350_21 h = r_ := k_
theorem hd_350_0 {x0 : Value} {x1 : Int32} {x2 : Int32} {h : am_H} {r_ : Option am_O} (k_ : ((am_vI (am_pG 3086 x0 h)).bind fun v1 => (if v1 < x1 then (fg_350_21 h) else ((am_vI (am_pG 3086 x0 h)).bind fun v4 => (if ¬ x1 = v4 then (fg_350_23 x0 x1 x2 h) else (if x2 = 1 then (fg_350_23 x0 x1 x2 h) else (fg_350_21 h)))))) = r_) : fg_350_0 x0 x1 x2 h = r_ := k_
theorem hm_350 {y0 : Value} {y1 : Int32} {y2 : Int32} {h : am_H} {r_ : Option am_O} (k_ : fg_350_0 y0 y1 y2 h = r_) : fm_350 y0 y1 y2 h = r_ := k_
theorem hd_52_137 {N : Nat} {rec_44 : Value → Value → Int32 → am_H → Option am_O} {x0 : Value} {x1 : Value} {x2 : Int32} {h : am_H} {r_ : Option am_O} (k_ : (rec_44 x0 x1 ((x2 + 1)) h) = r_) : fg_52_137 N rec_44 x0 x1 x2 h = r_ := k_
theorem hd_52_135 {N : Nat} {x2 : Int32} {h : am_H} {r_ : Option am_O} (k_ : some (.inl (some (.int x2), h)) = r_) : fg_52_135 N x2 h = r_ := k_
theorem hd_52_110 {N : Nat} {rec_44 : Value → Value → Int32 → am_H → Option am_O} {x0 : Value} {x1 : Value} {x2 : Int32} {x3 : Int32} {x4 : Int32} {h : am_H} {r_ : Option am_O} (k_ : (if x3 < 17 then (fg_52_137 N rec_44 x0 x1 x2 h) else (if am_pOk 3 x1 h then am_cI true (fm_54 x1 x2 1 h) (fun v3 h4 => (if am_pOk 7 x0 h4 then am_cI true (fm_57 x0 (((x2 + 1) + v3)) x4 h4) (fun v7 h8 => (if ¬ v7 = 0 then (fg_52_137 N rec_44 x0 x1 x2 h8) else (fg_52_135 N x2 h8))) else none)) else none)) = r_) : fg_52_110 N rec_44 x0 x1 x2 x3 x4 h = r_ := k_
theorem hd_52_44 {N : Nat} {K : Nat} {x0 : Value} {x1 : Value} {x2 : Int32} {h : am_H} {r_ : Option am_O} (k_ : ((am_vI (am_pG 1799 x0 h)).bind fun v1 => (if v1 ≤ x2 then some (.inl (some (.int (-1)), h)) else (if am_pOk 3 x1 h then am_cI true (fm_54 x1 x2 0 h) (fun v5 h6 => ((am_vR (am_pG 1798 x0 h6)).bind fun v8 => ((am_pA 0 v8 x2 h6).bind fun v10 => am_cI false (fm_55 v5 h6) (fun v12 h13 => ((am_vR (am_pG 1798 x0 h13)).bind fun v15 => ((am_pA 0 v15 x2 h13).bind fun v17 => am_cI false (fm_56 v5 h13) (fun v19 h20 => (if v17 < v19 then (fg_52_135 N x2 h20) else (if 8 < (v10 + v12) then (fg_52_135 N x2 h20) else (if v5 = 17 then (fg_52_110 N (fg_52_44 N K) x0 x1 x2 v5 ((v10 + v12)) h20) else (if am_pOk 7 x0 h20 then am_cI true (fm_57 x0 ((x2 + 1)) ((v10 + v12)) h20) (fun v26 h27 => (if v26 = 0 then (fg_52_135 N x2 h27) else (fg_52_110 N (fg_52_44 N K) x0 x1 x2 v5 ((v10 + v12)) h27))) else none))))))))))) else none))) = r_) : fg_52_44 N (K + 1) x0 x1 x2 h = r_ := by rw [fg_52_44]; exact k_
theorem hd_52_25 {N : Nat} {h : am_H} {r_ : Option am_O} (k_ : some (.inl (some (.int 0), h)) = r_) : fg_52_25 N h = r_ := k_
theorem hd_52_0 {N : Nat} {x0 : Value} {x1 : Value} {h : am_H} {r_ : Option am_O} (k_ : ((am_vI (am_pG 771 x1 h)).bind fun v1 => ((am_pP 1799 x0 (.int v1) h).bind fun h3 => ((am_vI (am_pG 1799 x0 h3)).bind fun v5 => (if v5 < 1 then (fg_52_25 N h3) else ((am_vI (am_pG 1799 x0 h3)).bind fun v8 => (if v8 ≤ 60 then ((am_vR (am_pG 1798 x0 h3)).bind fun v11 => am_cV false (fm_53 N v11 ((-1)) h3) (fun h14 => ((am_vR (am_pG 1798 x0 h14)).bind fun v16 => ((am_pS 0 v16 0 0 h14).bind fun h18 => (fg_52_44 N N x0 x1 0 h18))))) else (fg_52_25 N h3))))))) = r_) : fg_52_0 N x0 x1 h = r_ := k_
theorem hm_52 {N : Nat} {y0 : Value} {y1 : Value} {h : am_H} {r_ : Option am_O} (k_ : fg_52_0 N y0 y1 h = r_) : fm_52 N y0 y1 h = r_ := k_
theorem hd_57_46 {x0 : Value} {x1 : Int32} {x2 : Int32} {h : am_H} {r_ : Option am_O} (k_ : ((am_vR (am_pG 1798 x0 h)).bind fun v1 => ((am_pS 0 v1 x1 x2 h).bind fun h3 => some (.inl (some (.int 1), h3)))) = r_) : fg_57_46 x0 x1 x2 h = r_ := k_
theorem hd_57_44 {h : am_H} {r_ : Option am_O} (k_ : some (.inl (some (.int 0), h)) = r_) : fg_57_44 h = r_ := k_
theorem hd_57_25 {x0 : Value} {x1 : Int32} {x2 : Int32} {h : am_H} {r_ : Option am_O} (k_ : ((am_vR (am_pG 1798 x0 h)).bind fun v1 => ((am_pA 0 v1 x1 h).bind fun v3 => (if v3 < 0 then (fg_57_46 x0 x1 x2 h) else ((am_vR (am_pG 1798 x0 h)).bind fun v6 => ((am_pA 0 v6 x1 h).bind fun v8 => (if v8 = x2 then (fg_57_46 x0 x1 x2 h) else (fg_57_44 h))))))) = r_) : fg_57_25 x0 x1 x2 h = r_ := k_
theorem hd_57_0 {x0 : Value} {x1 : Int32} {x2 : Int32} {h : am_H} {r_ : Option am_O} (k_ : (if x1 < 0 then (fg_57_44 h) else ((am_vI (am_pG 1799 x0 h)).bind fun v2 => (if v2 < x1 then (fg_57_44 h) else ((am_vI (am_pG 1799 x0 h)).bind fun v5 => (if ¬ x1 = v5 then (fg_57_25 x0 x1 x2 h) else (if ¬ x2 = 1 then (fg_57_44 h) else (fg_57_25 x0 x1 x2 h))))))) = r_) : fg_57_0 x0 x1 x2 h = r_ := k_
theorem hm_57 {y0 : Value} {y1 : Int32} {y2 : Int32} {h : am_H} {r_ : Option am_O} (k_ : fg_57_0 y0 y1 y2 h = r_) : fm_57 y0 y1 y2 h = r_ := k_

/-- where code is wrong, or its heights -/
def cdX (P : xI) : Nat → Nat → (Nat → Option Nat) → Nat ⊕ (Nat → Option Nat)
  | 0, _, g => .inr g
  | m + 1, k, g => match g k with
    | none => .inl k
    | some h => if h < tkN (sN (srt P k)) then .inl k else if 8 < h - tkN (sN (srt P k)) + ptN (sN (srt P k)) then .inl k else
      match (if sN (srt P k) = 17 then some g else rch P.length (k + 1) (h - tkN (sN (srt P k)) + ptN (sN (srt P k))) g) with
      | none => .inl k
      | some g1 => match (if sN (srt P k) < 17 then some g1 else rch P.length (k + 1 + sN (vlu P k)) (h - tkN (sN (srt P k)) + ptN (sN (srt P k))) g1) with
        | none => .inl k
        | some g2 => cdX P m (k + 1) g2
theorem cdB_X {P : xI} : ∀ (m k : Nat) (g : Nat → Option Nat), cdB P m k g = (cdX P m k g).isRight := by
  intro m
  induction m with
  | zero => intro k g; rfl
  | succ m ih =>
    intro k g
    rw [cdB, cdX]
    cases g k with
    | none => rfl
    | some h =>
      dsimp only
      by_cases c1 : h < tkN (sN (srt P k))
      · rw [if_pos c1, if_pos c1]; rfl
      rw [if_neg c1, if_neg c1]
      by_cases c2 : 8 < h - tkN (sN (srt P k)) + ptN (sN (srt P k))
      · rw [if_pos c2, if_pos c2]; rfl
      rw [if_neg c2, if_neg c2]
      cases (if sN (srt P k) = 17 then some g else rch P.length (k + 1) (h - tkN (sN (srt P k)) + ptN (sN (srt P k))) g) with
      | none => rfl
      | some g1 =>
        dsimp only
        cases (if sN (srt P k) < 17 then some g1 else rch P.length (k + 1 + sN (vlu P k)) (h - tkN (sN (srt P k)) + ptN (sN (srt P k))) g1) with
        | none => rfl
        | some g2 => exact ih (k + 1) g2
def g00 : Nat → Option Nat := fun j => if j = 0 then some 0 else none
/-- numbers that can be code -/
def okI (Q : xI) : Prop := ∀ k, k < Q.length → srt Q k = nI (sN (srt Q k)) ∧ sN (srt Q k) ≤ 18 ∧ (17 ≤ sN (srt Q k) → vlu Q k = nI (sN (vlu Q k)) ∧ sN (vlu Q k) ≤ 200)
def hI (o : Option Nat) : Int32 := match o with
  | none => -1
  | some h => nI h
/-- heights in a row of numbers -/
def htF (F : Nat → Int32) (sz : Nat) (g : Nat → Option Nat) : Prop := ∀ j, j ≤ sz → F j = hI (g j) ∧ ∀ h, g j = some h → h ≤ 8
theorem htF_u {F : Nat → Int32} {sz q h : Nat} {g : Nat → Option Nat} (hf : htF F sz g) (hh : h ≤ 8) : htF (upd F q (nI h)) sz (fun j => if j = q then some h else g j) := by
  intro j hj
  by_cases c : j = q
  · subst c
    dsimp only
    rw [upd_eq, if_pos rfl]
    exact ⟨rfl, fun h' e => by rw [← Option.some.inj e]; exact hh⟩
  · dsimp only
    rw [upd_ne c, if_neg c]
    exact hf j hj
theorem htF_id {F : Nat → Int32} {sz q h : Nat} {g : Nat → Option Nat} (hf : htF F sz g) (hq : q ≤ sz) (e : g q = some h) : upd F q (nI h) = F := by
  funext j
  by_cases c : j = q
  · subst c
    rw [upd_eq, (hf j hq).1, e]
    rfl
  · rw [upd_ne c]
theorem srt_at {Q : xI} {k : Nat} (hk : k < Q.length) : Q[k]? = some (srt Q k, vlu Q k) := by
  unfold srt vlu
  rw [List.getD_eq_getElem?_getD, List.getElem?_eq_getElem hk]
  rfl
theorem t348 : ∀ s, s < 19 → pv_348 (nI s) = nI (tkN s) := by decide
theorem t349 : ∀ s, s < 19 → pv_349 (nI s) = nI (ptN s) := by decide
theorem t56 : ∀ s, s < 19 → pv_56 (nI s) = nI (tkN s) := by decide
theorem t55 : ∀ s, s < 19 → ∀ h, h < 9 → tkN s ≤ h → nI h + pv_55 (nI s) = nI (h - tkN s + ptN s) := by decide
theorem pt_2 (s : Nat) : ptN s ≤ 2 := by unfold ptN; split; omega; split <;> omega
theorem tk_2 (s : Nat) : tkN s ≤ 2 := by unfold tkN; split; omega; split; omega; split; omega; split; omega; split <;> omega
theorem m1_le (a : Nat) (h : a < 100) : ¬ nI a ≤ -1 := by
  have key : ∀ a, a < 100 → ¬ nI a ≤ -1 := by decide
  exact key a h
theorem m1_lt (a : Nat) (h : a < 100) : (-1 : Int32) < nI a := by
  have key : ∀ a, a < 100 → (-1 : Int32) < nI a := by decide
  exact key a h
theorem m1_ne (a : Nat) (h : a < 100) : ¬ (-1 : Int32) = nI a := by
  have key : ∀ a, a < 100 → ¬ (-1 : Int32) = nI a := by decide
  exact key a h
theorem nI_ne_m1 (a : Nat) (h : a < 100) : ¬ nI a = (-1 : Int32) := fun e => m1_ne a h e.symm
set_option maxRecDepth 100000 in
set_option maxHeartbeats 4000000 in
theorem q_350 {V : Nat → Nat → Value} {I : Nat → Nat → Int32} {L : Nat → Nat → Int64} {R : Nat → Nat → Option Nat} {tl : am_H} {sz q h : Nat} {F : Nat → Int32} {g : Nat → Option Nat} (h14 : V 174 14 = .int (nI sz)) (hsz : sz ≤ 120) (hq : q ≤ 400) (hh : h ≤ 8) (hf : htF F sz g) : (rch sz q h g = none → fm_350 (.ref 174) (nI q) (nI h) (fx V (iup I 211 F) L R ++ tl) = some (.inl (some (.int 0), fx V (iup I 211 F) L R ++ tl))) ∧ (∀ g', rch sz q h g = some g' → ∃ F', fm_350 (.ref 174) (nI q) (nI h) (fx V (iup I 211 F) L R ++ tl) = some (.inl (some (.int 1), fx V (iup I 211 F') L R ++ tl)) ∧ htF F' sz g') := by
  unfold rch
  have qe : nI q = nI sz ↔ q = sz := nI_eq (by omega) (by omega)
  have q1 : nI h = 1 ↔ h = 1 := nI_eq (b := 1) (by omega) (by omega)
  by_cases c1 : sz < q
  · rw [if_pos c1]
    refine ⟨fun _ => ?_, fun g' e => absurd e (by simp)⟩
    apply hm_350
    apply hd_350_0
    exact ev_b (rdI h14) (ev_t (nI_lt c1 (by omega)) rfl)
  rw [if_neg c1]
  have hd : ∀ o, (¬ (q = sz ∧ h ≠ 1) → fg_350_23 (.ref 174) (nI q) (nI h) (fx V (iup I 211 F) L R ++ tl) = o) → (q = sz ∧ h ≠ 1 → fg_350_21 (fx V (iup I 211 F) L R ++ tl) = o) → fm_350 (.ref 174) (nI q) (nI h) (fx V (iup I 211 F) L R ++ tl) = o := fun o g1 g2 => by
    apply hm_350
    apply hd_350_0
    refine ev_b (rdI h14) (ev_f (nI_nlt (by omega) (by omega)) (ev_b (rdI h14) ?_))
    by_cases c : q = sz
    · refine ev_f (fun e => e (qe.mpr c)) ?_
      by_cases d : h = 1
      · exact ev_t (q1.mpr d) (g1 (fun e => e.2 d))
      · exact ev_f (fun e => d (q1.mp e)) (g2 ⟨c, d⟩)
    · exact ev_t (fun e => c (qe.mp e)) (g1 (fun e => c e.1))
  by_cases c2 : q = sz ∧ h ≠ 1
  · rw [if_pos c2]
    exact ⟨fun _ => hd _ (fun e => absurd c2 e) (fun _ => rfl), fun g' e => absurd e (by simp)⟩
  rw [if_neg c2]
  have rF : ∀ F : Nat → Int32, am_pA 0 (.ref 211) (nI q) (fx V (iup I 211 F) L R ++ tl) = some (F q) := fun F => (qa_211 (I := iup I 211 F) (by omega)).trans (by rw [iup_eq])
  obtain ⟨f1, f2⟩ := hf q (by omega)
  cases eg : g q with
  | none =>
    rw [eg] at f1
    refine ⟨fun e => absurd e (by simp), fun g' e => ⟨upd F q (nI h), hd _ (fun _ => ?_) (fun e => absurd e c2), ?_⟩⟩
    · apply hd_350_23
      refine ev_b (rdR rfl) (ev_b (rF F) ?_)
      rw [f1]
      refine ev_f (fun e => e rfl) (ev_b (rdR rfl) (ev_b ((qs_211 (I := iup I 211 F) (by omega)).trans (by rw [iup_eq, iup_iup])) ?_))
      apply hd_350_40
      refine ev_b (rdR rfl) (ev_b (rF _) ?_)
      rw [upd_eq]
      exact ev_f (fun e => e rfl) rfl
    · rw [← Option.some.inj e]
      exact htF_u hf hh
  | some y =>
    rw [eg] at f1
    have y8 := f2 y eg
    have f1 : F q = nI y := f1
    have hd2 : ∀ o, fg_350_40 (.ref 174) (nI q) (nI h) (fx V (iup I 211 F) L R ++ tl) = o → fm_350 (.ref 174) (nI q) (nI h) (fx V (iup I 211 F) L R ++ tl) = o := fun o ho => hd o (fun _ => by
      apply hd_350_23
      refine ev_b (rdR rfl) (ev_b (rF F) ?_)
      rw [f1]
      exact ev_t (nI_ne_m1 y (by omega)) ho) (fun e => absurd e c2)
    dsimp only
    by_cases c3 : y = h
    · rw [if_pos c3]
      refine ⟨fun e => absurd e (by simp), fun g' e => ⟨F, hd2 _ ?_, by rw [← Option.some.inj e]; exact hf⟩⟩
      apply hd_350_40
      refine ev_b (rdR rfl) (ev_b (rF F) ?_)
      rw [f1, c3]
      exact ev_f (fun e => e rfl) rfl
    · rw [if_neg c3]
      refine ⟨fun _ => hd2 _ ?_, fun g' e => absurd e (by simp)⟩
      apply hd_350_40
      refine ev_b (rdR rfl) (ev_b (rF F) ?_)
      rw [f1]
      exact ev_t (fun e => c3 ((nI_eq (by omega) (by omega)).mp e)) rfl
def cdI (r : Nat ⊕ (Nat → Option Nat)) : Int32 := match r with
  | .inl k => nI k
  | .inr _ => -1
def cdQ (r : Nat ⊕ (Nat → Option Nat)) (F : Nat → Int32) (sz : Nat) : Prop := match r with
  | .inl k => k < sz
  | .inr g => htF F sz g
set_option maxRecDepth 100000 in
set_option maxHeartbeats 4000000 in
theorem q_347l {V : Nat → Nat → Value} {I : Nat → Nat → Int32} {L : Nat → Nat → Int64} {R : Nat → Nat → Option Nat} {tl : am_H} {N : Nat} {Q : xI} (hq : Q.length ≤ 120) (hd : dkL V I Q) (hc : okI Q) : ∀ (m k K : Nat) (F : Nat → Int32) (g : Nat → Option Nat), k + m = Q.length → m < K → htF F Q.length g → ∃ F', fg_347_32 N K (.ref 174) (nI k) (fx V (iup I 211 F) L R ++ tl) = some (.inl (some (.int (cdI (cdX Q m k g))), fx V (iup I 211 F') L R ++ tl)) ∧ cdQ (cdX Q m k g) F' Q.length := by
  intro m
  induction m with
  | zero =>
    intro k K F g hk hK hf
    obtain ⟨K, rfl⟩ : ∃ k, K = k + 1 := ⟨K - 1, by omega⟩
    refine ⟨F, ?_, hf⟩
    apply hd_347_32
    exact ev_b (rdI hd.1) (ev_t (nI_le (by omega) (by omega)) rfl)
  | succ m ih =>
    intro k K F g hk hK hf
    obtain ⟨K, rfl⟩ : ∃ k, K = k + 1 := ⟨K - 1, by omega⟩
    have hkl : k < Q.length := by omega
    obtain ⟨a1, a2, a3⟩ := hc k hkl
    obtain ⟨d1, d2⟩ := hd.2 k _ (srt_at hkl)
    dsimp only at d1 d2
    obtain ⟨s, hs⟩ : ∃ s, s = sN (srt Q k) := ⟨_, rfl⟩
    rw [← hs] at a1 a2 a3
    rw [a1] at d1
    have rs : ∀ F : Nat → Int32, am_pA 0 (.ref 186) (nI k) (fx V (iup I 211 F) L R ++ tl) = some (nI s) := fun F => (qa_186 (I := iup I 211 F) (by omega)).trans (congrArg some ((iup_ne (by decide)).trans d1))
    have rv : ∀ F : Nat → Int32, am_pA 0 (.ref 187) (nI k) (fx V (iup I 211 F) L R ++ tl) = some (vlu Q k) := fun F => (qa_187 (I := iup I 211 F) (by omega)).trans (congrArg some ((iup_ne (by decide)).trans d2))
    have rF : ∀ F : Nat → Int32, am_pA 0 (.ref 211) (nI k) (fx V (iup I 211 F) L R ++ tl) = some (F k) := fun F => (qa_211 (I := iup I 211 F) (by omega)).trans (by rw [iup_eq])
    have e48 : ∀ h, fm_348 (nI s) h = some (.inl (some (.int (nI (tkN s))), h)) := fun h => by rw [pe_348, t348 s (by omega)]
    have e49 : ∀ h, fm_349 (nI s) h = some (.inl (some (.int (nI (ptN s))), h)) := fun h => by rw [pe_349, t349 s (by omega)]
    have t2 := tk_2 s
    have p2 := pt_2 s
    obtain ⟨f1, f2⟩ := hf k (by omega)
    have q17 : nI s = 17 ↔ s = 17 := nI_eq (b := 17) (by omega) (by omega)
    have hd0 : ∀ o, (if nI (tkN s) ≤ F k then ((am_vR (am_pG 3088 (.ref 174) (fx V (iup I 211 F) L R ++ tl))).bind fun v16 => ((am_pA 0 v16 (nI k) (fx V (iup I 211 F) L R ++ tl)).bind fun v18 => am_cI false (fm_348 v18 (fx V (iup I 211 F) L R ++ tl)) (fun v20 h21 => ((am_vR (am_pG 3088 (.ref 174) h21)).bind fun v23 => ((am_pA 0 v23 (nI k) h21).bind fun v25 => am_cI false (fm_349 v25 h21) (fun v27 h28 => (if ((F k - v20) + v27) ≤ 8 then ((am_vR (am_pG 3088 (.ref 174) h28)).bind fun v31 => ((am_pA 0 v31 (nI k) h28).bind fun v33 => (if v33 = 17 then (fg_347_116 N (fg_347_32 N K) (.ref 174) (nI k) (((F k - v20) + v27)) h28) else (if am_pOk 12 (.ref 174) h28 then am_cI true (fm_350 (.ref 174) ((nI k + 1)) (((F k - v20) + v27)) h28) (fun v37 h38 => (if ¬ v37 = 0 then (fg_347_116 N (fg_347_32 N K) (.ref 174) (nI k) (((F k - v20) + v27)) h38) else some (.inl (some (.int (nI k)), h38)))) else none)))) else some (.inl (some (.int (nI k)), h28))))))))) else some (.inl (some (.int (nI k)), fx V (iup I 211 F) L R ++ tl))) = o → fg_347_32 N (K + 1) (.ref 174) (nI k) (fx V (iup I 211 F) L R ++ tl) = o := fun o h => by
      apply hd_347_32
      exact ev_b (rdI hd.1) (ev_f (nI_ge (by omega) (by omega)) (ev_b (rdR rfl) (ev_b (rF F) (ev_b (rdR rfl) (ev_b (rs F) (ev_cI (e48 _) h))))))
    rw [cdX]
    cases eg : g k with
    | none =>
      rw [eg] at f1
      refine ⟨F, hd0 _ ?_, hkl⟩
      rw [f1]
      exact ev_f (m1_le _ (by omega)) rfl
    | some h =>
      rw [eg] at f1
      have f1 : F k = nI h := f1
      have h8 := f2 h eg
      dsimp only
      rw [← hs]
      by_cases c1 : h < tkN s
      · rw [if_pos c1]
        refine ⟨F, hd0 _ ?_, hkl⟩
        rw [f1]
        exact ev_f (nI_ge c1 (by omega)) rfl
      rw [if_neg c1]
      obtain ⟨x, hx⟩ : ∃ x, x = h - tkN s + ptN s := ⟨_, rfl⟩
      have ex : nI h - nI (tkN s) + nI (ptN s) = nI x := by rw [nI_sub (by omega), nI_add, hx]
      rw [← hx]
      have hd1 : ∀ o, (if nI x ≤ 8 then ((am_vR (am_pG 3088 (.ref 174) (fx V (iup I 211 F) L R ++ tl))).bind fun v31 => ((am_pA 0 v31 (nI k) (fx V (iup I 211 F) L R ++ tl)).bind fun v33 => (if v33 = 17 then (fg_347_116 N (fg_347_32 N K) (.ref 174) (nI k) (nI x) (fx V (iup I 211 F) L R ++ tl)) else (if am_pOk 12 (.ref 174) (fx V (iup I 211 F) L R ++ tl) then am_cI true (fm_350 (.ref 174) (nI (k + 1)) (nI x) (fx V (iup I 211 F) L R ++ tl)) (fun v37 h38 => (if ¬ v37 = 0 then (fg_347_116 N (fg_347_32 N K) (.ref 174) (nI k) (nI x) h38) else some (.inl (some (.int (nI k)), h38)))) else none)))) else some (.inl (some (.int (nI k)), fx V (iup I 211 F) L R ++ tl))) = o → fg_347_32 N (K + 1) (.ref 174) (nI k) (fx V (iup I 211 F) L R ++ tl) = o := fun o h => by
        refine hd0 o ?_
        rw [f1]
        refine ev_t (nI_le (by omega) (by omega)) (ev_b (rdR rfl) (ev_b (rs F) (ev_cI (e48 _) (ev_b (rdR rfl) (ev_b (rs F) (ev_cI (e49 _) ?_))))))
        rw [ex, nI_1]
        exact h
      by_cases c2 : 8 < x
      · rw [if_pos c2]
        exact ⟨F, hd1 _ (ev_f (nI_ge (b := x) (a := 8) c2 (by omega)) rfl), hkl⟩
      rw [if_neg c2]
      -- the second way
      have sec : ∀ (F1 : Nat → Int32) (g1 : Nat → Option Nat), htF F1 Q.length g1 → ∃ F', fg_347_116 N (fg_347_32 N K) (.ref 174) (nI k) (nI x) (fx V (iup I 211 F1) L R ++ tl) = some (.inl (some (.int (cdI (match (if s < 17 then some g1 else rch Q.length (k + 1 + sN (vlu Q k)) x g1) with | none => .inl k | some g2 => cdX Q m (k + 1) g2))), fx V (iup I 211 F') L R ++ tl)) ∧ cdQ (match (if s < 17 then some g1 else rch Q.length (k + 1 + sN (vlu Q k)) x g1) with | none => .inl k | some g2 => cdX Q m (k + 1) g2) F' Q.length := by
        intro F1 g1 hf1
        by_cases c3 : s < 17
        · rw [if_pos c3]
          obtain ⟨F', e, r⟩ := ih (k + 1) K F1 g1 (by omega) (by omega) hf1
          refine ⟨F', ?_, r⟩
          apply hd_347_116
          refine ev_b (rdR rfl) (ev_b (rs F1) (ev_t (nI_le (b := 16) (by omega) (by omega)) ?_))
          apply hd_347_147
          rw [nI_1]
          exact e
        · rw [if_neg c3]
          obtain ⟨b1, b2⟩ := a3 (by omega)
          have er := q_350 (L := L) (R := R) (tl := tl) (I := I) (q := k + 1 + sN (vlu Q k)) (h := x) hd.1 hq (by omega) (by omega) hf1
          have hd2 : ∀ (v : Int32) (F2 : Nat → Int32) (o : Option am_O), fm_350 (.ref 174) (nI (k + 1 + sN (vlu Q k))) (nI x) (fx V (iup I 211 F1) L R ++ tl) = some (.inl (some (.int v), fx V (iup I 211 F2) L R ++ tl)) → (if ¬ v = 0 then (fg_347_147 N (fg_347_32 N K) (.ref 174) (nI k) (fx V (iup I 211 F2) L R ++ tl)) else some (.inl (some (.int (nI k)), fx V (iup I 211 F2) L R ++ tl))) = o → fg_347_116 N (fg_347_32 N K) (.ref 174) (nI k) (nI x) (fx V (iup I 211 F1) L R ++ tl) = o := fun v F2 o e h => by
            apply hd_347_116
            refine ev_b (rdR rfl) (ev_b (rs F1) (ev_f (nI_ge (b := s) (a := 16) (by omega) (by omega)) (ev_b (rdR rfl) (ev_b (rv F1) ?_))))
            rw [b1, nI_1, nI_add]
            exact ev_i rfl (ev_cI e h)
          cases ec : rch Q.length (k + 1 + sN (vlu Q k)) x g1 with
          | none => exact ⟨F1, hd2 0 F1 _ (er.1 ec) (ev_f (fun e => e rfl) rfl), hkl⟩
          | some g2 =>
            obtain ⟨F2, y1, y2⟩ := er.2 g2 ec
            obtain ⟨F', e, r⟩ := ih (k + 1) K F2 g2 (by omega) (by omega) y2
            refine ⟨F', hd2 1 F2 _ y1 (ev_t (by decide) ?_), r⟩
            apply hd_347_147
            rw [nI_1]
            exact e
      by_cases c4 : s = 17
      · rw [if_pos c4]
        obtain ⟨F', e, r⟩ := sec F g hf
        exact ⟨F', hd1 _ (ev_t (nI_le (b := 8) (by omega) (by omega)) (ev_b (rdR rfl) (ev_b (rs F) (ev_t (q17.mpr c4) e)))), r⟩
      · rw [if_neg c4]
        have er := q_350 (L := L) (R := R) (tl := tl) (I := I) (q := k + 1) (h := x) hd.1 hq (by omega) (by omega) hf
        cases ec : rch Q.length (k + 1) x g with
        | none => exact ⟨F, hd1 _ (ev_t (nI_le (b := 8) (by omega) (by omega)) (ev_b (rdR rfl) (ev_b (rs F) (ev_f (fun e => c4 (q17.mp e)) (ev_i rfl (ev_cI (er.1 ec) (ev_f (fun e => e rfl) rfl))))))), hkl⟩
        | some g1 =>
          obtain ⟨F1, y1, y2⟩ := er.2 g1 ec
          obtain ⟨F', e, r⟩ := sec F1 g1 y2
          exact ⟨F', hd1 _ (ev_t (nI_le (b := 8) (by omega) (by omega)) (ev_b (rdR rfl) (ev_b (rs F) (ev_f (fun e => c4 (q17.mp e)) (ev_i rfl (ev_cI y1 (ev_t (by decide) e))))))), r⟩
set_option maxRecDepth 100000 in
set_option maxHeartbeats 4000000 in
theorem q_347 {V : Nat → Nat → Value} {I : Nat → Nat → Int32} {L : Nat → Nat → Int64} {R : Nat → Nat → Option Nat} {tl : am_H} {N : Nat} {Q : xI} (hN : 400 < N) (hq : Q.length ≤ 120) (hd : dkL V I Q) (hc : okI Q) : ∃ F', fm_347 N (.ref 174) (fx V I L R ++ tl) = some (.inl (some (.int (cdI (cdX Q Q.length 0 g00))), fx V (iup I 211 F') L R ++ tl)) ∧ cdQ (cdX Q Q.length 0 g00) F' Q.length := by
  have fill : ∀ (m k K : Nat) (F : Nat → Int32), k + m = Q.length + 1 → m < K → (∀ j, j < k → F j = -1) → ∃ F', fg_347_2 N K (.ref 174) (nI k) (fx V (iup I 211 F) L R ++ tl) = fg_347_32 N N (.ref 174) 0 (fx V (iup I 211 (upd F' 0 0)) L R ++ tl) ∧ ∀ j, j < Q.length + 1 → F' j = -1 := by
    intro m
    induction m with
    | zero =>
      intro k K F hk hK hF
      obtain ⟨K, rfl⟩ : ∃ k, K = k + 1 := ⟨K - 1, by omega⟩
      refine ⟨F, ?_, fun j hj => hF j (by omega)⟩
      apply hd_347_2
      exact ev_b (rdI hd.1) (ev_t (nI_lt (by omega) (by omega)) (ev_b (rdR rfl) (ev_b ((qs_211 (I := iup I 211 F) (k := 0) (by omega)).trans (by rw [iup_eq, iup_iup])) rfl)))
    | succ m ih =>
      intro k K F hk hK hF
      obtain ⟨K, rfl⟩ : ∃ k, K = k + 1 := ⟨K - 1, by omega⟩
      obtain ⟨F', e, r⟩ := ih (k + 1) K (upd F k (-1)) (by omega) (by omega) (fun j hj => by
        by_cases c : j = k
        · rw [c, upd_eq]
        · rw [upd_ne c]; exact hF j (by omega))
      refine ⟨F', ?_, r⟩
      apply hd_347_2
      rw [nI_1]
      exact ev_b (rdI hd.1) (ev_f (nI_nlt (by omega) (by omega)) (ev_b (rdR rfl) (ev_b ((qs_211 (I := iup I 211 F) (k := k) (by omega)).trans (by rw [iup_eq, iup_iup])) e)))
  obtain ⟨F', e, r⟩ := fill (Q.length + 1) 0 N (I 211) (by omega) (by omega) (fun j hj => by omega)
  rw [iup_self] at e
  have h0 : htF (upd F' 0 0) Q.length g00 := fun j hj => by
    by_cases c : j = 0
    · subst c
      rw [upd_eq]
      exact ⟨rfl, fun h e => by have := Option.some.inj e; omega⟩
    · rw [upd_ne c]
      unfold g00
      rw [if_neg c]
      exact ⟨r j (by omega), fun h e => absurd e (by simp)⟩
  obtain ⟨F2, e2, r2⟩ := q_347l (L := L) (R := R) (tl := tl) (N := N) hq hd hc Q.length 0 N (upd F' 0 0) g00 (by omega) (by omega) h0
  refine ⟨F2, ?_, r2⟩
  apply hm_347
  apply hd_347_0
  exact e.trans e2
