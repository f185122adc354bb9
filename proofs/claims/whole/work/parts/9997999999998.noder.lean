/-! ===== read: trees, reference ===== -/
theorem hd_328_68 {N : Nat} {h : am_H} {r_ : Option am_O} (k_ : some (.inl (none, h)) = r_) : fg_328_68 N h = r_ := k_
theorem hd_328_41 {N : Nat} {x0 : Value} {h : am_H} {r_ : Option am_O} (k_ : ((am_vI (am_pG 3142 x0 h)).bind fun v1 => (if 0 ≤ v1 then (fg_328_68 N h) else ((am_vI (am_pG 3141 x0 h)).bind fun v4 => ((am_vI (am_pG 3140 x0 h)).bind fun v6 => (if v6 ≤ v4 then (fg_328_68 N h) else ((am_vI (am_pG 3141 x0 h)).bind fun v9 => (if am_pOk 12 x0 h then am_cI true (fm_331 x0 v9 h) (fun v12 h13 => (fg_328_68 N h13)) else none))))))) = r_) : fg_328_41 N x0 h = r_ := k_
theorem hd_328_37 {N : Nat} {rec_7 : Value → Int32 → am_H → Option am_O} {x0 : Value} {s0 : Int32} {h : am_H} {r_ : Option am_O} (k_ : (rec_7 x0 s0 h) = r_) : fg_328_37 N rec_7 x0 s0 h = r_ := k_
theorem hd_328_36 {N : Nat} {rec_7 : Value → Int32 → am_H → Option am_O} {x0 : Value} {h : am_H} {r_ : Option am_O} (k_ : (fg_328_37 N rec_7 x0 0 h) = r_) : fg_328_36 N rec_7 x0 h = r_ := k_
theorem hd_328_7 {N : Nat} {K : Nat} {x0 : Value} {x1 : Int32} {h : am_H} {r_ : Option am_O} (k_ : (if x1 = 0 then (fg_328_41 N x0 h) else ((am_vI (am_pG 3142 x0 h)).bind fun v2 => (if 0 ≤ v2 then (fg_328_41 N x0 h) else (if am_pOk 12 x0 h then am_cI true (fm_329 x0 h) (fun v6 h7 => (if v6 = 0 then (fg_328_36 N (fg_328_7 N K) x0 h7) else (if am_pOk 12 x0 h7 then am_cI true (fm_342 N x0 h7) (fun v11 h12 => (if v11 = 0 then (fg_328_36 N (fg_328_7 N K) x0 h12) else (fg_328_37 N (fg_328_7 N K) x0 1 h12))) else none))) else none)))) = r_) : fg_328_7 N (K + 1) x0 x1 h = r_ := by rw [fg_328_7]; exact k_
theorem hd_328_0 {N : Nat} {x0 : Value} {h : am_H} {r_ : Option am_O} (k_ : ((am_pP 3145 x0 (.int 0) h).bind fun h1 => (fg_328_7 N N x0 1 h1)) = r_) : fg_328_0 N x0 h = r_ := k_
theorem hm_328 {N : Nat} {y0 : Value} {h : am_H} {r_ : Option am_O} (k_ : fg_328_0 N y0 h = r_) : fm_328 N y0 h = r_ := k_
theorem hd_329_353 {x0 : Value} {h : am_H} {r_ : Option am_O} (k_ : (if am_pOk 12 x0 h then am_cI true (fm_340 x0 h) (fun v2 h3 => (if ¬ v2 = 0 then ((am_vI (am_pG 3144 x0 h3)).bind fun v6 => (if am_pOk 12 x0 h3 then am_cV true (fm_335 x0 0 v6 h3) (fun h10 => some (.inl (some (.int 1), h10))) else none)) else some (.inl (some (.int 0), h3)))) else none) = r_) : fg_329_353 x0 h = r_ := k_
theorem hd_329_298 {x0 : Value} {x3 : Int32} {h : am_H} {r_ : Option am_O} (k_ : (if x3 ≤ 0 then ((am_vI (am_pG 3141 x0 h)).bind fun v2 => (if am_pOk 12 x0 h then am_cI true (fm_332 x0 v2 h) (fun v5 h6 => (if v5 = 45 then (fg_329_353 x0 h6) else ((am_vI (am_pG 3141 x0 h6)).bind fun v9 => (if am_pOk 12 x0 h6 then am_cI true (fm_339 x0 v9 h6) (fun v12 h13 => (if ¬ v12 = 0 then (fg_329_353 x0 h13) else ((am_vI (am_pG 3141 x0 h13)).bind fun v16 => (if am_pOk 12 x0 h13 then am_cI true (fm_331 x0 v16 h13) (fun v19 h20 => (if am_rfit (some FieldType.boolean) v19 then some (.inl (some (.int v19), h20)) else none)) else none)))) else none)))) else none)) else (if am_pOk 12 x0 h then am_cV true (fm_335 x0 x3 0 h) (fun h25 => ((am_vI (am_pG 3141 x0 h25)).bind fun v27 => ((am_pP 3141 x0 (.int (v27 + 1)) h25).bind fun h29 => some (.inl (some (.int 1), h29))))) else none)) = r_) : fg_329_298 x0 x3 h = r_ := k_
theorem hd_329_289 {x0 : Value} {h : am_H} {r_ : Option am_O} (k_ : ((am_vI (am_pG 3141 x0 h)).bind fun v1 => (if am_pOk 12 x0 h then am_cI true (fm_331 x0 v1 h) (fun v4 h5 => (if am_rfit (some FieldType.boolean) v4 then some (.inl (some (.int v4), h5)) else none)) else none)) = r_) : fg_329_289 x0 h = r_ := k_
theorem hd_329_263 {s0 : Int32} {h : am_H} {r_ : Option am_O} (k_ : (if am_rfit (some FieldType.boolean) s0 then some (.inl (some (.int s0), h)) else none) = r_) : fg_329_263 s0 h = r_ := k_
theorem hd_329_262 {h : am_H} {r_ : Option am_O} (k_ : (fg_329_263 0 h) = r_) : fg_329_262 h = r_ := k_
theorem hd_329_186 {x0 : Value} {x2 : Int32} {x3 : Int32} {h : am_H} {r_ : Option am_O} (k_ : (if am_pOk 12 x0 h then am_cV true (fm_335 x0 x3 0 h) (fun h3 => ((am_vI (am_pG 3141 x0 h3)).bind fun v5 => ((am_pP 3141 x0 (.int (v5 + 2)) h3).bind fun h7 => ((am_vR (am_pG 3146 x0 h7)).bind fun v9 => ((am_vI (am_pG 3145 x0 h7)).bind fun v11 => ((am_pS 0 v9 v11 x3 h7).bind fun h13 => ((am_vR (am_pG 3147 x0 h13)).bind fun v15 => ((am_vI (am_pG 3145 x0 h13)).bind fun v17 => ((am_pS 0 v15 v17 0 h13).bind fun h19 => ((am_vR (am_pG 3148 x0 h19)).bind fun v21 => ((am_vI (am_pG 3145 x0 h19)).bind fun v23 => ((am_pS 2 v21 v23 x2 h19).bind fun h25 => ((am_vI (am_pG 3145 x0 h25)).bind fun v27 => ((am_pP 3145 x0 (.int (v27 + 1)) h25).bind fun h29 => (if am_pOk 12 x0 h29 then am_cI true (fm_336 x0 32 h29) (fun v32 h33 => (if v32 = 0 then (fg_329_262 h33) else (if am_pOk 12 x0 h33 then am_cI true (fm_337 x0 h33) (fun v37 h38 => (if v37 = 0 then (fg_329_262 h38) else (fg_329_263 1 h38))) else none))) else none))))))))))))))) else none) = r_) : fg_329_186 x0 x2 x3 h = r_ := k_
theorem hd_329_175 {x0 : Value} {h : am_H} {r_ : Option am_O} (k_ : ((am_vI (am_pG 3141 x0 h)).bind fun v1 => (if am_pOk 12 x0 h then am_cI true (fm_331 x0 ((v1 + 1)) h) (fun v4 h5 => (if am_rfit (some FieldType.boolean) v4 then some (.inl (some (.int v4), h5)) else none)) else none)) = r_) : fg_329_175 x0 h = r_ := k_
theorem hd_329_117 {x0 : Value} {h : am_H} {r_ : Option am_O} (k_ : ((am_vI (am_pG 3141 x0 h)).bind fun v1 => (if am_pOk 12 x0 h then am_cI true (fm_331 x0 v1 h) (fun v4 h5 => (if am_rfit (some FieldType.boolean) v4 then some (.inl (some (.int v4), h5)) else none)) else none)) = r_) : fg_329_117 x0 h = r_ := k_
theorem hd_329_98 {x0 : Value} {x1 : Int32} {s0 : Int32} {h : am_H} {r_ : Option am_O} (k_ : ((am_vI (am_pG 3086 x0 h)).bind fun v1 => (if v1 = 60 then (fg_329_117 x0 h) else ((am_vI (am_pG 3145 x0 h)).bind fun v4 => (if ¬ v4 = 12 then ((am_vI (am_pG 3141 x0 h)).bind fun v7 => (if am_pOk 12 x0 h then am_cI true (fm_332 x0 v7 h) (fun v10 h11 => (if ¬ v10 = 40 then ((am_vI (am_pG 3141 x0 h11)).bind fun v14 => (if am_pOk 12 x0 h11 then am_cI true (fm_332 x0 v14 h11) (fun v17 h18 => am_cI false (fm_338 v17 h18) (fun v20 h21 => (if ¬ x1 = 0 then (fg_329_289 x0 h21) else (if ¬ s0 = 0 then (fg_329_298 x0 v20 h21) else (if v20 ≤ 4 then (fg_329_298 x0 v20 h21) else (fg_329_289 x0 h21)))))) else none)) else ((am_vI (am_pG 3141 x0 h11)).bind fun v26 => (if am_pOk 12 x0 h11 then am_cI true (fm_332 x0 ((v26 + 1)) h11) (fun v29 h30 => am_cI false (fm_333 v29 h30) (fun v32 h33 => (if v32 < 0 then (fg_329_175 x0 h33) else am_cI false (fm_334 v32 h33) (fun v36 h37 => (if ¬ v36 = x1 then (fg_329_175 x0 h37) else (if s0 = 0 then (fg_329_186 x0 s0 v32 h37) else (if ¬ v32 = 19 then (fg_329_186 x0 s0 v32 h37) else (fg_329_175 x0 h37)))))))) else none)))) else none)) else (fg_329_117 x0 h))))) = r_) : fg_329_98 x0 x1 s0 h = r_ := k_
theorem hd_329_97 {x0 : Value} {x1 : Int32} {h : am_H} {r_ : Option am_O} (k_ : (fg_329_98 x0 x1 0 h) = r_) : fg_329_97 x0 x1 h = r_ := k_
theorem hd_329_93 {x0 : Value} {x1 : Int32} {h : am_H} {r_ : Option am_O} (k_ : (fg_329_98 x0 x1 1 h) = r_) : fg_329_93 x0 x1 h = r_ := k_
theorem hd_329_40 {x0 : Value} {s0 : Int32} {h : am_H} {r_ : Option am_O} (k_ : ((am_vI (am_pG 3145 x0 h)).bind fun v1 => (if v1 ≤ 0 then (fg_329_97 x0 s0 h) else ((am_vR (am_pG 3148 x0 h)).bind fun v4 => ((am_vI (am_pG 3145 x0 h)).bind fun v6 => ((am_pA 2 v4 (v6 - 1) h).bind fun v8 => (if ¬ v8 = 0 then (fg_329_93 x0 s0 h) else ((am_vR (am_pG 3146 x0 h)).bind fun v11 => ((am_vI (am_pG 3145 x0 h)).bind fun v13 => ((am_pA 0 v11 (v13 - 1) h).bind fun v15 => (if ¬ v15 = 19 then (fg_329_97 x0 s0 h) else ((am_vR (am_pG 3147 x0 h)).bind fun v18 => ((am_vI (am_pG 3145 x0 h)).bind fun v20 => ((am_pA 0 v18 (v20 - 1) h).bind fun v22 => (if ¬ v22 = 1 then (fg_329_97 x0 s0 h) else (fg_329_93 x0 s0 h))))))))))))))) = r_) : fg_329_40 x0 s0 h = r_ := k_
theorem hd_329_39 {x0 : Value} {h : am_H} {r_ : Option am_O} (k_ : (fg_329_40 x0 0 h) = r_) : fg_329_39 x0 h = r_ := k_
theorem hd_329_0 {x0 : Value} {h : am_H} {r_ : Option am_O} (k_ : ((am_vI (am_pG 3145 x0 h)).bind fun v1 => (if v1 ≤ 0 then (fg_329_39 x0 h) else ((am_vR (am_pG 3146 x0 h)).bind fun v4 => ((am_vI (am_pG 3145 x0 h)).bind fun v6 => ((am_pA 0 v4 (v6 - 1) h).bind fun v8 => ((am_vR (am_pG 3147 x0 h)).bind fun v10 => ((am_vI (am_pG 3145 x0 h)).bind fun v12 => ((am_pA 0 v10 (v12 - 1) h).bind fun v14 => am_cI false (fm_330 v8 v14 h) (fun v16 h17 => (if v16 = 0 then (fg_329_39 x0 h17) else (fg_329_40 x0 1 h17))))))))))) = r_) : fg_329_0 x0 h = r_ := k_
theorem hm_329 {y0 : Value} {h : am_H} {r_ : Option am_O} (k_ : fg_329_0 y0 h = r_) : fm_329 y0 h = r_ := k_
theorem hd_337_0 {x0 : Value} {h : am_H} {r_ : Option am_O} (k_ : ((am_pP 3149 x0 (.int 1) h).bind fun h1 => some (.inl (some (.int 1), h1))) = r_) : fg_337_0 x0 h = r_ := k_
theorem hm_337 {y0 : Value} {h : am_H} {r_ : Option am_O} (k_ : fg_337_0 y0 h = r_) : fm_337 y0 h = r_ := k_
theorem hd_342_14 {N : Nat} {K : Nat} {x0 : Value} {h : am_H} {r_ : Option am_O} (k_ : ((am_vI (am_pG 3145 x0 h)).bind fun v1 => (if v1 ≤ 0 then some (.inl (some (.int 0), h)) else ((am_vR (am_pG 3147 x0 h)).bind fun v4 => ((am_vI (am_pG 3145 x0 h)).bind fun v6 => ((am_pA 0 v4 (v6 - 1) h).bind fun v8 => ((am_pS 0 v4 (v6 - 1) (v8 + 1) h).bind fun h10 => ((am_vR (am_pG 3147 x0 h10)).bind fun v12 => ((am_vI (am_pG 3145 x0 h10)).bind fun v14 => ((am_pA 0 v12 (v14 - 1) h10).bind fun v16 => ((am_vR (am_pG 3146 x0 h10)).bind fun v18 => ((am_vI (am_pG 3145 x0 h10)).bind fun v20 => ((am_pA 0 v18 (v20 - 1) h10).bind fun v22 => am_cI false (fm_343 v22 h10) (fun v24 h25 => (if v24 ≤ v16 then (if am_pOk 12 x0 h25 then am_cI true (fm_336 x0 41 h25) (fun v29 h30 => (if ¬ v29 = 0 then ((am_vI (am_pG 3145 x0 h30)).bind fun v33 => ((am_pP 3145 x0 (.int (v33 - 1)) h30).bind fun h35 => (fg_342_14 N K x0 h35))) else some (.inl (some (.int 0), h30)))) else none) else (if am_pOk 12 x0 h25 then am_cI true (fm_336 x0 32 h25) (fun v38 h39 => (if am_rfit (some FieldType.boolean) v38 then some (.inl (some (.int v38), h39)) else none)) else none))))))))))))))) = r_) : fg_342_14 N (K + 1) x0 h = r_ := by rw [fg_342_14]; exact k_
theorem hd_342_0 {N : Nat} {x0 : Value} {h : am_H} {r_ : Option am_O} (k_ : ((am_vI (am_pG 3149 x0 h)).bind fun v1 => (if v1 = 0 then (fg_342_14 N N x0 h) else ((am_pP 3149 x0 (.int 0) h).bind fun h4 => some (.inl (some (.int 1), h4))))) = r_) : fg_342_0 N x0 h = r_ := k_
theorem hm_342 {N : Nat} {y0 : Value} {h : am_H} {r_ : Option am_O} (k_ : fg_342_0 N y0 h = r_) : fm_342 N y0 h = r_ := k_

theorem ts_c : ∀ c, c < 256 → pv_333 (nI c) = if sgT c < 21 then nI (sgT c) else -1 := by decide +kernel
theorem ls_c : ∀ c, c < 256 → pv_338 (nI c) = if lfT c = 0 then -1 else nI (lfT c) := by decide +kernel
theorem ts333 {T : Nat → Nat} {m q : Nat} {f : Nat → Int32} (ht : tqT T m f) : pv_333 (rByt T m q) = if sgT (T q) < 21 then nI (sgT (T q)) else -1 := by
  unfold rByt
  by_cases a : q < m
  · rw [if_pos a]; exact ts_c _ (tq_256 ht q)
  · rw [if_neg a, ht.2.2 q (by omega)]; decide
theorem ls338 {T : Nat → Nat} {m q : Nat} {f : Nat → Int32} (ht : tqT T m f) : pv_338 (rByt T m q) = if lfT (T q) = 0 then -1 else nI (lfT (T q)) := by
  unfold rByt
  by_cases a : q < m
  · rw [if_pos a]; exact ls_c _ (tq_256 ht q)
  · rw [if_neg a, ht.2.2 q (by omega)]; decide
def topR (I : Nat → Nat → Int32) (o tr inn : Nat) : Prop := (o = 0 ∧ tr = 0 ∧ inn = 0) ∨ ∃ s k i0, 1 ≤ o ∧ s < 21 ∧ k < 3 ∧ i0 ≤ 1 ∧ I 220 (o - 1) = nI s ∧ I 221 (o - 1) = nI k ∧ I 222 (o - 1) = nI i0 ∧ tr = twN s k ∧ inn = (if s = 19 ∧ k = 1 then 1 else i0)
theorem r_329h {V : Nat → Nat → Value} {I : Nat → Nat → Int32} {L : Nat → Nat → Int64} {R : Nat → Nat → Option Nat} {tl : am_H} {o tr inn : Nat} (ho : V 174 73 = .int (nI o)) (o12 : o ≤ 12) (ht : topR I o tr inn) {r : Option am_O} (k_ : fg_329_98 (.ref 174) (nI tr) (nI inn) (fx V I L R ++ tl) = r) : fm_329 (.ref 174) (fx V I L R ++ tl) = r := by
  rcases ht with ⟨rfl, rfl, rfl⟩ | ⟨s, k, i0, o1, hs, hk, hi, g1, g2, g3, rfl, rfl⟩
  · apply hm_329
    apply hd_329_0
    exact ev_b (rdI ho) (ev_t (by decide) (hd_329_39 (hd_329_40 (ev_b (rdI ho) (ev_t (by decide) (hd_329_97 k_))))))
  · have ng : ¬ nI o ≤ 0 := nI_ge (a := 0) (by omega) (by omega)
    have e1 : nI o - 1 = nI (o - 1) := nI_sub (b := 1) o1
    have a0 : am_pA 0 (.ref 220) (nI o - 1) (fx V I L R ++ tl) = some (nI s) := by rw [e1]; exact (qa_220 (by omega)).trans (congrArg some g1)
    have a1 : am_pA 0 (.ref 221) (nI o - 1) (fx V I L R ++ tl) = some (nI k) := by rw [e1]; exact (qa_221 (by omega)).trans (congrArg some g2)
    have a2 : am_pA 2 (.ref 222) (nI o - 1) (fx V I L R ++ tl) = some (nI i0) := by rw [e1]; exact (qa_222 (by omega)).trans (congrArg some g3)
    have e40 : fg_329_40 (.ref 174) (nI (twN s k)) (fx V I L R ++ tl) = r := by
      apply hd_329_40
      refine ev_b (rdI ho) (ev_f ng (ev_b (rdR rfl) (ev_b (rdI ho) (ev_b a2 ?_))))
      by_cases c0 : i0 = 0
      · subst c0
        refine ev_f (fun q => q rfl) (ev_b (rdR rfl) (ev_b (rdI ho) (ev_b a0 ?_)))
        by_cases c4 : s = 19
        · refine ev_f (fun q => q (by rw [c4]; rfl)) (ev_b (rdR rfl) (ev_b (rdI ho) (ev_b a1 ?_)))
          by_cases c5 : k = 1
          · rw [if_pos ⟨c4, c5⟩] at k_
            exact ev_f (fun q => q (by rw [c5]; rfl)) (hd_329_93 k_)
          · rw [if_neg (fun q => c5 q.2)] at k_
            exact ev_t (fun q => c5 ((nI_eq (b := 1) (by omega) (by omega)).mp q)) (hd_329_97 k_)
        · rw [if_neg (fun q => c4 q.1)] at k_
          exact ev_t (fun q => c4 ((nI_eq (b := 19) (by omega) (by omega)).mp q)) (hd_329_97 k_)
      · obtain rfl : i0 = 1 := by omega
        rw [show (if s = 19 ∧ k = 1 then 1 else 1) = 1 by split <;> rfl] at k_
        exact ev_t (by decide) (hd_329_93 k_)
    apply hm_329
    apply hd_329_0
    refine ev_b (rdI ho) (ev_f ng (ev_b (rdR rfl) (ev_b (rdI ho) (ev_b a0 (ev_b (rdR rfl) (ev_b (rdI ho) (ev_b a1 (ev_cI ((pe_330 _ _ _).trans (by rw [tw330 s hs k hk])) ?_))))))))
    rcases (by have := tw_le1 (s := s) (k := k); omega : twN s k = 0 ∨ twN s k = 1) with z | z
    · rw [z] at e40 ⊢
      exact ev_t rfl (hd_329_39 e40)
    · rw [z] at e40 ⊢
      exact ev_f (by decide) e40
theorem cs_no {T : Nat → Nat} {p : Nat} (h1 : ¬ T p = 45) (h2 : dgB (T p) = false) : csT T p = .inl p := by
  unfold csT
  rw [if_neg h1]
  have : dgS T p = .inl p := by unfold dgS; rw [if_neg (by rw [h2]; decide)]
  rw [this]
set_option maxRecDepth 100000 in
set_option maxHeartbeats 4000000 in
theorem r_329 {V : Nat → Nat → Value} {I : Nat → Nat → Int32} {L : Nat → Nat → Int64} {R : Nat → Nat → Option Nat} {tl : am_H} {T : Nat → Nat} {m p o tr inn : Nat} {Q : xT} (h : stR V I T m p (-1)) (hd : dkL V I (tI Q)) (ho : V 174 73 = .int (nI o)) (hg : V 174 77 = .int 0) (o12 : o ≤ 12) (hl : Q.length ≤ 60) (hp : p ≤ m) (ht : topR I o tr inn) (htr : tr ≤ 1) (hin : inn ≤ 1) : (∃ W J e, fm_329 (.ref 174) (fx V I L R ++ tl) = some (.inl (some (.int 0), fx W J L R ++ tl)) ∧ e ≤ m ∧ W 174 70 = .int (nI e) ∧ frRd V W I J ∧ ∀ d, o + d = 12 → pN T d tr inn p Q = .inl e) ∨ (∃ W J q Q', fm_329 (.ref 174) (fx V I L R ++ tl) = some (.inl (some (.int 1), fx W J L R ++ tl)) ∧ stR W J T m q (-1) ∧ dkL W J (tI Q') ∧ W 174 73 = .int (nI o) ∧ W 174 77 = .int 0 ∧ q ≤ m ∧ Q'.length = Q.length + 1 ∧ Q'.length ≤ 60 ∧ frRd V W I J ∧ (∀ y, 220 ≤ y → y ≤ 222 → J y = I y) ∧ ∀ d, o + d = 12 → pN T d tr inn p Q = .inr (q, Q')) ∨ (∃ W J s, fm_329 (.ref 174) (fx V I L R ++ tl) = some (.inl (some (.int 1), fx W J L R ++ tl)) ∧ o < 12 ∧ 7 ≤ s ∧ s < 21 ∧ T (p + 2) = 32 ∧ p + 3 ≤ m ∧ stR W J T m (p + 3) (-1) ∧ dkL W J (tI (Q ++ [(s, 0)])) ∧ Q.length < 60 ∧ W 174 73 = .int (nI (o + 1)) ∧ W 174 77 = .int 1 ∧ J 220 o = nI s ∧ J 221 o = nI 0 ∧ J 222 o = nI inn ∧ (∀ y j, 220 ≤ y → y ≤ 222 → j < o → J y j = I y j) ∧ frRd V W I J ∧ ∀ d, o + (d + 1) = 12 → pN T (d + 1) tr inn p Q = pK T (pN T d) s inn (arN s) 0 (p + 2) (Q ++ [(s, 0)])) := by
  have m240 := h.2.2.2.1
  have h14 : V 174 14 = .int (nI Q.length) := by rw [← tI_len (P := Q)]; exact hd.1
  have lQ := tI_len (P := Q)
  have t0 := tq_256 h.2.2.2 p
  have t1 := tq_256 h.2.2.2 (p + 1)
  by_cases c60 : Q.length = 60
  · refine .inl ⟨vup V 174 70 (.int (nI p)), I, p, r_329h ho o12 ht ?_, hp, vup_eq, frRd_v (by decide), fun d _ => ?_⟩
    · apply hd_329_98
      exact ev_b (rdI h14) (ev_t (by rw [c60]; rfl) (hd_329_117 (ev_b (rdI h.2.1) (ev_i rfl (ev_cI (r_331 h) (ev_i rfl rfl))))))
    · cases d with
      | zero => rfl
      | succ d => rw [pN, if_pos (by omega)]
  have n60 : ¬ nI Q.length = 60 := fun q => c60 ((nI_eq (b := 60) (by omega) (by omega)).mp q)
  by_cases c12 : o = 12
  · refine .inl ⟨vup V 174 70 (.int (nI p)), I, p, r_329h ho o12 ht ?_, hp, vup_eq, frRd_v (by decide), fun d q => ?_⟩
    · apply hd_329_98
      exact ev_b (rdI h14) (ev_f n60 (ev_b (rdI ho) (ev_f (fun q => q (by rw [c12]; rfl)) (hd_329_117 (ev_b (rdI h.2.1) (ev_i rfl (ev_cI (r_331 h) (ev_i rfl rfl))))))))
    · obtain rfl : d = 0 := by omega
      rfl
  have n12 : ¬ nI o = 12 := fun q => c12 ((nI_eq (b := 12) (by omega) (by omega)).mp q)
  have pd : ∀ {r : Nat ⊕ (Nat × xT)}, (∀ d, o + (d + 1) = 12 → pN T (d + 1) tr inn p Q = r) → ∀ d, o + d = 12 → pN T d tr inn p Q = r := fun hh d q => by
    cases d with
    | zero => omega
    | succ d => exact hh d q
  have l60 : ¬ 60 ≤ Q.length := by omega
  by_cases c4 : T p = 40
  · have pm := tq_m h.2.2.2 (p := p) (by omega)
    obtain ⟨s, es⟩ : ∃ s, s = sgT (T (p + 1)) := ⟨_, rfl⟩
    obtain ⟨b7, b21, -⟩ := sg_b (T (p + 1)) t1
    rw [← es] at b7 b21
    have pre : ∀ o', (if (if s < 21 then nI s else (-1 : Int32)) < 0 then fg_329_175 (.ref 174) (fx V I L R ++ tl) else am_cI false (fm_334 (if s < 21 then nI s else (-1 : Int32)) (fx V I L R ++ tl)) (fun v36 h37 => (if ¬ v36 = nI tr then (fg_329_175 (.ref 174) h37) else (if nI inn = 0 then (fg_329_186 (.ref 174) (nI inn) (if s < 21 then nI s else (-1 : Int32)) h37) else (if ¬ (if s < 21 then nI s else (-1 : Int32)) = 19 then (fg_329_186 (.ref 174) (nI inn) (if s < 21 then nI s else (-1 : Int32)) h37) else (fg_329_175 (.ref 174) h37)))))) = o' → fm_329 (.ref 174) (fx V I L R ++ tl) = o' := fun o' k_ => by
      refine r_329h ho o12 ht ?_
      apply hd_329_98
      refine ev_b (rdI h14) (ev_f n60 (ev_b (rdI ho) (ev_t n12 (ev_b (rdI h.2.1) (ev_i rfl (ev_cI (r_332 h (by omega)) (ev_f (fun q => q ((rByt_eq h.2.2.2 (c := 40) (by omega) (by omega)).mpr c4)) (ev_b (rdI h.2.1) (ev_i rfl ?_)))))))))
      rw [nI_1]
      refine ev_cI (r_332 h (by omega)) (ev_cI (pe_333 _ _) ?_)
      rw [ts333 h.2.2.2, ← es]
      exact k_
    have b175 : fg_329_175 (.ref 174) (fx V I L R ++ tl) = some (.inl (some (.int 0), fx (vup V 174 70 (.int (nI (p + 1)))) I L R ++ tl)) := by
      apply hd_329_175
      refine ev_b (rdI h.2.1) (ev_i rfl ?_)
      rw [nI_1]
      exact ev_cI (r_331 h) (ev_i rfl rfl)
    have spec : ∀ d, pN T (d + 1) tr inn p Q = (if s < 21 ∧ truN s = tr ∧ ¬ (s = 19 ∧ inn ≠ 0) then pK T (pN T d) s inn (arN s) 0 (p + 2) (Q ++ [(s, 0)]) else .inl (p + 1)) := fun d => by
      rw [pN, if_neg l60, if_pos c4, ← es]
    have bad : ¬ (s < 21 ∧ truN s = tr ∧ ¬ (s = 19 ∧ inn ≠ 0)) → fm_329 (.ref 174) (fx V I L R ++ tl) = some (.inl (some (.int 0), fx (vup V 174 70 (.int (nI (p + 1)))) I L R ++ tl)) → (∃ W J e, fm_329 (.ref 174) (fx V I L R ++ tl) = some (.inl (some (.int 0), fx W J L R ++ tl)) ∧ e ≤ m ∧ W 174 70 = .int (nI e) ∧ frRd V W I J ∧ ∀ d, o + d = 12 → pN T d tr inn p Q = .inl e) := fun hn e => ⟨_, I, p + 1, e, by omega, vup_eq, frRd_v (by decide), pd (fun d _ => by rw [spec, if_neg hn])⟩
    by_cases c21 : s < 21
    · rw [if_pos c21] at pre
      have nn : ¬ nI s < 0 := Int32.not_lt.mpr (nI_pos' (by omega))
      have e334 : fm_334 (nI s) (fx V I L R ++ tl) = some (.inl (some (.int (nI (truN s))), fx V I L R ++ tl)) := (pe_334 _ _).trans (by rw [(ar343 s c21).2])
      have tr1 : truN s ≤ 1 := by unfold truN; split <;> omega
      by_cases ct : truN s = tr
      · by_cases cf : s = 19 ∧ inn ≠ 0
        · refine .inl (bad (fun q => q.2.2 cf) (pre _ (ev_f nn (ev_cI e334 (ev_f (fun q => q (by rw [ct])) (ev_f (fun q => cf.2 ((nI_eq (b := 0) (by omega) (by omega)).mp q)) (ev_f (fun q => q (by rw [cf.1]; rfl)) b175)))))))
        · have ok : s < 21 ∧ truN s = tr ∧ ¬ (s = 19 ∧ inn ≠ 0) := ⟨c21, ct, cf⟩
          have to186 : ∀ o', fg_329_186 (.ref 174) (nI inn) (nI s) (fx V I L R ++ tl) = o' → fm_329 (.ref 174) (fx V I L R ++ tl) = o' := fun o' k_ => by
            refine pre _ (ev_f nn (ev_cI e334 (ev_f (fun q => q (by rw [ct])) ?_)))
            by_cases ci : inn = 0
            · rw [ci] at k_ ⊢
              exact ev_t rfl k_
            · exact ev_f (fun q => ci ((nI_eq (b := 0) (by omega) (by omega)).mp q)) (ev_t (fun q => cf ⟨(nI_eq (b := 19) (by omega) (by omega)).mp q, ci⟩) k_)
          have pm2 : p + 1 < m := by
            refine tq_m h.2.2.2 (fun z => ?_)
            rw [z, sgz_0.1] at es
            omega
          obtain ⟨V1, J1, e1, f1, v1, j1, s1, d1⟩ := dkL_ap (V := V) (I := I) (L := L) (R := R) (tl := tl) hd (by omega) h (nI s) 0
          rw [← tI_ap2 (a := (s, 0))] at d1
          have o1 : V1 174 73 = .int (nI o) := (v1 73 (by decide)).trans ho
          obtain ⟨V2, eV2⟩ : ∃ X, X = vup V1 174 69 (.int (nI (p + 2))) := ⟨_, rfl⟩
          have o2 : V2 174 73 = .int (nI o) := by rw [eV2, vup_o (by decide)]; exact o1
          obtain ⟨J2, eJ2⟩ : ∃ X, X = iup J1 220 (upd (J1 220) o (nI s)) := ⟨_, rfl⟩
          obtain ⟨J3, eJ3⟩ : ∃ X, X = iup J2 221 (upd (J2 221) o 0) := ⟨_, rfl⟩
          obtain ⟨J4, eJ4⟩ : ∃ X, X = iup J3 222 (upd (J3 222) o (nI inn)) := ⟨_, rfl⟩
          obtain ⟨V3, eV3⟩ : ∃ X, X = vup V2 174 73 (.int (nI (o + 1))) := ⟨_, rfl⟩
          have j4 : ∀ y, ¬ (220 ≤ y ∧ y ≤ 222) → J4 y = J1 y := fun y hy => by rw [eJ4, iup_na (by omega), eJ3, iup_na (by omega), eJ2, iup_na (by omega)]
          have q0 : J4 220 = upd (J1 220) o (nI s) := by rw [eJ4, iup_na (by decide), eJ3, iup_na (by decide), eJ2, iup_eq]
          have q1 : J4 221 = upd (J1 221) o 0 := by rw [eJ4, iup_na (by decide), eJ3, iup_eq, eJ2, iup_na (by decide)]
          have q2 : J4 222 = upd (J1 222) o (nI inn) := by rw [eJ4, iup_eq, eJ3, iup_na (by decide), eJ2, iup_na (by decide)]
          have s2 : stR V2 J1 T m (p + 2) (-1) := by rw [eV2]; exact stR_a s1
          have s3 : stR V3 J4 T m (p + 2) (-1) := by
            have := stR_o (j := 73) (x := .int (nI (o + 1))) (by decide) s2
            rw [← eV3] at this
            exact ⟨this.1, this.2.1, this.2.2.1, by rw [j4 218 (by decide)]; exact this.2.2.2⟩
          have f4 : frRd V1 V3 J1 J4 := ⟨fun a j q => by rw [eV3, vup_o (fun e => q ⟨e.1, by omega⟩), eV2, vup_o (fun e => q ⟨e.1, by omega⟩)], fun y q => j4 y (by omega), fun w => by rw [eV3, eV2]; exact wt_i (wt_i w (by decide)) (by decide)⟩
          have e4 := r_336 (V := V3) (I := J4) (L := L) (R := R) (tl := tl) (c := 32) (by omega) (by omega) (x := 32) rfl s3 (by omega)
          have pr2 : ∀ o', am_cI true (fm_336 (.ref 174) 32 (fx V3 J4 L R ++ tl)) (fun v32 h33 => (if v32 = 0 then (fg_329_262 h33) else (if am_pOk 12 (.ref 174) h33 then am_cI true (fm_337 (.ref 174) h33) (fun v37 h38 => (if v37 = 0 then (fg_329_262 h38) else (fg_329_263 1 h38))) else none))) = o' → fm_329 (.ref 174) (fx V I L R ++ tl) = o' := fun o' k_ => by
            refine to186 _ ?_
            apply hd_329_186
            refine ev_i rfl (ev_cV e1 (ev_b (rdI s1.2.1) (ev_b (a := fx V2 J1 L R ++ tl) (by rw [show nI p + 2 = nI (p + 2) from nI_add p 2, eV2]; exact qp_174_69) (ev_b (rdR rfl) (ev_b (rdI o2) (ev_b (a := fx V2 J2 L R ++ tl) (by rw [eJ2]; exact qs_220 (by omega)) (ev_b (rdR rfl) (ev_b (rdI o2) (ev_b (a := fx V2 J3 L R ++ tl) (by rw [eJ3]; exact qs_221 (by omega)) (ev_b (rdR rfl) (ev_b (rdI o2) (ev_b (a := fx V2 J4 L R ++ tl) ?_ (ev_b (rdI o2) (ev_b (a := fx V3 J4 L R ++ tl) (by rw [nI_1, eV3]; exact qp_174_73) (ev_i rfl k_)))))))))))))))
            rw [eJ4]
            exact qs_222 (by omega) (by rcases (by omega : inn = 0 ∨ inn = 1) with rfl | rfl <;> rfl)
          obtain ⟨aa, ea⟩ : ∃ aa, arN s = aa + 1 := ⟨arN s - 1, by
            have : arN s ≠ 0 := fun e => by have := ar_0.mp e; omega
            omega⟩
          by_cases c32 : T (p + 2) = 32
          · rw [if_pos c32] at e4
            have pm3 := tq_m h.2.2.2 (p := p + 2) (by omega)
            obtain ⟨V4, eV4⟩ : ∃ X, X = vup V3 174 69 (.int (nI (p + 2 + 1))) := ⟨_, rfl⟩
            rw [← eV4] at e4
            have s4 : stR V4 J4 T m (p + 3) (-1) := by rw [eV4]; exact stR_a s3
            refine .inr (.inr ⟨vup V4 174 77 (.int 1), J4, s, pr2 _ (ev_cI e4 (ev_f (by decide) (ev_i rfl (ev_cI (hm_337 (hd_337_0 (ev_b (qp_174_77 rfl) rfl))) (ev_f (by decide) (hd_329_263 (ev_i rfl rfl))))))), by omega, b7, c21, c32, by omega, stR_o (by decide) s4, ⟨?_, ?_⟩, by omega, ?_, vup_eq, by rw [q0]; exact upd_eq, by rw [q1]; exact upd_eq, by rw [q2]; exact upd_eq, fun y j a b c => ?_, frRd_t f1 (frRd_t f4 (frRd_t (by rw [eV4]; exact frRd_v (by decide)) (frRd_v (by decide)))), fun d _ => by rw [spec, if_pos ok]⟩)
            · rw [vup_o (by decide), eV4, vup_o (by decide), eV3, vup_o (by decide), eV2, vup_o (by decide)]
              exact d1.1
            · rw [j4 186 (by decide), j4 187 (by decide)]
              exact d1.2
            · rw [vup_o (by decide), eV4, vup_o (by decide), eV3]
              exact vup_eq
            · rcases (by omega : y = 220 ∨ y = 221 ∨ y = 222) with rfl | rfl | rfl
              · rw [q0, upd_ne (by omega), j1 220 (by decide) (by decide)]
              · rw [q1, upd_ne (by omega), j1 221 (by decide) (by decide)]
              · rw [q2, upd_ne (by omega), j1 222 (by decide) (by decide)]
          · rw [if_neg c32] at e4
            refine .inl ⟨_, J4, p + 2, pr2 _ (ev_cI e4 (ev_t rfl (hd_329_262 (hd_329_263 (ev_i rfl rfl))))), by omega, vup_eq, frRd_t f1 (frRd_t f4 (frRd_v (by decide))), pd (fun d _ => ?_)⟩
            rw [spec, if_pos ok, ea, pK, if_neg c32]
      · exact .inl (bad (fun q => ct q.2.1) (pre _ (ev_f nn (ev_cI e334 (ev_t (fun q => ct ((nI_eq (by omega) (by omega)).mp q)) b175)))))
    · rw [if_neg c21] at pre
      exact .inl (bad (fun q => c21 q.1) (pre _ (ev_t (by decide) b175)))
  · -- a leaf
    obtain ⟨-, -, l6⟩ := sg_b (T p) t0
    have spec : ∀ d, pN T (d + 1) tr inn p Q = (if tr ≠ 0 ∨ (5 ≤ lfT (T p) ∧ inn = 0) then .inl p else if 1 ≤ lfT (T p) then .inr (p + 1, Q ++ [(lfT (T p), 0)]) else match csT T p with
      | .inl e => .inl e
      | .inr (q, x) => .inr (q, Q ++ [(0, x)])) := fun d => by
      rw [pN, if_neg l60, if_neg c4]
      rfl
    obtain ⟨x3, ex3⟩ : ∃ x : Int32, x = if lfT (T p) = 0 then -1 else nI (lfT (T p)) := ⟨_, rfl⟩
    have b289 : fg_329_289 (.ref 174) (fx V I L R ++ tl) = some (.inl (some (.int 0), fx (vup V 174 70 (.int (nI p))) I L R ++ tl)) := by
      apply hd_329_289
      exact ev_b (rdI h.2.1) (ev_i rfl (ev_cI (r_331 h) (ev_i rfl rfl)))
    have pre : ∀ o', (if ¬ nI tr = 0 then fg_329_289 (.ref 174) (fx V I L R ++ tl) else (if ¬ nI inn = 0 then fg_329_298 (.ref 174) x3 (fx V I L R ++ tl) else (if x3 ≤ 4 then fg_329_298 (.ref 174) x3 (fx V I L R ++ tl) else fg_329_289 (.ref 174) (fx V I L R ++ tl)))) = o' → fm_329 (.ref 174) (fx V I L R ++ tl) = o' := fun o' k_ => by
      refine r_329h ho o12 ht ?_
      apply hd_329_98
      refine ev_b (rdI h14) (ev_f n60 (ev_b (rdI ho) (ev_t n12 (ev_b (rdI h.2.1) (ev_i rfl (ev_cI (r_332 h (by omega)) (ev_t (fun q => c4 ((rByt_eq h.2.2.2 (c := 40) (by omega) (by omega)).mp q)) (ev_b (rdI h.2.1) (ev_i rfl (ev_cI (r_332 h (by omega)) (ev_cI (pe_338 _ _) ?_)))))))))))
      rw [ls338 h.2.2.2, ← ex3]
      exact k_
    by_cases ct : tr = 0
    · by_cases cx : 5 ≤ lfT (T p) ∧ inn = 0
      · rw [if_neg (by omega)] at ex3
        exact .inl ⟨_, I, p, pre _ (ev_f (fun q => q (by rw [ct]; rfl)) (ev_f (fun q => q (by rw [cx.2]; rfl)) (ev_f (by rw [ex3]; exact nI_ge (a := 4) (by omega) (by omega)) b289))), hp, vup_eq, frRd_v (by decide), pd (fun d _ => by rw [spec, if_pos (.inr cx)])⟩
      · have ncx : ¬ (tr ≠ 0 ∨ (5 ≤ lfT (T p) ∧ inn = 0)) := fun q => q.elim (fun z => z ct) cx
        have to298 : ∀ o', fg_329_298 (.ref 174) x3 (fx V I L R ++ tl) = o' → fm_329 (.ref 174) (fx V I L R ++ tl) = o' := fun o' k_ => by
          refine pre _ (ev_f (fun q => q (by rw [ct]; rfl)) ?_)
          by_cases ci : inn = 0
          · refine ev_f (fun q => q (by rw [ci]; rfl)) (ev_t ?_ k_)
            rw [ex3]
            by_cases z : lfT (T p) = 0
            · rw [if_pos z]; decide
            · rw [if_neg z]; exact nI_le (b := 4) (by omega) (by omega)
          · exact ev_t (fun q => ci ((nI_eq (b := 0) (by omega) (by omega)).mp q)) k_
        by_cases c1 : 1 ≤ lfT (T p)
        · rw [if_neg (by omega)] at ex3
          have pm : p < m := by
            refine tq_m h.2.2.2 (fun z => ?_)
            rw [z, sgz_0.2] at c1
            omega
          obtain ⟨V1, J1, e1, f1, v1, j1, s1, d1⟩ := dkL_ap (V := V) (I := I) (L := L) (R := R) (tl := tl) hd (by omega) h (nI (lfT (T p))) 0
          rw [← tI_ap2 (a := (lfT (T p), 0))] at d1
          refine .inr (.inl ⟨vup V1 174 69 (.int (nI (p + 1))), J1, p + 1, Q ++ [(lfT (T p), 0)], to298 _ ?_, stR_a s1, ⟨(vup_o (by decide)).trans d1.1, d1.2⟩, (vup_o (by decide)).trans ((v1 73 (by decide)).trans ho), (vup_o (by decide)).trans ((v1 77 (by decide)).trans hg), by omega, by rw [List.length_append]; rfl, by rw [List.length_append]; show Q.length + 1 ≤ 60; omega, frRd_t f1 (frRd_v (by decide)), fun y a b => j1 y (by omega) (by omega), pd (fun d _ => by rw [spec, if_neg ncx, if_pos c1])⟩)
          apply hd_329_298
          rw [ex3]
          exact ev_f (nI_ge (a := 0) (by omega) (by omega)) (ev_i rfl (ev_cV e1 (ev_b (rdI s1.2.1) (ev_b (a := fx (vup V1 174 69 (.int (nI (p + 1)))) J1 L R ++ tl) (by rw [nI_1]; exact qp_174_69) rfl))))
        · rw [if_pos (by omega)] at ex3
          by_cases cc : T p = 45 ∨ dgB (T p) = true
          · obtain ⟨x, W, e3, f3, g3, r3⟩ := r_340 (V := V) (I := I) (L := L) (R := R) (tl := tl) h hp
            have to353 : ∀ o', fg_329_353 (.ref 174) (fx V I L R ++ tl) = o' → fm_329 (.ref 174) (fx V I L R ++ tl) = o' := fun o' k_ => by
              refine to298 _ ?_
              apply hd_329_298
              rw [ex3]
              refine ev_t (by decide) (ev_b (rdI h.2.1) (ev_i rfl (ev_cI (r_332 h (by omega)) ?_)))
              by_cases c45 : T p = 45
              · exact ev_t ((rByt_eq h.2.2.2 (c := 45) (by omega) (by omega)).mpr c45) k_
              · refine ev_f (fun q => c45 ((rByt_eq h.2.2.2 (c := 45) (by omega) (by omega)).mp q)) (ev_b (rdI h.2.1) (ev_i rfl (ev_cI (r_339 h (by omega)) (ev_t (dI_nz (cc.resolve_left c45)) k_))))
            cases q : csT T p with
            | inl e =>
              rw [q] at r3
              obtain ⟨r1, rfl, p', r2, s3⟩ := r3
              refine .inl ⟨W, I, e, to353 _ (hd_329_353 (ev_i rfl (ev_cI e3 (ev_f (fun u => u rfl) rfl)))), r1, s3.2.2.1, f3, pd (fun d _ => by rw [spec, if_neg ncx, if_neg c1, q])⟩
            | inr a =>
              rw [q] at r3
              obtain ⟨r1, rfl, s3, r4, r5⟩ := r3
              have d2 : dkL W I (tI Q) := ⟨(g3 14 (by omega)).trans hd.1, hd.2⟩
              obtain ⟨V1, J1, e1, f1, v1, j1, s1, d1⟩ := dkL_ap (V := W) (I := I) (L := L) (R := R) (tl := tl) d2 (by omega) s3 0 a.2
              refine .inr (.inl ⟨V1, J1, a.1, Q ++ [(0, a.2)], to353 _ (hd_329_353 (ev_i rfl (ev_cI e3 (ev_t (by decide) (ev_b (rdI r4) (ev_i rfl (ev_cV e1 rfl))))))), s1, by rw [tI_ap2]; exact d1, (v1 73 (by decide)).trans ((g3 73 (by omega)).trans ho), (v1 77 (by decide)).trans ((g3 77 (by omega)).trans hg), r1, by rw [List.length_append]; rfl, by rw [List.length_append]; show Q.length + 1 ≤ 60; omega, frRd_t f3 f1, fun y u v => j1 y (by omega) (by omega), pd (fun d _ => by rw [spec, if_neg ncx, if_neg c1, q])⟩)
          · have c45 : ¬ T p = 45 := fun q => cc (.inl q)
            have cd : dgB (T p) = false := by rw [← Bool.not_eq_true]; exact fun q => cc (.inr q)
            refine .inl ⟨_, I, p, to298 _ ?_, hp, vup_eq, frRd_v (j := 70) (x := nI p) (by decide), pd (fun d _ => by rw [spec, if_neg ncx, if_neg c1, cs_no c45 cd])⟩
            apply hd_329_298
            rw [ex3]
            exact ev_t (by decide) (ev_b (rdI h.2.1) (ev_i rfl (ev_cI (r_332 h (by omega)) (ev_f (fun q => c45 ((rByt_eq h.2.2.2 (c := 45) (by omega) (by omega)).mp q)) (ev_b (rdI h.2.1) (ev_i rfl (ev_cI (r_339 h (by omega)) (ev_f (fun q => q (dI_z cd)) (ev_b (rdI h.2.1) (ev_i rfl (ev_cI (r_331 h) (ev_i rfl rfl))))))))))))
    · exact .inl ⟨_, I, p, pre _ (ev_t (fun q => ct ((nI_eq (b := 0) (by omega) (by omega)).mp q)) b289), hp, vup_eq, frRd_v (by decide), pd (fun d _ => by rw [spec, if_pos (.inl ct)])⟩
