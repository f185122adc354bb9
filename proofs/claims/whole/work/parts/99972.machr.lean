/-! ===== edits: machines, in the reference ===== -/
theorem hd_462_112 {N : Nat} {h : am_H} {r_ : Option am_O} (k_ : some (.inl (none, h)) = r_) : fg_462_112 N h = r_ := k_
theorem hd_462_106 {N : Nat} {rec_2 : Value → Int32 → am_H → Option am_O} {x0 : Value} {x1 : Int32} {h : am_H} {r_ : Option am_O} (k_ : (rec_2 x0 ((x1 + 1)) h) = r_) : fg_462_106 N rec_2 x0 x1 h = r_ := k_
theorem hd_462_100 {N : Nat} {rec_2 : Value → Int32 → am_H → Option am_O} {rec_19 : Value → Int32 → Int32 → am_H → Option am_O} {x0 : Value} {x1 : Int32} {x2 : Int32} {h : am_H} {r_ : Option am_O} (k_ : (rec_19 x0 x1 ((x2 + 1)) h) = r_) : fg_462_100 N rec_2 rec_19 x0 x1 x2 h = r_ := k_
theorem hd_462_94 {N : Nat} {rec_2 : Value → Int32 → am_H → Option am_O} {rec_19 : Value → Int32 → Int32 → am_H → Option am_O} {rec_33 : Value → Int32 → Int32 → Int32 → am_H → Option am_O} {x0 : Value} {x1 : Int32} {x2 : Int32} {x3 : Int32} {h : am_H} {r_ : Option am_O} (k_ : (rec_33 x0 x1 x2 ((x3 + 1)) h) = r_) : fg_462_94 N rec_2 rec_19 rec_33 x0 x1 x2 x3 h = r_ := k_
theorem hd_462_33 {N : Nat} {rec_2 : Value → Int32 → am_H → Option am_O} {rec_19 : Value → Int32 → Int32 → am_H → Option am_O} {K : Nat} {x0 : Value} {x1 : Int32} {x2 : Int32} {x3 : Int32} {h : am_H} {r_ : Option am_O} (k_ : ((am_vI (am_pG 3090 x0 h)).bind fun v1 => (if v1 ≤ x3 then (fg_462_100 N rec_2 rec_19 x0 x1 x2 h) else ((am_vI (am_pG 3167 x0 h)).bind fun v4 => (if ¬ v4 = 0 then (fg_462_100 N rec_2 rec_19 x0 x1 x2 h) else ((am_vR (am_pG 3094 x0 h)).bind fun v7 => ((am_pA 0 v7 x1 h).bind fun v9 => am_cI false (fm_367 v9 x2 h) (fun v11 h12 => (if ¬ x3 = v11 then (if am_pOk 12 x0 h12 then am_cV true (fm_442 N x0 h12) (fun h17 => ((am_vR (am_pG 3089 x0 h17)).bind fun v19 => ((am_vR (am_pG 3089 x0 h17)).bind fun v21 => ((am_pA 0 v21 x1 h17).bind fun v23 => am_cI false (fm_353 v23 x2 x3 h17) (fun v25 h26 => ((am_pS 0 v19 x1 v25 h26).bind fun h28 => (if am_pOk 12 x0 h28 then am_cI true (fm_444 N x0 h28) (fun v31 h32 => ((am_pP 3167 x0 (.int v31) h32).bind fun h34 => (fg_462_94 N rec_2 rec_19 (fg_462_33 N rec_2 rec_19 K) x0 x1 x2 x3 h34))) else none))))))) else none) else (fg_462_94 N rec_2 rec_19 (fg_462_33 N rec_2 rec_19 K) x0 x1 x2 x3 h12))))))))) = r_) : fg_462_33 N rec_2 rec_19 (K + 1) x0 x1 x2 x3 h = r_ := by rw [fg_462_33]; exact k_
theorem hd_462_19 {N : Nat} {rec_2 : Value → Int32 → am_H → Option am_O} {K : Nat} {x0 : Value} {x1 : Int32} {x2 : Int32} {h : am_H} {r_ : Option am_O} (k_ : (if 4 ≤ x2 then (fg_462_106 N rec_2 x0 x1 h) else ((am_vI (am_pG 3167 x0 h)).bind fun v2 => (if ¬ v2 = 0 then (fg_462_106 N rec_2 x0 x1 h) else (fg_462_33 N rec_2 (fg_462_19 N rec_2 K) N x0 x1 x2 0 h)))) = r_) : fg_462_19 N rec_2 (K + 1) x0 x1 x2 h = r_ := by rw [fg_462_19]; exact k_
theorem hd_462_2 {N : Nat} {K : Nat} {x0 : Value} {x1 : Int32} {h : am_H} {r_ : Option am_O} (k_ : ((am_vI (am_pG 3090 x0 h)).bind fun v1 => (if v1 ≤ x1 then (fg_462_112 N h) else ((am_vI (am_pG 3167 x0 h)).bind fun v4 => (if ¬ v4 = 0 then (fg_462_112 N h) else (fg_462_19 N (fg_462_2 N K) N x0 x1 0 h))))) = r_) : fg_462_2 N (K + 1) x0 x1 h = r_ := by rw [fg_462_2]; exact k_
theorem hd_462_0 {N : Nat} {x0 : Value} {h : am_H} {r_ : Option am_O} (k_ : (fg_462_2 N N x0 0 h) = r_) : fg_462_0 N x0 h = r_ := k_
theorem hm_462 {N : Nat} {y0 : Value} {h : am_H} {r_ : Option am_O} (k_ : fg_462_0 N y0 h = r_) : fm_462 N y0 h = r_ := k_
theorem hd_463_111 {N : Nat} {h : am_H} {r_ : Option am_O} (k_ : some (.inl (none, h)) = r_) : fg_463_111 N h = r_ := k_
theorem hd_463_105 {N : Nat} {rec_2 : Value → Int32 → am_H → Option am_O} {x0 : Value} {x1 : Int32} {h : am_H} {r_ : Option am_O} (k_ : (rec_2 x0 ((x1 + 1)) h) = r_) : fg_463_105 N rec_2 x0 x1 h = r_ := k_
theorem hd_463_28 {N : Nat} {rec_2 : Value → Int32 → am_H → Option am_O} {K : Nat} {x0 : Value} {x1 : Int32} {x2 : Int32} {h : am_H} {r_ : Option am_O} (k_ : (if 4 ≤ x2 then (fg_463_105 N rec_2 x0 x1 h) else ((am_vI (am_pG 3167 x0 h)).bind fun v2 => (if ¬ v2 = 0 then (fg_463_105 N rec_2 x0 x1 h) else ((am_vR (am_pG 3094 x0 h)).bind fun v5 => ((am_pA 0 v5 x1 h).bind fun v7 => am_cI false (fm_367 v7 x2 h) (fun v9 h10 => (if am_pOk 12 x0 h10 then am_cV true (fm_442 N x0 h10) (fun h14 => ((am_vR (am_pG 3093 x0 h14)).bind fun v16 => ((am_pA 0 v16 v9 h14).bind fun v18 => ((am_vR (am_pG 3094 x0 h14)).bind fun v20 => ((am_pA 0 v20 v9 h14).bind fun v22 => (if am_pOk 12 x0 h14 then am_cV true (fm_335 x0 v18 v22 h14) (fun h26 => ((am_vR (am_pG 3089 x0 h26)).bind fun v28 => ((am_vR (am_pG 3089 x0 h26)).bind fun v30 => ((am_pA 0 v30 x1 h26).bind fun v32 => ((am_vI (am_pG 3090 x0 h26)).bind fun v34 => am_cI false (fm_353 v32 x2 v34 h26) (fun v36 h37 => ((am_pS 0 v28 x1 v36 h37).bind fun h39 => (if am_pOk 12 x0 h39 then am_cI true (fm_444 N x0 h39) (fun v42 h43 => ((am_pP 3167 x0 (.int v42) h43).bind fun h45 => (fg_463_28 N rec_2 K x0 x1 ((x2 + 1)) h45))) else none)))))))) else none)))))) else none))))))) = r_) : fg_463_28 N rec_2 (K + 1) x0 x1 x2 h = r_ := by rw [fg_463_28]; exact k_
theorem hd_463_2 {N : Nat} {K : Nat} {x0 : Value} {x1 : Int32} {h : am_H} {r_ : Option am_O} (k_ : ((am_vI (am_pG 3090 x0 h)).bind fun v1 => (if v1 ≤ x1 then (fg_463_111 N h) else ((am_vI (am_pG 3090 x0 h)).bind fun v4 => (if 6 ≤ v4 then (fg_463_111 N h) else ((am_vI (am_pG 3167 x0 h)).bind fun v7 => (if ¬ v7 = 0 then (fg_463_111 N h) else (fg_463_28 N (fg_463_2 N K) N x0 x1 0 h))))))) = r_) : fg_463_2 N (K + 1) x0 x1 h = r_ := by rw [fg_463_2]; exact k_
theorem hd_463_0 {N : Nat} {x0 : Value} {h : am_H} {r_ : Option am_O} (k_ : (fg_463_2 N N x0 0 h) = r_) : fg_463_0 N x0 h = r_ := k_
theorem hm_463 {N : Nat} {y0 : Value} {h : am_H} {r_ : Option am_O} (k_ : fg_463_0 N y0 h = r_) : fm_463 N y0 h = r_ := k_
theorem hd_464_132 {N : Nat} {h : am_H} {r_ : Option am_O} (k_ : some (.inl (none, h)) = r_) : fg_464_132 N h = r_ := k_
theorem hd_464_112 {N : Nat} {rec_2 : Value → Int32 → am_H → Option am_O} {rec_23 : Value → Int32 → Int32 → am_H → Option am_O} {x0 : Value} {x1 : Int32} {x2 : Int32} {h : am_H} {r_ : Option am_O} (k_ : (rec_23 x0 x1 ((x2 + 1)) h) = r_) : fg_464_112 N rec_2 rec_23 x0 x1 x2 h = r_ := k_
theorem hd_464_91 {N : Nat} {rec_2 : Value → Int32 → am_H → Option am_O} {rec_23 : Value → Int32 → Int32 → am_H → Option am_O} {rec_44 : Value → Int32 → Int32 → Int32 → Int32 → am_H → Option am_O} {x0 : Value} {x1 : Int32} {x2 : Int32} {x4 : Int32} {s0 : Int32} {s1 : Int32} {s2 : Int32} {h : am_H} {r_ : Option am_O} (k_ : am_cI false (fm_353 s0 s1 s2 h) (fun v1 h2 => (rec_44 x0 x1 x2 v1 ((x4 + 1)) h2)) = r_) : fg_464_91 N rec_2 rec_23 rec_44 x0 x1 x2 x4 s0 s1 s2 h = r_ := k_
theorem hd_464_44 {N : Nat} {rec_2 : Value → Int32 → am_H → Option am_O} {rec_23 : Value → Int32 → Int32 → am_H → Option am_O} {K : Nat} {x0 : Value} {x1 : Int32} {x2 : Int32} {x3 : Int32} {x4 : Int32} {h : am_H} {r_ : Option am_O} (k_ : (if 4 ≤ x4 then ((am_vR (am_pG 3093 x0 h)).bind fun v2 => ((am_pA 0 v2 x2 h).bind fun v4 => (if am_pOk 12 x0 h then am_cV true (fm_335 x0 v4 x3 h) (fun h8 => (fg_464_112 N rec_2 rec_23 x0 x1 x2 h8)) else none))) else ((am_vR (am_pG 3094 x0 h)).bind fun v10 => ((am_pA 0 v10 x2 h).bind fun v12 => am_cI false (fm_367 v12 x4 h) (fun v14 h15 => (if ¬ v14 = x1 then (if v14 ≤ x1 then (fg_464_91 N rec_2 rec_23 (fg_464_44 N rec_2 rec_23 K) x0 x1 x2 x4 x3 x4 v14 h15) else (fg_464_91 N rec_2 rec_23 (fg_464_44 N rec_2 rec_23 K) x0 x1 x2 x4 x3 x4 ((v14 - 1)) h15)) else (fg_464_91 N rec_2 rec_23 (fg_464_44 N rec_2 rec_23 K) x0 x1 x2 x4 x3 x4 0 h15)))))) = r_) : fg_464_44 N rec_2 rec_23 (K + 1) x0 x1 x2 x3 x4 h = r_ := by rw [fg_464_44]; exact k_
theorem hd_464_23 {N : Nat} {rec_2 : Value → Int32 → am_H → Option am_O} {K : Nat} {x0 : Value} {x1 : Int32} {x2 : Int32} {h : am_H} {r_ : Option am_O} (k_ : ((am_vI (am_pG 3090 x0 h)).bind fun v1 => (if v1 ≤ x2 then (if am_pOk 12 x0 h then am_cI true (fm_444 N x0 h) (fun v5 h6 => ((am_pP 3167 x0 (.int v5) h6).bind fun h8 => (rec_2 x0 ((x1 + 1)) h8))) else none) else (if ¬ x2 = x1 then (fg_464_44 N rec_2 (fg_464_23 N rec_2 K) N x0 x1 x2 0 0 h) else (fg_464_112 N rec_2 (fg_464_23 N rec_2 K) x0 x1 x2 h)))) = r_) : fg_464_23 N rec_2 (K + 1) x0 x1 x2 h = r_ := by rw [fg_464_23]; exact k_
theorem hd_464_2 {N : Nat} {K : Nat} {x0 : Value} {x1 : Int32} {h : am_H} {r_ : Option am_O} (k_ : ((am_vI (am_pG 3090 x0 h)).bind fun v1 => (if v1 ≤ x1 then (fg_464_132 N h) else ((am_vI (am_pG 3167 x0 h)).bind fun v4 => (if ¬ v4 = 0 then (fg_464_132 N h) else (if am_pOk 12 x0 h then am_cV true (fm_451 x0 h) (fun h9 => (fg_464_23 N (fg_464_2 N K) N x0 x1 0 h9)) else none))))) = r_) : fg_464_2 N (K + 1) x0 x1 h = r_ := by rw [fg_464_2]; exact k_
theorem hd_464_0 {N : Nat} {x0 : Value} {h : am_H} {r_ : Option am_O} (k_ : (fg_464_2 N N x0 1 h) = r_) : fg_464_0 N x0 h = r_ := k_
theorem hm_464 {N : Nat} {y0 : Value} {h : am_H} {r_ : Option am_O} (k_ : fg_464_0 N y0 h = r_) : fm_464 N y0 h = r_ := k_
theorem gS_2 {Q : xI} (h : 1 ≤ Q.length ∧ Q.length ≤ 6) : gS2 2 Q = some Q := by
  unfold gS2
  rw [if_pos (snd_2.mpr h)]
theorem fr_2 {Q : xI} (h : Q.length ≤ 60) : frm 2 Q := ⟨by omega, by omega, fun e => absurd e (by decide), fun e => absurd e (by decide)⟩
theorem gS_3 {Q : xI} (h : Q.length ≤ 40) : gS2 3 Q = some Q := by
  unfold gS2
  rw [if_pos (snd_3.mpr h)]
theorem fr_3 {Q : xI} (h : Q.length ≤ 100) : frm 3 Q := ⟨by omega, by omega, fun e => absurd e (by decide), fun e => absurd e (by decide)⟩
theorem dk_v {V : Nat → Nat → Value} {I : Nat → Nat → Int32} {Q : xI} (h : dkL V I Q) {k : Nat} (hk : k < Q.length) : I 186 k = srt Q k ∧ I 187 k = vlu Q k := by
  have e := srt_at hk
  exact h.2 k _ e
set_option maxRecDepth 100000 in
set_option maxHeartbeats 4000000 in
theorem r_462 {V : Nat → Nat → Value} {I : Nat → Nat → Int32} {L : Nat → Nat → Int64} {R : Nat → Nat → Option Nat} {tl : am_H} {V0 : Nat → Nat → Value} {I0 : Nat → Nat → Int32} {cd : Nat → Option xI} {so nt : Int32} {N : Nat} {P : xI} (hN : 400 < N) (hx : ctxR V0 I0 2 nt so P) (h6 : 1 ≤ P.length ∧ P.length ≤ 6) (hcd : ∀ c, cd c = cd21 P c) (h : scS V0 I0 cd so 0 V I) : ∃ W J, fm_462 N (.ref 174) (fx V I L R ++ tl) = some (.inl (none, fx W J L R ++ tl)) ∧ outS V0 I0 cd so ((4 * P.length) * (P.length)) 2 nt W J := by
  have l60 := hx.2.2.2.2
  have d18 : ∀ (V : Nat → Nat → Value) (I : Nat → Nat → Int32), frSc V0 V I0 I → V 174 18 = .int (nI P.length) := fun V I f => (ct_f hx f).2.2.1.1
  have main := inn (L := L) (R := R) (tl := tl) (V0 := V0) (I0 := I0) (cd := cd) (so := so) (nt := nt) (kd := 2) (b := 0) (S := P.length) (st := (4 * P.length)) (E := fun K k h => fg_462_2 N K (.ref 174) (nI k) h) (G := fun h => some (.inl (none, h))) (fun K k V I hk f hc => by
      show fg_462_2 N (K + 1) (.ref 174) (nI k) _ = _
      apply hd_462_2
      by_cases c : P.length ≤ k
      · exact ev_b (rdI (d18 V I f)) (ev_t (nI_le c (by omega)) rfl)
      · rcases hc with hc | hc
        · omega
        · exact ev_b (rdI (d18 V I f)) (ev_f (nI_ge (by omega) (by omega)) (ev_b (rdI hc) (ev_t (by decide) rfl)))
      ) (fun K k V I hk h => by
      rw [Nat.zero_add] at h
      show ∃ W J, fg_462_2 N (K + 1) (.ref 174) (nI k) (fx V I L R ++ tl) = fg_462_2 N K (.ref 174) (nI (k + 1)) (fx W J L R ++ tl) ∧ outS V0 I0 cd so (0 + (4 * P.length) * (k + 1)) 2 nt W J
      rw [Nat.zero_add]
      have im := inn (L := L) (R := R) (tl := tl) (V0 := V0) (I0 := I0) (cd := cd) (so := so) (nt := nt) (kd := 2) (b := 4 * P.length * k) (S := 4) (st := P.length) (E := fun K' s h => fg_462_19 N (fg_462_2 N K) K' (.ref 174) (nI k) (nI s) h) (G := fun h => fg_462_2 N K (.ref 174) (nI (k + 1)) h) (fun K' s V I hs f hc => by
          have nx : fg_462_106 N (fg_462_2 N K) (.ref 174) (nI k) (fx V I L R ++ tl) = fg_462_2 N K (.ref 174) (nI (k + 1)) (fx V I L R ++ tl) := by
            apply hd_462_106
            rw [nI_1]
          show fg_462_19 N (fg_462_2 N K) (K' + 1) (.ref 174) (nI k) (nI s) _ = fg_462_2 N K (.ref 174) (nI (k + 1)) _
          apply hd_462_19
          by_cases c : 4 ≤ s
          · exact ev_t (nI_le (a := 4) c (by omega)) nx
          · rcases hc with hc | hc
            · omega
            · exact ev_f (nI_ge (b := 4) (by omega) (by decide)) (ev_b (rdI hc) (ev_t (by decide) nx))
          ) (fun K' s V I hs h => by
          have ii := inn (L := L) (R := R) (tl := tl) (V0 := V0) (I0 := I0) (cd := cd) (so := so) (nt := nt) (kd := 2) (b := 4 * P.length * k + P.length * s) (S := P.length) (st := 1) (E := fun K'' t h => fg_462_33 N (fg_462_2 N K) (fg_462_19 N (fg_462_2 N K) K') K'' (.ref 174) (nI k) (nI s) (nI t) h) (G := fun h => fg_462_19 N (fg_462_2 N K) K' (.ref 174) (nI k) (nI (s + 1)) h) (fun K'' t V I ht f hc => by
              have nx3 : fg_462_100 N (fg_462_2 N K) (fg_462_19 N (fg_462_2 N K) K') (.ref 174) (nI k) (nI s) (fx V I L R ++ tl) = fg_462_19 N (fg_462_2 N K) K' (.ref 174) (nI k) (nI (s + 1)) (fx V I L R ++ tl) := by
                apply hd_462_100
                rw [nI_1]
              show fg_462_33 N (fg_462_2 N K) (fg_462_19 N (fg_462_2 N K) K') (K'' + 1) (.ref 174) (nI k) (nI s) (nI t) _ = fg_462_19 N (fg_462_2 N K) K' (.ref 174) (nI k) (nI (s + 1)) _
              apply hd_462_33
              by_cases c : P.length ≤ t
              · exact ev_b (rdI (d18 V I f)) (ev_t (nI_le c (by omega)) nx3)
              · rcases hc with hc | hc
                · omega
                · exact ev_b (rdI (d18 V I f)) (ev_f (nI_ge (by omega) (by omega)) (ev_b (rdI hc) (ev_t (by decide) nx3)))
              ) (fun K'' t V I ht h => by
              rw [Nat.one_mul] at h
              rw [Nat.one_mul]
              have c0 := ct_f hx h.1
              have hdm : 4 * P.length * k + P.length * s + t = P.length * (4 * k + s) + t := by rw [Nat.mul_add, ← Nat.mul_assoc, Nat.mul_comm P.length 4]
              have dv : (4 * P.length * k + P.length * s + t) / P.length = 4 * k + s := by rw [hdm, Nat.mul_add_div (by omega), Nat.div_eq_of_lt ht, Nat.add_zero]
              have md : (4 * P.length * k + P.length * s + t) % P.length = t := by rw [hdm, Nat.mul_add_mod, Nat.mod_eq_of_lt ht]
              have ecd : cd (4 * P.length * k + P.length * s + t) = if pv_367 (vlu P k) (nI s) = nI t then none else some (P.set k (srt P k, pv_353 (vlu P k) (nI s) (nI t))) := by
                rw [hcd]
                unfold cd21 wEd edg0
                rw [dv, md, show (4 * k + s) / 4 = k by omega, show (4 * k + s) % 4 = s by omega]
              have rv : am_pA 0 (.ref 189) (nI k) (fx V I L R ++ tl) = some (vlu P k) := (qa_189 (by omega)).trans (congrArg some (ds_at c0.2.2.1 hk).2)
              have nx3 : ∀ (W : Nat → Nat → Value) (J : Nat → Nat → Int32), fg_462_94 N (fg_462_2 N K) (fg_462_19 N (fg_462_2 N K) K') (fg_462_33 N (fg_462_2 N K) (fg_462_19 N (fg_462_2 N K) K') K'') (.ref 174) (nI k) (nI s) (nI t) (fx W J L R ++ tl) = fg_462_33 N (fg_462_2 N K) (fg_462_19 N (fg_462_2 N K) K') K'' (.ref 174) (nI k) (nI s) (nI (t + 1)) (fx W J L R ++ tl) := fun W J => by
                apply hd_462_94
                rw [nI_1]
              show ∃ W J, fg_462_33 N (fg_462_2 N K) (fg_462_19 N (fg_462_2 N K) K') (K'' + 1) (.ref 174) (nI k) (nI s) (nI t) (fx V I L R ++ tl) = fg_462_33 N (fg_462_2 N K) (fg_462_19 N (fg_462_2 N K) K') K'' (.ref 174) (nI k) (nI s) (nI (t + 1)) (fx W J L R ++ tl) ∧ outS V0 I0 cd so (4 * P.length * k + P.length * s + (t + 1)) 2 nt W J
              by_cases c1 : nI t = pv_367 (vlu P k) (nI s)
              · refine ⟨V, I, ?_, .inr (scS_n h (ecd.trans (if_pos c1.symm)))⟩
                apply hd_462_33
                exact ev_b (rdI (d18 V I h.1)) (ev_f (nI_ge ht (by omega)) (ev_b (rdI h.2.2.1) (ev_f (fun e => e rfl) (ev_b (rdR rfl) (ev_b rv (ev_cI (pe_367 _ _ _) (ev_f (fun e => e c1) (nx3 V I))))))))
              rw [if_neg (fun e => c1 e.symm)] at ecd
              obtain ⟨W1, J1, e1, d1, d2, d3, f1⟩ := s442 (L := L) (R := R) (tl := tl) hN c0.1 c0.2.1 c0.2.2.1 (by omega)
              have rv1 : am_pA 0 (.ref 187) (nI k) (fx W1 J1 L R ++ tl) = some (vlu P k) := (qa_187 (by omega)).trans (congrArg some (dk_v d1 hk).2)
              obtain ⟨W, J, bb, e, g1, g2⟩ := stepC (L := L) (R := R) (tl := tl) (V1 := W1) (I1 := iup J1 187 (upd (J1 187) k (pv_353 (vlu P k) (nI s) (nI t)))) hN h (frEd_t f1 (frEd_i (by decide))) ⟨by rw [List.length_set]; exact d1.1, lay2_v d1.2⟩ d2 d3 (kd := 2) (fr_2 (by rw [List.length_set]; omega)) (ecd.trans (gS_2 (by rw [List.length_set]; omega)).symm) (by
                have h1 : P.length * (4 * k + s) ≤ 6 * (4 * k + s) := Nat.mul_le_mul_right _ h6.2
                rw [hdm]; omega) hx.2.2.2.1
              refine ⟨W, J, ?_, outS_b g1 g2⟩
              apply hd_462_33
              refine ev_b (rdI (d18 V I h.1)) (ev_f (nI_ge ht (by omega)) (ev_b (rdI h.2.2.1) (ev_f (fun e => e rfl) (ev_b (rdR rfl) (ev_b rv (ev_cI (pe_367 _ _ _) (ev_t c1 (ev_i rfl (ev_cV e1 (ev_b (rdR rfl) (ev_b (rdR rfl) (ev_b rv1 (ev_cI (pe_353 _ _ _ _) (ev_b (qs_187 (by omega)) (ev_i rfl (ev_cI e (ev_b (qp_174_95 (by cases bb <;> rfl)) ?_)))))))))))))))))
              rw [sc_95 g1 g2]
              exact nx3 W J
              ) P.length 0 N V I (by omega) (by omega) (by rw [Nat.mul_zero, Nat.add_zero]; exact h)
          obtain ⟨W, J, e, o⟩ := ii
          refine ⟨W, J, ?_, ?_⟩
          · show fg_462_19 N (fg_462_2 N K) (K' + 1) (.ref 174) (nI k) (nI s) _ = fg_462_19 N (fg_462_2 N K) K' (.ref 174) (nI k) (nI (s + 1)) _
            apply hd_462_19
            exact ev_f (nI_ge (b := 4) hs (by decide)) (ev_b (rdI h.2.2.1) (ev_f (fun e => e rfl) e))
          · rw [Nat.mul_add P.length s 1, Nat.mul_one, ← Nat.add_assoc]
            rw [Nat.one_mul] at o
            exact o
          ) 4 0 N V I (by omega) (by omega) (by rw [Nat.mul_zero, Nat.add_zero]; exact h)
      obtain ⟨W, J, e, o⟩ := im
      refine ⟨W, J, ?_, ?_⟩
      · apply hd_462_2
        exact ev_b (rdI (d18 V I h.1)) (ev_f (nI_ge hk (by omega)) (ev_b (rdI h.2.2.1) (ev_f (fun e => e rfl) e)))
      · rw [Nat.mul_add (4 * P.length) k 1, Nat.mul_one]
        rw [Nat.mul_comm P.length 4] at o
        exact o
      ) (P.length) 0 N V I (by omega) (by omega) (by rw [Nat.mul_zero]; exact h)
  obtain ⟨W, J, e, o⟩ := main
  refine ⟨W, J, ?_, by rw [Nat.zero_add] at o; exact o⟩
  apply hm_462
  apply hd_462_0
  exact e
set_option maxRecDepth 100000 in
set_option maxHeartbeats 4000000 in
theorem r_463 {V : Nat → Nat → Value} {I : Nat → Nat → Int32} {L : Nat → Nat → Int64} {R : Nat → Nat → Option Nat} {tl : am_H} {V0 : Nat → Nat → Value} {I0 : Nat → Nat → Int32} {cd : Nat → Option xI} {so nt : Int32} {N : Nat} {P : xI} (hN : 400 < N) (hx : ctxR V0 I0 2 nt so P) (h6 : 1 ≤ P.length ∧ P.length < 6) (hed : ∀ k s, k < P.length → s < 4 → ∃ a, a < P.length ∧ pv_367 (vlu P k) (nI s) = nI a) (hcd : ∀ c, cd c = cd22 P c) (h : scS V0 I0 cd so 0 V I) : ∃ W J, fm_463 N (.ref 174) (fx V I L R ++ tl) = some (.inl (none, fx W J L R ++ tl)) ∧ outS V0 I0 cd so (4 * (P.length)) 2 nt W J := by
  have l60 := hx.2.2.2.2
  have d18 : ∀ (V : Nat → Nat → Value) (I : Nat → Nat → Int32), frSc V0 V I0 I → V 174 18 = .int (nI P.length) := fun V I f => (ct_f hx f).2.2.1.1
  have main := inn (L := L) (R := R) (tl := tl) (V0 := V0) (I0 := I0) (cd := cd) (so := so) (nt := nt) (kd := 2) (b := 0) (S := P.length) (st := 4) (E := fun K k h => fg_463_2 N K (.ref 174) (nI k) h) (G := fun h => some (.inl (none, h))) (fun K k V I hk f hc => by
      show fg_463_2 N (K + 1) (.ref 174) (nI k) _ = _
      apply hd_463_2
      by_cases c : P.length ≤ k
      · exact ev_b (rdI (d18 V I f)) (ev_t (nI_le c (by omega)) rfl)
      · rcases hc with hc | hc
        · omega
        · exact ev_b (rdI (d18 V I f)) (ev_f (nI_ge (by omega) (by omega)) (ev_b (rdI (d18 V I f)) (ev_f (nI_ge (b := 6) (by omega) (by decide)) (ev_b (rdI hc) (ev_t (by decide) rfl)))))
      ) (fun K k V I hk h => by
      rw [Nat.zero_add] at h
      show ∃ W J, fg_463_2 N (K + 1) (.ref 174) (nI k) (fx V I L R ++ tl) = fg_463_2 N K (.ref 174) (nI (k + 1)) (fx W J L R ++ tl) ∧ outS V0 I0 cd so (0 + 4 * (k + 1)) 2 nt W J
      rw [Nat.zero_add]
      have ik := inn (L := L) (R := R) (tl := tl) (V0 := V0) (I0 := I0) (cd := cd) (so := so) (nt := nt) (kd := 2) (b := 4 * k) (S := 4) (st := 1) (E := fun K' s h => fg_463_28 N (fg_463_2 N K) K' (.ref 174) (nI k) (nI s) h) (G := fun h => fg_463_2 N K (.ref 174) (nI (k + 1)) h) (fun K' s V I hs f hc => by
          show fg_463_28 N (fg_463_2 N K) (K' + 1) (.ref 174) (nI k) (nI s) _ = fg_463_2 N K (.ref 174) (nI (k + 1)) _
          have nx : fg_463_105 N (fg_463_2 N K) (.ref 174) (nI k) (fx V I L R ++ tl) = fg_463_2 N K (.ref 174) (nI (k + 1)) (fx V I L R ++ tl) := by
            apply hd_463_105
            rw [nI_1]
          apply hd_463_28
          by_cases c : 4 ≤ s
          · exact ev_t (nI_le (a := 4) c (by omega)) nx
          · rcases hc with hc | hc
            · omega
            · exact ev_f (nI_ge (b := 4) (by omega) (by decide)) (ev_b (rdI hc) (ev_t (by decide) nx))
          ) (fun K' s V I hs h => by
          rw [Nat.one_mul] at h
          rw [Nat.one_mul]
          show ∃ W J, fg_463_28 N (fg_463_2 N K) (K' + 1) (.ref 174) (nI k) (nI s) (fx V I L R ++ tl) = fg_463_28 N (fg_463_2 N K) K' (.ref 174) (nI k) (nI (s + 1)) (fx W J L R ++ tl) ∧ outS V0 I0 cd so (4 * k + (s + 1)) 2 nt W J
          have c0 := ct_f hx h.1
          obtain ⟨a, ha, ea⟩ := hed k s hk hs
          have ecd : cd (4 * k + s) = some (P.set k (srt P k, pv_353 (vlu P k) (nI s) (nI P.length)) ++ [(srt P a, vlu P a)]) := by
            rw [hcd]
            unfold cd22 wEd edg0
            rw [show (4 * k + s) / 4 = k by omega, show (4 * k + s) % 4 = s by omega, ea, sN_n (by omega)]
          have rv : am_pA 0 (.ref 189) (nI k) (fx V I L R ++ tl) = some (vlu P k) := (qa_189 (by omega)).trans (congrArg some (ds_at c0.2.2.1 hk).2)
          obtain ⟨W1, J1, e1, d1, d2, d3, f1⟩ := s442 (L := L) (R := R) (tl := tl) hN c0.1 c0.2.1 c0.2.2.1 (by omega)
          have A1 : dsA W1 J1 P := ds_f (frSc_d f1) c0.2.2.1
          have ra : am_pA 0 (.ref 188) (nI a) (fx W1 J1 L R ++ tl) = some (srt P a) := (qa_188 (by omega)).trans (congrArg some (ds_at A1 ha).1)
          have rb : am_pA 0 (.ref 189) (nI a) (fx W1 J1 L R ++ tl) = some (vlu P a) := (qa_189 (by omega)).trans (congrArg some (ds_at A1 ha).2)
          obtain ⟨W2, J2, e2, d4, f2⟩ := s335 (L := L) (R := R) (tl := tl) (srt P a) (vlu P a) d1 (by omega)
          have F2 := frEd_t f1 (frEd_k f2)
          have A2 : dsA W2 J2 P := ds_f (frSc_d F2) c0.2.2.1
          have l2 : (P ++ [(srt P a, vlu P a)]).length = P.length + 1 := by rw [List.length_append]; rfl
          have rv2 : am_pA 0 (.ref 187) (nI k) (fx W2 J2 L R ++ tl) = some (vlu P k) := (qa_187 (by omega)).trans (congrArg some ((dk_v d4 (k := k) (by omega)).2.trans (srt_l hk).2))
          have eq : (P ++ [(srt P a, vlu P a)]).set k (srt (P ++ [(srt P a, vlu P a)]) k, pv_353 (vlu P k) (nI s) (nI P.length)) = P.set k (srt P k, pv_353 (vlu P k) (nI s) (nI P.length)) ++ [(srt P a, vlu P a)] := by
            rw [(srt_l hk).1, List.set_append_left _ _ hk]
          have lq : (P.set k (srt P k, pv_353 (vlu P k) (nI s) (nI P.length)) ++ [(srt P a, vlu P a)]).length = P.length + 1 := by rw [List.length_append, List.length_set]; rfl
          have d5 : dkL W2 (iup J2 187 (upd (J2 187) k (pv_353 (vlu P k) (nI s) (nI P.length)))) (P.set k (srt P k, pv_353 (vlu P k) (nI s) (nI P.length)) ++ [(srt P a, vlu P a)]) := ⟨by rw [lq, ← l2]; exact d4.1, by rw [← eq]; exact lay2_v d4.2⟩
          obtain ⟨W, J, bb, e, g1, g2⟩ := stepC (L := L) (R := R) (tl := tl) hN h (frEd_t F2 (frEd_i (by decide))) d5 ((f2.1 174 13 (by decide)).trans d2) ((f2.1 174 15 (by decide)).trans d3) (kd := 2) (fr_2 (by omega)) (ecd.trans (gS_2 (by omega)).symm) (by omega) hx.2.2.2.1
          refine ⟨W, J, ?_, outS_b g1 g2⟩
          apply hd_463_28
          refine ev_f (nI_ge (b := 4) hs (by decide)) (ev_b (rdI h.2.2.1) (ev_f (fun e => e rfl) (ev_b (rdR rfl) (ev_b rv (ev_cI (pe_367 _ _ _) ?_)))))
          rw [ea]
          refine ev_i rfl (ev_cV e1 (ev_b (rdR rfl) (ev_b ra (ev_b (rdR rfl) (ev_b rb (ev_i rfl (ev_cV e2 (ev_b (rdR rfl) (ev_b (rdR rfl) (ev_b rv2 (ev_b (rdI A2.1) (ev_cI (pe_353 _ _ _ _) (ev_b (qs_187 (by omega)) (ev_i rfl (ev_cI e (ev_b (qp_174_95 (by cases bb <;> rfl)) ?_))))))))))))))))
          rw [sc_95 g1 g2, nI_1]
          ) (4) 0 N V I (by omega) (by omega) (by rw [Nat.mul_zero, Nat.add_zero]; exact h)
      obtain ⟨W, J, e, o⟩ := ik
      refine ⟨W, J, ?_, ?_⟩
      · apply hd_463_2
        exact ev_b (rdI (d18 V I h.1)) (ev_f (nI_ge hk (by omega)) (ev_b (rdI (d18 V I h.1)) (ev_f (nI_ge (b := 6) (by omega) (by decide)) (ev_b (rdI h.2.2.1) (ev_f (fun e => e rfl) e)))))
      · rw [show 4 * (k + 1) = 4 * k + 1 * 4 by omega]
        exact o
      ) (P.length) 0 N V I (by omega) (by omega) (by rw [Nat.mul_zero]; exact h)
  obtain ⟨W, J, e, o⟩ := main
  refine ⟨W, J, ?_, by rw [Nat.zero_add] at o; exact o⟩
  apply hm_463
  apply hd_463_0
  exact e
set_option maxRecDepth 100000 in
set_option maxHeartbeats 4000000 in
theorem r_463n {V : Nat → Nat → Value} {I : Nat → Nat → Int32} {L : Nat → Nat → Int64} {R : Nat → Nat → Option Nat} {tl : am_H} {V0 : Nat → Nat → Value} {I0 : Nat → Nat → Int32} {cd : Nat → Option xI} {so nt : Int32} {N : Nat} {P : xI} (hN : 400 < N) (hx : ctxR V0 I0 2 nt so P) (h6 : 6 ≤ P.length) (h : scS V0 I0 cd so 0 V I) : fm_463 N (.ref 174) (fx V I L R ++ tl) = some (.inl (none, fx V I L R ++ tl)) := by
  have l60 := hx.2.2.2.2
  have d18 := (ct_f hx h.1).2.2.1.1
  obtain ⟨N, rfl⟩ : ∃ k, N = k + 1 := ⟨N - 1, by omega⟩
  apply hm_463
  apply hd_463_0
  apply hd_463_2
  exact ev_b (rdI d18) (ev_f (nI_ge (a := 0) (by omega) (by omega)) (ev_b (rdI d18) (ev_t (nI_le (a := 6) h6 (by omega)) rfl)))
