/-! ===== edits: other signs, leaves, parts; nets with one less, two swapped, in the reference ===== -/
theorem hd_453_107 {N : Nat} {h : am_H} {r_ : Option am_O} (k_ : some (.inl (none, h)) = r_) : fg_453_107 N h = r_ := k_
theorem hd_453_101 {N : Nat} {rec_2 : Value → Int32 → am_H → Option am_O} {x0 : Value} {x1 : Int32} {h : am_H} {r_ : Option am_O} (k_ : (rec_2 x0 ((x1 + 1)) h) = r_) : fg_453_101 N rec_2 x0 x1 h = r_ := k_
theorem hd_453_95 {N : Nat} {rec_2 : Value → Int32 → am_H → Option am_O} {rec_19 : Value → Int32 → Int32 → am_H → Option am_O} {x0 : Value} {x1 : Int32} {x2 : Int32} {h : am_H} {r_ : Option am_O} (k_ : (rec_19 x0 x1 ((x2 + 1)) h) = r_) : fg_453_95 N rec_2 rec_19 x0 x1 x2 h = r_ := k_
theorem hd_453_86 {N : Nat} {rec_2 : Value → Int32 → am_H → Option am_O} {rec_19 : Value → Int32 → Int32 → am_H → Option am_O} {x0 : Value} {x1 : Int32} {x2 : Int32} {s0 : Value} {s1 : Int32} {s2 : Int32} {h : am_H} {r_ : Option am_O} (k_ : ((am_pS 0 s0 s1 s2 h).bind fun h1 => (if am_pOk 12 x0 h1 then am_cI true (fm_444 N x0 h1) (fun v4 h5 => ((am_pP 3167 x0 (.int v4) h5).bind fun h7 => (fg_453_95 N rec_2 rec_19 x0 x1 x2 h7))) else none)) = r_) : fg_453_86 N rec_2 rec_19 x0 x1 x2 s0 s1 s2 h = r_ := k_
theorem hd_453_19 {N : Nat} {rec_2 : Value → Int32 → am_H → Option am_O} {K : Nat} {x0 : Value} {x1 : Int32} {x2 : Int32} {h : am_H} {r_ : Option am_O} (k_ : (if 14 ≤ x2 then (fg_453_101 N rec_2 x0 x1 h) else ((am_vI (am_pG 3167 x0 h)).bind fun v2 => (if ¬ v2 = 0 then (fg_453_101 N rec_2 x0 x1 h) else ((am_vR (am_pG 3093 x0 h)).bind fun v5 => ((am_pA 0 v5 x1 h).bind fun v7 => (if x2 = v7 then (fg_453_95 N rec_2 (fg_453_19 N rec_2 K) x0 x1 x2 h) else am_cI false (fm_454 x2 h) (fun v10 h11 => ((am_vR (am_pG 3093 x0 h11)).bind fun v13 => ((am_pA 0 v13 x1 h11).bind fun v15 => am_cI false (fm_454 v15 h11) (fun v17 h18 => (if v10 = v17 then (if am_pOk 12 x0 h18 then am_cV true (fm_442 N x0 h18) (fun h23 => ((am_vR (am_pG 3088 x0 h23)).bind fun v25 => ((am_pS 0 v25 x1 x2 h23).bind fun h27 => ((am_vR (am_pG 3089 x0 h27)).bind fun v29 => (if ¬ x2 = 0 then (fg_453_86 N rec_2 (fg_453_19 N rec_2 K) x0 x1 x2 v29 x1 0 h27) else (fg_453_86 N rec_2 (fg_453_19 N rec_2 K) x0 x1 x2 v29 x1 1 h27)))))) else none) else (fg_453_95 N rec_2 (fg_453_19 N rec_2 K) x0 x1 x2 h18)))))))))))) = r_) : fg_453_19 N rec_2 (K + 1) x0 x1 x2 h = r_ := by rw [fg_453_19]; exact k_
theorem hd_453_2 {N : Nat} {K : Nat} {x0 : Value} {x1 : Int32} {h : am_H} {r_ : Option am_O} (k_ : ((am_vI (am_pG 3090 x0 h)).bind fun v1 => (if v1 ≤ x1 then (fg_453_107 N h) else ((am_vI (am_pG 3167 x0 h)).bind fun v4 => (if ¬ v4 = 0 then (fg_453_107 N h) else (fg_453_19 N (fg_453_2 N K) N x0 x1 0 h))))) = r_) : fg_453_2 N (K + 1) x0 x1 h = r_ := by rw [fg_453_2]; exact k_
theorem hd_453_0 {N : Nat} {x0 : Value} {h : am_H} {r_ : Option am_O} (k_ : (fg_453_2 N N x0 0 h) = r_) : fg_453_0 N x0 h = r_ := k_
theorem hm_453 {N : Nat} {y0 : Value} {h : am_H} {r_ : Option am_O} (k_ : fg_453_0 N y0 h = r_) : fm_453 N y0 h = r_ := k_
theorem hd_466_52 {N : Nat} {h : am_H} {r_ : Option am_O} (k_ : some (.inl (none, h)) = r_) : fg_466_52 N h = r_ := k_
theorem hd_466_2 {N : Nat} {K : Nat} {x0 : Value} {x1 : Int32} {h : am_H} {r_ : Option am_O} (k_ : ((am_vI (am_pG 3090 x0 h)).bind fun v1 => (if v1 ≤ x1 then (fg_466_52 N h) else ((am_vI (am_pG 3167 x0 h)).bind fun v4 => (if ¬ v4 = 0 then (fg_466_52 N h) else (if am_pOk 12 x0 h then am_cV true (fm_451 x0 h) (fun h9 => (if am_pOk 12 x0 h9 then am_cV true (fm_443 N x0 0 x1 h9) (fun h13 => ((am_vI (am_pG 3090 x0 h13)).bind fun v15 => (if am_pOk 12 x0 h13 then am_cV true (fm_443 N x0 ((x1 + 1)) v15 h13) (fun h19 => (if am_pOk 12 x0 h19 then am_cI true (fm_444 N x0 h19) (fun v22 h23 => ((am_pP 3167 x0 (.int v22) h23).bind fun h25 => (fg_466_2 N K x0 ((x1 + 1)) h25))) else none)) else none))) else none)) else none))))) = r_) : fg_466_2 N (K + 1) x0 x1 h = r_ := by rw [fg_466_2]; exact k_
theorem hd_466_0 {N : Nat} {x0 : Value} {h : am_H} {r_ : Option am_O} (k_ : (fg_466_2 N N x0 0 h) = r_) : fg_466_0 N x0 h = r_ := k_
theorem hm_466 {N : Nat} {y0 : Value} {h : am_H} {r_ : Option am_O} (k_ : fg_466_0 N y0 h = r_) : fm_466 N y0 h = r_ := k_
theorem hd_468_130 {N : Nat} {h : am_H} {r_ : Option am_O} (k_ : some (.inl (none, h)) = r_) : fg_468_130 N h = r_ := k_
theorem hd_468_124 {N : Nat} {rec_2 : Value → Int32 → am_H → Option am_O} {x0 : Value} {x1 : Int32} {h : am_H} {r_ : Option am_O} (k_ : (rec_2 x0 ((x1 + 1)) h) = r_) : fg_468_124 N rec_2 x0 x1 h = r_ := k_
theorem hd_468_56 {N : Nat} {rec_2 : Value → Int32 → am_H → Option am_O} {x0 : Value} {x1 : Int32} {h : am_H} {r_ : Option am_O} (k_ : (if am_pOk 12 x0 h then am_cV true (fm_442 N x0 h) (fun h3 => ((am_vR (am_pG 3088 x0 h3)).bind fun v5 => ((am_vR (am_pG 3093 x0 h3)).bind fun v7 => ((am_pA 0 v7 (x1 + 1) h3).bind fun v9 => ((am_pS 0 v5 x1 v9 h3).bind fun h11 => ((am_vR (am_pG 3089 x0 h11)).bind fun v13 => ((am_vR (am_pG 3094 x0 h11)).bind fun v15 => ((am_pA 0 v15 (x1 + 1) h11).bind fun v17 => ((am_pS 0 v13 x1 v17 h11).bind fun h19 => ((am_vR (am_pG 3088 x0 h19)).bind fun v21 => ((am_vR (am_pG 3093 x0 h19)).bind fun v23 => ((am_pA 0 v23 x1 h19).bind fun v25 => ((am_pS 0 v21 (x1 + 1) v25 h19).bind fun h27 => ((am_vR (am_pG 3089 x0 h27)).bind fun v29 => ((am_vR (am_pG 3094 x0 h27)).bind fun v31 => ((am_pA 0 v31 x1 h27).bind fun v33 => ((am_pS 0 v29 (x1 + 1) v33 h27).bind fun h35 => (if am_pOk 12 x0 h35 then am_cI true (fm_444 N x0 h35) (fun v38 h39 => ((am_pP 3167 x0 (.int v38) h39).bind fun h41 => (fg_468_124 N rec_2 x0 x1 h41))) else none)))))))))))))))))) else none) = r_) : fg_468_56 N rec_2 x0 x1 h = r_ := k_
theorem hd_468_2 {N : Nat} {K : Nat} {x0 : Value} {x1 : Int32} {h : am_H} {r_ : Option am_O} (k_ : ((am_vI (am_pG 3090 x0 h)).bind fun v1 => (if v1 ≤ (x1 + 1) then (fg_468_130 N h) else ((am_vI (am_pG 3167 x0 h)).bind fun v4 => (if ¬ v4 = 0 then (fg_468_130 N h) else ((am_vR (am_pG 3093 x0 h)).bind fun v7 => ((am_pA 0 v7 x1 h).bind fun v9 => ((am_vR (am_pG 3093 x0 h)).bind fun v11 => ((am_pA 0 v11 (x1 + 1) h).bind fun v13 => (if ¬ v9 = v13 then (fg_468_56 N (fg_468_2 N K) x0 x1 h) else ((am_vR (am_pG 3094 x0 h)).bind fun v16 => ((am_pA 0 v16 x1 h).bind fun v18 => ((am_vR (am_pG 3094 x0 h)).bind fun v20 => ((am_pA 0 v20 (x1 + 1) h).bind fun v22 => (if ¬ v18 = v22 then (fg_468_56 N (fg_468_2 N K) x0 x1 h) else (fg_468_124 N (fg_468_2 N K) x0 x1 h))))))))))))))) = r_) : fg_468_2 N (K + 1) x0 x1 h = r_ := by rw [fg_468_2]; exact k_
theorem hd_468_0 {N : Nat} {x0 : Value} {h : am_H} {r_ : Option am_O} (k_ : (fg_468_2 N N x0 0 h) = r_) : fg_468_0 N x0 h = r_ := k_
theorem hm_468 {N : Nat} {y0 : Value} {h : am_H} {r_ : Option am_O} (k_ : fg_468_0 N y0 h = r_) : fm_468 N y0 h = r_ := k_
theorem fam454 : ∀ s, s < 14 → ∀ x, x < 19 → (decide (pv_454 (nI s) = pv_454 (nI x))) = decide (fam s = fam x) := by decide +kernel
theorem fam_tp : ∀ s, s < 14 → ∀ x, x < 19 → fam s = fam x → tkN s = tkN x ∧ ptN s = ptN x ∧ x < 14 := by decide +kernel
/-- another sign of its family -/
theorem set_1 {k s : Nat} {P : xT} {x : Int32} (hf : frm 1 (tI P)) (hs : sndB 1 (tI P) = true) (hk : k < P.length) (h14 : s < 14) (h18 : xS P k < 19) (hm : fam s = fam (xS P k)) : frm 1 ((tI P).set k (nI s, x)) ∧ gS2 1 ((tI P).set k (nI s, x)) = some ((tI P).set k (nI s, x)) := by
  obtain ⟨f1, f2, -, f4⟩ := hf
  obtain ⟨g1, g2⟩ := f4 rfl
  obtain ⟨t1, t2, t3⟩ := fam_tp s h14 (xS P k) h18 hm
  have lt : (tI P).length = P.length := tI_len
  have hk' : k < (tI P).length := by omega
  have l : ((tI P).set k (nI s, x)).length = (tI P).length := List.length_set
  have sk : sN (srt (tI P) k) = xS P k := by rw [(srt_tI hk).1, sN_n (by omega)]
  refine ⟨⟨f1, by rw [l]; exact f2, fun h => absurd h (by decide), fun _ => ⟨fun j hj => ?_, by rw [l]; exact g2⟩⟩, ?_⟩
  · rw [l] at hj
    rw [srt_set hk', vlu_set hk']
    by_cases c : j = k
    · rw [if_pos c, if_pos c]
      show nI s = nI (sN (nI s)) ∧ sN (nI s) ≤ 18 ∧ (17 ≤ sN (nI s) → _)
      rw [sN_n (by omega)]
      exact ⟨rfl, by omega, fun h => absurd h (by omega)⟩
    · rw [if_neg c, if_neg c]
      exact g1 j hj
  · unfold gS2
    rw [if_pos]
    rw [snd_1, l]
    rw [snd_1] at hs
    refine ⟨hs.1, ?_⟩
    rw [cdX_congr (P := (tI P).set k (nI s, x)) (Q := tI P) l (fun j => by
      rw [srt_set hk', vlu_set hk']
      by_cases c : j = k
      · rw [if_pos c, if_pos c, c, sk]
        show tkN (sN (nI s)) = _ ∧ ptN (sN (nI s)) = _ ∧ (sN (nI s) = 17 ↔ _) ∧ (sN (nI s) < 17 ↔ _) ∧ (¬ sN (nI s) < 17 → _)
        rw [sN_n (by omega)]
        exact ⟨t1, t2, by omega, by omega, fun h => absurd h (by omega)⟩
      · rw [if_neg c, if_neg c]
        exact ⟨rfl, rfl, Iff.rfl, Iff.rfl, fun _ => rfl⟩)]
    exact hs.2
set_option maxRecDepth 100000 in
set_option maxHeartbeats 4000000 in
theorem r_453 {V : Nat → Nat → Value} {I : Nat → Nat → Int32} {L : Nat → Nat → Int64} {R : Nat → Nat → Option Nat} {tl : am_H} {V0 : Nat → Nat → Value} {I0 : Nat → Nat → Int32} {cd : Nat → Option xI} {so nt : Int32} {N : Nat} {P : xT} (hN : 400 < N) (hx : ctxR V0 I0 1 nt so (tI P)) (h18 : ∀ k, k < P.length → xS P k ≤ 18) (hf : frm 1 (tI P)) (hsd : sndB 1 (tI P) = true) (hcd : ∀ c, cd c = cd11 (tI P) c) (h : scS V0 I0 cd so 0 V I) : ∃ W J, fm_453 N (.ref 174) (fx V I L R ++ tl) = some (.inl (none, fx W J L R ++ tl)) ∧ outS V0 I0 cd so (14 * (P.length)) 1 nt W J := by
  have l60 := hx.2.2.2.2
  have lt : (tI P).length = P.length := tI_len
  have d18 : ∀ (V : Nat → Nat → Value) (I : Nat → Nat → Int32), frSc V0 V I0 I → V 174 18 = .int (nI P.length) := fun V I f => by
    have := (ct_f hx f).2.2.1.1
    rw [lt] at this
    exact this
  have main := inn (L := L) (R := R) (tl := tl) (V0 := V0) (I0 := I0) (cd := cd) (so := so) (nt := nt) (kd := 1) (b := 0) (S := P.length) (st := 14) (E := fun K k h => fg_453_2 N K (.ref 174) (nI k) h) (G := fun h => some (.inl (none, h))) (fun K k V I hk f hc => by
      show fg_453_2 N (K + 1) (.ref 174) (nI k) _ = _
      apply hd_453_2
      by_cases c : P.length ≤ k
      · exact ev_b (rdI (d18 V I f)) (ev_t (nI_le c (by omega)) rfl)
      · rcases hc with hc | hc
        · omega
        · exact ev_b (rdI (d18 V I f)) (ev_f (nI_ge (by omega) (by omega)) (ev_b (rdI hc) (ev_t (by decide) rfl)))
      ) (fun K k V I hk h => by
      rw [Nat.zero_add] at h
      show ∃ W J, fg_453_2 N (K + 1) (.ref 174) (nI k) (fx V I L R ++ tl) = fg_453_2 N K (.ref 174) (nI (k + 1)) (fx W J L R ++ tl) ∧ outS V0 I0 cd so (0 + 14 * (k + 1)) 1 nt W J
      rw [Nat.zero_add]
      have ik := inn (L := L) (R := R) (tl := tl) (V0 := V0) (I0 := I0) (cd := cd) (so := so) (nt := nt) (kd := 1) (b := 14 * k) (S := 14) (st := 1) (E := fun K' s h => fg_453_19 N (fg_453_2 N K) K' (.ref 174) (nI k) (nI s) h) (G := fun h => fg_453_2 N K (.ref 174) (nI (k + 1)) h) (fun K' s V I hs f hc => by
          show fg_453_19 N (fg_453_2 N K) (K' + 1) (.ref 174) (nI k) (nI s) _ = fg_453_2 N K (.ref 174) (nI (k + 1)) _
          have nx : fg_453_101 N (fg_453_2 N K) (.ref 174) (nI k) (fx V I L R ++ tl) = fg_453_2 N K (.ref 174) (nI (k + 1)) (fx V I L R ++ tl) := by
            apply hd_453_101
            rw [nI_1]
          apply hd_453_19
          by_cases c : 14 ≤ s
          · exact ev_t (nI_le (a := 14) c (by omega)) nx
          · rcases hc with hc | hc
            · omega
            · exact ev_f (nI_ge (b := 14) (by omega) (by decide)) (ev_b (rdI hc) (ev_t (by decide) nx))
          ) (fun K' s V I hs h => by
          rw [Nat.one_mul] at h
          rw [Nat.one_mul]
          show ∃ W J, fg_453_19 N (fg_453_2 N K) (K' + 1) (.ref 174) (nI k) (nI s) (fx V I L R ++ tl) = fg_453_19 N (fg_453_2 N K) K' (.ref 174) (nI k) (nI (s + 1)) (fx W J L R ++ tl) ∧ outS V0 I0 cd so (14 * k + (s + 1)) 1 nt W J
          have c0 := ct_f hx h.1
          have es := (ds_at c0.2.2.1 (k := k) (by omega)).1
          rw [(srt_tI hk).1] at es
          have xk : xS P k ≤ 18 := h18 k hk
          have rs : am_pA 0 (.ref 188) (nI k) (fx V I L R ++ tl) = some (nI (xS P k)) := (qa_188 (by omega)).trans (congrArg some es)
          have ecd : cd (14 * k + s) = if s ≠ xS P k ∧ fam s = fam (xS P k) then some ((tI P).set k (nwS s)) else none := by
            rw [hcd]
            unfold cd11
            rw [show (14 * k + s) / 14 = k by omega, show (14 * k + s) % 14 = s by omega, (srt_tI hk).1, sN_n (by omega)]
          have nx : ∀ (W : Nat → Nat → Value) (J : Nat → Nat → Int32), fg_453_95 N (fg_453_2 N K) (fg_453_19 N (fg_453_2 N K) K') (.ref 174) (nI k) (nI s) (fx W J L R ++ tl) = fg_453_19 N (fg_453_2 N K) K' (.ref 174) (nI k) (nI (s + 1)) (fx W J L R ++ tl) := fun W J => by
            apply hd_453_95
            rw [nI_1]
          by_cases c1 : s = xS P k
          · refine ⟨V, I, ?_, .inr (scS_n h (ecd.trans (if_neg (fun e => e.1 c1))))⟩
            apply hd_453_19
            exact ev_f (nI_ge (b := 14) hs (by decide)) (ev_b (rdI h.2.2.1) (ev_f (fun e => e rfl) (ev_b (rdR rfl) (ev_b rs (ev_t (by rw [c1]) (nx V I))))))
          have n1 : ¬ nI s = nI (xS P k) := fun e => c1 ((nI_eq (by omega) (by omega)).mp e)
          have fm := fam454 s hs (xS P k) (by omega)
          by_cases c2 : fam s = fam (xS P k)
          case neg =>
            rw [decide_eq_false c2] at fm
            refine ⟨V, I, ?_, .inr (scS_n h (ecd.trans (if_neg (fun e => c2 e.2))))⟩
            apply hd_453_19
            exact ev_f (nI_ge (b := 14) hs (by decide)) (ev_b (rdI h.2.2.1) (ev_f (fun e => e rfl) (ev_b (rdR rfl) (ev_b rs (ev_f n1 (ev_cI (pe_454 _ _) (ev_b (rdR rfl) (ev_b rs (ev_cI (pe_454 _ _) (ev_f (of_decide_eq_false fm) (nx V I)))))))))))
          rw [decide_eq_true c2] at fm
          rw [if_pos ⟨c1, c2⟩] at ecd
          obtain ⟨W1, J1, e1, d1, d2, d3, f1⟩ := s442 (L := L) (R := R) (tl := tl) hN c0.1 c0.2.1 c0.2.2.1 (by omega)
          obtain ⟨fq, gq⟩ := set_1 (x := (nwS s).2) hf hsd hk hs (by omega) c2
          obtain ⟨W, J, bb, e, g1, g2⟩ := stepC (L := L) (R := R) (tl := tl) (V1 := W1) (I1 := iup (iup J1 186 (upd (J1 186) k (nI s))) 187 (upd (J1 187) k (nwS s).2)) hN h (frEd_t f1 (frEd_t (frEd_i (by decide)) (frEd_i (by decide)))) ⟨by rw [List.length_set]; exact d1.1, lay2_sv d1.2⟩ d2 d3 fq (ecd.trans gq.symm) (by omega) hx.2.2.2.1
          refine ⟨W, J, ?_, outS_b g1 g2⟩
          apply hd_453_19
          refine ev_f (nI_ge (b := 14) hs (by decide)) (ev_b (rdI h.2.2.1) (ev_f (fun e => e rfl) (ev_b (rdR rfl) (ev_b rs (ev_f n1 (ev_cI (pe_454 _ _) (ev_b (rdR rfl) (ev_b rs (ev_cI (pe_454 _ _) (ev_t (of_decide_eq_true fm) (ev_i rfl (ev_cV e1 (ev_b (rdR rfl) (ev_b (qs_186 (by omega)) (ev_b (rdR rfl) ?_)))))))))))))))
          have go : fg_453_86 N (fg_453_2 N K) (fg_453_19 N (fg_453_2 N K) K') (.ref 174) (nI k) (nI s) (.ref 187) (nI k) (nwS s).2 (fx W1 (iup J1 186 (upd (J1 186) k (nI s))) L R ++ tl) = fg_453_19 N (fg_453_2 N K) K' (.ref 174) (nI k) (nI (s + 1)) (fx W J L R ++ tl) := by
            apply hd_453_86
            refine ev_b (qs_187 (by omega)) (ev_i rfl (ev_cI e (ev_b (qp_174_95 (by cases bb <;> rfl)) ?_)))
            rw [sc_95 g1 g2]
            exact nx W J
          by_cases c3 : s = 0
          · subst c3
            exact ev_f (fun e => e rfl) go
          · have v0 : (nwS s).2 = 0 := by unfold nwS; rw [if_neg c3]
            rw [v0] at go
            exact ev_t (fun e => c3 ((nI_eq (b := 0) (by omega) (by decide)).mp e)) go
          ) (14) 0 N V I (by omega) (by omega) (by rw [Nat.mul_zero, Nat.add_zero]; exact h)
      obtain ⟨W, J, e, o⟩ := ik
      refine ⟨W, J, ?_, ?_⟩
      · apply hd_453_2
        exact ev_b (rdI (d18 V I h.1)) (ev_f (nI_ge hk (by omega)) (ev_b (rdI h.2.2.1) (ev_f (fun e => e rfl) e)))
      · rw [show 14 * (k + 1) = 14 * k + 1 * 14 by omega]
        exact o
      ) (P.length) 0 N V I (by omega) (by omega) (by rw [Nat.mul_zero]; exact h)
  obtain ⟨W, J, e, o⟩ := main
  refine ⟨W, J, ?_, by rw [Nat.zero_add] at o; exact o⟩
  apply hm_453
  apply hd_453_0
  exact e
set_option maxRecDepth 100000 in
set_option maxHeartbeats 4000000 in
theorem r_466 {V : Nat → Nat → Value} {I : Nat → Nat → Int32} {L : Nat → Nat → Int64} {R : Nat → Nat → Option Nat} {tl : am_H} {V0 : Nat → Nat → Value} {I0 : Nat → Nat → Int32} {cd : Nat → Option xI} {so nt : Int32} {N : Nat} {P : xI} (hN : 400 < N) (hx : ctxR V0 I0 3 nt so P) (h40 : P.length ≤ 40) (hcd : ∀ c, cd c = cd31 P c) (h : scS V0 I0 cd so 0 V I) : ∃ W J, fm_466 N (.ref 174) (fx V I L R ++ tl) = some (.inl (none, fx W J L R ++ tl)) ∧ outS V0 I0 cd so (1 * (P.length)) 3 nt W J := by
  have l60 := hx.2.2.2.2
  have d18 : ∀ (V : Nat → Nat → Value) (I : Nat → Nat → Int32), frSc V0 V I0 I → V 174 18 = .int (nI P.length) := fun V I f => (ct_f hx f).2.2.1.1
  have main := inn (L := L) (R := R) (tl := tl) (V0 := V0) (I0 := I0) (cd := cd) (so := so) (nt := nt) (kd := 3) (b := 0) (S := P.length) (st := 1) (E := fun K k h => fg_466_2 N K (.ref 174) (nI k) h) (G := fun h => some (.inl (none, h))) (fun K k V I hk f hc => by
      show fg_466_2 N (K + 1) (.ref 174) (nI k) _ = _
      apply hd_466_2
      by_cases c : P.length ≤ k
      · exact ev_b (rdI (d18 V I f)) (ev_t (nI_le c (by omega)) rfl)
      · rcases hc with hc | hc
        · omega
        · exact ev_b (rdI (d18 V I f)) (ev_f (nI_ge (by omega) (by omega)) (ev_b (rdI hc) (ev_t (by decide) rfl)))
      ) (fun K k V I hk h => by
      rw [Nat.zero_add] at h
      show ∃ W J, fg_466_2 N (K + 1) (.ref 174) (nI k) (fx V I L R ++ tl) = fg_466_2 N K (.ref 174) (nI (k + 1)) (fx W J L R ++ tl) ∧ outS V0 I0 cd so (0 + 1 * (k + 1)) 3 nt W J
      rw [Nat.zero_add]
      have c0 := ct_f hx h.1
      have ecd : cd k = gS2 3 (P.take k ++ P.drop (k + 1)) := by
        rw [hcd]
        unfold cd31 gS2
        rw [if_pos]
        rw [snd_3, List.length_append, List.length_take, List.length_drop]
        omega
      rw [Nat.one_mul] at h
      rw [Nat.one_mul]
      obtain ⟨W1, e1, d1, d2, d3, f1⟩ := s451 (I := I) (L := L) (R := R) (tl := tl) c0.1 c0.2.1
      have A1 : dsA W1 I P := ds_f (frSc_d f1) c0.2.2.1
      obtain ⟨W2, J2, e2, d4, f2⟩ := s443 (L := L) (R := R) (tl := tl) (i := 0) (j := k) (P := P) (Q := []) 0 (nI k) rfl rfl hN (by omega) (by omega) (by omega) A1 d1 (by show 0 + _ ≤ 400; omega)
      have A2 : dsA W2 J2 P := ds_f (frSc_d (frEd_k f2)) A1
      have q2 : ([] ++ sg P 0 k).length = k := by rw [List.nil_append, sg_len (by omega)]; omega
      obtain ⟨W3, J3, e3, d5, f3⟩ := s443 (L := L) (R := R) (tl := tl) (i := k + 1) (j := P.length) (P := P) (nI k + 1) (nI P.length) (nI_1 k) rfl hN (by omega) (by omega) (by omega) A2 d4 (by rw [q2]; omega)
      have eq : ([] ++ sg P 0 k) ++ sg P (k + 1) P.length = P.take k ++ P.drop (k + 1) := by
        rw [List.nil_append]
        unfold sg
        rw [List.drop_zero, Nat.sub_zero, List.take_of_length_le (l := P.drop (k + 1)) (by rw [List.length_drop]; exact Nat.le_refl _)]
      rw [eq] at d5
      have F := frEd_t f1 (frEd_t (frEd_k f2) (frEd_k f3))
      have lq : (P.take k ++ P.drop (k + 1)).length ≤ 60 := by rw [List.length_append, List.length_take, List.length_drop]; omega
      obtain ⟨W, J, bb, e, g1, g2⟩ := stepC (L := L) (R := R) (tl := tl) hN h F d5 ((f3.1 174 13 (by decide)).trans ((f2.1 174 13 (by decide)).trans d2)) ((f3.1 174 15 (by decide)).trans ((f2.1 174 15 (by decide)).trans d3)) (kd := 3) ⟨by omega, by omega, fun e => absurd e (by decide), fun e => absurd e (by decide)⟩ ecd (by omega) hx.2.2.2.1
      refine ⟨W, J, ?_, outS_b g1 g2⟩
      apply hd_466_2
      refine ev_b (rdI (d18 V I h.1)) (ev_f (nI_ge hk (by omega)) (ev_b (rdI h.2.2.1) (ev_f (fun e => e rfl) (ev_i rfl (ev_cV e1 (ev_i rfl (ev_cV e2 (ev_b (rdI A2.1) (ev_i rfl (ev_cV e3 (ev_i rfl (ev_cI e (ev_b (qp_174_95 (by cases bb <;> rfl)) ?_)))))))))))))
      rw [sc_95 g1 g2, nI_1]
      ) (P.length) 0 N V I (by omega) (by omega) (by rw [Nat.mul_zero]; exact h)
  obtain ⟨W, J, e, o⟩ := main
  refine ⟨W, J, ?_, by rw [Nat.zero_add] at o; exact o⟩
  apply hm_466
  apply hd_466_0
  exact e
