/-! ===== edits: a state less; comparators, in the reference ===== -/
theorem hd_465_120 {N : Nat} {h : am_H} {r_ : Option am_O} (k_ : some (.inl (none, h)) = r_) : fg_465_120 N h = r_ := k_
theorem hd_465_114 {N : Nat} {rec_2 : Value → Int32 → am_H → Option am_O} {x0 : Value} {x1 : Int32} {h : am_H} {r_ : Option am_O} (k_ : (rec_2 x0 ((x1 + 1)) h) = r_) : fg_465_114 N rec_2 x0 x1 h = r_ := k_
theorem hd_465_108 {N : Nat} {rec_2 : Value → Int32 → am_H → Option am_O} {rec_19 : Value → Int32 → Int32 → am_H → Option am_O} {x0 : Value} {x1 : Int32} {x2 : Int32} {h : am_H} {r_ : Option am_O} (k_ : (rec_19 x0 x1 ((x2 + 1)) h) = r_) : fg_465_108 N rec_2 rec_19 x0 x1 x2 h = r_ := k_
theorem hd_465_102 {N : Nat} {rec_2 : Value → Int32 → am_H → Option am_O} {rec_19 : Value → Int32 → Int32 → am_H → Option am_O} {rec_38 : Value → Int32 → Int32 → Int32 → am_H → Option am_O} {x0 : Value} {x1 : Int32} {x2 : Int32} {x3 : Int32} {h : am_H} {r_ : Option am_O} (k_ : (rec_38 x0 x1 x2 ((x3 + 1)) h) = r_) : fg_465_102 N rec_2 rec_19 rec_38 x0 x1 x2 x3 h = r_ := k_
theorem hd_465_76 {N : Nat} {rec_2 : Value → Int32 → am_H → Option am_O} {rec_19 : Value → Int32 → Int32 → am_H → Option am_O} {rec_38 : Value → Int32 → Int32 → Int32 → am_H → Option am_O} {x0 : Value} {x1 : Int32} {x2 : Int32} {x3 : Int32} {h : am_H} {r_ : Option am_O} (k_ : (if am_pOk 12 x0 h then am_cV true (fm_442 N x0 h) (fun h3 => ((am_vR (am_pG 3088 x0 h3)).bind fun v5 => ((am_pS 0 v5 x1 x2 h3).bind fun h7 => ((am_vR (am_pG 3089 x0 h7)).bind fun v9 => ((am_pS 0 v9 x1 x3 h7).bind fun h11 => (if am_pOk 12 x0 h11 then am_cI true (fm_444 N x0 h11) (fun v14 h15 => ((am_pP 3167 x0 (.int v14) h15).bind fun h17 => (fg_465_102 N rec_2 rec_19 rec_38 x0 x1 x2 x3 h17))) else none)))))) else none) = r_) : fg_465_76 N rec_2 rec_19 rec_38 x0 x1 x2 x3 h = r_ := k_
theorem hd_465_38 {N : Nat} {rec_2 : Value → Int32 → am_H → Option am_O} {rec_19 : Value → Int32 → Int32 → am_H → Option am_O} {K : Nat} {x0 : Value} {x1 : Int32} {x2 : Int32} {x3 : Int32} {h : am_H} {r_ : Option am_O} (k_ : ((am_vI (am_pG 3091 x0 h)).bind fun v1 => (if v1 ≤ x3 then (fg_465_108 N rec_2 rec_19 x0 x1 x2 h) else ((am_vI (am_pG 3167 x0 h)).bind fun v4 => (if ¬ v4 = 0 then (fg_465_108 N rec_2 rec_19 x0 x1 x2 h) else ((am_vR (am_pG 3093 x0 h)).bind fun v7 => ((am_pA 0 v7 x1 h).bind fun v9 => (if ¬ x2 = v9 then (fg_465_76 N rec_2 rec_19 (fg_465_38 N rec_2 rec_19 K) x0 x1 x2 x3 h) else ((am_vR (am_pG 3094 x0 h)).bind fun v12 => ((am_pA 0 v12 x1 h).bind fun v14 => (if ¬ x3 = v14 then (fg_465_76 N rec_2 rec_19 (fg_465_38 N rec_2 rec_19 K) x0 x1 x2 x3 h) else (fg_465_102 N rec_2 rec_19 (fg_465_38 N rec_2 rec_19 K) x0 x1 x2 x3 h))))))))))) = r_) : fg_465_38 N rec_2 rec_19 (K + 1) x0 x1 x2 x3 h = r_ := by rw [fg_465_38]; exact k_
theorem hd_465_19 {N : Nat} {rec_2 : Value → Int32 → am_H → Option am_O} {K : Nat} {x0 : Value} {x1 : Int32} {x2 : Int32} {h : am_H} {r_ : Option am_O} (k_ : ((am_vI (am_pG 3091 x0 h)).bind fun v1 => (if v1 ≤ x2 then (fg_465_114 N rec_2 x0 x1 h) else ((am_vI (am_pG 3167 x0 h)).bind fun v4 => (if ¬ v4 = 0 then (fg_465_114 N rec_2 x0 x1 h) else (fg_465_38 N rec_2 (fg_465_19 N rec_2 K) N x0 x1 x2 ((x2 + 1)) h))))) = r_) : fg_465_19 N rec_2 (K + 1) x0 x1 x2 h = r_ := by rw [fg_465_19]; exact k_
theorem hd_465_2 {N : Nat} {K : Nat} {x0 : Value} {x1 : Int32} {h : am_H} {r_ : Option am_O} (k_ : ((am_vI (am_pG 3090 x0 h)).bind fun v1 => (if v1 ≤ x1 then (fg_465_120 N h) else ((am_vI (am_pG 3167 x0 h)).bind fun v4 => (if ¬ v4 = 0 then (fg_465_120 N h) else (fg_465_19 N (fg_465_2 N K) N x0 x1 0 h))))) = r_) : fg_465_2 N (K + 1) x0 x1 h = r_ := by rw [fg_465_2]; exact k_
theorem hd_465_0 {N : Nat} {x0 : Value} {h : am_H} {r_ : Option am_O} (k_ : (fg_465_2 N N x0 0 h) = r_) : fg_465_0 N x0 h = r_ := k_
theorem hm_465 {N : Nat} {y0 : Value} {h : am_H} {r_ : Option am_O} (k_ : fg_465_0 N y0 h = r_) : fm_465 N y0 h = r_ := k_
theorem hd_467_104 {N : Nat} {h : am_H} {r_ : Option am_O} (k_ : some (.inl (none, h)) = r_) : fg_467_104 N h = r_ := k_
theorem hd_467_98 {N : Nat} {rec_2 : Value → Int32 → am_H → Option am_O} {x0 : Value} {x1 : Int32} {h : am_H} {r_ : Option am_O} (k_ : (rec_2 x0 ((x1 + 1)) h) = r_) : fg_467_98 N rec_2 x0 x1 h = r_ := k_
theorem hd_467_92 {N : Nat} {rec_2 : Value → Int32 → am_H → Option am_O} {rec_19 : Value → Int32 → Int32 → am_H → Option am_O} {x0 : Value} {x1 : Int32} {x2 : Int32} {h : am_H} {r_ : Option am_O} (k_ : (rec_19 x0 x1 ((x2 + 1)) h) = r_) : fg_467_92 N rec_2 rec_19 x0 x1 x2 h = r_ := k_
theorem hd_467_38 {N : Nat} {rec_2 : Value → Int32 → am_H → Option am_O} {rec_19 : Value → Int32 → Int32 → am_H → Option am_O} {K : Nat} {x0 : Value} {x1 : Int32} {x2 : Int32} {x3 : Int32} {h : am_H} {r_ : Option am_O} (k_ : ((am_vI (am_pG 3091 x0 h)).bind fun v1 => (if v1 ≤ x3 then (fg_467_92 N rec_2 rec_19 x0 x1 x2 h) else ((am_vI (am_pG 3167 x0 h)).bind fun v4 => (if ¬ v4 = 0 then (fg_467_92 N rec_2 rec_19 x0 x1 x2 h) else (if am_pOk 12 x0 h then am_cV true (fm_451 x0 h) (fun h9 => (if am_pOk 12 x0 h9 then am_cV true (fm_443 N x0 0 x1 h9) (fun h13 => (if am_pOk 12 x0 h13 then am_cV true (fm_335 x0 x2 x3 h13) (fun h17 => ((am_vI (am_pG 3090 x0 h17)).bind fun v19 => (if am_pOk 12 x0 h17 then am_cV true (fm_443 N x0 x1 v19 h17) (fun h23 => (if am_pOk 12 x0 h23 then am_cI true (fm_444 N x0 h23) (fun v26 h27 => ((am_pP 3167 x0 (.int v26) h27).bind fun h29 => (fg_467_38 N rec_2 rec_19 K x0 x1 x2 ((x3 + 1)) h29))) else none)) else none))) else none)) else none)) else none))))) = r_) : fg_467_38 N rec_2 rec_19 (K + 1) x0 x1 x2 x3 h = r_ := by rw [fg_467_38]; exact k_
theorem hd_467_19 {N : Nat} {rec_2 : Value → Int32 → am_H → Option am_O} {K : Nat} {x0 : Value} {x1 : Int32} {x2 : Int32} {h : am_H} {r_ : Option am_O} (k_ : ((am_vI (am_pG 3091 x0 h)).bind fun v1 => (if v1 ≤ x2 then (fg_467_98 N rec_2 x0 x1 h) else ((am_vI (am_pG 3167 x0 h)).bind fun v4 => (if ¬ v4 = 0 then (fg_467_98 N rec_2 x0 x1 h) else (fg_467_38 N rec_2 (fg_467_19 N rec_2 K) N x0 x1 x2 ((x2 + 1)) h))))) = r_) : fg_467_19 N rec_2 (K + 1) x0 x1 x2 h = r_ := by rw [fg_467_19]; exact k_
theorem hd_467_2 {N : Nat} {K : Nat} {x0 : Value} {x1 : Int32} {h : am_H} {r_ : Option am_O} (k_ : ((am_vI (am_pG 3090 x0 h)).bind fun v1 => (if v1 < x1 then (fg_467_104 N h) else ((am_vI (am_pG 3167 x0 h)).bind fun v4 => (if ¬ v4 = 0 then (fg_467_104 N h) else (fg_467_19 N (fg_467_2 N K) N x0 x1 0 h))))) = r_) : fg_467_2 N (K + 1) x0 x1 h = r_ := by rw [fg_467_2]; exact k_
theorem hd_467_0 {N : Nat} {x0 : Value} {h : am_H} {r_ : Option am_O} (k_ : (fg_467_2 N N x0 0 h) = r_) : fg_467_0 N x0 h = r_ := k_
theorem hm_467 {N : Nat} {y0 : Value} {h : am_H} {r_ : Option am_O} (k_ : fg_467_0 N y0 h = r_) : fm_467 N y0 h = r_ := k_
theorem innx {L : Nat → Nat → Int64} {R : Nat → Nat → Option Nat} {tl : am_H} {V0 : Nat → Nat → Value} {I0 : Nat → Nat → Int32} {cd : Nat → Option xI} {so nt : Int32} {kd S : Nat} {ix : Nat → Nat} {E : Nat → Nat → am_H → Option am_O} {G : am_H → Option am_O} (hi : ∀ s, s < S → ix s ≤ ix (s + 1)) (hC : ∀ (K s : Nat) (V : Nat → Nat → Value) (I : Nat → Nat → Int32), s ≤ S → frSc V0 V I0 I → (s = S ∨ V 174 95 = .int 1) → E (K + 1) s (fx V I L R ++ tl) = G (fx V I L R ++ tl)) (hD : ∀ (K s : Nat) (V : Nat → Nat → Value) (I : Nat → Nat → Int32), s < S → scS V0 I0 cd so (ix s) V I → ∃ W J, E (K + 1) s (fx V I L R ++ tl) = E K (s + 1) (fx W J L R ++ tl) ∧ outS V0 I0 cd so (ix (s + 1)) kd nt W J) : ∀ (m s K : Nat) (V : Nat → Nat → Value) (I : Nat → Nat → Int32), s + m = S → m < K → scS V0 I0 cd so (ix s) V I → ∃ W J, E K s (fx V I L R ++ tl) = G (fx W J L R ++ tl) ∧ outS V0 I0 cd so (ix S) kd nt W J := by
  have mono : ∀ m s, s + m = S → ix s ≤ ix S := by
    intro m
    induction m with
    | zero => intro s hs; rw [Nat.add_zero] at hs; rw [hs]; exact Nat.le_refl _
    | succ m ih => intro s hs; exact Nat.le_trans (hi s (by omega)) (ih (s + 1) (by omega))
  intro m
  induction m with
  | zero =>
    intro s K V I hm hK h
    obtain ⟨K, rfl⟩ : ∃ k, K = k + 1 := ⟨K - 1, by omega⟩
    rw [Nat.add_zero] at hm
    subst hm
    exact ⟨V, I, hC K s V I (Nat.le_refl _) h.1 (.inl rfl), .inr h⟩
  | succ m ih =>
    intro s K V I hm hK h
    obtain ⟨K, rfl⟩ : ∃ k, K = k + 1 := ⟨K - 1, by omega⟩
    obtain ⟨W, J, e, o⟩ := hD K s V I (by omega) h
    rcases o with o | o
    · obtain ⟨K, rfl⟩ : ∃ k, K = k + 1 := ⟨K - 1, by omega⟩
      exact ⟨W, J, e.trans (hC K (s + 1) W J (by omega) o.1 (.inr o.2.1)), .inl (scH_m o (mono m (s + 1) (by omega)))⟩
    · obtain ⟨W', J', e', o'⟩ := ih (s + 1) K W J (by omega) (by omega) o
      exact ⟨W', J', e.trans e', o'⟩
/-! a state less -/
set_option maxRecDepth 100000 in
set_option maxHeartbeats 4000000 in
theorem l464v {V : Nat → Nat → Value} {I : Nat → Nat → Int32} {L : Nat → Nat → Int64} {R : Nat → Nat → Option Nat} {tl : am_H} {N g q K : Nat} {P : xI} {Q : xI} {r2 : Value → Int32 → am_H → Option am_O} {r23 : Value → Int32 → Int32 → am_H → Option am_O} (hl : P.length ≤ 60) (hq : q < P.length) (hA : dsA V I P) (hd : dkL V I Q) (hQ : Q.length ≤ 60) : ∃ W J, fg_464_44 N r2 r23 (K + 5) (.ref 174) (nI g) (nI q) 0 0 (fx V I L R ++ tl) = fg_464_112 N r2 r23 (.ref 174) (nI g) (nI q) (fx W J L R ++ tl) ∧ dkL W J (Q ++ [(srt P q, lsV (nI g) (vlu P q))]) ∧ frDk V W I J := by
  have rs : am_pA 0 (.ref 188) (nI q) (fx V I L R ++ tl) = some (srt P q) := (qa_188 (by omega)).trans (congrArg some (ds_at hA hq).1)
  have rv : am_pA 0 (.ref 189) (nI q) (fx V I L R ++ tl) = some (vlu P q) := (qa_189 (by omega)).trans (congrArg some (ds_at hA hq).2)
  have one : ∀ (K c : Nat) (x : Int32), c < 4 → fg_464_44 N r2 r23 (K + 1) (.ref 174) (nI g) (nI q) x (nI c) (fx V I L R ++ tl) = fg_464_44 N r2 r23 K (.ref 174) (nI g) (nI q) (pv_353 x (nI c) (lsE (nI g) (pv_367 (vlu P q) (nI c)))) (nI (c + 1)) (fx V I L R ++ tl) := fun K c x hc => by
    have go : ∀ y, lsE (nI g) (pv_367 (vlu P q) (nI c)) = y → fg_464_91 N r2 r23 (fg_464_44 N r2 r23 K) (.ref 174) (nI g) (nI q) (nI c) x (nI c) y (fx V I L R ++ tl) = fg_464_44 N r2 r23 K (.ref 174) (nI g) (nI q) (pv_353 x (nI c) (lsE (nI g) (pv_367 (vlu P q) (nI c)))) (nI (c + 1)) (fx V I L R ++ tl) := fun y hy => by
      subst hy
      apply hd_464_91
      refine ev_cI (pe_353 _ _ _ _) ?_
      rw [nI_1]
    apply hd_464_44
    refine ev_f (nI_ge (b := 4) hc (by decide)) (ev_b (rdR rfl) (ev_b rv (ev_cI (pe_367 _ _ _) ?_)))
    by_cases c1 : pv_367 (vlu P q) (nI c) = nI g
    · exact ev_f (fun e => e c1) (go _ (by unfold lsE; rw [if_pos c1]))
    · refine ev_t c1 ?_
      by_cases c2 : pv_367 (vlu P q) (nI c) ≤ nI g
      · exact ev_t c2 (go _ (by unfold lsE; rw [if_neg c1, if_neg (Int32.not_lt.mpr c2)]))
      · exact ev_f c2 (go _ (by unfold lsE; rw [if_neg c1, if_pos (Int32.not_le.mp c2)]))
  obtain ⟨W, J, e, d, f⟩ := s335 (L := L) (R := R) (tl := tl) (srt P q) (lsV (nI g) (vlu P q)) hd (by omega)
  refine ⟨W, J, ?_, d, f⟩
  refine (one (K + 4) 0 0 (by omega)).trans ((one (K + 3) 1 _ (by omega)).trans ((one (K + 2) 2 _ (by omega)).trans ((one (K + 1) 3 _ (by omega)).trans ?_)))
  apply hd_464_44
  exact ev_t (by decide) (ev_b (rdR rfl) (ev_b rs (ev_i rfl (ev_cV e rfl))))
set_option maxRecDepth 100000 in
set_option maxHeartbeats 4000000 in
theorem l464 {L : Nat → Nat → Int64} {R : Nat → Nat → Option Nat} {tl : am_H} {N g : Nat} {P : xI} {r2 : Value → Int32 → am_H → Option am_O} (hN : 400 < N) (hl : P.length ≤ 60) (hg : g < P.length) : ∀ (m q K : Nat) (V : Nat → Nat → Value) (I : Nat → Nat → Int32), q + m = P.length → m < K → dsA V I P → dkL V I (((P.take q).eraseIdx g).map (fun x => (x.1, lsV (nI g) x.2))) → ∃ W J, fg_464_23 N r2 K (.ref 174) (nI g) (nI q) (fx V I L R ++ tl) = fg_464_23 N r2 (K - m) (.ref 174) (nI g) (nI P.length) (fx W J L R ++ tl) ∧ dkL W J ((P.eraseIdx g).map (fun x => (x.1, lsV (nI g) x.2))) ∧ frDk V W I J := by
  intro m
  induction m with
  | zero =>
    intro q K V I hm hK hA hd
    rw [Nat.add_zero] at hm
    subst hm
    rw [List.take_length] at hd
    exact ⟨V, I, rfl, hd, frDk_r⟩
  | succ m ih =>
    intro q K V I hm hK hA hd
    obtain ⟨K, rfl⟩ : ∃ k, K = k + 1 := ⟨K - 1, by omega⟩
    have hq : q < P.length := by omega
    have et : P.take (q + 1) = P.take q ++ [(srt P q, vlu P q)] := by rw [List.take_succ, srt_at hq]; rfl
    have lt : (P.take q).length = q := by rw [List.length_take]; omega
    have rd18 := hA.1
    rw [show K + 1 - (m + 1) = K - m by omega]
    by_cases c : q = g
    · have ed : (P.take (q + 1)).eraseIdx g = (P.take q).eraseIdx g := by
        rw [et, List.eraseIdx_append_of_length_le (by omega), lt, c, Nat.sub_self, List.eraseIdx_of_length_le (l := List.take g P) (by rw [List.length_take]; omega)]
        exact List.append_nil _
      obtain ⟨W, J, e, d, f⟩ := ih (q + 1) K V I (by omega) (by omega) hA (by rw [ed]; exact hd)
      refine ⟨W, J, ?_, d, f⟩
      apply hd_464_23
      refine ev_b (rdI rd18) (ev_f (nI_ge hq (by omega)) (ev_f (fun e => e (by rw [c])) ?_))
      apply hd_464_112
      rw [nI_1]
      exact e
    · have ed : (P.take (q + 1)).eraseIdx g = (P.take q).eraseIdx g ++ [(srt P q, vlu P q)] := by
        rw [et]
        rcases Nat.lt_or_ge g q with h | h
        · rw [List.eraseIdx_append_of_lt_length (by omega)]
        · rw [List.eraseIdx_append_of_length_le (by omega), lt, List.eraseIdx_of_length_le (l := P.take q) (by omega)]
          rw [List.eraseIdx_of_length_le (by show 1 ≤ g - q; omega)]
      have lq : (((P.take q).eraseIdx g).map (fun x => (x.1, lsV (nI g) x.2))).length ≤ 60 := by
        rw [List.length_map]
        have := List.length_eraseIdx_le (P.take q) g
        omega
      obtain ⟨N', hN'⟩ : ∃ n, N = n + 5 := ⟨N - 5, by omega⟩
      obtain ⟨W1, J1, e1, d1, f1⟩ := l464v (L := L) (R := R) (tl := tl) (N := N) (g := g) (K := N') (r2 := r2) (r23 := fg_464_23 N r2 K) hl hq hA hd lq
      rw [← hN'] at e1
      have d1 : dkL W1 J1 (((P.take (q + 1)).eraseIdx g).map (fun x => (x.1, lsV (nI g) x.2))) := by rw [ed, List.map_append]; exact d1
      obtain ⟨W, J, e, d, f⟩ := ih (q + 1) K W1 J1 (by omega) (by omega) (ds_f (frSc_d (frEd_k f1)) hA) d1
      refine ⟨W, J, ?_, d, frDk_t f1 f⟩
      apply hd_464_23
      refine ev_b (rdI rd18) (ev_f (nI_ge hq (by omega)) (ev_t (fun e => c ((nI_eq (by omega) (by omega)).mp e)) (e1.trans ?_)))
      apply hd_464_112
      rw [nI_1]
      exact e
set_option maxRecDepth 100000 in
set_option maxHeartbeats 4000000 in
theorem r_464 {V : Nat → Nat → Value} {I : Nat → Nat → Int32} {L : Nat → Nat → Int64} {R : Nat → Nat → Option Nat} {tl : am_H} {V0 : Nat → Nat → Value} {I0 : Nat → Nat → Int32} {cd : Nat → Option xI} {so nt : Int32} {N : Nat} {P : xI} (hN : 400 < N) (hx : ctxR V0 I0 2 nt so P) (h6 : 1 ≤ P.length ∧ P.length ≤ 6) (hcd : ∀ c, cd c = cd23 P c) (h : scS V0 I0 cd so 0 V I) : ∃ W J, fm_464 N (.ref 174) (fx V I L R ++ tl) = some (.inl (none, fx W J L R ++ tl)) ∧ outS V0 I0 cd so (P.length - 1) 2 nt W J := by
  have l60 := hx.2.2.2.2
  have d18 : ∀ (V : Nat → Nat → Value) (I : Nat → Nat → Int32), frSc V0 V I0 I → V 174 18 = .int (nI P.length) := fun V I f => (ct_f hx f).2.2.1.1
  have main := innx (L := L) (R := R) (tl := tl) (V0 := V0) (I0 := I0) (cd := cd) (so := so) (nt := nt) (kd := 2) (ix := fun s => s) (S := P.length - 1) (E := fun K k h => fg_464_2 N K (.ref 174) (nI (k + 1)) h) (G := fun h => some (.inl (none, h))) (fun s _ => Nat.le_succ s) (fun K k V I hk f hc => by
      show fg_464_2 N (K + 1) (.ref 174) (nI (k + 1)) _ = _
      apply hd_464_2
      by_cases c : P.length ≤ k + 1
      · exact ev_b (rdI (d18 V I f)) (ev_t (nI_le c (by omega)) rfl)
      · rcases hc with hc | hc
        · omega
        · exact ev_b (rdI (d18 V I f)) (ev_f (nI_ge (by omega) (by omega)) (ev_b (rdI hc) (ev_t (by decide) rfl)))
      ) (fun K k V I hk h => by
      show ∃ W J, fg_464_2 N (K + 1) (.ref 174) (nI (k + 1)) (fx V I L R ++ tl) = fg_464_2 N K (.ref 174) (nI (k + 1 + 1)) (fx W J L R ++ tl) ∧ outS V0 I0 cd so (k + 1) 2 nt W J
      have c0 := ct_f hx h.1
      obtain ⟨W1, e1, d1, d2, d3, f1⟩ := s451 (I := I) (L := L) (R := R) (tl := tl) c0.1 c0.2.1
      have A1 : dsA W1 I P := ds_f (frSc_d f1) c0.2.2.1
      obtain ⟨W2, J2, e2, d4, f2⟩ := l464 (L := L) (R := R) (tl := tl) (N := N) (g := k + 1) (r2 := fg_464_2 N K) hN l60 (by omega) P.length 0 N W1 I (by omega) (by omega) A1 d1
      have F2 := frEd_t f1 (frEd_k f2)
      have A2 : dsA W2 J2 P := ds_f (frSc_d F2) c0.2.2.1
      have eq : P.eraseIdx (k + 1) = P.take (k + 1) ++ P.drop (k + 2) := List.eraseIdx_eq_take_drop_succ P (k + 1)
      have lq : ((P.eraseIdx (k + 1)).map (fun x => (x.1, lsV (nI (k + 1)) x.2))).length = P.length - 1 := by rw [List.length_map, List.length_eraseIdx_of_lt (by omega)]
      have ecd : cd k = some ((P.eraseIdx (k + 1)).map (fun x => (x.1, lsV (nI (k + 1)) x.2))) := by rw [hcd, eq]; rfl
      obtain ⟨W, J, bb, e, g1, g2⟩ := stepC (L := L) (R := R) (tl := tl) hN h F2 d4 ((f2.1 174 13 (by decide)).trans d2) ((f2.1 174 15 (by decide)).trans d3) (kd := 2) (fr_2 (by omega)) (ecd.trans (gS_2 (by omega)).symm) (by omega) hx.2.2.2.1
      refine ⟨W, J, ?_, outS_b g1 g2⟩
      obtain ⟨K2, hK2⟩ : ∃ n, N - P.length = n + 1 := ⟨N - P.length - 1, by omega⟩
      rw [hK2] at e2
      apply hd_464_2
      refine ev_b (rdI (d18 V I h.1)) (ev_f (nI_ge (by omega) (by omega)) (ev_b (rdI h.2.2.1) (ev_f (fun e => e rfl) (ev_i rfl (ev_cV e1 (e2.trans ?_))))))
      apply hd_464_23
      refine ev_b (rdI A2.1) (ev_t (nI_le (Nat.le_refl _) (by omega)) (ev_i rfl (ev_cI e (ev_b (qp_174_95 (by cases bb <;> rfl)) ?_))))
      rw [sc_95 g1 g2, nI_1]
      ) (P.length - 1) 0 N V I (by omega) (by omega) h
  obtain ⟨W, J, e, o⟩ := main
  refine ⟨W, J, ?_, o⟩
  apply hm_464
  apply hd_464_0
  exact e
/-! comparators by their number -/
def bsN (ln : Nat) : Nat → Nat
  | 0 => 0
  | i + 1 => bsN ln i + (ln - 1 - i)
def cmB (ln i j : Nat) : Bool := !(decide (i < j) && decide (j < ln)) || (decide ((cmpN ln 8 0 (bsN ln i + (j - i - 1))).1 = i) && decide ((cmpN ln 8 0 (bsN ln i + (j - i - 1))).2 = j))
theorem cm_a : ∀ ln, ln < 9 → ∀ i, i < 8 → ∀ j, j < 8 → cmB ln i j = true := by decide +kernel
theorem cmp_at (ln : Nat) (h : ln < 9) (i : Nat) (hi : i < 8) (j : Nat) (hj : j < 8) (h1 : i < j) (h2 : j < ln) : (cmpN ln 8 0 (bsN ln i + (j - i - 1))).1 = i ∧ (cmpN ln 8 0 (bsN ln i + (j - i - 1))).2 = j := by
  have := cm_a ln h i hi j hj
  unfold cmB at this
  rw [decide_eq_true h1, decide_eq_true h2, Bool.and_self, Bool.not_true, Bool.false_or, Bool.and_eq_true, decide_eq_true_eq, decide_eq_true_eq] at this
  exact this
theorem bs_ac : ∀ ln, ln < 9 → bsN ln ln = acr ln := by decide +kernel
theorem bs_lt : ∀ ln, ln < 9 → ∀ i, i < 8 → ∀ j, j < 8 → i < j → j < ln → bsN ln i + (j - i - 1) < acr ln := by decide +kernel
set_option maxRecDepth 100000 in
set_option maxHeartbeats 4000000 in
theorem r_465 {V : Nat → Nat → Value} {I : Nat → Nat → Int32} {L : Nat → Nat → Int64} {R : Nat → Nat → Option Nat} {tl : am_H} {V0 : Nat → Nat → Value} {I0 : Nat → Nat → Int32} {cd : Nat → Option xI} {so nt : Int32} {N ln : Nat} {P : xI} (hN : 400 < N) (hx : ctxR V0 I0 3 nt so P) (hnt : nt = nI ln) (hln : 2 ≤ ln ∧ ln ≤ 8) (h40 : P.length ≤ 40) (hcd : ∀ c, cd c = cd30 ln P c) (h : scS V0 I0 cd so 0 V I) : ∃ W J, fm_465 N (.ref 174) (fx V I L R ++ tl) = some (.inl (none, fx W J L R ++ tl)) ∧ outS V0 I0 cd so (acr ln * (P.length)) 3 nt W J := by
  have l60 := hx.2.2.2.2
  have d18 : ∀ (V : Nat → Nat → Value) (I : Nat → Nat → Int32), frSc V0 V I0 I → V 174 18 = .int (nI P.length) := fun V I f => (ct_f hx f).2.2.1.1
  have d19 : ∀ (V : Nat → Nat → Value) (I : Nat → Nat → Int32), frSc V0 V I0 I → V 174 19 = .int (nI ln) := fun V I f => by have := (ct_f hx f).2.1; rw [hnt] at this; exact this
  have ab : acr ln ≤ 28 := by
    have : ∀ n, n < 9 → acr n ≤ 28 := by decide
    exact this ln (by omega)
  have main := innx (L := L) (R := R) (tl := tl) (V0 := V0) (I0 := I0) (cd := cd) (so := so) (nt := nt) (kd := 3) (ix := fun k => acr ln * k) (S := P.length) (E := fun K k h => fg_465_2 N K (.ref 174) (nI k) h) (G := fun h => some (.inl (none, h))) (fun s _ => Nat.mul_le_mul_left _ (Nat.le_succ s)) (fun K k V I hk f hc => by
      show fg_465_2 N (K + 1) (.ref 174) (nI k) _ = _
      apply hd_465_2
      by_cases c : P.length ≤ k
      · exact ev_b (rdI (d18 V I f)) (ev_t (nI_le c (by omega)) rfl)
      · rcases hc with hc | hc
        · omega
        · exact ev_b (rdI (d18 V I f)) (ev_f (nI_ge (by omega) (by omega)) (ev_b (rdI hc) (ev_t (by decide) rfl)))
      ) (fun K k V I hk h => by
      show ∃ W J, fg_465_2 N (K + 1) (.ref 174) (nI k) (fx V I L R ++ tl) = fg_465_2 N K (.ref 174) (nI (k + 1)) (fx W J L R ++ tl) ∧ outS V0 I0 cd so (acr ln * (k + 1)) 3 nt W J
      have im := innx (L := L) (R := R) (tl := tl) (V0 := V0) (I0 := I0) (cd := cd) (so := so) (nt := nt) (kd := 3) (ix := fun i => acr ln * k + bsN ln i) (S := ln) (E := fun K' i h => fg_465_19 N (fg_465_2 N K) K' (.ref 174) (nI k) (nI i) h) (G := fun h => fg_465_2 N K (.ref 174) (nI (k + 1)) h) (fun i _ => by show acr ln * k + bsN ln i ≤ acr ln * k + bsN ln (i + 1); rw [bsN]; omega) (fun K' i V I hi f hc => by
          have nx : fg_465_114 N (fg_465_2 N K) (.ref 174) (nI k) (fx V I L R ++ tl) = fg_465_2 N K (.ref 174) (nI (k + 1)) (fx V I L R ++ tl) := by
            apply hd_465_114
            rw [nI_1]
          show fg_465_19 N (fg_465_2 N K) (K' + 1) (.ref 174) (nI k) (nI i) _ = fg_465_2 N K (.ref 174) (nI (k + 1)) _
          apply hd_465_19
          by_cases c : ln ≤ i
          · exact ev_b (rdI (d19 V I f)) (ev_t (nI_le c (by omega)) nx)
          · rcases hc with hc | hc
            · omega
            · exact ev_b (rdI (d19 V I f)) (ev_f (nI_ge (by omega) (by omega)) (ev_b (rdI hc) (ev_t (by decide) nx)))
          ) (fun K' i V I hi h => by
          show ∃ W J, fg_465_19 N (fg_465_2 N K) (K' + 1) (.ref 174) (nI k) (nI i) (fx V I L R ++ tl) = fg_465_19 N (fg_465_2 N K) K' (.ref 174) (nI k) (nI (i + 1)) (fx W J L R ++ tl) ∧ outS V0 I0 cd so (acr ln * k + bsN ln (i + 1)) 3 nt W J
          have ii := innx (L := L) (R := R) (tl := tl) (V0 := V0) (I0 := I0) (cd := cd) (so := so) (nt := nt) (kd := 3) (ix := fun t => acr ln * k + bsN ln i + t) (S := ln - 1 - i) (E := fun K'' t h => fg_465_38 N (fg_465_2 N K) (fg_465_19 N (fg_465_2 N K) K') K'' (.ref 174) (nI k) (nI i) (nI (i + 1 + t)) h) (G := fun h => fg_465_19 N (fg_465_2 N K) K' (.ref 174) (nI k) (nI (i + 1)) h) (fun t _ => Nat.le_succ _) (fun K'' t V I ht f hc => by
              have nx3 : fg_465_108 N (fg_465_2 N K) (fg_465_19 N (fg_465_2 N K) K') (.ref 174) (nI k) (nI i) (fx V I L R ++ tl) = fg_465_19 N (fg_465_2 N K) K' (.ref 174) (nI k) (nI (i + 1)) (fx V I L R ++ tl) := by
                apply hd_465_108
                rw [nI_1]
              show fg_465_38 N (fg_465_2 N K) (fg_465_19 N (fg_465_2 N K) K') (K'' + 1) (.ref 174) (nI k) (nI i) (nI (i + 1 + t)) _ = fg_465_19 N (fg_465_2 N K) K' (.ref 174) (nI k) (nI (i + 1)) _
              apply hd_465_38
              by_cases c : ln ≤ i + 1 + t
              · exact ev_b (rdI (d19 V I f)) (ev_t (nI_le c (by omega)) nx3)
              · rcases hc with hc | hc
                · omega
                · exact ev_b (rdI (d19 V I f)) (ev_f (nI_ge (by omega) (by omega)) (ev_b (rdI hc) (ev_t (by decide) nx3)))
              ) (fun K'' t V I ht h => by
              show ∃ W J, fg_465_38 N (fg_465_2 N K) (fg_465_19 N (fg_465_2 N K) K') (K'' + 1) (.ref 174) (nI k) (nI i) (nI (i + 1 + t)) (fx V I L R ++ tl) = fg_465_38 N (fg_465_2 N K) (fg_465_19 N (fg_465_2 N K) K') K'' (.ref 174) (nI k) (nI i) (nI (i + 1 + t + 1)) (fx W J L R ++ tl) ∧ outS V0 I0 cd so (acr ln * k + bsN ln i + t + 1) 3 nt W J
              have c0 := ct_f hx h.1
              have ej := cmp_at ln (by omega) i (by omega) (i + 1 + t) (by omega) (by omega) (by omega)
              rw [show i + 1 + t - i - 1 = t by omega] at ej
              have by_ := bs_lt ln (by omega) i (by omega) (i + 1 + t) (by omega) (by omega) (by omega)
              rw [show i + 1 + t - i - 1 = t by omega] at by_
              have dv : (acr ln * k + bsN ln i + t) / acr ln = k := by rw [Nat.add_assoc, Nat.mul_add_div (by omega), Nat.div_eq_of_lt by_, Nat.add_zero]
              have md : (acr ln * k + bsN ln i + t) % acr ln = bsN ln i + t := by rw [Nat.add_assoc, Nat.mul_add_mod, Nat.mod_eq_of_lt by_]
              have hc6 : acr ln * k + bsN ln i + t < 999999 := by
                have : acr ln * k ≤ 28 * k := Nat.mul_le_mul_right _ ab
                omega
              have hcI : cmpI ln (bsN ln i + t) = (nI i, nI (i + 1 + t)) := by unfold cmpI; rw [ej.1, ej.2]
              have ecd : cd (acr ln * k + bsN ln i + t) = if (srt P k, vlu P k) = (nI i, nI (i + 1 + t)) then none else some (P.set k (nI i, nI (i + 1 + t))) := by
                rw [hcd]
                unfold cd30
                rw [dv, md, hcI]
              have rs : am_pA 0 (.ref 188) (nI k) (fx V I L R ++ tl) = some (srt P k) := (qa_188 (by omega)).trans (congrArg some (ds_at c0.2.2.1 hk).1)
              have rv : am_pA 0 (.ref 189) (nI k) (fx V I L R ++ tl) = some (vlu P k) := (qa_189 (by omega)).trans (congrArg some (ds_at c0.2.2.1 hk).2)
              have nx : ∀ (W : Nat → Nat → Value) (J : Nat → Nat → Int32), fg_465_102 N (fg_465_2 N K) (fg_465_19 N (fg_465_2 N K) K') (fg_465_38 N (fg_465_2 N K) (fg_465_19 N (fg_465_2 N K) K') K'') (.ref 174) (nI k) (nI i) (nI (i + 1 + t)) (fx W J L R ++ tl) = fg_465_38 N (fg_465_2 N K) (fg_465_19 N (fg_465_2 N K) K') K'' (.ref 174) (nI k) (nI i) (nI (i + 1 + t + 1)) (fx W J L R ++ tl) := fun W J => by
                apply hd_465_102
                rw [nI_1]
              have go : ¬ (srt P k, vlu P k) = (nI i, nI (i + 1 + t)) → (∀ o, fg_465_76 N (fg_465_2 N K) (fg_465_19 N (fg_465_2 N K) K') (fg_465_38 N (fg_465_2 N K) (fg_465_19 N (fg_465_2 N K) K') K'') (.ref 174) (nI k) (nI i) (nI (i + 1 + t)) (fx V I L R ++ tl) = o → fg_465_38 N (fg_465_2 N K) (fg_465_19 N (fg_465_2 N K) K') (K'' + 1) (.ref 174) (nI k) (nI i) (nI (i + 1 + t)) (fx V I L R ++ tl) = o) → ∃ W J, fg_465_38 N (fg_465_2 N K) (fg_465_19 N (fg_465_2 N K) K') (K'' + 1) (.ref 174) (nI k) (nI i) (nI (i + 1 + t)) (fx V I L R ++ tl) = fg_465_38 N (fg_465_2 N K) (fg_465_19 N (fg_465_2 N K) K') K'' (.ref 174) (nI k) (nI i) (nI (i + 1 + t + 1)) (fx W J L R ++ tl) ∧ outS V0 I0 cd so (acr ln * k + bsN ln i + t + 1) 3 nt W J := fun nn st1 => by
                rw [if_neg nn] at ecd
                obtain ⟨W1, J1, e1, d1, d2, d3, f1⟩ := s442 (L := L) (R := R) (tl := tl) hN c0.1 c0.2.1 c0.2.2.1 (by omega)
                obtain ⟨W, J, bb, e, g1, g2⟩ := stepC (L := L) (R := R) (tl := tl) (V1 := W1) (I1 := iup (iup J1 186 (upd (J1 186) k (nI i))) 187 (upd (J1 187) k (nI (i + 1 + t)))) hN h (frEd_t f1 (frEd_t (frEd_i (by decide)) (frEd_i (by decide)))) ⟨by rw [List.length_set]; exact d1.1, lay2_sv d1.2⟩ d2 d3 (kd := 3) (fr_3 (by rw [List.length_set]; omega)) (ecd.trans (gS_3 (by rw [List.length_set]; omega)).symm) hc6 hx.2.2.2.1
                refine ⟨W, J, st1 _ ?_, outS_b g1 g2⟩
                apply hd_465_76
                refine ev_i rfl (ev_cV e1 (ev_b (rdR rfl) (ev_b (qs_186 (by omega)) (ev_b (rdR rfl) (ev_b (qs_187 (by omega)) (ev_i rfl (ev_cI e (ev_b (qp_174_95 (by cases bb <;> rfl)) ?_))))))))
                rw [sc_95 g1 g2]
                exact nx W J
              by_cases c1 : nI i = srt P k
              case neg => exact go (fun e => c1 (Prod.mk.inj e).1.symm) (fun o k_ => by apply hd_465_38; exact ev_b (rdI (d19 V I h.1)) (ev_f (nI_ge (by omega) (by omega)) (ev_b (rdI h.2.2.1) (ev_f (fun e => e rfl) (ev_b (rdR rfl) (ev_b rs (ev_t c1 k_)))))))
              by_cases c2 : nI (i + 1 + t) = vlu P k
              case neg => exact go (fun e => c2 (Prod.mk.inj e).2.symm) (fun o k_ => by apply hd_465_38; exact ev_b (rdI (d19 V I h.1)) (ev_f (nI_ge (by omega) (by omega)) (ev_b (rdI h.2.2.1) (ev_f (fun e => e rfl) (ev_b (rdR rfl) (ev_b rs (ev_f (fun e => e c1) (ev_b (rdR rfl) (ev_b rv (ev_t c2 k_))))))))))
              refine ⟨V, I, ?_, .inr (scS_n h (ecd.trans (if_pos (by rw [← c1, ← c2]))))⟩
              apply hd_465_38
              exact ev_b (rdI (d19 V I h.1)) (ev_f (nI_ge (by omega) (by omega)) (ev_b (rdI h.2.2.1) (ev_f (fun e => e rfl) (ev_b (rdR rfl) (ev_b rs (ev_f (fun e => e c1) (ev_b (rdR rfl) (ev_b rv (ev_f (fun e => e c2) (nx V I))))))))))
              ) (ln - 1 - i) 0 N V I (by omega) (by omega) h
          obtain ⟨W, J, e, o⟩ := ii
          refine ⟨W, J, ?_, ?_⟩
          · apply hd_465_19
            refine ev_b (rdI (d19 V I h.1)) (ev_f (nI_ge hi (by omega)) (ev_b (rdI h.2.2.1) (ev_f (fun e => e rfl) ?_)))
            rw [nI_1]
            exact e
          · rw [bsN, ← Nat.add_assoc]
            exact o
          ) ln 0 N V I (by omega) (by omega) h
      obtain ⟨W, J, e, o⟩ := im
      refine ⟨W, J, ?_, ?_⟩
      · apply hd_465_2
        exact ev_b (rdI (d18 V I h.1)) (ev_f (nI_ge hk (by omega)) (ev_b (rdI h.2.2.1) (ev_f (fun e => e rfl) e)))
      · rw [bs_ac ln (by omega)] at o
        rw [Nat.mul_add (acr ln) k 1, Nat.mul_one]
        exact o
      ) (P.length) 0 N V I (by omega) (by omega) h
  obtain ⟨W, J, e, o⟩ := main
  refine ⟨W, J, ?_, o⟩
  apply hm_465
  apply hd_465_0
  exact e
set_option maxRecDepth 100000 in
set_option maxHeartbeats 4000000 in
theorem r_467 {V : Nat → Nat → Value} {I : Nat → Nat → Int32} {L : Nat → Nat → Int64} {R : Nat → Nat → Option Nat} {tl : am_H} {V0 : Nat → Nat → Value} {I0 : Nat → Nat → Int32} {cd : Nat → Option xI} {so nt : Int32} {N ln : Nat} {P : xI} (hN : 400 < N) (hx : ctxR V0 I0 3 nt so P) (hnt : nt = nI ln) (hln : 2 ≤ ln ∧ ln ≤ 8) (h40 : P.length ≤ 40) (hcd : ∀ c, cd c = gS2 3 (P.take (c / acr ln) ++ (cmpI ln (c % acr ln) :: P.drop (c / acr ln)))) (h : scS V0 I0 cd so 0 V I) : ∃ W J, fm_467 N (.ref 174) (fx V I L R ++ tl) = some (.inl (none, fx W J L R ++ tl)) ∧ outS V0 I0 cd so (acr ln * (P.length + 1)) 3 nt W J := by
  have l60 := hx.2.2.2.2
  have d18 : ∀ (V : Nat → Nat → Value) (I : Nat → Nat → Int32), frSc V0 V I0 I → V 174 18 = .int (nI P.length) := fun V I f => (ct_f hx f).2.2.1.1
  have d19 : ∀ (V : Nat → Nat → Value) (I : Nat → Nat → Int32), frSc V0 V I0 I → V 174 19 = .int (nI ln) := fun V I f => by have := (ct_f hx f).2.1; rw [hnt] at this; exact this
  have ab : acr ln ≤ 28 := by
    have : ∀ n, n < 9 → acr n ≤ 28 := by decide
    exact this ln (by omega)
  have main := innx (L := L) (R := R) (tl := tl) (V0 := V0) (I0 := I0) (cd := cd) (so := so) (nt := nt) (kd := 3) (ix := fun k => acr ln * k) (S := P.length + 1) (E := fun K k h => fg_467_2 N K (.ref 174) (nI k) h) (G := fun h => some (.inl (none, h))) (fun s _ => Nat.mul_le_mul_left _ (Nat.le_succ s)) (fun K k V I hk f hc => by
      show fg_467_2 N (K + 1) (.ref 174) (nI k) _ = _
      apply hd_467_2
      by_cases c : P.length < k
      · exact ev_b (rdI (d18 V I f)) (ev_t ((nI_ltI (by omega) (by omega)).mpr c) rfl)
      · rcases hc with hc | hc
        · omega
        · exact ev_b (rdI (d18 V I f)) (ev_f (nI_nlt (by omega) (by omega)) (ev_b (rdI hc) (ev_t (by decide) rfl)))
      ) (fun K k V I hk h => by
      show ∃ W J, fg_467_2 N (K + 1) (.ref 174) (nI k) (fx V I L R ++ tl) = fg_467_2 N K (.ref 174) (nI (k + 1)) (fx W J L R ++ tl) ∧ outS V0 I0 cd so (acr ln * (k + 1)) 3 nt W J
      have im := innx (L := L) (R := R) (tl := tl) (V0 := V0) (I0 := I0) (cd := cd) (so := so) (nt := nt) (kd := 3) (ix := fun i => acr ln * k + bsN ln i) (S := ln) (E := fun K' i h => fg_467_19 N (fg_467_2 N K) K' (.ref 174) (nI k) (nI i) h) (G := fun h => fg_467_2 N K (.ref 174) (nI (k + 1)) h) (fun i _ => by show acr ln * k + bsN ln i ≤ acr ln * k + bsN ln (i + 1); rw [bsN]; omega) (fun K' i V I hi f hc => by
          have nx : fg_467_98 N (fg_467_2 N K) (.ref 174) (nI k) (fx V I L R ++ tl) = fg_467_2 N K (.ref 174) (nI (k + 1)) (fx V I L R ++ tl) := by
            apply hd_467_98
            rw [nI_1]
          show fg_467_19 N (fg_467_2 N K) (K' + 1) (.ref 174) (nI k) (nI i) _ = fg_467_2 N K (.ref 174) (nI (k + 1)) _
          apply hd_467_19
          by_cases c : ln ≤ i
          · exact ev_b (rdI (d19 V I f)) (ev_t (nI_le c (by omega)) nx)
          · rcases hc with hc | hc
            · omega
            · exact ev_b (rdI (d19 V I f)) (ev_f (nI_ge (by omega) (by omega)) (ev_b (rdI hc) (ev_t (by decide) nx)))
          ) (fun K' i V I hi h => by
          show ∃ W J, fg_467_19 N (fg_467_2 N K) (K' + 1) (.ref 174) (nI k) (nI i) (fx V I L R ++ tl) = fg_467_19 N (fg_467_2 N K) K' (.ref 174) (nI k) (nI (i + 1)) (fx W J L R ++ tl) ∧ outS V0 I0 cd so (acr ln * k + bsN ln (i + 1)) 3 nt W J
          have ii := innx (L := L) (R := R) (tl := tl) (V0 := V0) (I0 := I0) (cd := cd) (so := so) (nt := nt) (kd := 3) (ix := fun t => acr ln * k + bsN ln i + t) (S := ln - 1 - i) (E := fun K'' t h => fg_467_38 N (fg_467_2 N K) (fg_467_19 N (fg_467_2 N K) K') K'' (.ref 174) (nI k) (nI i) (nI (i + 1 + t)) h) (G := fun h => fg_467_19 N (fg_467_2 N K) K' (.ref 174) (nI k) (nI (i + 1)) h) (fun t _ => Nat.le_succ _) (fun K'' t V I ht f hc => by
              have nx3 : fg_467_92 N (fg_467_2 N K) (fg_467_19 N (fg_467_2 N K) K') (.ref 174) (nI k) (nI i) (fx V I L R ++ tl) = fg_467_19 N (fg_467_2 N K) K' (.ref 174) (nI k) (nI (i + 1)) (fx V I L R ++ tl) := by
                apply hd_467_92
                rw [nI_1]
              show fg_467_38 N (fg_467_2 N K) (fg_467_19 N (fg_467_2 N K) K') (K'' + 1) (.ref 174) (nI k) (nI i) (nI (i + 1 + t)) _ = fg_467_19 N (fg_467_2 N K) K' (.ref 174) (nI k) (nI (i + 1)) _
              apply hd_467_38
              by_cases c : ln ≤ i + 1 + t
              · exact ev_b (rdI (d19 V I f)) (ev_t (nI_le c (by omega)) nx3)
              · rcases hc with hc | hc
                · omega
                · exact ev_b (rdI (d19 V I f)) (ev_f (nI_ge (by omega) (by omega)) (ev_b (rdI hc) (ev_t (by decide) nx3)))
              ) (fun K'' t V I ht h => by
              show ∃ W J, fg_467_38 N (fg_467_2 N K) (fg_467_19 N (fg_467_2 N K) K') (K'' + 1) (.ref 174) (nI k) (nI i) (nI (i + 1 + t)) (fx V I L R ++ tl) = fg_467_38 N (fg_467_2 N K) (fg_467_19 N (fg_467_2 N K) K') K'' (.ref 174) (nI k) (nI i) (nI (i + 1 + t + 1)) (fx W J L R ++ tl) ∧ outS V0 I0 cd so (acr ln * k + bsN ln i + t + 1) 3 nt W J
              have c0 := ct_f hx h.1
              have ej := cmp_at ln (by omega) i (by omega) (i + 1 + t) (by omega) (by omega) (by omega)
              rw [show i + 1 + t - i - 1 = t by omega] at ej
              have by_ := bs_lt ln (by omega) i (by omega) (i + 1 + t) (by omega) (by omega) (by omega)
              rw [show i + 1 + t - i - 1 = t by omega] at by_
              have dv : (acr ln * k + bsN ln i + t) / acr ln = k := by rw [Nat.add_assoc, Nat.mul_add_div (by omega), Nat.div_eq_of_lt by_, Nat.add_zero]
              have md : (acr ln * k + bsN ln i + t) % acr ln = bsN ln i + t := by rw [Nat.add_assoc, Nat.mul_add_mod, Nat.mod_eq_of_lt by_]
              have hc6 : acr ln * k + bsN ln i + t < 999999 := by
                have : acr ln * k ≤ 28 * k := Nat.mul_le_mul_right _ ab
                omega
              have hcI : cmpI ln (bsN ln i + t) = (nI i, nI (i + 1 + t)) := by unfold cmpI; rw [ej.1, ej.2]
              have ecd : cd (acr ln * k + bsN ln i + t) = gS2 3 (P.take k ++ ((nI i, nI (i + 1 + t)) :: P.drop k)) := by
                rw [hcd, dv, md, hcI]
              obtain ⟨W1, e1, d1, d2, d3, f1⟩ := s451 (I := I) (L := L) (R := R) (tl := tl) c0.1 c0.2.1
              have A1 : dsA W1 I P := ds_f (frSc_d f1) c0.2.2.1
              obtain ⟨W2, J2, e2, d4, f2⟩ := s443 (L := L) (R := R) (tl := tl) (i := 0) (j := k) (P := P) (Q := []) 0 (nI k) rfl rfl hN (by omega) (by omega) (by omega) A1 d1 (by show 0 + _ ≤ 400; omega)
              have q2 : ([] ++ sg P 0 k).length = k := by rw [List.nil_append, sg_len (by omega)]; omega
              obtain ⟨W3, J3, e3, d5, f3⟩ := s335 (L := L) (R := R) (tl := tl) (nI i) (nI (i + 1 + t)) d4 (by rw [q2]; omega)
              have F3 := frEd_t f1 (frEd_t (frEd_k f2) (frEd_k f3))
              have A3 : dsA W3 J3 P := ds_f (frSc_d F3) c0.2.2.1
              have q3 : ([] ++ sg P 0 k ++ [(nI i, nI (i + 1 + t))]).length = k + 1 := by rw [List.length_append, q2]; rfl
              obtain ⟨W4, J4, e4, d6, f4⟩ := s443 (L := L) (R := R) (tl := tl) (i := k) (j := P.length) (P := P) (nI k) (nI P.length) rfl rfl hN (by omega) (by omega) (by omega) A3 d5 (by rw [q3]; omega)
              have eq : ([] ++ sg P 0 k ++ [(nI i, nI (i + 1 + t))]) ++ sg P k P.length = P.take k ++ ((nI i, nI (i + 1 + t)) :: P.drop k) := by
                rw [sg_0, sg_n, List.nil_append, List.append_assoc]
                rfl
              rw [eq] at d6
              have lq : (P.take k ++ ((nI i, nI (i + 1 + t)) :: P.drop k)).length = P.length + 1 := by rw [List.length_append, List.length_cons, List.length_take, List.length_drop]; omega
              have y1 : ∀ j, j = 13 ∨ j = 15 → W4 174 j = W1 174 j := fun j hj => (f4.1 174 j (by omega)).trans ((f3.1 174 j (by omega)).trans (f2.1 174 j (by omega)))
              obtain ⟨W, J, bb, e, g1, g2⟩ := stepC (L := L) (R := R) (tl := tl) hN h (frEd_t F3 (frEd_k f4)) d6 ((y1 13 (.inl rfl)).trans d2) ((y1 15 (.inr rfl)).trans d3) (kd := 3) (fr_3 (by omega)) ecd hc6 hx.2.2.2.1
              refine ⟨W, J, ?_, outS_b g1 g2⟩
              apply hd_467_38
              refine ev_b (rdI (d19 V I h.1)) (ev_f (nI_ge (by omega) (by omega)) (ev_b (rdI h.2.2.1) (ev_f (fun e => e rfl) (ev_i rfl (ev_cV e1 (ev_i rfl (ev_cV e2 (ev_i rfl (ev_cV e3 (ev_b (rdI A3.1) (ev_i rfl (ev_cV e4 (ev_i rfl (ev_cI e (ev_b (qp_174_95 (by cases bb <;> rfl)) ?_)))))))))))))))
              rw [sc_95 g1 g2, nI_1]
              ) (ln - 1 - i) 0 N V I (by omega) (by omega) h
          obtain ⟨W, J, e, o⟩ := ii
          refine ⟨W, J, ?_, ?_⟩
          · apply hd_467_19
            refine ev_b (rdI (d19 V I h.1)) (ev_f (nI_ge hi (by omega)) (ev_b (rdI h.2.2.1) (ev_f (fun e => e rfl) ?_)))
            rw [nI_1]
            exact e
          · rw [bsN, ← Nat.add_assoc]
            exact o
          ) ln 0 N V I (by omega) (by omega) h
      obtain ⟨W, J, e, o⟩ := im
      refine ⟨W, J, ?_, ?_⟩
      · apply hd_467_2
        exact ev_b (rdI (d18 V I h.1)) (ev_f (nI_nlt (by omega) (by omega)) (ev_b (rdI h.2.2.1) (ev_f (fun e => e rfl) e)))
      · rw [bs_ac ln (by omega)] at o
        rw [Nat.mul_add (acr ln) k 1, Nat.mul_one]
        exact o
      ) (P.length + 1) 0 N V I (by omega) (by omega) h
  obtain ⟨W, J, e, o⟩ := main
  refine ⟨W, J, ?_, o⟩
  apply hm_467
  apply hd_467_0
  exact e
