/-! ===== edits: code with instructions more, in the reference ===== -/
theorem hd_457_57 {N : Nat} {h : am_H} {r_ : Option am_O} (k_ : some (.inl (none, h)) = r_) : fg_457_57 N h = r_ := k_
theorem hd_457_51 {N : Nat} {rec_2 : Value → Int32 → am_H → Option am_O} {x0 : Value} {x1 : Int32} {h : am_H} {r_ : Option am_O} (k_ : (rec_2 x0 ((x1 + 1)) h) = r_) : fg_457_51 N rec_2 x0 x1 h = r_ := k_
theorem hd_457_19 {N : Nat} {rec_2 : Value → Int32 → am_H → Option am_O} {K : Nat} {x0 : Value} {x1 : Int32} {x2 : Int32} {h : am_H} {r_ : Option am_O} (k_ : (if 5 ≤ x2 then (fg_457_51 N rec_2 x0 x1 h) else ((am_vI (am_pG 3167 x0 h)).bind fun v2 => (if ¬ v2 = 0 then (fg_457_51 N rec_2 x0 x1 h) else (if am_pOk 12 x0 h then am_cV true (fm_458 N x0 x1 x2 h) (fun h7 => (if am_pOk 12 x0 h7 then am_cI true (fm_444 N x0 h7) (fun v10 h11 => ((am_pP 3167 x0 (.int v10) h11).bind fun h13 => (fg_457_19 N rec_2 K x0 x1 ((x2 + 1)) h13))) else none)) else none)))) = r_) : fg_457_19 N rec_2 (K + 1) x0 x1 x2 h = r_ := by rw [fg_457_19]; exact k_
theorem hd_457_2 {N : Nat} {K : Nat} {x0 : Value} {x1 : Int32} {h : am_H} {r_ : Option am_O} (k_ : ((am_vI (am_pG 3090 x0 h)).bind fun v1 => (if v1 < x1 then (fg_457_57 N h) else ((am_vI (am_pG 3167 x0 h)).bind fun v4 => (if ¬ v4 = 0 then (fg_457_57 N h) else (fg_457_19 N (fg_457_2 N K) N x0 x1 0 h))))) = r_) : fg_457_2 N (K + 1) x0 x1 h = r_ := by rw [fg_457_2]; exact k_
theorem hd_457_0 {N : Nat} {x0 : Value} {h : am_H} {r_ : Option am_O} (k_ : (fg_457_2 N N x0 0 h) = r_) : fg_457_0 N x0 h = r_ := k_
theorem hm_457 {N : Nat} {y0 : Value} {h : am_H} {r_ : Option am_O} (k_ : fg_457_0 N y0 h = r_) : fm_457 N y0 h = r_ := k_
theorem hd_458_118 {N : Nat} {h : am_H} {r_ : Option am_O} (k_ : some (.inl (none, h)) = r_) : fg_458_118 N h = r_ := k_
theorem hd_458_84 {N : Nat} {rec_17 : Value → Int32 → Int32 → Int32 → Int32 → am_H → Option am_O} {x0 : Value} {x1 : Int32} {x2 : Int32} {x3 : Int32} {x4 : Int32} {s0 : Int32} {h : am_H} {r_ : Option am_O} (k_ : ((am_vR (am_pG 3093 x0 h)).bind fun v1 => ((am_pA 0 v1 x4 h).bind fun v3 => (if am_pOk 12 x0 h then am_cV true (fm_335 x0 v3 s0 h) (fun h7 => (rec_17 x0 x1 x2 x3 ((x4 + 1)) h7)) else none))) = r_) : fg_458_84 N rec_17 x0 x1 x2 x3 x4 s0 h = r_ := k_
theorem hd_458_82 {N : Nat} {rec_17 : Value → Int32 → Int32 → Int32 → Int32 → am_H → Option am_O} {x0 : Value} {x1 : Int32} {x2 : Int32} {x3 : Int32} {x4 : Int32} {x5 : Int32} {h : am_H} {r_ : Option am_O} (k_ : (fg_458_84 N rec_17 x0 x1 x2 x3 x4 x5 h) = r_) : fg_458_82 N rec_17 x0 x1 x2 x3 x4 x5 h = r_ := k_
theorem hd_458_37 {N : Nat} {rec_17 : Value → Int32 → Int32 → Int32 → Int32 → am_H → Option am_O} {x0 : Value} {x1 : Int32} {x2 : Int32} {x3 : Int32} {x4 : Int32} {h : am_H} {r_ : Option am_O} (k_ : ((am_vR (am_pG 3094 x0 h)).bind fun v1 => ((am_pA 0 v1 x4 h).bind fun v3 => ((am_vR (am_pG 3093 x0 h)).bind fun v5 => ((am_pA 0 v5 x4 h).bind fun v7 => (if v7 ≤ 16 then (fg_458_82 N rec_17 x0 x1 x2 x3 x4 v3 h) else (if x1 ≤ x4 then (fg_458_82 N rec_17 x0 x1 x2 x3 x4 v3 h) else (if ((x4 + 1) + v3) ≤ x1 then (fg_458_82 N rec_17 x0 x1 x2 x3 x4 v3 h) else (fg_458_84 N rec_17 x0 x1 x2 x3 x4 ((v3 + x3)) h)))))))) = r_) : fg_458_37 N rec_17 x0 x1 x2 x3 x4 h = r_ := k_
theorem hd_458_17 {N : Nat} {K : Nat} {x0 : Value} {x1 : Int32} {x2 : Int32} {x3 : Int32} {x4 : Int32} {h : am_H} {r_ : Option am_O} (k_ : ((am_vI (am_pG 3090 x0 h)).bind fun v1 => (if v1 ≤ x4 then ((am_vI (am_pG 3090 x0 h)).bind fun v4 => (if ¬ x1 = v4 then (fg_458_118 N h) else (if am_pOk 12 x0 h then am_cV true (fm_459 x0 x2 h) (fun h9 => (fg_458_118 N h9)) else none))) else (if ¬ x4 = x1 then (fg_458_37 N (fg_458_17 N K) x0 x1 x2 x3 x4 h) else (if am_pOk 12 x0 h then am_cV true (fm_459 x0 x2 h) (fun h14 => (fg_458_37 N (fg_458_17 N K) x0 x1 x2 x3 x4 h14)) else none)))) = r_) : fg_458_17 N (K + 1) x0 x1 x2 x3 x4 h = r_ := by rw [fg_458_17]; exact k_
theorem hd_458_9 {N : Nat} {x0 : Value} {x1 : Int32} {x2 : Int32} {s0 : Int32} {h : am_H} {r_ : Option am_O} (k_ : (if am_pOk 12 x0 h then am_cV true (fm_451 x0 h) (fun h3 => (fg_458_17 N N x0 x1 x2 s0 0 h3)) else none) = r_) : fg_458_9 N x0 x1 x2 s0 h = r_ := k_
theorem hd_458_0 {N : Nat} {x0 : Value} {x1 : Int32} {x2 : Int32} {h : am_H} {r_ : Option am_O} (k_ : (if ¬ x2 = 0 then (fg_458_9 N x0 x1 x2 2 h) else (fg_458_9 N x0 x1 x2 1 h)) = r_) : fg_458_0 N x0 x1 x2 h = r_ := k_
theorem hm_458 {N : Nat} {y0 : Value} {y1 : Int32} {y2 : Int32} {h : am_H} {r_ : Option am_O} (k_ : fg_458_0 N y0 y1 y2 h = r_) : fm_458 N y0 y1 y2 h = r_ := k_
theorem hd_459_68 {s0 : Value} {s1 : Int32} {h : am_H} {r_ : Option am_O} (k_ : (if am_pOk 12 s0 h then am_cV true (fm_335 s0 s1 0 h) (fun h3 => some (.inl (none, h3))) else none) = r_) : fg_459_68 s0 s1 h = r_ := k_
theorem hd_459_42 {x0 : Value} {x1 : Int32} {s0 : Value} {s1 : Int32} {s2 : Int32} {h : am_H} {r_ : Option am_O} (k_ : (if am_pOk 12 s0 h then am_cV true (fm_335 s0 s1 s2 h) (fun h3 => (if ¬ x1 = 2 then (if ¬ x1 = 4 then (fg_459_68 x0 7 h3) else (fg_459_68 x0 9 h3)) else (fg_459_68 x0 8 h3))) else none) = r_) : fg_459_42 x0 x1 s0 s1 s2 h = r_ := k_
theorem hd_459_32 {x0 : Value} {x1 : Int32} {s0 : Value} {s1 : Int32} {h : am_H} {r_ : Option am_O} (k_ : (if 3 ≤ x1 then (fg_459_42 x0 x1 s0 s1 0 h) else (fg_459_42 x0 x1 s0 s1 1 h)) = r_) : fg_459_32 x0 x1 s0 s1 h = r_ := k_
theorem hd_459_0 {x0 : Value} {x1 : Int32} {h : am_H} {r_ : Option am_O} (k_ : (if ¬ x1 = 0 then (if 3 ≤ x1 then (if ¬ x1 = 3 then (fg_459_32 x0 x1 x0 14 h) else (fg_459_32 x0 x1 x0 1 h)) else (fg_459_32 x0 x1 x0 0 h)) else (if am_pOk 12 x0 h then am_cV true (fm_335 x0 5 0 h) (fun h6 => some (.inl (none, h6))) else none)) = r_) : fg_459_0 x0 x1 h = r_ := k_
theorem hm_459 {y0 : Value} {y1 : Int32} {h : am_H} {r_ : Option am_O} (k_ : fg_459_0 y0 y1 h = r_) : fm_459 y0 y1 h = r_ := k_
def fIn (P : xI) (p w k : Nat) : Int32 × Int32 := (srt P k, if 16 < sN (srt P k) ∧ p < jmp P k then vlu P k + nI (insL w).length else vlu P k)
theorem ins_l (w : Nat) : (insL w).length = if w = 0 then 1 else 2 := by unfold insL; split <;> rfl
theorem ins_l2 (w : Nat) : (insL w).length ≤ 2 := by rw [ins_l]; split <;> omega
set_option maxRecDepth 100000 in
set_option maxHeartbeats 4000000 in
theorem s459 {V : Nat → Nat → Value} {I : Nat → Nat → Int32} {L : Nat → Nat → Int64} {R : Nat → Nat → Option Nat} {tl : am_H} {w : Nat} {Q : xI} (hw : w < 5) (h : dkL V I Q) (hq : Q.length < 390) : ∃ W J, fm_459 (.ref 174) (nI w) (fx V I L R ++ tl) = some (.inl (none, fx W J L R ++ tl)) ∧ dkL W J (Q ++ insL w) ∧ frDk V W I J := by
  have two : ∀ (a b c : Int32), ∃ W J W' J', fm_335 (.ref 174) a b (fx V I L R ++ tl) = some (.inl (none, fx W J L R ++ tl)) ∧ fm_335 (.ref 174) c 0 (fx W J L R ++ tl) = some (.inl (none, fx W' J' L R ++ tl)) ∧ dkL W' J' (Q ++ [(a, b), (c, 0)]) ∧ frDk V W' I J' := fun a b c => by
    obtain ⟨W, J, e, d, f⟩ := s335 (L := L) (R := R) (tl := tl) a b h (by omega)
    obtain ⟨W', J', e', d', f'⟩ := s335 (L := L) (R := R) (tl := tl) c 0 d (by rw [List.length_append]; show _ + 1 < _; omega)
    refine ⟨W, J, W', J', e, e', ?_, frDk_t f f'⟩
    rw [List.append_assoc] at d'
    exact d'
  rcases (by omega : w = 0 ∨ w = 1 ∨ w = 2 ∨ w = 3 ∨ w = 4) with rfl | rfl | rfl | rfl | rfl
  · obtain ⟨W, J, e, d, f⟩ := s335 (L := L) (R := R) (tl := tl) 5 0 h (by omega)
    refine ⟨W, J, ?_, d, f⟩
    apply hm_459
    apply hd_459_0
    exact ev_f (fun e => e rfl) (ev_i rfl (ev_cV e rfl))
  · obtain ⟨W, J, W', J', e, e', d, f⟩ := two 0 1 7
    refine ⟨W', J', ?_, d, f⟩
    apply hm_459
    apply hd_459_0
    refine ev_t (by decide) (ev_f (by decide) ?_)
    apply hd_459_32
    refine ev_f (by decide) ?_
    apply hd_459_42
    refine ev_i rfl (ev_cV e (ev_t (by decide) (ev_t (by decide) ?_)))
    apply hd_459_68
    exact ev_i rfl (ev_cV e' rfl)
  · obtain ⟨W, J, W', J', e, e', d, f⟩ := two 0 1 8
    refine ⟨W', J', ?_, d, f⟩
    apply hm_459
    apply hd_459_0
    refine ev_t (by decide) (ev_f (by decide) ?_)
    apply hd_459_32
    refine ev_f (by decide) ?_
    apply hd_459_42
    refine ev_i rfl (ev_cV e (ev_f (fun e => e rfl) ?_))
    apply hd_459_68
    exact ev_i rfl (ev_cV e' rfl)
  · obtain ⟨W, J, W', J', e, e', d, f⟩ := two 1 0 7
    refine ⟨W', J', ?_, d, f⟩
    apply hm_459
    apply hd_459_0
    refine ev_t (by decide) (ev_t (by decide) (ev_f (fun e => e rfl) ?_))
    apply hd_459_32
    refine ev_t (by decide) ?_
    apply hd_459_42
    refine ev_i rfl (ev_cV e (ev_t (by decide) (ev_t (by decide) ?_)))
    apply hd_459_68
    exact ev_i rfl (ev_cV e' rfl)
  · obtain ⟨W, J, W', J', e, e', d, f⟩ := two 14 0 9
    refine ⟨W', J', ?_, d, f⟩
    apply hm_459
    apply hd_459_0
    refine ev_t (by decide) (ev_t (by decide) (ev_t (by decide) ?_))
    apply hd_459_32
    refine ev_t (by decide) ?_
    apply hd_459_42
    refine ev_i rfl (ev_cV e (ev_t (by decide) (ev_f (fun e => e rfl) ?_)))
    apply hd_459_68
    exact ev_i rfl (ev_cV e' rfl)
set_option maxRecDepth 100000 in
set_option maxHeartbeats 4000000 in
theorem t37 {V : Nat → Nat → Value} {I : Nat → Nat → Int32} {L : Nat → Nat → Int64} {R : Nat → Nat → Option Nat} {tl : am_H} {N p k n K w : Nat} {v : Int32} {P Q : xI} (hc : okI P) (hl : P.length ≤ 60) (hn : n ≤ 2) (hk : k < P.length) (hp : p ≤ P.length) (hA : dsA V I P) (hd : dkL V I Q) (hq : Q.length < 390) (hv : v = if k < p ∧ 16 < sN (srt P k) ∧ p < jmp P k then vlu P k + nI n else vlu P k) : ∃ W J, fg_458_37 N (fg_458_17 N K) (.ref 174) (nI p) (nI w) (nI n) (nI k) (fx V I L R ++ tl) = fg_458_17 N K (.ref 174) (nI p) (nI w) (nI n) (nI (k + 1)) (fx W J L R ++ tl) ∧ dkL W J (Q ++ [(srt P k, v)]) ∧ frDk V W I J := by
  obtain ⟨es, ev⟩ := ds_at hA hk
  obtain ⟨o1, o2, o3⟩ := hc k hk
  have rs : am_pA 0 (.ref 188) (nI k) (fx V I L R ++ tl) = some (srt P k) := (qa_188 (by omega)).trans (congrArg some es)
  have rv : am_pA 0 (.ref 189) (nI k) (fx V I L R ++ tl) = some (vlu P k) := (qa_189 (by omega)).trans (congrArg some ev)
  obtain ⟨W, J, e, d, f⟩ := s335 (L := L) (R := R) (tl := tl) (srt P k) v hd (by omega)
  refine ⟨W, J, ?_, d, f⟩
  have go : fg_458_84 N (fg_458_17 N K) (.ref 174) (nI p) (nI w) (nI n) (nI k) v (fx V I L R ++ tl) = fg_458_17 N K (.ref 174) (nI p) (nI w) (nI n) (nI (k + 1)) (fx W J L R ++ tl) := by
    apply hd_458_84
    refine ev_b (rdR rfl) (ev_b rs (ev_i rfl (ev_cV e ?_)))
    rw [nI_1]
  apply hd_458_37
  refine ev_b (rdR rfl) (ev_b rv (ev_b (rdR rfl) (ev_b rs ?_)))
  by_cases c1 : 16 < sN (srt P k)
  case neg =>
    rw [if_neg (fun e => c1 e.2.1)] at hv
    subst hv
    exact ev_t (by rw [o1]; exact nI_le (b := 16) (by omega) (by decide)) (hd_458_82 go)
  by_cases c2 : k < p
  case neg =>
    rw [if_neg (fun e => c2 e.1)] at hv
    subst hv
    exact ev_f (by rw [o1]; exact nI_ge (a := 16) c1 (by omega)) (ev_t (nI_le (by omega) (by omega)) (hd_458_82 go))
  obtain ⟨w1, w2⟩ := o3 (by omega)
  have ej : jmp P k = k + 1 + sN (vlu P k) := rfl
  have sj : nI k + 1 + vlu P k = nI (jmp P k) := by rw [ej, nI_1]; exact (congrArg (fun z => nI (k + 1) + z) w1).trans (nI_add _ _)
  by_cases c3 : p < jmp P k
  · rw [if_pos ⟨c2, c1, c3⟩] at hv
    subst hv
    exact ev_f (by rw [o1]; exact nI_ge (a := 16) c1 (by omega)) (ev_f (nI_ge c2 (by omega)) (ev_f (by rw [sj]; exact nI_ge c3 (by omega)) go))
  · rw [if_neg (fun e => c3 e.2.2)] at hv
    subst hv
    exact ev_f (by rw [o1]; exact nI_ge (a := 16) c1 (by omega)) (ev_f (nI_ge c2 (by omega)) (ev_t (by rw [sj]; exact nI_le (by omega) (by omega)) (hd_458_82 go)))
set_option maxRecDepth 100000 in
set_option maxHeartbeats 4000000 in
theorem l458a {L : Nat → Nat → Int64} {R : Nat → Nat → Option Nat} {tl : am_H} {N p w : Nat} {P : xI} (hc : okI P) (hl : P.length ≤ 60) (hp : p ≤ P.length) : ∀ (m k K : Nat) (V : Nat → Nat → Value) (I : Nat → Nat → Int32), k + m = p → m < K → dsA V I P → dkL V I ((List.range k).map (fIn P p w)) → ∃ W J, frDk V W I J ∧ fg_458_17 N K (.ref 174) (nI p) (nI w) (nI (insL w).length) (nI k) (fx V I L R ++ tl) = fg_458_17 N (K - m) (.ref 174) (nI p) (nI w) (nI (insL w).length) (nI p) (fx W J L R ++ tl) ∧ dkL W J ((List.range p).map (fIn P p w)) := by
  have i2 := ins_l2 w
  intro m
  induction m with
  | zero =>
    intro k K V I hm hK hA hd
    rw [Nat.add_zero] at hm
    subst hm
    exact ⟨V, I, frDk_r, rfl, hd⟩
  | succ m ih =>
    intro k K V I hm hK hA hd
    obtain ⟨K, rfl⟩ : ∃ k, K = k + 1 := ⟨K - 1, by omega⟩
    obtain ⟨W1, J1, e1, d1, f1⟩ := t37 (L := L) (R := R) (tl := tl) (N := N) (p := p) (k := k) (n := (insL w).length) (K := K) (w := w) (v := (fIn P p w k).2) hc hl i2 (by omega) hp hA hd (by rw [rg_l]; omega) (by
      unfold fIn
      by_cases c : 16 < sN (srt P k) ∧ p < jmp P k
      · rw [if_pos c, if_pos ⟨by omega, c⟩]
      · rw [if_neg c, if_neg (fun e => c e.2)])
    have d1 : dkL W1 J1 ((List.range (k + 1)).map (fIn P p w)) := by rw [rg_s]; exact d1
    obtain ⟨W, J, f, e, d⟩ := ih (k + 1) K W1 J1 (by omega) (by omega) (ds_f (frSc_d (frEd_k f1)) hA) d1
    refine ⟨W, J, frDk_t f1 f, ?_, d⟩
    rw [show K + 1 - (m + 1) = K - m by omega]
    apply hd_458_17
    exact ev_b (rdI hA.1) (ev_f (nI_ge (by omega) (by omega)) (ev_t (fun e => by have := (nI_eq (by omega) (by omega)).mp e; omega) (e1.trans e)))
set_option maxRecDepth 100000 in
set_option maxHeartbeats 4000000 in
theorem l458c {L : Nat → Nat → Int64} {R : Nat → Nat → Option Nat} {tl : am_H} {N p w : Nat} {P Q : xI} (hc : okI P) (hl : P.length ≤ 60) (hQ : Q.length ≤ 100) : ∀ (m k K : Nat) (V : Nat → Nat → Value) (I : Nat → Nat → Int32), k + m = P.length → p < k → m < K → dsA V I P → dkL V I (Q ++ sg P p k) → ∃ W J, fg_458_17 N K (.ref 174) (nI p) (nI w) (nI (insL w).length) (nI k) (fx V I L R ++ tl) = some (.inl (none, fx W J L R ++ tl)) ∧ dkL W J (Q ++ P.drop p) ∧ frDk V W I J := by
  have i2 := ins_l2 w
  intro m
  induction m with
  | zero =>
    intro k K V I hm hk hK hA hd
    obtain ⟨K, rfl⟩ : ∃ k, K = k + 1 := ⟨K - 1, by omega⟩
    rw [Nat.add_zero] at hm
    subst hm
    rw [sg_n] at hd
    refine ⟨V, I, ?_, hd, frDk_r⟩
    apply hd_458_17
    exact ev_b (rdI hA.1) (ev_t (nI_le (Nat.le_refl _) (by omega)) (ev_b (rdI hA.1) (ev_t (fun e => by have := (nI_eq (by omega) (by omega)).mp e; omega) rfl)))
  | succ m ih =>
    intro k K V I hm hk hK hA hd
    obtain ⟨K, rfl⟩ : ∃ k, K = k + 1 := ⟨K - 1, by omega⟩
    have hkl : k < P.length := by omega
    obtain ⟨W1, J1, e1, d1, f1⟩ := t37 (L := L) (R := R) (tl := tl) (N := N) (p := p) (k := k) (n := (insL w).length) (K := K) (w := w) (v := vlu P k) hc hl i2 hkl (by omega) hA hd (by rw [List.length_append, sg_len (by omega)]; omega) (by rw [if_neg (fun e => by omega)])
    have eg : Q ++ sg P p k ++ [(srt P k, vlu P k)] = Q ++ sg P p (k + 1) := by
      rw [List.append_assoc]
      congr 1
      unfold sg
      rw [show k + 1 - p = (k - p) + 1 by omega, List.take_succ, List.getElem?_drop, show p + (k - p) = k by omega, srt_at hkl]
      rfl
    rw [eg] at d1
    obtain ⟨W, J, e, d, f⟩ := ih (k + 1) K W1 J1 (by omega) (by omega) (by omega) (ds_f (frSc_d (frEd_k f1)) hA) d1
    refine ⟨W, J, ?_, d, frDk_t f1 f⟩
    apply hd_458_17
    exact ev_b (rdI hA.1) (ev_f (nI_ge hkl (by omega)) (ev_t (fun e => by have := (nI_eq (by omega) (by omega)).mp e; omega) (e1.trans e)))
set_option maxRecDepth 100000 in
set_option maxHeartbeats 4000000 in
theorem s458 {V : Nat → Nat → Value} {I : Nat → Nat → Int32} {L : Nat → Nat → Int64} {R : Nat → Nat → Option Nat} {tl : am_H} {N p w kd : Nat} {nt : Int32} {P : xI} (hN : 400 < N) (hc : okI P) (hl : P.length ≤ 60) (hp : p ≤ P.length) (hw : w < 5) (h20 : V 174 20 = .int (nI kd)) (h19 : V 174 19 = .int nt) (hA : dsA V I P) : ∃ W J, fm_458 N (.ref 174) (nI p) (nI w) (fx V I L R ++ tl) = some (.inl (none, fx W J L R ++ tl)) ∧ dkL W J (wIn P p w) ∧ W 174 13 = .int (nI kd) ∧ W 174 15 = .int nt ∧ frEd V W I J := by
  have i2 := ins_l2 w
  obtain ⟨W1, e1, d1, d2, d3, f1⟩ := s451 (I := I) (L := L) (R := R) (tl := tl) h20 h19
  have A1 : dsA W1 I P := ds_f (frSc_d f1) hA
  obtain ⟨W2, J2, f2, e2, d4⟩ := l458a (L := L) (R := R) (tl := tl) (N := N) (w := w) hc hl hp p 0 N W1 I (by omega) (by omega) A1 d1
  have F2 := frEd_t f1 (frEd_k f2)
  have A2 : dsA W2 J2 P := ds_f (frSc_d F2) hA
  obtain ⟨W3, J3, e3, d5, f3⟩ := s459 (L := L) (R := R) (tl := tl) hw d4 (by rw [rg_l]; omega)
  have F3 := frEd_t F2 (frEd_k f3)
  have A3 : dsA W3 J3 P := ds_f (frSc_d F3) hA
  obtain ⟨K, hK⟩ : ∃ k, N - p = k + 1 := ⟨N - p - 1, by omega⟩
  rw [hK] at e2
  have st0 : ∀ o, fg_458_17 N (K + 1) (.ref 174) (nI p) (nI w) (nI (insL w).length) (nI p) (fx W2 J2 L R ++ tl) = o → fm_458 N (.ref 174) (nI p) (nI w) (fx V I L R ++ tl) = o := fun o k_ => by
    apply hm_458
    apply hd_458_0
    by_cases c : w = 0
    · subst c
      refine ev_f (fun e => e rfl) ?_
      apply hd_458_9
      exact ev_i rfl (ev_cV e1 (e2.trans k_))
    · refine ev_t (fun e => c ((nI_eq (b := 0) (by omega) (by decide)).mp e)) ?_
      apply hd_458_9
      have l2 : (insL w).length = 2 := by rw [ins_l, if_neg c]
      rw [l2] at e2 k_
      exact ev_i rfl (ev_cV e1 (e2.trans k_))
  by_cases c : p = P.length
  · refine ⟨W3, J3, st0 _ ?_, ?_, (f3.1 174 13 (by decide)).trans ((f2.1 174 13 (by decide)).trans d2), (f3.1 174 15 (by decide)).trans ((f2.1 174 15 (by decide)).trans d3), F3⟩
    · apply hd_458_17
      exact ev_b (rdI A2.1) (ev_t (nI_le (by omega) (by omega)) (ev_b (rdI A2.1) (ev_f (fun e => e (by rw [c])) (ev_i rfl (ev_cV e3 rfl)))))
    · have : wIn P p w = (List.range p).map (fIn P p w) ++ insL w := by
        unfold wIn
        rw [c, List.drop_length, List.append_nil]
        rfl
      rw [this]
      exact d5
  · have lq : ((List.range p).map (fIn P p w) ++ insL w).length ≤ 100 := by rw [List.length_append, rg_l]; omega
    obtain ⟨W4, J4, e4, d6, f4⟩ := t37 (L := L) (R := R) (tl := tl) (N := N) (p := p) (k := p) (n := (insL w).length) (K := K) (w := w) (v := vlu P p) hc hl i2 (by omega) hp A3 d5 (by omega) (by rw [if_neg (fun e => by omega)])
    have F4 := frEd_t F3 (frEd_k f4)
    have A4 : dsA W4 J4 P := ds_f (frSc_d F4) hA
    have eg : [(srt P p, vlu P p)] = sg P p (p + 1) := by
      unfold sg
      rw [show p + 1 - p = 0 + 1 by omega, List.take_succ, List.getElem?_drop, Nat.add_zero, srt_at (by omega)]
      rfl
    rw [eg] at d6
    obtain ⟨W5, J5, e5, d7, f5⟩ := l458c (L := L) (R := R) (tl := tl) (N := N) (p := p) (w := w) (P := P) hc hl lq (P.length - (p + 1)) (p + 1) K W4 J4 (by omega) (by omega) (by omega) A4 d6
    refine ⟨W5, J5, st0 _ ?_, ?_, ?_, ?_, frEd_t F4 (frEd_k f5)⟩
    · apply hd_458_17
      exact ev_b (rdI A2.1) (ev_f (nI_ge (by omega) (by omega)) (ev_f (fun e => e rfl) (ev_i rfl (ev_cV e3 (e4.trans e5)))))
    · have : wIn P p w = ((List.range p).map (fIn P p w) ++ insL w) ++ P.drop p := by
        unfold wIn
        rw [List.append_assoc]
        rfl
      rw [this]
      exact d7
    · exact (f5.1 174 13 (by decide)).trans ((f4.1 174 13 (by decide)).trans ((f3.1 174 13 (by decide)).trans ((f2.1 174 13 (by decide)).trans d2)))
    · exact (f5.1 174 15 (by decide)).trans ((f4.1 174 15 (by decide)).trans ((f3.1 174 15 (by decide)).trans ((f2.1 174 15 (by decide)).trans d3)))
theorem ins_ok : ∀ w, w < 5 → ∀ j, j < (insL w).length → srt (insL w) j = nI (sN (srt (insL w) j)) ∧ sN (srt (insL w) j) ≤ 16 := by decide
theorem wIn_l {P : xI} {p w : Nat} (h : p ≤ P.length) : (wIn P p w).length = P.length + (insL w).length := by
  unfold wIn
  rw [List.length_append, List.length_map, List.length_range, List.length_append, List.length_drop]
  omega
theorem wIn_f {P : xI} {p w : Nat} (hc : okI P) (hj : ∀ k, k < P.length → 17 ≤ sN (srt P k) → sN (vlu P k) ≤ 100) (hl : P.length ≤ 60) (h : p ≤ P.length) (hw : w < 5) : frm 1 (wIn P p w) := by
  have l := wIn_l (w := w) h
  have i2 := ins_l2 w
  refine ⟨by omega, by omega, fun e => absurd e (by decide), fun _ => ⟨fun j hj2 => ?_, by omega⟩⟩
  rw [l] at hj2
  unfold wIn
  by_cases c : j < p
  · rw [(srt_l (by rw [rg_l]; exact c)).1, (srt_l (by rw [rg_l]; exact c)).2, (srt_m c).1, (srt_m c).2]
    dsimp only
    obtain ⟨o1, o2, o3⟩ := hc j (by omega)
    refine ⟨o1, o2, fun h17 => ?_⟩
    obtain ⟨w1, w2⟩ := o3 h17
    by_cases c2 : 16 < sN (srt P j) ∧ p < jmp P j
    · rw [if_pos c2]
      have e : vlu P j + nI (insL w).length = nI (sN (vlu P j) + (insL w).length) := (congrArg (fun z => z + nI (insL w).length) w1).trans (nI_add _ _)
      have := hj j (by omega) h17
      rw [e, sN_n (by omega)]
      exact ⟨rfl, by omega⟩
    · rw [if_neg c2]
      exact ⟨w1, w2⟩
  · rw [(srt_r (by rw [rg_l]; omega)).1, (srt_r (by rw [rg_l]; omega)).2, rg_l]
    by_cases c2 : j - p < (insL w).length
    · rw [(srt_l c2).1, (srt_l c2).2]
      obtain ⟨a, b⟩ := ins_ok w hw (j - p) c2
      exact ⟨a, by omega, fun h17 => absurd h17 (by omega)⟩
    · rw [(srt_r (by omega)).1, (srt_r (by omega)).2, srt_d.1, srt_d.2]
      exact hc _ (by omega)
set_option maxRecDepth 100000 in
set_option maxHeartbeats 4000000 in
theorem r_457 {V : Nat → Nat → Value} {I : Nat → Nat → Int32} {L : Nat → Nat → Int64} {R : Nat → Nat → Option Nat} {tl : am_H} {V0 : Nat → Nat → Value} {I0 : Nat → Nat → Int32} {cd : Nat → Option xI} {so nt : Int32} {N : Nat} {P : xI} (hN : 400 < N) (hx : ctxR V0 I0 1 nt so P) (hc : okI P) (hj : ∀ k, k < P.length → 17 ≤ sN (srt P k) → sN (vlu P k) ≤ 100) (hcd : ∀ c, cd c = cd13 P c) (h : scS V0 I0 cd so 0 V I) : ∃ W J, fm_457 N (.ref 174) (fx V I L R ++ tl) = some (.inl (none, fx W J L R ++ tl)) ∧ outS V0 I0 cd so (5 * (P.length + 1)) 1 nt W J := by
  have l60 := hx.2.2.2.2
  have d18 : ∀ (V : Nat → Nat → Value) (I : Nat → Nat → Int32), frSc V0 V I0 I → V 174 18 = .int (nI P.length) := fun V I f => (ct_f hx f).2.2.1.1
  have main := inn (L := L) (R := R) (tl := tl) (V0 := V0) (I0 := I0) (cd := cd) (so := so) (nt := nt) (kd := 1) (b := 0) (S := P.length + 1) (st := 5) (E := fun K k h => fg_457_2 N K (.ref 174) (nI k) h) (G := fun h => some (.inl (none, h))) (fun K k V I hk f hc => by
      show fg_457_2 N (K + 1) (.ref 174) (nI k) _ = _
      apply hd_457_2
      by_cases c : P.length < k
      · exact ev_b (rdI (d18 V I f)) (ev_t ((nI_ltI (by omega) (by omega)).mpr c) rfl)
      · rcases hc with hc | hc
        · omega
        · exact ev_b (rdI (d18 V I f)) (ev_f (nI_nlt (by omega) (by omega)) (ev_b (rdI hc) (ev_t (by decide) rfl)))
      ) (fun K k V I hk h => by
      rw [Nat.zero_add] at h
      show ∃ W J, fg_457_2 N (K + 1) (.ref 174) (nI k) (fx V I L R ++ tl) = fg_457_2 N K (.ref 174) (nI (k + 1)) (fx W J L R ++ tl) ∧ outS V0 I0 cd so (0 + 5 * (k + 1)) 1 nt W J
      rw [Nat.zero_add]
      have ik := inn (L := L) (R := R) (tl := tl) (V0 := V0) (I0 := I0) (cd := cd) (so := so) (nt := nt) (kd := 1) (b := 5 * k) (S := 5) (st := 1) (E := fun K' s h => fg_457_19 N (fg_457_2 N K) K' (.ref 174) (nI k) (nI s) h) (G := fun h => fg_457_2 N K (.ref 174) (nI (k + 1)) h) (fun K' s V I hs f hc => by
          show fg_457_19 N (fg_457_2 N K) (K' + 1) (.ref 174) (nI k) (nI s) _ = fg_457_2 N K (.ref 174) (nI (k + 1)) _
          have nx : fg_457_51 N (fg_457_2 N K) (.ref 174) (nI k) (fx V I L R ++ tl) = fg_457_2 N K (.ref 174) (nI (k + 1)) (fx V I L R ++ tl) := by
            apply hd_457_51
            rw [nI_1]
          apply hd_457_19
          by_cases c : 5 ≤ s
          · exact ev_t (nI_le (a := 5) c (by omega)) nx
          · rcases hc with hc | hc
            · omega
            · exact ev_f (nI_ge (b := 5) (by omega) (by decide)) (ev_b (rdI hc) (ev_t (by decide) nx))
          ) (fun K' s V I hs h => by
          rw [Nat.one_mul] at h
          rw [Nat.one_mul]
          show ∃ W J, fg_457_19 N (fg_457_2 N K) (K' + 1) (.ref 174) (nI k) (nI s) (fx V I L R ++ tl) = fg_457_19 N (fg_457_2 N K) K' (.ref 174) (nI k) (nI (s + 1)) (fx W J L R ++ tl) ∧ outS V0 I0 cd so (5 * k + (s + 1)) 1 nt W J
          have c0 := ct_f hx h.1
          have ecd : cd (5 * k + s) = gS2 1 (wIn P k s) := by
            rw [hcd]
            unfold cd13
            rw [show (5 * k + s) / 5 = k by omega, show (5 * k + s) % 5 = s by omega]
          obtain ⟨W1, J1, e1, x1, x2, x3, f1⟩ := s458 (V := V) (I := I) (L := L) (R := R) (tl := tl) (p := k) (w := s) hN hc l60 (by omega) hs c0.1 c0.2.1 c0.2.2.1
          obtain ⟨W, J, bb, e, g3, g4⟩ := stepC (L := L) (R := R) (tl := tl) hN h f1 x1 x2 x3 (wIn_f hc hj l60 (by omega) hs) ecd (by omega) hx.2.2.2.1
          refine ⟨W, J, ?_, outS_b g3 g4⟩
          apply hd_457_19
          refine ev_f (nI_ge (b := 5) hs (by decide)) (ev_b (rdI h.2.2.1) (ev_f (fun e => e rfl) (ev_i rfl (ev_cV e1 (ev_i rfl (ev_cI e (ev_b (qp_174_95 (by cases bb <;> rfl)) ?_)))))))
          rw [sc_95 g3 g4, nI_1]
          ) (5) 0 N V I (by omega) (by omega) (by rw [Nat.mul_zero, Nat.add_zero]; exact h)
      obtain ⟨W, J, e, o⟩ := ik
      refine ⟨W, J, ?_, ?_⟩
      · apply hd_457_2
        exact ev_b (rdI (d18 V I h.1)) (ev_f (nI_nlt (by omega) (by omega)) (ev_b (rdI h.2.2.1) (ev_f (fun e => e rfl) e)))
      · rw [show 5 * (k + 1) = 5 * k + 1 * 5 by omega]
        exact o
      ) (P.length + 1) 0 N V I (by omega) (by omega) (by rw [Nat.mul_zero]; exact h)
  obtain ⟨W, J, e, o⟩ := main
  refine ⟨W, J, ?_, by rw [Nat.zero_add] at o; exact o⟩
  apply hm_457
  apply hd_457_0
  exact e
