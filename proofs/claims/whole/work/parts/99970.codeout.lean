/-! ===== edits: code without instructions, in the reference ===== -/
theorem hd_455_70 {N : Nat} {h : am_H} {r_ : Option am_O} (k_ : some (.inl (none, h)) = r_) : fg_455_70 N h = r_ := k_
theorem hd_455_64 {N : Nat} {rec_2 : Value → Int32 → am_H → Option am_O} {x0 : Value} {x1 : Int32} {h : am_H} {r_ : Option am_O} (k_ : (rec_2 x0 ((x1 + 1)) h) = r_) : fg_455_64 N rec_2 x0 x1 h = r_ := k_
theorem hd_455_58 {N : Nat} {rec_2 : Value → Int32 → am_H → Option am_O} {rec_19 : Value → Int32 → Int32 → am_H → Option am_O} {x0 : Value} {x1 : Int32} {x2 : Int32} {h : am_H} {r_ : Option am_O} (k_ : (rec_19 x0 x1 ((x2 + 1)) h) = r_) : fg_455_58 N rec_2 rec_19 x0 x1 x2 h = r_ := k_
theorem hd_455_19 {N : Nat} {rec_2 : Value → Int32 → am_H → Option am_O} {K : Nat} {x0 : Value} {x1 : Int32} {x2 : Int32} {h : am_H} {r_ : Option am_O} (k_ : (if 4 ≤ x2 then (fg_455_64 N rec_2 x0 x1 h) else ((am_vI (am_pG 3167 x0 h)).bind fun v2 => (if ¬ v2 = 0 then (fg_455_64 N rec_2 x0 x1 h) else ((am_vI (am_pG 3090 x0 h)).bind fun v5 => (if v5 < (x1 + x2) then (fg_455_58 N rec_2 (fg_455_19 N rec_2 K) x0 x1 x2 h) else (if am_pOk 12 x0 h then am_cI true (fm_456 N x0 x1 x2 h) (fun v9 h10 => (if v9 = 0 then (fg_455_58 N rec_2 (fg_455_19 N rec_2 K) x0 x1 x2 h10) else (if am_pOk 12 x0 h10 then am_cI true (fm_444 N x0 h10) (fun v14 h15 => ((am_pP 3167 x0 (.int v14) h15).bind fun h17 => (fg_455_58 N rec_2 (fg_455_19 N rec_2 K) x0 x1 x2 h17))) else none))) else none)))))) = r_) : fg_455_19 N rec_2 (K + 1) x0 x1 x2 h = r_ := by rw [fg_455_19]; exact k_
theorem hd_455_2 {N : Nat} {K : Nat} {x0 : Value} {x1 : Int32} {h : am_H} {r_ : Option am_O} (k_ : ((am_vI (am_pG 3090 x0 h)).bind fun v1 => (if v1 ≤ x1 then (fg_455_70 N h) else ((am_vI (am_pG 3167 x0 h)).bind fun v4 => (if ¬ v4 = 0 then (fg_455_70 N h) else (fg_455_19 N (fg_455_2 N K) N x0 x1 1 h))))) = r_) : fg_455_2 N (K + 1) x0 x1 h = r_ := by rw [fg_455_2]; exact k_
theorem hd_455_0 {N : Nat} {x0 : Value} {h : am_H} {r_ : Option am_O} (k_ : (fg_455_2 N N x0 0 h) = r_) : fg_455_0 N x0 h = r_ := k_
theorem hm_455 {N : Nat} {y0 : Value} {h : am_H} {r_ : Option am_O} (k_ : fg_455_0 N y0 h = r_) : fm_455 N y0 h = r_ := k_
theorem hd_456_108 {N : Nat} {rec_6 : Value → Int32 → Int32 → Int32 → am_H → Option am_O} {x0 : Value} {x1 : Int32} {x2 : Int32} {x3 : Int32} {h : am_H} {r_ : Option am_O} (k_ : (rec_6 x0 x1 x2 ((x3 + 1)) h) = r_) : fg_456_108 N rec_6 x0 x1 x2 x3 h = r_ := k_
theorem hd_456_96 {N : Nat} {rec_6 : Value → Int32 → Int32 → Int32 → am_H → Option am_O} {x0 : Value} {x1 : Int32} {x2 : Int32} {x3 : Int32} {x4 : Int32} {h : am_H} {r_ : Option am_O} (k_ : ((am_vR (am_pG 3093 x0 h)).bind fun v1 => ((am_pA 0 v1 x3 h).bind fun v3 => (if am_pOk 12 x0 h then am_cV true (fm_335 x0 v3 x4 h) (fun h7 => (fg_456_108 N rec_6 x0 x1 x2 x3 h7)) else none))) = r_) : fg_456_96 N rec_6 x0 x1 x2 x3 x4 h = r_ := k_
theorem hd_456_94 {N : Nat} {rec_6 : Value → Int32 → Int32 → Int32 → am_H → Option am_O} {x0 : Value} {x1 : Int32} {x2 : Int32} {x3 : Int32} {s0 : Int32} {h : am_H} {r_ : Option am_O} (k_ : (fg_456_96 N rec_6 x0 x1 x2 x3 s0 h) = r_) : fg_456_94 N rec_6 x0 x1 x2 x3 s0 h = r_ := k_
theorem hd_456_77 {N : Nat} {rec_6 : Value → Int32 → Int32 → Int32 → am_H → Option am_O} {x0 : Value} {x1 : Int32} {x2 : Int32} {x3 : Int32} {x4 : Int32} {x5 : Int32} {h : am_H} {r_ : Option am_O} (k_ : (if x5 < (x1 + x2) then (fg_456_94 N rec_6 x0 x1 x2 x3 x4 h) else (fg_456_94 N rec_6 x0 x1 x2 x3 ((x4 - x2)) h)) = r_) : fg_456_77 N rec_6 x0 x1 x2 x3 x4 x5 h = r_ := k_
theorem hd_456_29 {N : Nat} {rec_6 : Value → Int32 → Int32 → Int32 → am_H → Option am_O} {x0 : Value} {x1 : Int32} {x2 : Int32} {x3 : Int32} {h : am_H} {r_ : Option am_O} (k_ : ((am_vR (am_pG 3094 x0 h)).bind fun v1 => ((am_pA 0 v1 x3 h).bind fun v3 => ((am_vR (am_pG 3093 x0 h)).bind fun v5 => ((am_pA 0 v5 x3 h).bind fun v7 => (if v7 ≤ 16 then (fg_456_96 N rec_6 x0 x1 x2 x3 v3 h) else (if x1 ≤ x3 then (fg_456_96 N rec_6 x0 x1 x2 x3 v3 h) else (if ((x3 + 1) + v3) ≤ x1 then (fg_456_77 N rec_6 x0 x1 x2 x3 v3 (((x3 + 1) + v3)) h) else (if (x1 + x2) ≤ ((x3 + 1) + v3) then (fg_456_77 N rec_6 x0 x1 x2 x3 v3 (((x3 + 1) + v3)) h) else some (.inl (some (.int 0), h)))))))))) = r_) : fg_456_29 N rec_6 x0 x1 x2 x3 h = r_ := k_
theorem hd_456_6 {N : Nat} {K : Nat} {x0 : Value} {x1 : Int32} {x2 : Int32} {x3 : Int32} {h : am_H} {r_ : Option am_O} (k_ : ((am_vI (am_pG 3090 x0 h)).bind fun v1 => (if v1 ≤ x3 then some (.inl (some (.int 1), h)) else (if x3 < x1 then (fg_456_29 N (fg_456_6 N K) x0 x1 x2 x3 h) else (if (x1 + x2) ≤ x3 then (fg_456_29 N (fg_456_6 N K) x0 x1 x2 x3 h) else (fg_456_108 N (fg_456_6 N K) x0 x1 x2 x3 h))))) = r_) : fg_456_6 N (K + 1) x0 x1 x2 x3 h = r_ := by rw [fg_456_6]; exact k_
theorem hd_456_0 {N : Nat} {x0 : Value} {x1 : Int32} {x2 : Int32} {h : am_H} {r_ : Option am_O} (k_ : (if am_pOk 12 x0 h then am_cV true (fm_451 x0 h) (fun h3 => (fg_456_6 N N x0 x1 x2 0 h3)) else none) = r_) : fg_456_0 N x0 x1 x2 h = r_ := k_
theorem hm_456 {N : Nat} {y0 : Value} {y1 : Int32} {y2 : Int32} {h : am_H} {r_ : Option am_O} (k_ : fg_456_0 N y0 y1 y2 h = r_) : fm_456 N y0 y1 y2 h = r_ := k_
theorem scS_f {V0 : Nat → Nat → Value} {I0 : Nat → Nat → Int32} {cd : Nat → Option xI} {so nt : Int32} {V W : Nat → Nat → Value} {I J : Nat → Nat → Int32} {c : Nat} (h : scS V0 I0 cd so c V I) (f : frEd V W I J) : scS V0 I0 cd so c W J := ⟨frSc_t h.1 (frSc_d f), (f.1 174 94 (by decide)).trans h.2.1, (f.1 174 95 (by decide)).trans h.2.2.1, h.2.2.2⟩
theorem srt_l {A B : xI} {k : Nat} (h : k < A.length) : srt (A ++ B) k = srt A k ∧ vlu (A ++ B) k = vlu A k := by
  unfold srt vlu
  rw [List.getD_eq_getElem?_getD, List.getD_eq_getElem?_getD, List.getElem?_append_left h]
  exact ⟨rfl, rfl⟩
theorem srt_r {A B : xI} {k : Nat} (h : A.length ≤ k) : srt (A ++ B) k = srt B (k - A.length) ∧ vlu (A ++ B) k = vlu B (k - A.length) := by
  unfold srt vlu
  rw [List.getD_eq_getElem?_getD, List.getD_eq_getElem?_getD, List.getElem?_append_right h]
  exact ⟨rfl, rfl⟩
theorem srt_d {P : xI} {p k : Nat} : srt (P.drop p) k = srt P (p + k) ∧ vlu (P.drop p) k = vlu P (p + k) := by
  unfold srt vlu
  rw [List.getD_eq_getElem?_getD, List.getD_eq_getElem?_getD, List.getElem?_drop]
  exact ⟨rfl, rfl⟩
theorem srt_m {f : Nat → Int32 × Int32} {p k : Nat} (h : k < p) : srt ((List.range p).map f) k = (f k).1 ∧ vlu ((List.range p).map f) k = (f k).2 := by
  unfold srt vlu
  rw [List.getD_eq_getElem?_getD, List.getElem?_map, List.getElem?_range h]
  exact ⟨rfl, rfl⟩
theorem rg_s {f : Nat → Int32 × Int32} {k : Nat} : (List.range (k + 1)).map f = (List.range k).map f ++ [f k] := by rw [List.range_succ, List.map_append]; rfl
theorem rg_l {f : Nat → Int32 × Int32} {k : Nat} : ((List.range k).map f).length = k := by rw [List.length_map, List.length_range]
def fOut (P : xI) (p n k : Nat) : Int32 × Int32 := (srt P k, if 16 < sN (srt P k) ∧ p < jmp P k then vlu P k - nI n else vlu P k)
def badO (P : xI) (p n k : Nat) : Prop := 16 < sN (srt P k) ∧ p < jmp P k ∧ jmp P k < p + n
theorem wBad_i {P : xI} {p n : Nat} : ∀ k, wBad P p n k = false ↔ ∀ j, j < k → ¬ badO P p n j := by
  intro k
  induction k with
  | zero => exact ⟨fun _ j hj => absurd hj (by omega), fun _ => rfl⟩
  | succ k ih =>
    rw [wBad, Bool.or_eq_false_iff, ih, decide_eq_false_iff_not]
    refine ⟨fun h j hj => ?_, fun h => ⟨fun j hj => h j (by omega), h k (by omega)⟩⟩
    by_cases c : j = k
    · rw [c]; exact h.2
    · exact h.1 j (by omega)
/-! up to the place -/
set_option maxRecDepth 100000 in
set_option maxHeartbeats 4000000 in
theorem l456a {L : Nat → Nat → Int64} {R : Nat → Nat → Option Nat} {tl : am_H} {N p n : Nat} {P : xI} (hc : okI P) (hl : P.length ≤ 60) (hp : p + n ≤ P.length) (hn : 1 ≤ n ∧ n ≤ 3) : ∀ (m k K : Nat) (V : Nat → Nat → Value) (I : Nat → Nat → Int32), k + m = p → m < K → dsA V I P → dkL V I ((List.range k).map (fOut P p n)) → ∃ W J, frDk V W I J ∧ (((∃ j, k ≤ j ∧ j < p ∧ badO P p n j) ∧ fg_456_6 N K (.ref 174) (nI p) (nI n) (nI k) (fx V I L R ++ tl) = some (.inl (some (.int 0), fx W J L R ++ tl))) ∨ ((∀ j, k ≤ j → j < p → ¬ badO P p n j) ∧ fg_456_6 N K (.ref 174) (nI p) (nI n) (nI k) (fx V I L R ++ tl) = fg_456_6 N (K - m) (.ref 174) (nI p) (nI n) (nI p) (fx W J L R ++ tl) ∧ dkL W J ((List.range p).map (fOut P p n)))) := by
  intro m
  induction m with
  | zero =>
    intro k K V I hm hK hA hd
    rw [Nat.add_zero] at hm
    subst hm
    exact ⟨V, I, frDk_r, .inr ⟨fun j a b => absurd b (by omega), rfl, hd⟩⟩
  | succ m ih =>
    intro k K V I hm hK hA hd
    obtain ⟨K, rfl⟩ : ∃ k, K = k + 1 := ⟨K - 1, by omega⟩
    have hk : k < P.length := by omega
    obtain ⟨es, ev⟩ := ds_at hA hk
    obtain ⟨o1, o2, o3⟩ := hc k hk
    have rs : am_pA 0 (.ref 188) (nI k) (fx V I L R ++ tl) = some (srt P k) := (qa_188 (by omega)).trans (congrArg some es)
    have rv : am_pA 0 (.ref 189) (nI k) (fx V I L R ++ tl) = some (vlu P k) := (qa_189 (by omega)).trans (congrArg some ev)
    have st0 : ∀ o, fg_456_29 N (fg_456_6 N K) (.ref 174) (nI p) (nI n) (nI k) (fx V I L R ++ tl) = o → fg_456_6 N (K + 1) (.ref 174) (nI p) (nI n) (nI k) (fx V I L R ++ tl) = o := fun o k_ => by
      apply hd_456_6
      exact ev_b (rdI hA.1) (ev_f (nI_ge hk (by omega)) (ev_t ((nI_ltI (by omega) (by omega)).mpr (by omega)) k_))
    have lay : ∀ v : Int32, fOut P p n k = (srt P k, v) → ¬ badO P p n k → (∀ o, fg_456_96 N (fg_456_6 N K) (.ref 174) (nI p) (nI n) (nI k) v (fx V I L R ++ tl) = o → fg_456_6 N (K + 1) (.ref 174) (nI p) (nI n) (nI k) (fx V I L R ++ tl) = o) → ∃ W J, frDk V W I J ∧ (((∃ j, k ≤ j ∧ j < p ∧ badO P p n j) ∧ fg_456_6 N (K + 1) (.ref 174) (nI p) (nI n) (nI k) (fx V I L R ++ tl) = some (.inl (some (.int 0), fx W J L R ++ tl))) ∨ ((∀ j, k ≤ j → j < p → ¬ badO P p n j) ∧ fg_456_6 N (K + 1) (.ref 174) (nI p) (nI n) (nI k) (fx V I L R ++ tl) = fg_456_6 N (K + 1 - (m + 1)) (.ref 174) (nI p) (nI n) (nI p) (fx W J L R ++ tl) ∧ dkL W J ((List.range p).map (fOut P p n)))) := fun v hv nb st1 => by
      obtain ⟨W1, J1, e1, d1, f1⟩ := s335 (L := L) (R := R) (tl := tl) (srt P k) v hd (by rw [rg_l]; omega)
      rw [← hv, ← rg_s] at d1
      obtain ⟨W, J, f, h⟩ := ih (k + 1) K W1 J1 (by omega) (by omega) (ds_f (frSc_d (frEd_k f1)) hA) d1
      have st2 : ∀ o, fg_456_6 N K (.ref 174) (nI p) (nI n) (nI (k + 1)) (fx W1 J1 L R ++ tl) = o → fg_456_6 N (K + 1) (.ref 174) (nI p) (nI n) (nI k) (fx V I L R ++ tl) = o := fun o k_ => by
        refine st1 o ?_
        apply hd_456_96
        refine ev_b (rdR rfl) (ev_b rs (ev_i rfl (ev_cV e1 ?_)))
        apply hd_456_108
        rw [nI_1]
        exact k_
      refine ⟨W, J, frDk_t f1 f, ?_⟩
      rcases h with ⟨⟨j, a, b, c⟩, e⟩ | ⟨a, e, d⟩
      · exact .inl ⟨⟨j, by omega, b, c⟩, st2 _ e⟩
      · refine .inr ⟨fun j h1 h2 => ?_, st2 _ (by rw [show K + 1 - (m + 1) = K - m by omega]; exact e), d⟩
        by_cases c : j = k
        · rw [c]; exact nb
        · exact a j (by omega) h2
    by_cases c1 : 16 < sN (srt P k)
    case neg =>
      refine lay (vlu P k) (by unfold fOut; rw [if_neg (fun e => c1 e.1)]) (fun e => c1 e.1) (fun o k_ => st0 o ?_)
      apply hd_456_29
      exact ev_b (rdR rfl) (ev_b rv (ev_b (rdR rfl) (ev_b rs (ev_t (by rw [o1]; exact nI_le (b := 16) (by omega) (by decide)) k_))))
    obtain ⟨w1, w2⟩ := o3 (by omega)
    have ej : jmp P k = k + 1 + sN (vlu P k) := rfl
    have sj : nI k + 1 + vlu P k = nI (jmp P k) := by rw [ej, nI_1]; exact (congrArg (fun z => nI (k + 1) + z) w1).trans (nI_add _ _)
    have p29 : ∀ o, (if ((nI k + 1) + vlu P k) ≤ nI p then (fg_456_77 N (fg_456_6 N K) (.ref 174) (nI p) (nI n) (nI k) (vlu P k) (((nI k + 1) + vlu P k)) (fx V I L R ++ tl)) else (if (nI p + nI n) ≤ ((nI k + 1) + vlu P k) then (fg_456_77 N (fg_456_6 N K) (.ref 174) (nI p) (nI n) (nI k) (vlu P k) (((nI k + 1) + vlu P k)) (fx V I L R ++ tl)) else some (.inl (some (.int 0), fx V I L R ++ tl)))) = o → fg_456_6 N (K + 1) (.ref 174) (nI p) (nI n) (nI k) (fx V I L R ++ tl) = o := fun o k_ => by
      refine st0 o ?_
      apply hd_456_29
      exact ev_b (rdR rfl) (ev_b rv (ev_b (rdR rfl) (ev_b rs (ev_f (by rw [o1]; exact nI_ge (a := 16) c1 (by omega)) (ev_f (nI_ge (by omega) (by omega)) k_)))))
    rw [sj] at p29
    have spn : nI p + nI n = nI (p + n) := nI_add p n
    rw [spn] at p29
    by_cases c2 : p < jmp P k
    case neg =>
      refine lay (vlu P k) (by unfold fOut; rw [if_neg (fun e => c2 e.2)]) (fun e => c2 e.2.1) (fun o k_ => p29 o (ev_t (nI_le (by omega) (by omega)) ?_))
      apply hd_456_77
      rw [spn]
      refine ev_t ((nI_ltI (by omega) (by omega)).mpr (by omega)) ?_
      apply hd_456_94
      exact k_
    by_cases c3 : p + n ≤ jmp P k
    · refine lay (vlu P k - nI n) (by unfold fOut; rw [if_pos ⟨c1, c2⟩]) (fun e => by have := e.2.2; omega) (fun o k_ => p29 o (ev_f (nI_ge c2 (by omega)) (ev_t (nI_le c3 (by omega)) ?_)))
      apply hd_456_77
      rw [spn]
      refine ev_f (nI_nlt c3 (by omega)) ?_
      apply hd_456_94
      exact k_
    · exact ⟨V, I, frDk_r, .inl ⟨⟨k, Nat.le_refl _, by omega, c1, c2, by omega⟩, p29 _ (ev_f (nI_ge c2 (by omega)) (ev_f (nI_ge (by omega) (by omega)) rfl))⟩⟩
/-! over what is left out -/
set_option maxRecDepth 100000 in
set_option maxHeartbeats 4000000 in
theorem l456b {V : Nat → Nat → Value} {I : Nat → Nat → Int32} {L : Nat → Nat → Int64} {R : Nat → Nat → Option Nat} {tl : am_H} {N p n : Nat} {P : xI} (hl : P.length ≤ 60) (hp : p + n ≤ P.length) (hA : dsA V I P) : ∀ (m k K : Nat), k + m = p + n → p ≤ k → m < K → fg_456_6 N K (.ref 174) (nI p) (nI n) (nI k) (fx V I L R ++ tl) = fg_456_6 N (K - m) (.ref 174) (nI p) (nI n) (nI (p + n)) (fx V I L R ++ tl) := by
  intro m
  induction m with
  | zero => intro k K hm hk hK; rw [Nat.add_zero] at hm; rw [hm]; rfl
  | succ m ih =>
    intro k K hm hk hK
    obtain ⟨K, rfl⟩ : ∃ k, K = k + 1 := ⟨K - 1, by omega⟩
    apply hd_456_6
    refine ev_b (rdI hA.1) (ev_f (nI_ge (by omega) (by omega)) (ev_f (nI_nlt hk (by omega)) ?_))
    rw [show nI p + nI n = nI (p + n) from nI_add p n]
    refine ev_f (nI_ge (by omega) (by omega)) ?_
    apply hd_456_108
    rw [nI_1, show K + 1 - (m + 1) = K - m by omega]
    exact ih (k + 1) K (by omega) (by omega) (by omega)
set_option maxRecDepth 100000 in
set_option maxHeartbeats 4000000 in
theorem l456c {L : Nat → Nat → Int64} {R : Nat → Nat → Option Nat} {tl : am_H} {N p n : Nat} {P Q : xI} (hc : okI P) (hl : P.length ≤ 60) (hp : p + n ≤ P.length) (hQ : Q.length ≤ 60) : ∀ (m k K : Nat) (V : Nat → Nat → Value) (I : Nat → Nat → Int32), k + m = P.length → p + n ≤ k → m < K → dsA V I P → dkL V I (Q ++ sg P (p + n) k) → ∃ W J, fg_456_6 N K (.ref 174) (nI p) (nI n) (nI k) (fx V I L R ++ tl) = some (.inl (some (.int 1), fx W J L R ++ tl)) ∧ dkL W J (Q ++ P.drop (p + n)) ∧ frDk V W I J := by
  intro m
  induction m with
  | zero =>
    intro k K V I hm hk hK hA hd
    obtain ⟨K, rfl⟩ : ∃ k, K = k + 1 := ⟨K - 1, by omega⟩
    rw [Nat.add_zero] at hm
    subst hm
    rw [sg_n] at hd
    refine ⟨V, I, ?_, hd, frDk_r⟩
    apply hd_456_6
    exact ev_b (rdI hA.1) (ev_t (nI_le (Nat.le_refl _) (by omega)) rfl)
  | succ m ih =>
    intro k K V I hm hk hK hA hd
    obtain ⟨K, rfl⟩ : ∃ k, K = k + 1 := ⟨K - 1, by omega⟩
    have hkl : k < P.length := by omega
    obtain ⟨es, ev⟩ := ds_at hA hkl
    obtain ⟨o1, o2, o3⟩ := hc k hkl
    have rs : am_pA 0 (.ref 188) (nI k) (fx V I L R ++ tl) = some (srt P k) := (qa_188 (by omega)).trans (congrArg some es)
    have rv : am_pA 0 (.ref 189) (nI k) (fx V I L R ++ tl) = some (vlu P k) := (qa_189 (by omega)).trans (congrArg some ev)
    obtain ⟨W1, J1, e1, d1, f1⟩ := s335 (L := L) (R := R) (tl := tl) (srt P k) (vlu P k) hd (by rw [List.length_append, sg_len (by omega)]; omega)
    have eg : Q ++ sg P (p + n) k ++ [(srt P k, vlu P k)] = Q ++ sg P (p + n) (k + 1) := by
      rw [List.append_assoc]
      congr 1
      unfold sg
      rw [show k + 1 - (p + n) = (k - (p + n)) + 1 by omega, List.take_succ, List.getElem?_drop, show p + n + (k - (p + n)) = k by omega, srt_at hkl]
      rfl
    rw [eg] at d1
    obtain ⟨W, J, e, d, f⟩ := ih (k + 1) K W1 J1 (by omega) (by omega) (by omega) (ds_f (frSc_d (frEd_k f1)) hA) d1
    refine ⟨W, J, ?_, d, frDk_t f1 f⟩
    have g96 : fg_456_96 N (fg_456_6 N K) (.ref 174) (nI p) (nI n) (nI k) (vlu P k) (fx V I L R ++ tl) = some (.inl (some (.int 1), fx W J L R ++ tl)) := by
      apply hd_456_96
      refine ev_b (rdR rfl) (ev_b rs (ev_i rfl (ev_cV e1 ?_)))
      apply hd_456_108
      rw [nI_1]
      exact e
    apply hd_456_6
    refine ev_b (rdI hA.1) (ev_f (nI_ge hkl (by omega)) (ev_f (nI_nlt (by omega) (by omega)) ?_))
    rw [show nI p + nI n = nI (p + n) from nI_add p n]
    refine ev_t (nI_le hk (by omega)) ?_
    apply hd_456_29
    refine ev_b (rdR rfl) (ev_b rv (ev_b (rdR rfl) (ev_b rs ?_)))
    by_cases c1 : 16 < sN (srt P k)
    · exact ev_f (by rw [o1]; exact nI_ge (a := 16) c1 (by omega)) (ev_t (nI_le (by omega) (by omega)) g96)
    · exact ev_t (by rw [o1]; exact nI_le (b := 16) (by omega) (by decide)) g96
set_option maxRecDepth 100000 in
set_option maxHeartbeats 4000000 in
theorem s456 {V : Nat → Nat → Value} {I : Nat → Nat → Int32} {L : Nat → Nat → Int64} {R : Nat → Nat → Option Nat} {tl : am_H} {N p n kd : Nat} {nt : Int32} {P : xI} (hN : 400 < N) (hc : okI P) (hl : P.length ≤ 60) (hp : p + n ≤ P.length) (hn : 1 ≤ n ∧ n ≤ 3) (h20 : V 174 20 = .int (nI kd)) (h19 : V 174 19 = .int nt) (hA : dsA V I P) : ∃ W J b, fm_456 N (.ref 174) (nI p) (nI n) (fx V I L R ++ tl) = some (.inl (some (.int (bI b)), fx W J L R ++ tl)) ∧ (b = true ↔ wBad P p n p = false) ∧ (b = true → dkL W J (wOut P p n) ∧ W 174 13 = .int (nI kd) ∧ W 174 15 = .int nt) ∧ frEd V W I J := by
  obtain ⟨W1, e1, d1, d2, d3, f1⟩ := s451 (I := I) (L := L) (R := R) (tl := tl) h20 h19
  have A1 : dsA W1 I P := ds_f (frSc_d f1) hA
  obtain ⟨W2, J2, f2, h⟩ := l456a (L := L) (R := R) (tl := tl) (N := N) hc hl hp hn p 0 N W1 I (by omega) (by omega) A1 d1
  have F2 := frEd_t f1 (frEd_k f2)
  rw [wBad_i]
  rcases h with ⟨⟨j, a, b, c⟩, e⟩ | ⟨a, e, d⟩
  · refine ⟨W2, J2, false, ?_, ⟨fun e => Bool.noConfusion e, fun h => absurd c (h j b)⟩, fun e => Bool.noConfusion e, F2⟩
    apply hm_456
    apply hd_456_0
    exact ev_i rfl (ev_cV e1 e)
  · have A2 : dsA W2 J2 P := ds_f (frSc_d F2) hA
    have e3 := l456b (V := W2) (I := J2) (L := L) (R := R) (tl := tl) (N := N) hl hp A2 n p (N - p) rfl (Nat.le_refl _) (by omega)
    obtain ⟨W4, J4, e4, d4, f4⟩ := l456c (L := L) (R := R) (tl := tl) (N := N) (Q := (List.range p).map (fOut P p n)) hc hl hp (by rw [rg_l]; omega) (P.length - (p + n)) (p + n) (N - p - n) W2 J2 (by omega) (Nat.le_refl _) (by omega) A2 (by
      have : sg P (p + n) (p + n) = [] := by unfold sg; rw [Nat.sub_self]; rfl
      rw [this, List.append_nil]; exact d)
    refine ⟨W4, J4, true, ?_, ⟨fun _ j hj => a j (Nat.zero_le _) hj, fun _ => rfl⟩, fun _ => ⟨d4, (f4.1 174 13 (by decide)).trans ((f2.1 174 13 (by decide)).trans d2), (f4.1 174 15 (by decide)).trans ((f2.1 174 15 (by decide)).trans d3)⟩, frEd_t F2 (frEd_k f4)⟩
    apply hm_456
    apply hd_456_0
    exact ev_i rfl (ev_cV e1 (e.trans (e3.trans e4)))
theorem wOut_l {P : xI} {p n : Nat} (h : p + n ≤ P.length) : (wOut P p n).length = P.length - n := by
  unfold wOut
  rw [List.length_append, List.length_map, List.length_range, List.length_drop]
  omega
theorem wOut_f {P : xI} {p n : Nat} (hc : okI P) (hl : P.length ≤ 60) (h : p + n ≤ P.length) (hn : 1 ≤ n) (hb : wBad P p n p = false) : frm 1 (wOut P p n) := by
  have l := wOut_l h
  refine ⟨by omega, by omega, fun e => absurd e (by decide), fun _ => ⟨fun j hj => ?_, by omega⟩⟩
  rw [l] at hj
  unfold wOut
  by_cases c : j < p
  · rw [(srt_l (by rw [rg_l]; exact c)).1, (srt_l (by rw [rg_l]; exact c)).2, (srt_m c).1, (srt_m c).2]
    dsimp only
    obtain ⟨o1, o2, o3⟩ := hc j (by omega)
    refine ⟨o1, o2, fun h17 => ?_⟩
    obtain ⟨w1, w2⟩ := o3 h17
    have nb := (wBad_i p).mp hb j c
    by_cases c2 : 16 < sN (srt P j) ∧ p < jmp P j
    · rw [if_pos c2]
      have ej : jmp P j = j + 1 + sN (vlu P j) := rfl
      have ge : p + n ≤ jmp P j := by
        rcases Nat.lt_or_ge (jmp P j) (p + n) with h | h
        · exact absurd ⟨c2.1, c2.2, h⟩ nb
        · exact h
      have e : vlu P j - nI n = nI (sN (vlu P j) - n) := by
        have : nI (sN (vlu P j)) - nI n = nI (sN (vlu P j) - n) := nI_sub (by omega)
        exact (congrArg (fun z => z - nI n) w1).trans this
      rw [e, sN_n (by omega)]
      exact ⟨rfl, by omega⟩
    · rw [if_neg c2]
      exact ⟨w1, w2⟩
  · rw [(srt_r (by rw [rg_l]; omega)).1, (srt_r (by rw [rg_l]; omega)).2, rg_l, srt_d.1, srt_d.2]
    exact hc (p + n + (j - p)) (by omega)
set_option maxRecDepth 100000 in
set_option maxHeartbeats 4000000 in
theorem r_455 {V : Nat → Nat → Value} {I : Nat → Nat → Int32} {L : Nat → Nat → Int64} {R : Nat → Nat → Option Nat} {tl : am_H} {V0 : Nat → Nat → Value} {I0 : Nat → Nat → Int32} {cd : Nat → Option xI} {so nt : Int32} {N : Nat} {P : xI} (hN : 400 < N) (hx : ctxR V0 I0 1 nt so P) (hc : okI P) (hcd : ∀ c, cd c = cd12 P c) (h : scS V0 I0 cd so 0 V I) : ∃ W J, fm_455 N (.ref 174) (fx V I L R ++ tl) = some (.inl (none, fx W J L R ++ tl)) ∧ outS V0 I0 cd so (3 * (P.length)) 1 nt W J := by
  have l60 := hx.2.2.2.2
  have d18 : ∀ (V : Nat → Nat → Value) (I : Nat → Nat → Int32), frSc V0 V I0 I → V 174 18 = .int (nI P.length) := fun V I f => (ct_f hx f).2.2.1.1
  have main := inn (L := L) (R := R) (tl := tl) (V0 := V0) (I0 := I0) (cd := cd) (so := so) (nt := nt) (kd := 1) (b := 0) (S := P.length) (st := 3) (E := fun K k h => fg_455_2 N K (.ref 174) (nI k) h) (G := fun h => some (.inl (none, h))) (fun K k V I hk f hc => by
      show fg_455_2 N (K + 1) (.ref 174) (nI k) _ = _
      apply hd_455_2
      by_cases c : P.length ≤ k
      · exact ev_b (rdI (d18 V I f)) (ev_t (nI_le c (by omega)) rfl)
      · rcases hc with hc | hc
        · omega
        · exact ev_b (rdI (d18 V I f)) (ev_f (nI_ge (by omega) (by omega)) (ev_b (rdI hc) (ev_t (by decide) rfl)))
      ) (fun K k V I hk h => by
      rw [Nat.zero_add] at h
      show ∃ W J, fg_455_2 N (K + 1) (.ref 174) (nI k) (fx V I L R ++ tl) = fg_455_2 N K (.ref 174) (nI (k + 1)) (fx W J L R ++ tl) ∧ outS V0 I0 cd so (0 + 3 * (k + 1)) 1 nt W J
      rw [Nat.zero_add]
      have ik := inn (L := L) (R := R) (tl := tl) (V0 := V0) (I0 := I0) (cd := cd) (so := so) (nt := nt) (kd := 1) (b := 3 * k) (S := 3) (st := 1) (E := fun K' s h => fg_455_19 N (fg_455_2 N K) K' (.ref 174) (nI k) (nI (s + 1)) h) (G := fun h => fg_455_2 N K (.ref 174) (nI (k + 1)) h) (fun K' s V I hs f hc => by
          show fg_455_19 N (fg_455_2 N K) (K' + 1) (.ref 174) (nI k) (nI (s + 1)) _ = fg_455_2 N K (.ref 174) (nI (k + 1)) _
          have nx : fg_455_64 N (fg_455_2 N K) (.ref 174) (nI k) (fx V I L R ++ tl) = fg_455_2 N K (.ref 174) (nI (k + 1)) (fx V I L R ++ tl) := by
            apply hd_455_64
            rw [nI_1]
          apply hd_455_19
          by_cases c : 3 ≤ s
          · exact ev_t (nI_le (a := 4) (by omega) (by omega)) nx
          · rcases hc with hc | hc
            · omega
            · exact ev_f (nI_ge (b := 4) (by omega) (by decide)) (ev_b (rdI hc) (ev_t (by decide) nx))
          ) (fun K' s V I hs h => by
          rw [Nat.one_mul] at h
          rw [Nat.one_mul]
          show ∃ W J, fg_455_19 N (fg_455_2 N K) (K' + 1) (.ref 174) (nI k) (nI (s + 1)) (fx V I L R ++ tl) = fg_455_19 N (fg_455_2 N K) K' (.ref 174) (nI k) (nI (s + 1 + 1)) (fx W J L R ++ tl) ∧ outS V0 I0 cd so (3 * k + (s + 1)) 1 nt W J
          have c0 := ct_f hx h.1
          have nx : ∀ (W : Nat → Nat → Value) (J : Nat → Nat → Int32), fg_455_58 N (fg_455_2 N K) (fg_455_19 N (fg_455_2 N K) K') (.ref 174) (nI k) (nI (s + 1)) (fx W J L R ++ tl) = fg_455_19 N (fg_455_2 N K) K' (.ref 174) (nI k) (nI (s + 1 + 1)) (fx W J L R ++ tl) := fun W J => by
            apply hd_455_58
            rw [nI_1]
          have ecd : cd (3 * k + s) = if k + (s + 1) ≤ P.length ∧ wBad P k (s + 1) k = false then gS2 1 (wOut P k (s + 1)) else none := by
            rw [hcd]
            unfold cd12
            rw [show (3 * k + s) / 3 = k by omega, show (3 * k + s) % 3 = s by omega]
          have ad : nI k + nI (s + 1) = nI (k + (s + 1)) := nI_add _ _
          by_cases c1 : k + (s + 1) ≤ P.length
          case neg =>
            refine ⟨V, I, ?_, .inr (scS_n h (ecd.trans (if_neg (fun e => c1 e.1))))⟩
            apply hd_455_19
            exact ev_f (nI_ge (b := 4) (by omega) (by decide)) (ev_b (rdI h.2.2.1) (ev_f (fun e => e rfl) (ev_b (rdI (d18 V I h.1)) (ev_t (by rw [ad]; exact (nI_ltI (by omega) (by omega)).mpr (by omega)) (nx V I)))))
          obtain ⟨W1, J1, b1, e1, g1, d1, f1⟩ := s456 (V := V) (I := I) (L := L) (R := R) (tl := tl) (p := k) (n := s + 1) hN hc l60 c1 (by omega) c0.1 c0.2.1 c0.2.2.1
          cases b1 with
          | false =>
            refine ⟨W1, J1, ?_, .inr (scS_n (scS_f (nt := nt) h f1) (ecd.trans (if_neg (fun e => Bool.noConfusion (g1.mpr e.2)))))⟩
            apply hd_455_19
            exact ev_f (nI_ge (b := 4) (by omega) (by decide)) (ev_b (rdI h.2.2.1) (ev_f (fun e => e rfl) (ev_b (rdI (d18 V I h.1)) (ev_f (by rw [ad]; exact nI_nlt c1 (by omega)) (ev_i rfl (ev_cI e1 (ev_t rfl (nx W1 J1))))))))
          | true =>
            obtain ⟨x1, x2, x3⟩ := d1 rfl
            rw [if_pos ⟨c1, g1.mp rfl⟩] at ecd
            obtain ⟨W, J, bb, e, g3, g4⟩ := stepC (L := L) (R := R) (tl := tl) hN h f1 x1 x2 x3 (wOut_f hc l60 c1 (by omega) (g1.mp rfl)) ecd (by omega) hx.2.2.2.1
            refine ⟨W, J, ?_, outS_b g3 g4⟩
            apply hd_455_19
            refine ev_f (nI_ge (b := 4) (by omega) (by decide)) (ev_b (rdI h.2.2.1) (ev_f (fun e => e rfl) (ev_b (rdI (d18 V I h.1)) (ev_f (by rw [ad]; exact nI_nlt c1 (by omega)) (ev_i rfl (ev_cI e1 (ev_f (by decide) (ev_i rfl (ev_cI e (ev_b (qp_174_95 (by cases bb <;> rfl)) ?_))))))))))
            rw [sc_95 g3 g4]
            exact nx W J
          ) (3) 0 N V I (by omega) (by omega) (by rw [Nat.mul_zero, Nat.add_zero]; exact h)
      obtain ⟨W, J, e, o⟩ := ik
      refine ⟨W, J, ?_, ?_⟩
      · apply hd_455_2
        exact ev_b (rdI (d18 V I h.1)) (ev_f (nI_ge hk (by omega)) (ev_b (rdI h.2.2.1) (ev_f (fun e => e rfl) e)))
      · rw [show 3 * (k + 1) = 3 * k + 1 * 3 by omega]
        exact o
      ) (P.length) 0 N V I (by omega) (by omega) (by rw [Nat.mul_zero]; exact h)
  obtain ⟨W, J, e, o⟩ := main
  refine ⟨W, J, ?_, by rw [Nat.zero_add] at o; exact o⟩
  apply hm_455
  apply hd_455_0
  exact e
