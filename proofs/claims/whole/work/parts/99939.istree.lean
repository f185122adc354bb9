/-! ===== is it a tree? the reference ===== -/
theorem hd_446_263 {N : Nat} {s0 : Int32} {h : am_H} {r_ : Option am_O} (k_ : (if am_rfit (some FieldType.boolean) s0 then some (.inl (some (.int s0), h)) else none) = r_) : fg_446_263 N s0 h = r_ := k_
theorem hd_446_238 {N : Nat} {rec_53 : Value → Int32 → Int32 → am_H → Option am_O} {rec_174 : Value → Int32 → Int32 → Int32 → Int32 → Int32 → Int32 → am_H → Option am_O} {x0 : Value} {x3 : Int32} {x4 : Int32} {x6 : Int32} {x7 : Int32} {x8 : Int32} {x9 : Int32} {s0 : Value} {s1 : Int32} {s2 : Int32} {h : am_H} {r_ : Option am_O} (k_ : ((am_pS 0 s0 s1 s2 h).bind fun h1 => (rec_174 x0 ((x3 + 1)) x4 x6 x7 x8 ((x9 + (-1))) h1)) = r_) : fg_446_238 N rec_53 rec_174 x0 x3 x4 x6 x7 x8 x9 s0 s1 s2 h = r_ := k_
theorem hd_446_237 {N : Nat} {rec_53 : Value → Int32 → Int32 → am_H → Option am_O} {rec_174 : Value → Int32 → Int32 → Int32 → Int32 → Int32 → Int32 → am_H → Option am_O} {x0 : Value} {x3 : Int32} {x4 : Int32} {x6 : Int32} {x7 : Int32} {x8 : Int32} {x9 : Int32} {s0 : Value} {s1 : Int32} {h : am_H} {r_ : Option am_O} (k_ : (fg_446_238 N rec_53 rec_174 x0 x3 x4 x6 x7 x8 x9 s0 s1 0 h) = r_) : fg_446_237 N rec_53 rec_174 x0 x3 x4 x6 x7 x8 x9 s0 s1 h = r_ := k_
theorem hd_446_233 {N : Nat} {rec_53 : Value → Int32 → Int32 → am_H → Option am_O} {rec_174 : Value → Int32 → Int32 → Int32 → Int32 → Int32 → Int32 → am_H → Option am_O} {x0 : Value} {x3 : Int32} {x4 : Int32} {x6 : Int32} {x7 : Int32} {x8 : Int32} {x9 : Int32} {s0 : Value} {s1 : Int32} {h : am_H} {r_ : Option am_O} (k_ : (fg_446_238 N rec_53 rec_174 x0 x3 x4 x6 x7 x8 x9 s0 s1 1 h) = r_) : fg_446_233 N rec_53 rec_174 x0 x3 x4 x6 x7 x8 x9 s0 s1 h = r_ := k_
theorem hd_446_199 {N : Nat} {rec_53 : Value → Int32 → Int32 → am_H → Option am_O} {rec_174 : Value → Int32 → Int32 → Int32 → Int32 → Int32 → Int32 → am_H → Option am_O} {x0 : Value} {x3 : Int32} {x4 : Int32} {x6 : Int32} {x7 : Int32} {x8 : Int32} {x9 : Int32} {s0 : Value} {s1 : Int32} {s2 : Int32} {h : am_H} {r_ : Option am_O} (k_ : ((am_pS 0 s0 s1 s2 h).bind fun h1 => ((am_vR (am_pG 3101 x0 h1)).bind fun v3 => ((am_pS 0 v3 x3 (x6 + 1) h1).bind fun h5 => ((am_vR (am_pG 3102 x0 h5)).bind fun v7 => (if ¬ x7 = 0 then (fg_446_233 N rec_53 rec_174 x0 x3 x4 x6 x7 x8 x9 v7 x3 h5) else (if ¬ x8 = 19 then (fg_446_237 N rec_53 rec_174 x0 x3 x4 x6 x7 x8 x9 v7 x3 h5) else (if ¬ x9 = 1 then (fg_446_237 N rec_53 rec_174 x0 x3 x4 x6 x7 x8 x9 v7 x3 h5) else (fg_446_233 N rec_53 rec_174 x0 x3 x4 x6 x7 x8 x9 v7 x3 h5)))))))) = r_) : fg_446_199 N rec_53 rec_174 x0 x3 x4 x6 x7 x8 x9 s0 s1 s2 h = r_ := k_
theorem hd_446_174 {N : Nat} {rec_53 : Value → Int32 → Int32 → am_H → Option am_O} {K : Nat} {x0 : Value} {x3 : Int32} {x4 : Int32} {x6 : Int32} {x7 : Int32} {x8 : Int32} {x9 : Int32} {h : am_H} {r_ : Option am_O} (k_ : (if x9 < 0 then (rec_53 x0 x3 ((x4 + 1)) h) else ((am_vR (am_pG 3100 x0 h)).bind fun v2 => am_cI false (fm_330 x8 x9 h) (fun v4 h5 => (if v4 = 0 then (fg_446_199 N rec_53 (fg_446_174 N rec_53 K) x0 x3 x4 x6 x7 x8 x9 v2 x3 0 h5) else (fg_446_199 N rec_53 (fg_446_174 N rec_53 K) x0 x3 x4 x6 x7 x8 x9 v2 x3 1 h5))))) = r_) : fg_446_174 N rec_53 (K + 1) x0 x3 x4 x6 x7 x8 x9 h = r_ := by rw [fg_446_174]; exact k_
theorem hd_446_165 {N : Nat} {rec_53 : Value → Int32 → Int32 → am_H → Option am_O} {x0 : Value} {x3 : Int32} {x4 : Int32} {x6 : Int32} {x7 : Int32} {x8 : Int32} {h : am_H} {r_ : Option am_O} (k_ : am_cI false (fm_343 x8 h) (fun v1 h2 => (fg_446_174 N rec_53 N x0 x3 x4 x6 x7 x8 ((v1 - 1)) h2)) = r_) : fg_446_165 N rec_53 x0 x3 x4 x6 x7 x8 h = r_ := k_
theorem hd_446_163 {N : Nat} {h : am_H} {r_ : Option am_O} (k_ : some (.inl (some (.int 0), h)) = r_) : fg_446_163 N h = r_ := k_
theorem hd_446_151 {N : Nat} {rec_53 : Value → Int32 → Int32 → am_H → Option am_O} {x0 : Value} {x3 : Int32} {x4 : Int32} {x6 : Int32} {x7 : Int32} {x8 : Int32} {h : am_H} {r_ : Option am_O} (k_ : (if x7 = 0 then (fg_446_165 N rec_53 x0 x3 x4 x6 x7 x8 h) else (if ¬ x8 = 19 then (fg_446_165 N rec_53 x0 x3 x4 x6 x7 x8 h) else (fg_446_163 N h))) = r_) : fg_446_151 N rec_53 x0 x3 x4 x6 x7 x8 h = r_ := k_
theorem hd_446_105 {N : Nat} {rec_53 : Value → Int32 → Int32 → am_H → Option am_O} {x0 : Value} {x3 : Int32} {x4 : Int32} {x5 : Int32} {x6 : Int32} {s0 : Int32} {h : am_H} {r_ : Option am_O} (k_ : ((am_vR (am_pG 3088 x0 h)).bind fun v1 => ((am_pA 0 v1 x4 h).bind fun v3 => am_cI false (fm_334 v3 h) (fun v5 h6 => (if ¬ v5 = x5 then (fg_446_163 N h6) else (if 12 < x6 then (fg_446_163 N h6) else (if ¬ s0 = 0 then (fg_446_151 N rec_53 x0 x3 x4 x6 s0 v3 h6) else (if v3 = 5 then (fg_446_163 N h6) else (if v3 = 6 then (fg_446_163 N h6) else (fg_446_151 N rec_53 x0 x3 x4 x6 s0 v3 h6))))))))) = r_) : fg_446_105 N rec_53 x0 x3 x4 x5 x6 s0 h = r_ := k_
theorem hd_446_80 {N : Nat} {rec_53 : Value → Int32 → Int32 → am_H → Option am_O} {x0 : Value} {x3 : Int32} {x4 : Int32} {s0 : Int32} {h : am_H} {r_ : Option am_O} (k_ : ((am_vR (am_pG 3101 x0 h)).bind fun v1 => ((am_pA 0 v1 x3 h).bind fun v3 => ((am_vR (am_pG 3102 x0 h)).bind fun v5 => ((am_pA 0 v5 x3 h).bind fun v7 => (if ¬ v7 = 1 then (fg_446_105 N rec_53 x0 x3 x4 s0 v3 0 h) else (fg_446_105 N rec_53 x0 x3 x4 s0 v3 1 h)))))) = r_) : fg_446_80 N rec_53 x0 x3 x4 s0 h = r_ := k_
theorem hd_446_53 {N : Nat} {K : Nat} {x0 : Value} {x3 : Int32} {x4 : Int32} {h : am_H} {r_ : Option am_O} (k_ : ((am_vI (am_pG 3086 x0 h)).bind fun v1 => (if v1 ≤ x4 then (if ¬ x3 = 0 then (fg_446_263 N 0 h) else (fg_446_263 N 1 h)) else ((am_vR (am_pG 3100 x0 h)).bind fun v5 => ((am_pA 0 v5 (x3 + (-1)) h).bind fun v7 => (if ¬ v7 = 1 then (fg_446_80 N (fg_446_53 N K) x0 ((x3 + (-1))) x4 0 h) else (fg_446_80 N (fg_446_53 N K) x0 ((x3 + (-1))) x4 1 h)))))) = r_) : fg_446_53 N (K + 1) x0 x3 x4 h = r_ := by rw [fg_446_53]; exact k_
theorem hd_446_49 {N : Nat} {x0 : Value} {x3 : Int32} {s0 : Value} {s1 : Int32} {s2 : Int32} {h : am_H} {r_ : Option am_O} (k_ : ((am_pS 0 s0 s1 s2 h).bind fun h1 => (fg_446_53 N N x0 x3 0 h1)) = r_) : fg_446_49 N x0 x3 s0 s1 s2 h = r_ := k_
theorem hd_446_27 {N : Nat} {x0 : Value} {x2 : Int32} {x3 : Int32} {s0 : Value} {s1 : Int32} {s2 : Int32} {h : am_H} {r_ : Option am_O} (k_ : ((am_pS 0 s0 s1 s2 h).bind fun h1 => ((am_vR (am_pG 3101 x0 h1)).bind fun v3 => ((am_pS 0 v3 0 1 h1).bind fun h5 => ((am_vR (am_pG 3102 x0 h5)).bind fun v7 => (if x2 = 0 then (fg_446_49 N x0 x3 v7 0 0 h5) else (fg_446_49 N x0 x3 v7 0 1 h5)))))) = r_) : fg_446_27 N x0 x2 x3 s0 s1 s2 h = r_ := k_
theorem hd_446_0 {N : Nat} {x0 : Value} {x1 : Int32} {x2 : Int32} {h : am_H} {r_ : Option am_O} (k_ : ((am_vI (am_pG 3086 x0 h)).bind fun v1 => (if v1 ≤ 60 then ((am_vR (am_pG 3100 x0 h)).bind fun v4 => (if x1 = 0 then (fg_446_27 N x0 x2 1 v4 0 0 h) else (fg_446_27 N x0 x2 1 v4 0 1 h))) else some (.inl (some (.int 0), h)))) = r_) : fg_446_0 N x0 x1 x2 h = r_ := k_
theorem hm_446 {N : Nat} {y0 : Value} {y1 : Int32} {y2 : Int32} {h : am_H} {r_ : Option am_O} (k_ : fg_446_0 N y0 y1 y2 h = r_) : fm_446 N y0 y1 y2 h = r_ := k_

theorem tw330 : ∀ s, s < 21 → ∀ p, p < 3 → pv_330 (nI s) (nI p) = nI (twN s p) := by decide +kernel
def stk (I : Nat → Nat → Int32) (st : List (Nat × Nat × Nat)) : Prop := ∀ i c, st.reverse[i]? = some c → I 194 i = nI c.1 ∧ I 195 i = nI c.2.1 ∧ I 196 i = nI c.2.2
def fr3 (I J : Nat → Nat → Int32) : Prop := ∀ y, y ≠ 194 → y ≠ 195 → y ≠ 196 → J y = I y
theorem fr3_t {I J K : Nat → Nat → Int32} (h : fr3 I J) (g : fr3 J K) : fr3 I K := fun y a b c => (g y a b c).trans (h y a b c)
theorem stk_top {I : Nat → Nat → Int32} {c : Nat × Nat × Nat} {st : List (Nat × Nat × Nat)} (h : stk I (c :: st)) : (I 194 st.length = nI c.1 ∧ I 195 st.length = nI c.2.1 ∧ I 196 st.length = nI c.2.2) ∧ stk I st := by
  refine ⟨h _ c ?_, fun i d e => h i d ?_⟩
  · rw [List.reverse_cons, List.getElem?_append_right (by rw [List.length_reverse]; omega), List.length_reverse, Nat.sub_self]
    rfl
  · have hi := (List.getElem?_eq_some_iff.mp e).1
    rw [List.reverse_cons, List.getElem?_append_left hi]
    exact e
theorem stk_push {I J : Nat → Nat → Int32} {c : Nat × Nat × Nat} {st : List (Nat × Nat × Nat)} (h : stk I st) (h1 : J 194 = upd (I 194) st.length (nI c.1)) (h2 : J 195 = upd (I 195) st.length (nI c.2.1)) (h3 : J 196 = upd (I 196) st.length (nI c.2.2)) : stk J (c :: st) := fun i d e => by
  rw [h1, h2, h3]
  rw [List.reverse_cons] at e
  by_cases q : i < st.length
  · rw [List.getElem?_append_left (by rw [List.length_reverse]; exact q)] at e
    rw [upd_ne (by omega), upd_ne (by omega), upd_ne (by omega)]
    exact h i d e
  · rw [List.getElem?_append_right (by rw [List.length_reverse]; omega), List.length_reverse] at e
    by_cases q2 : i = st.length
    · subst q2
      rw [Nat.sub_self, List.getElem?_cons_zero] at e
      rw [← Option.some.inj e, upd_eq, upd_eq, upd_eq]
      exact ⟨rfl, rfl, rfl⟩
    · rw [show i - st.length = (i - st.length - 1) + 1 by omega, List.getElem?_cons_succ] at e
      exact absurd e (by simp)
set_option maxRecDepth 100000 in
set_option maxHeartbeats 4000000 in
theorem p446 {L : Nat → Nat → Int64} {R : Nat → Nat → Option Nat} {tl : am_H} {V : Nat → Nat → Value} {N x d lp k : Nat} {rc : Value → Int32 → Int32 → am_H → Option am_O} (hx : x ≤ 20) (hlp : lp ≤ 1) : ∀ (q K : Nat) (I : Nat → Nat → Int32) (st : List (Nat × Nat × Nat)), q ≤ 3 → q < K → stk I st → st.length + q < 400 → ∃ J, fg_446_174 N rc K (.ref 174) (nI st.length) (nI k) (nI d) (nI lp) (nI x) (nI q + (-1)) (fx V I L R ++ tl) = rc (.ref 174) (nI (st.length + q)) (nI (k + 1)) (fx V J L R ++ tl) ∧ stk J ((List.range q).map (fun p => (twN x p, d + 1, if x = 19 ∧ p = 1 then 1 else lp)) ++ st) ∧ fr3 I J := by
  intro q
  induction q with
  | zero =>
    intro K I st hq hK hs hl
    obtain ⟨K, rfl⟩ : ∃ k, K = k + 1 := ⟨K - 1, by omega⟩
    refine ⟨I, ?_, hs, fun _ _ _ _ => rfl⟩
    apply hd_446_174
    rw [nI_1]
    exact ev_t (by decide) rfl
  | succ q ih =>
    intro K I st hq hK hs hl
    obtain ⟨K, rfl⟩ : ∃ k, K = k + 1 := ⟨K - 1, by omega⟩
    obtain ⟨J0, hJ0⟩ : ∃ J0, J0 = iup (iup (iup I 194 (upd (I 194) st.length (nI (twN x q)))) 195 (upd (I 195) st.length (nI (d + 1)))) 196 (upd (I 196) st.length (nI (if x = 19 ∧ q = 1 then 1 else lp))) := ⟨_, rfl⟩
    have hp : stk J0 ((twN x q, d + 1, if x = 19 ∧ q = 1 then 1 else lp) :: st) := stk_push hs (by rw [hJ0]; rfl) (by rw [hJ0]; rfl) (by rw [hJ0]; rfl)
    obtain ⟨J, e, s, f⟩ := ih K J0 _ (by omega) (by omega) hp (by rw [List.length_cons]; omega)
    refine ⟨J, ?_, ?_, fr3_t (fun y a b c => by rw [hJ0, iup_na c, iup_na b, iup_na a]) f⟩
    · rw [List.length_cons, show st.length + 1 + q = st.length + (q + 1) by omega] at e
      have tw := tw330 x (by omega) q (by omega)
      have fin : ∀ (w : Int32), w = nI (if x = 19 ∧ q = 1 then 1 else lp) → fg_446_238 N rc (fg_446_174 N rc K) (.ref 174) (nI st.length) (nI k) (nI d) (nI lp) (nI x) (nI q) (.ref 196) (nI st.length) w (fx V (iup (iup I 194 (upd (I 194) st.length (nI (twN x q)))) 195 (upd (I 195) st.length (nI (d + 1)))) L R ++ tl) = rc (.ref 174) (nI (st.length + (q + 1))) (nI (k + 1)) (fx V J L R ++ tl) := fun w hw => by
        subst hw
        apply hd_446_238
        refine ev_b (qs_196 (by omega)) ?_
        rw [nI_1, ← e, hJ0]
        rfl
      have mid : ∀ (w : Int32), w = nI (twN x q) → fg_446_199 N rc (fg_446_174 N rc K) (.ref 174) (nI st.length) (nI k) (nI d) (nI lp) (nI x) (nI q) (.ref 194) (nI st.length) w (fx V I L R ++ tl) = rc (.ref 174) (nI (st.length + (q + 1))) (nI (k + 1)) (fx V J L R ++ tl) := fun w hw => by
        subst hw
        apply hd_446_199
        rw [nI_1]
        refine ev_b (qs_194 (by omega)) (ev_b (rdR rfl) (ev_b (qs_195 (by omega)) (ev_b (rdR rfl) ?_)))
        rcases (by omega : lp = 0 ∨ lp = 1) with r | r
        · subst r
          refine ev_f (fun h => h rfl) ?_
          by_cases c1 : x = 19
          · refine ev_f (by rw [c1]; decide) ?_
            by_cases c2 : q = 1
            · refine ev_f (by rw [c2]; decide) ?_
              apply hd_446_233
              exact fin 1 (by rw [if_pos ⟨c1, c2⟩]; rfl)
            · refine ev_t (fun h => c2 ((nI_eq (b := 1) (by omega) (by decide)).mp h)) ?_
              apply hd_446_237
              exact fin 0 (by rw [if_neg (fun h => c2 h.2)]; rfl)
          · refine ev_t (fun h => c1 ((nI_eq (b := 19) (by omega) (by decide)).mp h)) ?_
            apply hd_446_237
            exact fin 0 (by rw [if_neg (fun h => c1 h.1)]; rfl)
        · subst r
          refine ev_t (by decide) ?_
          apply hd_446_233
          exact fin 1 (by split <;> rfl)
      apply hd_446_174
      rw [nI_m1]
      refine ev_f (nI_pos (by omega)) (ev_b (rdR rfl) (ev_cI (pe_330 ..) ?_))
      rw [tw]
      by_cases c : twN x q = 0
      · rw [c] at mid ⊢
        exact ev_t rfl (mid 0 rfl)
      · have c1 : twN x q = 1 := by
          have : twN x q ≤ 1 := by unfold twN; split <;> omega
          omega
        rw [c1] at mid ⊢
        exact ev_f (by decide) (mid 1 rfl)
    · rw [List.range_succ, List.map_append, List.append_assoc]
      exact s
set_option maxRecDepth 100000 in
set_option maxHeartbeats 4000000 in
theorem t446 {L : Nat → Nat → Int64} {R : Nat → Nat → Option Nat} {tl : am_H} {V : Nat → Nat → Value} {N : Nat} {Q : xT} (hN : 400 < N) (hq : ∀ k, k < Q.length → xS Q k ≤ 20) (hl : Q.length ≤ 60) : ∀ (m k K : Nat) (I : Nat → Nat → Int32) (st : List (Nat × Nat × Nat)), k + m = Q.length → m < K → dkL V I (tI Q) → stk I st → (∀ c, c ∈ st → c.1 ≤ 1 ∧ c.2.1 ≤ 13 ∧ c.2.2 ≤ 1) → st.length ≤ 1 + 2 * k → isF st.length ((sl Q).drop k) → ∃ J b, fg_446_53 N K (.ref 174) (nI st.length) (nI k) (fx V I L R ++ tl) = some (.inl (some (.int (bI b)), fx V J L R ++ tl)) ∧ (b = true ↔ okF st ((sl Q).drop k)) ∧ fr3 I J := by
  intro m
  induction m with
  | zero =>
    intro k K I st hm hK hd hs hc hst hF
    obtain ⟨K, rfl⟩ : ∃ k, K = k + 1 := ⟨K - 1, by omega⟩
    rw [List.drop_eq_nil_of_le (by rw [sl_len]; omega)] at hF ⊢
    have h14 := hd.1
    rw [tI_len] at h14
    cases st with
    | cons c st => exact absurd hF id
    | nil =>
      refine ⟨I, true, ?_, ⟨fun _ => trivial, fun _ => rfl⟩, fun _ _ _ _ => rfl⟩
      apply hd_446_53
      refine ev_b (rdI h14) (ev_t (nI_le (by omega) (by omega)) (ev_f (fun h => h rfl) ?_))
      apply hd_446_263
      exact ev_i rfl rfl
  | succ m ih =>
    intro k K I st hm hK hd hs hc hst hF
    obtain ⟨K, rfl⟩ : ∃ k, K = k + 1 := ⟨K - 1, by omega⟩
    have hk : k < Q.length := by omega
    rw [sl_at hk] at hF ⊢
    have h14 := hd.1
    rw [tI_len] at h14
    have x20 := hq k hk
    cases st with
    | nil => exact absurd hF id
    | cons c st =>
      have hF' : isF (st.length + arN (xS Q k)) ((sl Q).drop (k + 1)) := hF
      obtain ⟨⟨a1, a2, a3⟩, hs'⟩ := stk_top hs
      obtain ⟨b1, b2, b3⟩ := hc c (List.mem_cons_self ..)
      rw [List.length_cons] at hst
      have ar3 : arN (xS Q k) ≤ 3 := by unfold arN; repeat (first | split | omega)
      have s1 := (hd.2 k _ (tI_at hk)).1
      have tr1 : truN (xS Q k) ≤ 1 := by unfold truN; split <;> omega
      have st1 : ∀ o, fg_446_105 N (fg_446_53 N K) (.ref 174) (nI st.length) (nI k) (nI c.1) (nI c.2.1) (nI c.2.2) (fx V I L R ++ tl) = o → fg_446_53 N (K + 1) (.ref 174) (nI (c :: st).length) (nI k) (fx V I L R ++ tl) = o := fun o h => by
        have h80 : fg_446_80 N (fg_446_53 N K) (.ref 174) (nI st.length) (nI k) (nI c.1) (fx V I L R ++ tl) = o := by
          apply hd_446_80
          refine ev_b (rdR rfl) (ev_b ((qa_195 (by omega)).trans (congrArg some a2)) (ev_b (rdR rfl) (ev_b ((qa_196 (by omega)).trans (congrArg some a3)) ?_)))
          rcases (by omega : c.2.2 = 0 ∨ c.2.2 = 1) with r | r
          · rw [r] at h ⊢
            exact ev_t (by decide) h
          · rw [r] at h ⊢
            exact ev_f (fun h => h rfl) h
        apply hd_446_53
        rw [List.length_cons, nI_m1]
        refine ev_b (rdI h14) (ev_f (nI_ge hk (by omega)) (ev_b (rdR rfl) (ev_b ((qa_194 (by omega)).trans (congrArg some a1)) ?_)))
        rcases (by omega : c.1 = 0 ∨ c.1 = 1) with r | r
        · rw [r] at h80 ⊢
          exact ev_t (by decide) h80
        · rw [r] at h80 ⊢
          exact ev_f (fun h => h rfl) h80
      have st2 : ∀ o, (if ¬ nI (truN (xS Q k)) = nI c.1 then (fg_446_163 N (fx V I L R ++ tl)) else (if (12 : Int32) < nI c.2.1 then (fg_446_163 N (fx V I L R ++ tl)) else (if ¬ nI c.2.2 = 0 then (fg_446_151 N (fg_446_53 N K) (.ref 174) (nI st.length) (nI k) (nI c.2.1) (nI c.2.2) (nI (xS Q k)) (fx V I L R ++ tl)) else (if nI (xS Q k) = 5 then (fg_446_163 N (fx V I L R ++ tl)) else (if nI (xS Q k) = 6 then (fg_446_163 N (fx V I L R ++ tl)) else (fg_446_151 N (fg_446_53 N K) (.ref 174) (nI st.length) (nI k) (nI c.2.1) (nI c.2.2) (nI (xS Q k)) (fx V I L R ++ tl))))))) = o → fg_446_105 N (fg_446_53 N K) (.ref 174) (nI st.length) (nI k) (nI c.1) (nI c.2.1) (nI c.2.2) (fx V I L R ++ tl) = o := fun o h => by
        apply hd_446_105
        refine ev_b (rdR rfl) (ev_b ((qa_186 (by omega)).trans (congrArg some s1)) (ev_cI (pe_334 ..) ?_))
        rw [tr_eq _ (by omega)]
        exact h
      have no : ∀ (hn : ¬ okF (c :: st) ((xS Q k, 0) :: (sl Q).drop (k + 1))), (if ¬ nI (truN (xS Q k)) = nI c.1 then (fg_446_163 N (fx V I L R ++ tl)) else (if (12 : Int32) < nI c.2.1 then (fg_446_163 N (fx V I L R ++ tl)) else (if ¬ nI c.2.2 = 0 then (fg_446_151 N (fg_446_53 N K) (.ref 174) (nI st.length) (nI k) (nI c.2.1) (nI c.2.2) (nI (xS Q k)) (fx V I L R ++ tl)) else (if nI (xS Q k) = 5 then (fg_446_163 N (fx V I L R ++ tl)) else (if nI (xS Q k) = 6 then (fg_446_163 N (fx V I L R ++ tl)) else (fg_446_151 N (fg_446_53 N K) (.ref 174) (nI st.length) (nI k) (nI c.2.1) (nI c.2.2) (nI (xS Q k)) (fx V I L R ++ tl))))))) = some (.inl (some (.int 0), fx V I L R ++ tl)) → ∃ J b, fg_446_53 N (K + 1) (.ref 174) (nI (c :: st).length) (nI k) (fx V I L R ++ tl) = some (.inl (some (.int (bI b)), fx V J L R ++ tl)) ∧ (b = true ↔ okF (c :: st) ((xS Q k, 0) :: (sl Q).drop (k + 1))) ∧ fr3 I J := fun hn h => ⟨I, false, st1 _ (st2 _ h), ⟨fun e => Bool.noConfusion e, fun e => absurd e hn⟩, fun _ _ _ _ => rfl⟩
      by_cases c1 : truN (xS Q k) = c.1
      case neg => exact no (fun o => c1 o.2.1) (ev_t (fun h => c1 ((nI_eq (by omega) (by omega)).mp h)) rfl)
      by_cases c2 : c.2.1 ≤ 12
      case neg => exact no (fun o => c2 o.2.2.1) (ev_f (fun h => h (congrArg nI c1)) (ev_t (nI_lt (a := 12) (by omega) (by omega)) rfl))
      have c2' : ¬ (12 : Int32) < nI c.2.1 := nI_nlt (a := 12) (by omega) (by decide)
      obtain ⟨J, e, s, f⟩ := p446 (L := L) (R := R) (tl := tl) (V := V) (N := N) (d := c.2.1) (lp := c.2.2) (k := k) (rc := fg_446_53 N K) x20 b3 (arN (xS Q k)) N I st ar3 (by omega) hs' (by omega)
      have hkid : (List.range (arN (xS Q k))).map (fun p => (twN (xS Q k) p, c.2.1 + 1, if xS Q k = 19 ∧ p = 1 then 1 else c.2.2)) = kid (xS Q k) c := rfl
      rw [hkid] at s
      have lk : (kid (xS Q k) c ++ st).length = st.length + arN (xS Q k) := by
        rw [List.length_append, ← hkid, List.length_map, List.length_range]; omega
      have e165 : fg_446_165 N (fg_446_53 N K) (.ref 174) (nI st.length) (nI k) (nI c.2.1) (nI c.2.2) (nI (xS Q k)) (fx V I L R ++ tl) = fg_446_53 N K (.ref 174) (nI (st.length + arN (xS Q k))) (nI (k + 1)) (fx V J L R ++ tl) := by
        apply hd_446_165
        refine ev_cI (ar_e _ x20 _) ?_
        rw [show nI (arN (xS Q k)) - 1 = nI (arN (xS Q k)) + (-1) from Int32.sub_eq_add_neg ..]
        exact e
      have dJ : dkL V J (tI Q) := ⟨hd.1, by rw [f 186 (by decide) (by decide) (by decide), f 187 (by decide) (by decide) (by decide)]; exact hd.2⟩
      obtain ⟨J2, b, e2, h2, f2⟩ := ih (k + 1) K J (kid (xS Q k) c ++ st) (by omega) (by omega) dJ s (fun d hd => by
        rcases List.mem_append.mp hd with h | h
        · rw [← hkid] at h
          obtain ⟨p, -, e⟩ := List.mem_map.mp h
          rw [← e]
          refine ⟨by show twN _ p ≤ 1; unfold twN; split <;> omega, by show c.2.1 + 1 ≤ 13; omega, ?_⟩
          show (if xS Q k = 19 ∧ p = 1 then 1 else c.2.2) ≤ 1
          split
          · omega
          · exact b3
        · exact hc d (List.mem_cons_of_mem _ h)) (by rw [lk]; omega) (by rw [lk]; exact hF')
      rw [lk] at e2
      have yes : ∀ (h5 : c.2.2 = 0 → xS Q k ≠ 5 ∧ xS Q k ≠ 6) (h19 : c.2.2 = 1 → xS Q k ≠ 19), fg_446_105 N (fg_446_53 N K) (.ref 174) (nI st.length) (nI k) (nI c.1) (nI c.2.1) (nI c.2.2) (fx V I L R ++ tl) = fg_446_165 N (fg_446_53 N K) (.ref 174) (nI st.length) (nI k) (nI c.2.1) (nI c.2.2) (nI (xS Q k)) (fx V I L R ++ tl) → ∃ J b, fg_446_53 N (K + 1) (.ref 174) (nI (c :: st).length) (nI k) (fx V I L R ++ tl) = some (.inl (some (.int (bI b)), fx V J L R ++ tl)) ∧ (b = true ↔ okF (c :: st) ((xS Q k, 0) :: (sl Q).drop (k + 1))) ∧ fr3 I J := fun h5 h19 h => ⟨J2, b, st1 _ (h.trans (e165.trans e2)), ⟨fun e => ⟨x20, c1, c2, h5, h19, h2.mp e⟩, fun o => h2.mpr o.2.2.2.2.2⟩, fr3_t f f2⟩
      rcases (by omega : c.2.2 = 0 ∨ c.2.2 = 1) with r | r
      · by_cases c5 : xS Q k = 5
        · exact no (fun o => (o.2.2.2.1 r).1 c5) (ev_f (fun h => h (congrArg nI c1)) (ev_f c2' (ev_f (fun h => h (by rw [r]; rfl)) (ev_t (by rw [c5]; rfl) rfl))))
        by_cases c6 : xS Q k = 6
        · exact no (fun o => (o.2.2.2.1 r).2 c6) (ev_f (fun h => h (congrArg nI c1)) (ev_f c2' (ev_f (fun h => h (by rw [r]; rfl)) (ev_f (by rw [c6]; decide) (ev_t (by rw [c6]; rfl) rfl)))))
        refine yes (fun _ => ⟨c5, c6⟩) (fun h => absurd h (by omega)) (st2 _ (ev_f (fun h => h (congrArg nI c1)) (ev_f c2' (ev_f (fun h => h (by rw [r]; rfl)) (ev_f (fun h => c5 ((nI_eq (b := 5) (by omega) (by decide)).mp h)) (ev_f (fun h => c6 ((nI_eq (b := 6) (by omega) (by decide)).mp h)) ?_))))))
        apply hd_446_151
        exact ev_t (by rw [r]; rfl) rfl
      · by_cases c19 : xS Q k = 19
        · refine no (fun o => o.2.2.2.2.1 r c19) (ev_f (fun h => h (congrArg nI c1)) (ev_f c2' (ev_t (by rw [r]; decide) ?_)))
          apply hd_446_151
          exact ev_f (by rw [r]; decide) (ev_f (by rw [c19]; decide) rfl)
        refine yes (fun h => absurd h (by omega)) (fun _ => c19) (st2 _ (ev_f (fun h => h (congrArg nI c1)) (ev_f c2' (ev_t (by rw [r]; decide) ?_))))
        apply hd_446_151
        exact ev_f (by rw [r]; decide) (ev_t (fun h => c19 ((nI_eq (b := 19) (by omega) (by decide)).mp h)) rfl)
theorem s446 {V : Nat → Nat → Value} {I : Nat → Nat → Int32} {L : Nat → Nat → Int64} {R : Nat → Nat → Option Nat} {tl : am_H} {N t lp : Nat} {Q : xT} (hN : 400 < N) (ht : t ≤ 1) (hlp : lp ≤ 1) (hq : ∀ k, k < Q.length → xS Q k ≤ 20) (hl : Q.length ≤ 400) (hF : isF 1 (sl Q)) (hd : dkL V I (tI Q)) : ∃ J b, fm_446 N (.ref 174) (nI t) (nI lp) (fx V I L R ++ tl) = some (.inl (some (.int (bI b)), fx V J L R ++ tl)) ∧ (b = true ↔ Q.length ≤ 60 ∧ okF [(t, 1, lp)] (sl Q)) ∧ fr3 I J := by
  have h14 := hd.1
  rw [tI_len] at h14
  by_cases c : Q.length ≤ 60
  · obtain ⟨J0, hJ0⟩ : ∃ J0, J0 = iup (iup (iup I 194 (upd (I 194) 0 (nI t))) 195 (upd (I 195) 0 (nI 1))) 196 (upd (I 196) 0 (nI lp)) := ⟨_, rfl⟩
    have f0 : fr3 I J0 := fun y a b c => by rw [hJ0, iup_na c, iup_na b, iup_na a]
    have hs : stk J0 [(t, 1, lp)] := stk_push (I := I) (st := []) (fun i d e => absurd e (by simp)) (by rw [hJ0]; rfl) (by rw [hJ0]; rfl) (by rw [hJ0]; rfl)
    have dJ : dkL V J0 (tI Q) := ⟨hd.1, by rw [f0 186 (by decide) (by decide) (by decide), f0 187 (by decide) (by decide) (by decide)]; exact hd.2⟩
    obtain ⟨J, b, e, h, f⟩ := t446 (L := L) (R := R) (tl := tl) hN hq c Q.length 0 N J0 [(t, 1, lp)] (by omega) (by omega) dJ hs (fun d hd => by rw [List.mem_singleton.mp hd]; exact ⟨ht, by show 1 ≤ 13; omega, hlp⟩) (by show 1 ≤ _; omega) (by rw [List.drop_zero]; exact hF)
    rw [List.drop_zero] at h
    refine ⟨J, b, ?_, ⟨fun e => ⟨c, h.mp e⟩, fun o => h.mpr o.2⟩, fr3_t f0 f⟩
    have h49 : ∀ w, w = nI lp → fg_446_49 N (.ref 174) 1 (.ref 196) 0 w (fx V (iup (iup I 194 (upd (I 194) 0 (nI t))) 195 (upd (I 195) 0 (nI 1))) L R ++ tl) = some (.inl (some (.int (bI b)), fx V J L R ++ tl)) := fun w hw => by
      subst hw
      apply hd_446_49
      refine ev_b (qs_196 (k := 0) (by omega)) ?_
      rw [← e, hJ0]
      rfl
    have h27 : ∀ w, w = nI t → fg_446_27 N (.ref 174) (nI lp) 1 (.ref 194) 0 w (fx V I L R ++ tl) = some (.inl (some (.int (bI b)), fx V J L R ++ tl)) := fun w hw => by
      subst hw
      apply hd_446_27
      refine ev_b (qs_194 (k := 0) (by omega)) (ev_b (rdR rfl) (ev_b (qs_195 (k := 0) (by omega)) (ev_b (rdR rfl) ?_)))
      rcases (by omega : lp = 0 ∨ lp = 1) with r | r
      · exact ev_t (by rw [r]; rfl) (h49 0 (by rw [r]; rfl))
      · exact ev_f (by rw [r]; decide) (h49 1 (by rw [r]; rfl))
    apply hm_446
    apply hd_446_0
    refine ev_b (rdI h14) (ev_t (nI_le (b := 60) c (by decide)) (ev_b (rdR rfl) ?_))
    rcases (by omega : t = 0 ∨ t = 1) with r | r
    · exact ev_t (by rw [r]; rfl) (h27 0 (by rw [r]; rfl))
    · exact ev_f (by rw [r]; decide) (h27 1 (by rw [r]; rfl))
  · refine ⟨I, false, ?_, ⟨fun e => Bool.noConfusion e, fun o => absurd o.1 c⟩, fun _ _ _ _ => rfl⟩
    apply hm_446
    apply hd_446_0
    exact ev_b (rdI h14) (ev_f (nI_ge (a := 60) (by omega) (by omega)) rfl)
