/-! ===== search in the class: sizes one behind another ===== -/
theorem hd_260_16 {X : am_X} {N : Nat} {h : am_H} {r_ : Option am_O} (k_ : some (.inl (some (.int 2), h)) = r_) : fg_260_16 X N h = r_ := k_
theorem hd_260_13 {X : am_X} {N : Nat} {h : am_H} {r_ : Option am_O} (k_ : some (.inl (some (.int 1), h)) = r_) : fg_260_13 X N h = r_ := k_
theorem hd_260_0 {X : am_X} {N : Nat} {x0 : Value} {x1 : Int32} {x2 : Value} {h : am_H} {r_ : Option am_O} (k_ : (if am_pOk 11 x0 h then (match fm_261 X N x0 x1 h with | some (.inl (some (.int v2), h3)) => ((am_pSL x2 0 (Int32.toInt64 v2) h3).bind fun h5 => some (.inl (some (.int 0), h5))) | some (.inr (0, h7)) => (fg_260_13 X N h7) | some (.inr (1, h9)) => (fg_260_16 X N h9) | _ => none) else none) = r_) : fg_260_0 X N x0 x1 x2 h = r_ := k_
theorem hm_260 {X : am_X} {N : Nat} {y0 : Value} {y1 : Int32} {y2 : Value} {h : am_H} {r_ : Option am_O} (k_ : fg_260_0 X N y0 y1 y2 h = r_) : fm_260 X N y0 y1 y2 h = r_ := k_
theorem hd_261_10 {X : am_X} {N : Nat} {h : am_H} {r_ : Option am_O} (k_ : some (.inr (0, h ++ [am_dummy])) = r_) : fg_261_10 X N h = r_ := k_
theorem hd_261_0 {X : am_X} {N : Nat} {x0 : Value} {x1 : Int32} {h : am_H} {r_ : Option am_O} (k_ : (if x1 < 1 then (fg_261_10 X N h) else (if x1 ≤ 5 then (if am_pOk 11 x0 h then am_cV true (fm_32 x0 1 h) (fun h5 => ((am_vR (am_pG 2822 x0 h5)).bind fun v7 => ((am_vR (am_pG 2819 x0 h5)).bind fun v9 => (if am_pOk 4 v7 h5 then am_cI true (fm_262 X N v7 v9 x1 h5) (fun v12 h13 => (if 0 ≤ v12 then ((am_vR (am_pG 2822 x0 h13)).bind fun v16 => ((am_vR (am_pG 2822 x0 h13)).bind fun v18 => ((am_vI (am_pG 1032 v18 h13)).bind fun v20 => ((am_vR (am_pG 2831 x0 h13)).bind fun v22 => (if am_pOk 4 v16 h13 then am_cV true (fm_91 N v16 4 v20 ((Int32.toInt64 v12)) v22 h13) (fun h26 => ((am_vR (am_pG 2831 x0 h26)).bind fun v28 => (if am_pOk 11 x0 h26 then am_cI true (fm_59 x0 v28 1 ((-1)) ((-1)) ((-1)) ((-1)) 0 h26) (fun v31 h32 => some (.inl (some (.int v31), h32))) else none))) else none))))) else some (.inl (some (.int (-1)), h13)))) else none)))) else none) else (fg_261_10 X N h))) = r_) : fg_261_0 X N x0 x1 h = r_ := k_
theorem hm_261 {X : am_X} {N : Nat} {y0 : Value} {y1 : Int32} {h : am_H} {r_ : Option am_O} (k_ : fg_261_0 X N y0 y1 h = r_) : fm_261 X N y0 y1 h = r_ := k_
theorem hd_262_124 {X : am_X} {N : Nat} {x3 : Int32} {h : am_H} {r_ : Option am_O} (k_ : some (.inl (some (.int x3), h)) = r_) : fg_262_124 X N x3 h = r_ := k_
theorem hd_262_117 {X : am_X} {N : Nat} {rec_61 : Value → Int32 → Int32 → Int32 → am_H → Option am_O} {x0 : Value} {x2 : Int32} {x4 : Int32} {s0 : Int32} {h : am_H} {r_ : Option am_O} (k_ : (rec_61 x0 x2 s0 ((x4 + 1)) h) = r_) : fg_262_117 X N rec_61 x0 x2 x4 s0 h = r_ := k_
theorem hd_262_114 {X : am_X} {N : Nat} {rec_61 : Value → Int32 → Int32 → Int32 → am_H → Option am_O} {x0 : Value} {x2 : Int32} {x4 : Int32} {s0 : Value} {s1 : Int32} {s2 : Int32} {h : am_H} {r_ : Option am_O} (k_ : (if am_pOk 4 s0 h then am_cI true (fm_266 X N s0 s1 s2 h) (fun v2 h3 => (fg_262_117 X N rec_61 x0 x2 x4 v2 h3)) else none) = r_) : fg_262_114 X N rec_61 x0 x2 x4 s0 s1 s2 h = r_ := k_
theorem hd_262_94 {X : am_X} {N : Nat} {rec_61 : Value → Int32 → Int32 → Int32 → am_H → Option am_O} {x0 : Value} {x2 : Int32} {x4 : Int32} {s0 : Value} {s1 : Int32} {h : am_H} {r_ : Option am_O} (k_ : (if am_pOk 4 s0 h then am_cI true (fm_263 N s0 s1 h) (fun v2 h3 => (fg_262_117 X N rec_61 x0 x2 x4 v2 h3)) else none) = r_) : fg_262_94 X N rec_61 x0 x2 x4 s0 s1 h = r_ := k_
theorem hd_262_61 {X : am_X} {N : Nat} {K : Nat} {x0 : Value} {x2 : Int32} {x3 : Int32} {x4 : Int32} {h : am_H} {r_ : Option am_O} (k_ : (if 0 ≤ x3 then (fg_262_124 X N x3 h) else (if x2 < x4 then (fg_262_124 X N x3 h) else ((am_pP 1032 x0 (.int x4) h).bind fun h3 => (if ¬ x4 = 1 then (if x2 ≤ x4 then (fg_262_114 X N (fg_262_61 X N K) x0 x2 x4 x0 x4 0 h3) else (fg_262_114 X N (fg_262_61 X N K) x0 x2 x4 x0 x4 1 h3)) else (if x2 ≤ 1 then (fg_262_94 X N (fg_262_61 X N K) x0 x2 x4 x0 0 h3) else (fg_262_94 X N (fg_262_61 X N K) x0 x2 x4 x0 1 h3)))))) = r_) : fg_262_61 X N (K + 1) x0 x2 x3 x4 h = r_ := by rw [fg_262_61]; exact k_
theorem hd_262_50 {X : am_X} {N : Nat} {rec_22 : Value → Int32 → Int32 → am_H → Option am_O} {x0 : Value} {x2 : Int32} {x3 : Int32} {h : am_H} {r_ : Option am_O} (k_ : (rec_22 x0 x2 ((x3 + 1)) h) = r_) : fg_262_50 X N rec_22 x0 x2 x3 h = r_ := k_
theorem hd_262_22 {X : am_X} {N : Nat} {K : Nat} {x0 : Value} {x2 : Int32} {x3 : Int32} {h : am_H} {r_ : Option am_O} (k_ : ((am_vI (am_pG 1030 x0 h)).bind fun v1 => (if v1 ≤ x3 then (fg_262_61 X N N x0 x2 ((-1)) 1 h) else ((am_vR (am_pG 1028 x0 h)).bind fun v4 => ((am_pAA v4 x3 h).bind fun v6 => ((am_pZ v6).bind fun b8 => if b8 = true then ((am_vR (am_pG 1028 x0 h)).bind fun v10 => ((am_pNew 1 7070 h).bind fun h12 => ((am_pSA v10 x3 (Value.ref h.length) h12).bind fun h14 => (fg_262_50 X N (fg_262_22 X N K) x0 x2 x3 h14)))) else (fg_262_50 X N (fg_262_22 X N K) x0 x2 x3 h)))))) = r_) : fg_262_22 X N (K + 1) x0 x2 x3 h = r_ := by rw [fg_262_22]; exact k_
theorem hd_262_0 {X : am_X} {N : Nat} {x0 : Value} {x1 : Value} {x2 : Int32} {h : am_H} {r_ : Option am_O} (k_ : ((am_pP 1031 x0 x1 h).bind fun h1 => ((am_vR (am_pG 1031 x0 h1)).bind fun v3 => ((am_vR (am_pG 1029 x0 h1)).bind fun v5 => (if am_pOk 2 v3 h1 then am_cI true (fm_219 N v3 v5 h1) (fun v8 h9 => ((am_pP 1030 x0 (.int v8) h9).bind fun h11 => (fg_262_22 X N N x0 x2 0 h11))) else none)))) = r_) : fg_262_0 X N x0 x1 x2 h = r_ := k_
theorem hm_262 {X : am_X} {N : Nat} {y0 : Value} {y1 : Value} {y2 : Int32} {h : am_H} {r_ : Option am_O} (k_ : fg_262_0 X N y0 y1 y2 h = r_) : fm_262 X N y0 y1 y2 h = r_ := k_
set_option maxRecDepth 100000 in
set_option maxHeartbeats 4000000 in
theorem c_219k {L : Nat → Nat → Int64} {R : Nat → Nat → Option Nat} {tl : am_H} {I0 : Nat → Nat → Int32} {V : Nat → Nat → Value} {N m : Nat} : ∀ (q k K : Nat) (I : Nat → Nat → Int32), k + q = m → q < K → csK V I I0 m → scK I0 k (I 88) → ∃ F, fg_219_4 N K (.ref 14) (.ref 88) (nI (snN I0 k)) (nI k) (fx V I L R ++ tl) = some (.inl (some (.int (nI (snN I0 m))), fx V (iup I 88 F) L R ++ tl)) ∧ scK I0 m F := by
  intro q
  induction q with
  | zero =>
    intro k K I hk hK hc hs
    obtain ⟨K, rfl⟩ : ∃ k, K = k + 1 := ⟨K - 1, by omega⟩
    obtain rfl : k = m := by omega
    refine ⟨I 88, ?_, hs⟩
    rw [fg_219_4, iup_self]
    exact ev_b (rdI hc.1) (ev_t (nI_le (Nat.le_refl _) (by have := hc.2.2.1; omega)) rfl)
  | succ q ih =>
    intro k K I hk hK hc hs
    obtain ⟨K, rfl⟩ : ∃ k, K = k + 1 := ⟨K - 1, by omega⟩
    have hc' := hc
    obtain ⟨v1, v2, m24, i15, i197, cok⟩ := hc
    have sl := snN_le (I0 := I0) k
    have e41 := c_141 (V := V) (I := I) (L := L) (R := R) (tl := tl) (k := k) (h := 0) (by omega) (cOk_c i15 i197 (cok k (by omega))) (.inl rfl)
    rw [i197 202 (by omega) (by omega)] at e41
    by_cases c : I0 202 k = 0
    · rw [if_pos c] at e41
      have hc2 : csK V (iup I 88 (upd (I 88) (snN I0 k) (nI k))) I0 m := ⟨v1, v2, m24, (iup_na (by omega)).trans i15, fun y h1 h2 => (iup_na (by omega)).trans (i197 y h1 h2), cok⟩
      obtain ⟨F, e, g⟩ := ih (k + 1) K (iup I 88 (upd (I 88) (snN I0 k) (nI k))) (by omega) (by omega) hc2 (fun j hj ej => by
        rw [iup_eq]
        by_cases d : j = k
        · subst d; exact upd_eq
        · have hj2 : snN I0 j < snN I0 k := by
            have mono : ∀ a b, a ≤ b → snN I0 a ≤ snN I0 b := fun a b hab => by
              obtain ⟨t, rfl⟩ : ∃ t, b = a + t := ⟨b - a, by omega⟩
              clear hab
              induction t with
              | zero => exact Nat.le_refl _
              | succ t iht =>
                show snN I0 a ≤ snN I0 (a + t) + seN I0 (a + t)
                omega
            have := mono (j + 1) k (by omega)
            rw [snN_p ej] at this
            omega
          rw [upd_ne (by omega)]
          exact hs j (by omega) ej)
      rw [iup_iup, snN_p c] at e
      refine ⟨F, ?_, g⟩
      rw [fg_219_4]
      refine ev_b (rdI v1) (ev_f (nI_ge (by omega) (by omega)) (ev_b ql_88 (ev_f (nI_ge (by omega) (by omega)) (ev_i rfl (ev_cI e41 (ev_f (by decide) (ev_b (qs_88 (by omega)) ?_)))))))
      unfold fg_219_34
      rw [nI_1, nI_1]
      exact e
    · rw [if_neg c] at e41
      obtain ⟨F, e, g⟩ := ih (k + 1) K I (by omega) (by omega) hc' (fun j hj ej => hs j (by
        by_cases d : j = k
        · subst d; exact absurd ej c
        · omega) ej)
      rw [snN_n c] at e
      refine ⟨F, ?_, g⟩
      rw [fg_219_4]
      refine ev_b (rdI v1) (ev_f (nI_ge (by omega) (by omega)) (ev_b ql_88 (ev_f (nI_ge (by omega) (by omega)) (ev_i rfl (ev_cI e41 (ev_t rfl ?_))))))
      unfold fg_219_34
      rw [nI_1]
      exact e

theorem rb_all {o : Nat → Option Int32} {w : Nat → Int32} : ∀ (t k : Nat), rb o w t k = true ↔ ∀ j, k ≤ j → j < k + t → o j = some (w j) := by
  intro t
  induction t with
  | zero => intro k; exact ⟨fun _ j h1 h2 => absurd h2 (by omega), fun _ => rfl⟩
  | succ t ih =>
    intro k
    show (decide (o k = some (w k)) && rb o w t (k + 1)) = true ↔ _
    rw [Bool.and_eq_true, decide_eq_true_iff, ih]
    constructor
    · intro h j h1 h2
      by_cases c : j = k
      · rw [c]; exact h.1
      · exact h.2 j (by omega) (by omega)
    · intro h
      exact ⟨h k (Nat.le_refl k) (by omega), fun j h1 h2 => h j (by omega) (by omega)⟩
theorem sn_mono {I : Nat → Nat → Int32} {a b : Nat} (h : a ≤ b) : snN I a ≤ snN I b := by
  obtain ⟨t, rfl⟩ : ∃ t, b = a + t := ⟨b - a, by omega⟩
  clear h
  induction t with
  | zero => exact Nat.le_refl _
  | succ t ih =>
    show snN I a ≤ snN I (a + t) + seN I (a + t)
    omega
/-- right at all seen cases, by the cases themselves -/
def rtA (I : Nat → Nat → Int32) (m0 n p : Nat) : Prop := ∀ j, j < m0 → I 202 j = 0 → vC I j n p = some (I 200 j)
theorem rt_all {I : Nat → Nat → Int32} {m0 n p : Nat} {F : Nat → Int32} (h24 : m0 ≤ 24) (hF : scK I m0 F) : rtB I (snN I m0) (clN F) n p = true ↔ rtA I m0 n p := by
  unfold rtB
  rw [rb_all]
  constructor
  · intro h j hj h2
    have h3 := sn_mono (I := I) (a := j + 1) (b := m0) (by omega)
    rw [snN_p h2] at h3
    have := h (snN I j) (by omega) (by omega)
    rw [clN_at (hF j hj h2) (by omega)] at this
    exact this
  · intro h k _ hk
    obtain ⟨s1, s2, -, -⟩ := sc_at hF h24 (q := k) (by omega)
    exact h _ s1 s2
/-- the first right tree of sizes up to a most -/
def fstT (I : Nat → Nat → Int32) (m0 most sz p : Nat) : Prop := 1 ≤ sz ∧ sz ≤ most ∧ p < uT 4 sz ∧ rtA I m0 sz p ∧ (∀ q, q < p → ¬ rtA I m0 sz q) ∧ ∀ n, 1 ≤ n → n < sz → ∀ q, q < uT 4 n → ¬ rtA I m0 n q
def nonT (I : Nat → Nat → Int32) (m0 most : Nat) : Prop := ∀ n, 1 ≤ n → n ≤ most → ∀ q, q < uT 4 n → ¬ rtA I m0 n q
/-- tables for search, p of them -/
def rTb (R : Nat → Nat → Option Nat) (tl : am_H) (p : Nat) : Prop := p ≤ 24 ∧ (∀ k, k < p → ∃ (a : Nat) (f : Nat → Int64), R 87 k = some (269 + a) ∧ tl[a]? = some (.inl (1, 7070, .inr (.inl f)))) ∧ ((∀ k, p ≤ k → R 87 k = none) ∧ ∀ k k', k < p → k' < p → R 87 k = R 87 k' → k = k')
set_option maxRecDepth 100000 in
set_option maxHeartbeats 4000000 in
theorem c_262t {V : Nat → Nat → Value} {I : Nat → Nat → Int32} {L : Nat → Nat → Int64} {X : am_X} {N m n jj : Nat} {x2 : Int32} {R0 : Nat → Nat → Option Nat} {t0 : am_H} (h6 : V 76 6 = .int (nI m)) (m24 : m ≤ 24) : ∀ (t k K p : Nat) (R : Nat → Nat → Option Nat) (tl : am_H), k + t = m → t < K → k ≤ p → rTb R tl p → room tl n p jj → (∀ y, y ≠ 87 → R y = R0 y) → (∃ u, tl = t0 ++ u) → ∃ R' tl' p', fg_262_22 X N K (.ref 76) x2 (nI k) (fx V I L R ++ tl) = fg_262_61 X N N (.ref 76) x2 (-1) 1 (fx V I L R' ++ tl') ∧ m ≤ p' ∧ rTb R' tl' p' ∧ room tl' n p' jj ∧ (∀ y, y ≠ 87 → R' y = R0 y) ∧ ∃ u, tl' = t0 ++ u := by
  intro t
  induction t with
  | zero =>
    intro k K p R tl hk hK hp hT hm hR hu
    obtain ⟨K, rfl⟩ : ∃ k, K = k + 1 := ⟨K - 1, by omega⟩
    refine ⟨R, tl, p, ?_, by omega, hT, hm, hR, hu⟩
    apply hd_262_22
    exact ev_b (rdI h6) (ev_t (nI_le (by omega) (by omega)) rfl)
  | succ t ih =>
    intro k K p R tl hk hK hp hT hm hR hu
    obtain ⟨K, rfl⟩ : ∃ k, K = k + 1 := ⟨K - 1, by omega⟩
    obtain ⟨p24, T1, T2, T3⟩ := hT
    by_cases c : k < p
    · obtain ⟨a, f, q1, q2⟩ := T1 k c
      have g : am_pAA (.ref 87) (nI k) (fx V I L R ++ tl) = some (.ref (269 + a)) := by
        rw [ev_A (f := R 87) (n := 24) (t := 6) rfl rfl (am_inb_n (by omega) (by omega)), nI_clamp (by omega), q1]
        rfl
      obtain ⟨R', tl', p', e, r⟩ := ih (k + 1) K p R tl (by omega) (by omega) (by omega) ⟨p24, T1, T2, T3⟩ hm hR hu
      refine ⟨R', tl', p', ?_, r⟩
      rw [← e]
      apply hd_262_22
      refine ev_b (rdI h6) (ev_f (nI_ge (by omega) (by omega)) (ev_b (rdR rfl) (ev_b g (ev_b (a := false) rfl (ev_f (by decide) ?_)))))
      apply hd_262_50
      rw [nI_1]
    · obtain rfl : k = p := by omega
      have g : am_pAA (.ref 87) (nI k) (fx V I L R ++ tl) = some Value.null := by
        rw [ev_A (f := R 87) (n := 24) (t := 6) rfl rfl (am_inb_n (by omega) (by omega)), nI_clamp (by omega), T2 k (Nat.le_refl k)]
        rfl
      obtain ⟨A, eA⟩ : ∃ A : am_E, A = .inl (1, 7070, .inr (.inl (fun _ => 0))) := ⟨_, rfl⟩
      have e1 : am_pNew 1 7070 (fx V I L R ++ tl) = some (fx V I L R ++ (tl ++ [A])) := by
        rw [← List.append_assoc, eA]
        rfl
      have hl : (fx V I L R ++ tl).length = 269 + tl.length := by rw [List.length_append, fx_len]
      have e2 : am_pSA (.ref 87) (nI k) (.ref (fx V I L R ++ tl).length) (fx V I L R ++ (tl ++ [A])) = some (fx V I L (rup R 87 (va_up (R 87) k (some (269 + tl.length)))) ++ (tl ++ [A])) := by
        rw [hl]
        refine ev_sA (f := R 87) (t := 6) (n := 24) (ev := A) rfl ?_ ?_ ?_
        · rw [tl_at, List.getElem?_append_right (Nat.le_refl _), Nat.sub_self]
          rfl
        · rw [eA, am_inb_n (by omega) (by omega)]
          rfl
        · rw [nI_clamp (by omega)]
          rfl
      have hR2 : ∀ y, y ≠ 87 → rup R 87 (va_up (R 87) k (some (269 + tl.length))) y = R0 y := fun y hy => (rup_na hy).trans (hR y hy)
      have hT' : rTb (rup R 87 (va_up (R 87) k (some (269 + tl.length)))) (tl ++ [A]) (k + 1) := by
        refine ⟨by omega, fun j hj => ?_, fun j hj => ?_, fun j j' h1 h2 h3 => ?_⟩
        · rw [rup_eq]
          by_cases d : j = k
          · subst d
            exact ⟨tl.length, fun _ => 0, va_eq, by rw [List.getElem?_append_right (Nat.le_refl _), Nat.sub_self, eA]; rfl⟩
          · obtain ⟨a, f, q1, q2⟩ := T1 j (by omega)
            exact ⟨a, f, by rw [va_ne d]; exact q1, get_app q2⟩
        · rw [rup_eq, va_ne (by omega)]
          exact T2 j (by omega)
        · rw [rup_eq] at h3
          have low : ∀ i, i < k → R 87 i ≠ some (269 + tl.length) := fun i hi e => by
            obtain ⟨a, f, q1, q2⟩ := T1 i hi
            have hlt := (List.getElem?_eq_some_iff.mp q2).1
            rw [q1] at e
            have := Option.some.inj e
            omega
          by_cases d : j = k
          · by_cases d' : j' = k
            · omega
            · rw [d, va_eq, va_ne d'] at h3
              exact absurd h3.symm (low j' (by omega))
          · by_cases d' : j' = k
            · rw [d', va_eq, va_ne d] at h3
              exact absurd h3 (low j (by omega))
            · rw [va_ne d, va_ne d'] at h3
              exact T3 j j' (by omega) (by omega) h3
      have hm' : room (tl ++ [A]) n (k + 1) jj := by
        obtain ⟨r1, r2⟩ := hm
        refine ⟨by rw [List.length_append]; show tl.length + 1 ≤ _; omega, ?_⟩
        rw [am_sz_push, eA]
        show am_sz tl + 7070 ≤ _
        omega
      obtain ⟨u, eu⟩ := hu
      obtain ⟨R', tl', p', e, r⟩ := ih (k + 1) K (k + 1) _ _ (by omega) (by omega) (Nat.le_refl _) hT' hm' hR2 ⟨u ++ [A], by rw [eu, List.append_assoc]⟩
      refine ⟨R', tl', p', ?_, r⟩
      rw [← e]
      apply hd_262_22
      refine ev_b (rdI h6) (ev_f (nI_ge (by omega) (by omega)) (ev_b (rdR rfl) (ev_b g (ev_b (a := true) rfl (ev_t rfl (ev_b (rdR rfl) (ev_b e1 (ev_b e2 ?_))))))))
      apply hd_262_50
      rw [nI_1]
set_option maxRecDepth 100000 in
set_option maxHeartbeats 4000000 in
theorem c_262l {I : Nat → Nat → Int32} {L : Nat → Nat → Int64} {R : Nat → Nat → Option Nat} {Ln : Nat} {xs : Nat → Int32} {N m0 most : Nat} {a : Nat → Nat} {G : Nat → Int32} {tl0 : am_H} (hN : 200000 < N) (h24 : m0 ≤ 24) (hF : scK I m0 G) (hi : ∀ k k', k < snN I m0 → k' < snN I m0 → a k = a k' → k = k') (m5 : most ≤ 5) : ∀ (t n K : Nat) (V : Nat → Nat → Value) (tl : am_H) (F : Nat → Nat → Int64), n + t = most + 1 → 1 ≤ n → t < K → csS V I (snN I m0) (clN G) → wt V → tbl R tl (snN I m0) a F → tlq a (snN I m0) tl0 tl → (∀ k, k < snN I m0 → lowK I (clN G) n k (F k)) → (∀ n', 1 ≤ n' → n' < n → ∀ q, q < uT 4 n' → ¬ rtA I m0 n' q) → ∃ W tl' F' x, fg_262_61 (am_X0 Ln xs) N K (.ref 76) (nI most) (-1) (nI n) (fx V I L R ++ tl) = some (.inl (some (.int x), fx W I L R ++ tl')) ∧ tbl R tl' (snN I m0) a F' ∧ tlq a (snN I m0) tl0 tl' ∧ (∀ y j, ¬ (y = 76 ∧ j = 8) → W y j = V y j) ∧ wt W ∧ ((x = -1 ∧ nonT I m0 most) ∨ ∃ sz p, x = nI p ∧ W 76 8 = .int (nI sz) ∧ fstT I m0 most sz p) := by
  intro t
  induction t with
  | zero =>
    intro n K V tl F hn n1 hK hc hw ht hq hl hs
    obtain ⟨K, rfl⟩ : ∃ k, K = k + 1 := ⟨K - 1, by omega⟩
    refine ⟨V, tl, F, -1, ?_, ht, hq, fun _ _ _ => rfl, hw, .inl ⟨rfl, fun n' h1 h2 => hs n' h1 (by omega)⟩⟩
    apply hd_262_61
    exact ev_f (by decide) (ev_t (nI_lt (by omega) (by omega)) (hd_262_124 rfl))
  | succ t ih =>
    intro n K V tl F hn n1 hK hc hw ht hq hl hs
    obtain ⟨K, rfl⟩ : ∃ k, K = k + 1 := ⟨K - 1, by omega⟩
    obtain ⟨V1, eV1⟩ : ∃ X, X = vup V 76 8 (.int (nI n)) := ⟨_, rfl⟩
    have v1 : ∀ y j, ¬ (y = 76 ∧ j = 8) → V1 y j = V y j := fun y j h => by rw [eV1]; exact vup_o h
    have w1 : wt V1 := by rw [eV1]; exact wt_i hw (by decide)
    have hc1 : csS V1 I (snN I m0) (clN G) := ⟨(v1 76 6 (by decide)).trans hc.1, (v1 76 7 (by decide)).trans hc.2.1, hc.2.2⟩
    obtain ⟨kp, ekp⟩ : ∃ kp : Bool, kp = decide (n < most) := ⟨_, rfl⟩
    have hk4 : kp = true → n ≤ 4 := fun h => by
      rw [ekp, decide_eq_true_iff] at h
      omega
    have hst : stS I R (snN I m0) (clN G) a kp n 0 tl0 tl F := ⟨ht, hq, hl, fun _ k _ p hp => absurd hp (by omega), fun p hp => absurd hp (by omega)⟩
    have nr : ∀ (P : Nat), scn I (snN I m0) (clN G) n P → ∀ q, q < P → ¬ rtA I m0 n q := fun P h q hq' hr => by
      have := h q hq'
      rw [(rt_all h24 hF).mpr hr] at this
      cases this
    have dich2 : ∃ run, fg_262_61 (am_X0 Ln xs) N (K + 1) (.ref 76) (nI most) (-1) (nI n) (fx V I L R ++ tl) = am_cI true run (fun v2 h3 => fg_262_61 (am_X0 Ln xs) N K (.ref 76) (nI most) v2 (nI (n + 1)) h3) ∧ (fndS V1 I L R (snN I m0) (clN G) a n tl0 (uT 4 n) run ∨ ∃ tl' F', stS I R (snN I m0) (clN G) a kp n (uT 4 n) tl0 tl' F' ∧ run = some (.inl (some (.int (-1)), fx V1 I L R ++ tl'))) := by
      have p8 : am_pP 1032 (.ref 76) (.int (nI n)) (fx V I L R ++ tl) = some (fx V1 I L R ++ tl) := by rw [eV1]; exact qp_76_8
      by_cases c1 : n = 1
      · subst c1
        refine ⟨fm_263 N (.ref 76) (bI kp) (fx V1 I L R ++ tl), ?_, ?_⟩
        · apply hd_262_61
          refine ev_f (by decide) (ev_f (nI_nlt (by omega) (by omega)) (ev_b p8 (ev_f (fun q => q rfl) ?_)))
          by_cases c2 : 1 < most
          · rw [show kp = true by rw [ekp]; exact decide_eq_true c2]
            refine ev_f (nI_ge (a := 1) c2 (by omega)) ?_
            apply hd_262_94
            refine ev_i rfl ?_
            congr 1
          · rw [show kp = false by rw [ekp]; exact decide_eq_false c2]
            refine ev_t (nI_le (b := 1) (by omega) (by omega)) ?_
            apply hd_262_94
            refine ev_i rfl ?_
            congr 1
        · have h := c_263l (V := V1) (I := I) (L := L) (R := R) (tl0 := tl0) (N := N) (cN := clN G) (a := a) (kp := kp) hN hc1 hi 14 0 N tl F (by omega) (by omega) hst
          rw [u4_t.1]
          rcases h with h | ⟨tl', F', h1, h2⟩
          · exact .inl h
          · exact .inr ⟨tl', F', h1, hm_263 (hd_263_0 h2)⟩
      · refine ⟨fm_266 (am_X0 Ln xs) N (.ref 76) (nI n) (bI kp) (fx V1 I L R ++ tl), ?_, c_266 hN hc1 hi (by omega) (by omega) hk4 hst⟩
        apply hd_262_61
        refine ev_f (by decide) (ev_f (nI_nlt (by omega) (by omega)) (ev_b p8 (ev_t (fun q => c1 ((nI_eq (b := 1) (by omega) (by omega)).mp q)) ?_)))
        by_cases c2 : n < most
        · rw [show kp = true by rw [ekp]; exact decide_eq_true c2]
          refine ev_f (nI_ge c2 (by omega)) ?_
          apply hd_262_114
          refine ev_i rfl ?_
          congr 1
          funext v h
          apply hd_262_117
          rw [nI_1]
        · rw [show kp = false by rw [ekp]; exact decide_eq_false c2]
          refine ev_t (nI_le (by omega) (by omega)) ?_
          apply hd_262_114
          refine ev_i rfl ?_
          congr 1
          funext v h
          apply hd_262_117
          rw [nI_1]
    obtain ⟨run, e0, h⟩ := dich2
    rw [e0]
    have ub := uT4_b n (by omega)
    rcases h with ⟨tl', F', P1, hP, er, t2, q2, hr, hsc⟩ | ⟨tl', F', ⟨t2, q2, l2, f2, s2⟩, er⟩
    · rw [er]
      refine ⟨V1, tl', F', nI P1, ?_, t2, q2, v1, w1, .inr ⟨n, P1, rfl, by rw [eV1]; exact vup_eq, n1, by omega, hP, (rt_all h24 hF).mp hr, nr P1 hsc, hs⟩⟩
      obtain ⟨K, rfl⟩ : ∃ k, K = k + 1 := ⟨K - 1, by omega⟩
      show fg_262_61 (am_X0 Ln xs) N (K + 1) (.ref 76) (nI most) (nI P1) (nI (n + 1)) (fx V1 I L R ++ tl') = _
      apply hd_262_61
      exact ev_t (nI_pos' (by omega)) (hd_262_124 rfl)
    · rw [er]
      show ∃ W tl'' F'' x, fg_262_61 (am_X0 Ln xs) N K (.ref 76) (nI most) (-1) (nI (n + 1)) (fx V1 I L R ++ tl') = _ ∧ _
      by_cases cm : n = most
      · -- the last size: no table is kept, none is wanted
        obtain ⟨K, rfl⟩ : ∃ k, K = k + 1 := ⟨K - 1, by omega⟩
        refine ⟨V1, tl', F', -1, ?_, t2, q2, v1, w1, .inl ⟨rfl, fun n' h1 h2 q hq' => ?_⟩⟩
        · apply hd_262_61
          exact ev_f (by decide) (ev_t (nI_lt (by omega) (by omega)) (hd_262_124 rfl))
        · by_cases z : n' = n
          · rw [z] at hq' ⊢
            exact nr _ s2 q hq'
          · exact hs n' h1 (by omega) q hq'
      · have hk : kp = true := by rw [ekp]; exact decide_eq_true (by omega)
        obtain ⟨W, tl2, F2, x, e2, t3, q3, v3, w3, r3⟩ := ih (n + 1) K V1 tl' F' (by omega) (by omega) (by omega) hc1 w1 t2 q2 (fun k hk' n' h1 h2 p hp => by
          by_cases z : n' = n
          · rw [z] at hp ⊢
            exact f2 hk k hk' p hp
          · exact l2 k hk' n' h1 (by omega) p hp) (fun n' h1 h2 q hq' => by
          by_cases z : n' = n
          · rw [z] at hq' ⊢
            exact nr _ s2 q hq'
          · exact hs n' h1 (by omega) q hq')
        exact ⟨W, tl2, F2, x, e2, t3, q3, fun y j h => (v3 y j h).trans (v1 y j h), w3, r3⟩
