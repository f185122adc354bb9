/-! ===== the shape of a tree, by the class's changer ===== -/

set_option maxRecDepth 100000 in
set_option maxHeartbeats 1600000 in
theorem c_77i_94 {V : Nat → Nat → Value} {I : Nat → Nat → Int32} {L : Nat → Nat → Int64} {R : Nat → Nat → Option Nat} {tl : am_H} {N k m a : Nat} {l r : List (Nat × Nat)} {x : Nat × Nat} {g : Nat → Int32} {rc : Value → Value → Int32 → am_H → Option am_O} (h7 : V 94 7 = .int (nI l.length)) (hl : l.length ≤ 60) (hd : l.drop k = x :: r) (hF : isF (m + arN x.1) r) (hg : ∀ j, k < j → j < l.length → g j = nI (enL l j)) : ∀ (q p K : Nat), p + q = arN x.1 → q < K → fg_77_39 N rc K (.ref 94) (.ref a) (nI k) (nI (k + 1 + tk p r)) (nI q) (fx V (iup I 95 g) L R ++ tl) = rc (.ref 94) (.ref a) (nI k + (-1)) (fx V (iup I 95 (upd g k (nI (enL l k)))) L R ++ tl) := by
  have hlen := drop_len hd
  have ha := ar_le x.1
  intro q
  induction q with
  | zero =>
    intro p K hp hK
    obtain ⟨K, rfl⟩ : ∃ k, K = k + 1 := ⟨K - 1, by omega⟩
    have e : k + 1 + tk p r = enL l k := by
      unfold enL
      rw [hd, show (1 : Nat) = 0 + 1 from rfl, tk_c, show 0 + arN x.1 = p by omega]
      omega
    rw [fg_77_39, e]
    exact ev_t (by decide) (ev_b (a := Value.ref 95) rfl (ev_b (a := fx V (iup I 95 (upd g k (nI (enL l k)))) L R ++ tl) (ev_s (f := g) (n := 60) rfl (am_inb_n (by omega) (by omega)) rfl (by rw [nI_clamp (by omega)]; rfl)) rfl))
  | succ q ih =>
    intro p K hp hK
    obtain ⟨K, rfl⟩ : ∃ k, K = k + 1 := ⟨K - 1, by omega⟩
    have lt := part_lt hd hF (show p < arN x.1 by omega)
    have e : g (k + 1 + tk p r) = nI (k + 1 + tk (p + 1) r) := by
      rw [hg _ (by omega) lt]
      unfold enL
      rw [drop_s hd, tk_add r p 1]
      congr 1
      omega
    rw [fg_77_39]
    refine ev_f (nI_nle (by omega) (by omega)) (ev_b (a := nI l.length) (by show am_vI (some (V 94 7)) = _; rw [h7]; rfl) (ev_f (nI_ge lt (by omega)) (ev_b (a := Value.ref 95) rfl (ev_b (a := nI (k + 1 + tk (p + 1) r)) ((ev_a (f := g) (n := 60) rfl (am_inb_n (by omega) (by omega))).trans (by rw [nI_clamp (by omega), e])) ?_))))
    unfold fg_77_65
    rw [nI_m1]
    exact ih (p + 1) K (by omega) (by omega)
set_option maxRecDepth 100000 in
set_option maxHeartbeats 1600000 in
theorem c_77o_94 {V : Nat → Nat → Value} {I : Nat → Nat → Int32} {L : Nat → Nat → Int64} {R : Nat → Nat → Option Nat} {tl : am_H} {N a it kd ln m0 : Nat} {f : Nat → Int32} {l : List (Nat × Nat)} (hN : 100 < N) (hk0 : kd ≠ 2) (hp : prA V I tl a it kd ln l.length m0 f) (ha : a ≠ 94) (hit : it ≠ 95) (hm0 : l.length * wdN kd ≤ m0) (hm1 : m0 ≤ 1000) (h7 : V 94 7 = .int (nI l.length)) (hl : l.length ≤ 60) (hS : ∀ k x r, l.drop k = x :: r → f (k * 2) = nI x.1 ∧ x.1 ≤ 20) (hF : isF 1 l) : ∀ (k K : Nat) (g : Nat → Int32), k ≤ l.length → k < K → (∀ j, k ≤ j → j < l.length → g j = nI (enL l j)) → ∃ g', (∀ j, j < l.length → g' j = nI (enL l j)) ∧ fg_77_20 N K (.ref 94) (.ref a) (nI k + (-1)) (fx V (iup I 95 g) L R ++ tl) = some (.inl (none, fx V (iup I 95 g') L R ++ tl)) := by
  have w2 : wdN kd = 2 := if_neg hk0
  intro k
  induction k with
  | zero =>
    intro K g hk hK hg
    obtain ⟨K, rfl⟩ : ∃ k, K = k + 1 := ⟨K - 1, by omega⟩
    refine ⟨g, fun j hj => hg j (by omega) hj, ?_⟩
    rw [fg_77_20]
    exact ev_t (by decide) rfl
  | succ k ih =>
    intro K g hk hK hg
    obtain ⟨K, rfl⟩ : ∃ k, K = k + 1 := ⟨K - 1, by omega⟩
    obtain ⟨x, r, m, hd, hm⟩ := isF_at hF (show k < l.length by omega)
    obtain ⟨s1, s2⟩ := hS k x r hd
    have har := ar_le x.1
    have hpg := hp V (iup I 95 g) L R (fun j => rfl) (iup_na hit)
    have g0 := c_54 (k := k) (w := 0) hpg hm0 hm1 hl (by omega) (by omega)
    rw [w2, Nat.add_zero, s1] at g0
    obtain ⟨x1, x2, x3, x4, x5, x6, p1, p2⟩ := hpg
    have e := c_77i_94 (V := V) (I := I) (L := L) (R := R) (tl := tl) (N := N) (a := a) (rc := fg_77_20 N K) h7 hl hd hm (fun j h1 h2 => hg j (by omega) h2) (arN x.1) 0 N (by omega) (by omega)
    rw [tk_0, Nat.add_zero] at e
    obtain ⟨g', h1, h2⟩ := ih K (upd g k (nI (enL l k))) (by omega) (by omega) (fun j j1 j2 => by
      by_cases c : j = k
      · rw [c]; exact upd_eq
      · rw [upd_ne c]; exact hg j (by omega) j2)
    refine ⟨g', h1, ?_⟩
    rw [fg_77_20, nI_m1]
    refine ev_f (nI_pos (by omega)) (ev_i (ev_ok p1) (ev_cI g0 (ev_cI (pe_14 _ _) ?_)))
    rw [show pv_14 (nI x.1) = nI (arN x.1) from ar14 x.1 (by omega), nI_1]
    exact e.trans h2
set_option maxRecDepth 100000 in
set_option maxHeartbeats 1600000 in
theorem c_77_94 {V : Nat → Nat → Value} {I : Nat → Nat → Int32} {L : Nat → Nat → Int64} {R : Nat → Nat → Option Nat} {tl : am_H} {N a it kd ln m0 : Nat} {f : Nat → Int32} {l : List (Nat × Nat)} (hN : 100 < N) (hk0 : kd ≠ 2) (hp : prA V I tl a it kd ln l.length m0 f) (ha : a ≠ 94) (hit : it ≠ 95) (hm0 : l.length * wdN kd ≤ m0) (hm1 : m0 ≤ 1000) (hl : l.length ≤ 60) (hS : ∀ k x r, l.drop k = x :: r → f (k * 2) = nI x.1 ∧ x.1 ≤ 20) (hF : isF 1 l) : ∃ g', (∀ j, j < l.length → g' j = nI (enL l j)) ∧ fm_77 N (.ref 94) (.ref a) (fx V I L R ++ tl) = some (.inl (none, fx (vup V 94 7 (.int (nI l.length))) (iup I 95 g') L R ++ tl)) := by
  obtain ⟨x1, x2, x3, x4, x5, x6, p1, p2⟩ := hp V I L R (fun j => rfl) rfl
  obtain ⟨g', h1, h2⟩ := c_77o_94 (V := vup V 94 7 (.int (nI l.length))) (I := I) (L := L) (R := R) (tl := tl) (N := N) hN hk0 (fun W J L' R' hW hJ => hp W J L' R' (fun j => (hW j).trans (vup_na ha)) hJ) ha hit hm0 hm1 vup_eq hl hS hF l.length N (I 95) (Nat.le_refl _) (by omega) (fun j j1 j2 => by omega)
  refine ⟨g', h1, ?_⟩
  rw [iup_self] at h2
  unfold fm_77 fg_77_0
  refine ev_b (ev_gI p1 rfl rfl) (ev_cI (pe_38 _ _ _) ?_)
  rw [show pv_38 (nI l.length) 60 = nI l.length from if_neg (fun e => nI_nlt (a := 60) hl (by omega) e)]
  refine ev_b qp_94_7 (ev_b (a := nI l.length) rfl ?_)
  rw [Int32.sub_eq_add_neg]
  exact h2

set_option maxRecDepth 100000 in
set_option maxHeartbeats 1600000 in
theorem c_78b_94 {V : Nat → Nat → Value} {I : Nat → Nat → Int32} {L : Nat → Nat → Int64} {R : Nat → Nat → Option Nat} {tl : am_H} {N k at' p x nx' : Nat} {b c1 c2 : Bool} {t fo lo : Nat → Int32} {rc : Value → Int32 → Int32 → Int32 → Int32 → am_H → Option am_O} (hk : k < 60) (ha : at' < 60) (hx : x < 30) (hp : p < 30) (hc1 : lo k = nI c1.toNat) (hc2 : lo at' = nI c2.toNat) (hn : I 95 at' = nI nx') : fg_78_121 N rc (.ref 94) (nI k) (nI x) (nI at') (nI p) (.ref 99) (nI k) (nI b.toNat) (fx V (iup (iup (iup I 97 t) 99 fo) 100 lo) L R ++ tl) = rc (.ref 94) (nI k) (nI x) (nI nx') (nI (p + 1)) (fx V (iup (iup (iup I 97 t) 99 (upd fo k (nI b.toNat))) 100 (upd lo k (nI (c1 || (c2 && !(decide (x = 19 ∧ p = 1)))).toNat))) L R ++ tl) := by
  have rk : am_pA 2 (.ref 100) (nI k) (fx V (iup (iup (iup I 97 t) 99 (upd fo k (nI b.toNat))) 100 lo) L R ++ tl) = some (nI c1.toNat) := (ev_a (f := lo) (n := 60) rfl (am_inb_n (by omega) (by omega))).trans (by rw [nI_clamp (by omega), hc1])
  have ra : am_pA 2 (.ref 100) (nI at') (fx V (iup (iup (iup I 97 t) 99 (upd fo k (nI b.toNat))) 100 lo) L R ++ tl) = some (nI c2.toNat) := (ev_a (f := lo) (n := 60) rfl (am_inb_n (by omega) (by omega))).trans (by rw [nI_clamp (by omega), hc2])
  have fin : ∀ w : Bool, w = (c1 || (c2 && !(decide (x = 19 ∧ p = 1)))) → fg_78_162 N rc (.ref 94) (nI k) (nI x) (nI at') (nI p) (.ref 100) (nI k) (nI w.toNat) (fx V (iup (iup (iup I 97 t) 99 (upd fo k (nI b.toNat))) 100 lo) L R ++ tl) = rc (.ref 94) (nI k) (nI x) (nI nx') (nI (p + 1)) (fx V (iup (iup (iup I 97 t) 99 (upd fo k (nI b.toNat))) 100 (upd lo k (nI (c1 || (c2 && !(decide (x = 19 ∧ p = 1)))).toNat))) L R ++ tl) := fun w hw => by
    unfold fg_78_162
    rw [nI_1, hw]
    refine ev_b (a := fx V (iup (iup (iup I 97 t) 99 (upd fo k (nI b.toNat))) 100 (upd lo k (nI (c1 || (c2 && !(decide (x = 19 ∧ p = 1)))).toNat))) L R ++ tl) (ev_s (f := lo) (n := 60) rfl (am_inb_n (by omega) (by omega)) (afB _) (by rw [nI_clamp (by omega)]; rfl)) ?_
    exact ev_b (a := Value.ref 95) rfl (ev_b (a := nI nx') ((ev_a (f := I 95) (n := 60) rfl (am_inb_n (by omega) (by omega))).trans (by rw [nI_clamp (by omega), hn])) rfl)
  unfold fg_78_121
  refine ev_b (a := fx V (iup (iup (iup I 97 t) 99 (upd fo k (nI b.toNat))) 100 lo) L R ++ tl) (ev_s (f := fo) (n := 60) rfl (am_inb_n (by omega) (by omega)) (afB _) (by rw [nI_clamp (by omega)]; rfl)) ?_
  refine ev_b (a := Value.ref 100) rfl (ev_b (a := Value.ref 100) rfl (ev_b rk ?_))
  cases c1 with
  | true =>
    refine ev_t (by decide) ?_
    unfold fg_78_157
    exact fin true rfl
  | false =>
    refine ev_f (fun e => e rfl) (ev_b (a := Value.ref 100) rfl (ev_b ra ?_))
    cases c2 with
    | false =>
      refine ev_t rfl ?_
      unfold fg_78_161
      exact fin false rfl
    | true =>
      refine ev_f (by decide) ?_
      by_cases d : x = 19
      · refine ev_f (fun e => e (by rw [d]; rfl)) ?_
        by_cases d2 : p = 1
        · refine ev_t (by rw [d2]; rfl) ?_
          unfold fg_78_161
          exact fin false (by rw [decide_eq_true (p := x = 19 ∧ p = 1) ⟨d, d2⟩]; rfl)
        · refine ev_f (fun e => d2 ((nI_eq (b := 1) (by omega) (by omega)).mp e)) ?_
          unfold fg_78_157
          exact fin true (by rw [decide_eq_false (p := x = 19 ∧ p = 1) (fun e => d2 e.2)]; rfl)
      · refine ev_t (fun e => d ((nI_eq (b := 19) (by omega) (by omega)).mp e)) ?_
        unfold fg_78_157
        exact fin true (by rw [decide_eq_false (p := x = 19 ∧ p = 1) (fun e => d e.1)]; rfl)
set_option maxRecDepth 100000 in
set_option maxHeartbeats 1600000 in
theorem c_78l_94 {V : Nat → Nat → Value} {I : Nat → Nat → Int32} {L : Nat → Nat → Int64} {R : Nat → Nat → Option Nat} {tl : am_H} {N k : Nat} {l r : List (Nat × Nat)} {x : Nat × Nat} (ho : okF [(0, 1, 0)] l) (hl : l.length ≤ 60) (hd : l.drop k = x :: r) (h7 : V 94 7 = .int (nI l.length)) (he : ∀ j, j < l.length → I 95 j = nI (enL l j)) : ∀ (q p K : Nat) (t fo lo : Nat → Int32), p + q = arN x.1 → q < K → (∀ j, k < j → j < l.length → t j = nI (tlL l j) ∧ fo j = nI (foL l j).toNat ∧ lo j = nI (loL l j).toNat) → t k = nI (mxR (dpL l) k (1 + tk p r) + 1 - dpL l k) → fo k = nI (anR (isFo l) k (1 + tk p r)).toNat → lo k = nI (decide (inL l k = 1) && anR (isLf l) k (1 + tk p r)).toNat → ∃ t' fo' lo', (∀ j, k ≤ j → j < l.length → t' j = nI (tlL l j) ∧ fo' j = nI (foL l j).toNat ∧ lo' j = nI (loL l j).toNat) ∧ fg_78_53 N K (.ref 94) (nI k) (nI x.1) (nI (k + 1 + tk p r)) (nI p) (fx V (iup (iup (iup I 97 t) 99 fo) 100 lo) L R ++ tl) = some (.inl (none, fx V (iup (iup (iup I 97 t') 99 fo') 100 lo') L R ++ tl)) := by
  have len := drop_len hd
  obtain ⟨x20, -⟩ := form_at ho hd
  have ar3 := ar_le x.1
  intro q
  induction q with
  | zero =>
    intro p K t fo lo hp hK hj ht hf hlo
    obtain ⟨K, rfl⟩ : ∃ k, K = k + 1 := ⟨K - 1, by omega⟩
    have pe : p = arN x.1 := by omega
    have te := tl_e hd
    refine ⟨t, fo, lo, fun j j1 j2 => ?_, ?_⟩
    · by_cases c : j = k
      · rw [c, ht, hf, hlo, pe, ← te]
        exact ⟨rfl, rfl, rfl⟩
      · exact hj j (by omega) j2
    · rw [fg_78_53]
      refine ev_cI (pe_14 _ _) ?_
      rw [ar14 x.1 (by omega)]
      exact ev_t (nI_le (by omega) (by omega)) rfl
  | succ q ih =>
    intro p K t fo lo hp hK hj ht hf hlo
    obtain ⟨K, rfl⟩ : ∃ k, K = k + 1 := ⟨K - 1, by omega⟩
    obtain ⟨lt, dd, -, t1, t2, en⟩ := fm_part ho hd (show p < arN x.1 by omega)
    obtain ⟨a1, a2, a3⟩ := hj (k + 1 + tk p r) (by omega) lt
    have m1 := mx_b ho hl (k := k) (m := 1 + tk p r) (by omega)
    have m2 : tlL l (k + 1 + tk p r) ≤ 13 := by
      unfold tlL
      have := mx_b ho hl (k := k + 1 + tk p r) (m := tk 1 (l.drop (k + 1 + tk p r))) (tk_1le (by omega))
      omega
    obtain ⟨tn, htn⟩ : ∃ tn, tn = mxR (dpL l) k (1 + tk (p + 1) r) + 1 - dpL l k := ⟨_, rfl⟩
    obtain ⟨bn, hbn⟩ : ∃ bn, bn = anR (isFo l) k (1 + tk (p + 1) r) := ⟨_, rfl⟩
    have fs := fo_s ho hd (show p < arN x.1 by omega)
    have ls := lo_s ho hd (show p < arN x.1 by omega)
    obtain ⟨t', fo', lo', h1, h2⟩ := ih (p + 1) K (upd t k (nI tn)) (upd fo k (nI bn.toNat)) (upd lo k (nI ((decide (inL l k = 1) && anR (isLf l) k (1 + tk p r)) || (loL l (k + 1 + tk p r) && !(decide (x.1 = 19 ∧ p = 1)))).toNat)) (by omega) (by omega) (fun j j1 j2 => by rw [upd_ne (by omega), upd_ne (by omega), upd_ne (by omega)]; exact hj j j1 j2) (by rw [upd_eq, htn]) (by rw [upd_eq, hbn]) (by rw [upd_eq, ls])
    have b := c_78b_94 (V := V) (I := I) (L := L) (R := R) (tl := tl) (N := N) (k := k) (at' := k + 1 + tk p r) (p := p) (x := x.1) (nx' := k + 1 + tk (p + 1) r) (b := bn) (t := upd t k (nI tn)) (fo := fo) (lo := lo) (rc := fg_78_53 N K) (by omega) (by omega) (by omega) (by omega) hlo a3 (by rw [he _ lt, en])
    refine ⟨t', fo', lo', h1, ?_⟩
    rw [fg_78_53]
    refine ev_cI (pe_14 _ _) ?_
    rw [ar14 x.1 (by omega)]
    refine ev_f (nI_ge (by omega) (by omega)) (ev_b (rdI h7) (ev_f (nI_ge lt (by omega)) ?_))
    refine ev_b (a := Value.ref 97) rfl (ev_b (a := Value.ref 97) rfl (ev_b (a := nI (mxR (dpL l) k (1 + tk p r) + 1 - dpL l k)) ((ev_a (f := t) (n := 60) rfl (am_inb_n (by omega) (by omega))).trans (by rw [nI_clamp (by omega), ht])) (ev_b (a := Value.ref 97) rfl (ev_b (a := nI (tlL l (k + 1 + tk p r))) ((ev_a (f := t) (n := 60) rfl (am_inb_n (by omega) (by omega))).trans (by rw [nI_clamp (by omega), a1])) (ev_cI (pe_37 _ _ _) ?_)))))
    rw [nI_1, maxI (by omega) (by omega), tl_s ho hd (by omega), ← htn]
    refine ev_b (a := fx V (iup (iup (iup I 97 (upd t k (nI tn))) 99 fo) 100 lo) L R ++ tl) (ev_s (f := t) (n := 60) rfl (am_inb_n (by omega) (by omega)) rfl (by rw [nI_clamp (by omega)]; rfl)) ?_
    refine ev_b (a := Value.ref 99) rfl (ev_b (a := Value.ref 99) rfl (ev_b (a := nI (anR (isFo l) k (1 + tk p r)).toNat) ((ev_a (f := fo) (n := 60) rfl (am_inb_n (by omega) (by omega))).trans (by rw [nI_clamp (by omega), hf])) ?_))
    have ra : am_pA 2 (.ref 99) (nI (k + 1 + tk p r)) (fx V (iup (iup (iup I 97 (upd t k (nI tn))) 99 fo) 100 lo) L R ++ tl) = some (nI (foL l (k + 1 + tk p r)).toNat) := (ev_a (f := fo) (n := 60) rfl (am_inb_n (by omega) (by omega))).trans (by rw [nI_clamp (by omega), a2])
    cases e1 : anR (isFo l) k (1 + tk p r) with
    | true =>
      rw [e1, Bool.true_or, ← hbn] at fs
      rw [← fs] at b h2
      refine ev_t (by decide) ?_
      unfold fg_78_116
      exact b.trans h2
    | false =>
      rw [e1, Bool.false_or, ← hbn] at fs
      refine ev_f (fun e => e rfl) (ev_b (a := Value.ref 99) rfl (ev_b ra ?_))
      cases e2 : foL l (k + 1 + tk p r) with
      | true =>
        rw [e2] at fs
        rw [← fs] at b h2
        refine ev_f (by decide) ?_
        unfold fg_78_116
        exact b.trans h2
      | false =>
        rw [e2] at fs
        rw [← fs] at b h2
        refine ev_t rfl ?_
        exact b.trans h2
set_option maxRecDepth 100000 in
set_option maxHeartbeats 1600000 in
theorem c_78_94 {V : Nat → Nat → Value} {I : Nat → Nat → Int32} {L : Nat → Nat → Int64} {R : Nat → Nat → Option Nat} {tl : am_H} {N k : Nat} {l r : List (Nat × Nat)} {x : Nat × Nat} {t fo lo : Nat → Int32} (hN : 100 < N) (ho : okF [(0, 1, 0)] l) (hl : l.length ≤ 60) (hd : l.drop k = x :: r) (h7 : V 94 7 = .int (nI l.length)) (he : ∀ j, j < l.length → I 95 j = nI (enL l j)) (hj : ∀ j, k < j → j < l.length → t j = nI (tlL l j) ∧ fo j = nI (foL l j).toNat ∧ lo j = nI (loL l j).toNat) : ∃ t' fo' lo', (∀ j, k ≤ j → j < l.length → t' j = nI (tlL l j) ∧ fo' j = nI (foL l j).toNat ∧ lo' j = nI (loL l j).toNat) ∧ fm_78 N (.ref 94) (nI k) (nI x.1) (fx V (iup (iup (iup I 97 t) 99 fo) 100 lo) L R ++ tl) = some (.inl (none, fx V (iup (iup (iup I 97 t') 99 fo') 100 lo') L R ++ tl)) := by
  have len := drop_len hd
  obtain ⟨x20, -⟩ := form_at ho hd
  have ar3 := ar_le x.1
  obtain ⟨b1, hb1⟩ : ∃ b, b = decide (x.1 = 19) := ⟨_, rfl⟩
  obtain ⟨b2, hb2⟩ : ∃ b, b = (decide (x.1 = 5) || decide (x.1 = 6)) := ⟨_, rfl⟩
  obtain ⟨t', fo', lo', h1, h2⟩ := c_78l_94 (V := V) (I := I) (L := L) (R := R) (tl := tl) (N := N) ho hl hd h7 he (arN x.1) 0 N (upd t k 1) (upd fo k (nI b1.toNat)) (upd lo k (nI b2.toNat)) (by omega) (by omega) (fun j j1 j2 => by rw [upd_ne (by omega), upd_ne (by omega), upd_ne (by omega)]; exact hj j j1 j2) (by rw [upd_eq, tk_0, mx_1, Nat.add_sub_cancel_left]; rfl) (by rw [upd_eq, tk_0, an_1, hb1]; unfold isFo; rw [sL_at hd]) (by rw [upd_eq, tk_0, an_1, lf_0 ho hd, hb2])
  rw [tk_0, Nat.add_zero] at h2
  refine ⟨t', fo', lo', h1, ?_⟩
  have f45 : ∀ w : Bool, w = b2 → fg_78_45 N (.ref 94) (nI k) (nI x.1) (.ref 100) (nI k) (nI w.toNat) (fx V (iup (iup (iup I 97 (upd t k 1)) 99 (upd fo k (nI b1.toNat))) 100 lo) L R ++ tl) = some (.inl (none, fx V (iup (iup (iup I 97 t') 99 fo') 100 lo') L R ++ tl)) := fun w hw => by
    unfold fg_78_45
    rw [nI_1, hw]
    exact ev_b (a := fx V (iup (iup (iup I 97 (upd t k 1)) 99 (upd fo k (nI b1.toNat))) 100 (upd lo k (nI b2.toNat))) L R ++ tl) (ev_s (f := lo) (n := 60) rfl (am_inb_n (by omega) (by omega)) (afB _) (by rw [nI_clamp (by omega)]; rfl)) h2
  have f23 : ∀ w : Bool, w = b1 → fg_78_23 N (.ref 94) (nI k) (nI x.1) (.ref 99) (nI k) (nI w.toNat) (fx V (iup (iup (iup I 97 (upd t k 1)) 99 fo) 100 lo) L R ++ tl) = some (.inl (none, fx V (iup (iup (iup I 97 t') 99 fo') 100 lo') L R ++ tl)) := fun w hw => by
    unfold fg_78_23
    rw [hw]
    refine ev_b (a := fx V (iup (iup (iup I 97 (upd t k 1)) 99 (upd fo k (nI b1.toNat))) 100 lo) L R ++ tl) (ev_s (f := fo) (n := 60) rfl (am_inb_n (by omega) (by omega)) (afB _) (by rw [nI_clamp (by omega)]; rfl)) (ev_b (a := Value.ref 100) rfl ?_)
    by_cases c5 : x.1 = 5
    · refine ev_t (by rw [c5]; rfl) ?_
      unfold fg_78_40
      exact f45 true (by rw [hb2, decide_eq_true c5]; rfl)
    · refine ev_f (fun e => c5 ((nI_eq (b := 5) (by omega) (by omega)).mp e)) ?_
      by_cases c6 : x.1 = 6
      · refine ev_f (fun e => e (by rw [c6]; rfl)) ?_
        unfold fg_78_40
        exact f45 true (by rw [hb2, decide_eq_true c6, Bool.or_true])
      · refine ev_t (fun e => c6 ((nI_eq (b := 6) (by omega) (by omega)).mp e)) ?_
        exact f45 false (by rw [hb2, decide_eq_false c5, decide_eq_false c6]; rfl)
  unfold fm_78 fg_78_0
  refine ev_b (a := Value.ref 97) rfl (ev_b (a := fx V (iup (iup (iup I 97 (upd t k 1)) 99 fo) 100 lo) L R ++ tl) (ev_s (f := t) (n := 60) rfl (am_inb_n (by omega) (by omega)) rfl (by rw [nI_clamp (by omega)]; rfl)) (ev_b (a := Value.ref 99) rfl ?_))
  by_cases c : x.1 = 19
  · exact ev_f (fun e => e (by rw [c]; rfl)) (f23 true (by rw [hb1, decide_eq_true c]))
  · exact ev_t (fun e => c ((nI_eq (b := 19) (by omega) (by omega)).mp e)) (f23 false (by rw [hb1, decide_eq_false c]))
set_option maxRecDepth 100000 in
set_option maxHeartbeats 1600000 in
theorem c_76g_94 {V : Nat → Nat → Value} {I : Nat → Nat → Int32} {L : Nat → Nat → Int64} {R : Nat → Nat → Option Nat} {tl : am_H} {N a it ln m0 : Nat} {f : Nat → Int32} {l : List (Nat × Nat)} (hN : 100 < N) (hp : prA V I tl a it 0 ln l.length m0 f) (hit : it < 94 ∨ 94 + 7 < it) (hm0 : l.length * 2 ≤ m0) (hm1 : m0 ≤ 1000) (ho : okF [(0, 1, 0)] l) (hl : l.length ≤ 60) (h7 : V 94 7 = .int (nI l.length)) (he : ∀ j, j < l.length → I 95 j = nI (enL l j)) (hS : ∀ k x r, l.drop k = x :: r → f (k * 2) = nI x.1 ∧ x.1 ≤ 20) : ∀ (k K : Nat) (t fo lo : Nat → Int32), k ≤ l.length → k < K → (∀ j, k ≤ j → j < l.length → t j = nI (tlL l j) ∧ fo j = nI (foL l j).toNat ∧ lo j = nI (loL l j).toNat) → ∃ t' fo' lo' K', (∀ j, j < l.length → t' j = nI (tlL l j) ∧ fo' j = nI (foL l j).toNat ∧ lo' j = nI (loL l j).toNat) ∧ fg_76_12 N K (.ref 94) (.ref a) (nI k + (-1)) (fx V (iup (iup (iup I 97 t) 99 fo) 100 lo) L R ++ tl) = fg_76_12 N (K' + 1) (.ref 94) (.ref a) (-1) (fx V (iup (iup (iup I 97 t') 99 fo') 100 lo') L R ++ tl) := by
  intro k
  induction k with
  | zero =>
    intro K t fo lo hk hK hj
    obtain ⟨K, rfl⟩ : ∃ k, K = k + 1 := ⟨K - 1, by omega⟩
    exact ⟨t, fo, lo, K, fun j hj2 => hj j (by omega) hj2, rfl⟩
  | succ k ih =>
    intro K t fo lo hk hK hj
    obtain ⟨K, rfl⟩ : ∃ k, K = k + 1 := ⟨K - 1, by omega⟩
    obtain ⟨x, r, m, hd, hm⟩ := isF_at (okF_F l _ ho) (show k < l.length by omega)
    obtain ⟨s1, s2⟩ := hS k x r hd
    obtain ⟨t1, fo1, lo1, a1, a2⟩ := c_78_94 (V := V) (I := I) (L := L) (R := R) (tl := tl) (N := N) (t := t) (fo := fo) (lo := lo) hN ho hl hd h7 he (fun j j1 j2 => hj j (by omega) j2)
    obtain ⟨t2, fo2, lo2, K', b1, b2⟩ := ih K t1 fo1 lo1 (by omega) (by omega) a1
    have hpg := hp V (iup (iup (iup I 97 t) 99 fo) 100 lo) L R (fun j => rfl) ((iup_na (by omega)).trans ((iup_na (by omega)).trans (iup_na (by omega))))
    have g0 := c_54 (k := k) (w := 0) hpg (show l.length * wdN 0 ≤ m0 from hm0) hm1 hl (by omega) (by decide)
    rw [show wdN 0 = 2 from rfl, Nat.add_zero, s1] at g0
    obtain ⟨x1, x2, x3, x4, x5, x6, p1, p2⟩ := hpg
    refine ⟨t2, fo2, lo2, K', b1, ?_⟩
    rw [fg_76_12, nI_m1]
    exact ev_f (nI_pos (by omega)) (ev_i (ev_ok p1) (ev_cI g0 (ev_i rfl (ev_cV a2 b2))))
set_option maxRecDepth 100000 in
set_option maxHeartbeats 1600000 in
theorem c_79l_94 {V : Nat → Nat → Value} {I : Nat → Nat → Int32} {L : Nat → Nat → Int64} {R : Nat → Nat → Option Nat} {tl : am_H} {N k d0 i0 : Nat} {l r : List (Nat × Nat)} {x : Nat × Nat} (ho : okF [(0, 1, 0)] l) (hl : l.length ≤ 60) (hd : l.drop k = x :: r) (h7 : V 94 7 = .int (nI l.length)) (he : ∀ j, j < l.length → I 95 j = nI (enL l j)) (hi0 : i0 ≤ 1) : ∀ (q p K : Nat) (de inn : Nat → Int32), p + q = arN x.1 → q < K → de k = nI d0 → inn k = nI i0 → (∀ i, i < p → de (k + 1 + tk i r) = nI (d0 + 1) ∧ inn (k + 1 + tk i r) = nI (if x.1 = 19 ∧ i = 1 then 1 else i0)) → ∃ de' inn', (∀ i, i < arN x.1 → de' (k + 1 + tk i r) = nI (d0 + 1) ∧ inn' (k + 1 + tk i r) = nI (if x.1 = 19 ∧ i = 1 then 1 else i0)) ∧ (∀ j, (∀ i, p ≤ i → i < arN x.1 → j ≠ k + 1 + tk i r) → de' j = de j ∧ inn' j = inn j) ∧ fg_79_7 N K (.ref 94) (nI k) (nI x.1) (nI (k + 1 + tk p r)) (nI p) (fx V (iup (iup I 96 de) 98 inn) L R ++ tl) = some (.inl (none, fx V (iup (iup I 96 de') 98 inn') L R ++ tl)) := by
  have len := drop_len hd
  obtain ⟨x20, -⟩ := form_at ho hd
  have ar3 := ar_le x.1
  obtain ⟨x', r', mm, hd', hF⟩ := isF_at (okF_F l _ ho) (show k < l.length by omega)
  rw [hd] at hd'
  obtain ⟨rfl, rfl⟩ := List.cons.inj hd'
  intro q
  induction q with
  | zero =>
    intro p K de inn hp hK hk hi hpre
    obtain ⟨K, rfl⟩ : ∃ k, K = k + 1 := ⟨K - 1, by omega⟩
    refine ⟨de, inn, fun i hi => hpre i (by omega), fun j _ => ⟨rfl, rfl⟩, ?_⟩
    rw [fg_79_7]
    refine ev_cI (pe_14 _ _) ?_
    rw [ar14 x.1 (by omega)]
    exact ev_t (nI_le (by omega) (by omega)) rfl
  | succ q ih =>
    intro p K de inn hp hK hk hi hpre
    obtain ⟨K, rfl⟩ : ∃ k, K = k + 1 := ⟨K - 1, by omega⟩
    obtain ⟨lt, -, -, t1, t2, en⟩ := fm_part ho hd (show p < arN x.1 by omega)
    have ne : ∀ i, i < p → k + 1 + tk i r ≠ k + 1 + tk p r := fun i hi => by
      have := tk_lt hF hi (show p ≤ mm + arN x.1 by omega)
      omega
    obtain ⟨w, hw⟩ : ∃ w : Nat, w = if x.1 = 19 ∧ p = 1 then 1 else i0 := ⟨_, rfl⟩
    obtain ⟨de', inn', h1, h2, h3⟩ := ih (p + 1) K (upd de (k + 1 + tk p r) (nI (d0 + 1))) (upd inn (k + 1 + tk p r) (nI w)) (by omega) (by omega) (by rw [upd_ne (by omega)]; exact hk) (by rw [upd_ne (by omega)]; exact hi) (fun i hi => by
      by_cases c : i = p
      · rw [c, upd_eq, upd_eq, hw]
        exact ⟨rfl, rfl⟩
      · rw [upd_ne (ne i (by omega)), upd_ne (ne i (by omega))]
        exact hpre i (by omega))
    refine ⟨de', inn', h1, fun j hj => ?_, ?_⟩
    · obtain ⟨y1, y2⟩ := h2 j (fun i i1 i2 => hj i (by omega) i2)
      rw [upd_ne (hj p (by omega) (by omega))] at y1 y2
      exact ⟨y1, y2⟩
    · have fin : ∀ (z : Nat), z = w → z ≤ 1 → fg_79_69 N (fg_79_7 N K) (.ref 94) (nI k) (nI x.1) (nI (k + 1 + tk p r)) (nI p) (.ref 98) (nI (k + 1 + tk p r)) (nI z) (fx V (iup (iup I 96 (upd de (k + 1 + tk p r) (nI (d0 + 1)))) 98 inn) L R ++ tl) = some (.inl (none, fx V (iup (iup I 96 de') 98 inn') L R ++ tl)) := fun z hz z1 => by
        have af : am_afit 2 (nI z) = true := by
          rcases (by omega : z = 0 ∨ z = 1) with rfl | rfl <;> rfl
        unfold fg_79_69
        rw [nI_1]
        refine ev_b (a := fx V (iup (iup I 96 (upd de (k + 1 + tk p r) (nI (d0 + 1)))) 98 (upd inn (k + 1 + tk p r) (nI w))) L R ++ tl) (ev_s (f := inn) (n := 60) rfl (am_inb_n (by omega) (by omega)) af (by rw [nI_clamp (by omega), hz]; rfl)) ?_
        refine ev_b (a := Value.ref 95) rfl (ev_b (a := nI (k + 1 + tk (p + 1) r)) ((ev_a (f := I 95) (n := 60) rfl (am_inb_n (by omega) (by omega))).trans (by rw [nI_clamp (by omega), he _ lt, en])) h3)
      rw [fg_79_7]
      refine ev_cI (pe_14 _ _) ?_
      rw [ar14 x.1 (by omega)]
      refine ev_f (nI_ge (by omega) (by omega)) (ev_b (rdI h7) (ev_f (nI_ge lt (by omega)) ?_))
      refine ev_b (a := Value.ref 96) rfl (ev_b (a := Value.ref 96) rfl (ev_b (a := nI d0) ((ev_a (f := de) (n := 60) rfl (am_inb_n (by omega) (by omega))).trans (by rw [nI_clamp (by omega), hk])) ?_))
      rw [nI_1]
      refine ev_b (a := fx V (iup (iup I 96 (upd de (k + 1 + tk p r) (nI (d0 + 1)))) 98 inn) L R ++ tl) (ev_s (f := de) (n := 60) rfl (am_inb_n (by omega) (by omega)) rfl (by rw [nI_clamp (by omega)]; rfl)) ?_
      refine ev_b (a := Value.ref 98) rfl (ev_b (a := Value.ref 98) rfl (ev_b (a := nI i0) ((ev_a (f := inn) (n := 60) rfl (am_inb_n (by omega) (by omega))).trans (by rw [nI_clamp (by omega), hi])) ?_))
      rcases (by omega : i0 = 0 ∨ i0 = 1) with rfl | rfl
      · refine ev_f (fun e => e rfl) ?_
        by_cases c : x.1 = 19
        · refine ev_f (fun e => e (by rw [c]; rfl)) ?_
          by_cases c2 : p = 1
          · refine ev_f (fun e => e (by rw [c2]; rfl)) ?_
            unfold fg_79_64
            exact fin 1 (by rw [hw, if_pos ⟨c, c2⟩]) (by omega)
          · refine ev_t (fun e => c2 ((nI_eq (b := 1) (by omega) (by omega)).mp e)) ?_
            unfold fg_79_68
            exact fin 0 (by rw [hw, if_neg (fun e => c2 e.2)]) (by omega)
        · refine ev_t (fun e => c ((nI_eq (b := 19) (by omega) (by omega)).mp e)) ?_
          unfold fg_79_68
          exact fin 0 (by rw [hw, if_neg (fun e => c e.1)]) (by omega)
      · refine ev_t (by decide) ?_
        unfold fg_79_64
        exact fin 1 (by rw [hw]; split <;> rfl) (by omega)
set_option maxRecDepth 100000 in
set_option maxHeartbeats 1600000 in
theorem c_76f_94 {V : Nat → Nat → Value} {I : Nat → Nat → Int32} {L : Nat → Nat → Int64} {R : Nat → Nat → Option Nat} {tl : am_H} {N a it ln m0 : Nat} {f : Nat → Int32} {l : List (Nat × Nat)} (hN : 100 < N) (hp : prA V I tl a it 0 ln l.length m0 f) (hit : it < 94 ∨ 94 + 7 < it) (hm0 : l.length * 2 ≤ m0) (hm1 : m0 ≤ 1000) (ho : okF [(0, 1, 0)] l) (hl : l.length ≤ 60) (h7 : V 94 7 = .int (nI l.length)) (he : ∀ j, j < l.length → I 95 j = nI (enL l j)) (hS : ∀ k x r, l.drop k = x :: r → f (k * 2) = nI x.1 ∧ x.1 ≤ 20) : ∀ (lst : List (Nat × Nat)) (st : List (Nat × Nat × Nat)) (k K : Nat) (de inn : Nat → Int32), l.drop k = lst → k ≤ l.length → okF st lst → (cxl [(0, 1, 0)] l).drop k = cxl st lst → lst.length < K → (∀ j, j < k → de j = nI (dpL l j) ∧ inn j = nI (inL l j)) → (∀ i c, st[i]? = some c → de (k + tk i lst) = nI c.2.1 ∧ inn (k + tk i lst) = nI c.2.2) → ∃ de' inn', (∀ j, j < l.length → de' j = nI (dpL l j) ∧ inn' j = nI (inL l j)) ∧ fg_76_56 N K (.ref 94) (.ref a) (nI k) (fx V (iup (iup I 96 de) 98 inn) L R ++ tl) = some (.inl (none, fx V (iup (iup I 96 de') 98 inn') L R ++ tl)) := by
  intro lst
  induction lst with
  | nil =>
    intro st k K de inn hd hk hst hcx hK h1 h2
    obtain ⟨K, rfl⟩ : ∃ k, K = k + 1 := ⟨K - 1, by omega⟩
    have lk : k = l.length := by
      have := congrArg List.length hd
      rw [List.length_drop, List.length_nil] at this
      omega
    refine ⟨de, inn, fun j hj => h1 j (by omega), ?_⟩
    rw [fg_76_56, lk]
    exact ev_b (rdI h7) (ev_t (nI_le (by omega) (by omega)) rfl)
  | cons x r ih =>
    intro st k K de inn hd hk hst hcx hK h1 h2
    obtain ⟨K, rfl⟩ : ∃ k, K = k + 1 := ⟨K - 1, by omega⟩
    rw [List.length_cons] at hK
    have len := drop_len hd
    cases st with
    | nil => exact absurd hst (fun e => e)
    | cons c st =>
      rw [cxl_c] at hcx
      have ck : cxK l k = c := drop_get hcx
      have dk : dpL l k = c.2.1 := by unfold dpL; rw [ck]
      have ik : inL l k = c.2.2 := by unfold inL; rw [ck]
      have i1 := in_le1 l k
      obtain ⟨w1, w2⟩ := h2 0 c rfl
      rw [tk_0, Nat.add_zero] at w1 w2
      obtain ⟨s1, s2⟩ := hS k x r hd
      have ar3 := ar_le x.1
      have hF : isF (st.length + arN x.1) r := okF_F _ _ hst
      obtain ⟨de1, in1, a1, a2, a3⟩ := c_79l_94 (V := V) (I := I) (L := L) (R := R) (tl := tl) (N := N) (d0 := c.2.1) (i0 := c.2.2) ho hl hd h7 he (by omega) (arN x.1) 0 N de inn (by omega) (by omega) w1 w2 (fun i hi => by omega)
      rw [tk_0, Nat.add_zero] at a3
      have hpg := hp V (iup (iup I 96 de) 98 inn) L R (fun j => rfl) ((iup_na (by omega)).trans (iup_na (by omega)))
      have g0 := c_54 (k := k) (w := 0) hpg (show l.length * wdN 0 ≤ m0 from hm0) hm1 hl (by omega) (by decide)
      rw [show wdN 0 = 2 from rfl, Nat.add_zero, s1] at g0
      have d1 : l.drop (k + 1) = r := by
        have := drop_s hd 0
        rw [List.drop_zero] at this
        exact this
      obtain ⟨de', inn', b1, b2⟩ := ih (kid x.1 c ++ st) (k + 1) K de1 in1 d1 (by omega) hst.2.2.2.2.2 (by rw [← List.drop_drop, hcx, List.drop_succ_cons, List.drop_zero]) (by omega) (fun j hj => by
        obtain ⟨y1, y2⟩ := a2 j (fun i _ _ => by omega)
        rw [y1, y2]
        by_cases c' : j = k
        · rw [c', w1, w2, dk, ik]
          exact ⟨rfl, rfl⟩
        · exact h1 j (by omega)) (fun i y hy => by
        by_cases ci : i < arN x.1
        · rw [List.getElem?_append_left (by rw [kid_len]; exact ci)] at hy
          obtain ⟨-, rfl⟩ := kid_get hy
          exact a1 i ci
        · rw [List.getElem?_append_right (by rw [kid_len]; omega), kid_len] at hy
          have il : i - arN x.1 < st.length := (List.getElem?_eq_some_iff.mp hy).1
          have z := h2 (i - arN x.1 + 1) y (by rw [List.getElem?_cons_succ]; exact hy)
          rw [tk_c, show i - arN x.1 + arN x.1 = i by omega, show k + (1 + tk i r) = k + 1 + tk i r by omega] at z
          obtain ⟨y1, y2⟩ := a2 (k + 1 + tk i r) (fun i' _ i2 => by
            have := tk_lt hF (show i' < i by omega) (show i ≤ st.length + arN x.1 by omega)
            omega)
          rw [y1, y2]
          exact z)
      obtain ⟨x1, x2, x3, x4, x5, x6, p1, p2⟩ := hpg
      refine ⟨de', inn', b1, ?_⟩
      rw [fg_76_56]
      refine ev_b (rdI h7) (ev_f (nI_ge (by omega) (by omega)) (ev_i (ev_ok p1) (ev_cI g0 (ev_i rfl (ev_cV (h1 := fx V (iup (iup I 96 de1) 98 in1) L R ++ tl) ?_ ?_)))))
      · unfold fm_79 fg_79_0
        rw [nI_1]
        exact a3
      · rw [nI_1]
        exact b2
set_option maxRecDepth 100000 in
set_option maxHeartbeats 1600000 in
theorem c_76_94 {V : Nat → Nat → Value} {I : Nat → Nat → Int32} {L : Nat → Nat → Int64} {R : Nat → Nat → Option Nat} {tl : am_H} {N a it ln m0 : Nat} {f : Nat → Int32} {l : List (Nat × Nat)} (hN : 100 < N) (hp : prA V I tl a it 0 ln l.length m0 f) (ha : a ≠ 94) (hit : it < 94 ∨ 94 + 7 < it) (hm0 : l.length * 2 ≤ m0) (hm1 : m0 ≤ 1000) (ho : okF [(0, 1, 0)] l) (hl : l.length ≤ 60) (hS : ∀ k x r, l.drop k = x :: r → f (k * 2) = nI x.1 ∧ x.1 ≤ 20) : ∃ J, shK J 94 l ∧ (∀ y, y < 94 + 1 ∨ 94 + 6 < y → J y = I y) ∧ fm_76 N (.ref 94) (.ref a) (fx V I L R ++ tl) = some (.inl (none, fx (vup V 94 7 (.int (nI l.length))) J L R ++ tl)) := by
  have h0 : 1 ≤ l.length := by
    cases l with
    | nil => exact absurd ho (fun e => e)
    | cons x r => rw [List.length_cons]; omega
  obtain ⟨g, e1, e2⟩ := c_77_94 (V := V) (I := I) (L := L) (R := R) (tl := tl) (N := N) hN (by decide) hp ha (by omega) hm0 hm1 hl hS (okF_F l _ ho)
  have hp1 : prA (vup V 94 7 (.int (nI l.length))) (iup I 95 g) tl a it 0 ln l.length m0 f := fun W J L' R' hW hJ => hp W J L' R' (fun j => (hW j).trans (vup_na ha)) (hJ.trans (iup_na (by omega)))
  obtain ⟨t', fo', lo', K', c1, c2⟩ := c_76g_94 (V := vup V 94 7 (.int (nI l.length))) (I := iup I 95 g) (L := L) (R := R) (tl := tl) (N := N) hN hp1 hit hm0 hm1 ho hl vup_eq e1 hS l.length N (I 97) (I 99) (I 100) (Nat.le_refl _) (by omega) (fun j j1 j2 => by omega)
  have s3 : iup (iup (iup (iup I 95 g) 97 (I 97)) 99 (I 99)) 100 (I 100) = iup I 95 g := by
    rw [show I 97 = iup I 95 g 97 from (iup_na (by decide)).symm, iup_self, show I 99 = iup I 95 g 99 from (iup_na (by decide)).symm, iup_self, show I 100 = iup I 95 g 100 from (iup_na (by decide)).symm, iup_self]
  rw [s3] at c2
  obtain ⟨J0, hJ0⟩ : ∃ J0, J0 = iup (iup (iup (iup I 95 g) 97 t') 99 fo') 100 lo' := ⟨_, rfl⟩
  have j0e : J0 95 = g := by rw [hJ0, iup_na (by decide), iup_na (by decide), iup_na (by decide), iup_eq]
  have hp2 : prA (vup V 94 7 (.int (nI l.length))) J0 tl a it 0 ln l.length m0 f := fun W J L' R' hW hJ => hp1 W J L' R' hW (hJ.trans (by rw [hJ0, iup_na (by omega), iup_na (by omega), iup_na (by omega)]))
  obtain ⟨de', inn', d1, d2⟩ := c_76f_94 (V := vup V 94 7 (.int (nI l.length))) (I := J0) (L := L) (R := R) (tl := tl) (N := N) hN hp2 hit hm0 hm1 ho hl vup_eq (fun j hj => by rw [j0e]; exact e1 j hj) hS l [(0, 1, 0)] 0 N (upd (J0 96) 0 1) (upd (J0 98) 0 0) List.drop_zero (by omega) ho List.drop_zero (by omega) (fun j hj => by omega) (fun i c hc => by
    cases i with
    | zero =>
      obtain rfl : (0, 1, 0) = c := Option.some.inj hc
      rw [tk_0, Nat.add_zero, upd_eq, upd_eq]
      exact ⟨rfl, rfl⟩
    | succ i => cases hc)
  refine ⟨iup (iup J0 96 de') 98 inn', fun j hj => ?_, fun y hy => ?_, ?_⟩
  · obtain ⟨z1, z2, z3⟩ := c1 j hj
    obtain ⟨z4, z5⟩ := d1 j hj
    refine ⟨?_, ?_, ?_, ?_, ?_, ?_⟩
    · show iup (iup J0 96 de') 98 inn' 95 j = _
      rw [iup_na (by decide), iup_na (by decide), j0e]
      exact e1 j hj
    · show iup (iup J0 96 de') 98 inn' 96 j = _
      rw [iup_na (by decide), iup_eq]
      exact z4
    · show iup (iup J0 96 de') 98 inn' 97 j = _
      rw [iup_na (by decide), iup_na (by decide), hJ0, iup_na (by decide), iup_na (by decide), iup_eq]
      exact z1
    · show iup (iup J0 96 de') 98 inn' 98 j = _
      rw [iup_eq]
      exact z5
    · show iup (iup J0 96 de') 98 inn' 99 j = _
      rw [iup_na (by decide), iup_na (by decide), hJ0, iup_na (by decide), iup_eq]
      exact z2
    · show iup (iup J0 96 de') 98 inn' 100 j = _
      rw [iup_na (by decide), iup_na (by decide), hJ0, iup_eq]
      exact z3
  · rw [iup_na (by omega), iup_na (by omega), hJ0, iup_na (by omega), iup_na (by omega), iup_na (by omega), iup_na (by omega)]
  · unfold fm_76 fg_76_0
    refine ev_i rfl (ev_cV e2 (ev_b (a := nI l.length) rfl ?_))
    rw [Int32.sub_eq_add_neg]
    refine c2.trans ?_
    rw [← hJ0, fg_76_12]
    refine ev_t (by decide) (ev_b (a := nI l.length) rfl (ev_f (nI_nle (by omega) (by omega)) (ev_b (a := Value.ref 96) rfl ?_)))
    refine ev_b (a := fx (vup V 94 7 (.int (nI l.length))) (iup J0 96 (upd (J0 96) 0 1)) L R ++ tl) (ev_s (f := J0 96) (n := 60) rfl rfl rfl rfl) (ev_b (a := Value.ref 98) rfl ?_)
    refine ev_b (a := fx (vup V 94 7 (.int (nI l.length))) (iup (iup J0 96 (upd (J0 96) 0 1)) 98 (upd (J0 98) 0 0)) L R ++ tl) (ev_s (f := J0 98) (n := 60) rfl rfl rfl rfl) ?_
    unfold fg_76_54
    exact d2

set_option maxRecDepth 100000 in
set_option maxHeartbeats 1600000 in
theorem c_77i_102 {V : Nat → Nat → Value} {I : Nat → Nat → Int32} {L : Nat → Nat → Int64} {R : Nat → Nat → Option Nat} {tl : am_H} {N k m a : Nat} {l r : List (Nat × Nat)} {x : Nat × Nat} {g : Nat → Int32} {rc : Value → Value → Int32 → am_H → Option am_O} (h7 : V 102 7 = .int (nI l.length)) (hl : l.length ≤ 60) (hd : l.drop k = x :: r) (hF : isF (m + arN x.1) r) (hg : ∀ j, k < j → j < l.length → g j = nI (enL l j)) : ∀ (q p K : Nat), p + q = arN x.1 → q < K → fg_77_39 N rc K (.ref 102) (.ref a) (nI k) (nI (k + 1 + tk p r)) (nI q) (fx V (iup I 103 g) L R ++ tl) = rc (.ref 102) (.ref a) (nI k + (-1)) (fx V (iup I 103 (upd g k (nI (enL l k)))) L R ++ tl) := by
  have hlen := drop_len hd
  have ha := ar_le x.1
  intro q
  induction q with
  | zero =>
    intro p K hp hK
    obtain ⟨K, rfl⟩ : ∃ k, K = k + 1 := ⟨K - 1, by omega⟩
    have e : k + 1 + tk p r = enL l k := by
      unfold enL
      rw [hd, show (1 : Nat) = 0 + 1 from rfl, tk_c, show 0 + arN x.1 = p by omega]
      omega
    rw [fg_77_39, e]
    exact ev_t (by decide) (ev_b (a := Value.ref 103) rfl (ev_b (a := fx V (iup I 103 (upd g k (nI (enL l k)))) L R ++ tl) (ev_s (f := g) (n := 60) rfl (am_inb_n (by omega) (by omega)) rfl (by rw [nI_clamp (by omega)]; rfl)) rfl))
  | succ q ih =>
    intro p K hp hK
    obtain ⟨K, rfl⟩ : ∃ k, K = k + 1 := ⟨K - 1, by omega⟩
    have lt := part_lt hd hF (show p < arN x.1 by omega)
    have e : g (k + 1 + tk p r) = nI (k + 1 + tk (p + 1) r) := by
      rw [hg _ (by omega) lt]
      unfold enL
      rw [drop_s hd, tk_add r p 1]
      congr 1
      omega
    rw [fg_77_39]
    refine ev_f (nI_nle (by omega) (by omega)) (ev_b (a := nI l.length) (by show am_vI (some (V 102 7)) = _; rw [h7]; rfl) (ev_f (nI_ge lt (by omega)) (ev_b (a := Value.ref 103) rfl (ev_b (a := nI (k + 1 + tk (p + 1) r)) ((ev_a (f := g) (n := 60) rfl (am_inb_n (by omega) (by omega))).trans (by rw [nI_clamp (by omega), e])) ?_))))
    unfold fg_77_65
    rw [nI_m1]
    exact ih (p + 1) K (by omega) (by omega)
set_option maxRecDepth 100000 in
set_option maxHeartbeats 1600000 in
theorem c_77o_102 {V : Nat → Nat → Value} {I : Nat → Nat → Int32} {L : Nat → Nat → Int64} {R : Nat → Nat → Option Nat} {tl : am_H} {N a it kd ln m0 : Nat} {f : Nat → Int32} {l : List (Nat × Nat)} (hN : 100 < N) (hk0 : kd ≠ 2) (hp : prA V I tl a it kd ln l.length m0 f) (ha : a ≠ 102) (hit : it ≠ 103) (hm0 : l.length * wdN kd ≤ m0) (hm1 : m0 ≤ 1000) (h7 : V 102 7 = .int (nI l.length)) (hl : l.length ≤ 60) (hS : ∀ k x r, l.drop k = x :: r → f (k * 2) = nI x.1 ∧ x.1 ≤ 20) (hF : isF 1 l) : ∀ (k K : Nat) (g : Nat → Int32), k ≤ l.length → k < K → (∀ j, k ≤ j → j < l.length → g j = nI (enL l j)) → ∃ g', (∀ j, j < l.length → g' j = nI (enL l j)) ∧ fg_77_20 N K (.ref 102) (.ref a) (nI k + (-1)) (fx V (iup I 103 g) L R ++ tl) = some (.inl (none, fx V (iup I 103 g') L R ++ tl)) := by
  have w2 : wdN kd = 2 := if_neg hk0
  intro k
  induction k with
  | zero =>
    intro K g hk hK hg
    obtain ⟨K, rfl⟩ : ∃ k, K = k + 1 := ⟨K - 1, by omega⟩
    refine ⟨g, fun j hj => hg j (by omega) hj, ?_⟩
    rw [fg_77_20]
    exact ev_t (by decide) rfl
  | succ k ih =>
    intro K g hk hK hg
    obtain ⟨K, rfl⟩ : ∃ k, K = k + 1 := ⟨K - 1, by omega⟩
    obtain ⟨x, r, m, hd, hm⟩ := isF_at hF (show k < l.length by omega)
    obtain ⟨s1, s2⟩ := hS k x r hd
    have har := ar_le x.1
    have hpg := hp V (iup I 103 g) L R (fun j => rfl) (iup_na hit)
    have g0 := c_54 (k := k) (w := 0) hpg hm0 hm1 hl (by omega) (by omega)
    rw [w2, Nat.add_zero, s1] at g0
    obtain ⟨x1, x2, x3, x4, x5, x6, p1, p2⟩ := hpg
    have e := c_77i_102 (V := V) (I := I) (L := L) (R := R) (tl := tl) (N := N) (a := a) (rc := fg_77_20 N K) h7 hl hd hm (fun j h1 h2 => hg j (by omega) h2) (arN x.1) 0 N (by omega) (by omega)
    rw [tk_0, Nat.add_zero] at e
    obtain ⟨g', h1, h2⟩ := ih K (upd g k (nI (enL l k))) (by omega) (by omega) (fun j j1 j2 => by
      by_cases c : j = k
      · rw [c]; exact upd_eq
      · rw [upd_ne c]; exact hg j (by omega) j2)
    refine ⟨g', h1, ?_⟩
    rw [fg_77_20, nI_m1]
    refine ev_f (nI_pos (by omega)) (ev_i (ev_ok p1) (ev_cI g0 (ev_cI (pe_14 _ _) ?_)))
    rw [show pv_14 (nI x.1) = nI (arN x.1) from ar14 x.1 (by omega), nI_1]
    exact e.trans h2
set_option maxRecDepth 100000 in
set_option maxHeartbeats 1600000 in
theorem c_77_102 {V : Nat → Nat → Value} {I : Nat → Nat → Int32} {L : Nat → Nat → Int64} {R : Nat → Nat → Option Nat} {tl : am_H} {N a it kd ln m0 : Nat} {f : Nat → Int32} {l : List (Nat × Nat)} (hN : 100 < N) (hk0 : kd ≠ 2) (hp : prA V I tl a it kd ln l.length m0 f) (ha : a ≠ 102) (hit : it ≠ 103) (hm0 : l.length * wdN kd ≤ m0) (hm1 : m0 ≤ 1000) (hl : l.length ≤ 60) (hS : ∀ k x r, l.drop k = x :: r → f (k * 2) = nI x.1 ∧ x.1 ≤ 20) (hF : isF 1 l) : ∃ g', (∀ j, j < l.length → g' j = nI (enL l j)) ∧ fm_77 N (.ref 102) (.ref a) (fx V I L R ++ tl) = some (.inl (none, fx (vup V 102 7 (.int (nI l.length))) (iup I 103 g') L R ++ tl)) := by
  obtain ⟨x1, x2, x3, x4, x5, x6, p1, p2⟩ := hp V I L R (fun j => rfl) rfl
  obtain ⟨g', h1, h2⟩ := c_77o_102 (V := vup V 102 7 (.int (nI l.length))) (I := I) (L := L) (R := R) (tl := tl) (N := N) hN hk0 (fun W J L' R' hW hJ => hp W J L' R' (fun j => (hW j).trans (vup_na ha)) hJ) ha hit hm0 hm1 vup_eq hl hS hF l.length N (I 103) (Nat.le_refl _) (by omega) (fun j j1 j2 => by omega)
  refine ⟨g', h1, ?_⟩
  rw [iup_self] at h2
  unfold fm_77 fg_77_0
  refine ev_b (ev_gI p1 rfl rfl) (ev_cI (pe_38 _ _ _) ?_)
  rw [show pv_38 (nI l.length) 60 = nI l.length from if_neg (fun e => nI_nlt (a := 60) hl (by omega) e)]
  refine ev_b qp_102_7 (ev_b (a := nI l.length) rfl ?_)
  rw [Int32.sub_eq_add_neg]
  exact h2

set_option maxRecDepth 100000 in
set_option maxHeartbeats 1600000 in
theorem c_78b_102 {V : Nat → Nat → Value} {I : Nat → Nat → Int32} {L : Nat → Nat → Int64} {R : Nat → Nat → Option Nat} {tl : am_H} {N k at' p x nx' : Nat} {b c1 c2 : Bool} {t fo lo : Nat → Int32} {rc : Value → Int32 → Int32 → Int32 → Int32 → am_H → Option am_O} (hk : k < 60) (ha : at' < 60) (hx : x < 30) (hp : p < 30) (hc1 : lo k = nI c1.toNat) (hc2 : lo at' = nI c2.toNat) (hn : I 103 at' = nI nx') : fg_78_121 N rc (.ref 102) (nI k) (nI x) (nI at') (nI p) (.ref 107) (nI k) (nI b.toNat) (fx V (iup (iup (iup I 105 t) 107 fo) 108 lo) L R ++ tl) = rc (.ref 102) (nI k) (nI x) (nI nx') (nI (p + 1)) (fx V (iup (iup (iup I 105 t) 107 (upd fo k (nI b.toNat))) 108 (upd lo k (nI (c1 || (c2 && !(decide (x = 19 ∧ p = 1)))).toNat))) L R ++ tl) := by
  have rk : am_pA 2 (.ref 108) (nI k) (fx V (iup (iup (iup I 105 t) 107 (upd fo k (nI b.toNat))) 108 lo) L R ++ tl) = some (nI c1.toNat) := (ev_a (f := lo) (n := 60) rfl (am_inb_n (by omega) (by omega))).trans (by rw [nI_clamp (by omega), hc1])
  have ra : am_pA 2 (.ref 108) (nI at') (fx V (iup (iup (iup I 105 t) 107 (upd fo k (nI b.toNat))) 108 lo) L R ++ tl) = some (nI c2.toNat) := (ev_a (f := lo) (n := 60) rfl (am_inb_n (by omega) (by omega))).trans (by rw [nI_clamp (by omega), hc2])
  have fin : ∀ w : Bool, w = (c1 || (c2 && !(decide (x = 19 ∧ p = 1)))) → fg_78_162 N rc (.ref 102) (nI k) (nI x) (nI at') (nI p) (.ref 108) (nI k) (nI w.toNat) (fx V (iup (iup (iup I 105 t) 107 (upd fo k (nI b.toNat))) 108 lo) L R ++ tl) = rc (.ref 102) (nI k) (nI x) (nI nx') (nI (p + 1)) (fx V (iup (iup (iup I 105 t) 107 (upd fo k (nI b.toNat))) 108 (upd lo k (nI (c1 || (c2 && !(decide (x = 19 ∧ p = 1)))).toNat))) L R ++ tl) := fun w hw => by
    unfold fg_78_162
    rw [nI_1, hw]
    refine ev_b (a := fx V (iup (iup (iup I 105 t) 107 (upd fo k (nI b.toNat))) 108 (upd lo k (nI (c1 || (c2 && !(decide (x = 19 ∧ p = 1)))).toNat))) L R ++ tl) (ev_s (f := lo) (n := 60) rfl (am_inb_n (by omega) (by omega)) (afB _) (by rw [nI_clamp (by omega)]; rfl)) ?_
    exact ev_b (a := Value.ref 103) rfl (ev_b (a := nI nx') ((ev_a (f := I 103) (n := 60) rfl (am_inb_n (by omega) (by omega))).trans (by rw [nI_clamp (by omega), hn])) rfl)
  unfold fg_78_121
  refine ev_b (a := fx V (iup (iup (iup I 105 t) 107 (upd fo k (nI b.toNat))) 108 lo) L R ++ tl) (ev_s (f := fo) (n := 60) rfl (am_inb_n (by omega) (by omega)) (afB _) (by rw [nI_clamp (by omega)]; rfl)) ?_
  refine ev_b (a := Value.ref 108) rfl (ev_b (a := Value.ref 108) rfl (ev_b rk ?_))
  cases c1 with
  | true =>
    refine ev_t (by decide) ?_
    unfold fg_78_157
    exact fin true rfl
  | false =>
    refine ev_f (fun e => e rfl) (ev_b (a := Value.ref 108) rfl (ev_b ra ?_))
    cases c2 with
    | false =>
      refine ev_t rfl ?_
      unfold fg_78_161
      exact fin false rfl
    | true =>
      refine ev_f (by decide) ?_
      by_cases d : x = 19
      · refine ev_f (fun e => e (by rw [d]; rfl)) ?_
        by_cases d2 : p = 1
        · refine ev_t (by rw [d2]; rfl) ?_
          unfold fg_78_161
          exact fin false (by rw [decide_eq_true (p := x = 19 ∧ p = 1) ⟨d, d2⟩]; rfl)
        · refine ev_f (fun e => d2 ((nI_eq (b := 1) (by omega) (by omega)).mp e)) ?_
          unfold fg_78_157
          exact fin true (by rw [decide_eq_false (p := x = 19 ∧ p = 1) (fun e => d2 e.2)]; rfl)
      · refine ev_t (fun e => d ((nI_eq (b := 19) (by omega) (by omega)).mp e)) ?_
        unfold fg_78_157
        exact fin true (by rw [decide_eq_false (p := x = 19 ∧ p = 1) (fun e => d e.1)]; rfl)
set_option maxRecDepth 100000 in
set_option maxHeartbeats 1600000 in
theorem c_78l_102 {V : Nat → Nat → Value} {I : Nat → Nat → Int32} {L : Nat → Nat → Int64} {R : Nat → Nat → Option Nat} {tl : am_H} {N k : Nat} {l r : List (Nat × Nat)} {x : Nat × Nat} (ho : okF [(0, 1, 0)] l) (hl : l.length ≤ 60) (hd : l.drop k = x :: r) (h7 : V 102 7 = .int (nI l.length)) (he : ∀ j, j < l.length → I 103 j = nI (enL l j)) : ∀ (q p K : Nat) (t fo lo : Nat → Int32), p + q = arN x.1 → q < K → (∀ j, k < j → j < l.length → t j = nI (tlL l j) ∧ fo j = nI (foL l j).toNat ∧ lo j = nI (loL l j).toNat) → t k = nI (mxR (dpL l) k (1 + tk p r) + 1 - dpL l k) → fo k = nI (anR (isFo l) k (1 + tk p r)).toNat → lo k = nI (decide (inL l k = 1) && anR (isLf l) k (1 + tk p r)).toNat → ∃ t' fo' lo', (∀ j, k ≤ j → j < l.length → t' j = nI (tlL l j) ∧ fo' j = nI (foL l j).toNat ∧ lo' j = nI (loL l j).toNat) ∧ fg_78_53 N K (.ref 102) (nI k) (nI x.1) (nI (k + 1 + tk p r)) (nI p) (fx V (iup (iup (iup I 105 t) 107 fo) 108 lo) L R ++ tl) = some (.inl (none, fx V (iup (iup (iup I 105 t') 107 fo') 108 lo') L R ++ tl)) := by
  have len := drop_len hd
  obtain ⟨x20, -⟩ := form_at ho hd
  have ar3 := ar_le x.1
  intro q
  induction q with
  | zero =>
    intro p K t fo lo hp hK hj ht hf hlo
    obtain ⟨K, rfl⟩ : ∃ k, K = k + 1 := ⟨K - 1, by omega⟩
    have pe : p = arN x.1 := by omega
    have te := tl_e hd
    refine ⟨t, fo, lo, fun j j1 j2 => ?_, ?_⟩
    · by_cases c : j = k
      · rw [c, ht, hf, hlo, pe, ← te]
        exact ⟨rfl, rfl, rfl⟩
      · exact hj j (by omega) j2
    · rw [fg_78_53]
      refine ev_cI (pe_14 _ _) ?_
      rw [ar14 x.1 (by omega)]
      exact ev_t (nI_le (by omega) (by omega)) rfl
  | succ q ih =>
    intro p K t fo lo hp hK hj ht hf hlo
    obtain ⟨K, rfl⟩ : ∃ k, K = k + 1 := ⟨K - 1, by omega⟩
    obtain ⟨lt, dd, -, t1, t2, en⟩ := fm_part ho hd (show p < arN x.1 by omega)
    obtain ⟨a1, a2, a3⟩ := hj (k + 1 + tk p r) (by omega) lt
    have m1 := mx_b ho hl (k := k) (m := 1 + tk p r) (by omega)
    have m2 : tlL l (k + 1 + tk p r) ≤ 13 := by
      unfold tlL
      have := mx_b ho hl (k := k + 1 + tk p r) (m := tk 1 (l.drop (k + 1 + tk p r))) (tk_1le (by omega))
      omega
    obtain ⟨tn, htn⟩ : ∃ tn, tn = mxR (dpL l) k (1 + tk (p + 1) r) + 1 - dpL l k := ⟨_, rfl⟩
    obtain ⟨bn, hbn⟩ : ∃ bn, bn = anR (isFo l) k (1 + tk (p + 1) r) := ⟨_, rfl⟩
    have fs := fo_s ho hd (show p < arN x.1 by omega)
    have ls := lo_s ho hd (show p < arN x.1 by omega)
    obtain ⟨t', fo', lo', h1, h2⟩ := ih (p + 1) K (upd t k (nI tn)) (upd fo k (nI bn.toNat)) (upd lo k (nI ((decide (inL l k = 1) && anR (isLf l) k (1 + tk p r)) || (loL l (k + 1 + tk p r) && !(decide (x.1 = 19 ∧ p = 1)))).toNat)) (by omega) (by omega) (fun j j1 j2 => by rw [upd_ne (by omega), upd_ne (by omega), upd_ne (by omega)]; exact hj j j1 j2) (by rw [upd_eq, htn]) (by rw [upd_eq, hbn]) (by rw [upd_eq, ls])
    have b := c_78b_102 (V := V) (I := I) (L := L) (R := R) (tl := tl) (N := N) (k := k) (at' := k + 1 + tk p r) (p := p) (x := x.1) (nx' := k + 1 + tk (p + 1) r) (b := bn) (t := upd t k (nI tn)) (fo := fo) (lo := lo) (rc := fg_78_53 N K) (by omega) (by omega) (by omega) (by omega) hlo a3 (by rw [he _ lt, en])
    refine ⟨t', fo', lo', h1, ?_⟩
    rw [fg_78_53]
    refine ev_cI (pe_14 _ _) ?_
    rw [ar14 x.1 (by omega)]
    refine ev_f (nI_ge (by omega) (by omega)) (ev_b (rdI h7) (ev_f (nI_ge lt (by omega)) ?_))
    refine ev_b (a := Value.ref 105) rfl (ev_b (a := Value.ref 105) rfl (ev_b (a := nI (mxR (dpL l) k (1 + tk p r) + 1 - dpL l k)) ((ev_a (f := t) (n := 60) rfl (am_inb_n (by omega) (by omega))).trans (by rw [nI_clamp (by omega), ht])) (ev_b (a := Value.ref 105) rfl (ev_b (a := nI (tlL l (k + 1 + tk p r))) ((ev_a (f := t) (n := 60) rfl (am_inb_n (by omega) (by omega))).trans (by rw [nI_clamp (by omega), a1])) (ev_cI (pe_37 _ _ _) ?_)))))
    rw [nI_1, maxI (by omega) (by omega), tl_s ho hd (by omega), ← htn]
    refine ev_b (a := fx V (iup (iup (iup I 105 (upd t k (nI tn))) 107 fo) 108 lo) L R ++ tl) (ev_s (f := t) (n := 60) rfl (am_inb_n (by omega) (by omega)) rfl (by rw [nI_clamp (by omega)]; rfl)) ?_
    refine ev_b (a := Value.ref 107) rfl (ev_b (a := Value.ref 107) rfl (ev_b (a := nI (anR (isFo l) k (1 + tk p r)).toNat) ((ev_a (f := fo) (n := 60) rfl (am_inb_n (by omega) (by omega))).trans (by rw [nI_clamp (by omega), hf])) ?_))
    have ra : am_pA 2 (.ref 107) (nI (k + 1 + tk p r)) (fx V (iup (iup (iup I 105 (upd t k (nI tn))) 107 fo) 108 lo) L R ++ tl) = some (nI (foL l (k + 1 + tk p r)).toNat) := (ev_a (f := fo) (n := 60) rfl (am_inb_n (by omega) (by omega))).trans (by rw [nI_clamp (by omega), a2])
    cases e1 : anR (isFo l) k (1 + tk p r) with
    | true =>
      rw [e1, Bool.true_or, ← hbn] at fs
      rw [← fs] at b h2
      refine ev_t (by decide) ?_
      unfold fg_78_116
      exact b.trans h2
    | false =>
      rw [e1, Bool.false_or, ← hbn] at fs
      refine ev_f (fun e => e rfl) (ev_b (a := Value.ref 107) rfl (ev_b ra ?_))
      cases e2 : foL l (k + 1 + tk p r) with
      | true =>
        rw [e2] at fs
        rw [← fs] at b h2
        refine ev_f (by decide) ?_
        unfold fg_78_116
        exact b.trans h2
      | false =>
        rw [e2] at fs
        rw [← fs] at b h2
        refine ev_t rfl ?_
        exact b.trans h2
set_option maxRecDepth 100000 in
set_option maxHeartbeats 1600000 in
theorem c_78_102 {V : Nat → Nat → Value} {I : Nat → Nat → Int32} {L : Nat → Nat → Int64} {R : Nat → Nat → Option Nat} {tl : am_H} {N k : Nat} {l r : List (Nat × Nat)} {x : Nat × Nat} {t fo lo : Nat → Int32} (hN : 100 < N) (ho : okF [(0, 1, 0)] l) (hl : l.length ≤ 60) (hd : l.drop k = x :: r) (h7 : V 102 7 = .int (nI l.length)) (he : ∀ j, j < l.length → I 103 j = nI (enL l j)) (hj : ∀ j, k < j → j < l.length → t j = nI (tlL l j) ∧ fo j = nI (foL l j).toNat ∧ lo j = nI (loL l j).toNat) : ∃ t' fo' lo', (∀ j, k ≤ j → j < l.length → t' j = nI (tlL l j) ∧ fo' j = nI (foL l j).toNat ∧ lo' j = nI (loL l j).toNat) ∧ fm_78 N (.ref 102) (nI k) (nI x.1) (fx V (iup (iup (iup I 105 t) 107 fo) 108 lo) L R ++ tl) = some (.inl (none, fx V (iup (iup (iup I 105 t') 107 fo') 108 lo') L R ++ tl)) := by
  have len := drop_len hd
  obtain ⟨x20, -⟩ := form_at ho hd
  have ar3 := ar_le x.1
  obtain ⟨b1, hb1⟩ : ∃ b, b = decide (x.1 = 19) := ⟨_, rfl⟩
  obtain ⟨b2, hb2⟩ : ∃ b, b = (decide (x.1 = 5) || decide (x.1 = 6)) := ⟨_, rfl⟩
  obtain ⟨t', fo', lo', h1, h2⟩ := c_78l_102 (V := V) (I := I) (L := L) (R := R) (tl := tl) (N := N) ho hl hd h7 he (arN x.1) 0 N (upd t k 1) (upd fo k (nI b1.toNat)) (upd lo k (nI b2.toNat)) (by omega) (by omega) (fun j j1 j2 => by rw [upd_ne (by omega), upd_ne (by omega), upd_ne (by omega)]; exact hj j j1 j2) (by rw [upd_eq, tk_0, mx_1, Nat.add_sub_cancel_left]; rfl) (by rw [upd_eq, tk_0, an_1, hb1]; unfold isFo; rw [sL_at hd]) (by rw [upd_eq, tk_0, an_1, lf_0 ho hd, hb2])
  rw [tk_0, Nat.add_zero] at h2
  refine ⟨t', fo', lo', h1, ?_⟩
  have f45 : ∀ w : Bool, w = b2 → fg_78_45 N (.ref 102) (nI k) (nI x.1) (.ref 108) (nI k) (nI w.toNat) (fx V (iup (iup (iup I 105 (upd t k 1)) 107 (upd fo k (nI b1.toNat))) 108 lo) L R ++ tl) = some (.inl (none, fx V (iup (iup (iup I 105 t') 107 fo') 108 lo') L R ++ tl)) := fun w hw => by
    unfold fg_78_45
    rw [nI_1, hw]
    exact ev_b (a := fx V (iup (iup (iup I 105 (upd t k 1)) 107 (upd fo k (nI b1.toNat))) 108 (upd lo k (nI b2.toNat))) L R ++ tl) (ev_s (f := lo) (n := 60) rfl (am_inb_n (by omega) (by omega)) (afB _) (by rw [nI_clamp (by omega)]; rfl)) h2
  have f23 : ∀ w : Bool, w = b1 → fg_78_23 N (.ref 102) (nI k) (nI x.1) (.ref 107) (nI k) (nI w.toNat) (fx V (iup (iup (iup I 105 (upd t k 1)) 107 fo) 108 lo) L R ++ tl) = some (.inl (none, fx V (iup (iup (iup I 105 t') 107 fo') 108 lo') L R ++ tl)) := fun w hw => by
    unfold fg_78_23
    rw [hw]
    refine ev_b (a := fx V (iup (iup (iup I 105 (upd t k 1)) 107 (upd fo k (nI b1.toNat))) 108 lo) L R ++ tl) (ev_s (f := fo) (n := 60) rfl (am_inb_n (by omega) (by omega)) (afB _) (by rw [nI_clamp (by omega)]; rfl)) (ev_b (a := Value.ref 108) rfl ?_)
    by_cases c5 : x.1 = 5
    · refine ev_t (by rw [c5]; rfl) ?_
      unfold fg_78_40
      exact f45 true (by rw [hb2, decide_eq_true c5]; rfl)
    · refine ev_f (fun e => c5 ((nI_eq (b := 5) (by omega) (by omega)).mp e)) ?_
      by_cases c6 : x.1 = 6
      · refine ev_f (fun e => e (by rw [c6]; rfl)) ?_
        unfold fg_78_40
        exact f45 true (by rw [hb2, decide_eq_true c6, Bool.or_true])
      · refine ev_t (fun e => c6 ((nI_eq (b := 6) (by omega) (by omega)).mp e)) ?_
        exact f45 false (by rw [hb2, decide_eq_false c5, decide_eq_false c6]; rfl)
  unfold fm_78 fg_78_0
  refine ev_b (a := Value.ref 105) rfl (ev_b (a := fx V (iup (iup (iup I 105 (upd t k 1)) 107 fo) 108 lo) L R ++ tl) (ev_s (f := t) (n := 60) rfl (am_inb_n (by omega) (by omega)) rfl (by rw [nI_clamp (by omega)]; rfl)) (ev_b (a := Value.ref 107) rfl ?_))
  by_cases c : x.1 = 19
  · exact ev_f (fun e => e (by rw [c]; rfl)) (f23 true (by rw [hb1, decide_eq_true c]))
  · exact ev_t (fun e => c ((nI_eq (b := 19) (by omega) (by omega)).mp e)) (f23 false (by rw [hb1, decide_eq_false c]))
set_option maxRecDepth 100000 in
set_option maxHeartbeats 1600000 in
theorem c_76g_102 {V : Nat → Nat → Value} {I : Nat → Nat → Int32} {L : Nat → Nat → Int64} {R : Nat → Nat → Option Nat} {tl : am_H} {N a it ln m0 : Nat} {f : Nat → Int32} {l : List (Nat × Nat)} (hN : 100 < N) (hp : prA V I tl a it 0 ln l.length m0 f) (hit : it < 102 ∨ 102 + 7 < it) (hm0 : l.length * 2 ≤ m0) (hm1 : m0 ≤ 1000) (ho : okF [(0, 1, 0)] l) (hl : l.length ≤ 60) (h7 : V 102 7 = .int (nI l.length)) (he : ∀ j, j < l.length → I 103 j = nI (enL l j)) (hS : ∀ k x r, l.drop k = x :: r → f (k * 2) = nI x.1 ∧ x.1 ≤ 20) : ∀ (k K : Nat) (t fo lo : Nat → Int32), k ≤ l.length → k < K → (∀ j, k ≤ j → j < l.length → t j = nI (tlL l j) ∧ fo j = nI (foL l j).toNat ∧ lo j = nI (loL l j).toNat) → ∃ t' fo' lo' K', (∀ j, j < l.length → t' j = nI (tlL l j) ∧ fo' j = nI (foL l j).toNat ∧ lo' j = nI (loL l j).toNat) ∧ fg_76_12 N K (.ref 102) (.ref a) (nI k + (-1)) (fx V (iup (iup (iup I 105 t) 107 fo) 108 lo) L R ++ tl) = fg_76_12 N (K' + 1) (.ref 102) (.ref a) (-1) (fx V (iup (iup (iup I 105 t') 107 fo') 108 lo') L R ++ tl) := by
  intro k
  induction k with
  | zero =>
    intro K t fo lo hk hK hj
    obtain ⟨K, rfl⟩ : ∃ k, K = k + 1 := ⟨K - 1, by omega⟩
    exact ⟨t, fo, lo, K, fun j hj2 => hj j (by omega) hj2, rfl⟩
  | succ k ih =>
    intro K t fo lo hk hK hj
    obtain ⟨K, rfl⟩ : ∃ k, K = k + 1 := ⟨K - 1, by omega⟩
    obtain ⟨x, r, m, hd, hm⟩ := isF_at (okF_F l _ ho) (show k < l.length by omega)
    obtain ⟨s1, s2⟩ := hS k x r hd
    obtain ⟨t1, fo1, lo1, a1, a2⟩ := c_78_102 (V := V) (I := I) (L := L) (R := R) (tl := tl) (N := N) (t := t) (fo := fo) (lo := lo) hN ho hl hd h7 he (fun j j1 j2 => hj j (by omega) j2)
    obtain ⟨t2, fo2, lo2, K', b1, b2⟩ := ih K t1 fo1 lo1 (by omega) (by omega) a1
    have hpg := hp V (iup (iup (iup I 105 t) 107 fo) 108 lo) L R (fun j => rfl) ((iup_na (by omega)).trans ((iup_na (by omega)).trans (iup_na (by omega))))
    have g0 := c_54 (k := k) (w := 0) hpg (show l.length * wdN 0 ≤ m0 from hm0) hm1 hl (by omega) (by decide)
    rw [show wdN 0 = 2 from rfl, Nat.add_zero, s1] at g0
    obtain ⟨x1, x2, x3, x4, x5, x6, p1, p2⟩ := hpg
    refine ⟨t2, fo2, lo2, K', b1, ?_⟩
    rw [fg_76_12, nI_m1]
    exact ev_f (nI_pos (by omega)) (ev_i (ev_ok p1) (ev_cI g0 (ev_i rfl (ev_cV a2 b2))))
set_option maxRecDepth 100000 in
set_option maxHeartbeats 1600000 in
theorem c_79l_102 {V : Nat → Nat → Value} {I : Nat → Nat → Int32} {L : Nat → Nat → Int64} {R : Nat → Nat → Option Nat} {tl : am_H} {N k d0 i0 : Nat} {l r : List (Nat × Nat)} {x : Nat × Nat} (ho : okF [(0, 1, 0)] l) (hl : l.length ≤ 60) (hd : l.drop k = x :: r) (h7 : V 102 7 = .int (nI l.length)) (he : ∀ j, j < l.length → I 103 j = nI (enL l j)) (hi0 : i0 ≤ 1) : ∀ (q p K : Nat) (de inn : Nat → Int32), p + q = arN x.1 → q < K → de k = nI d0 → inn k = nI i0 → (∀ i, i < p → de (k + 1 + tk i r) = nI (d0 + 1) ∧ inn (k + 1 + tk i r) = nI (if x.1 = 19 ∧ i = 1 then 1 else i0)) → ∃ de' inn', (∀ i, i < arN x.1 → de' (k + 1 + tk i r) = nI (d0 + 1) ∧ inn' (k + 1 + tk i r) = nI (if x.1 = 19 ∧ i = 1 then 1 else i0)) ∧ (∀ j, (∀ i, p ≤ i → i < arN x.1 → j ≠ k + 1 + tk i r) → de' j = de j ∧ inn' j = inn j) ∧ fg_79_7 N K (.ref 102) (nI k) (nI x.1) (nI (k + 1 + tk p r)) (nI p) (fx V (iup (iup I 104 de) 106 inn) L R ++ tl) = some (.inl (none, fx V (iup (iup I 104 de') 106 inn') L R ++ tl)) := by
  have len := drop_len hd
  obtain ⟨x20, -⟩ := form_at ho hd
  have ar3 := ar_le x.1
  obtain ⟨x', r', mm, hd', hF⟩ := isF_at (okF_F l _ ho) (show k < l.length by omega)
  rw [hd] at hd'
  obtain ⟨rfl, rfl⟩ := List.cons.inj hd'
  intro q
  induction q with
  | zero =>
    intro p K de inn hp hK hk hi hpre
    obtain ⟨K, rfl⟩ : ∃ k, K = k + 1 := ⟨K - 1, by omega⟩
    refine ⟨de, inn, fun i hi => hpre i (by omega), fun j _ => ⟨rfl, rfl⟩, ?_⟩
    rw [fg_79_7]
    refine ev_cI (pe_14 _ _) ?_
    rw [ar14 x.1 (by omega)]
    exact ev_t (nI_le (by omega) (by omega)) rfl
  | succ q ih =>
    intro p K de inn hp hK hk hi hpre
    obtain ⟨K, rfl⟩ : ∃ k, K = k + 1 := ⟨K - 1, by omega⟩
    obtain ⟨lt, -, -, t1, t2, en⟩ := fm_part ho hd (show p < arN x.1 by omega)
    have ne : ∀ i, i < p → k + 1 + tk i r ≠ k + 1 + tk p r := fun i hi => by
      have := tk_lt hF hi (show p ≤ mm + arN x.1 by omega)
      omega
    obtain ⟨w, hw⟩ : ∃ w : Nat, w = if x.1 = 19 ∧ p = 1 then 1 else i0 := ⟨_, rfl⟩
    obtain ⟨de', inn', h1, h2, h3⟩ := ih (p + 1) K (upd de (k + 1 + tk p r) (nI (d0 + 1))) (upd inn (k + 1 + tk p r) (nI w)) (by omega) (by omega) (by rw [upd_ne (by omega)]; exact hk) (by rw [upd_ne (by omega)]; exact hi) (fun i hi => by
      by_cases c : i = p
      · rw [c, upd_eq, upd_eq, hw]
        exact ⟨rfl, rfl⟩
      · rw [upd_ne (ne i (by omega)), upd_ne (ne i (by omega))]
        exact hpre i (by omega))
    refine ⟨de', inn', h1, fun j hj => ?_, ?_⟩
    · obtain ⟨y1, y2⟩ := h2 j (fun i i1 i2 => hj i (by omega) i2)
      rw [upd_ne (hj p (by omega) (by omega))] at y1 y2
      exact ⟨y1, y2⟩
    · have fin : ∀ (z : Nat), z = w → z ≤ 1 → fg_79_69 N (fg_79_7 N K) (.ref 102) (nI k) (nI x.1) (nI (k + 1 + tk p r)) (nI p) (.ref 106) (nI (k + 1 + tk p r)) (nI z) (fx V (iup (iup I 104 (upd de (k + 1 + tk p r) (nI (d0 + 1)))) 106 inn) L R ++ tl) = some (.inl (none, fx V (iup (iup I 104 de') 106 inn') L R ++ tl)) := fun z hz z1 => by
        have af : am_afit 2 (nI z) = true := by
          rcases (by omega : z = 0 ∨ z = 1) with rfl | rfl <;> rfl
        unfold fg_79_69
        rw [nI_1]
        refine ev_b (a := fx V (iup (iup I 104 (upd de (k + 1 + tk p r) (nI (d0 + 1)))) 106 (upd inn (k + 1 + tk p r) (nI w))) L R ++ tl) (ev_s (f := inn) (n := 60) rfl (am_inb_n (by omega) (by omega)) af (by rw [nI_clamp (by omega), hz]; rfl)) ?_
        refine ev_b (a := Value.ref 103) rfl (ev_b (a := nI (k + 1 + tk (p + 1) r)) ((ev_a (f := I 103) (n := 60) rfl (am_inb_n (by omega) (by omega))).trans (by rw [nI_clamp (by omega), he _ lt, en])) h3)
      rw [fg_79_7]
      refine ev_cI (pe_14 _ _) ?_
      rw [ar14 x.1 (by omega)]
      refine ev_f (nI_ge (by omega) (by omega)) (ev_b (rdI h7) (ev_f (nI_ge lt (by omega)) ?_))
      refine ev_b (a := Value.ref 104) rfl (ev_b (a := Value.ref 104) rfl (ev_b (a := nI d0) ((ev_a (f := de) (n := 60) rfl (am_inb_n (by omega) (by omega))).trans (by rw [nI_clamp (by omega), hk])) ?_))
      rw [nI_1]
      refine ev_b (a := fx V (iup (iup I 104 (upd de (k + 1 + tk p r) (nI (d0 + 1)))) 106 inn) L R ++ tl) (ev_s (f := de) (n := 60) rfl (am_inb_n (by omega) (by omega)) rfl (by rw [nI_clamp (by omega)]; rfl)) ?_
      refine ev_b (a := Value.ref 106) rfl (ev_b (a := Value.ref 106) rfl (ev_b (a := nI i0) ((ev_a (f := inn) (n := 60) rfl (am_inb_n (by omega) (by omega))).trans (by rw [nI_clamp (by omega), hi])) ?_))
      rcases (by omega : i0 = 0 ∨ i0 = 1) with rfl | rfl
      · refine ev_f (fun e => e rfl) ?_
        by_cases c : x.1 = 19
        · refine ev_f (fun e => e (by rw [c]; rfl)) ?_
          by_cases c2 : p = 1
          · refine ev_f (fun e => e (by rw [c2]; rfl)) ?_
            unfold fg_79_64
            exact fin 1 (by rw [hw, if_pos ⟨c, c2⟩]) (by omega)
          · refine ev_t (fun e => c2 ((nI_eq (b := 1) (by omega) (by omega)).mp e)) ?_
            unfold fg_79_68
            exact fin 0 (by rw [hw, if_neg (fun e => c2 e.2)]) (by omega)
        · refine ev_t (fun e => c ((nI_eq (b := 19) (by omega) (by omega)).mp e)) ?_
          unfold fg_79_68
          exact fin 0 (by rw [hw, if_neg (fun e => c e.1)]) (by omega)
      · refine ev_t (by decide) ?_
        unfold fg_79_64
        exact fin 1 (by rw [hw]; split <;> rfl) (by omega)
set_option maxRecDepth 100000 in
set_option maxHeartbeats 1600000 in
theorem c_76f_102 {V : Nat → Nat → Value} {I : Nat → Nat → Int32} {L : Nat → Nat → Int64} {R : Nat → Nat → Option Nat} {tl : am_H} {N a it ln m0 : Nat} {f : Nat → Int32} {l : List (Nat × Nat)} (hN : 100 < N) (hp : prA V I tl a it 0 ln l.length m0 f) (hit : it < 102 ∨ 102 + 7 < it) (hm0 : l.length * 2 ≤ m0) (hm1 : m0 ≤ 1000) (ho : okF [(0, 1, 0)] l) (hl : l.length ≤ 60) (h7 : V 102 7 = .int (nI l.length)) (he : ∀ j, j < l.length → I 103 j = nI (enL l j)) (hS : ∀ k x r, l.drop k = x :: r → f (k * 2) = nI x.1 ∧ x.1 ≤ 20) : ∀ (lst : List (Nat × Nat)) (st : List (Nat × Nat × Nat)) (k K : Nat) (de inn : Nat → Int32), l.drop k = lst → k ≤ l.length → okF st lst → (cxl [(0, 1, 0)] l).drop k = cxl st lst → lst.length < K → (∀ j, j < k → de j = nI (dpL l j) ∧ inn j = nI (inL l j)) → (∀ i c, st[i]? = some c → de (k + tk i lst) = nI c.2.1 ∧ inn (k + tk i lst) = nI c.2.2) → ∃ de' inn', (∀ j, j < l.length → de' j = nI (dpL l j) ∧ inn' j = nI (inL l j)) ∧ fg_76_56 N K (.ref 102) (.ref a) (nI k) (fx V (iup (iup I 104 de) 106 inn) L R ++ tl) = some (.inl (none, fx V (iup (iup I 104 de') 106 inn') L R ++ tl)) := by
  intro lst
  induction lst with
  | nil =>
    intro st k K de inn hd hk hst hcx hK h1 h2
    obtain ⟨K, rfl⟩ : ∃ k, K = k + 1 := ⟨K - 1, by omega⟩
    have lk : k = l.length := by
      have := congrArg List.length hd
      rw [List.length_drop, List.length_nil] at this
      omega
    refine ⟨de, inn, fun j hj => h1 j (by omega), ?_⟩
    rw [fg_76_56, lk]
    exact ev_b (rdI h7) (ev_t (nI_le (by omega) (by omega)) rfl)
  | cons x r ih =>
    intro st k K de inn hd hk hst hcx hK h1 h2
    obtain ⟨K, rfl⟩ : ∃ k, K = k + 1 := ⟨K - 1, by omega⟩
    rw [List.length_cons] at hK
    have len := drop_len hd
    cases st with
    | nil => exact absurd hst (fun e => e)
    | cons c st =>
      rw [cxl_c] at hcx
      have ck : cxK l k = c := drop_get hcx
      have dk : dpL l k = c.2.1 := by unfold dpL; rw [ck]
      have ik : inL l k = c.2.2 := by unfold inL; rw [ck]
      have i1 := in_le1 l k
      obtain ⟨w1, w2⟩ := h2 0 c rfl
      rw [tk_0, Nat.add_zero] at w1 w2
      obtain ⟨s1, s2⟩ := hS k x r hd
      have ar3 := ar_le x.1
      have hF : isF (st.length + arN x.1) r := okF_F _ _ hst
      obtain ⟨de1, in1, a1, a2, a3⟩ := c_79l_102 (V := V) (I := I) (L := L) (R := R) (tl := tl) (N := N) (d0 := c.2.1) (i0 := c.2.2) ho hl hd h7 he (by omega) (arN x.1) 0 N de inn (by omega) (by omega) w1 w2 (fun i hi => by omega)
      rw [tk_0, Nat.add_zero] at a3
      have hpg := hp V (iup (iup I 104 de) 106 inn) L R (fun j => rfl) ((iup_na (by omega)).trans (iup_na (by omega)))
      have g0 := c_54 (k := k) (w := 0) hpg (show l.length * wdN 0 ≤ m0 from hm0) hm1 hl (by omega) (by decide)
      rw [show wdN 0 = 2 from rfl, Nat.add_zero, s1] at g0
      have d1 : l.drop (k + 1) = r := by
        have := drop_s hd 0
        rw [List.drop_zero] at this
        exact this
      obtain ⟨de', inn', b1, b2⟩ := ih (kid x.1 c ++ st) (k + 1) K de1 in1 d1 (by omega) hst.2.2.2.2.2 (by rw [← List.drop_drop, hcx, List.drop_succ_cons, List.drop_zero]) (by omega) (fun j hj => by
        obtain ⟨y1, y2⟩ := a2 j (fun i _ _ => by omega)
        rw [y1, y2]
        by_cases c' : j = k
        · rw [c', w1, w2, dk, ik]
          exact ⟨rfl, rfl⟩
        · exact h1 j (by omega)) (fun i y hy => by
        by_cases ci : i < arN x.1
        · rw [List.getElem?_append_left (by rw [kid_len]; exact ci)] at hy
          obtain ⟨-, rfl⟩ := kid_get hy
          exact a1 i ci
        · rw [List.getElem?_append_right (by rw [kid_len]; omega), kid_len] at hy
          have il : i - arN x.1 < st.length := (List.getElem?_eq_some_iff.mp hy).1
          have z := h2 (i - arN x.1 + 1) y (by rw [List.getElem?_cons_succ]; exact hy)
          rw [tk_c, show i - arN x.1 + arN x.1 = i by omega, show k + (1 + tk i r) = k + 1 + tk i r by omega] at z
          obtain ⟨y1, y2⟩ := a2 (k + 1 + tk i r) (fun i' _ i2 => by
            have := tk_lt hF (show i' < i by omega) (show i ≤ st.length + arN x.1 by omega)
            omega)
          rw [y1, y2]
          exact z)
      obtain ⟨x1, x2, x3, x4, x5, x6, p1, p2⟩ := hpg
      refine ⟨de', inn', b1, ?_⟩
      rw [fg_76_56]
      refine ev_b (rdI h7) (ev_f (nI_ge (by omega) (by omega)) (ev_i (ev_ok p1) (ev_cI g0 (ev_i rfl (ev_cV (h1 := fx V (iup (iup I 104 de1) 106 in1) L R ++ tl) ?_ ?_)))))
      · unfold fm_79 fg_79_0
        rw [nI_1]
        exact a3
      · rw [nI_1]
        exact b2
set_option maxRecDepth 100000 in
set_option maxHeartbeats 1600000 in
theorem c_76_102 {V : Nat → Nat → Value} {I : Nat → Nat → Int32} {L : Nat → Nat → Int64} {R : Nat → Nat → Option Nat} {tl : am_H} {N a it ln m0 : Nat} {f : Nat → Int32} {l : List (Nat × Nat)} (hN : 100 < N) (hp : prA V I tl a it 0 ln l.length m0 f) (ha : a ≠ 102) (hit : it < 102 ∨ 102 + 7 < it) (hm0 : l.length * 2 ≤ m0) (hm1 : m0 ≤ 1000) (ho : okF [(0, 1, 0)] l) (hl : l.length ≤ 60) (hS : ∀ k x r, l.drop k = x :: r → f (k * 2) = nI x.1 ∧ x.1 ≤ 20) : ∃ J, shK J 102 l ∧ (∀ y, y < 102 + 1 ∨ 102 + 6 < y → J y = I y) ∧ fm_76 N (.ref 102) (.ref a) (fx V I L R ++ tl) = some (.inl (none, fx (vup V 102 7 (.int (nI l.length))) J L R ++ tl)) := by
  have h0 : 1 ≤ l.length := by
    cases l with
    | nil => exact absurd ho (fun e => e)
    | cons x r => rw [List.length_cons]; omega
  obtain ⟨g, e1, e2⟩ := c_77_102 (V := V) (I := I) (L := L) (R := R) (tl := tl) (N := N) hN (by decide) hp ha (by omega) hm0 hm1 hl hS (okF_F l _ ho)
  have hp1 : prA (vup V 102 7 (.int (nI l.length))) (iup I 103 g) tl a it 0 ln l.length m0 f := fun W J L' R' hW hJ => hp W J L' R' (fun j => (hW j).trans (vup_na ha)) (hJ.trans (iup_na (by omega)))
  obtain ⟨t', fo', lo', K', c1, c2⟩ := c_76g_102 (V := vup V 102 7 (.int (nI l.length))) (I := iup I 103 g) (L := L) (R := R) (tl := tl) (N := N) hN hp1 hit hm0 hm1 ho hl vup_eq e1 hS l.length N (I 105) (I 107) (I 108) (Nat.le_refl _) (by omega) (fun j j1 j2 => by omega)
  have s3 : iup (iup (iup (iup I 103 g) 105 (I 105)) 107 (I 107)) 108 (I 108) = iup I 103 g := by
    rw [show I 105 = iup I 103 g 105 from (iup_na (by decide)).symm, iup_self, show I 107 = iup I 103 g 107 from (iup_na (by decide)).symm, iup_self, show I 108 = iup I 103 g 108 from (iup_na (by decide)).symm, iup_self]
  rw [s3] at c2
  obtain ⟨J0, hJ0⟩ : ∃ J0, J0 = iup (iup (iup (iup I 103 g) 105 t') 107 fo') 108 lo' := ⟨_, rfl⟩
  have j0e : J0 103 = g := by rw [hJ0, iup_na (by decide), iup_na (by decide), iup_na (by decide), iup_eq]
  have hp2 : prA (vup V 102 7 (.int (nI l.length))) J0 tl a it 0 ln l.length m0 f := fun W J L' R' hW hJ => hp1 W J L' R' hW (hJ.trans (by rw [hJ0, iup_na (by omega), iup_na (by omega), iup_na (by omega)]))
  obtain ⟨de', inn', d1, d2⟩ := c_76f_102 (V := vup V 102 7 (.int (nI l.length))) (I := J0) (L := L) (R := R) (tl := tl) (N := N) hN hp2 hit hm0 hm1 ho hl vup_eq (fun j hj => by rw [j0e]; exact e1 j hj) hS l [(0, 1, 0)] 0 N (upd (J0 104) 0 1) (upd (J0 106) 0 0) List.drop_zero (by omega) ho List.drop_zero (by omega) (fun j hj => by omega) (fun i c hc => by
    cases i with
    | zero =>
      obtain rfl : (0, 1, 0) = c := Option.some.inj hc
      rw [tk_0, Nat.add_zero, upd_eq, upd_eq]
      exact ⟨rfl, rfl⟩
    | succ i => cases hc)
  refine ⟨iup (iup J0 104 de') 106 inn', fun j hj => ?_, fun y hy => ?_, ?_⟩
  · obtain ⟨z1, z2, z3⟩ := c1 j hj
    obtain ⟨z4, z5⟩ := d1 j hj
    refine ⟨?_, ?_, ?_, ?_, ?_, ?_⟩
    · show iup (iup J0 104 de') 106 inn' 103 j = _
      rw [iup_na (by decide), iup_na (by decide), j0e]
      exact e1 j hj
    · show iup (iup J0 104 de') 106 inn' 104 j = _
      rw [iup_na (by decide), iup_eq]
      exact z4
    · show iup (iup J0 104 de') 106 inn' 105 j = _
      rw [iup_na (by decide), iup_na (by decide), hJ0, iup_na (by decide), iup_na (by decide), iup_eq]
      exact z1
    · show iup (iup J0 104 de') 106 inn' 106 j = _
      rw [iup_eq]
      exact z5
    · show iup (iup J0 104 de') 106 inn' 107 j = _
      rw [iup_na (by decide), iup_na (by decide), hJ0, iup_na (by decide), iup_eq]
      exact z2
    · show iup (iup J0 104 de') 106 inn' 108 j = _
      rw [iup_na (by decide), iup_na (by decide), hJ0, iup_eq]
      exact z3
  · rw [iup_na (by omega), iup_na (by omega), hJ0, iup_na (by omega), iup_na (by omega), iup_na (by omega), iup_na (by omega)]
  · unfold fm_76 fg_76_0
    refine ev_i rfl (ev_cV e2 (ev_b (a := nI l.length) rfl ?_))
    rw [Int32.sub_eq_add_neg]
    refine c2.trans ?_
    rw [← hJ0, fg_76_12]
    refine ev_t (by decide) (ev_b (a := nI l.length) rfl (ev_f (nI_nle (by omega) (by omega)) (ev_b (a := Value.ref 104) rfl ?_)))
    refine ev_b (a := fx (vup V 102 7 (.int (nI l.length))) (iup J0 104 (upd (J0 104) 0 1)) L R ++ tl) (ev_s (f := J0 104) (n := 60) rfl rfl rfl rfl) (ev_b (a := Value.ref 106) rfl ?_)
    refine ev_b (a := fx (vup V 102 7 (.int (nI l.length))) (iup (iup J0 104 (upd (J0 104) 0 1)) 106 (upd (J0 106) 0 0)) L R ++ tl) (ev_s (f := J0 106) (n := 60) rfl rfl rfl rfl) ?_
    unfold fg_76_54
    exact d2
