/-! ===== the shape of a part that was grown: how tall it is ===== -/
def cxG (c0 : Nat × Nat × Nat) (l : List (Nat × Nat)) (k : Nat) : Nat × Nat × Nat := (cxl [c0] l).getD k (0, 0, 0)
def dpG (c0 : Nat × Nat × Nat) (l : List (Nat × Nat)) (k : Nat) : Nat := (cxG c0 l k).2.1
def inG (c0 : Nat × Nat × Nat) (l : List (Nat × Nat)) (k : Nat) : Nat := (cxG c0 l k).2.2
def tlG (c0 : Nat × Nat × Nat) (l : List (Nat × Nat)) (k : Nat) : Nat := mxR (dpG c0 l) k (tk 1 (l.drop k)) + 1 - dpG c0 l k
theorem form_atG {c0 : Nat × Nat × Nat} {l r : List (Nat × Nat)} {x : Nat × Nat} {k : Nat} (ho : okF [c0] l) (hd : l.drop k = x :: r) : x.1 ≤ 20 ∧ truN x.1 = (cxG c0 l k).1 ∧ (cxG c0 l k).2.1 ≤ 12 ∧ ((cxG c0 l k).2.2 = 0 → x.1 ≠ 5 ∧ x.1 ≠ 6) ∧ ((cxG c0 l k).2.2 = 1 → x.1 ≠ 19) ∧ ∀ p, p < arN x.1 → ∃ y r2, l.drop (k + 1 + tk p r) = y :: r2 ∧ cxG c0 l (k + 1 + tk p r) = (twN x.1 p, (cxG c0 l k).2.1 + 1, if x.1 = 19 ∧ p = 1 then 1 else (cxG c0 l k).2.2) := by
  obtain ⟨c, st, h1, h2⟩ := cxl_at l _ k x r ho hd
  rw [cxl_c] at h2
  have ck : cxG c0 l k = c := drop_get h2
  rw [ck]
  obtain ⟨q1, q2, q3, q4, q5, q6⟩ := h1
  refine ⟨q1, q2, q3, q4, q5, fun p hp => ?_⟩
  have hl : p ≤ (kid x.1 c ++ st).length := by rw [List.length_append, kid_len]; omega
  obtain ⟨w1, w2⟩ := cxl_tk r (kid x.1 c ++ st) p q6 hl
  have e : (kid x.1 c ++ st).drop p = (twN x.1 p, c.2.1 + 1, if x.1 = 19 ∧ p = 1 then 1 else c.2.2) :: ((kid x.1 c).drop (p + 1) ++ st) := by
    rw [List.drop_append_of_le_length (by rw [kid_len]; omega), kid_at hp, List.cons_append]
  rw [e] at w1 w2
  obtain ⟨y, r2, w3⟩ := okF_ne w1
  refine ⟨y, r2, by rw [drop_s hd]; exact w3, ?_⟩
  rw [w3, cxl_c] at w2
  have e2 : (cxl [c0] l).drop (k + 1 + tk p r) = (twN x.1 p, c.2.1 + 1, if x.1 = 19 ∧ p = 1 then 1 else c.2.2) :: cxl (kid y.1 (twN x.1 p, c.2.1 + 1, if x.1 = 19 ∧ p = 1 then 1 else c.2.2) ++ ((kid x.1 c).drop (p + 1) ++ st)) r2 := by
    rw [show k + 1 + tk p r = k + (1 + tk p r) by omega, ← List.drop_drop, h2, show 1 + tk p r = tk p r + 1 by omega, List.drop_succ_cons]
    exact w2
  exact drop_get e2
theorem fm_partG {c0 : Nat × Nat × Nat} {l r : List (Nat × Nat)} {x : Nat × Nat} {k p : Nat} (ho : okF [c0] l) (hd : l.drop k = x :: r) (hp : p < arN x.1) : k + 1 + tk p r < l.length ∧ dpG c0 l (k + 1 + tk p r) = dpG c0 l k + 1 ∧ inG c0 l (k + 1 + tk p r) = (if x.1 = 19 ∧ p = 1 then 1 else inG c0 l k) ∧ 1 ≤ tk 1 (l.drop (k + 1 + tk p r)) ∧ 1 + tk (p + 1) r = (1 + tk p r) + tk 1 (l.drop (k + 1 + tk p r)) ∧ enL l (k + 1 + tk p r) = k + 1 + tk (p + 1) r := by
  obtain ⟨-, -, -, -, -, q6⟩ := form_atG ho hd
  obtain ⟨y, r2, w1, w2⟩ := q6 p hp
  have e1 : tk 1 (l.drop (k + 1 + tk p r)) = tk 1 (r.drop (tk p r)) := by rw [drop_s hd]
  have e2 := tk_add r p 1
  have e3 : 1 ≤ tk 1 (l.drop (k + 1 + tk p r)) := by
    rw [w1, show (1 : Nat) = 0 + 1 from rfl, tk_c]
    omega
  refine ⟨by have := drop_len w1; omega, by unfold dpG; rw [w2], by unfold inG; rw [w2], e3, by omega, by unfold enL; omega⟩
theorem tl_sG {c0 : Nat × Nat × Nat} {l r : List (Nat × Nat)} {x : Nat × Nat} {k p : Nat} (ho : okF [c0] l) (hd : l.drop k = x :: r) (hp : p < arN x.1) : max (mxR (dpG c0 l) k (1 + tk p r) + 1 - dpG c0 l k) (tlG c0 l (k + 1 + tk p r) + 1) = mxR (dpG c0 l) k (1 + tk (p + 1) r) + 1 - dpG c0 l k := by
  obtain ⟨-, d, -, e3, e4, -⟩ := fm_partG ho hd hp
  have g1 : dpG c0 l k ≤ mxR (dpG c0 l) k (1 + tk p r) := mxR_ge _ (by omega)
  have g2 : dpG c0 l (k + 1 + tk p r) ≤ mxR (dpG c0 l) (k + 1 + tk p r) (tk 1 (l.drop (k + 1 + tk p r))) := mxR_ge _ e3
  have a := mxR_add (dpG c0 l) k (1 + tk p r) (tk 1 (l.drop (k + 1 + tk p r)))
  rw [show k + (1 + tk p r) = k + 1 + tk p r by omega, ← e4] at a
  rw [a]
  unfold tlG
  omega
theorem tl_bG {c0 : Nat × Nat × Nat} {l : List (Nat × Nat)} (ho : okF [c0] l) (hl : l.length ≤ 60) {k : Nat} (hk : k < l.length) : dpG c0 l k ≤ 12 := by
  obtain ⟨x, r, m, hd, hm⟩ := isF_at (okF_F l _ ho) hk
  exact (form_atG ho hd).2.2.1
theorem mx_bG {c0 : Nat × Nat × Nat} {l : List (Nat × Nat)} (ho : okF [c0] l) (hl : l.length ≤ 60) {k m : Nat} (h : k + m ≤ l.length) : mxR (dpG c0 l) k m ≤ 12 := mxR_le _ (fun j _ h2 => tl_bG ho hl (by omega))
set_option maxRecDepth 100000 in
set_option maxHeartbeats 4000000 in
theorem x_91p {V : Nat → Nat → Value} {I : Nat → Nat → Int32} {L : Nat → Nat → Int64} {R : Nat → Nat → Option Nat} {tl : am_H} {N c n P : Nat} (hN : 40 < N) (h7 : L 77 = tW) (h8 : L 78 = tT) (hc : c < 6) (h1 : 1 ≤ n) (hn : n ≤ 12) (hP : P < uT c n) : fm_91 N (.ref 76) (nI c) (nI n) (lN P) (.ref 92) (fx V I L R ++ tl) = some (.inl (none, fx (vup (vup (vup (vup (vup (vup V 76 3 (.ref 92)) 92 1 (.int 0)) 92 2 (.int 0)) 92 3 (.int 0)) 92 4 (.int 2)) 92 3 (.int (nI n))) (iup I 93 (wrt (I 93) 0 (un c n P))) L R ++ tl)) := by
  have hR : rkH (fx (vup (vup (vup (vup (vup V 76 3 (.ref 92)) 92 1 (.int 0)) 92 2 (.int 0)) 92 3 (.int 0)) 92 4 (.int 2)) I L R ++ tl) 92 := ⟨_, rfl, rfl, rfl, rfl, by rw [← h7]; rfl, by rw [← h8]; rfl⟩
  have hO : hgO (fx (vup (vup (vup (vup (vup V 76 3 (.ref 92)) 92 1 (.int 0)) 92 2 (.int 0)) 92 3 (.int 0)) 92 4 (.int 2)) I L R ++ tl) 92 93 [.ref 93, .int 0, .int 0, .int 0, .int 2, V 92 5, V 92 6, V 92 7, V 92 8, V 92 9, V 92 10] := ⟨by omega, by rw [List.length_append, fx_len]; omega, by rw [List.length_append, fx_len]; omega, rfl, rfl, rfl⟩
  have q := (grw_ok (h := fx (vup (vup (vup (vup (vup V 76 3 (.ref 92)) 92 1 (.int 0)) 92 2 (.int 0)) 92 3 (.int 0)) 92 4 (.int 2)) I L R ++ tl) (A := 92) (B := 93) (m := 120) (N := N) (fs := [.ref 93, .int 0, .int 0, .int 0, .int 2, V 92 5, V 92 6, V 92 7, V 92 8, V 92 9, V 92 10]) (by omega) hR hO (by omega) (by omega) (by omega) n hn h1 n 40 c P 1 0 (I 93) (Nat.le_refl _) (by omega) hc hP (by omega) (by omega)).1
  unfold fm_91 fg_91_0
  refine ev_b (a := fx (vup V 76 3 (.ref 92)) I L R ++ tl) (ev_p rfl rfl rfl rfl) ?_
  refine ev_b (a := .ref 92) rfl ?_
  refine ev_i rfl ?_
  have h34 : fm_34 (.ref 92) 0 0 (fx (vup V 76 3 (.ref 92)) I L R ++ tl) = some (.inl (none, fx (vup (vup (vup (vup (vup V 76 3 (.ref 92)) 92 1 (.int 0)) 92 2 (.int 0)) 92 3 (.int 0)) 92 4 (.int 2)) I L R ++ tl)) := by
    unfold fm_34 fg_34_0
    refine ev_b (a := fx (vup (vup V 76 3 (.ref 92)) 92 1 (.int 0)) I L R ++ tl) (ev_p rfl rfl rfl rfl) ?_
    refine ev_b (a := fx (vup (vup (vup V 76 3 (.ref 92)) 92 1 (.int 0)) 92 2 (.int 0)) I L R ++ tl) (ev_p rfl rfl rfl rfl) ?_
    refine ev_b (a := fx (vup (vup (vup (vup V 76 3 (.ref 92)) 92 1 (.int 0)) 92 2 (.int 0)) 92 3 (.int 0)) I L R ++ tl) (ev_p rfl rfl rfl rfl) ?_
    refine ev_t (by decide) ?_
    unfold fg_34_26
    exact ev_b (a := fx (vup (vup (vup (vup (vup V 76 3 (.ref 92)) 92 1 (.int 0)) 92 2 (.int 0)) 92 3 (.int 0)) 92 4 (.int 2)) I L R ++ tl) (ev_p rfl rfl rfl rfl) rfl
  refine ev_cV h34 ?_
  refine ev_i rfl ?_
  have h92 : fm_92 N (.ref 76) (nI c) (nI n) (lN P) 1 (fx (vup (vup (vup (vup (vup V 76 3 (.ref 92)) 92 1 (.int 0)) 92 2 (.int 0)) 92 3 (.int 0)) 92 4 (.int 2)) I L R ++ tl) = some (.inl (none, fx (vup (vup (vup (vup (vup (vup V 76 3 (.ref 92)) 92 1 (.int 0)) 92 2 (.int 0)) 92 3 (.int 0)) 92 4 (.int 2)) 92 3 (.int (nI n))) (iup I 93 (wrt (I 93) 0 (un c n P))) L R ++ tl)) := by
    rw [Nat.zero_add] at q
    exact q
  exact ev_cV h92 rfl
set_option maxRecDepth 100000 in
set_option maxHeartbeats 4000000 in
theorem c_78lW {V : Nat → Nat → Value} {I : Nat → Nat → Int32} {L : Nat → Nat → Int64} {R : Nat → Nat → Option Nat} {tl : am_H} {N k : Nat} {c0 : Nat × Nat × Nat} {l r : List (Nat × Nat)} {x : Nat × Nat} (ho : okF [c0] l) (hl : l.length ≤ 60) (hd : l.drop k = x :: r) (h7 : V 102 7 = .int (nI l.length)) (he : ∀ j, j < l.length → I 103 j = nI (enL l j)) : ∀ (q p K : Nat) (t fo lo : Nat → Int32), p + q = arN x.1 → q < K → (∀ j, k < j → j < l.length → t j = nI (tlG c0 l j) ∧ (∃ b : Bool, fo j = nI b.toNat) ∧ ∃ b : Bool, lo j = nI b.toNat) → t k = nI (mxR (dpG c0 l) k (1 + tk p r) + 1 - dpG c0 l k) → (∃ b : Bool, fo k = nI b.toNat) → (∃ b : Bool, lo k = nI b.toNat) → ∃ t' fo' lo', (∀ j, k ≤ j → j < l.length → t' j = nI (tlG c0 l j) ∧ (∃ b : Bool, fo' j = nI b.toNat) ∧ ∃ b : Bool, lo' j = nI b.toNat) ∧ fg_78_53 N K (.ref 102) (nI k) (nI x.1) (nI (k + 1 + tk p r)) (nI p) (fx V (iup (iup (iup I 105 t) 107 fo) 108 lo) L R ++ tl) = some (.inl (none, fx V (iup (iup (iup I 105 t') 107 fo') 108 lo') L R ++ tl)) := by
  have len := drop_len hd
  obtain ⟨x20, -⟩ := form_atG ho hd
  have ar3 := ar_le x.1
  intro q
  induction q with
  | zero =>
    intro p K t fo lo hp hK hj ht hf hlo
    obtain ⟨K, rfl⟩ : ∃ k, K = k + 1 := ⟨K - 1, by omega⟩
    have pe : p = arN x.1 := by omega
    have te := tl_e hd
    refine ⟨t, fo, lo, fun j j1 j2 => ?_, ?_⟩
    · by_cases c : j = k
      · rw [c]
        refine ⟨?_, hf, hlo⟩
        rw [ht, pe, ← te]
        rfl
      · exact hj j (by omega) j2
    · rw [fg_78_53]
      refine ev_cI (pe_14 _ _) ?_
      rw [ar14 x.1 (by omega)]
      exact ev_t (nI_le (by omega) (by omega)) rfl
  | succ q ih =>
    intro p K t fo lo hp hK hj ht hf hlo
    obtain ⟨K, rfl⟩ : ∃ k, K = k + 1 := ⟨K - 1, by omega⟩
    obtain ⟨lt, dd, -, t1, t2, en⟩ := fm_partG ho hd (show p < arN x.1 by omega)
    obtain ⟨a1, ⟨f2, a2⟩, ⟨l2, a3⟩⟩ := hj (k + 1 + tk p r) (by omega) lt
    obtain ⟨f1, hf⟩ := hf
    obtain ⟨l1, hlo⟩ := hlo
    have m1 := mx_bG ho hl (k := k) (m := 1 + tk p r) (by omega)
    have m2 : tlG c0 l (k + 1 + tk p r) ≤ 13 := by
      unfold tlG
      have := mx_bG ho hl (k := k + 1 + tk p r) (m := tk 1 (l.drop (k + 1 + tk p r))) (tk_1le (by omega))
      omega
    obtain ⟨tn, htn⟩ : ∃ tn, tn = mxR (dpG c0 l) k (1 + tk (p + 1) r) + 1 - dpG c0 l k := ⟨_, rfl⟩
    obtain ⟨t', fo', lo', h1, h2⟩ := ih (p + 1) K (upd t k (nI tn)) (upd fo k (nI (f1 || f2).toNat)) (upd lo k (nI (l1 || (l2 && !(decide (x.1 = 19 ∧ p = 1)))).toNat)) (by omega) (by omega) (fun j j1 j2 => by rw [upd_ne (by omega), upd_ne (by omega), upd_ne (by omega)]; exact hj j j1 j2) (by rw [upd_eq, htn]) ⟨_, upd_eq⟩ ⟨_, upd_eq⟩
    have b := c_78b_102 (V := V) (I := I) (L := L) (R := R) (tl := tl) (N := N) (k := k) (at' := k + 1 + tk p r) (p := p) (x := x.1) (nx' := k + 1 + tk (p + 1) r) (b := f1 || f2) (t := upd t k (nI tn)) (fo := fo) (lo := lo) (rc := fg_78_53 N K) (by omega) (by omega) (by omega) (by omega) hlo a3 (by rw [he _ lt, en])
    refine ⟨t', fo', lo', h1, ?_⟩
    rw [fg_78_53]
    refine ev_cI (pe_14 _ _) ?_
    rw [ar14 x.1 (by omega)]
    refine ev_f (nI_ge (by omega) (by omega)) (ev_b (rdI h7) (ev_f (nI_ge lt (by omega)) ?_))
    refine ev_b (a := Value.ref 105) rfl (ev_b (a := Value.ref 105) rfl (ev_b (a := nI (mxR (dpG c0 l) k (1 + tk p r) + 1 - dpG c0 l k)) ((ev_a (f := t) (n := 60) rfl (am_inb_n (by omega) (by omega))).trans (by rw [nI_clamp (by omega), ht])) (ev_b (a := Value.ref 105) rfl (ev_b (a := nI (tlG c0 l (k + 1 + tk p r))) ((ev_a (f := t) (n := 60) rfl (am_inb_n (by omega) (by omega))).trans (by rw [nI_clamp (by omega), a1])) (ev_cI (pe_37 _ _ _) ?_)))))
    rw [nI_1, maxI (by omega) (by omega), tl_sG ho hd (by omega), ← htn]
    refine ev_b (a := fx V (iup (iup (iup I 105 (upd t k (nI tn))) 107 fo) 108 lo) L R ++ tl) (ev_s (f := t) (n := 60) rfl (am_inb_n (by omega) (by omega)) rfl (by rw [nI_clamp (by omega)]; rfl)) ?_
    refine ev_b (a := Value.ref 107) rfl (ev_b (a := Value.ref 107) rfl (ev_b (a := nI f1.toNat) ((ev_a (f := fo) (n := 60) rfl (am_inb_n (by omega) (by omega))).trans (by rw [nI_clamp (by omega), hf])) ?_))
    have ra : am_pA 2 (.ref 107) (nI (k + 1 + tk p r)) (fx V (iup (iup (iup I 105 (upd t k (nI tn))) 107 fo) 108 lo) L R ++ tl) = some (nI f2.toNat) := (ev_a (f := fo) (n := 60) rfl (am_inb_n (by omega) (by omega))).trans (by rw [nI_clamp (by omega), a2])
    cases f1 with
    | true =>
      refine ev_t (by decide) ?_
      unfold fg_78_116
      exact b.trans h2
    | false =>
      refine ev_f (fun e => e rfl) (ev_b (a := Value.ref 107) rfl (ev_b ra ?_))
      cases f2 with
      | true =>
        refine ev_f (by decide) ?_
        unfold fg_78_116
        exact b.trans h2
      | false =>
        refine ev_t rfl ?_
        exact b.trans h2
set_option maxRecDepth 100000 in
set_option maxHeartbeats 4000000 in
theorem c_78W {V : Nat → Nat → Value} {I : Nat → Nat → Int32} {L : Nat → Nat → Int64} {R : Nat → Nat → Option Nat} {tl : am_H} {N k : Nat} {c0 : Nat × Nat × Nat} {l r : List (Nat × Nat)} {x : Nat × Nat} {t fo lo : Nat → Int32} (hN : 100 < N) (ho : okF [c0] l) (hl : l.length ≤ 60) (hd : l.drop k = x :: r) (h7 : V 102 7 = .int (nI l.length)) (he : ∀ j, j < l.length → I 103 j = nI (enL l j)) (hj : ∀ j, k < j → j < l.length → t j = nI (tlG c0 l j) ∧ (∃ b : Bool, fo j = nI b.toNat) ∧ ∃ b : Bool, lo j = nI b.toNat) : ∃ t' fo' lo', (∀ j, k ≤ j → j < l.length → t' j = nI (tlG c0 l j) ∧ (∃ b : Bool, fo' j = nI b.toNat) ∧ ∃ b : Bool, lo' j = nI b.toNat) ∧ fm_78 N (.ref 102) (nI k) (nI x.1) (fx V (iup (iup (iup I 105 t) 107 fo) 108 lo) L R ++ tl) = some (.inl (none, fx V (iup (iup (iup I 105 t') 107 fo') 108 lo') L R ++ tl)) := by
  have len := drop_len hd
  obtain ⟨x20, -⟩ := form_atG ho hd
  have ar3 := ar_le x.1
  obtain ⟨b1, hb1⟩ : ∃ b, b = decide (x.1 = 19) := ⟨_, rfl⟩
  obtain ⟨b2, hb2⟩ : ∃ b, b = (decide (x.1 = 5) || decide (x.1 = 6)) := ⟨_, rfl⟩
  obtain ⟨t', fo', lo', h1, h2⟩ := c_78lW (V := V) (I := I) (L := L) (R := R) (tl := tl) (N := N) ho hl hd h7 he (arN x.1) 0 N (upd t k 1) (upd fo k (nI b1.toNat)) (upd lo k (nI b2.toNat)) (by omega) (by omega) (fun j j1 j2 => by rw [upd_ne (by omega), upd_ne (by omega), upd_ne (by omega)]; exact hj j j1 j2) (by rw [upd_eq, tk_0, mx_1, Nat.add_sub_cancel_left]; rfl) ⟨_, upd_eq⟩ ⟨_, upd_eq⟩
  rw [tk_0, Nat.add_zero] at h2
  refine ⟨t', fo', lo', h1, ?_⟩
  have f45 : ∀ w : Bool, w = b2 → fg_78_45 N (.ref 102) (nI k) (nI x.1) (.ref 108) (nI k) (nI w.toNat) (fx V (iup (iup (iup I 105 (upd t k 1)) 107 (upd fo k (nI b1.toNat))) 108 lo) L R ++ tl) = some (.inl (none, fx V (iup (iup (iup I 105 t') 107 fo') 108 lo') L R ++ tl)) := fun w hw => by
    unfold fg_78_45
    rw [nI_1, hw]
    exact ev_b (a := fx V (iup (iup (iup I 105 (upd t k 1)) 107 (upd fo k (nI b1.toNat))) 108 (upd lo k (nI b2.toNat))) L R ++ tl) (ev_s (f := lo) (n := 60) rfl (am_inb_n (by omega) (by omega)) (afB _) (by rw [nI_clamp (by omega)]; rfl)) h2
  have f23 : ∀ w : Bool, w = b1 → fg_78_23 N (.ref 102) (nI k) (nI x.1) (.ref 107) (nI k) (nI w.toNat) (fx V (iup (iup (iup I 105 (upd t k 1)) 107 fo) 108 lo) L R ++ tl) = some (.inl (none, fx V (iup (iup (iup I 105 t') 107 fo') 108 lo') L R ++ tl)) := fun w hw => by
    unfold fg_78_23
    rw [hw]
    refine ev_b (a := fx V (iup (iup (iup I 105 (upd t k 1)) 107 (upd fo k (nI b1.toNat))) 108 lo) L R ++ tl) (ev_s (f := fo) (n := 60) rfl (am_inb_n (by omega) (by omega)) (afB _) (by rw [nI_clamp (by omega)]; rfl)) (ev_b (a := Value.ref 108) rfl ?_)
    by_cases c5 : x.1 = 5
    · refine ev_t (by rw [c5]; rfl) ?_
      unfold fg_78_40
      exact f45 true (by rw [hb2, decide_eq_true c5]; rfl)
    · refine ev_f (fun e => c5 ((nI_eq (b := 5) (by omega) (by omega)).mp e)) ?_
      by_cases c6 : x.1 = 6
      · refine ev_f (fun e => e (by rw [c6]; rfl)) ?_
        unfold fg_78_40
        exact f45 true (by rw [hb2, decide_eq_true c6, Bool.or_true])
      · refine ev_t (fun e => c6 ((nI_eq (b := 6) (by omega) (by omega)).mp e)) ?_
        exact f45 false (by rw [hb2, decide_eq_false c5, decide_eq_false c6]; rfl)
  unfold fm_78 fg_78_0
  refine ev_b (a := Value.ref 105) rfl (ev_b (a := fx V (iup (iup (iup I 105 (upd t k 1)) 107 fo) 108 lo) L R ++ tl) (ev_s (f := t) (n := 60) rfl (am_inb_n (by omega) (by omega)) rfl (by rw [nI_clamp (by omega)]; rfl)) (ev_b (a := Value.ref 107) rfl ?_))
  by_cases c : x.1 = 19
  · exact ev_f (fun e => e (by rw [c]; rfl)) (f23 true (by rw [hb1, decide_eq_true c]))
  · exact ev_t (fun e => c ((nI_eq (b := 19) (by omega) (by omega)).mp e)) (f23 false (by rw [hb1, decide_eq_false c]))
set_option maxRecDepth 100000 in
set_option maxHeartbeats 4000000 in
theorem c_76gW {V : Nat → Nat → Value} {I : Nat → Nat → Int32} {L : Nat → Nat → Int64} {R : Nat → Nat → Option Nat} {tl : am_H} {N a it ln m0 : Nat} {f : Nat → Int32} {c0 : Nat × Nat × Nat} {l : List (Nat × Nat)} (hN : 100 < N) (hp : prA V I tl a it 0 ln l.length m0 f) (hit : it < 102 ∨ 102 + 7 < it) (hm0 : l.length * 2 ≤ m0) (hm1 : m0 ≤ 1000) (ho : okF [c0] l) (hl : l.length ≤ 60) (h7 : V 102 7 = .int (nI l.length)) (he : ∀ j, j < l.length → I 103 j = nI (enL l j)) (hS : ∀ k x r, l.drop k = x :: r → f (k * 2) = nI x.1 ∧ x.1 ≤ 20) : ∀ (k K : Nat) (t fo lo : Nat → Int32), k ≤ l.length → k < K → (∀ j, k ≤ j → j < l.length → t j = nI (tlG c0 l j) ∧ (∃ b : Bool, fo j = nI b.toNat) ∧ ∃ b : Bool, lo j = nI b.toNat) → ∃ t' fo' lo' K', (∀ j, j < l.length → t' j = nI (tlG c0 l j) ∧ (∃ b : Bool, fo' j = nI b.toNat) ∧ ∃ b : Bool, lo' j = nI b.toNat) ∧ fg_76_12 N K (.ref 102) (.ref a) (nI k + (-1)) (fx V (iup (iup (iup I 105 t) 107 fo) 108 lo) L R ++ tl) = fg_76_12 N (K' + 1) (.ref 102) (.ref a) (-1) (fx V (iup (iup (iup I 105 t') 107 fo') 108 lo') L R ++ tl) := by
  intro k
  induction k with
  | zero =>
    intro K t fo lo hk hK hj
    obtain ⟨K, rfl⟩ : ∃ k, K = k + 1 := ⟨K - 1, by omega⟩
    exact ⟨t, fo, lo, K, fun j hj2 => hj j (by omega) hj2, rfl⟩
  | succ k ih =>
    intro K t fo lo hk hK hj
    obtain ⟨K, rfl⟩ : ∃ k, K = k + 1 := ⟨K - 1, by omega⟩
    obtain ⟨x, r, m, hd, hm⟩ := isF_at (okF_F l _ ho) (show k < l.length by omega)
    obtain ⟨s1, s2⟩ := hS k x r hd
    obtain ⟨t1, fo1, lo1, a1, a2⟩ := c_78W (V := V) (I := I) (L := L) (R := R) (tl := tl) (N := N) (t := t) (fo := fo) (lo := lo) hN ho hl hd h7 he (fun j j1 j2 => hj j (by omega) j2)
    obtain ⟨t2, fo2, lo2, K', b1, b2⟩ := ih K t1 fo1 lo1 (by omega) (by omega) a1
    have hpg := hp V (iup (iup (iup I 105 t) 107 fo) 108 lo) L R (fun j => rfl) ((iup_na (by omega)).trans ((iup_na (by omega)).trans (iup_na (by omega))))
    have g0 := c_54 (k := k) (w := 0) hpg (show l.length * wdN 0 ≤ m0 from hm0) hm1 hl (by omega) (by decide)
    rw [show wdN 0 = 2 from rfl, Nat.add_zero, s1] at g0
    obtain ⟨x1, x2, x3, x4, x5, x6, p1, p2⟩ := hpg
    refine ⟨t2, fo2, lo2, K', b1, ?_⟩
    rw [fg_76_12, nI_m1]
    exact ev_f (nI_pos (by omega)) (ev_i (ev_ok p1) (ev_cI g0 (ev_i rfl (ev_cV a2 b2))))
set_option maxRecDepth 100000 in
set_option maxHeartbeats 4000000 in
theorem c_79lW {V : Nat → Nat → Value} {I : Nat → Nat → Int32} {L : Nat → Nat → Int64} {R : Nat → Nat → Option Nat} {tl : am_H} {N k : Nat} {c0 : Nat × Nat × Nat} {l r : List (Nat × Nat)} {x : Nat × Nat} (ho : okF [c0] l) (hl : l.length ≤ 60) (hd : l.drop k = x :: r) (h7 : V 102 7 = .int (nI l.length)) (he : ∀ j, j < l.length → I 103 j = nI (enL l j)) : ∀ (q p K : Nat) (de inn : Nat → Int32), p + q = arN x.1 → q < K → ∃ de' inn', fg_79_7 N K (.ref 102) (nI k) (nI x.1) (nI (k + 1 + tk p r)) (nI p) (fx V (iup (iup I 104 de) 106 inn) L R ++ tl) = some (.inl (none, fx V (iup (iup I 104 de') 106 inn') L R ++ tl)) := by
  have len := drop_len hd
  obtain ⟨x20, -⟩ := form_atG ho hd
  have ar3 := ar_le x.1
  intro q
  induction q with
  | zero =>
    intro p K de inn hp hK
    obtain ⟨K, rfl⟩ : ∃ k, K = k + 1 := ⟨K - 1, by omega⟩
    refine ⟨de, inn, ?_⟩
    rw [fg_79_7]
    refine ev_cI (pe_14 _ _) ?_
    rw [ar14 x.1 (by omega)]
    exact ev_t (nI_le (by omega) (by omega)) rfl
  | succ q ih =>
    intro p K de inn hp hK
    obtain ⟨K, rfl⟩ : ∃ k, K = k + 1 := ⟨K - 1, by omega⟩
    obtain ⟨lt, -, -, t1, t2, en⟩ := fm_partG ho hd (show p < arN x.1 by omega)
    have fin : ∀ (z : Nat), z ≤ 1 → ∃ de' inn', fg_79_69 N (fg_79_7 N K) (.ref 102) (nI k) (nI x.1) (nI (k + 1 + tk p r)) (nI p) (.ref 106) (nI (k + 1 + tk p r)) (nI z) (fx V (iup (iup I 104 (upd de (k + 1 + tk p r) (de k + 1))) 106 inn) L R ++ tl) = some (.inl (none, fx V (iup (iup I 104 de') 106 inn') L R ++ tl)) := fun z z1 => by
      have af : am_afit 2 (nI z) = true := by
        rcases (by omega : z = 0 ∨ z = 1) with rfl | rfl <;> rfl
      obtain ⟨de', inn', h3⟩ := ih (p + 1) K (upd de (k + 1 + tk p r) (de k + 1)) (upd inn (k + 1 + tk p r) (nI z)) (by omega) (by omega)
      refine ⟨de', inn', ?_⟩
      unfold fg_79_69
      rw [nI_1]
      refine ev_b (a := fx V (iup (iup I 104 (upd de (k + 1 + tk p r) (de k + 1))) 106 (upd inn (k + 1 + tk p r) (nI z))) L R ++ tl) (ev_s (f := inn) (n := 60) rfl (am_inb_n (by omega) (by omega)) af (by rw [nI_clamp (by omega)]; rfl)) ?_
      refine ev_b (a := Value.ref 103) rfl (ev_b (a := nI (k + 1 + tk (p + 1) r)) ((ev_a (f := I 103) (n := 60) rfl (am_inb_n (by omega) (by omega))).trans (by rw [nI_clamp (by omega), he _ lt, en])) h3)
    have pre : ∀ o, (if ¬ inn k = 0 then (fg_79_64 N (fg_79_7 N K) (.ref 102) (nI k) (nI x.1) (nI (k + 1 + tk p r)) (nI p) (.ref 106) (nI (k + 1 + tk p r)) (fx V (iup (iup I 104 (upd de (k + 1 + tk p r) (de k + 1))) 106 inn) L R ++ tl)) else (if ¬ nI x.1 = 19 then (fg_79_68 N (fg_79_7 N K) (.ref 102) (nI k) (nI x.1) (nI (k + 1 + tk p r)) (nI p) (.ref 106) (nI (k + 1 + tk p r)) (fx V (iup (iup I 104 (upd de (k + 1 + tk p r) (de k + 1))) 106 inn) L R ++ tl)) else (if ¬ nI p = 1 then (fg_79_68 N (fg_79_7 N K) (.ref 102) (nI k) (nI x.1) (nI (k + 1 + tk p r)) (nI p) (.ref 106) (nI (k + 1 + tk p r)) (fx V (iup (iup I 104 (upd de (k + 1 + tk p r) (de k + 1))) 106 inn) L R ++ tl)) else (fg_79_64 N (fg_79_7 N K) (.ref 102) (nI k) (nI x.1) (nI (k + 1 + tk p r)) (nI p) (.ref 106) (nI (k + 1 + tk p r)) (fx V (iup (iup I 104 (upd de (k + 1 + tk p r) (de k + 1))) 106 inn) L R ++ tl))))) = o → fg_79_7 N (K + 1) (.ref 102) (nI k) (nI x.1) (nI (k + 1 + tk p r)) (nI p) (fx V (iup (iup I 104 de) 106 inn) L R ++ tl) = o := fun o k_ => by
      rw [fg_79_7]
      refine ev_cI (pe_14 _ _) ?_
      rw [ar14 x.1 (by omega)]
      refine ev_f (nI_ge (by omega) (by omega)) (ev_b (rdI h7) (ev_f (nI_ge lt (by omega)) ?_))
      refine ev_b (a := Value.ref 104) rfl (ev_b (a := Value.ref 104) rfl (ev_b (a := de k) ((ev_a (f := de) (n := 60) rfl (am_inb_n (by omega) (by omega))).trans (by rw [nI_clamp (by omega)])) ?_))
      refine ev_b (a := fx V (iup (iup I 104 (upd de (k + 1 + tk p r) (de k + 1))) 106 inn) L R ++ tl) (ev_s (f := de) (n := 60) rfl (am_inb_n (by omega) (by omega)) rfl (by rw [nI_clamp (by omega)]; rfl)) ?_
      exact ev_b (a := Value.ref 106) rfl (ev_b (a := Value.ref 106) rfl (ev_b (a := inn k) ((ev_a (f := inn) (n := 60) rfl (am_inb_n (by omega) (by omega))).trans (by rw [nI_clamp (by omega)])) k_))
    obtain ⟨d1, i1, f1⟩ := fin 1 (by omega)
    obtain ⟨d2, i2, f2⟩ := fin 0 (by omega)
    by_cases ci : inn k = 0
    · by_cases c : nI x.1 = 19
      · by_cases c2 : nI p = 1
        · exact ⟨d1, i1, pre _ (ev_f (fun q => q ci) (ev_f (fun q => q c) (ev_f (fun q => q c2) f1)))⟩
        · exact ⟨d2, i2, pre _ (ev_f (fun q => q ci) (ev_f (fun q => q c) (ev_t c2 f2)))⟩
      · exact ⟨d2, i2, pre _ (ev_f (fun q => q ci) (ev_t c f2))⟩
    · exact ⟨d1, i1, pre _ (ev_t ci f1)⟩
set_option maxRecDepth 100000 in
set_option maxHeartbeats 4000000 in
theorem c_76fW {V : Nat → Nat → Value} {I : Nat → Nat → Int32} {L : Nat → Nat → Int64} {R : Nat → Nat → Option Nat} {tl : am_H} {N a it ln m0 : Nat} {f : Nat → Int32} {c0 : Nat × Nat × Nat} {l : List (Nat × Nat)} (hN : 100 < N) (hp : prA V I tl a it 0 ln l.length m0 f) (hit : it < 102 ∨ 102 + 7 < it) (hm0 : l.length * 2 ≤ m0) (hm1 : m0 ≤ 1000) (ho : okF [c0] l) (hl : l.length ≤ 60) (h7 : V 102 7 = .int (nI l.length)) (he : ∀ j, j < l.length → I 103 j = nI (enL l j)) (hS : ∀ k x r, l.drop k = x :: r → f (k * 2) = nI x.1 ∧ x.1 ≤ 20) : ∀ (m k K : Nat) (de inn : Nat → Int32), k + m = l.length → m < K → ∃ de' inn', fg_76_56 N K (.ref 102) (.ref a) (nI k) (fx V (iup (iup I 104 de) 106 inn) L R ++ tl) = some (.inl (none, fx V (iup (iup I 104 de') 106 inn') L R ++ tl)) := by
  intro m
  induction m with
  | zero =>
    intro k K de inn hk hK
    obtain ⟨K, rfl⟩ : ∃ k, K = k + 1 := ⟨K - 1, by omega⟩
    refine ⟨de, inn, ?_⟩
    rw [fg_76_56]
    exact ev_b (rdI h7) (ev_t (nI_le (by omega) (by omega)) rfl)
  | succ m ih =>
    intro k K de inn hk hK
    obtain ⟨K, rfl⟩ : ∃ k, K = k + 1 := ⟨K - 1, by omega⟩
    obtain ⟨x, r, mm, hd, hmm⟩ := isF_at (okF_F l _ ho) (show k < l.length by omega)
    obtain ⟨s1, s2⟩ := hS k x r hd
    have ar3 := ar_le x.1
    obtain ⟨de1, in1, a3⟩ := c_79lW (V := V) (I := I) (L := L) (R := R) (tl := tl) (N := N) ho hl hd h7 he (arN x.1) 0 N de inn (by omega) (by omega)
    rw [tk_0, Nat.add_zero] at a3
    obtain ⟨de', inn', b2⟩ := ih (k + 1) K de1 in1 (by omega) (by omega)
    have hpg := hp V (iup (iup I 104 de) 106 inn) L R (fun j => rfl) ((iup_na (by omega)).trans (iup_na (by omega)))
    have g0 := c_54 (k := k) (w := 0) hpg (show l.length * wdN 0 ≤ m0 from hm0) hm1 hl (by omega) (by decide)
    rw [show wdN 0 = 2 from rfl, Nat.add_zero, s1] at g0
    obtain ⟨x1, x2, x3, x4, x5, x6, p1, p2⟩ := hpg
    refine ⟨de', inn', ?_⟩
    rw [fg_76_56]
    refine ev_b (rdI h7) (ev_f (nI_ge (by omega) (by omega)) (ev_i (ev_ok p1) (ev_cI g0 (ev_i rfl (ev_cV (h1 := fx V (iup (iup I 104 de1) 106 in1) L R ++ tl) ?_ ?_)))))
    · unfold fm_79 fg_79_0
      rw [nI_1]
      exact a3
    · rw [nI_1]
      exact b2
set_option maxRecDepth 100000 in
set_option maxHeartbeats 4000000 in
theorem c_76W {V : Nat → Nat → Value} {I : Nat → Nat → Int32} {L : Nat → Nat → Int64} {R : Nat → Nat → Option Nat} {tl : am_H} {N a it ln m0 : Nat} {f : Nat → Int32} {c0 : Nat × Nat × Nat} {l : List (Nat × Nat)} (hN : 100 < N) (hp : prA V I tl a it 0 ln l.length m0 f) (ha : a ≠ 102) (hit : it < 102 ∨ 102 + 7 < it) (hm0 : l.length * 2 ≤ m0) (hm1 : m0 ≤ 1000) (ho : okF [c0] l) (hl : l.length ≤ 60) (hS : ∀ k x r, l.drop k = x :: r → f (k * 2) = nI x.1 ∧ x.1 ≤ 20) : ∃ J, J 105 0 = nI (tlG c0 l 0) ∧ (∀ y, y < 102 + 1 ∨ 102 + 6 < y → J y = I y) ∧ fm_76 N (.ref 102) (.ref a) (fx V I L R ++ tl) = some (.inl (none, fx (vup V 102 7 (.int (nI l.length))) J L R ++ tl)) := by
  have h0 : 1 ≤ l.length := by
    cases l with
    | nil => exact absurd ho (fun e => e)
    | cons x r => rw [List.length_cons]; omega
  obtain ⟨g, e1, e2⟩ := c_77_102 (V := V) (I := I) (L := L) (R := R) (tl := tl) (N := N) hN (by decide) hp ha (by omega) hm0 hm1 hl hS (okF_F l _ ho)
  have hp1 : prA (vup V 102 7 (.int (nI l.length))) (iup I 103 g) tl a it 0 ln l.length m0 f := fun W J L' R' hW hJ => hp W J L' R' (fun j => (hW j).trans (vup_na ha)) (hJ.trans (iup_na (by omega)))
  obtain ⟨t', fo', lo', K', c1, c2⟩ := c_76gW (V := vup V 102 7 (.int (nI l.length))) (I := iup I 103 g) (L := L) (R := R) (tl := tl) (N := N) hN hp1 hit hm0 hm1 ho hl vup_eq (fun j hj => by rw [iup_eq]; exact e1 j hj) hS l.length N (I 105) (I 107) (I 108) (Nat.le_refl _) (by omega) (fun j j1 j2 => by omega)
  have s3 : iup (iup (iup (iup I 103 g) 105 (I 105)) 107 (I 107)) 108 (I 108) = iup I 103 g := by
    rw [show I 105 = iup I 103 g 105 from (iup_na (by decide)).symm, iup_self, show I 107 = iup I 103 g 107 from (iup_na (by decide)).symm, iup_self, show I 108 = iup I 103 g 108 from (iup_na (by decide)).symm, iup_self]
  rw [s3] at c2
  obtain ⟨J0, hJ0⟩ : ∃ J0, J0 = iup (iup (iup (iup I 103 g) 105 t') 107 fo') 108 lo' := ⟨_, rfl⟩
  have j0e : J0 103 = g := by rw [hJ0, iup_na (by decide), iup_na (by decide), iup_na (by decide), iup_eq]
  have hp2 : prA (vup V 102 7 (.int (nI l.length))) J0 tl a it 0 ln l.length m0 f := fun W J L' R' hW hJ => hp1 W J L' R' hW (hJ.trans (by rw [hJ0, iup_na (by omega), iup_na (by omega), iup_na (by omega)]))
  obtain ⟨de', inn', d2⟩ := c_76fW (V := vup V 102 7 (.int (nI l.length))) (I := J0) (L := L) (R := R) (tl := tl) (N := N) hN hp2 hit hm0 hm1 ho hl vup_eq (fun j hj => by rw [j0e]; exact e1 j hj) hS l.length 0 N (upd (J0 104) 0 1) (upd (J0 106) 0 0) (by omega) (by omega)
  refine ⟨iup (iup J0 104 de') 106 inn', ?_, fun y hy => ?_, ?_⟩
  · rw [iup_na (by decide), iup_na (by decide), hJ0, iup_na (by decide), iup_na (by decide), iup_eq]
    exact (c1 0 (by omega)).1
  · rw [iup_na (by omega), iup_na (by omega), hJ0, iup_na (by omega), iup_na (by omega), iup_na (by omega), iup_na (by omega)]
  · unfold fm_76 fg_76_0
    refine ev_i rfl (ev_cV e2 (ev_b (a := nI l.length) rfl ?_))
    rw [Int32.sub_eq_add_neg]
    refine c2.trans ?_
    rw [← hJ0, fg_76_12]
    refine ev_t (by decide) (ev_b (a := nI l.length) rfl (ev_f (nI_nle (by omega) (by omega)) (ev_b (a := Value.ref 104) rfl ?_)))
    refine ev_b (a := fx (vup V 102 7 (.int (nI l.length))) (iup J0 104 (upd (J0 104) 0 1)) L R ++ tl) (ev_s (f := J0 104) (n := 60) rfl rfl rfl rfl) (ev_b (a := Value.ref 106) rfl ?_)
    refine ev_b (a := fx (vup V 102 7 (.int (nI l.length))) (iup (iup J0 104 (upd (J0 104) 0 1)) 106 (upd (J0 106) 0 0)) L R ++ tl) (ev_s (f := J0 106) (n := 60) rfl rfl rfl rfl) ?_
    unfold fg_76_54
    exact d2
/-- a tree that was grown for a place fits there when it isn't too tall -/
theorem fitG {tr fl d : Nat} {l : List (Nat × Nat)} (ho : okF [(tr, 1, fl)] l) (hd : 1 ≤ d) : okF [(tr, d, fl)] l ↔ d - 1 + tlG (tr, 1, fl) l 0 ≤ 12 := by
  have hF : isF 1 l := okF_F l _ ho
  have tkl : tk 1 (l.drop 0) = l.length := isF_tk l 1 hF
  have cl := cxl_len l _ ho
  obtain ⟨x, r, hx⟩ := okF_ne ho
  have z0 := (okF_zp _ _).mp ho
  have ec : [((tr, d, fl) : Nat × Nat × Nat)] = [(tr, 1, fl)].map (phi d 1 id) := by
    rw [List.map_cons, List.map_nil]
    congr 1
    show (tr, d, fl) = (tr, 1 + d - 1, fl)
    rw [Nat.add_sub_cancel_left]
  have e2 := cxl_phi (a := d) (b := 1) (F := id) l [(tr, 1, fl)] (fun c hc => by rw [List.mem_singleton.mp hc]; exact Nat.le_refl _) (fun _ _ _ => rfl)
  rw [← ec] at e2
  have at_ : ∀ j, j < l.length → (cxl [(tr, 1, fl)] l)[j]? = some (cxG (tr, 1, fl) l j) := fun j hj => by
    unfold cxG
    rw [List.getD_eq_getElem?_getD, List.getElem?_eq_getElem (by omega)]
    rfl
  have ge1 : ∀ c, c ∈ cxl [(tr, 1, fl)] l → 1 ≤ c.2.1 := cxl_all (q := fun c => 1 ≤ c.2.1) (fun s c hc y hy => kid_ge hc y hy) l _ (fun c hc => by rw [List.mem_singleton.mp hc]; exact Nat.le_refl _)
  have d0 : dpG (tr, 1, fl) l 0 = 1 := by
    unfold dpG cxG
    rw [hx, cxl_c]
    rfl
  unfold tlG
  rw [tkl, d0]
  rw [okF_zp, e2, List.zip_map_left]
  constructor
  · rintro ⟨-, h⟩
    have : mxR (dpG (tr, 1, fl) l) 0 l.length ≤ 13 - d := mxR_le _ (fun j _ hj => by
      have hj' : j < l.length := by omega
      have hm : (cxG (tr, 1, fl) l j, l[j]) ∈ (cxl [(tr, 1, fl)] l).zip l := by
        refine List.mem_iff_getElem?.mpr ⟨j, ?_⟩
        rw [List.getElem?_zip_eq_some]
        exact ⟨at_ j hj', List.getElem?_eq_getElem hj'⟩
      have := (h (phi d 1 id (cxG (tr, 1, fl) l j), l[j]) (List.mem_map.mpr ⟨_, hm, rfl⟩)).2.2.1
      have t : dpG (tr, 1, fl) l j + d - 1 ≤ 12 := this
      omega)
    have g1 : dpG (tr, 1, fl) l 0 ≤ mxR (dpG (tr, 1, fl) l) 0 l.length := mxR_ge _ (by rw [hx, List.length_cons]; omega)
    omega
  · intro h
    refine ⟨z0.1, fun p hp => ?_⟩
    obtain ⟨q, q1, rfl⟩ := List.mem_map.mp hp
    obtain ⟨a1, a2, a3, a4, a5⟩ := z0.2 _ q1
    refine ⟨a1, a2, ?_, a4, a5⟩
    obtain ⟨j, hj⟩ := List.mem_iff_getElem?.mp q1
    rw [List.getElem?_zip_eq_some] at hj
    have jl : j < l.length := (List.getElem?_eq_some_iff.mp hj.2).1
    have e3 : q.1 = cxG (tr, 1, fl) l j := Option.some.inj (hj.1.symm.trans (at_ j jl))
    have m1 := mxR_mem (f := dpG (tr, 1, fl) l) (a := 0) l.length j (by omega) (by omega)
    show q.1.2.1 + d - 1 ≤ 12
    rw [e3]
    have : (cxG (tr, 1, fl) l j).2.1 = dpG (tr, 1, fl) l j := rfl
    omega
