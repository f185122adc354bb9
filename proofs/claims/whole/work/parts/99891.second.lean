/-! ===== the second runner ===== -/
/-- the class's runner: its fault and its steps; the reference's -/
def rsC_b (V : Nat → Nat → Value) (f : Int32) (u : Nat) : Nat → Nat → Value := vup (vup V 27 1 (.int f)) 27 2 (.int (nI u))
set_option maxRecDepth 100000 in
set_option maxHeartbeats 4000000 in
theorem c_118_b {V : Nat → Nat → Value} {I : Nat → Nat → Int32} {L : Nat → Nat → Int64} {R : Nat → Nat → Option Nat} {tl : am_H} {lm u : Nat} (hl : V 27 0 = .int (nI lm)) (hu : u < lm) (h2 : lm ≤ 2000) : fm_118 (.ref 27) (fx (rsC_b V 0 u) I L R ++ tl) = some (.inl (some (.int 1), fx (rsC_b V 0 (u + 1)) I L R ++ tl)) := by
  unfold fm_118 fg_118_0
  refine ev_b (a := nI u) rfl (ev_b (rdI hl) (ev_t (nI_lt hu (by omega)) (ev_b (a := nI u) rfl ?_)))
  rw [nI_1]
  exact ev_b (a := fx (rsC_b V 0 (u + 1)) I L R ++ tl) (ev_p rfl rfl rfl rfl) rfl
set_option maxRecDepth 100000 in
set_option maxHeartbeats 4000000 in
theorem c_118n_b {V : Nat → Nat → Value} {I : Nat → Nat → Int32} {L : Nat → Nat → Int64} {R : Nat → Nat → Option Nat} {tl : am_H} {lm u : Nat} (hl : V 27 0 = .int (nI lm)) (hu : lm ≤ u) (h2 : u ≤ 2000) : fm_118 (.ref 27) (fx (rsC_b V 0 u) I L R ++ tl) = some (.inl (some (.int 0), fx (rsC_b V 3 u) I L R ++ tl)) := by
  unfold fm_118 fg_118_0
  refine ev_b (a := nI u) rfl (ev_b (rdI hl) (ev_f (nI_nlt hu (by omega)) ?_))
  exact ev_b (a := fx (rsC_b V 3 u) I L R ++ tl) (ev_p rfl rfl rfl rfl) rfl
set_option maxRecDepth 100000 in
set_option maxHeartbeats 4000000 in
theorem c_127_b {V : Nat → Nat → Value} {I : Nat → Nat → Int32} {L : Nat → Nat → Int64} {R : Nat → Nat → Option Nat} {tl : am_H} {i j : Nat} (hij : i < j) (hj : j < 8) : fm_127 (.ref 27) (nI i) (nI j) (fx V I L R ++ tl) = some (.inl (none, fx V (iup I 37 (nx (I 37) i j)) L R ++ tl)) := by
  unfold fm_127 fg_127_0
  refine ev_f (nI_pos (by omega)) (ev_f (nI_ge hij (by omega)) (ev_b (a := Value.ref 37) rfl (ev_b (a := nI 8) rfl (ev_f (nI_ge hj (by omega)) (ev_b (a := Value.ref 37) rfl (ev_b (qa_37 (by omega)) (ev_b (a := Value.ref 37) rfl (ev_b (qa_37 hj) ?_))))))))
  unfold nx
  by_cases c : I 37 i ≤ I 37 j
  · rw [if_neg (Int32.not_lt.mpr c), iup_self]
    exact ev_t c rfl
  · rw [if_pos (Int32.not_le.mp c)]
    refine ev_f c (ev_b (a := Value.ref 37) rfl (ev_b (qa_37 (by omega)) (ev_b (a := Value.ref 37) rfl (ev_b (a := Value.ref 37) rfl (ev_b (qa_37 hj) (ev_b (qs_37 (by omega)) (ev_b (a := Value.ref 37) rfl (ev_b (qs_37 hj) ?_))))))))
    rw [iup_iup]
    rfl
set_option maxRecDepth 100000 in
set_option maxHeartbeats 4000000 in
theorem c_126l_b {V : Nat → Nat → Value} {I : Nat → Nat → Int32} {L : Nat → Nat → Int64} {R : Nat → Nat → Option Nat} {tl : am_H} {N a it ln sz m0 lm : Nat} {f : Nat → Int32} {s v : Nat → Nat} (hp : prA V I tl a it 3 ln sz m0 f) (ha : a ≠ 27) (hit : it ≠ 37) (h4 : V 27 4 = .ref a) (hl : V 27 0 = .int (nI lm)) (hlm : lm ≤ 2000) (hsz : sz ≤ 40) (hm0 : sz * wdN 3 ≤ m0) (hm1 : m0 ≤ 1000) (hs : ∀ c, c < sz → f (c * 2) = nI (s c) ∧ f (c * 2 + 1) = nI (v c) ∧ s c < v c ∧ v c < 8) : ∀ (m c K u : Nat) (g : Nat → Int32), c + m = sz → m + 1 < K → u ≤ 2000 → fg_126_45 N K (.ref 27) (nI c) (fx (rsC_b V 0 u) (iup I 37 g) L R ++ tl) = fg_126_98 N (.ref 27) (fx (rsC_b V (nrun s v lm m c u g).1 (nrun s v lm m c u g).2.1) (iup I 37 (nrun s v lm m c u g).2.2) L R ++ tl) := by
  have hpg : ∀ (x : Int32) (u : Nat) (g : Nat → Int32), pg (fx (rsC_b V x u) (iup I 37 g) L R ++ tl) a it 3 ln sz m0 f := fun x u g => hp _ _ _ _ (fun j => by show vup (vup V 27 1 _) 27 2 _ a j = _; rw [vup_na ha, vup_na ha]) (iup_na hit)
  have h4' : ∀ (x : Int32) (u : Nat) (g : Nat → Int32), am_vR (am_pG 1540 (.ref 27) (fx (rsC_b V x u) (iup I 37 g) L R ++ tl)) = some (.ref a) := fun x u g => by
    show am_vR (some (V 27 4)) = _
    rw [h4]
    rfl
  intro m
  induction m with
  | zero =>
    intro c K u g hc hK hu
    obtain ⟨K, rfl⟩ : ∃ k, K = k + 1 := ⟨K - 1, by omega⟩
    obtain ⟨x1, x2, x3, x4, x5, x6, p1, p2⟩ := hpg 0 u g
    rw [fg_126_45]
    exact ev_b (h4' 0 u g) (ev_b (ev_gI p1 rfl rfl) (ev_t (nI_le (by omega) (by omega)) rfl))
  | succ m ih =>
    intro c K u g hc hK hu
    obtain ⟨K, rfl⟩ : ∃ k, K = k + 1 := ⟨K - 1, by omega⟩
    obtain ⟨x1, x2, x3, x4, x5, x6, p1, p2⟩ := hpg 0 u g
    rw [fg_126_45, nrun]
    refine ev_b (h4' 0 u g) (ev_b (ev_gI p1 rfl rfl) (ev_f (nI_ge (by omega) (by omega)) (ev_b (a := 0) rfl (ev_f (fun e => e rfl) (ev_i rfl ?_)))))
    by_cases d : u < lm
    · rw [if_pos d]
      obtain ⟨s1, s2, s3, s4⟩ := hs c (by omega)
      have g0 := c_54 (k := c) (w := 0) (hpg 0 (u + 1) g) hm0 hm1 (by omega) (by omega) (by decide)
      have g1 := c_54 (k := c) (w := 1) (hpg 0 (u + 1) g) hm0 hm1 (by omega) (by omega) (by decide)
      rw [show c * wdN 3 + 0 = c * 2 from rfl, s1] at g0
      rw [show c * wdN 3 + 1 = c * 2 + 1 from rfl, s2] at g1
      obtain ⟨y1, y2, y3, y4, y5, y6, p3, p4⟩ := hpg 0 (u + 1) g
      refine ev_cI (c_118_b hl d hlm) (ev_f (by decide) (ev_b (h4' 0 (u + 1) g) (ev_i (ev_ok p3) (ev_cI g0 (ev_b (h4' 0 (u + 1) g) (ev_i (ev_ok p3) (ev_cI g1 (ev_i rfl (ev_cV (c_127_b s3 s4) ?_)))))))))
      unfold fg_126_92
      rw [iup_iup, nI_1]
      exact ih (c + 1) K (u + 1) (nx g (s c) (v c)) (by omega) (by omega) (by omega)
    · rw [if_neg d]
      refine ev_cI (c_118n_b hl (by omega) hu) (ev_t rfl ?_)
      unfold fg_126_92
      obtain ⟨K, rfl⟩ : ∃ k, K = k + 1 := ⟨K - 1, by omega⟩
      obtain ⟨y1, y2, y3, y4, y5, y6, p3, p4⟩ := hpg 3 u g
      rw [fg_126_45]
      dsimp only
      rw [nI_1]
      refine ev_b (h4' 3 u g) (ev_b (ev_gI p3 rfl rfl) ?_)
      by_cases e : nI sz ≤ nI (c + 1)
      · exact ev_t e rfl
      · exact ev_f e (ev_b (a := 3) rfl (ev_t (by decide) rfl))
set_option maxRecDepth 100000 in
set_option maxHeartbeats 4000000 in
theorem c_126f_b {V : Nat → Nat → Value} {I : Nat → Nat → Int32} {L : Nat → Nat → Int64} {R : Nat → Nat → Option Nat} {tl : am_H} {N len : Nat} (h10 : V 27 10 = .int (nI len)) (hlen : len ≤ 8) : ∀ (m k K : Nat), k + m = 8 → m < K → fg_126_7 N K (.ref 27) (nI k) (fx (rsC_b V 0 1) (iup I 37 (fil (I 37) (I 36) len k)) L R ++ tl) = fg_126_45 N N (.ref 27) 0 (fx (rsC_b V 0 1) (iup I 37 (fil (I 37) (I 36) len 8)) L R ++ tl) := by
  intro m
  induction m with
  | zero =>
    intro k K hk hK
    obtain ⟨K, rfl⟩ : ∃ k, K = k + 1 := ⟨K - 1, by omega⟩
    obtain rfl : k = 8 := by omega
    rw [fg_126_7]
    exact ev_t (by decide) rfl
  | succ m ih =>
    intro k K hk hK
    obtain ⟨K, rfl⟩ : ∃ k, K = k + 1 := ⟨K - 1, by omega⟩
    have st : ∀ x : Int32, x = (if k < len then I 36 k else 0) → fg_126_36 N (fg_126_7 N K) (.ref 27) (nI k) (.ref 37) (nI k) x (fx (rsC_b V 0 1) (iup I 37 (fil (I 37) (I 36) len k)) L R ++ tl) = fg_126_45 N N (.ref 27) 0 (fx (rsC_b V 0 1) (iup I 37 (fil (I 37) (I 36) len 8)) L R ++ tl) := fun x hx => by
      unfold fg_126_36
      refine ev_b (a := fx (rsC_b V 0 1) (iup I 37 (fil (I 37) (I 36) len (k + 1))) L R ++ tl) (ev_s (f := fil (I 37) (I 36) len k) (n := 8) rfl (am_inb_n (by omega) (by omega)) rfl (by rw [nI_clamp (by omega), fil_s hx]; rfl)) ?_
      rw [nI_1]
      exact ih (k + 1) K (by omega) (by omega)
    rw [fg_126_7]
    refine ev_f (nI_ge (b := 8) (by omega) (by omega)) (ev_b (a := Value.ref 37) rfl (ev_b (a := nI len) (by show am_vI (some (V 27 10)) = _; rw [h10]; rfl) ?_))
    by_cases c : len ≤ k
    · exact ev_t (nI_le c (by omega)) (st 0 (by rw [if_neg (by omega)]))
    · exact ev_f (nI_ge (by omega) (by omega)) (ev_b (a := Value.ref 36) rfl (ev_b (qa_36 (by omega)) (st _ (by rw [if_pos (by omega)]; rfl))))
set_option maxRecDepth 100000 in
set_option maxHeartbeats 4000000 in
theorem c_126_b {V : Nat → Nat → Value} {I : Nat → Nat → Int32} {L : Nat → Nat → Int64} {R : Nat → Nat → Option Nat} {tl : am_H} {N a it ln sz m0 lm len : Nat} {f : Nat → Int32} {s v : Nat → Nat} (hN : 100 < N) (hp : prA V I tl a it 3 ln sz m0 f) (ha : a ≠ 27) (hit : it ≠ 37) (h4 : V 27 4 = .ref a) (hl : V 27 0 = .int (nI lm)) (hl1 : 1 ≤ lm) (hlm : lm ≤ 2000) (hsz : sz ≤ 40) (hm0 : sz * wdN 3 ≤ m0) (hm1 : m0 ≤ 1000) (hln : 2 ≤ ln) (hln8 : ln ≤ 8) (hs : ∀ c, c < sz → f (c * 2) = nI (s c) ∧ f (c * 2 + 1) = nI (v c) ∧ s c < v c ∧ v c < 8) (h10 : V 27 10 = .int (nI len)) (hlen : len ≤ 8) : fm_126 N (.ref 27) (fx (rsC_b V 0 0) I L R ++ tl) = some (.inl (some (.int ((nOut s v lm sz (fil (I 37) (I 36) len 8)).2.2 ((ln - 1) / 2))), fx (rsC_b V (nOut s v lm sz (fil (I 37) (I 36) len 8)).1 (nOut s v lm sz (fil (I 37) (I 36) len 8)).2.1) (iup I 37 (nOut s v lm sz (fil (I 37) (I 36) len 8)).2.2) L R ++ tl)) := by
  have k1 := c_126f_b (V := V) (I := I) (L := L) (R := R) (tl := tl) (N := N) h10 hlen 8 0 N rfl (by omega)
  have k2 := c_126l_b (V := V) (I := I) (L := L) (R := R) (tl := tl) (N := N) (s := s) (v := v) hp ha hit h4 hl hlm hsz hm0 hm1 hs sz 0 N 1 (fil (I 37) (I 36) len 8) (by omega) (by omega) (by omega)
  rw [fil_0, iup_self] at k1
  unfold nOut
  generalize nrun s v lm sz 0 1 (fil (I 37) (I 36) len 8) = q at k2 ⊢
  obtain ⟨x1, x2, x3, x4, x5, x6, p1, p2⟩ := hp (rsC_b V q.1 q.2.1) (iup I 37 q.2.2) L R (fun j => by show vup (vup V 27 1 _) 27 2 _ a j = _; rw [vup_na ha, vup_na ha]) (iup_na hit)
  unfold fm_126 fg_126_0
  refine ev_i rfl (ev_cI (c_118_b hl (by omega) hlm) ?_)
  refine k1.trans (k2.trans ?_)
  unfold fg_126_98
  refine ev_b (a := Value.ref a) (by show am_vR (some (V 27 4)) = _; rw [h4]; rfl) (ev_b (ev_gI p1 rfl rfl) ?_)
  rw [half8 ln (by omega) (by omega)]
  refine ev_f (nI_pos (by omega)) (ev_b (a := Value.ref 37) rfl (ev_b (a := nI 8) rfl (ev_f (nI_ge (by omega) (by omega)) (ev_b (a := Value.ref 37) rfl (ev_b (qa_37 (by omega)) rfl)))))
/-- the runner's fields -/
def eW_b (V : Nat → Nat → Value) (st : eSt) : Nat → Nat → Value := rsC_b (vup (vup V 27 11 (.int st.2.2.1)) 27 12 (.int st.2.2.2)) st.1 st.2.1
theorem eW_na_b {V : Nat → Nat → Value} {st : eSt} {a j : Nat} (h : a ≠ 27) : eW_b V st a j = V a j := by
  unfold eW_b rsC_b
  rw [vup_na h, vup_na h, vup_na h, vup_na h]
set_option maxRecDepth 100000 in
set_option maxHeartbeats 4000000 in
theorem c_119_b {V : Nat → Nat → Value} {I : Nat → Nat → Int32} {L : Nat → Nat → Int64} {R : Nat → Nat → Option Nat} {tl : am_H} {x y z : Int32} {len s : Nat} {c : Int32} {st : eSt} (h6 : V 27 6 = .int x) (h7 : V 27 7 = .int y) (h8 : V 27 8 = .int z) (h10 : V 27 10 = .int (nI len)) (hs : s < 7) : fm_119 (.ref 27) (nI s) c (fx (eW_b V st) I L R ++ tl) = some (.inl (some (.int (lfV x y z len s c st)), fx (eW_b V st) I L R ++ tl)) := by
  unfold fm_119 fg_119_0 lfV
  rcases (by omega : s = 0 ∨ s = 1 ∨ s = 2 ∨ s = 3 ∨ s = 4 ∨ s = 5 ∨ s = 6) with rfl | rfl | rfl | rfl | rfl | rfl | rfl
  · rfl
  · exact ev_t rfl (ev_b (a := x) (by show am_vI (some (V 27 6)) = _; rw [h6]; rfl) rfl)
  · exact ev_f (by decide) (ev_t rfl (ev_b (a := y) (by show am_vI (some (V 27 7)) = _; rw [h7]; rfl) rfl))
  · exact ev_f (by decide) (ev_f (by decide) (ev_t rfl (ev_b (a := z) (by show am_vI (some (V 27 8)) = _; rw [h8]; rfl) rfl)))
  · exact ev_f (by decide) (ev_f (by decide) (ev_f (by decide) (ev_t rfl (ev_b (a := nI len) (by show am_vI (some (V 27 10)) = _; rw [h10]; rfl) rfl))))
  · exact ev_f (by decide) (ev_f (by decide) (ev_f (by decide) (ev_f (by decide) (ev_t rfl (ev_b (a := st.2.2.1) rfl rfl)))))
  · exact ev_f (by decide) (ev_f (by decide) (ev_f (by decide) (ev_f (by decide) (ev_f (by decide) (ev_t rfl (ev_b (a := st.2.2.2) rfl rfl))))))
set_option maxRecDepth 100000 in
set_option maxHeartbeats 4000000 in
theorem c_120_b {V : Nat → Nat → Value} {I : Nat → Nat → Int32} {L : Nat → Nat → Int64} {R : Nat → Nat → Option Nat} {tl : am_H} {len s : Nat} {a : Int32} {st : eSt} (h10 : V 27 10 = .int (nI len)) (hlen : len ≤ 8) (hs : s = 7 ∨ s = 8 ∨ s = 9) : fm_120 (.ref 27) (nI s) a (fx (eW_b V st) I L R ++ tl) = some (.inl (some (.int (oneV len (I 36) s a st).1), fx (eW_b V (oneV len (I 36) s a st).2) I L R ++ tl)) := by
  rcases hs with rfl | rfl | rfl
  · unfold fm_120 fg_120_0
    exact ev_t (by decide) (ev_f (fun e => e rfl) rfl)
  · have e : oneV len (I 36) 8 a st = if a < 0 ∨ nI len ≤ a then (0, ((2, st.2) : eSt)) else (I 36 a.toNatClampNeg, st) := rfl
    rw [e]
    unfold fm_120 fg_120_0
    refine ev_t (by decide) (ev_t (by decide) ?_)
    rcases dich a (n := len) (by omega) with hn | ⟨k, hk, rfl⟩
    · rw [if_pos hn]
      have e31 : fg_120_31 (.ref 27) (fx (eW_b V st) I L R ++ tl) = some (.inl (some (.int 0), fx (eW_b V (2, st.2)) I L R ++ tl)) := by
        unfold fg_120_31
        exact ev_b (a := fx (eW_b V (2, st.2)) I L R ++ tl) (ev_p rfl rfl rfl rfl) rfl
      by_cases c : a < 0
      · exact ev_t c e31
      · exact ev_f c (ev_b (a := nI len) (by show am_vI (some (V 27 10)) = _; rw [h10]; rfl) (ev_f (Int32.not_lt.mpr (hn.resolve_left c)) e31))
    · rw [if_neg (show ¬ (nI k < 0 ∨ nI len ≤ nI k) from fun e => e.elim (nI_pos (by omega)) (nI_ge hk (by omega))), nI_clamp (by omega)]
      exact ev_f (nI_pos (by omega)) (ev_b (a := nI len) (by show am_vI (some (V 27 10)) = _; rw [h10]; rfl) (ev_t (nI_lt hk (by omega)) (ev_b (a := Value.ref 36) rfl (ev_b (qa_36 (by omega)) rfl))))
  · unfold fm_120 fg_120_0
    exact ev_f (fun e => e rfl) rfl
set_option maxRecDepth 100000 in
set_option maxHeartbeats 4000000 in
theorem c_122_b {V : Nat → Nat → Value} {I : Nat → Nat → Int32} {L : Nat → Nat → Int64} {R : Nat → Nat → Option Nat} {tl : am_H} {s : Nat} {a b : Int32} {st : eSt} (hs : 10 ≤ s) (hs2 : s ≤ 16) : fm_122 (.ref 27) (nI s) a b (fx (eW_b V st) I L R ++ tl) = some (.inl (some (.int (twoV s a b st).1), fx (eW_b V (twoV s a b st).2) I L R ++ tl)) := by
  have e78 : ∀ t : Nat, (t = 13 ∨ t = 14) → fg_122_78 (.ref 27) (nI t) a b (fx (eW_b V st) I L R ++ tl) = some (.inl (some (.int (if b = 0 then (0, ((1, st.2) : eSt)) else if t = 13 then (a / b, st) else (a - a / b * b, st)).1), fx (eW_b V (if b = 0 then (0, ((1, st.2) : eSt)) else if t = 13 then (a / b, st) else (a - a / b * b, st)).2) I L R ++ tl)) := fun t ht => by
    unfold fg_122_78
    by_cases c : b = 0
    · rw [if_pos c]
      exact ev_f (fun e => e c) (ev_b (a := fx (eW_b V (1, st.2)) I L R ++ tl) (ev_p rfl rfl rfl rfl) rfl)
    · rw [if_neg c]
      refine ev_t c ?_
      rcases ht with rfl | rfl
      · exact ev_f (fun e => e rfl) (ev_t c rfl)
      · exact ev_t (by decide) (ev_t c rfl)
  rcases (by omega : s = 10 ∨ s = 11 ∨ s = 12 ∨ s = 13 ∨ s = 14 ∨ s = 15 ∨ s = 16) with rfl | rfl | rfl | rfl | rfl | rfl | rfl
  · rfl
  · unfold fm_122 fg_122_0
    exact ev_f (by decide) (ev_t rfl rfl)
  · unfold fm_122 fg_122_0
    exact ev_f (by decide) (ev_f (by decide) (ev_t rfl rfl))
  · unfold fm_122 fg_122_0
    exact ev_f (by decide) (ev_f (by decide) (ev_f (by decide) (ev_f (by decide) (ev_f (by decide) (e78 13 (.inl rfl))))))
  · unfold fm_122 fg_122_0
    exact ev_f (by decide) (ev_f (by decide) (ev_f (by decide) (ev_f (by decide) (ev_f (by decide) (e78 14 (.inr rfl))))))
  · have e : twoV 15 a b st = ((if b ≤ a then 0 else 1), st) := rfl
    rw [e]
    unfold fm_122 fg_122_0
    refine ev_f (by decide) (ev_f (by decide) (ev_f (by decide) (ev_t rfl ?_)))
    by_cases c : b ≤ a
    · rw [if_pos c, if_pos c]
      rfl
    · rw [if_neg c, if_neg c]
      rfl
  · have e : twoV 16 a b st = ((if ¬ a = b then 0 else 1), st) := rfl
    rw [e]
    unfold fm_122 fg_122_0
    refine ev_f (by decide) (ev_f (by decide) (ev_f (by decide) (ev_f (by decide) (ev_t rfl ?_))))
    by_cases c : ¬ a = b
    · rw [if_pos c, if_pos c]
      rfl
    · rw [if_neg c, if_neg c]
      rfl
/-- what the class's runner needs of a tree -/
def evH_b (V : Nat → Nat → Value) (I : Nat → Nat → Int32) (tl : am_H) (a it ln sz m0 : Nat) (f : Nat → Int32) (s : Nat → Nat) (v : Nat → Int32) (en : Nat → Nat) (x y z : Int32) (len lm : Nat) : Prop := prA V I tl a it 0 ln sz m0 f ∧ a ≠ 27 ∧ V 27 4 = .ref a ∧ V 27 0 = .int (nI lm) ∧ lm ≤ 2000 ∧ sz ≤ 60 ∧ sz * wdN 0 ≤ m0 ∧ m0 ≤ 1000 ∧ V 27 6 = .int x ∧ V 27 7 = .int y ∧ V 27 8 = .int z ∧ V 27 10 = .int (nI len) ∧ len ≤ 8 ∧ V 28 7 = .int (nI sz) ∧ (∀ k, k < sz → I 29 k = nI (en k)) ∧ ∀ k, k < sz → f (k * 2) = nI (s k) ∧ f (k * 2 + 1) = v k ∧ s k ≤ 20 ∧ (7 ≤ s k → k + 1 < sz) ∧ (10 ≤ s k → en (k + 1) < sz) ∧ (s k = 20 → en (en (k + 1)) < sz)
set_option maxRecDepth 100000 in
set_option maxHeartbeats 4000000 in
theorem c_121l_b {V : Nat → Nat → Value} {I : Nat → Nat → Int32} {L : Nat → Nat → Int64} {R : Nat → Nat → Option Nat} {tl : am_H} {N n2 len : Nat} {dp : Int32} {E2 : eSt → Int32 × eSt} {lm : Nat} {rc : Value → Int32 → Int32 → am_H → Option am_O} {rc2 : Value → Int32 → Int32 → Int32 → am_H → Option am_O} (h10 : V 27 10 = .int (nI len)) (hlen : len ≤ 8) (hu : ∀ st : eSt, st.2.1 ≤ lm → (E2 st).2.2.1 ≤ lm) (he : ∀ st : eSt, st.2.1 ≤ lm → rc (.ref 27) (nI n2) (dp + 1) (fx (eW_b V st) I L R ++ tl) = some (.inl (some (.int (E2 st).1), (fx (eW_b V ((E2 st).2)) I L R ++ tl)))) : ∀ (m i K : Nat) (r : Int32) (st : eSt), i + m = len → m < K → st.2.1 ≤ lm → fg_121_6 N rc rc2 K (.ref 27) (nI n2) dp r (nI i) (fx (eW_b V st) I L R ++ tl) = some (.inl (some (.int (fld (I 36) E2 m i r st).1), (fx (eW_b V ((fld (I 36) E2 m i r st).2)) I L R ++ tl))) := by
  intro m
  induction m with
  | zero =>
    intro i K r st hi hK hs
    obtain ⟨K, rfl⟩ : ∃ k, K = k + 1 := ⟨K - 1, by omega⟩
    rw [fg_121_6]
    exact ev_b (a := nI len) (by show am_vI (some (V 27 10)) = _; rw [h10]; rfl) (ev_t (nI_le (by omega) (by omega)) rfl)
  | succ m ih =>
    intro i K r st hi hK hs
    obtain ⟨K, rfl⟩ : ∃ k, K = k + 1 := ⟨K - 1, by omega⟩
    by_cases c : st.1 ≠ 0
    · have e : fld (I 36) E2 (m + 1) i r st = (r, st) := by rw [fld, if_pos c]
      rw [e, fg_121_6]
      exact ev_b (a := nI len) (by show am_vI (some (V 27 10)) = _; rw [h10]; rfl) (ev_f (nI_ge (by omega) (by omega)) (ev_b (a := st.1) rfl (ev_t c rfl)))
    · have e : fld (I 36) E2 (m + 1) i r st = fld (I 36) E2 m (i + 1) (E2 (st.1, st.2.1, r, I 36 i)).1 (E2 (st.1, st.2.1, r, I 36 i)).2 := by rw [fld, if_neg c]
      rw [e, fg_121_6]
      refine ev_b (a := nI len) (by show am_vI (some (V 27 10)) = _; rw [h10]; rfl) (ev_f (nI_ge (by omega) (by omega)) (ev_b (a := st.1) rfl (ev_f c ?_)))
      refine ev_b (a := (fx (eW_b V ((st.1, st.2.1, r, st.2.2.2))) I L R ++ tl)) (ev_p rfl rfl rfl rfl) (ev_b (a := Value.ref 36) rfl (ev_b (qa_36 (by omega)) ?_))
      refine ev_b (a := (fx (eW_b V ((st.1, st.2.1, r, I 36 i))) I L R ++ tl)) (ev_p rfl rfl rfl rfl) (ev_i rfl (ev_cI (he (st.1, st.2.1, r, I 36 i) hs) ?_))
      rw [nI_1]
      exact ih (i + 1) K _ _ (by omega) (by omega) (hu _ hs)
set_option maxRecDepth 100000 in
set_option maxHeartbeats 4000000 in
/-- behind the first part -/
theorem c_117p_b {V : Nat → Nat → Value} {I : Nat → Nat → Int32} {L : Nat → Nat → Int64} {R : Nat → Nat → Option Nat} {tl : am_H} {N s n2 n3 len lm : Nat} {dp a : Int32} {st : eSt} {E2 E3 : eSt → Int32 × eSt} {rc : Value → Int32 → Int32 → am_H → Option am_O} {rc2 : Value → Int32 → Int32 → Int32 → am_H → Option am_O} (h10 : V 27 10 = .int (nI len)) (hlen : len ≤ 8) (h7 : 7 ≤ s) (hs : s ≤ 20) (hu : st.2.1 ≤ lm)
    (he : 10 ≤ s → ∀ st : eSt, st.2.1 ≤ lm → rc (.ref 27) (nI n2) (dp + 1) (fx (eW_b V st) I L R ++ tl) = some (.inl (some (.int (E2 st).1), (fx (eW_b V ((E2 st).2)) I L R ++ tl))))
    (h3 : s = 20 → fm_100 (.ref 28) (nI n2) (fx (eW_b V st) I L R ++ tl) = some (.inl (some (.int (nI n3)), (fx (eW_b V st) I L R ++ tl))))
    (he3 : s = 20 → rc (.ref 27) (nI n3) (dp + 1) (fx (eW_b V st) I L R ++ tl) = some (.inl (some (.int (E3 st).1), (fx (eW_b V ((E3 st).2)) I L R ++ tl))))
    (hf : s = 19 → rc2 (.ref 27) a (nI n2) dp (fx (eW_b V st) I L R ++ tl) = some (.inl (some (.int (fld (I 36) E2 len 0 a st).1), (fx (eW_b V ((fld (I 36) E2 len 0 a st).2)) I L R ++ tl)))) :
    (if ¬ st.1 = 0 then fg_117_106 N rc rc2 a (fx (eW_b V st) I L R ++ tl) else if ¬ nI s = 17 then fg_117_95 N rc rc2 (.ref 27) dp (nI s) a (nI n2) (fx (eW_b V st) I L R ++ tl) else if a = 0 then fg_117_106 N rc rc2 a (fx (eW_b V st) I L R ++ tl) else fg_117_95 N rc rc2 (.ref 27) dp (nI s) a (nI n2) (fx (eW_b V st) I L R ++ tl)) = some (.inl (some (.int (evP len (I 36) s a st E2 E3).1), (fx (eW_b V ((evP len (I 36) s a st E2 E3).2)) I L R ++ tl))) := by
  have ne : ∀ b, b < 100 → s ≠ b → ¬ nI s = nI b := fun b hb h e => h ((nI_eq (by omega) (by omega)).mp e)
  have e167 : 10 ≤ s → s ≠ 19 → fg_117_167 N rc rc2 (.ref 27) dp (nI s) a (nI n2) (fx (eW_b V st) I L R ++ tl) = some (.inl (some (.int (evR s a (E2 st)).1), (fx (eW_b V ((evR s a (E2 st)).2)) I L R ++ tl))) := fun c4 c5 => by
    by_cases c7 : (E2 st).2.1 ≠ 0
    · have e : evR s a (E2 st) = E2 st := if_pos c7
      rw [e]
      unfold fg_117_167
      exact ev_i rfl (ev_cI (he c4 st hu) (ev_b (a := (E2 st).2.1) rfl (ev_t c7 rfl)))
    · by_cases c17 : s = 17
      · have e : evR s a (E2 st) = E2 st := (if_neg c7).trans (if_pos (.inl c17))
        rw [e]
        unfold fg_117_167
        exact ev_i rfl (ev_cI (he c4 st hu) (ev_b (a := (E2 st).2.1) rfl (ev_f c7 (ev_t (by rw [c17]; rfl) rfl))))
      · by_cases c18 : s = 18
        · have e : evR s a (E2 st) = E2 st := (if_neg c7).trans (if_pos (.inr (.inl c18)))
          rw [e]
          unfold fg_117_167
          exact ev_i rfl (ev_cI (he c4 st hu) (ev_b (a := (E2 st).2.1) rfl (ev_f c7 (ev_f (ne 17 (by omega) c17) (ev_t (by rw [c18]; rfl) rfl)))))
        · by_cases c20 : s = 20
          · have e : evR s a (E2 st) = E2 st := (if_neg c7).trans (if_pos (.inr (.inr c20)))
            rw [e]
            unfold fg_117_167
            exact ev_i rfl (ev_cI (he c4 st hu) (ev_b (a := (E2 st).2.1) rfl (ev_f c7 (ev_f (ne 17 (by omega) c17) (ev_f (ne 18 (by omega) c18) (ev_f (fun e => e (by rw [c20]; rfl)) rfl))))))
          · have e : evR s a (E2 st) = twoV s a (E2 st).1 (E2 st).2 := (if_neg c7).trans (if_neg (by omega))
            rw [e]
            unfold fg_117_167
            exact ev_i rfl (ev_cI (he c4 st hu) (ev_b (a := (E2 st).2.1) rfl (ev_f c7 (ev_f (ne 17 (by omega) c17) (ev_f (ne 18 (by omega) c18) (ev_t (ne 20 (by omega) c20) (ev_i rfl (ev_cI (c_122_b (by omega) (by omega)) rfl))))))))
  have go : fg_117_109 N rc rc2 (.ref 27) dp (nI s) a (nI n2) (fx (eW_b V st) I L R ++ tl) = some (.inl (some (.int (evQ len (I 36) s a st E2 E3).1), (fx (eW_b V ((evQ len (I 36) s a st E2 E3).2)) I L R ++ tl))) := by
    by_cases c4 : s < 10
    · have e : evQ len (I 36) s a st E2 E3 = oneV len (I 36) s a st := if_pos c4
      rw [e]
      unfold fg_117_109
      exact ev_f (nI_ge (b := 10) c4 (by omega)) (ev_i rfl (ev_cI (c_120_b h10 hlen (by omega)) rfl))
    · by_cases c5 : s = 19
      · have e : evQ len (I 36) s a st E2 E3 = fld (I 36) E2 len 0 a st := (if_neg c4).trans (if_pos c5)
        rw [e]
        unfold fg_117_109
        exact ev_t (nI_le (a := 10) (by omega) (by omega)) (ev_f (fun e => e (by rw [c5]; rfl)) (ev_i rfl (ev_cI (hf c5) rfl)))
      · by_cases c20 : s = 20
        · by_cases c0 : a = 0
          · have e : evQ len (I 36) s a st E2 E3 = E3 st := (if_neg c4).trans ((if_neg c5).trans (if_pos ⟨c20, c0⟩))
            rw [e]
            unfold fg_117_109
            exact ev_t (nI_le (a := 10) (by omega) (by omega)) (ev_t (ne 19 (by omega) c5) (ev_f (fun e => e (by rw [c20]; rfl)) (ev_f (fun e => e c0) (ev_b (a := Value.ref 28) rfl (ev_i rfl (ev_cI (h3 c20) (ev_i rfl (ev_cI (he3 c20) rfl))))))))
          · have e : evQ len (I 36) s a st E2 E3 = evR s a (E2 st) := (if_neg c4).trans ((if_neg c5).trans (if_neg (fun e => c0 e.2)))
            rw [e]
            unfold fg_117_109
            exact ev_t (nI_le (a := 10) (by omega) (by omega)) (ev_t (ne 19 (by omega) c5) (ev_f (fun e => e (by rw [c20]; rfl)) (ev_t c0 (e167 (by omega) c5))))
        · have e : evQ len (I 36) s a st E2 E3 = evR s a (E2 st) := (if_neg c4).trans ((if_neg c5).trans (if_neg (fun e => c20 e.1)))
          rw [e]
          unfold fg_117_109
          exact ev_t (nI_le (a := 10) (by omega) (by omega)) (ev_t (ne 19 (by omega) c5) (ev_t (ne 20 (by omega) c20) (e167 (by omega) c5)))
  by_cases c1 : ¬ st.1 = 0
  · have e : evP len (I 36) s a st E2 E3 = (a, st) := if_pos c1
    rw [e]
    exact ev_t c1 rfl
  · by_cases c17 : s = 17
    · by_cases c0 : a = 0
      · have e : evP len (I 36) s a st E2 E3 = (a, st) := (if_neg c1).trans (if_pos ⟨c17, c0⟩)
        rw [e]
        exact ev_f c1 (ev_f (fun e => e (by rw [c17]; rfl)) (ev_t c0 rfl))
      · have e : evP len (I 36) s a st E2 E3 = evQ len (I 36) s a st E2 E3 := (if_neg c1).trans ((if_neg (fun e => c0 e.2)).trans (if_neg (fun e => absurd e.1 (by omega))))
        rw [e]
        refine ev_f c1 (ev_f (fun e => e (by rw [c17]; rfl)) (ev_f c0 ?_))
        unfold fg_117_95
        exact ev_t (ne 18 (by omega) (by omega)) go
    · by_cases c18 : s = 18
      · by_cases c0 : a = 0
        · have e : evP len (I 36) s a st E2 E3 = evQ len (I 36) s a st E2 E3 := (if_neg c1).trans ((if_neg (fun e => c17 e.1)).trans (if_neg (fun e => e.2 c0)))
          rw [e]
          refine ev_f c1 (ev_t (ne 17 (by omega) c17) ?_)
          unfold fg_117_95
          exact ev_f (fun e => e (by rw [c18]; rfl)) (ev_t c0 go)
        · have e : evP len (I 36) s a st E2 E3 = (a, st) := (if_neg c1).trans ((if_neg (fun e => c17 e.1)).trans (if_pos ⟨c18, c0⟩))
          rw [e]
          refine ev_f c1 (ev_t (ne 17 (by omega) c17) ?_)
          unfold fg_117_95
          exact ev_f (fun e => e (by rw [c18]; rfl)) (ev_f c0 rfl)
      · have e : evP len (I 36) s a st E2 E3 = evQ len (I 36) s a st E2 E3 := (if_neg c1).trans ((if_neg (fun e => c17 e.1)).trans (if_neg (fun e => c18 e.1)))
        rw [e]
        refine ev_f c1 (ev_t (ne 17 (by omega) c17) ?_)
        unfold fg_117_95
        exact ev_t (ne 18 (by omega) c18) go
set_option maxRecDepth 100000 in
set_option maxHeartbeats 4000000 in
theorem c_117_b {V : Nat → Nat → Value} {I : Nat → Nat → Int32} {L : Nat → Nat → Int64} {R : Nat → Nat → Option Nat} {tl : am_H} {N a it ln sz m0 len lm : Nat} {f v : Nat → Int32} {s en : Nat → Nat} {x y z : Int32} (hN : 100 < N) (hE : evH_b V I tl a it ln sz m0 f s v en x y z len lm) : ∀ (d K k : Nat) (st : eSt), d ≤ 13 → 2 * d + 1 < K → k < sz → st.2.1 ≤ lm → gr_117 N K 117 [.ref 27, .int (nI k), .int (nI (13 - d))] (fx (eW_b V st) I L R ++ tl) = some (.inl (some (.int (evN x y z len (I 36) lm s v en d k st).1), (fx (eW_b V ((evN x y z len (I 36) lm s v en d k st).2)) I L R ++ tl))) := by
  obtain ⟨hp, ha, h4, hl, hlm, hsz, hm0, hm1, h6, h7, h8, h10, hlen, h17, hen, hs⟩ := hE
  have hpg : ∀ st : eSt, pg (fx (eW_b V st) I L R ++ tl) a it 0 ln sz m0 f := fun st => hp _ _ _ _ (fun j => eW_na_b ha) rfl
  have h4' : ∀ st : eSt, am_vR (am_pG 1540 (.ref 27) (fx (eW_b V st) I L R ++ tl)) = some (.ref a) := fun st => by
    show am_vR (some (V 27 4)) = _
    rw [h4]
    rfl
  have h100 : ∀ (st : eSt) (k : Nat), k < sz → fm_100 (.ref 28) (nI k) (fx (eW_b V st) I L R ++ tl) = some (.inl (some (.int (nI (en k))), (fx (eW_b V st) I L R ++ tl))) := fun st k hk => c_100 (fs := [.ref 29, .ref 30, .ref 31, .ref 32, .ref 33, .ref 34, .ref 35, eW_b V st 28 7]) (f := I 29) rfl rfl (by show some (V 28 7) = _; rw [h17]) rfl hk hsz (hen k hk)
  intro d
  induction d with
  | zero =>
    intro K k st hd hK hk hu
    obtain ⟨K, rfl⟩ : ∃ k, K = k + 1 := ⟨K - 1, by omega⟩
    show fo_117 N _ _ (.ref 27) (nI k) (nI 13) _ = _
    unfold fo_117 fg_117_0
    exact ev_t (by decide) rfl
  | succ d ih =>
    intro K k st hd hK hk hu
    obtain ⟨K, rfl⟩ : ∃ k, K = k + 1 := ⟨K - 1, by omega⟩
    obtain ⟨K, rfl⟩ : ∃ k, K = k + 1 := ⟨K - 1, by omega⟩
    have hx : nI (13 - (d + 1)) + 1 = nI (13 - d) := by rw [nI_1, show 13 - (d + 1) + 1 = 13 - d by omega]
    obtain ⟨s1, s2, s3, s4, s5, s6⟩ := hs k hk
    have dl : ¬ (12 : Int32) < nI (13 - (d + 1)) := nI_nlt (b := 13 - (d + 1)) (a := 12) (by omega) (by omega)
    show fo_117 N _ _ (.ref 27) (nI k) (nI (13 - (d + 1))) _ = _
    by_cases c0 : ¬ st.1 = 0
    · have e : evN x y z len (I 36) lm s v en (d + 1) k st = (0, st) := if_pos c0
      rw [e]
      unfold fo_117 fg_117_0
      exact ev_f dl (ev_b (a := st.1) rfl (ev_t c0 rfl))
    · obtain ⟨f0, u, cs, ce⟩ := st
      obtain rfl : f0 = 0 := Decidable.byContradiction c0
      by_cases c1 : u < lm
      · obtain ⟨w1, w2, w3, w4, w5, w6, p1, p2⟩ := hpg (0, u + 1, cs, ce)
        have g0 := c_54 (k := k) (w := 0) (hpg (0, u + 1, cs, ce)) hm0 hm1 hsz hk (by decide)
        have g1 := c_54 (k := k) (w := 1) (hpg (0, u + 1, cs, ce)) hm0 hm1 hsz hk (by decide)
        rw [show k * wdN 0 + 0 = k * 2 from rfl, s1] at g0
        rw [show k * wdN 0 + 1 = k * 2 + 1 from rfl, s2] at g1
        by_cases c2 : s k < 7
        · have e : evN x y z len (I 36) lm s v en (d + 1) k (0, u, cs, ce) = (lfV x y z len (s k) (v k) (0, u + 1, cs, ce), (0, u + 1, cs, ce)) := (if_neg c0).trans ((if_pos c1).trans (if_pos c2))
          rw [e]
          unfold fo_117 fg_117_0
          exact ev_f dl (ev_b (a := (0 : Int32)) rfl (ev_f c0 (ev_i rfl (ev_cI (c_118_b (V := vup (vup V 27 11 (.int cs)) 27 12 (.int ce)) hl c1 hlm) (ev_t (by decide) (ev_b (h4' (0, u + 1, cs, ce)) (ev_i (ev_ok p1) (ev_cI g0 (ev_f (nI_ge (b := 7) c2 (by omega)) (ev_b (h4' (0, u + 1, cs, ce)) (ev_i (ev_ok p1) (ev_cI g1 (ev_i rfl (ev_cI (c_119_b h6 h7 h8 h10 c2) rfl))))))))))))))
        · have hk1 := s4 (by omega)
          have i1 := ih (K + 1) (k + 1) (0, u + 1, cs, ce) (by omega) (by omega) hk1 c1
          have ub := evN_u (x := x) (y := y) (z := z) (len := len) (row := I 36) (lm := lm) (s := s) (v := v) (en := en) d (k + 1) (0, u + 1, cs, ce) c1
          have e : evN x y z len (I 36) lm s v en (d + 1) k (0, u, cs, ce) = evP len (I 36) (s k) (evN x y z len (I 36) lm s v en d (k + 1) (0, u + 1, cs, ce)).1 (evN x y z len (I 36) lm s v en d (k + 1) (0, u + 1, cs, ce)).2 (evN x y z len (I 36) lm s v en d (en (k + 1))) (evN x y z len (I 36) lm s v en d (en (en (k + 1)))) := (if_neg c0).trans ((if_pos c1).trans (if_neg c2))
          rw [e]
          generalize evN x y z len (I 36) lm s v en d (k + 1) (0, u + 1, cs, ce) = q at i1 ub ⊢
          unfold fo_117 fg_117_0
          refine ev_f dl (ev_b (a := (0 : Int32)) rfl (ev_f c0 (ev_i rfl (ev_cI (c_118_b (V := vup (vup V 27 11 (.int cs)) 27 12 (.int ce)) hl c1 hlm) (ev_t (by decide) (ev_b (h4' (0, u + 1, cs, ce)) (ev_i (ev_ok p1) (ev_cI g0 (ev_t (nI_le (a := 7) (by omega) (by omega)) (ev_i rfl ?_))))))))))
          rw [hx, nI_1]
          refine ev_cI i1 (ev_b (a := Value.ref 28) rfl (ev_i rfl (ev_cI (h100 q.2 (k + 1) hk1) (ev_b (a := q.2.1) rfl ?_))))
          refine c_117p_b (lm := lm) (n3 := en (en (k + 1))) h10 hlen (by omega) s3 ub (fun h9 st hst => ?_) (fun h9 => h100 _ _ (s5 (by omega))) (fun h9 => ?_) (fun h9 => ?_)
          · rw [hx]
            exact ih (K + 1) _ st (by omega) (by omega) (s5 h9) hst
          · rw [hx]
            exact ih (K + 1) _ _ (by omega) (by omega) (s6 h9) ub
          · show fo_121 N _ _ (.ref 27) q.1 (nI (en (k + 1))) (nI (13 - (d + 1))) _ = _
            unfold fo_121 fg_121_0
            exact c_121l_b (lm := lm) h10 hlen (fun st hst => evN_u d _ st hst) (fun st hst => by rw [hx]; exact ih K _ st (by omega) (by omega) (s5 (by omega)) hst) len 0 N q.1 q.2 (by omega) (by omega) ub
      · have e : evN x y z len (I 36) lm s v en (d + 1) k (0, u, cs, ce) = (0, ((3, u, cs, ce) : eSt)) := (if_neg c0).trans (if_neg c1)
        have hu' : u ≤ lm := hu
        rw [e]
        unfold fo_117 fg_117_0
        exact ev_f dl (ev_b (a := (0 : Int32)) rfl (ev_f c0 (ev_i rfl (ev_cI (c_118n_b (u := u) (V := vup (vup V 27 11 (.int cs)) 27 12 (.int ce)) hl (Nat.not_lt.mp c1) (Nat.le_trans hu' hlm)) (ev_f (fun e => e rfl) rfl)))))
set_option maxRecDepth 100000 in
set_option maxHeartbeats 4000000 in
theorem c_124l_b {V : Nat → Nat → Value} {I : Nat → Nat → Int32} {L : Nat → Nat → Int64} {R : Nat → Nat → Option Nat} {tl : am_H} {N a it ln sz m0 lm len : Nat} {f : Nat → Int32} {nx : Nat → Nat → Nat} {cl : Nat → Nat} (hp : prA V I tl a it 2 ln sz m0 f) (ha : a ≠ 27) (h4 : V 27 4 = .ref a) (hl : V 27 0 = .int (nI lm)) (hlm : lm ≤ 2000) (hsz : sz ≤ 6) (hm0 : sz * wdN 2 ≤ m0) (hm1 : m0 ≤ 1000) (h10 : V 27 10 = .int (nI len)) (hlen : len ≤ 8) (hnx : ∀ q c, q < sz → c < 4 → f (q * 5 + (1 + c)) = nI (nx q c) ∧ nx q c < sz) (hcl : ∀ k, k < len → cl k < 4 ∧ ∀ h, fm_125 (I 36 k) 4 h = some (.inl (some (.int (nI (cl k))), h))) : ∀ (m k K u q : Nat), k + m = len → m + 1 < K → u ≤ lm → q < sz → fg_124_9 N K (.ref 27) (nI q) (nI k) (fx (rsC_b V 0 u) I L R ++ tl) = fg_124_58 N (.ref 27) (nI (mrun nx cl lm m k u q).2.2) (fx (rsC_b V (mrun nx cl lm m k u q).1 (mrun nx cl lm m k u q).2.1) I L R ++ tl) := by
  have hpg : ∀ (x : Int32) (u : Nat), pg (fx (rsC_b V x u) I L R ++ tl) a it 2 ln sz m0 f := fun x u => hp _ _ _ _ (fun j => by show vup (vup V 27 1 _) 27 2 _ a j = _; rw [vup_na ha, vup_na ha]) rfl
  have h4' : ∀ (x : Int32) (u : Nat), am_vR (am_pG 1540 (.ref 27) (fx (rsC_b V x u) I L R ++ tl)) = some (.ref a) := fun x u => by
    show am_vR (some (V 27 4)) = _
    rw [h4]
    rfl
  have h10' : ∀ (x : Int32) (u : Nat), am_vI (am_pG 1546 (.ref 27) (fx (rsC_b V x u) I L R ++ tl)) = some (nI len) := fun x u => by
    show am_vI (some (V 27 10)) = _
    rw [h10]
    rfl
  intro m
  induction m with
  | zero =>
    intro k K u q hk hK hu hq
    obtain ⟨K, rfl⟩ : ∃ k, K = k + 1 := ⟨K - 1, by omega⟩
    rw [fg_124_9]
    exact ev_b (h10' 0 u) (ev_t (nI_le (by omega) (by omega)) rfl)
  | succ m ih =>
    intro k K u q hk hK hu hq
    obtain ⟨K, rfl⟩ : ∃ k, K = k + 1 := ⟨K - 1, by omega⟩
    by_cases d : u < lm
    · have e : mrun nx cl lm (m + 1) k u q = mrun nx cl lm m (k + 1) (u + 1) (nx q (cl k)) := if_pos d
      obtain ⟨c1, c2⟩ := hcl k (by omega)
      obtain ⟨n1, n2⟩ := hnx q (cl k) hq c1
      have g0 := c_54 (k := q) (w := 1 + cl k) (hpg 0 (u + 1)) hm0 hm1 (by omega) hq (by show 1 + cl k < 5; omega)
      rw [show q * wdN 2 + (1 + cl k) = q * 5 + (1 + cl k) from rfl, n1] at g0
      obtain ⟨x1, x2, x3, x4, x5, x6, p1, p2⟩ := hpg 0 (u + 1)
      rw [e, fg_124_9]
      refine ev_b (h10' 0 u) (ev_f (nI_ge (by omega) (by omega)) (ev_b (a := (0 : Int32)) rfl (ev_f (fun e => e rfl) (ev_i rfl (ev_cI (c_118_b hl d hlm) (ev_f (by decide) (ev_b (h4' 0 (u + 1)) (ev_b (a := Value.ref 36) rfl (ev_b (qa_36 (by omega)) (ev_cI (c2 _) (ev_i (ev_ok p1) ?_)))))))))))
      rw [show (1 : Int32) + nI (cl k) = nI (1 + cl k) from nI_add 1 (cl k)]
      refine ev_cI g0 ?_
      unfold fg_124_52
      rw [nI_1]
      exact ih (k + 1) K (u + 1) (nx q (cl k)) (by omega) (by omega) (by omega) n2
    · have e : mrun nx cl lm (m + 1) k u q = (3, u, q) := if_neg d
      rw [e, fg_124_9]
      refine ev_b (h10' 0 u) (ev_f (nI_ge (by omega) (by omega)) (ev_b (a := (0 : Int32)) rfl (ev_f (fun e => e rfl) (ev_i rfl (ev_cI (c_118n_b hl (by omega) (by omega)) (ev_t rfl ?_))))))
      unfold fg_124_52
      rw [nI_1]
      obtain ⟨K, rfl⟩ : ∃ k, K = k + 1 := ⟨K - 1, by omega⟩
      rw [fg_124_9]
      refine ev_b (h10' 3 u) ?_
      by_cases c : nI len ≤ nI (k + 1)
      · exact ev_t c rfl
      · exact ev_f c (ev_b (a := (3 : Int32)) rfl (ev_t (by decide) rfl))
set_option maxRecDepth 100000 in
set_option maxHeartbeats 4000000 in
theorem c_124_b {V : Nat → Nat → Value} {I : Nat → Nat → Int32} {L : Nat → Nat → Int64} {R : Nat → Nat → Option Nat} {tl : am_H} {N a it ln sz m0 lm len : Nat} {f : Nat → Int32} {nx : Nat → Nat → Nat} {cl : Nat → Nat} (hN : 100 < N) (hp : prA V I tl a it 2 ln sz m0 f) (ha : a ≠ 27) (h4 : V 27 4 = .ref a) (hl : V 27 0 = .int (nI lm)) (hl1 : 1 ≤ lm) (hlm : lm ≤ 2000) (hz : 1 ≤ sz) (hsz : sz ≤ 6) (hm0 : sz * wdN 2 ≤ m0) (hm1 : m0 ≤ 1000) (h10 : V 27 10 = .int (nI len)) (hlen : len ≤ 8) (hnx : ∀ q c, q < sz → c < 4 → f (q * 5 + (1 + c)) = nI (nx q c) ∧ nx q c < sz) (hcl : ∀ k, k < len → cl k < 4 ∧ ∀ h, fm_125 (I 36 k) 4 h = some (.inl (some (.int (nI (cl k))), h))) (hq : (mrun nx cl lm len 0 1 0).2.2 < sz) : fm_124 N (.ref 27) (fx (rsC_b V 0 0) I L R ++ tl) = some (.inl (some (.int (f ((mrun nx cl lm len 0 1 0).2.2 * 5))), fx (rsC_b V (mrun nx cl lm len 0 1 0).1 (mrun nx cl lm len 0 1 0).2.1) I L R ++ tl)) := by
  have k2 := c_124l_b (V := V) (I := I) (L := L) (R := R) (tl := tl) (N := N) hp ha h4 hl hlm hsz hm0 hm1 h10 hlen hnx hcl len 0 N 1 0 (by omega) (by omega) (by omega) (by omega)
  generalize mrun nx cl lm len 0 1 0 = q at k2 hq ⊢
  have hpg := hp (rsC_b V q.1 q.2.1) I L R (fun j => by show vup (vup V 27 1 _) 27 2 _ a j = _; rw [vup_na ha, vup_na ha]) rfl
  have g0 := c_54 (k := q.2.2) (w := 0) hpg hm0 hm1 (by omega) hq (by decide)
  rw [show q.2.2 * wdN 2 + 0 = q.2.2 * 5 from rfl] at g0
  obtain ⟨x1, x2, x3, x4, x5, x6, p1, p2⟩ := hpg
  unfold fm_124 fg_124_0
  refine ev_i rfl (ev_cI (c_118_b hl (by omega) hlm) ?_)
  refine k2.trans ?_
  unfold fg_124_58
  exact ev_b (a := Value.ref a) (by show am_vR (some (V 27 4)) = _; rw [h4]; rfl) (ev_i (ev_ok p1) (ev_cI g0 rfl))
/-- the class's runner with code -/
def hW_b (V : Nat → Nat → Value) (T : Nat) (st : eSt) : Nat → Nat → Value := eW_b (vup V 27 14 (.int (nI T))) st
def cdH_b (V : Nat → Nat → Value) (I : Nat → Nat → Int32) (tl : am_H) (a0 it ln sz m0 : Nat) (f : Nat → Int32) (s : Nat → Nat) (v : Nat → Int32) (x y z : Int32) (len lm : Nat) : Prop := prA V I tl a0 it 1 ln sz m0 f ∧ a0 ≠ 27 ∧ it ≠ 37 ∧ V 27 4 = .ref a0 ∧ V 27 0 = .int (nI lm) ∧ lm ≤ 2000 ∧ sz * wdN 1 ≤ m0 ∧ m0 ≤ 1000 ∧ V 27 6 = .int x ∧ V 27 7 = .int y ∧ V 27 8 = .int z ∧ V 27 10 = .int (nI len) ∧ len ≤ 8 ∧ ∀ k, k < sz → f (k * 2) = nI (s k) ∧ f (k * 2 + 1) = v k
set_option maxRecDepth 100000 in
set_option maxHeartbeats 800000 in
theorem c_282_b {V : Nat → Nat → Value} {I : Nat → Nat → Int32} {L : Nat → Nat → Int64} {R : Nat → Nat → Option Nat} {tl : am_H} {N k s a T t : Nat} {c : Int32} {st : eSt} {g : Nat → Int32} {rc : Value → Int32 → Int32 → am_H → Option am_O} (hs : s ≤ 18) (hT : tkN s ≤ T) (hT8 : T ≤ 8) (ha : 17 ≤ s → c = nI a) : fg_123_282 N rc (.ref 27) (nI k) (nI t) (nI s) c (fx (hW_b V T st) (iup I 37 g) L R ++ tl) = rc (.ref 27) (nI (cN s a T k g)) (nI (t + 1)) (fx (hW_b V (T - tkN s + ptN s) st) (iup I 37 g) L R ++ tl) := by
  have ne : ∀ b, b < 100 → s ≠ b → ¬ nI s = nI b := fun b hb h e => h ((nI_eq (by omega) (by omega)).mp e)
  have k0 : fg_123_323 N rc (.ref 27) (nI k) (nI t) c (fx (hW_b V (T - tkN s + ptN s) st) (iup I 37 g) L R ++ tl) = rc (.ref 27) (nI (k + 1)) (nI (t + 1)) (fx (hW_b V (T - tkN s + ptN s) st) (iup I 37 g) L R ++ tl) := by
    unfold fg_123_323 fg_123_324 fg_123_340
    rw [nI_1, nI_1]
    exact ev_t rfl rfl
  have k1 : 17 ≤ s → fg_123_319 N rc (.ref 27) (nI k) (nI t) c (fx (hW_b V (T - tkN s + ptN s) st) (iup I 37 g) L R ++ tl) = rc (.ref 27) (nI (k + 1 + a)) (nI (t + 1)) (fx (hW_b V (T - tkN s + ptN s) st) (iup I 37 g) L R ++ tl) := fun h => by
    unfold fg_123_319 fg_123_324 fg_123_340
    rw [ha h, show (1 : Int32) + nI a = nI (1 + a) from nI_add 1 a, nI_add, nI_1, nI_1, show k + (1 + a) = k + 1 + a by omega]
    exact ev_f (by decide) rfl
  unfold fg_123_282
  refine ev_b (a := nI T) rfl (ev_cI (pe_55 _ _) ?_)
  rw [gr55 (by omega) hT]
  refine ev_b (a := (fx (hW_b V (T - tkN s + ptN s) st) (iup I 37 g) L R ++ tl)) (ev_p rfl rfl rfl rfl) ?_
  by_cases c17 : s = 17
  · rw [show cN s a T k g = k + 1 + a from if_pos (.inl c17)]
    exact ev_t (by rw [c17]; rfl) (k1 (by omega))
  · refine ev_f (ne 17 (by omega) c17) ?_
    by_cases c18 : s = 18
    · refine ev_f (fun e => e (by rw [c18]; rfl)) ?_
      have t1 : T - tkN s + ptN s = T - 1 := by rw [c18]; rfl
      have t2 : 1 ≤ T := by rw [c18] at hT; exact hT
      refine ev_b (a := Value.ref 37) rfl (ev_b (a := nI (T - tkN s + ptN s)) rfl (ev_b (a := g (T - 1)) ((ev_a (f := g) (n := 8) rfl (am_inb_n (by omega) (by omega))).trans (by rw [nI_clamp (by omega), t1])) ?_))
      by_cases c0 : g (T - 1) = 0
      · rw [show cN s a T k g = k + 1 + a from if_pos (.inr ⟨c18, c0⟩)]
        exact ev_f (fun e => e c0) (k1 (by omega))
      · rw [show cN s a T k g = k + 1 from if_neg (fun e => e.elim c17 (fun e => c0 e.2))]
        exact ev_t c0 k0
    · rw [show cN s a T k g = k + 1 from if_neg (fun e => e.elim c17 (fun e => c18 e.1))]
      exact ev_t (ne 18 (by omega) c18) k0
set_option maxRecDepth 100000 in
set_option maxHeartbeats 800000 in
theorem c_ins_b {V : Nat → Nat → Value} {I : Nat → Nat → Int32} {L : Nat → Nat → Int64} {R : Nat → Nat → Option Nat} {tl : am_H} {N K a0 it ln sz m0 lm len k t T : Nat} {f : Nat → Int32} {s a : Nat → Nat} {v : Nat → Int32} {ht : Nat → Nat} {x y z : Int32} {st : eSt} {g : Nat → Int32} (hE : cdH_b V I tl a0 it ln sz m0 f s v x y z len lm) (hO : cdO sz s a v ht) (hk : k < sz) (ht8 : T = ht k) (h8 : T ≤ 8) (h0 : st.1 = 0) (hu : st.2.1 < lm) (htn : t < 60) : fg_123_9 N (K + 1) (.ref 27) (nI k) (nI t) (fx (hW_b V T st) (iup I 37 g) L R ++ tl) = fg_123_9 N K (.ref 27) (nI (cN (s k) (a k) T k (cdS x y z len (I 36) (s k) (v k) T g (st.1, st.2.1 + 1, st.2.2)).1)) (nI (t + 1)) (fx (hW_b V (T - tkN (s k) + ptN (s k)) (cdS x y z len (I 36) (s k) (v k) T g (st.1, st.2.1 + 1, st.2.2)).2) (iup I 37 (cdS x y z len (I 36) (s k) (v k) T g (st.1, st.2.1 + 1, st.2.2)).1) L R ++ tl) := by
  obtain ⟨hp, ha, hit, h4, hl, hlm, hm0, hm1, h6, h7, h8', h10, hlen, hs⟩ := hE
  obtain ⟨hsz, -, -, -, hc⟩ := hO
  obtain ⟨q1, q2, q3, q4, q5⟩ := hc k hk
  obtain ⟨s1, s2⟩ := hs k hk
  obtain ⟨f0, u, cs, ce⟩ := st
  obtain rfl : f0 = 0 := h0
  rw [← ht8] at q2 q3
  have hpg : ∀ (st : eSt) (g : Nat → Int32), pg (fx (hW_b V T st) (iup I 37 g) L R ++ tl) a0 it 1 ln sz m0 f := fun st g => hp _ _ _ _ (fun j => by show eW_b _ st a0 j = _; rw [eW_na_b ha, vup_na ha]) (iup_na hit)
  have h4' : ∀ (st : eSt) (g : Nat → Int32), am_vR (am_pG 1540 (.ref 27) (fx (hW_b V T st) (iup I 37 g) L R ++ tl)) = some (.ref a0) := fun st g => by
    show am_vR (some (V 27 4)) = _
    rw [h4]
    rfl
  have g0 := c_54 (k := k) (w := 0) (hpg (0, u, cs, ce) g) hm0 hm1 hsz hk (by decide)
  have g1 := c_54 (k := k) (w := 1) (hpg (0, u, cs, ce) g) hm0 hm1 hsz hk (by decide)
  rw [show k * wdN 1 + 0 = k * 2 from rfl, s1] at g0
  rw [show k * wdN 1 + 1 = k * 2 + 1 from rfl, s2] at g1
  obtain ⟨w1, w2, w3, w4, w5, w6, p1, p2⟩ := hpg (0, u, cs, ce) g
  have e1 : 1 ≤ T → nI T - 1 = nI (T - 1) := fun h => nI_sub (b := 1) h
  have e2 : 2 ≤ T → nI T - 2 = nI (T - 2) := fun h => nI_sub (b := 2) h
  have fin : ∀ (st : eSt) (g : Nat → Int32), fg_123_282 N (fg_123_9 N K) (.ref 27) (nI k) (nI t) (nI (s k)) (v k) (fx (hW_b V T st) (iup I 37 g) L R ++ tl) = fg_123_9 N K (.ref 27) (nI (cN (s k) (a k) T k g)) (nI (t + 1)) (fx (hW_b V (T - tkN (s k) + ptN (s k)) st) (iup I 37 g) L R ++ tl) := fun st g => c_282_b q1 q2 h8 (fun h => (q5 h).1)
  have ra : ∀ (st : eSt) (g : Nat → Int32) (i : Nat), i < 8 → am_pA 0 (.ref 37) (nI i) (fx (hW_b V T st) (iup I 37 g) L R ++ tl) = some (g i) := fun st g i hi => (ev_a (f := g) (n := 8) rfl (am_inb_n hi (by omega))).trans (by rw [nI_clamp (by omega)])
  have rs : ∀ (st : eSt) (g : Nat → Int32) (i : Nat) (w : Int32), i < 8 → am_pS 0 (.ref 37) (nI i) w (fx (hW_b V T st) (iup I 37 g) L R ++ tl) = some (fx (hW_b V T st) (iup I 37 (upd g i w)) L R ++ tl) := fun st g i w hi => ev_s (f := g) (n := 8) rfl (am_inb_n hi (by omega)) rfl (by rw [nI_clamp (by omega)]; rfl)
  rw [fg_123_9]
  refine ev_f (nI_ge (b := 60) htn (by omega)) (ev_b (h4' (0, u, cs, ce) g) (ev_b (ev_gI p1 rfl rfl) (ev_f (nI_ge hk (by omega)) (ev_b (a := (0 : Int32)) rfl (ev_f (fun e => e rfl) (ev_b (h4' (0, u, cs, ce) g) (ev_i (ev_ok p1) (ev_cI g0 (ev_b (h4' (0, u, cs, ce) g) (ev_i (ev_ok p1) (ev_cI g1 (ev_b (a := nI T) rfl (ev_cI (pe_56 _ _) ?_)))))))))))))
  rw [(tk56 (s k) (by omega)).1]
  refine ev_f (nI_nlt q2 (by omega)) (ev_b (a := nI T) rfl (ev_cI (pe_55 _ _) ?_))
  rw [gr55 (by omega) q2]
  refine ev_f (nI_nlt (b := T - tkN (s k) + ptN (s k)) (a := 8) q3 (by omega)) (ev_i rfl (ev_cI (c_118_b (V := vup (vup (vup V 27 14 (.int (nI T))) 27 11 (.int cs)) 27 12 (.int ce)) (u := u) hl hu hlm) (ev_t (by decide) ?_)))
  by_cases c5 : s k < 5
  · have eS : cdS x y z len (I 36) (s k) (v k) T g (0, u + 1, cs, ce) = (upd g T (lfV x y z len (s k) (v k) (0, u + 1, cs, ce)), (0, u + 1, cs, ce)) := if_pos c5
    have t7 : T < 8 := by
      have a1 : tkN (s k) = 0 := if_pos c5
      have a2 : ptN (s k) = 1 := if_pos (by omega)
      omega
    rw [eS]
    refine ev_f (nI_nlt (b := s k) (a := 4) (by omega) (by omega)) (ev_b (a := Value.ref 37) rfl (ev_b (a := nI T) rfl (ev_i rfl (ev_cI (c_119_b (V := vup V 27 14 (.int (nI T))) (st := (0, u + 1, cs, ce)) h6 h7 h8' h10 (by omega)) ?_))))
    exact ev_b (rs (0, u + 1, cs, ce) g T _ t7) (fin _ _)
  · refine ev_t (nI_lt (a := 4) (by omega) (by omega)) ?_
    by_cases c7 : s k < 7
    · have eS : cdS x y z len (I 36) (s k) (v k) T g (0, u + 1, cs, ce) = (upd g (T - 1) (oneV len (I 36) (s k + 2) (g (T - 1)) (0, u + 1, cs, ce)).1, (oneV len (I 36) (s k + 2) (g (T - 1)) (0, u + 1, cs, ce)).2) := (if_neg c5).trans (if_pos c7)
      have t1 : 1 ≤ T := by
        have a1 : tkN (s k) = 1 := (if_neg c5).trans (if_pos c7)
        omega
      rw [eS]
      refine ev_f (nI_nlt (b := s k) (a := 6) (by omega) (by omega)) (ev_b (a := Value.ref 37) rfl (ev_b (a := nI T) rfl (ev_b (a := Value.ref 37) rfl (ev_b (a := nI T) rfl ?_))))
      rw [e1 t1, show nI (s k) + 2 = nI (s k + 2) from nI_add (s k) 2]
      refine ev_b (ra (0, u + 1, cs, ce) g (T - 1) (by omega)) (ev_i rfl (ev_cI (c_120_b (V := vup V 27 14 (.int (nI T))) (I := iup I 37 g) (st := (0, u + 1, cs, ce)) h10 hlen (by omega)) ?_))
      exact ev_b (rs _ g (T - 1) _ (by omega)) (fin _ _)
    · refine ev_t (nI_lt (a := 6) (by omega) (by omega)) ?_
      by_cases c14 : s k < 14
      · have eS : cdS x y z len (I 36) (s k) (v k) T g (0, u + 1, cs, ce) = (upd g (T - 2) (twoV (s k + 3) (g (T - 2)) (g (T - 1)) (0, u + 1, cs, ce)).1, (twoV (s k + 3) (g (T - 2)) (g (T - 1)) (0, u + 1, cs, ce)).2) := (if_neg c5).trans ((if_neg c7).trans (if_pos c14))
        have t2 : 2 ≤ T := by
          have a1 : tkN (s k) = 2 := (if_neg c5).trans ((if_neg c7).trans (if_pos c14))
          omega
        rw [eS]
        refine ev_f (nI_nlt (b := s k) (a := 13) (by omega) (by omega)) (ev_b (a := Value.ref 37) rfl (ev_b (a := nI T) rfl (ev_b (a := Value.ref 37) rfl (ev_b (a := nI T) rfl ?_))))
        rw [e2 t2, show nI (s k) + 3 = nI (s k + 3) from nI_add (s k) 3]
        refine ev_b (ra (0, u + 1, cs, ce) g (T - 2) (by omega)) (ev_b (a := Value.ref 37) rfl (ev_b (a := nI T) rfl ?_))
        rw [e1 (by omega)]
        refine ev_b (ra (0, u + 1, cs, ce) g (T - 1) (by omega)) (ev_i rfl (ev_cI (c_122_b (V := vup V 27 14 (.int (nI T))) (I := iup I 37 g) (st := (0, u + 1, cs, ce)) (by omega) (by omega)) ?_))
        exact ev_b (rs _ g (T - 2) _ (by omega)) (fin _ _)
      · refine ev_t (nI_lt (a := 13) (by omega) (by omega)) ?_
        by_cases d14 : s k = 14
        · have eS : cdS x y z len (I 36) (s k) (v k) T g (0, u + 1, cs, ce) = (upd g T (g (T - 1)), (0, u + 1, cs, ce)) := (if_neg c5).trans ((if_neg c7).trans ((if_neg c14).trans (if_pos d14)))
          have t1 : 1 ≤ T ∧ T < 8 := by
            rw [d14] at q2 q3
            have a1 : tkN 14 = 1 := rfl
            have a2 : ptN 14 = 2 := rfl
            omega
          rw [eS]
          refine ev_f (fun e => e (by rw [d14]; rfl)) (ev_b (a := Value.ref 37) rfl (ev_b (a := nI T) rfl (ev_b (a := Value.ref 37) rfl (ev_b (a := nI T) rfl ?_))))
          rw [e1 t1.1]
          exact ev_b (ra (0, u + 1, cs, ce) g (T - 1) (by omega)) (ev_b (rs (0, u + 1, cs, ce) g T _ t1.2) (fin _ _))
        · refine ev_t (fun e => d14 ((nI_eq (b := 14) (by omega) (by decide)).mp e)) ?_
          by_cases d15 : s k = 15
          · have eS : cdS x y z len (I 36) (s k) (v k) T g (0, u + 1, cs, ce) = (upd (upd g (T - 1) (g (T - 2))) (T - 2) (g (T - 1)), (0, u + 1, cs, ce)) := (if_neg c5).trans ((if_neg c7).trans ((if_neg c14).trans ((if_neg d14).trans (if_pos d15))))
            have t2 : 2 ≤ T := by
              rw [d15] at q2
              exact q2
            rw [eS]
            refine ev_f (fun e => e (by rw [d15]; rfl)) (ev_b (a := Value.ref 37) rfl (ev_b (a := nI T) rfl ?_))
            rw [e1 (by omega)]
            refine ev_b (ra (0, u + 1, cs, ce) g (T - 1) (by omega)) (ev_b (a := Value.ref 37) rfl (ev_b (a := nI T) rfl (ev_b (a := Value.ref 37) rfl (ev_b (a := nI T) rfl ?_))))
            rw [e2 t2, e1 (by omega)]
            refine ev_b (ra (0, u + 1, cs, ce) g (T - 2) (by omega)) (ev_b (rs (0, u + 1, cs, ce) g (T - 1) _ (by omega)) (ev_b (a := Value.ref 37) rfl (ev_b (a := nI T) rfl ?_)))
            rw [e2 t2]
            exact ev_b (rs (0, u + 1, cs, ce) _ (T - 2) _ (by omega)) (fin _ _)
          · have eS : cdS x y z len (I 36) (s k) (v k) T g (0, u + 1, cs, ce) = (g, (0, u + 1, cs, ce)) := (if_neg c5).trans ((if_neg c7).trans ((if_neg c14).trans ((if_neg d14).trans (if_neg d15))))
            rw [eS]
            exact ev_t (fun e => d15 ((nI_eq (b := 15) (by omega) (by decide)).mp e)) (fin (0, u + 1, cs, ce) g)
set_option maxRecDepth 100000 in
set_option maxHeartbeats 800000 in
theorem c_348_b {V : Nat → Nat → Value} {I : Nat → Nat → Int32} {L : Nat → Nat → Int64} {R : Nat → Nat → Option Nat} {tl : am_H} {N T : Nat} {st : eSt} {g : Nat → Int32} (hT : T ≤ 8) : fg_123_348 N (.ref 27) (fx (hW_b V T st) (iup I 37 g) L R ++ tl) = some (.inl (some (.int (if T = 0 then 0 else g (T - 1))), (fx (hW_b V T st) (iup I 37 g) L R ++ tl))) := by
  unfold fg_123_348
  by_cases c : T = 0
  · rw [if_pos c, c]
    exact ev_b (a := nI 0) rfl (ev_t (by decide) rfl)
  · rw [if_neg c]
    refine ev_b (a := nI T) rfl (ev_f (nI_nle (by omega) (by omega)) (ev_b (a := Value.ref 37) rfl (ev_b (a := nI T) rfl ?_)))
    rw [show nI T - 1 = nI (T - 1) from nI_sub (b := 1) (by omega)]
    exact ev_b (a := g (T - 1)) ((ev_a (f := g) (n := 8) rfl (am_inb_n (by omega) (by omega))).trans (by rw [nI_clamp (by omega)])) rfl
set_option maxRecDepth 100000 in
set_option maxHeartbeats 800000 in
theorem c_ins3_b {V : Nat → Nat → Value} {I : Nat → Nat → Int32} {L : Nat → Nat → Int64} {R : Nat → Nat → Option Nat} {tl : am_H} {N K a0 it ln sz m0 lm len k t T : Nat} {f : Nat → Int32} {s a : Nat → Nat} {v : Nat → Int32} {ht : Nat → Nat} {x y z : Int32} {st : eSt} {g : Nat → Int32} (hE : cdH_b V I tl a0 it ln sz m0 f s v x y z len lm) (hO : cdO sz s a v ht) (hk : k < sz) (ht8 : T = ht k) (h8 : T ≤ 8) (h0 : st.1 = 0) (hu : st.2.1 = lm) (htn : t < 60) : fg_123_9 N (K + 1) (.ref 27) (nI k) (nI t) (fx (hW_b V T st) (iup I 37 g) L R ++ tl) = some (.inl (some (.int 0), (fx (hW_b V T ((3, st.2) : eSt)) (iup I 37 g) L R ++ tl))) := by
  obtain ⟨hp, ha, hit, h4, hl, hlm, hm0, hm1, h6, h7, h8', h10, hlen, hs⟩ := hE
  obtain ⟨hsz, -, -, -, hc⟩ := hO
  obtain ⟨q1, q2, q3, q4, q5⟩ := hc k hk
  obtain ⟨s1, s2⟩ := hs k hk
  obtain ⟨f0, u, cs, ce⟩ := st
  obtain rfl : f0 = 0 := h0
  obtain rfl : u = lm := hu
  rw [← ht8] at q2 q3
  have hpg : ∀ (st : eSt) (g : Nat → Int32), pg (fx (hW_b V T st) (iup I 37 g) L R ++ tl) a0 it 1 ln sz m0 f := fun st g => hp _ _ _ _ (fun j => by show eW_b _ st a0 j = _; rw [eW_na_b ha, vup_na ha]) (iup_na hit)
  have h4' : ∀ (st : eSt) (g : Nat → Int32), am_vR (am_pG 1540 (.ref 27) (fx (hW_b V T st) (iup I 37 g) L R ++ tl)) = some (.ref a0) := fun st g => by
    show am_vR (some (V 27 4)) = _
    rw [h4]
    rfl
  have g0 := c_54 (k := k) (w := 0) (hpg (0, u, cs, ce) g) hm0 hm1 hsz hk (by decide)
  have g1 := c_54 (k := k) (w := 1) (hpg (0, u, cs, ce) g) hm0 hm1 hsz hk (by decide)
  rw [show k * wdN 1 + 0 = k * 2 from rfl, s1] at g0
  rw [show k * wdN 1 + 1 = k * 2 + 1 from rfl, s2] at g1
  obtain ⟨w1, w2, w3, w4, w5, w6, p1, p2⟩ := hpg (0, u, cs, ce) g
  rw [fg_123_9]
  refine ev_f (nI_ge (b := 60) htn (by omega)) (ev_b (h4' (0, u, cs, ce) g) (ev_b (ev_gI p1 rfl rfl) (ev_f (nI_ge hk (by omega)) (ev_b (a := (0 : Int32)) rfl (ev_f (fun e => e rfl) (ev_b (h4' (0, u, cs, ce) g) (ev_i (ev_ok p1) (ev_cI g0 (ev_b (h4' (0, u, cs, ce) g) (ev_i (ev_ok p1) (ev_cI g1 (ev_b (a := nI T) rfl (ev_cI (pe_56 _ _) ?_)))))))))))))
  rw [(tk56 (s k) (by omega)).1]
  refine ev_f (nI_nlt q2 (by omega)) (ev_b (a := nI T) rfl (ev_cI (pe_55 _ _) ?_))
  rw [gr55 (by omega) q2]
  exact ev_f (nI_nlt (b := T - tkN (s k) + ptN (s k)) (a := 8) q3 (by omega)) (ev_i rfl (ev_cI (c_118n_b (V := vup (vup (vup V 27 14 (.int (nI T))) 27 11 (.int cs)) 27 12 (.int ce)) (u := u) hl (Nat.le_refl _) hlm) (ev_f (fun e => e rfl) rfl)))
set_option maxRecDepth 100000 in
set_option maxHeartbeats 800000 in
theorem c_123l_b {V : Nat → Nat → Value} {I : Nat → Nat → Int32} {L : Nat → Nat → Int64} {R : Nat → Nat → Option Nat} {tl : am_H} {N a0 it ln sz m0 lm len : Nat} {f : Nat → Int32} {s a : Nat → Nat} {v : Nat → Int32} {ht : Nat → Nat} {x y z : Int32} (hE : cdH_b V I tl a0 it ln sz m0 f s v x y z len lm) (hO : cdO sz s a v ht) : ∀ (m k K t : Nat) (g : Nat → Int32) (st : eSt), sz ≤ k + m → k ≤ sz → t ≤ k → m < K → st.2.1 ≤ lm → ht k ≤ 8 → ∃ (w : Int32) (T' : Nat), fg_123_9 N K (.ref 27) (nI k) (nI t) (fx (hW_b V (ht k) st) (iup I 37 g) L R ++ tl) = some (.inl (some (.int w), (fx (hW_b V T' (crun x y z len (I 36) lm sz s a v ht m k g st).2) (iup I 37 (crun x y z len (I 36) lm sz s a v ht m k g st).1) L R ++ tl))) ∧ ((crun x y z len (I 36) lm sz s a v ht m k g st).2.1 = 0 → w = (crun x y z len (I 36) lm sz s a v ht m k g st).1 0) := by
  have hE' := hE
  have hO' := hO
  obtain ⟨hp, ha, hit, h4, hl, hlm, hm0, hm1, h6, h7, h8', h10, hlen, hs⟩ := hE
  obtain ⟨hsz, -, -, hte, hc⟩ := hO
  have hpg : ∀ (T : Nat) (st : eSt) (g : Nat → Int32), pg (fx (hW_b V T st) (iup I 37 g) L R ++ tl) a0 it 1 ln sz m0 f := fun T st g => hp _ _ _ _ (fun j => by show eW_b _ st a0 j = _; rw [eW_na_b ha, vup_na ha]) (iup_na hit)
  have h4' : ∀ (T : Nat) (st : eSt) (g : Nat → Int32), am_vR (am_pG 1540 (.ref 27) (fx (hW_b V T st) (iup I 37 g) L R ++ tl)) = some (.ref a0) := fun T st g => by
    show am_vR (some (V 27 4)) = _
    rw [h4]
    rfl
  have atEnd : ∀ (K t : Nat) (g : Nat → Int32) (st : eSt), t ≤ sz → fg_123_9 N (K + 1) (.ref 27) (nI sz) (nI t) (fx (hW_b V (ht sz) st) (iup I 37 g) L R ++ tl) = some (.inl (some (.int (g 0)), (fx (hW_b V (ht sz) st) (iup I 37 g) L R ++ tl))) := fun K t g st htz => by
    obtain ⟨w1, w2, w3, w4, w5, w6, p1, p2⟩ := hpg (ht sz) st g
    have e := c_348_b (V := V) (I := I) (L := L) (R := R) (tl := tl) (N := N) (T := ht sz) (st := st) (g := g) (by omega)
    rw [if_neg (by omega), show ht sz - 1 = 0 by omega] at e
    rw [fg_123_9]
    by_cases c : 60 ≤ nI t
    · exact ev_t c e
    · exact ev_f c (ev_b (h4' (ht sz) st g) (ev_b (ev_gI p1 rfl rfl) (ev_t (nI_le (Nat.le_refl _) (by omega)) e)))
  intro m
  induction m with
  | zero =>
    intro k K t g st hk hk2 htk hK hu h8
    obtain ⟨K, rfl⟩ : ∃ k, K = k + 1 := ⟨K - 1, by omega⟩
    obtain rfl : k = sz := by omega
    exact ⟨g 0, ht k, atEnd K t g st htk, fun _ => rfl⟩
  | succ m ih =>
    intro k K t g st hk hk2 htk hK hu h8
    obtain ⟨K, rfl⟩ : ∃ k, K = k + 1 := ⟨K - 1, by omega⟩
    by_cases ck : sz ≤ k
    · have e : (crun x y z len (I 36) lm sz s a v ht (m + 1) k g st) = (g, st) := if_pos ck
      obtain rfl : k = sz := by omega
      rw [e]
      exact ⟨g 0, ht k, atEnd K t g st htk, fun _ => rfl⟩
    · by_cases c0 : st.1 ≠ 0
      · have e : (crun x y z len (I 36) lm sz s a v ht (m + 1) k g st) = (g, st) := (if_neg ck).trans (if_pos c0)
        rw [e]
        refine ⟨if ht k = 0 then 0 else g (ht k - 1), ht k, ?_, fun h => absurd h c0⟩
        obtain ⟨w1, w2, w3, w4, w5, w6, p1, p2⟩ := hpg (ht k) st g
        rw [fg_123_9]
        exact ev_f (nI_ge (b := 60) (by omega) (by omega)) (ev_b (h4' (ht k) st g) (ev_b (ev_gI p1 rfl rfl) (ev_f (nI_ge (by omega) (by omega)) (ev_b (a := st.1) rfl (ev_t c0 (c_348_b h8))))))
      · have c0' : st.1 = 0 := Decidable.byContradiction c0
        by_cases cu : st.2.1 < lm
        · have e : (crun x y z len (I 36) lm sz s a v ht (m + 1) k g st) = (crun x y z len (I 36) lm sz s a v ht m (cN (s k) (a k) (ht k) k (cdS x y z len (I 36) (s k) (v k) (ht k) g (st.1, st.2.1 + 1, st.2.2)).1) (cdS x y z len (I 36) (s k) (v k) (ht k) g (st.1, st.2.1 + 1, st.2.2)).1 (cdS x y z len (I 36) (s k) (v k) (ht k) g (st.1, st.2.1 + 1, st.2.2)).2) := (if_neg ck).trans ((if_neg c0).trans (if_pos cu))
          have ci := c_ins_b (N := N) (K := K) (t := t) (st := st) (g := g) (L := L) (R := R) hE' hO' (show k < sz by omega) rfl h8 c0' cu (by omega)
          have cu' : (cdS x y z len (I 36) (s k) (v k) (ht k) g (st.1, st.2.1 + 1, st.2.2)).2.2.1 = st.2.1 + 1 := cdS_u
          obtain ⟨n1, n2, n3⟩ := cN_le (g := (cdS x y z len (I 36) (s k) (v k) (ht k) g (st.1, st.2.1 + 1, st.2.2)).1) hO' (show k < sz by omega)
          have q3 := (hc k (by omega)).2.2.1
          rw [← n3] at ci q3
          rw [e]
          generalize cdS x y z len (I 36) (s k) (v k) (ht k) g (st.1, st.2.1 + 1, st.2.2) = r at ci cu' n1 n2 n3 q3 ⊢
          generalize cN (s k) (a k) (ht k) k r.1 = k' at ci n1 n2 n3 q3 ⊢
          obtain ⟨w, T', h1, h2⟩ := ih k' K (t + 1) r.1 r.2 (by omega) n2 (by omega) (by omega) (by omega) q3
          exact ⟨w, T', ci.trans h1, h2⟩
        · have e : (crun x y z len (I 36) lm sz s a v ht (m + 1) k g st) = (g, ((3, st.2) : eSt)) := (if_neg ck).trans ((if_neg c0).trans (if_neg cu))
          rw [e]
          exact ⟨0, ht k, c_ins3_b hE' hO' (by omega) rfl h8 c0' (by omega) (by omega), fun h => absurd (show (3 : Int32) = 0 from h) (by decide)⟩
set_option maxRecDepth 100000 in
set_option maxHeartbeats 800000 in
theorem c_123_b {V : Nat → Nat → Value} {I : Nat → Nat → Int32} {L : Nat → Nat → Int64} {R : Nat → Nat → Option Nat} {tl : am_H} {N a0 it ln sz m0 lm len : Nat} {f : Nat → Int32} {s a : Nat → Nat} {v : Nat → Int32} {ht : Nat → Nat} {x y z : Int32} {cs ce : Int32} (hN : 100 < N) (hE : cdH_b V I tl a0 it ln sz m0 f s v x y z len lm) (hO : cdO sz s a v ht) (h11 : V 27 11 = .int cs) (h12 : V 27 12 = .int ce) : ∃ (w : Int32) (T' : Nat), fm_123 N (.ref 27) (fx (rsC_b V 0 0) I L R ++ tl) = some (.inl (some (.int w), (fx (hW_b V T' (crun x y z len (I 36) lm sz s a v ht sz 0 (I 37) (0, 0, cs, ce)).2) (iup I 37 (crun x y z len (I 36) lm sz s a v ht sz 0 (I 37) (0, 0, cs, ce)).1) L R ++ tl))) ∧ ((crun x y z len (I 36) lm sz s a v ht sz 0 (I 37) (0, 0, cs, ce)).2.1 = 0 → w = (crun x y z len (I 36) lm sz s a v ht sz 0 (I 37) (0, 0, cs, ce)).1 0) := by
  obtain ⟨w, T', h1, h2⟩ := c_123l_b (V := V) (I := I) (L := L) (R := R) (tl := tl) (N := N) hE hO sz 0 N 0 (I 37) (0, 0, cs, ce) (by omega) (by omega) (by omega) (by have := hO.1; omega) (Nat.zero_le _) (by rw [hO.2.2.1]; omega)
  refine ⟨w, T', ?_, h2⟩
  rw [hO.2.2.1, iup_self] at h1
  have e : hW_b V 0 (0, 0, cs, ce) = vup (rsC_b V 0 0) 27 14 (.int 0) := by
    funext p q
    unfold hW_b eW_b rsC_b
    by_cases c : p = 27
    · subst c
      simp only [vup_at, if_true]
      by_cases c14 : q = 14
      · subst c14; rfl
      · by_cases c12 : q = 12
        · subst c12; simp [h12]
        · by_cases c11 : q = 11
          · subst c11; simp [h11]
          · simp [c11, c12, c14]
    · rw [vup_na c, vup_na c, vup_na c, vup_na c, vup_na c, vup_na c, vup_na c, vup_na c]
  rw [e] at h1
  unfold fm_123 fg_123_0
  exact ev_b qp_27_14 h1
/-- only the runner's own fields changed, and its pile -/
def frC_b (V W : Nat → Nat → Value) (I J : Nat → Nat → Int32) : Prop := (∀ a j, a ≠ 27 ∨ (j ≠ 1 ∧ j ≠ 2 ∧ j ≠ 11 ∧ j ≠ 12 ∧ j ≠ 14) → W a j = V a j) ∧ (∀ y, y ≠ 37 → J y = I y) ∧ (wt V → wt W)
theorem wt_rsC_b {V : Nat → Nat → Value} {f : Int32} {u : Nat} (h : wt V) : wt (rsC_b V f u) := wt_i (wt_i h (by decide)) (by decide)
theorem wt_eW_b {V : Nat → Nat → Value} {st : eSt} (h : wt V) : wt (eW_b V st) := wt_rsC_b (wt_i (wt_i h (by decide)) (by decide))
theorem rsC_o_b {V : Nat → Nat → Value} {f : Int32} {u a j : Nat} (h : a ≠ 27 ∨ (j ≠ 1 ∧ j ≠ 2)) : rsC_b V f u a j = V a j := by
  unfold rsC_b
  rcases h with h | h
  · rw [vup_na h, vup_na h]
  · by_cases c : a = 27
    · subst c
      rw [vup_nj h.2, vup_nj h.1]
    · rw [vup_na c, vup_na c]
theorem eW_o_b {V : Nat → Nat → Value} {st : eSt} {a j : Nat} (h : a ≠ 27 ∨ (j ≠ 1 ∧ j ≠ 2 ∧ j ≠ 11 ∧ j ≠ 12)) : eW_b V st a j = V a j := by
  unfold eW_b
  rw [rsC_o_b (h.imp id (fun e => ⟨e.1, e.2.1⟩))]
  rcases h with h | h
  · rw [vup_na h, vup_na h]
  · by_cases c : a = 27
    · subst c
      rw [vup_nj h.2.2.2, vup_nj h.2.2.1]
    · rw [vup_na c, vup_na c]
set_option maxRecDepth 100000 in
set_option maxHeartbeats 1600000 in
theorem k_tree_b {V : Nat → Nat → Value} {I : Nat → Nat → Int32} {L : Nat → Nat → Int64} {R : Nat → Nat → Option Nat} {tl : am_H} {N a it ln m0 lm len : Nat} {fi v row : Nat → Int32} {l : List (Nat × Nat)} {x y z cs ce : Int32} (hN : 100 < N) (hp : prA V I tl a it 0 ln l.length m0 fi) (ha : a ≠ 27) (h4 : V 27 4 = .ref a) (h0 : V 27 0 = .int (nI lm)) (hlm : lm ≤ 2000) (hm0 : l.length * wdN 0 ≤ m0) (hm1 : m0 ≤ 1000) (hl : l.length ≤ 60) (ho : okF [(0, 1, 0)] l) (hfi : ∀ k w r, l.drop k = w :: r → fi (k * 2) = nI w.1 ∧ fi (k * 2 + 1) = v k) (h6 : V 27 6 = .int x) (h7 : V 27 7 = .int y) (h8 : V 27 8 = .int z) (h10 : V 27 10 = .int (nI len)) (hlen : len ≤ 8) (h11 : V 27 11 = .int cs) (h12 : V 27 12 = .int ce) (hrow : ∀ i, i < len → I 36 i = row i) (h17 : V 28 7 = .int (nI l.length)) (hen : ∀ k, k < l.length → I 29 k = nI (enL l k)) : ∃ W, fm_117 N (.ref 27) 0 1 (fx (rsC_b V 0 0) I L R ++ tl) = some (.inl (some (.int (eT x y z len row lm l v).1), fx W I L R ++ tl)) ∧ W 27 1 = .int (eT x y z len row lm l v).2.1 ∧ W 27 2 = .int (nI (eT x y z len row lm l v).2.2.1) ∧ frC_b V W I I := by
  have at_ : ∀ k, k < l.length → ∃ w r, l.drop k = w :: r := fun k hk => by
    obtain ⟨w, r, m, hd, -⟩ := isF_at (okF_F l _ ho) hk
    exact ⟨w, r, hd⟩
  have hE : evH_b V I tl a it ln l.length m0 fi (sL l) v (enL l) x y z len lm := ⟨hp, ha, h4, h0, hlm, hl, hm0, hm1, h6, h7, h8, h10, hlen, h17, hen, fun k hk => by
    obtain ⟨w, r, hd⟩ := at_ k hk
    obtain ⟨f1, f2, f3, f4, f5, f6, f7, -, -⟩ := form_ev ho k w r hd
    obtain ⟨g1, g2⟩ := hfi k w r hd
    rw [sL_at hd]
    exact ⟨g1, g2, f1, fun h => (f5 h).1, fun h => (f6 h).1, fun h => (f7 h).1⟩⟩
  have k0 := c_117_b (L := L) (R := R) hN hE 12 40 0 (0, 0, cs, ce) (by omega) (by omega) (cx0 ho).2 (Nat.zero_le _)
  have i1 := evN_i (x := x) (y := y) (z := z) (len := len) (lm := lm) (row := I 36) (v := v) (sN := sL l) ho (fun k w r hd => sL_at hd) 12 0 (0, 0, cs, ce) (0, 0, 0, 0) (cx0 ho).2 (by rw [(cx0 ho).1]) ⟨rfl, rfl⟩
  have e0 : evN x y z len (I 36) lm (sL l) v (enL l) 12 0 (0, 0, 0, 0) = eT x y z len row lm l v := evN_r hlen hrow 12 0 _
  rw [e0] at i1
  have ev : rsC_b V 0 0 = eW_b V (0, 0, cs, ce) := by
    unfold eW_b
    rw [vup_self (V := V) (a := 27) (j := 11) h11, vup_self (V := V) (a := 27) (j := 12) h12]
  generalize evN x y z len (I 36) lm (sL l) v (enL l) 12 0 (0, 0, cs, ce) = q at k0 i1
  refine ⟨eW_b V q.2, ?_, ?_, ?_, fun b j hj => eW_o_b (hj.imp id (fun e => ⟨e.1, e.2.1, e.2.2.1, e.2.2.2.1⟩)), fun y _ => rfl, wt_eW_b⟩
  · rw [ev, ← i1.1]
    exact k0
  · show Value.int q.2.1 = _
    rw [i1.2.1]
  · show Value.int (nI q.2.2.1) = _
    rw [i1.2.2]
set_option maxRecDepth 100000 in
set_option maxHeartbeats 1600000 in
theorem k_code_b {V : Nat → Nat → Value} {I : Nat → Nat → Int32} {L : Nat → Nat → Int64} {R : Nat → Nat → Option Nat} {tl : am_H} {N a0 it ln sz m0 lm len : Nat} {fi v row : Nat → Int32} {s a ht : Nat → Nat} {x y z cs ce : Int32} (hN : 100 < N) (hE : cdH_b V I tl a0 it ln sz m0 fi s v x y z len lm) (hO : cdO sz s a v ht) (h11 : V 27 11 = .int cs) (h12 : V 27 12 = .int ce) (hrow : ∀ i, i < len → I 36 i = row i) : ∃ W J w, fm_123 N (.ref 27) (fx (rsC_b V 0 0) I L R ++ tl) = some (.inl (some (.int w), fx W J L R ++ tl)) ∧ W 27 1 = .int (eC x y z len row lm sz s a v ht).2.1 ∧ W 27 2 = .int (nI (eC x y z len row lm sz s a v ht).2.2.1) ∧ ((eC x y z len row lm sz s a v ht).2.1 = 0 → w = (eC x y z len row lm sz s a v ht).1 0) ∧ frC_b V W I J := by
  have hlen : len ≤ 8 := hE.2.2.2.2.2.2.2.2.2.2.2.2.1
  obtain ⟨w, T', h1, h2⟩ := c_123_b (L := L) (R := R) hN hE hO h11 h12
  have c1 := crun_c (x := x) (y := y) (z := z) (lm := lm) hlen hrow hO sz 0 (I 37) (fun _ => 0) (0, 0, cs, ce) (by omega) (by omega) (fun i hi => by rw [hO.2.2.1] at hi; omega)
  have c2 := crun_i (x := x) (y := y) (z := z) (len := len) (lm := lm) (sz := sz) (row := row) (s := s) (a := a) (v := v) (ht := ht) sz 0 (fun _ => 0) (0, 0, cs, ce) (0, 0, 0, 0) ⟨rfl, rfl⟩
  have e0 : crun x y z len row lm sz s a v ht sz 0 (fun _ => 0) (0, 0, 0, 0) = eC x y z len row lm sz s a v ht := rfl
  rw [e0] at c2
  generalize crun x y z len (I 36) lm sz s a v ht sz 0 (I 37) (0, 0, cs, ce) = q at h1 h2 c1
  generalize crun x y z len row lm sz s a v ht sz 0 (fun _ => 0) (0, 0, cs, ce) = q1 at c1 c2
  refine ⟨hW_b V T' q.2, iup I 37 q.1, w, h1, ?_, ?_, fun h => ?_, fun b j hj => ?_, fun y hy => iup_na hy, fun hw => wt_eW_b (wt_i hw (by decide))⟩
  · show Value.int q.2.1 = _
    rw [c1.1, c2.2.1]
  · show Value.int (nI q.2.2.1) = _
    rw [c1.1, c2.2.2]
  · have hq : q.2.1 = 0 := by rw [c1.1, c2.2.1]; exact h
    rw [h2 hq, c1.2 hq, c2.1]
  · unfold hW_b
    rw [eW_o_b (hj.imp id (fun e => ⟨e.1, e.2.1, e.2.2.1, e.2.2.2.1⟩))]
    rcases hj with hj | hj
    · exact vup_na hj
    · by_cases c : b = 27
      · subst c; exact vup_nj hj.2.2.2.2
      · exact vup_na c
set_option maxRecDepth 100000 in
set_option maxHeartbeats 1600000 in
theorem k_mach_b {V : Nat → Nat → Value} {I : Nat → Nat → Int32} {L : Nat → Nat → Int64} {R : Nat → Nat → Option Nat} {tl : am_H} {N a it ln sz m0 lm len : Nat} {fi s v row : Nat → Int32} (hN : 100 < N) (hp : prA V I tl a it 2 ln sz m0 fi) (ha : a ≠ 27) (h4 : V 27 4 = .ref a) (h0 : V 27 0 = .int (nI lm)) (hlo : 10 ≤ lm) (hlm : lm ≤ 2000) (hs : sound 2 ln sz s v) (hi : itm 2 s v sz fi) (hm0 : sz * wdN 2 ≤ m0) (hm1 : m0 ≤ 1000) (h10 : V 27 10 = .int (nI len)) (hlen : len ≤ 8) (hrow : ∀ i, i < len → I 36 i = row i) : ∃ W, fm_124 N (.ref 27) (fx (rsC_b V 0 0) I L R ++ tl) = some (.inl (some (.int (s (eM lm len row v).2.2)), fx W I L R ++ tl)) ∧ W 27 1 = .int (eM lm len row v).1 ∧ W 27 2 = .int (nI (eM lm len row v).2.1) ∧ frC_b V W I I := by
  obtain ⟨z1, z6, hnx⟩ := so_2 hs
  have hi' : ∀ k, k < sz → fi (k * 5) = s k ∧ ∀ c, c < 4 → fi (k * 5 + (1 + c)) = pv_367 (v k) (nI c) := hi
  have hq : (mrun (nxM v) (clM row) lm len 0 1 0).2.2 < sz := mrun_q (fun q c h1 h2 => (hnx q c h1 h2).2) (fun k => (clM_at row k).1) len 0 1 0 (by omega)
  have k0 := c_124_b (V := V) (I := I) (L := L) (R := R) (tl := tl) (N := N) (nx := nxM v) (cl := clM row) hN hp ha h4 h0 (by omega) hlm z1 z6 hm0 hm1 h10 hlen (fun q c h1 h2 => ⟨((hi' q h1).2 c h2).trans (hnx q c h1 h2).1, (hnx q c h1 h2).2⟩) (fun k hk => ⟨(clM_at row k).1, by rw [hrow k hk]; exact (clM_at row k).2.1⟩) hq
  unfold eM
  rw [(hi' _ hq).1] at k0
  generalize mrun (nxM v) (clM row) lm len 0 1 0 = q at k0 ⊢
  exact ⟨_, k0, rfl, rfl, fun b j hj => rsC_o_b (hj.imp id (fun e => ⟨e.1, e.2.1⟩)), fun _ _ => rfl, wt_rsC_b⟩
set_option maxRecDepth 100000 in
set_option maxHeartbeats 1600000 in
theorem k_net_b {V : Nat → Nat → Value} {I : Nat → Nat → Int32} {L : Nat → Nat → Int64} {R : Nat → Nat → Option Nat} {tl : am_H} {N a it ln sz m0 lm len : Nat} {fi s v row : Nat → Int32} (hN : 100 < N) (hp : prA V I tl a it 3 ln sz m0 fi) (ha : a ≠ 27) (hit : it ≠ 37) (h4 : V 27 4 = .ref a) (h0 : V 27 0 = .int (nI lm)) (hlo : 10 ≤ lm) (hlm : lm ≤ 2000) (hs : sound 3 ln sz s v) (hi : itm 3 s v sz fi) (hm0 : sz * wdN 3 ≤ m0) (hm1 : m0 ≤ 1000) (h10 : V 27 10 = .int (nI len)) (hlen : len ≤ 8) (hrow : ∀ i, i < len → I 36 i = row i) : ∃ W J w, fm_126 N (.ref 27) (fx (rsC_b V 0 0) I L R ++ tl) = some (.inl (some (.int w), fx W J L R ++ tl)) ∧ W 27 1 = .int (eN lm len sz row s v).1 ∧ W 27 2 = .int (nI (eN lm len sz row s v).2.1) ∧ w = (eN lm len sz row s v).2.2 ((ln - 1) / 2) ∧ frC_b V W I J := by
  obtain ⟨l2, l8, z40, hk⟩ := so_3 hs
  have hi' : ∀ k, k < sz → fi (k * 2) = s k ∧ fi (k * 2 + 1) = v k := hi
  have k0 := c_126_b (V := V) (I := I) (L := L) (R := R) (tl := tl) (N := N) (s := clN s) (v := clN v) hN hp ha hit h4 h0 (by omega) hlm z40 hm0 hm1 l2 l8 (fun c hc => ⟨(hi' c hc).1.trans (hk c hc).1, (hi' c hc).2.trans (hk c hc).2.1, (hk c hc).2.2.1, by have := (hk c hc).2.2.2; omega⟩) h10 hlen
  have c1 := nrun_c (s := clN s) (v := clN v) (lm := lm) (ln := ln) (fun c hc => (hk c hc).2.2) sz 0 1 (fil (I 37) (I 36) len 8) (fil (fun _ => 0) row len 8) (by omega) (fun q hq => by
    unfold fil
    have q8 : q < 8 := by omega
    rw [if_pos q8, if_pos q8]
    by_cases c : q < len
    · rw [if_pos c, if_pos c, hrow q c]
    · rw [if_neg c, if_neg c])
  unfold eN
  unfold nOut at k0 ⊢
  generalize nrun (clN s) (clN v) lm sz 0 1 (fil (I 37) (I 36) len 8) = q at k0 c1
  generalize nrun (clN s) (clN v) lm sz 0 1 (fil (fun _ => 0) row len 8) = q' at c1 ⊢
  obtain ⟨c1, c2, c3⟩ := c1
  refine ⟨_, _, _, k0, ?_, ?_, c3 _ (by omega), fun b j hj => rsC_o_b (hj.imp id (fun e => ⟨e.1, e.2.1⟩)), fun y hy => iup_na hy, wt_rsC_b⟩
  · rw [← c1]; rfl
  · rw [← c2]; rfl
def pfV_b (V : Nat → Nat → Value) (x y z : Int32) (len : Nat) : Nat → Nat → Value := vup (vup (vup (vup (vup (vup (vup V 27 1 (.int 0)) 27 2 (.int 0)) 27 3 (.int 0)) 27 6 (.int x)) 27 7 (.int y)) 27 8 (.int z)) 27 10 (.int (nI len))
def pfI_b (I : Nat → Nat → Int32) (arr fr : Nat) : Nat → Nat → Int32 := iup I 36 (va_cpy (I arr) (I 36) (fr + 7) 0 8)
theorem pfV_o_b {V : Nat → Nat → Value} {x y z : Int32} {len a j : Nat} (h : a ≠ 27) : pfV_b V x y z len a j = V a j := by
  unfold pfV_b
  rw [vup_na h, vup_na h, vup_na h, vup_na h, vup_na h, vup_na h, vup_na h]
theorem wt_pfV_b {V : Nat → Nat → Value} {x y z : Int32} {len : Nat} (h : wt V) : wt (pfV_b V x y z len) := wt_i (wt_i (wt_i (wt_i (wt_i (wt_i (wt_i h (by decide)) (by decide)) (by decide)) (by decide)) (by decide)) (by decide)) (by decide)
/-- what a run leaves as it was -/
def frP_b (V W : Nat → Nat → Value) (I J : Nat → Nat → Int32) : Prop := (∀ a j, a ≠ 27 → W a j = V a j) ∧ W 27 0 = V 27 0 ∧ W 27 4 = V 27 4 ∧ (∀ y, y ≠ 36 → y ≠ 37 → J y = I y) ∧ (wt V → wt W)
/-- a program in the runner -/
def ldC_b (V : Nat → Nat → Value) (I : Nat → Nat → Int32) (tl : am_H) (a it kd ln sz m0 : Nat) (fi s v : Nat → Int32) (lm : Nat) : Prop := prA V I tl a it kd ln sz m0 fi ∧ (a ≠ 27 ∧ a ≠ 28 ∧ it ≠ 29 ∧ it ≠ 36 ∧ it ≠ 37) ∧ itm kd s v sz fi ∧ sound kd ln sz s v ∧ sz * wdN kd ≤ m0 ∧ m0 ≤ 1000 ∧ V 27 4 = .ref a ∧ V 27 0 = .int (nI lm) ∧ 10 ≤ lm ∧ lm ≤ 2000 ∧ (kd = 0 → V 28 7 = .int (nI sz) ∧ ∀ k, k < sz → I 29 k = nI (enL (lsT sz s) k))
theorem ldC_c_b {V W : Nat → Nat → Value} {I J : Nat → Nat → Int32} {tl : am_H} {a it kd ln sz m0 lm : Nat} {fi s v : Nat → Int32} (hf : frP_b V W I J) (h : ldC_b V I tl a it kd ln sz m0 fi s v lm) : ldC_b W J tl a it kd ln sz m0 fi s v lm := by
  obtain ⟨f1, f2, f3, f4, f5⟩ := hf
  obtain ⟨hp, ⟨a16, a17, i18, i25, i26⟩, hi, hs, hm0, hm1, h4, h0, hlo, hhi, hT⟩ := h
  refine ⟨prA_c (fun j => f1 a j a16) (f4 it i25 i26) hp, ⟨a16, a17, i18, i25, i26⟩, hi, hs, hm0, hm1, f3.trans h4, f2.trans h0, hlo, hhi, fun e => ?_⟩
  rw [f1 28 7 (by decide), f4 29 (by decide) (by decide)]
  exact hT e
set_option maxRecDepth 100000 in
set_option maxHeartbeats 1600000 in
theorem c_150_b {V : Nat → Nat → Value} {I : Nat → Nat → Int32} {L : Nat → Nat → Int64} {R : Nat → Nat → Option Nat} {tl : am_H} {N : Nat} {w f : Int32} (h : V 27 1 = .int f) : fg_116_150 N (.ref 27) w (fx V I L R ++ tl) = some (.inl (none, fx (vup V 27 3 (.int (if f = 0 then w else 0))) I L R ++ tl)) := by
  unfold fg_116_150
  refine ev_b (rdI h) ?_
  by_cases c : f = 0
  · rw [if_pos c]
    refine ev_f (fun e => e c) ?_
    unfold fg_116_164
    exact ev_b qp_27_3 rfl
  · rw [if_neg c]
    refine ev_t c ?_
    unfold fg_116_164
    exact ev_b qp_27_3 rfl
theorem k_fin_b {V : Nat → Nat → Value} {I : Nat → Nat → Int32} {L : Nat → Nat → Int64} {R : Nat → Nat → Option Nat} {tl : am_H} {N len arr fr : Nat} {x y z : Int32} {o : Int32 × Nat × Int32} {RUN : Option am_O} (h : ∃ W J w, RUN = some (.inl (some (.int w), fx W J L R ++ tl)) ∧ W 27 1 = .int o.1 ∧ W 27 2 = .int (nI o.2.1) ∧ (if o.1 = 0 then w else 0) = o.2.2 ∧ frC_b (pfV_b V x y z len) W (pfI_b I arr fr) J) : ∃ W J, am_cI true RUN (fun v h => fg_116_150 N (.ref 27) v h) = some (.inl (none, fx W J L R ++ tl)) ∧ W 27 1 = .int o.1 ∧ W 27 2 = .int (nI o.2.1) ∧ W 27 3 = .int o.2.2 ∧ frP_b V W I J := by
  obtain ⟨W, J, w, e, w1, w2, w3, f1, f2, f3⟩ := h
  refine ⟨_, _, ev_cI e (c_150_b w1), ?_, ?_, ?_, fun a j ha => ?_, ?_, ?_, fun y h1 h2 => ?_, fun hw => wt_i (f3 (wt_pfV_b hw)) (by decide)⟩
  · exact (vup_nj (by decide)).trans w1
  · exact (vup_nj (by decide)).trans w2
  · rw [← w3]; exact vup_eq
  · exact (vup_na ha).trans ((f1 a j (.inl ha)).trans (pfV_o_b ha))
  · exact (vup_nj (by decide)).trans ((f1 27 0 (.inr (by decide))).trans rfl)
  · exact (vup_nj (by decide)).trans ((f1 27 4 (.inr (by decide))).trans rfl)
  · exact (f2 y h2).trans (iup_na h1)
set_option maxRecDepth 100000 in
set_option maxHeartbeats 1600000 in
theorem k_perf_15_b {V : Nat → Nat → Value} {I : Nat → Nat → Int32} {L : Nat → Nat → Int64} {R : Nat → Nat → Option Nat} {tl : am_H} {N a it kd ln sz m0 lm len fr : Nat} {fi s v row : Nat → Int32} {x y z : Int32} {o : Int32 × Nat × Int32} (hN : 100 < N) (hw : wt V) (hl : ldC_b V I tl a it kd ln sz m0 fi s v lm) (ho : rP kd ln sz s v lm x y z len row o) (hfr : fr + 15 ≤ 360) (hx : I 15 fr = x) (hy : I 15 (fr + 1) = y) (hz : I 15 (fr + 2) = z) (hln : I 15 (fr + 6) = nI len) (hlen : len ≤ 8) (hrow : ∀ i, i < len → I 15 (fr + 7 + i) = row i) : ∃ W J, fm_116 N (.ref 27) (.ref 15) (nI fr) (fx V I L R ++ tl) = some (.inl (none, fx W J L R ++ tl)) ∧ W 27 1 = .int o.1 ∧ W 27 2 = .int (nI o.2.1) ∧ W 27 3 = .int o.2.2 ∧ frP_b V W I J := by
  obtain ⟨hp, ⟨a16, a17, i18, i25, i26⟩, hi, hs, hm0, hm1, h4, h0, hlo, hhi, hT⟩ := hl
  obtain ⟨o0, o1, o2, o3⟩ := ho
  have hk := hs.1
  have hsz := hs.2.1
  obtain ⟨cs, h11⟩ := hw.1 27 11 (by decide)
  obtain ⟨ce, h12⟩ := hw.1 27 12 (by decide)
  have p1 : prA (pfV_b V x y z len) (pfI_b I 15 fr) tl a it kd ln sz m0 fi := prA_c (fun j => pfV_o_b a16) (iup_na i25) hp
  have r1 : ∀ i, i < len → pfI_b I 15 fr 36 i = row i := fun i h => by
    rw [← hrow i h]
    show (if 0 ≤ i ∧ i < 0 + 8 then I 15 (fr + 7 + (i - 0)) else I 36 i) = _
    rw [if_pos ⟨Nat.zero_le _, by omega⟩, Nat.sub_zero]
  have eV : rsC_b (pfV_b V x y z len) 0 0 = pfV_b V x y z len := by
    unfold rsC_b
    rw [show vup (pfV_b V x y z len) 27 1 (.int 0) = pfV_b V x y z len from vup_self rfl, show vup (pfV_b V x y z len) 27 2 (.int (nI 0)) = pfV_b V x y z len from vup_self rfl]
  -- up to the choice of the kind
  have pre : ∀ {q : Option am_O}, ((am_vR (am_pG 1540 (.ref 27) (fx (pfV_b V x y z len) (pfI_b I 15 fr) L R ++ tl))).bind fun v38 => ((am_vI (am_pG 769 v38 (fx (pfV_b V x y z len) (pfI_b I 15 fr) L R ++ tl))).bind fun v40 => (if ¬ v40 = 0 then ((am_vR (am_pG 1540 (.ref 27) (fx (pfV_b V x y z len) (pfI_b I 15 fr) L R ++ tl))).bind fun v43 => ((am_vI (am_pG 769 v43 (fx (pfV_b V x y z len) (pfI_b I 15 fr) L R ++ tl))).bind fun v45 => (if ¬ v45 = 1 then ((am_vR (am_pG 1540 (.ref 27) (fx (pfV_b V x y z len) (pfI_b I 15 fr) L R ++ tl))).bind fun v48 => ((am_vI (am_pG 769 v48 (fx (pfV_b V x y z len) (pfI_b I 15 fr) L R ++ tl))).bind fun v50 => (if ¬ v50 = 2 then (if am_pOk 6 (.ref 27) (fx (pfV_b V x y z len) (pfI_b I 15 fr) L R ++ tl) then am_cI true (fm_126 N (.ref 27) (fx (pfV_b V x y z len) (pfI_b I 15 fr) L R ++ tl)) (fun v54 h55 => (fg_116_150 N (.ref 27) v54 h55)) else none) else (if am_pOk 6 (.ref 27) (fx (pfV_b V x y z len) (pfI_b I 15 fr) L R ++ tl) then am_cI true (fm_124 N (.ref 27) (fx (pfV_b V x y z len) (pfI_b I 15 fr) L R ++ tl)) (fun v58 h59 => (fg_116_150 N (.ref 27) v58 h59)) else none)))) else (if am_pOk 6 (.ref 27) (fx (pfV_b V x y z len) (pfI_b I 15 fr) L R ++ tl) then am_cI true (fm_123 N (.ref 27) (fx (pfV_b V x y z len) (pfI_b I 15 fr) L R ++ tl)) (fun v62 h63 => (fg_116_150 N (.ref 27) v62 h63)) else none)))) else (if am_pOk 6 (.ref 27) (fx (pfV_b V x y z len) (pfI_b I 15 fr) L R ++ tl) then am_cI true (fm_117 N (.ref 27) 0 1 (fx (pfV_b V x y z len) (pfI_b I 15 fr) L R ++ tl)) (fun v66 h67 => (fg_116_150 N (.ref 27) v66 h67)) else none)))) = q → fm_116 N (.ref 27) (.ref 15) (nI fr) (fx V I L R ++ tl) = q := fun hq => by
    unfold fm_116 fg_116_0
    refine ev_b qp_27_1 (ev_b qp_27_2 (ev_b qp_27_3 (ev_b (a := Value.ref a) (by show am_vR (some (V 27 4)) = _; rw [h4]; rfl) (ev_b (a := false) rfl (ev_f (by decide) (ev_f (nI_pos (by omega)) (ev_b (a := nI 360) rfl (ev_t (by rw [show nI fr + 15 = nI (fr + 15) from nI_add fr 15]; exact nI_le (by omega) (by omega)) ?_))))))))
    refine ev_b (a := x) ((qa_15 (by omega)).trans (by rw [hx])) (ev_b qp_27_6 (ev_b (a := y) (by rw [show nI fr + 1 = nI (fr + 1) from nI_add fr 1]; exact (qa_15 (by omega)).trans (by rw [hy])) (ev_b qp_27_7 (ev_b (a := z) (by rw [show nI fr + 2 = nI (fr + 2) from nI_add fr 2]; exact (qa_15 (by omega)).trans (by rw [hz])) (ev_b qp_27_8 (ev_b (a := nI len) (by rw [show nI fr + 6 = nI (fr + 6) from nI_add fr 6]; exact (qa_15 (by omega)).trans (by rw [hln])) ?_))))))
    refine ev_cI (v := nI len) ((pe_38 _ _ _).trans (by rw [min8 len (by omega)])) (ev_b qp_27_10 (ev_b (a := Value.ref 36) rfl (ev_b (a := fx (pfV_b V x y z len) (pfI_b I 15 fr) L R ++ tl) (by rw [show nI fr + 7 = nI (fr + 7) from nI_add fr 7]; exact ev_cpy (f := I 15) (g := I 36) (n0 := 360) (n1 := 8) (sp := fr + 7) (dp := 0) (n := 8) rfl rfl (by omega) (by omega) (by omega) (by omega) rfl) hq)))
  have rd4 : am_vR (am_pG 1540 (.ref 27) (fx (pfV_b V x y z len) (pfI_b I 15 fr) L R ++ tl)) = some (.ref a) := by
    show am_vR (some (V 27 4)) = _
    rw [h4]
    rfl
  have rdk : am_vI (am_pG 769 (.ref a) (fx (pfV_b V x y z len) (pfI_b I 15 fr) L R ++ tl)) = some (nI kd) := by
    obtain ⟨x1, x2, x3, x4, x5, x6, q1, q2⟩ := p1 (pfV_b V x y z len) (pfI_b I 15 fr) L R (fun _ => rfl) rfl
    exact ev_gI q1 rfl rfl
  rcases (by omega : kd = 0 ∨ kd = 1 ∨ kd = 2 ∨ kd = 3) with rfl | rfl | rfl | rfl
  · have hi' : ∀ k, k < sz → fi (k * 2) = s k ∧ fi (k * 2 + 1) = v k := hi
    obtain ⟨t1, t2⟩ := lsT_ok (hs.2.2.2.1 rfl)
    obtain ⟨t3, t4⟩ := hT rfl
    obtain ⟨W, e, w1, w2, w3⟩ := k_tree_b (V := pfV_b V x y z len) (I := pfI_b I 15 fr) (L := L) (R := R) (tl := tl) (N := N) (l := lsT sz s) (v := v) (row := row) (x := x) (y := y) (z := z) (len := len) (lm := lm) (fi := fi) (m0 := m0) (ln := ln) (a := a) (it := it) (cs := cs) (ce := ce) hN (by rw [lsT_len]; exact p1) a16 h4 h0 hhi (by rw [lsT_len]; exact hm0) hm1 (by rw [lsT_len]; exact hsz) t1 (fun k w r hd => by
      have hkk : k < sz := by
        have hq : k < (lsT sz s).length := by
          rcases Nat.lt_or_ge k (lsT sz s).length with h | h
          · exact h
          · rw [List.drop_eq_nil_of_le h] at hd; cases hd
        rw [lsT_len] at hq
        exact hq
      exact ⟨(hi' k hkk).1.trans (t2 k w r hd).1, (hi' k hkk).2⟩) rfl rfl rfl rfl hlen h11 h12 r1 (by rw [lsT_len]; exact t3) (fun k hk => t4 k (by rw [lsT_len] at hk; exact hk))
    rw [eV] at e
    obtain ⟨W', J', e', rest⟩ := k_fin_b (V := V) (I := I) (L := L) (R := R) (tl := tl) (N := N) (len := len) (arr := 15) (fr := fr) (x := x) (y := y) (z := z) (o := o) ⟨W, _, _, e, by rw [o0 rfl]; exact w1, by rw [o0 rfl]; exact w2, by rw [o0 rfl]; rfl, w3⟩
    exact ⟨W', J', pre (ev_b rd4 (ev_b rdk (ev_f (fun e => e rfl) (ev_i rfl e')))), rest⟩
  · have hi' : ∀ k, k < sz → fi (k * 2) = s k ∧ fi (k * 2 + 1) = v k := hi
    obtain ⟨ht, hO, eo⟩ := o1 rfl
    obtain ⟨-, hc⟩ := so_1 hs
    obtain ⟨W, J, w, e, w1, w2, w3, w4⟩ := k_code_b (V := pfV_b V x y z len) (I := pfI_b I 15 fr) (L := L) (R := R) (tl := tl) (N := N) (row := row) (a := clN v) (ht := ht) (cs := cs) (ce := ce) hN (show cdH_b (pfV_b V x y z len) (pfI_b I 15 fr) tl a it ln sz m0 fi (clN s) v x y z len lm from ⟨p1, a16, i26, h4, h0, hhi, hm0, hm1, rfl, rfl, rfl, rfl, hlen, fun k hk => ⟨(hi' k hk).1.trans (hc k hk).1, (hi' k hk).2⟩⟩) hO h11 h12 r1
    rw [eV] at e
    obtain ⟨W', J', e', rest⟩ := k_fin_b (V := V) (I := I) (L := L) (R := R) (tl := tl) (N := N) (len := len) (arr := 15) (fr := fr) (x := x) (y := y) (z := z) (o := o) ⟨W, J, w, e, by rw [eo]; exact w1, by rw [eo]; exact w2, by
      rw [eo]
      show (if (eC x y z len row lm sz (clN s) (clN v) v ht).2.1 = 0 then w else 0) = (if (eC x y z len row lm sz (clN s) (clN v) v ht).2.1 = 0 then (eC x y z len row lm sz (clN s) (clN v) v ht).1 0 else 0)
      by_cases c : (eC x y z len row lm sz (clN s) (clN v) v ht).2.1 = 0
      · rw [if_pos c, if_pos c, w3 c]
      · rw [if_neg c, if_neg c], w4⟩
    exact ⟨W', J', pre (ev_b rd4 (ev_b rdk (ev_t (by decide) (ev_b rd4 (ev_b rdk (ev_f (fun e => e rfl) (ev_i rfl e'))))))), rest⟩
  · obtain ⟨W, e, w1, w2, w3⟩ := k_mach_b (V := pfV_b V x y z len) (I := pfI_b I 15 fr) (L := L) (R := R) (tl := tl) (N := N) (row := row) (len := len) hN p1 a16 h4 h0 hlo hhi hs hi hm0 hm1 rfl hlen r1
    rw [eV] at e
    obtain ⟨W', J', e', rest⟩ := k_fin_b (V := V) (I := I) (L := L) (R := R) (tl := tl) (N := N) (len := len) (arr := 15) (fr := fr) (x := x) (y := y) (z := z) (o := o) ⟨W, _, _, e, by rw [o2 rfl]; exact w1, by rw [o2 rfl]; exact w2, by rw [o2 rfl]; rfl, w3⟩
    exact ⟨W', J', pre (ev_b rd4 (ev_b rdk (ev_t (by decide) (ev_b rd4 (ev_b rdk (ev_t (by decide) (ev_b rd4 (ev_b rdk (ev_f (fun e => e rfl) (ev_i rfl e')))))))))), rest⟩
  · obtain ⟨W, J, w, e, w1, w2, w3, w4⟩ := k_net_b (V := pfV_b V x y z len) (I := pfI_b I 15 fr) (L := L) (R := R) (tl := tl) (N := N) (row := row) (len := len) hN p1 a16 i26 h4 h0 hlo hhi hs hi hm0 hm1 rfl hlen r1
    rw [eV] at e
    obtain ⟨W', J', e', rest⟩ := k_fin_b (V := V) (I := I) (L := L) (R := R) (tl := tl) (N := N) (len := len) (arr := 15) (fr := fr) (x := x) (y := y) (z := z) (o := o) ⟨W, J, w, e, by rw [o3 rfl]; exact w1, by rw [o3 rfl]; exact w2, by rw [o3 rfl, w3]; rfl, w4⟩
    exact ⟨W', J', pre (ev_b rd4 (ev_b rdk (ev_t (by decide) (ev_b rd4 (ev_b rdk (ev_t (by decide) (ev_b rd4 (ev_b rdk (ev_t (by decide) (ev_i rfl e')))))))))), rest⟩
set_option maxRecDepth 100000 in
set_option maxHeartbeats 1600000 in
theorem k_perf_165_b {V : Nat → Nat → Value} {I : Nat → Nat → Int32} {L : Nat → Nat → Int64} {R : Nat → Nat → Option Nat} {tl : am_H} {N a it kd ln sz m0 lm len fr : Nat} {fi s v row : Nat → Int32} {x y z : Int32} {o : Int32 × Nat × Int32} (hN : 100 < N) (hw : wt V) (hl : ldC_b V I tl a it kd ln sz m0 fi s v lm) (ho : rP kd ln sz s v lm x y z len row o) (hfr : fr + 15 ≤ 15) (hx : I 165 fr = x) (hy : I 165 (fr + 1) = y) (hz : I 165 (fr + 2) = z) (hln : I 165 (fr + 6) = nI len) (hlen : len ≤ 8) (hrow : ∀ i, i < len → I 165 (fr + 7 + i) = row i) : ∃ W J, fm_116 N (.ref 27) (.ref 165) (nI fr) (fx V I L R ++ tl) = some (.inl (none, fx W J L R ++ tl)) ∧ W 27 1 = .int o.1 ∧ W 27 2 = .int (nI o.2.1) ∧ W 27 3 = .int o.2.2 ∧ frP_b V W I J := by
  obtain ⟨hp, ⟨a16, a17, i18, i25, i26⟩, hi, hs, hm0, hm1, h4, h0, hlo, hhi, hT⟩ := hl
  obtain ⟨o0, o1, o2, o3⟩ := ho
  have hk := hs.1
  have hsz := hs.2.1
  obtain ⟨cs, h11⟩ := hw.1 27 11 (by decide)
  obtain ⟨ce, h12⟩ := hw.1 27 12 (by decide)
  have p1 : prA (pfV_b V x y z len) (pfI_b I 165 fr) tl a it kd ln sz m0 fi := prA_c (fun j => pfV_o_b a16) (iup_na i25) hp
  have r1 : ∀ i, i < len → pfI_b I 165 fr 36 i = row i := fun i h => by
    rw [← hrow i h]
    show (if 0 ≤ i ∧ i < 0 + 8 then I 165 (fr + 7 + (i - 0)) else I 36 i) = _
    rw [if_pos ⟨Nat.zero_le _, by omega⟩, Nat.sub_zero]
  have eV : rsC_b (pfV_b V x y z len) 0 0 = pfV_b V x y z len := by
    unfold rsC_b
    rw [show vup (pfV_b V x y z len) 27 1 (.int 0) = pfV_b V x y z len from vup_self rfl, show vup (pfV_b V x y z len) 27 2 (.int (nI 0)) = pfV_b V x y z len from vup_self rfl]
  -- up to the choice of the kind
  have pre : ∀ {q : Option am_O}, ((am_vR (am_pG 1540 (.ref 27) (fx (pfV_b V x y z len) (pfI_b I 165 fr) L R ++ tl))).bind fun v38 => ((am_vI (am_pG 769 v38 (fx (pfV_b V x y z len) (pfI_b I 165 fr) L R ++ tl))).bind fun v40 => (if ¬ v40 = 0 then ((am_vR (am_pG 1540 (.ref 27) (fx (pfV_b V x y z len) (pfI_b I 165 fr) L R ++ tl))).bind fun v43 => ((am_vI (am_pG 769 v43 (fx (pfV_b V x y z len) (pfI_b I 165 fr) L R ++ tl))).bind fun v45 => (if ¬ v45 = 1 then ((am_vR (am_pG 1540 (.ref 27) (fx (pfV_b V x y z len) (pfI_b I 165 fr) L R ++ tl))).bind fun v48 => ((am_vI (am_pG 769 v48 (fx (pfV_b V x y z len) (pfI_b I 165 fr) L R ++ tl))).bind fun v50 => (if ¬ v50 = 2 then (if am_pOk 6 (.ref 27) (fx (pfV_b V x y z len) (pfI_b I 165 fr) L R ++ tl) then am_cI true (fm_126 N (.ref 27) (fx (pfV_b V x y z len) (pfI_b I 165 fr) L R ++ tl)) (fun v54 h55 => (fg_116_150 N (.ref 27) v54 h55)) else none) else (if am_pOk 6 (.ref 27) (fx (pfV_b V x y z len) (pfI_b I 165 fr) L R ++ tl) then am_cI true (fm_124 N (.ref 27) (fx (pfV_b V x y z len) (pfI_b I 165 fr) L R ++ tl)) (fun v58 h59 => (fg_116_150 N (.ref 27) v58 h59)) else none)))) else (if am_pOk 6 (.ref 27) (fx (pfV_b V x y z len) (pfI_b I 165 fr) L R ++ tl) then am_cI true (fm_123 N (.ref 27) (fx (pfV_b V x y z len) (pfI_b I 165 fr) L R ++ tl)) (fun v62 h63 => (fg_116_150 N (.ref 27) v62 h63)) else none)))) else (if am_pOk 6 (.ref 27) (fx (pfV_b V x y z len) (pfI_b I 165 fr) L R ++ tl) then am_cI true (fm_117 N (.ref 27) 0 1 (fx (pfV_b V x y z len) (pfI_b I 165 fr) L R ++ tl)) (fun v66 h67 => (fg_116_150 N (.ref 27) v66 h67)) else none)))) = q → fm_116 N (.ref 27) (.ref 165) (nI fr) (fx V I L R ++ tl) = q := fun hq => by
    unfold fm_116 fg_116_0
    refine ev_b qp_27_1 (ev_b qp_27_2 (ev_b qp_27_3 (ev_b (a := Value.ref a) (by show am_vR (some (V 27 4)) = _; rw [h4]; rfl) (ev_b (a := false) rfl (ev_f (by decide) (ev_f (nI_pos (by omega)) (ev_b (a := nI 15) rfl (ev_t (by rw [show nI fr + 15 = nI (fr + 15) from nI_add fr 15]; exact nI_le (by omega) (by omega)) ?_))))))))
    refine ev_b (a := x) ((qa_165 (by omega)).trans (by rw [hx])) (ev_b qp_27_6 (ev_b (a := y) (by rw [show nI fr + 1 = nI (fr + 1) from nI_add fr 1]; exact (qa_165 (by omega)).trans (by rw [hy])) (ev_b qp_27_7 (ev_b (a := z) (by rw [show nI fr + 2 = nI (fr + 2) from nI_add fr 2]; exact (qa_165 (by omega)).trans (by rw [hz])) (ev_b qp_27_8 (ev_b (a := nI len) (by rw [show nI fr + 6 = nI (fr + 6) from nI_add fr 6]; exact (qa_165 (by omega)).trans (by rw [hln])) ?_))))))
    refine ev_cI (v := nI len) ((pe_38 _ _ _).trans (by rw [min8 len (by omega)])) (ev_b qp_27_10 (ev_b (a := Value.ref 36) rfl (ev_b (a := fx (pfV_b V x y z len) (pfI_b I 165 fr) L R ++ tl) (by rw [show nI fr + 7 = nI (fr + 7) from nI_add fr 7]; exact ev_cpy (f := I 165) (g := I 36) (n0 := 15) (n1 := 8) (sp := fr + 7) (dp := 0) (n := 8) rfl rfl (by omega) (by omega) (by omega) (by omega) rfl) hq)))
  have rd4 : am_vR (am_pG 1540 (.ref 27) (fx (pfV_b V x y z len) (pfI_b I 165 fr) L R ++ tl)) = some (.ref a) := by
    show am_vR (some (V 27 4)) = _
    rw [h4]
    rfl
  have rdk : am_vI (am_pG 769 (.ref a) (fx (pfV_b V x y z len) (pfI_b I 165 fr) L R ++ tl)) = some (nI kd) := by
    obtain ⟨x1, x2, x3, x4, x5, x6, q1, q2⟩ := p1 (pfV_b V x y z len) (pfI_b I 165 fr) L R (fun _ => rfl) rfl
    exact ev_gI q1 rfl rfl
  rcases (by omega : kd = 0 ∨ kd = 1 ∨ kd = 2 ∨ kd = 3) with rfl | rfl | rfl | rfl
  · have hi' : ∀ k, k < sz → fi (k * 2) = s k ∧ fi (k * 2 + 1) = v k := hi
    obtain ⟨t1, t2⟩ := lsT_ok (hs.2.2.2.1 rfl)
    obtain ⟨t3, t4⟩ := hT rfl
    obtain ⟨W, e, w1, w2, w3⟩ := k_tree_b (V := pfV_b V x y z len) (I := pfI_b I 165 fr) (L := L) (R := R) (tl := tl) (N := N) (l := lsT sz s) (v := v) (row := row) (x := x) (y := y) (z := z) (len := len) (lm := lm) (fi := fi) (m0 := m0) (ln := ln) (a := a) (it := it) (cs := cs) (ce := ce) hN (by rw [lsT_len]; exact p1) a16 h4 h0 hhi (by rw [lsT_len]; exact hm0) hm1 (by rw [lsT_len]; exact hsz) t1 (fun k w r hd => by
      have hkk : k < sz := by
        have hq : k < (lsT sz s).length := by
          rcases Nat.lt_or_ge k (lsT sz s).length with h | h
          · exact h
          · rw [List.drop_eq_nil_of_le h] at hd; cases hd
        rw [lsT_len] at hq
        exact hq
      exact ⟨(hi' k hkk).1.trans (t2 k w r hd).1, (hi' k hkk).2⟩) rfl rfl rfl rfl hlen h11 h12 r1 (by rw [lsT_len]; exact t3) (fun k hk => t4 k (by rw [lsT_len] at hk; exact hk))
    rw [eV] at e
    obtain ⟨W', J', e', rest⟩ := k_fin_b (V := V) (I := I) (L := L) (R := R) (tl := tl) (N := N) (len := len) (arr := 165) (fr := fr) (x := x) (y := y) (z := z) (o := o) ⟨W, _, _, e, by rw [o0 rfl]; exact w1, by rw [o0 rfl]; exact w2, by rw [o0 rfl]; rfl, w3⟩
    exact ⟨W', J', pre (ev_b rd4 (ev_b rdk (ev_f (fun e => e rfl) (ev_i rfl e')))), rest⟩
  · have hi' : ∀ k, k < sz → fi (k * 2) = s k ∧ fi (k * 2 + 1) = v k := hi
    obtain ⟨ht, hO, eo⟩ := o1 rfl
    obtain ⟨-, hc⟩ := so_1 hs
    obtain ⟨W, J, w, e, w1, w2, w3, w4⟩ := k_code_b (V := pfV_b V x y z len) (I := pfI_b I 165 fr) (L := L) (R := R) (tl := tl) (N := N) (row := row) (a := clN v) (ht := ht) (cs := cs) (ce := ce) hN (show cdH_b (pfV_b V x y z len) (pfI_b I 165 fr) tl a it ln sz m0 fi (clN s) v x y z len lm from ⟨p1, a16, i26, h4, h0, hhi, hm0, hm1, rfl, rfl, rfl, rfl, hlen, fun k hk => ⟨(hi' k hk).1.trans (hc k hk).1, (hi' k hk).2⟩⟩) hO h11 h12 r1
    rw [eV] at e
    obtain ⟨W', J', e', rest⟩ := k_fin_b (V := V) (I := I) (L := L) (R := R) (tl := tl) (N := N) (len := len) (arr := 165) (fr := fr) (x := x) (y := y) (z := z) (o := o) ⟨W, J, w, e, by rw [eo]; exact w1, by rw [eo]; exact w2, by
      rw [eo]
      show (if (eC x y z len row lm sz (clN s) (clN v) v ht).2.1 = 0 then w else 0) = (if (eC x y z len row lm sz (clN s) (clN v) v ht).2.1 = 0 then (eC x y z len row lm sz (clN s) (clN v) v ht).1 0 else 0)
      by_cases c : (eC x y z len row lm sz (clN s) (clN v) v ht).2.1 = 0
      · rw [if_pos c, if_pos c, w3 c]
      · rw [if_neg c, if_neg c], w4⟩
    exact ⟨W', J', pre (ev_b rd4 (ev_b rdk (ev_t (by decide) (ev_b rd4 (ev_b rdk (ev_f (fun e => e rfl) (ev_i rfl e'))))))), rest⟩
  · obtain ⟨W, e, w1, w2, w3⟩ := k_mach_b (V := pfV_b V x y z len) (I := pfI_b I 165 fr) (L := L) (R := R) (tl := tl) (N := N) (row := row) (len := len) hN p1 a16 h4 h0 hlo hhi hs hi hm0 hm1 rfl hlen r1
    rw [eV] at e
    obtain ⟨W', J', e', rest⟩ := k_fin_b (V := V) (I := I) (L := L) (R := R) (tl := tl) (N := N) (len := len) (arr := 165) (fr := fr) (x := x) (y := y) (z := z) (o := o) ⟨W, _, _, e, by rw [o2 rfl]; exact w1, by rw [o2 rfl]; exact w2, by rw [o2 rfl]; rfl, w3⟩
    exact ⟨W', J', pre (ev_b rd4 (ev_b rdk (ev_t (by decide) (ev_b rd4 (ev_b rdk (ev_t (by decide) (ev_b rd4 (ev_b rdk (ev_f (fun e => e rfl) (ev_i rfl e')))))))))), rest⟩
  · obtain ⟨W, J, w, e, w1, w2, w3, w4⟩ := k_net_b (V := pfV_b V x y z len) (I := pfI_b I 165 fr) (L := L) (R := R) (tl := tl) (N := N) (row := row) (len := len) hN p1 a16 i26 h4 h0 hlo hhi hs hi hm0 hm1 rfl hlen r1
    rw [eV] at e
    obtain ⟨W', J', e', rest⟩ := k_fin_b (V := V) (I := I) (L := L) (R := R) (tl := tl) (N := N) (len := len) (arr := 165) (fr := fr) (x := x) (y := y) (z := z) (o := o) ⟨W, J, w, e, by rw [o3 rfl]; exact w1, by rw [o3 rfl]; exact w2, by rw [o3 rfl, w3]; rfl, w4⟩
    exact ⟨W', J', pre (ev_b rd4 (ev_b rdk (ev_t (by decide) (ev_b rd4 (ev_b rdk (ev_t (by decide) (ev_b rd4 (ev_b rdk (ev_t (by decide) (ev_i rfl e')))))))))), rest⟩
theorem vr16_b : ∀ j, j ∈ vRel 27 → j = 0 := by decide
theorem vr17_b : ∀ j, j ∈ vRel 28 → False := by decide
theorem frP_k_b {V W : Nat → Nat → Value} {I J : Nat → Nat → Int32} (h : frP_b V W I J) : keep V W I J := ⟨fun a j hj => by
    by_cases c : a = 27
    · subst c
      have e : j = 0 := vr16_b j hj
      subst e
      exact h.2.1
    · exact h.1 a j c, fun y hy => h.2.2.2.1 y (fun e => by subst e; revert hy; decide) (fun e => by subst e; revert hy; decide), h.2.2.2.2⟩
theorem frP_t_b {V W X : Nat → Nat → Value} {I J K : Nat → Nat → Int32} (h1 : frP_b V W I J) (h2 : frP_b W X J K) : frP_b V X I K := ⟨fun a j h => (h2.1 a j h).trans (h1.1 a j h), h2.2.1.trans h1.2.1, h2.2.2.1.trans h1.2.2.1, fun y a b => (h2.2.2.2.1 y a b).trans (h1.2.2.2.1 y a b), fun w => h2.2.2.2.2 (h1.2.2.2.2 w)⟩
theorem frP_r_b {V : Nat → Nat → Value} {I : Nat → Nat → Int32} : frP_b V V I I := ⟨fun _ _ _ => rfl, rfl, rfl, fun _ _ _ => rfl, id⟩
def frL_b (V W : Nat → Nat → Value) (I J : Nat → Nat → Int32) : Prop := (∀ a j, ¬ (a = 27 ∧ j = 4) → ¬ (a = 28 ∧ j = 7) → W a j = V a j) ∧ (∀ y, y ≠ 29 → J y = I y) ∧ (wt V → wt W)
theorem frL_k_b {V W : Nat → Nat → Value} {I J : Nat → Nat → Int32} (h : frL_b V W I J) : keep V W I J := ⟨fun a j hj => h.1 a j (fun e => by
    obtain ⟨e1, e2⟩ := e
    subst e1
    have := vr16_b j hj
    omega) (fun e => by
    obtain ⟨e1, e2⟩ := e
    subst e1
    exact vr17_b j hj), fun y hy => h.2.1 y (fun e => by subst e; revert hy; decide), h.2.2⟩
set_option maxRecDepth 100000 in
set_option maxHeartbeats 1600000 in
theorem c_115_b {V : Nat → Nat → Value} {I : Nat → Nat → Int32} {L : Nat → Nat → Int64} {R : Nat → Nat → Option Nat} {tl : am_H} {N a it kd ln sz m0 lm : Nat} {fi s v : Nat → Int32} (hN : 100 < N) (hp : prA V I tl a it kd ln sz m0 fi) (hne : a ≠ 27 ∧ a ≠ 28 ∧ it ≠ 29 ∧ it ≠ 36 ∧ it ≠ 37) (hi : itm kd s v sz fi) (hs : sound kd ln sz s v) (hm0 : sz * wdN kd ≤ m0) (hm1 : m0 ≤ 1000) (h0 : V 27 0 = .int (nI lm)) (hlo : 10 ≤ lm) (hhi : lm ≤ 2000) : ∃ W J, fm_115 N (.ref 27) (.ref a) (fx V I L R ++ tl) = some (.inl (none, fx W J L R ++ tl)) ∧ ldC_b W J tl a it kd ln sz m0 fi s v lm ∧ frL_b V W I J := by
  obtain ⟨a16, a17, i18, i25, i26⟩ := hne
  have hk := hs.1
  have p1 : prA (vup V 27 4 (.ref a)) I tl a it kd ln sz m0 fi := prA_c (fun j => vup_na a16) rfl hp
  obtain ⟨x1, x2, x3, x4, x5, x6, q1, q2⟩ := p1 (vup V 27 4 (.ref a)) I L R (fun _ => rfl) rfl
  by_cases c : kd = 0
  · subst c
    have hi' : ∀ k, k < sz → fi (k * 2) = s k ∧ fi (k * 2 + 1) = v k := hi
    obtain ⟨t1, t2⟩ := lsT_ok (hs.2.2.2.1 rfl)
    obtain ⟨g', hg, e⟩ := c_77_28 (V := vup V 27 4 (.ref a)) (I := I) (L := L) (R := R) (tl := tl) (N := N) (l := lsT sz s) (f := fi) (kd := 0) (ln := ln) (m0 := m0) (a := a) (it := it) hN (by decide) (by rw [lsT_len]; exact p1) a17 i18 (by rw [lsT_len]; exact hm0) hm1 (by rw [lsT_len]; exact hs.2.1) (fun k x r hd => ⟨(hi' k (by have := drop_lt hd; rw [lsT_len] at this; exact this)).1.trans (t2 k x r hd).1, (form_at t1 hd).1⟩) (okF_F _ _ t1)
    rw [lsT_len] at e hg
    refine ⟨_, _, ?_, ⟨prA_c (fun j => (vup_na a17).trans (vup_na a16)) (iup_na i18) hp, ⟨a16, a17, i18, i25, i26⟩, hi, hs, hm0, hm1, (vup_na (by decide)).trans vup_eq, ((vup_na (by decide)).trans (vup_nj (by decide))).trans h0, hlo, hhi, fun _ => ⟨vup_eq, fun k hk => hg k hk⟩⟩, fun b j h1 h2 => ?_, fun y hy => iup_na hy, fun hw => wt_i (wt_r hw (by decide) (by decide)) (by decide)⟩
    · unfold fm_115 fg_115_0
      exact ev_b qp_27_4 (ev_b (ev_gI q1 rfl rfl) (ev_f (fun e => e rfl) (ev_b (a := Value.ref 28) rfl (ev_i rfl (ev_cV e rfl)))))
    · by_cases c7 : b = 28
      · subst c7
        rw [vup_nj (fun e => h2 ⟨rfl, e⟩), vup_na (by decide)]
      · rw [vup_na c7]
        by_cases c6 : b = 27
        · subst c6
          exact vup_nj (fun e => h1 ⟨rfl, e⟩)
        · exact vup_na c6
  · refine ⟨_, _, ?_, ⟨p1, ⟨a16, a17, i18, i25, i26⟩, hi, hs, hm0, hm1, vup_eq, (vup_nj (by decide)).trans h0, hlo, hhi, fun e => absurd e c⟩, fun b j h1 h2 => ?_, fun y hy => rfl, fun hw => wt_r hw (by decide) (by decide)⟩
    · unfold fm_115 fg_115_0
      exact ev_b qp_27_4 (ev_b (ev_gI q1 rfl rfl) (ev_t (nI_ne0 (by omega) (by omega)) rfl))
    · by_cases c6 : b = 27
      · subst c6
        exact vup_nj (fun e => h1 ⟨rfl, e⟩)
      · exact vup_na c6
set_option maxRecDepth 100000 in
set_option maxHeartbeats 1600000 in
theorem c_pf_b {V : Nat → Nat → Value} {I : Nat → Nat → Int32} {L : Nat → Nat → Int64} {R : Nat → Nat → Option Nat} {tl : am_H} {N a it kd ln sz m0 lm k : Nat} {fi s v : Nat → Int32} {o : Int32 × Nat × Int32} (hN : 100 < N) (hw : wt V) (hl : ldC_b V I tl a it kd ln sz m0 fi s v lm) (hk : k < 24) (hc : cOk I k) (ho : cO kd ln sz s v lm I k o) : ∃ W J, fm_116 N (.ref 27) (.ref 15) (nI k * 15) (fx V I L R ++ tl) = some (.inl (none, fx W J L R ++ tl)) ∧ W 27 1 = .int o.1 ∧ W 27 2 = .int (nI o.2.1) ∧ W 27 3 = .int o.2.2 ∧ frP_b V W I J := by
  obtain ⟨len, l8, e0, ho⟩ := ho
  obtain ⟨c1, c2, c3, c4, -, -, ⟨len', l8', e1, e2⟩, c8⟩ := hc
  have el : len' = len := (nI_eq (by omega) (by omega)).mp (e1.symm.trans e0)
  subst el
  rw [show nI k * 15 = nI (k * 15) from (nI_mul k 15).symm, show k * 15 = 15 * k from Nat.mul_comm _ _]
  exact k_perf_15_b hN hw hl ho (by omega) c1 c2 c3 e2 l8 (fun i hi => by rw [Nat.add_assoc]; exact c8 i (by omega))
